theorem mw_418 : Cond.fieldLink RX4 21 "LeastPending$Holdings" "when" "[I" ∈ gw := gw_t1 195 rfl rfl
theorem mw_419 : Cond.fieldLink RX5 15 "LeastPending$Log" "next" "I" ∈ gw := gw_t2 37 rfl rfl
theorem mw_420 : Cond.fieldLink RX5 18 "LeastPending$Log" "cells" "[I" ∈ gw := gw_t2 38 rfl rfl
theorem mw_421 : Cond.fieldLink RX5 9 "LeastPending$Log" "stored" "I" ∈ gw := gw_t2 35 rfl rfl
theorem mw_422 : Cond.methodLink RX5 26 Lib.Math.min.name ∈ gw := gw_t4 228 rfl rfl
theorem mw_423 : Cond.fieldLink RX6 9 "LeastPending$Mail" "total" "I" ∈ gw := gw_t1 147 rfl rfl
theorem mw_424 : Cond.fieldLink RX6 15 "LeastPending$Mail" "sender" "[I" ∈ gw := gw_t1 151 rfl rfl
theorem mw_425 : Cond.fieldLink RX6 19 "LeastPending$Mail" "to" "[I" ∈ gw := gw_t1 153 rfl rfl
theorem mw_426 : Cond.fieldLink RX6 22 "LeastPending$Mail" "cost" "[I" ∈ gw := gw_t1 157 rfl rfl
theorem mw_427 : Cond.fieldLink RX6 25 "LeastPending$Mail" "begun" "[I" ∈ gw := gw_t1 160 rfl rfl
theorem mw_428 : Cond.fieldLink RX6 28 "LeastPending$Mail" "putters" "[I" ∈ gw := gw_t1 162 rfl rfl
theorem mw_429 : Cond.fieldLink RX7 62 "LeastPending$Net" "channels" "LLeastPending$Channels;" ∈ gw := gw_t2 81 rfl rfl
theorem mw_430 : Cond.code yX1_hasOpen cX1_hasOpen 4 (some .boolean) ∈ gw := gw_t5 174 rfl rfl
theorem mw_431 : Cond.instanceMethod yX1_hasOpen ∈ gw := gw_t5 172 rfl rfl
theorem mw_432 : Cond.methodLink RX7 139 yX1_hasOpen ∈ gw := gw_t5 171 rfl rfl
theorem mw_433 : Cond.selects RX1 yX1_hasOpen yX1_hasOpen ∈ gw := gw_t5 173 rfl rfl
theorem mw_434 : Cond.fieldLink RX7 69 "LeastPending$Net" "mail" "LLeastPending$Mail;" ∈ gw := gw_t2 84 rfl rfl
theorem mw_435 : Cond.fieldLink RX7 145 "LeastPending$Mail" "total" "I" ∈ gw := gw_t1 149 rfl rfl
theorem mw_436 : Cond.fieldLink RX7 76 "LeastPending$Net" "holdings" "LLeastPending$Holdings;" ∈ gw := gw_t2 87 rfl rfl
theorem mw_437 : Cond.fieldLink RX7 148 "LeastPending$Holdings" "kind" "[I" ∈ gw := gw_t1 187 rfl rfl
theorem mw_438 : Cond.fieldLink RX7 97 "LeastPending$Net" "log" "LLeastPending$Log;" ∈ gw := gw_t2 97 rfl rfl
theorem mw_439 : Cond.code yX5_add cX5_add 6 none ∈ gw := gw_t4 227 rfl rfl
theorem mw_440 : Cond.initialized RX5 ∈ gw := gw_t1 12 rfl rfl
theorem mw_441 : Cond.instanceMethod yX5_add ∈ gw := gw_t4 225 rfl rfl
theorem mw_442 : Cond.methodLink RX7 155 yX5_add ∈ gw := gw_t4 224 rfl rfl
theorem mw_443 : Cond.selects RX5 yX5_add yX5_add ∈ gw := gw_t4 226 rfl rfl
theorem mw_444 : Cond.fieldLink RX7 53 "LeastPending$Net" "clock" "[I" ∈ gw := gw_t2 77 rfl rfl
theorem mw_445 : Cond.fieldLink RX7 237 "LeastPending$Holdings" "stamp" "[I" ∈ gw := gw_t1 191 rfl rfl
theorem mw_446 : Cond.code yX11_stampOf cX11_stampOf 2 (some .int) ∈ gw := gw_t5 65 rfl rfl
theorem mw_447 : Cond.static yX11_stampOf ∈ gw := gw_t5 64 rfl rfl
theorem mw_448 : Cond.fieldLink RX7 83 "LeastPending$Net" "gathers" "LLeastPending$Gathers;" ∈ gw := gw_t2 91 rfl rfl
theorem mw_449 : Cond.methodLink RX7 275 yX3_isOn ∈ gw := gw_t5 86 rfl rfl
theorem mw_450 : Cond.fieldLink RX7 234 "LeastPending$Holdings" "leader" "[I" ∈ gw := gw_t1 194 rfl rfl
theorem mw_451 : Cond.fieldLink RX7 278 "LeastPending$Mail" "to" "[I" ∈ gw := gw_t1 156 rfl rfl
theorem mw_452 : Cond.methodLink RX7 281 yX7_noticedNodes ∈ gw := gw_t5 87 rfl rfl
theorem mw_453 : Cond.fieldLink RX7 287 "LeastPending$Gathers" "heard" "[I" ∈ gw := gw_t1 229 rfl rfl
theorem mw_454 : Cond.code yX4_leastPending cX4_leastPending 6 (some .int) ∈ gw := gw_t5 110 rfl rfl
theorem mw_455 : Cond.instanceMethod yX4_leastPending ∈ gw := gw_t5 108 rfl rfl
theorem mw_456 : Cond.methodLink RX7 290 yX4_leastPending ∈ gw := gw_t5 107 rfl rfl
theorem mw_457 : Cond.selects RX4 yX4_leastPending yX4_leastPending ∈ gw := gw_t5 109 rfl rfl
theorem mw_458 : Cond.code yX4_handOut cX4_handOut 5 none ∈ gw := gw_t5 119 rfl rfl
theorem mw_459 : Cond.instanceMethod yX4_handOut ∈ gw := gw_t5 117 rfl rfl
theorem mw_460 : Cond.methodLink RX7 293 yX4_handOut ∈ gw := gw_t5 116 rfl rfl
theorem mw_461 : Cond.selects RX4 yX4_handOut yX4_handOut ∈ gw := gw_t5 118 rfl rfl
theorem mw_462 : Cond.code yX1_dropAll cX1_dropAll 3 none ∈ gw := gw_t5 127 rfl rfl
theorem mw_463 : Cond.instanceMethod yX1_dropAll ∈ gw := gw_t5 125 rfl rfl
theorem mw_464 : Cond.methodLink RX7 296 yX1_dropAll ∈ gw := gw_t5 124 rfl rfl
theorem mw_465 : Cond.selects RX1 yX1_dropAll yX1_dropAll ∈ gw := gw_t5 126 rfl rfl
theorem mw_466 : Cond.constant RX7 314 1103515245 ∈ gw := gw_t5 20 rfl rfl
theorem mw_467 : Cond.fieldLink RX7 30 "LeastPending$Net" "seed" "I" ∈ gw := gw_t2 66 rfl rfl
theorem hdX1_dropAll : yX1_dropAll.cls = RX1 ∧ yX1_dropAll.cls ≠ "java/lang/invoke/MethodHandle" ∧ yX1_dropAll.cls ≠ "java/lang/invoke/VarHandle" ∧ (parseMethodDescriptor yX1_dropAll.desc).map (fun d => d.parameters.length) = some 1 := by decide +kernel
theorem hdX1_hasOpen : yX1_hasOpen.cls = RX1 ∧ yX1_hasOpen.cls ≠ "java/lang/invoke/MethodHandle" ∧ yX1_hasOpen.cls ≠ "java/lang/invoke/VarHandle" ∧ (parseMethodDescriptor yX1_hasOpen.desc).map (fun d => d.parameters.length) = some 1 := by decide +kernel
theorem hdX4_handOut : yX4_handOut.cls = RX4 ∧ yX4_handOut.cls ≠ "java/lang/invoke/MethodHandle" ∧ yX4_handOut.cls ≠ "java/lang/invoke/VarHandle" ∧ (parseMethodDescriptor yX4_handOut.desc).map (fun d => d.parameters.length) = some 3 := by decide +kernel
theorem hdX4_leastPending : yX4_leastPending.cls = RX4 ∧ yX4_leastPending.cls ≠ "java/lang/invoke/MethodHandle" ∧ yX4_leastPending.cls ≠ "java/lang/invoke/VarHandle" ∧ (parseMethodDescriptor yX4_leastPending.desc).map (fun d => d.parameters.length) = some 2 := by decide +kernel
theorem hdX5_add : yX5_add.cls = RX5 ∧ yX5_add.cls ≠ "java/lang/invoke/MethodHandle" ∧ yX5_add.cls ≠ "java/lang/invoke/VarHandle" ∧ (parseMethodDescriptor yX5_add.desc).map (fun d => d.parameters.length) = some 4 := by decide +kernel
theorem hdX11_stampOf : yX11_stampOf.cls ≠ "java/lang/invoke/MethodHandle" ∧ yX11_stampOf.cls ≠ "java/lang/invoke/VarHandle" ∧ (parseMethodDescriptor yX11_stampOf.desc).map (fun d => d.parameters.length) = some 2 := by decide +kernel
theorem dX4_handOut_0 : decode cX4_handOut 0 = .ok (.iload_n 1, 1) := by decide +kernel
theorem dX4_handOut_1 : decode cX4_handOut 1 = .ok (.iload_n 2, 1) := by decide +kernel
theorem dX4_handOut_2 : decode cX4_handOut 2 = .ok (.invokestatic 34, 3) := by decide +kernel
theorem dX4_handOut_5 : decode cX4_handOut 5 = .ok (.istore 4, 2) := by decide +kernel
theorem dX4_handOut_7 : decode cX4_handOut 7 = .ok (.aload_n 0, 1) := by decide +kernel
theorem dX4_handOut_8 : decode cX4_handOut 8 = .ok (.getfield 9, 3) := by decide +kernel
theorem dX4_handOut_11 : decode cX4_handOut 11 = .ok (.iload 4, 2) := by decide +kernel
theorem dX4_handOut_13 : decode cX4_handOut 13 = .ok (.iconst 3, 1) := by decide +kernel
theorem dX4_handOut_14 : decode cX4_handOut 14 = .ok (.iastore, 1) := by decide +kernel
theorem dX4_handOut_15 : decode cX4_handOut 15 = .ok (.aload_n 0, 1) := by decide +kernel
theorem dX4_handOut_16 : decode cX4_handOut 16 = .ok (.getfield 21, 3) := by decide +kernel
theorem dX4_handOut_19 : decode cX4_handOut 19 = .ok (.iload 4, 2) := by decide +kernel
theorem dX4_handOut_21 : decode cX4_handOut 21 = .ok (.iload_n 3, 1) := by decide +kernel
theorem dX4_handOut_22 : decode cX4_handOut 22 = .ok (.iastore, 1) := by decide +kernel
theorem dX4_handOut_23 : decode cX4_handOut 23 = .ok (.aload_n 0, 1) := by decide +kernel
theorem dX4_handOut_24 : decode cX4_handOut 24 = .ok (.getfield 24, 3) := by decide +kernel
theorem dX4_handOut_27 : decode cX4_handOut 27 = .ok (.iload_n 1, 1) := by decide +kernel
theorem dX4_handOut_28 : decode cX4_handOut 28 = .ok (.aload_n 0, 1) := by decide +kernel
theorem dX4_handOut_29 : decode cX4_handOut 29 = .ok (.getfield 27, 3) := by decide +kernel
theorem dX4_handOut_32 : decode cX4_handOut 32 = .ok (.iload_n 1, 1) := by decide +kernel
theorem dX4_handOut_33 : decode cX4_handOut 33 = .ok (.iaload, 1) := by decide +kernel
theorem dX4_handOut_34 : decode cX4_handOut 34 = .ok (.invokestatic 34, 3) := by decide +kernel
theorem dX4_handOut_37 : decode cX4_handOut 37 = .ok (.iload_n 2, 1) := by decide +kernel
theorem dX4_handOut_38 : decode cX4_handOut 38 = .ok (.iastore, 1) := by decide +kernel
theorem dX4_handOut_39 : decode cX4_handOut 39 = .ok (.aload_n 0, 1) := by decide +kernel
theorem dX4_handOut_40 : decode cX4_handOut 40 = .ok (.getfield 27, 3) := by decide +kernel
theorem dX4_handOut_43 : decode cX4_handOut 43 = .ok (.iload_n 1, 1) := by decide +kernel
theorem dX4_handOut_44 : decode cX4_handOut 44 = .ok (.dup2, 1) := by decide +kernel
theorem dX4_handOut_45 : decode cX4_handOut 45 = .ok (.iaload, 1) := by decide +kernel
theorem dX4_handOut_46 : decode cX4_handOut 46 = .ok (.iconst 1, 1) := by decide +kernel
theorem dX4_handOut_47 : decode cX4_handOut 47 = .ok (.iadd, 1) := by decide +kernel
theorem dX4_handOut_48 : decode cX4_handOut 48 = .ok (.iastore, 1) := by decide +kernel
theorem dX4_handOut_49 : decode cX4_handOut 49 = .ok (.return_, 1) := by decide +kernel
theorem dX5_add_0 : decode cX5_add 0 = .ok (.aload_n 0, 1) := by decide +kernel
theorem dX5_add_1 : decode cX5_add 1 = .ok (.getfield 15, 3) := by decide +kernel
theorem dX5_add_4 : decode cX5_add 4 = .ok (.iconst 4, 1) := by decide +kernel
theorem dX5_add_5 : decode cX5_add 5 = .ok (.imul, 1) := by decide +kernel
theorem dX5_add_6 : decode cX5_add 6 = .ok (.istore 5, 2) := by decide +kernel
theorem dX5_add_8 : decode cX5_add 8 = .ok (.aload_n 0, 1) := by decide +kernel
theorem dX5_add_9 : decode cX5_add 9 = .ok (.getfield 18, 3) := by decide +kernel
theorem dX5_add_12 : decode cX5_add 12 = .ok (.iload 5, 2) := by decide +kernel
theorem dX5_add_14 : decode cX5_add 14 = .ok (.iload_n 1, 1) := by decide +kernel
theorem dX5_add_15 : decode cX5_add 15 = .ok (.iastore, 1) := by decide +kernel
theorem dX5_add_16 : decode cX5_add 16 = .ok (.aload_n 0, 1) := by decide +kernel
theorem dX5_add_17 : decode cX5_add 17 = .ok (.getfield 18, 3) := by decide +kernel
theorem dX5_add_20 : decode cX5_add 20 = .ok (.iload 5, 2) := by decide +kernel
theorem dX5_add_22 : decode cX5_add 22 = .ok (.iconst 1, 1) := by decide +kernel
theorem dX5_add_23 : decode cX5_add 23 = .ok (.iadd, 1) := by decide +kernel
theorem dX5_add_24 : decode cX5_add 24 = .ok (.iload_n 2, 1) := by decide +kernel
theorem dX5_add_25 : decode cX5_add 25 = .ok (.iastore, 1) := by decide +kernel
theorem dX5_add_26 : decode cX5_add 26 = .ok (.aload_n 0, 1) := by decide +kernel
theorem dX5_add_27 : decode cX5_add 27 = .ok (.getfield 18, 3) := by decide +kernel
theorem dX5_add_30 : decode cX5_add 30 = .ok (.iload 5, 2) := by decide +kernel
theorem dX5_add_32 : decode cX5_add 32 = .ok (.iconst 2, 1) := by decide +kernel
theorem dX5_add_33 : decode cX5_add 33 = .ok (.iadd, 1) := by decide +kernel
theorem dX5_add_34 : decode cX5_add 34 = .ok (.iload_n 3, 1) := by decide +kernel
theorem dX5_add_35 : decode cX5_add 35 = .ok (.iastore, 1) := by decide +kernel
theorem dX5_add_36 : decode cX5_add 36 = .ok (.aload_n 0, 1) := by decide +kernel
theorem dX5_add_37 : decode cX5_add 37 = .ok (.getfield 18, 3) := by decide +kernel
theorem dX5_add_40 : decode cX5_add 40 = .ok (.iload 5, 2) := by decide +kernel
theorem dX5_add_42 : decode cX5_add 42 = .ok (.iconst 3, 1) := by decide +kernel
theorem dX5_add_43 : decode cX5_add 43 = .ok (.iadd, 1) := by decide +kernel
theorem dX5_add_44 : decode cX5_add 44 = .ok (.iload 4, 2) := by decide +kernel
theorem dX5_add_46 : decode cX5_add 46 = .ok (.iastore, 1) := by decide +kernel
theorem dX5_add_47 : decode cX5_add 47 = .ok (.aload_n 0, 1) := by decide +kernel
theorem dX5_add_48 : decode cX5_add 48 = .ok (.aload_n 0, 1) := by decide +kernel
theorem dX5_add_49 : decode cX5_add 49 = .ok (.getfield 15, 3) := by decide +kernel
theorem dX5_add_52 : decode cX5_add 52 = .ok (.iconst 1, 1) := by decide +kernel
theorem dX5_add_53 : decode cX5_add 53 = .ok (.iadd, 1) := by decide +kernel
theorem dX5_add_54 : decode cX5_add 54 = .ok (.bipush 60, 2) := by decide +kernel
theorem dX5_add_56 : decode cX5_add 56 = .ok (.irem, 1) := by decide +kernel
theorem dX5_add_57 : decode cX5_add 57 = .ok (.putfield 15, 3) := by decide +kernel
theorem dX5_add_60 : decode cX5_add 60 = .ok (.aload_n 0, 1) := by decide +kernel
theorem dX5_add_61 : decode cX5_add 61 = .ok (.aload_n 0, 1) := by decide +kernel
theorem dX5_add_62 : decode cX5_add 62 = .ok (.getfield 9, 3) := by decide +kernel
theorem dX5_add_65 : decode cX5_add 65 = .ok (.iconst 1, 1) := by decide +kernel
theorem dX5_add_66 : decode cX5_add 66 = .ok (.iadd, 1) := by decide +kernel
theorem dX5_add_67 : decode cX5_add 67 = .ok (.bipush 60, 2) := by decide +kernel
theorem dX5_add_69 : decode cX5_add 69 = .ok (.invokestatic 26, 3) := by decide +kernel
theorem dX5_add_72 : decode cX5_add 72 = .ok (.putfield 9, 3) := by decide +kernel
theorem dX5_add_75 : decode cX5_add 75 = .ok (.return_, 1) := by decide +kernel
theorem dX5_cell_0 : decode cX5_cell 0 = .ok (.aload_n 0, 1) := by decide +kernel
theorem dX5_cell_1 : decode cX5_cell 1 = .ok (.getfield 15, 3) := by decide +kernel
theorem dX5_cell_4 : decode cX5_cell 4 = .ok (.iconst 1, 1) := by decide +kernel
theorem dX5_cell_5 : decode cX5_cell 5 = .ok (.isub, 1) := by decide +kernel
theorem dX5_cell_6 : decode cX5_cell 6 = .ok (.iload_n 1, 1) := by decide +kernel
theorem dX5_cell_7 : decode cX5_cell 7 = .ok (.isub, 1) := by decide +kernel
theorem dX5_cell_8 : decode cX5_cell 8 = .ok (.bipush 120, 2) := by decide +kernel
theorem dX5_cell_10 : decode cX5_cell 10 = .ok (.iadd, 1) := by decide +kernel
theorem dX5_cell_11 : decode cX5_cell 11 = .ok (.bipush 60, 2) := by decide +kernel
theorem dX5_cell_13 : decode cX5_cell 13 = .ok (.irem, 1) := by decide +kernel
theorem dX5_cell_14 : decode cX5_cell 14 = .ok (.istore_n 3, 1) := by decide +kernel
theorem dX5_cell_15 : decode cX5_cell 15 = .ok (.aload_n 0, 1) := by decide +kernel
theorem dX5_cell_16 : decode cX5_cell 16 = .ok (.getfield 18, 3) := by decide +kernel
theorem dX5_cell_19 : decode cX5_cell 19 = .ok (.iload_n 3, 1) := by decide +kernel
theorem dX5_cell_20 : decode cX5_cell 20 = .ok (.iconst 4, 1) := by decide +kernel
theorem dX5_cell_21 : decode cX5_cell 21 = .ok (.imul, 1) := by decide +kernel
theorem dX5_cell_22 : decode cX5_cell 22 = .ok (.iload_n 2, 1) := by decide +kernel
theorem dX5_cell_23 : decode cX5_cell 23 = .ok (.iadd, 1) := by decide +kernel
theorem dX5_cell_24 : decode cX5_cell 24 = .ok (.iaload, 1) := by decide +kernel
theorem dX5_cell_25 : decode cX5_cell 25 = .ok (.ireturn, 1) := by decide +kernel
theorem dX6_add_0 : decode cX6_add 0 = .ok (.aload_n 0, 1) := by decide +kernel
theorem dX6_add_1 : decode cX6_add 1 = .ok (.getfield 9, 3) := by decide +kernel
theorem dX6_add_4 : decode cX6_add 4 = .ok (.istore 4, 2) := by decide +kernel
theorem dX6_add_6 : decode cX6_add 6 = .ok (.aload_n 0, 1) := by decide +kernel
theorem dX6_add_7 : decode cX6_add 7 = .ok (.getfield 15, 3) := by decide +kernel
theorem dX6_add_10 : decode cX6_add 10 = .ok (.iload 4, 2) := by decide +kernel
theorem dX6_add_12 : decode cX6_add 12 = .ok (.iload_n 1, 1) := by decide +kernel
theorem dX6_add_13 : decode cX6_add 13 = .ok (.iastore, 1) := by decide +kernel
theorem dX6_add_14 : decode cX6_add 14 = .ok (.aload_n 0, 1) := by decide +kernel
theorem dX6_add_15 : decode cX6_add 15 = .ok (.getfield 19, 3) := by decide +kernel
theorem dX6_add_18 : decode cX6_add 18 = .ok (.iload 4, 2) := by decide +kernel
theorem dX6_add_20 : decode cX6_add 20 = .ok (.iload_n 2, 1) := by decide +kernel
theorem dX6_add_21 : decode cX6_add 21 = .ok (.iastore, 1) := by decide +kernel
theorem dX6_add_22 : decode cX6_add 22 = .ok (.aload_n 0, 1) := by decide +kernel
theorem dX6_add_23 : decode cX6_add 23 = .ok (.getfield 22, 3) := by decide +kernel
theorem dX6_add_26 : decode cX6_add 26 = .ok (.iload 4, 2) := by decide +kernel
theorem dX6_add_28 : decode cX6_add 28 = .ok (.iconst 0, 1) := by decide +kernel
theorem dX6_add_29 : decode cX6_add 29 = .ok (.iastore, 1) := by decide +kernel
theorem dX6_add_30 : decode cX6_add 30 = .ok (.aload_n 0, 1) := by decide +kernel
theorem dX6_add_31 : decode cX6_add 31 = .ok (.getfield 25, 3) := by decide +kernel
theorem dX6_add_34 : decode cX6_add 34 = .ok (.iload 4, 2) := by decide +kernel
theorem dX6_add_36 : decode cX6_add 36 = .ok (.iload_n 3, 1) := by decide +kernel
theorem dX6_add_37 : decode cX6_add 37 = .ok (.iastore, 1) := by decide +kernel
theorem dX6_add_38 : decode cX6_add 38 = .ok (.aload_n 0, 1) := by decide +kernel
theorem dX6_add_39 : decode cX6_add 39 = .ok (.getfield 28, 3) := by decide +kernel
theorem dX6_add_42 : decode cX6_add 42 = .ok (.iload 4, 2) := by decide +kernel
theorem dX6_add_44 : decode cX6_add 44 = .ok (.iconst 0, 1) := by decide +kernel
theorem dX6_add_45 : decode cX6_add 45 = .ok (.iastore, 1) := by decide +kernel
theorem dX6_add_46 : decode cX6_add 46 = .ok (.aload_n 0, 1) := by decide +kernel
theorem dX6_add_47 : decode cX6_add 47 = .ok (.dup, 1) := by decide +kernel
theorem dX6_add_48 : decode cX6_add 48 = .ok (.getfield 9, 3) := by decide +kernel
theorem dX6_add_51 : decode cX6_add 51 = .ok (.iconst 1, 1) := by decide +kernel
theorem dX6_add_52 : decode cX6_add 52 = .ok (.iadd, 1) := by decide +kernel
theorem dX6_add_53 : decode cX6_add 53 = .ok (.putfield 9, 3) := by decide +kernel
theorem dX6_add_56 : decode cX6_add 56 = .ok (.iload 4, 2) := by decide +kernel
theorem dX6_add_58 : decode cX6_add 58 = .ok (.ireturn, 1) := by decide +kernel
theorem dX6_addressedTo_0 : decode cX6_addressedTo 0 = .ok (.iconst 0, 1) := by decide +kernel
theorem dX6_addressedTo_1 : decode cX6_addressedTo 1 = .ok (.istore_n 2, 1) := by decide +kernel
theorem dX6_addressedTo_2 : decode cX6_addressedTo 2 = .ok (.iconst 0, 1) := by decide +kernel
theorem dX6_addressedTo_3 : decode cX6_addressedTo 3 = .ok (.istore_n 3, 1) := by decide +kernel
theorem dX6_addressedTo_4 : decode cX6_addressedTo 4 = .ok (.iload_n 3, 1) := by decide +kernel
theorem dX6_addressedTo_5 : decode cX6_addressedTo 5 = .ok (.aload_n 0, 1) := by decide +kernel
theorem dX6_addressedTo_6 : decode cX6_addressedTo 6 = .ok (.getfield 9, 3) := by decide +kernel
theorem dX6_addressedTo_9 : decode cX6_addressedTo 9 = .ok (.if_icmp .ge 28, 3) := by decide +kernel
theorem dX6_addressedTo_12 : decode cX6_addressedTo 12 = .ok (.aload_n 0, 1) := by decide +kernel
theorem dX6_addressedTo_13 : decode cX6_addressedTo 13 = .ok (.getfield 19, 3) := by decide +kernel
theorem dX6_addressedTo_16 : decode cX6_addressedTo 16 = .ok (.iload_n 3, 1) := by decide +kernel
theorem dX6_addressedTo_17 : decode cX6_addressedTo 17 = .ok (.iaload, 1) := by decide +kernel
theorem dX6_addressedTo_18 : decode cX6_addressedTo 18 = .ok (.iload_n 1, 1) := by decide +kernel
theorem dX6_addressedTo_19 : decode cX6_addressedTo 19 = .ok (.invokestatic 35, 3) := by decide +kernel
theorem dX6_addressedTo_22 : decode cX6_addressedTo 22 = .ok (.ifCond .eq 9, 3) := by decide +kernel
theorem dX6_addressedTo_25 : decode cX6_addressedTo 25 = .ok (.iload_n 2, 1) := by decide +kernel
theorem dX6_addressedTo_26 : decode cX6_addressedTo 26 = .ok (.iconst 1, 1) := by decide +kernel
theorem dX6_addressedTo_27 : decode cX6_addressedTo 27 = .ok (.iload_n 3, 1) := by decide +kernel
theorem dX6_addressedTo_28 : decode cX6_addressedTo 28 = .ok (.ishl, 1) := by decide +kernel
theorem dX6_addressedTo_29 : decode cX6_addressedTo 29 = .ok (.ior, 1) := by decide +kernel
theorem dX6_addressedTo_30 : decode cX6_addressedTo 30 = .ok (.istore_n 2, 1) := by decide +kernel
theorem dX6_addressedTo_31 : decode cX6_addressedTo 31 = .ok (.iinc 3 1, 3) := by decide +kernel
theorem dX6_addressedTo_34 : decode cX6_addressedTo 34 = .ok (.goto (-30), 3) := by decide +kernel
theorem dX6_addressedTo_37 : decode cX6_addressedTo 37 = .ok (.iload_n 2, 1) := by decide +kernel
theorem dX6_addressedTo_38 : decode cX6_addressedTo 38 = .ok (.ireturn, 1) := by decide +kernel
theorem dX7_canStir_0 : decode cX7_canStir 0 = .ok (.iconst 0, 1) := by decide +kernel
theorem dX7_canStir_1 : decode cX7_canStir 1 = .ok (.istore_n 1, 1) := by decide +kernel
theorem dX7_canStir_2 : decode cX7_canStir 2 = .ok (.iload_n 1, 1) := by decide +kernel
theorem dX7_canStir_3 : decode cX7_canStir 3 = .ok (.aload_n 0, 1) := by decide +kernel
theorem dX7_canStir_4 : decode cX7_canStir 4 = .ok (.getfield 9, 3) := by decide +kernel
theorem dX7_canStir_7 : decode cX7_canStir 7 = .ok (.if_icmp .ge 41, 3) := by decide +kernel
theorem dX7_canStir_10 : decode cX7_canStir 10 = .ok (.aload_n 0, 1) := by decide +kernel
theorem dX7_canStir_11 : decode cX7_canStir 11 = .ok (.iload_n 1, 1) := by decide +kernel
theorem dX7_canStir_12 : decode cX7_canStir 12 = .ok (.invokevirtual 135, 3) := by decide +kernel
theorem dX7_canStir_15 : decode cX7_canStir 15 = .ok (.ifCond .eq 17, 3) := by decide +kernel
theorem dX7_canStir_18 : decode cX7_canStir 18 = .ok (.aload_n 0, 1) := by decide +kernel
theorem dX7_canStir_19 : decode cX7_canStir 19 = .ok (.getfield 62, 3) := by decide +kernel
theorem dX7_canStir_22 : decode cX7_canStir 22 = .ok (.iload_n 1, 1) := by decide +kernel
theorem dX7_canStir_23 : decode cX7_canStir 23 = .ok (.invokevirtual 139, 3) := by decide +kernel
theorem dX7_canStir_26 : decode cX7_canStir 26 = .ok (.ifCond .eq 16, 3) := by decide +kernel
theorem dX7_canStir_29 : decode cX7_canStir 29 = .ok (.goto 11, 3) := by decide +kernel
theorem dX7_canStir_32 : decode cX7_canStir 32 = .ok (.aload_n 0, 1) := by decide +kernel
theorem dX7_canStir_33 : decode cX7_canStir 33 = .ok (.iload_n 1, 1) := by decide +kernel
theorem dX7_canStir_34 : decode cX7_canStir 34 = .ok (.invokevirtual 142, 3) := by decide +kernel
theorem dX7_canStir_37 : decode cX7_canStir 37 = .ok (.ifCond .ne 5, 3) := by decide +kernel
theorem dX7_canStir_40 : decode cX7_canStir 40 = .ok (.iconst 1, 1) := by decide +kernel
theorem dX7_canStir_41 : decode cX7_canStir 41 = .ok (.ireturn, 1) := by decide +kernel
theorem dX7_canStir_42 : decode cX7_canStir 42 = .ok (.iinc 1 1, 3) := by decide +kernel
theorem dX7_canStir_45 : decode cX7_canStir 45 = .ok (.goto (-43), 3) := by decide +kernel
theorem dX7_canStir_48 : decode cX7_canStir 48 = .ok (.iconst 0, 1) := by decide +kernel
theorem dX7_canStir_49 : decode cX7_canStir 49 = .ok (.ireturn, 1) := by decide +kernel
theorem dX7_messagesAt_0 : decode cX7_messagesAt 0 = .ok (.iconst 0, 1) := by decide +kernel
theorem dX7_messagesAt_1 : decode cX7_messagesAt 1 = .ok (.istore_n 3, 1) := by decide +kernel
theorem dX7_messagesAt_2 : decode cX7_messagesAt 2 = .ok (.iconst 0, 1) := by decide +kernel
theorem dX7_messagesAt_3 : decode cX7_messagesAt 3 = .ok (.istore 4, 2) := by decide +kernel
theorem dX7_messagesAt_5 : decode cX7_messagesAt 5 = .ok (.iload 4, 2) := by decide +kernel
theorem dX7_messagesAt_7 : decode cX7_messagesAt 7 = .ok (.aload_n 0, 1) := by decide +kernel
theorem dX7_messagesAt_8 : decode cX7_messagesAt 8 = .ok (.getfield 69, 3) := by decide +kernel
theorem dX7_messagesAt_11 : decode cX7_messagesAt 11 = .ok (.getfield 145, 3) := by decide +kernel
theorem dX7_messagesAt_14 : decode cX7_messagesAt 14 = .ok (.if_icmp .ge 34, 3) := by decide +kernel
theorem dX7_messagesAt_17 : decode cX7_messagesAt 17 = .ok (.aload_n 0, 1) := by decide +kernel
theorem dX7_messagesAt_18 : decode cX7_messagesAt 18 = .ok (.getfield 76, 3) := by decide +kernel
theorem dX7_messagesAt_21 : decode cX7_messagesAt 21 = .ok (.getfield 148, 3) := by decide +kernel
theorem dX7_messagesAt_24 : decode cX7_messagesAt 24 = .ok (.iload_n 1, 1) := by decide +kernel
theorem dX7_messagesAt_25 : decode cX7_messagesAt 25 = .ok (.iload 4, 2) := by decide +kernel
theorem dX7_messagesAt_27 : decode cX7_messagesAt 27 = .ok (.invokestatic 151, 3) := by decide +kernel
theorem dX7_messagesAt_30 : decode cX7_messagesAt 30 = .ok (.iaload, 1) := by decide +kernel
theorem dX7_messagesAt_31 : decode cX7_messagesAt 31 = .ok (.iload_n 2, 1) := by decide +kernel
theorem dX7_messagesAt_32 : decode cX7_messagesAt 32 = .ok (.if_icmp .ne 10, 3) := by decide +kernel
theorem dX7_messagesAt_35 : decode cX7_messagesAt 35 = .ok (.iload_n 3, 1) := by decide +kernel
theorem dX7_messagesAt_36 : decode cX7_messagesAt 36 = .ok (.iconst 1, 1) := by decide +kernel
theorem dX7_messagesAt_37 : decode cX7_messagesAt 37 = .ok (.iload 4, 2) := by decide +kernel
theorem dX7_messagesAt_39 : decode cX7_messagesAt 39 = .ok (.ishl, 1) := by decide +kernel
theorem dX7_messagesAt_40 : decode cX7_messagesAt 40 = .ok (.ior, 1) := by decide +kernel
theorem dX7_messagesAt_41 : decode cX7_messagesAt 41 = .ok (.istore_n 3, 1) := by decide +kernel
theorem dX7_messagesAt_42 : decode cX7_messagesAt 42 = .ok (.iinc 4 1, 3) := by decide +kernel
theorem dX7_messagesAt_45 : decode cX7_messagesAt 45 = .ok (.goto (-40), 3) := by decide +kernel
theorem dX7_messagesAt_48 : decode cX7_messagesAt 48 = .ok (.iload_n 3, 1) := by decide +kernel
theorem dX7_messagesAt_49 : decode cX7_messagesAt 49 = .ok (.ireturn, 1) := by decide +kernel
theorem dX7_goDown_0 : decode cX7_goDown 0 = .ok (.aload_n 0, 1) := by decide +kernel
theorem dX7_goDown_1 : decode cX7_goDown 1 = .ok (.iload_n 1, 1) := by decide +kernel
theorem dX7_goDown_2 : decode cX7_goDown 2 = .ok (.invokevirtual 135, 3) := by decide +kernel
theorem dX7_goDown_5 : decode cX7_goDown 5 = .ok (.ifCond .eq 27, 3) := by decide +kernel
theorem dX7_goDown_8 : decode cX7_goDown 8 = .ok (.aload_n 0, 1) := by decide +kernel
theorem dX7_goDown_9 : decode cX7_goDown 9 = .ok (.getfield 44, 3) := by decide +kernel
theorem dX7_goDown_12 : decode cX7_goDown 12 = .ok (.iload_n 1, 1) := by decide +kernel
theorem dX7_goDown_13 : decode cX7_goDown 13 = .ok (.aload_n 0, 1) := by decide +kernel
theorem dX7_goDown_14 : decode cX7_goDown 14 = .ok (.getfield 21, 3) := by decide +kernel
theorem dX7_goDown_17 : decode cX7_goDown 17 = .ok (.iastore, 1) := by decide +kernel
theorem dX7_goDown_18 : decode cX7_goDown 18 = .ok (.aload_n 0, 1) := by decide +kernel
theorem dX7_goDown_19 : decode cX7_goDown 19 = .ok (.getfield 97, 3) := by decide +kernel
theorem dX7_goDown_22 : decode cX7_goDown 22 = .ok (.aload_n 0, 1) := by decide +kernel
theorem dX7_goDown_23 : decode cX7_goDown 23 = .ok (.getfield 21, 3) := by decide +kernel
theorem dX7_goDown_26 : decode cX7_goDown 26 = .ok (.iload_n 1, 1) := by decide +kernel
theorem dX7_goDown_27 : decode cX7_goDown 27 = .ok (.iconst 2, 1) := by decide +kernel
theorem dX7_goDown_28 : decode cX7_goDown 28 = .ok (.iconst (-1), 1) := by decide +kernel
theorem dX7_goDown_29 : decode cX7_goDown 29 = .ok (.invokevirtual 155, 3) := by decide +kernel
theorem dX7_goDown_32 : decode cX7_goDown 32 = .ok (.return_, 1) := by decide +kernel
theorem dX7_canStart_0 : decode cX7_canStart 0 = .ok (.aload_n 0, 1) := by decide +kernel
theorem dX7_canStart_1 : decode cX7_canStart 1 = .ok (.iload_n 1, 1) := by decide +kernel
theorem dX7_canStart_2 : decode cX7_canStart 2 = .ok (.invokevirtual 135, 3) := by decide +kernel
theorem dX7_canStart_5 : decode cX7_canStart 5 = .ok (.ifCond .eq 19, 3) := by decide +kernel
theorem dX7_canStart_8 : decode cX7_canStart 8 = .ok (.aload_n 0, 1) := by decide +kernel
theorem dX7_canStart_9 : decode cX7_canStart 9 = .ok (.getfield 69, 3) := by decide +kernel
theorem dX7_canStart_12 : decode cX7_canStart 12 = .ok (.getfield 145, 3) := by decide +kernel
theorem dX7_canStart_15 : decode cX7_canStart 15 = .ok (.bipush 20, 2) := by decide +kernel
theorem dX7_canStart_17 : decode cX7_canStart 17 = .ok (.if_icmp .ge 7, 3) := by decide +kernel
theorem dX7_canStart_20 : decode cX7_canStart 20 = .ok (.iconst 1, 1) := by decide +kernel
theorem dX7_canStart_21 : decode cX7_canStart 21 = .ok (.goto 4, 3) := by decide +kernel
theorem dX7_canStart_24 : decode cX7_canStart 24 = .ok (.iconst 0, 1) := by decide +kernel
theorem dX7_canStart_25 : decode cX7_canStart 25 = .ok (.ireturn, 1) := by decide +kernel
theorem dX7_propose_0 : decode cX7_propose 0 = .ok (.aload_n 0, 1) := by decide +kernel
theorem dX7_propose_1 : decode cX7_propose 1 = .ok (.getfield 53, 3) := by decide +kernel
theorem dX7_propose_4 : decode cX7_propose 4 = .ok (.iload_n 1, 1) := by decide +kernel
theorem dX7_propose_5 : decode cX7_propose 5 = .ok (.dup2, 1) := by decide +kernel
theorem dX7_propose_6 : decode cX7_propose 6 = .ok (.iaload, 1) := by decide +kernel
theorem dX7_propose_7 : decode cX7_propose 7 = .ok (.iconst 1, 1) := by decide +kernel
theorem dX7_propose_8 : decode cX7_propose 8 = .ok (.iadd, 1) := by decide +kernel
theorem dX7_propose_9 : decode cX7_propose 9 = .ok (.iastore, 1) := by decide +kernel
theorem dX7_propose_10 : decode cX7_propose 10 = .ok (.aload_n 0, 1) := by decide +kernel
theorem dX7_propose_11 : decode cX7_propose 11 = .ok (.getfield 76, 3) := by decide +kernel
theorem dX7_propose_14 : decode cX7_propose 14 = .ok (.getfield 148, 3) := by decide +kernel
theorem dX7_propose_17 : decode cX7_propose 17 = .ok (.iload_n 2, 1) := by decide +kernel
theorem dX7_propose_18 : decode cX7_propose 18 = .ok (.iconst 1, 1) := by decide +kernel
theorem dX7_propose_19 : decode cX7_propose 19 = .ok (.iastore, 1) := by decide +kernel
theorem dX7_propose_20 : decode cX7_propose 20 = .ok (.aload_n 0, 1) := by decide +kernel
theorem dX7_propose_21 : decode cX7_propose 21 = .ok (.getfield 76, 3) := by decide +kernel
theorem dX7_propose_24 : decode cX7_propose 24 = .ok (.getfield 237, 3) := by decide +kernel
theorem dX7_propose_27 : decode cX7_propose 27 = .ok (.iload_n 2, 1) := by decide +kernel
theorem dX7_propose_28 : decode cX7_propose 28 = .ok (.aload_n 0, 1) := by decide +kernel
theorem dX7_propose_29 : decode cX7_propose 29 = .ok (.getfield 53, 3) := by decide +kernel
theorem dX7_propose_32 : decode cX7_propose 32 = .ok (.iload_n 1, 1) := by decide +kernel
theorem dX7_propose_33 : decode cX7_propose 33 = .ok (.iaload, 1) := by decide +kernel
theorem dX7_propose_34 : decode cX7_propose 34 = .ok (.iload_n 1, 1) := by decide +kernel
theorem dX7_propose_35 : decode cX7_propose 35 = .ok (.invokestatic 259, 3) := by decide +kernel
theorem dX7_propose_38 : decode cX7_propose 38 = .ok (.iastore, 1) := by decide +kernel
theorem dX7_propose_39 : decode cX7_propose 39 = .ok (.return_, 1) := by decide +kernel
theorem dX7_mustTakeOver_0 : decode cX7_mustTakeOver 0 = .ok (.iload_n 1, 1) := by decide +kernel
theorem dX7_mustTakeOver_1 : decode cX7_mustTakeOver 1 = .ok (.iload_n 2, 1) := by decide +kernel
theorem dX7_mustTakeOver_2 : decode cX7_mustTakeOver 2 = .ok (.invokestatic 151, 3) := by decide +kernel
theorem dX7_mustTakeOver_5 : decode cX7_mustTakeOver 5 = .ok (.istore_n 3, 1) := by decide +kernel
theorem dX7_mustTakeOver_6 : decode cX7_mustTakeOver 6 = .ok (.aload_n 0, 1) := by decide +kernel
theorem dX7_mustTakeOver_7 : decode cX7_mustTakeOver 7 = .ok (.getfield 76, 3) := by decide +kernel
theorem dX7_mustTakeOver_10 : decode cX7_mustTakeOver 10 = .ok (.getfield 148, 3) := by decide +kernel
theorem dX7_mustTakeOver_13 : decode cX7_mustTakeOver 13 = .ok (.iload_n 3, 1) := by decide +kernel
theorem dX7_mustTakeOver_14 : decode cX7_mustTakeOver 14 = .ok (.iaload, 1) := by decide +kernel
theorem dX7_mustTakeOver_15 : decode cX7_mustTakeOver 15 = .ok (.ifCond .eq 30, 3) := by decide +kernel
theorem dX7_mustTakeOver_18 : decode cX7_mustTakeOver 18 = .ok (.aload_n 0, 1) := by decide +kernel
theorem dX7_mustTakeOver_19 : decode cX7_mustTakeOver 19 = .ok (.getfield 83, 3) := by decide +kernel
theorem dX7_mustTakeOver_22 : decode cX7_mustTakeOver 22 = .ok (.iload_n 3, 1) := by decide +kernel
theorem dX7_mustTakeOver_23 : decode cX7_mustTakeOver 23 = .ok (.invokevirtual 275, 3) := by decide +kernel
theorem dX7_mustTakeOver_26 : decode cX7_mustTakeOver 26 = .ok (.ifCond .ne 19, 3) := by decide +kernel
theorem dX7_mustTakeOver_29 : decode cX7_mustTakeOver 29 = .ok (.aload_n 0, 1) := by decide +kernel
theorem dX7_mustTakeOver_30 : decode cX7_mustTakeOver 30 = .ok (.aload_n 0, 1) := by decide +kernel
theorem dX7_mustTakeOver_31 : decode cX7_mustTakeOver 31 = .ok (.getfield 76, 3) := by decide +kernel
theorem dX7_mustTakeOver_34 : decode cX7_mustTakeOver 34 = .ok (.getfield 234, 3) := by decide +kernel
theorem dX7_mustTakeOver_37 : decode cX7_mustTakeOver 37 = .ok (.iload_n 3, 1) := by decide +kernel
theorem dX7_mustTakeOver_38 : decode cX7_mustTakeOver 38 = .ok (.iaload, 1) := by decide +kernel
theorem dX7_mustTakeOver_39 : decode cX7_mustTakeOver 39 = .ok (.invokevirtual 142, 3) := by decide +kernel
theorem dX7_mustTakeOver_42 : decode cX7_mustTakeOver 42 = .ok (.ifCond .ne 5, 3) := by decide +kernel
theorem dX7_mustTakeOver_45 : decode cX7_mustTakeOver 45 = .ok (.iconst 0, 1) := by decide +kernel
theorem dX7_mustTakeOver_46 : decode cX7_mustTakeOver 46 = .ok (.ireturn, 1) := by decide +kernel
theorem dX7_mustTakeOver_47 : decode cX7_mustTakeOver 47 = .ok (.aload_n 0, 1) := by decide +kernel
theorem dX7_mustTakeOver_48 : decode cX7_mustTakeOver 48 = .ok (.getfield 69, 3) := by decide +kernel
theorem dX7_mustTakeOver_51 : decode cX7_mustTakeOver 51 = .ok (.getfield 278, 3) := by decide +kernel
theorem dX7_mustTakeOver_54 : decode cX7_mustTakeOver 54 = .ok (.iload_n 2, 1) := by decide +kernel
theorem dX7_mustTakeOver_55 : decode cX7_mustTakeOver 55 = .ok (.iaload, 1) := by decide +kernel
theorem dX7_mustTakeOver_56 : decode cX7_mustTakeOver 56 = .ok (.aload_n 0, 1) := by decide +kernel
theorem dX7_mustTakeOver_57 : decode cX7_mustTakeOver 57 = .ok (.invokevirtual 281, 3) := by decide +kernel
theorem dX7_mustTakeOver_60 : decode cX7_mustTakeOver 60 = .ok (.iconst (-1), 1) := by decide +kernel
theorem dX7_mustTakeOver_61 : decode cX7_mustTakeOver 61 = .ok (.ixor, 1) := by decide +kernel
theorem dX7_mustTakeOver_62 : decode cX7_mustTakeOver 62 = .ok (.iand, 1) := by decide +kernel
theorem dX7_mustTakeOver_63 : decode cX7_mustTakeOver 63 = .ok (.istore 4, 2) := by decide +kernel
theorem dX7_mustTakeOver_65 : decode cX7_mustTakeOver 65 = .ok (.iconst 1, 1) := by decide +kernel
theorem dX7_mustTakeOver_66 : decode cX7_mustTakeOver 66 = .ok (.iload_n 1, 1) := by decide +kernel
theorem dX7_mustTakeOver_67 : decode cX7_mustTakeOver 67 = .ok (.ishl, 1) := by decide +kernel
theorem dX7_mustTakeOver_68 : decode cX7_mustTakeOver 68 = .ok (.iconst 1, 1) := by decide +kernel
theorem dX7_mustTakeOver_69 : decode cX7_mustTakeOver 69 = .ok (.isub, 1) := by decide +kernel
theorem dX7_mustTakeOver_70 : decode cX7_mustTakeOver 70 = .ok (.istore 5, 2) := by decide +kernel
theorem dX7_mustTakeOver_72 : decode cX7_mustTakeOver 72 = .ok (.iload 4, 2) := by decide +kernel
theorem dX7_mustTakeOver_74 : decode cX7_mustTakeOver 74 = .ok (.iload_n 1, 1) := by decide +kernel
theorem dX7_mustTakeOver_75 : decode cX7_mustTakeOver 75 = .ok (.invokestatic 284, 3) := by decide +kernel
theorem dX7_mustTakeOver_78 : decode cX7_mustTakeOver 78 = .ok (.ifCond .eq 15, 3) := by decide +kernel
theorem dX7_mustTakeOver_81 : decode cX7_mustTakeOver 81 = .ok (.iload 4, 2) := by decide +kernel
theorem dX7_mustTakeOver_83 : decode cX7_mustTakeOver 83 = .ok (.iload 5, 2) := by decide +kernel
theorem dX7_mustTakeOver_85 : decode cX7_mustTakeOver 85 = .ok (.iand, 1) := by decide +kernel
theorem dX7_mustTakeOver_86 : decode cX7_mustTakeOver 86 = .ok (.ifCond .ne 7, 3) := by decide +kernel
theorem dX7_mustTakeOver_89 : decode cX7_mustTakeOver 89 = .ok (.iconst 1, 1) := by decide +kernel
theorem dX7_mustTakeOver_90 : decode cX7_mustTakeOver 90 = .ok (.goto 4, 3) := by decide +kernel
theorem dX7_mustTakeOver_93 : decode cX7_mustTakeOver 93 = .ok (.iconst 0, 1) := by decide +kernel
theorem dX7_mustTakeOver_94 : decode cX7_mustTakeOver 94 = .ok (.ireturn, 1) := by decide +kernel
theorem dX7_isFull_0 : decode cX7_isFull 0 = .ok (.iload_n 1, 1) := by decide +kernel
theorem dX7_isFull_1 : decode cX7_isFull 1 = .ok (.iload_n 2, 1) := by decide +kernel
theorem dX7_isFull_2 : decode cX7_isFull 2 = .ok (.invokestatic 151, 3) := by decide +kernel
theorem dX7_isFull_5 : decode cX7_isFull 5 = .ok (.istore_n 3, 1) := by decide +kernel
theorem dX7_isFull_6 : decode cX7_isFull 6 = .ok (.aload_n 0, 1) := by decide +kernel
theorem dX7_isFull_7 : decode cX7_isFull 7 = .ok (.getfield 83, 3) := by decide +kernel
theorem dX7_isFull_10 : decode cX7_isFull 10 = .ok (.iload_n 3, 1) := by decide +kernel
theorem dX7_isFull_11 : decode cX7_isFull 11 = .ok (.invokevirtual 275, 3) := by decide +kernel
theorem dX7_isFull_14 : decode cX7_isFull 14 = .ok (.ifCond .eq 38, 3) := by decide +kernel
theorem dX7_isFull_17 : decode cX7_isFull 17 = .ok (.aload_n 0, 1) := by decide +kernel
theorem dX7_isFull_18 : decode cX7_isFull 18 = .ok (.getfield 69, 3) := by decide +kernel
theorem dX7_isFull_21 : decode cX7_isFull 21 = .ok (.getfield 278, 3) := by decide +kernel
theorem dX7_isFull_24 : decode cX7_isFull 24 = .ok (.iload_n 2, 1) := by decide +kernel
theorem dX7_isFull_25 : decode cX7_isFull 25 = .ok (.iaload, 1) := by decide +kernel
theorem dX7_isFull_26 : decode cX7_isFull 26 = .ok (.aload_n 0, 1) := by decide +kernel
theorem dX7_isFull_27 : decode cX7_isFull 27 = .ok (.getfield 83, 3) := by decide +kernel
theorem dX7_isFull_30 : decode cX7_isFull 30 = .ok (.getfield 287, 3) := by decide +kernel
theorem dX7_isFull_33 : decode cX7_isFull 33 = .ok (.iload_n 3, 1) := by decide +kernel
theorem dX7_isFull_34 : decode cX7_isFull 34 = .ok (.iaload, 1) := by decide +kernel
theorem dX7_isFull_35 : decode cX7_isFull 35 = .ok (.iconst (-1), 1) := by decide +kernel
theorem dX7_isFull_36 : decode cX7_isFull 36 = .ok (.ixor, 1) := by decide +kernel
theorem dX7_isFull_37 : decode cX7_isFull 37 = .ok (.iand, 1) := by decide +kernel
theorem dX7_isFull_38 : decode cX7_isFull 38 = .ok (.aload_n 0, 1) := by decide +kernel
theorem dX7_isFull_39 : decode cX7_isFull 39 = .ok (.invokevirtual 281, 3) := by decide +kernel
theorem dX7_isFull_42 : decode cX7_isFull 42 = .ok (.iconst (-1), 1) := by decide +kernel
theorem dX7_isFull_43 : decode cX7_isFull 43 = .ok (.ixor, 1) := by decide +kernel
theorem dX7_isFull_44 : decode cX7_isFull 44 = .ok (.iand, 1) := by decide +kernel
theorem dX7_isFull_45 : decode cX7_isFull 45 = .ok (.ifCond .ne 7, 3) := by decide +kernel
theorem dX7_isFull_48 : decode cX7_isFull 48 = .ok (.iconst 1, 1) := by decide +kernel
theorem dX7_isFull_49 : decode cX7_isFull 49 = .ok (.goto 4, 3) := by decide +kernel
theorem dX7_isFull_52 : decode cX7_isFull 52 = .ok (.iconst 0, 1) := by decide +kernel
theorem dX7_isFull_53 : decode cX7_isFull 53 = .ok (.ireturn, 1) := by decide +kernel
theorem dX7_handOutAll_0 : decode cX7_handOutAll 0 = .ok (.iconst 0, 1) := by decide +kernel
theorem dX7_handOutAll_1 : decode cX7_handOutAll 1 = .ok (.istore_n 1, 1) := by decide +kernel
theorem dX7_handOutAll_2 : decode cX7_handOutAll 2 = .ok (.iconst 0, 1) := by decide +kernel
theorem dX7_handOutAll_3 : decode cX7_handOutAll 3 = .ok (.istore_n 2, 1) := by decide +kernel
theorem dX7_handOutAll_4 : decode cX7_handOutAll 4 = .ok (.iload_n 2, 1) := by decide +kernel
theorem dX7_handOutAll_5 : decode cX7_handOutAll 5 = .ok (.aload_n 0, 1) := by decide +kernel
theorem dX7_handOutAll_6 : decode cX7_handOutAll 6 = .ok (.getfield 9, 3) := by decide +kernel
theorem dX7_handOutAll_9 : decode cX7_handOutAll 9 = .ok (.if_icmp .ge 112, 3) := by decide +kernel
theorem dX7_handOutAll_12 : decode cX7_handOutAll 12 = .ok (.iconst 0, 1) := by decide +kernel
theorem dX7_handOutAll_13 : decode cX7_handOutAll 13 = .ok (.istore_n 3, 1) := by decide +kernel
theorem dX7_handOutAll_14 : decode cX7_handOutAll 14 = .ok (.iload_n 3, 1) := by decide +kernel
theorem dX7_handOutAll_15 : decode cX7_handOutAll 15 = .ok (.aload_n 0, 1) := by decide +kernel
theorem dX7_handOutAll_16 : decode cX7_handOutAll 16 = .ok (.getfield 69, 3) := by decide +kernel
theorem dX7_handOutAll_19 : decode cX7_handOutAll 19 = .ok (.getfield 145, 3) := by decide +kernel
theorem dX7_handOutAll_22 : decode cX7_handOutAll 22 = .ok (.if_icmp .ge 93, 3) := by decide +kernel
theorem dX7_handOutAll_25 : decode cX7_handOutAll 25 = .ok (.aload_n 0, 1) := by decide +kernel
theorem dX7_handOutAll_26 : decode cX7_handOutAll 26 = .ok (.iload_n 2, 1) := by decide +kernel
theorem dX7_handOutAll_27 : decode cX7_handOutAll 27 = .ok (.invokevirtual 135, 3) := by decide +kernel
theorem dX7_handOutAll_30 : decode cX7_handOutAll 30 = .ok (.ifCond .eq 85, 3) := by decide +kernel
theorem dX7_handOutAll_33 : decode cX7_handOutAll 33 = .ok (.aload_n 0, 1) := by decide +kernel
theorem dX7_handOutAll_34 : decode cX7_handOutAll 34 = .ok (.getfield 76, 3) := by decide +kernel
theorem dX7_handOutAll_37 : decode cX7_handOutAll 37 = .ok (.iload_n 2, 1) := by decide +kernel
theorem dX7_handOutAll_38 : decode cX7_handOutAll 38 = .ok (.aload_n 0, 1) := by decide +kernel
theorem dX7_handOutAll_39 : decode cX7_handOutAll 39 = .ok (.getfield 69, 3) := by decide +kernel
theorem dX7_handOutAll_42 : decode cX7_handOutAll 42 = .ok (.getfield 145, 3) := by decide +kernel
theorem dX7_handOutAll_45 : decode cX7_handOutAll 45 = .ok (.invokevirtual 290, 3) := by decide +kernel
theorem dX7_handOutAll_48 : decode cX7_handOutAll 48 = .ok (.istore 4, 2) := by decide +kernel
theorem dX7_handOutAll_50 : decode cX7_handOutAll 50 = .ok (.iload 4, 2) := by decide +kernel
theorem dX7_handOutAll_52 : decode cX7_handOutAll 52 = .ok (.iconst (-1), 1) := by decide +kernel
theorem dX7_handOutAll_53 : decode cX7_handOutAll 53 = .ok (.if_icmp .eq 62, 3) := by decide +kernel
theorem dX7_handOutAll_56 : decode cX7_handOutAll 56 = .ok (.aload_n 0, 1) := by decide +kernel
theorem dX7_handOutAll_57 : decode cX7_handOutAll 57 = .ok (.getfield 76, 3) := by decide +kernel
theorem dX7_handOutAll_60 : decode cX7_handOutAll 60 = .ok (.getfield 148, 3) := by decide +kernel
theorem dX7_handOutAll_63 : decode cX7_handOutAll 63 = .ok (.iload_n 2, 1) := by decide +kernel
theorem dX7_handOutAll_64 : decode cX7_handOutAll 64 = .ok (.iload 4, 2) := by decide +kernel
theorem dX7_handOutAll_66 : decode cX7_handOutAll 66 = .ok (.invokestatic 151, 3) := by decide +kernel
theorem dX7_handOutAll_69 : decode cX7_handOutAll 69 = .ok (.iaload, 1) := by decide +kernel
theorem dX7_handOutAll_70 : decode cX7_handOutAll 70 = .ok (.iconst 2, 1) := by decide +kernel
theorem dX7_handOutAll_71 : decode cX7_handOutAll 71 = .ok (.if_icmp .eq 6, 3) := by decide +kernel
theorem dX7_handOutAll_74 : decode cX7_handOutAll 74 = .ok (.goto 41, 3) := by decide +kernel
theorem dX7_handOutAll_77 : decode cX7_handOutAll 77 = .ok (.aload_n 0, 1) := by decide +kernel
theorem dX7_handOutAll_78 : decode cX7_handOutAll 78 = .ok (.getfield 76, 3) := by decide +kernel
theorem dX7_handOutAll_81 : decode cX7_handOutAll 81 = .ok (.iload_n 2, 1) := by decide +kernel
theorem dX7_handOutAll_82 : decode cX7_handOutAll 82 = .ok (.iload 4, 2) := by decide +kernel
theorem dX7_handOutAll_84 : decode cX7_handOutAll 84 = .ok (.aload_n 0, 1) := by decide +kernel
theorem dX7_handOutAll_85 : decode cX7_handOutAll 85 = .ok (.getfield 21, 3) := by decide +kernel
theorem dX7_handOutAll_88 : decode cX7_handOutAll 88 = .ok (.invokevirtual 293, 3) := by decide +kernel
theorem dX7_handOutAll_91 : decode cX7_handOutAll 91 = .ok (.aload_n 0, 1) := by decide +kernel
theorem dX7_handOutAll_92 : decode cX7_handOutAll 92 = .ok (.getfield 97, 3) := by decide +kernel
theorem dX7_handOutAll_95 : decode cX7_handOutAll 95 = .ok (.aload_n 0, 1) := by decide +kernel
theorem dX7_handOutAll_96 : decode cX7_handOutAll 96 = .ok (.getfield 21, 3) := by decide +kernel
theorem dX7_handOutAll_99 : decode cX7_handOutAll 99 = .ok (.iload_n 2, 1) := by decide +kernel
theorem dX7_handOutAll_100 : decode cX7_handOutAll 100 = .ok (.iconst 1, 1) := by decide +kernel
theorem dX7_handOutAll_101 : decode cX7_handOutAll 101 = .ok (.iload 4, 2) := by decide +kernel
theorem dX7_handOutAll_103 : decode cX7_handOutAll 103 = .ok (.invokevirtual 155, 3) := by decide +kernel
theorem dX7_handOutAll_106 : decode cX7_handOutAll 106 = .ok (.iinc 1 1, 3) := by decide +kernel
theorem dX7_handOutAll_109 : decode cX7_handOutAll 109 = .ok (.iinc 3 1, 3) := by decide +kernel
theorem dX7_handOutAll_112 : decode cX7_handOutAll 112 = .ok (.goto (-98), 3) := by decide +kernel
theorem dX7_handOutAll_115 : decode cX7_handOutAll 115 = .ok (.iinc 2 1, 3) := by decide +kernel
theorem dX7_handOutAll_118 : decode cX7_handOutAll 118 = .ok (.goto (-114), 3) := by decide +kernel
theorem dX7_handOutAll_121 : decode cX7_handOutAll 121 = .ok (.iload_n 1, 1) := by decide +kernel
theorem dX7_handOutAll_122 : decode cX7_handOutAll 122 = .ok (.ireturn, 1) := by decide +kernel
theorem dX7_dropForDown_0 : decode cX7_dropForDown 0 = .ok (.iconst 0, 1) := by decide +kernel
theorem dX7_dropForDown_1 : decode cX7_dropForDown 1 = .ok (.istore_n 1, 1) := by decide +kernel
theorem dX7_dropForDown_2 : decode cX7_dropForDown 2 = .ok (.iload_n 1, 1) := by decide +kernel
theorem dX7_dropForDown_3 : decode cX7_dropForDown 3 = .ok (.aload_n 0, 1) := by decide +kernel
theorem dX7_dropForDown_4 : decode cX7_dropForDown 4 = .ok (.getfield 9, 3) := by decide +kernel
theorem dX7_dropForDown_7 : decode cX7_dropForDown 7 = .ok (.if_icmp .ge 45, 3) := by decide +kernel
theorem dX7_dropForDown_10 : decode cX7_dropForDown 10 = .ok (.iconst 0, 1) := by decide +kernel
theorem dX7_dropForDown_11 : decode cX7_dropForDown 11 = .ok (.istore_n 2, 1) := by decide +kernel
theorem dX7_dropForDown_12 : decode cX7_dropForDown 12 = .ok (.iload_n 2, 1) := by decide +kernel
theorem dX7_dropForDown_13 : decode cX7_dropForDown 13 = .ok (.aload_n 0, 1) := by decide +kernel
theorem dX7_dropForDown_14 : decode cX7_dropForDown 14 = .ok (.getfield 9, 3) := by decide +kernel
theorem dX7_dropForDown_17 : decode cX7_dropForDown 17 = .ok (.if_icmp .ge 29, 3) := by decide +kernel
theorem dX7_dropForDown_20 : decode cX7_dropForDown 20 = .ok (.aload_n 0, 1) := by decide +kernel
theorem dX7_dropForDown_21 : decode cX7_dropForDown 21 = .ok (.iload_n 1, 1) := by decide +kernel
theorem dX7_dropForDown_22 : decode cX7_dropForDown 22 = .ok (.invokevirtual 135, 3) := by decide +kernel
theorem dX7_dropForDown_25 : decode cX7_dropForDown 25 = .ok (.ifCond .ne 21, 3) := by decide +kernel
theorem dX7_dropForDown_28 : decode cX7_dropForDown 28 = .ok (.aload_n 0, 1) := by decide +kernel
theorem dX7_dropForDown_29 : decode cX7_dropForDown 29 = .ok (.getfield 62, 3) := by decide +kernel
theorem dX7_dropForDown_32 : decode cX7_dropForDown 32 = .ok (.iload_n 2, 1) := by decide +kernel
theorem dX7_dropForDown_33 : decode cX7_dropForDown 33 = .ok (.iload_n 1, 1) := by decide +kernel
theorem dX7_dropForDown_34 : decode cX7_dropForDown 34 = .ok (.invokestatic 212, 3) := by decide +kernel
theorem dX7_dropForDown_37 : decode cX7_dropForDown 37 = .ok (.invokevirtual 296, 3) := by decide +kernel
theorem dX7_dropForDown_40 : decode cX7_dropForDown 40 = .ok (.iinc 2 1, 3) := by decide +kernel
theorem dX7_dropForDown_43 : decode cX7_dropForDown 43 = .ok (.goto (-31), 3) := by decide +kernel
theorem dX7_dropForDown_46 : decode cX7_dropForDown 46 = .ok (.iinc 1 1, 3) := by decide +kernel
theorem dX7_dropForDown_49 : decode cX7_dropForDown 49 = .ok (.goto (-47), 3) := by decide +kernel
theorem dX7_dropForDown_52 : decode cX7_dropForDown 52 = .ok (.return_, 1) := by decide +kernel
theorem dX7_draw_0 : decode cX7_draw 0 = .ok (.aload_n 0, 1) := by decide +kernel
theorem dX7_draw_1 : decode cX7_draw 1 = .ok (.ldc_w 314, 3) := by decide +kernel
theorem dX7_draw_4 : decode cX7_draw 4 = .ok (.aload_n 0, 1) := by decide +kernel
theorem dX7_draw_5 : decode cX7_draw 5 = .ok (.getfield 30, 3) := by decide +kernel
theorem dX7_draw_8 : decode cX7_draw 8 = .ok (.imul, 1) := by decide +kernel
theorem dX7_draw_9 : decode cX7_draw 9 = .ok (.sipush 12345, 3) := by decide +kernel
theorem dX7_draw_12 : decode cX7_draw 12 = .ok (.iadd, 1) := by decide +kernel
theorem dX7_draw_13 : decode cX7_draw 13 = .ok (.putfield 30, 3) := by decide +kernel
theorem dX7_draw_16 : decode cX7_draw 16 = .ok (.aload_n 0, 1) := by decide +kernel
theorem dX7_draw_17 : decode cX7_draw 17 = .ok (.getfield 30, 3) := by decide +kernel
theorem dX7_draw_20 : decode cX7_draw 20 = .ok (.bipush 16, 2) := by decide +kernel
theorem dX7_draw_22 : decode cX7_draw 22 = .ok (.iushr, 1) := by decide +kernel
theorem dX7_draw_23 : decode cX7_draw 23 = .ok (.sipush 32767, 3) := by decide +kernel
theorem dX7_draw_26 : decode cX7_draw 26 = .ok (.iand, 1) := by decide +kernel
theorem dX7_draw_27 : decode cX7_draw 27 = .ok (.ireturn, 1) := by decide +kernel
section S_22_n02
variable {p : Program} {l : Launch} {e : Env} {R : Room} {s : State} {m : MethodId} {args : Array Value} {below : List Frame} {meth : Method} {c : Code} {A : Nat → Prop} {D : va_G} {cI cB cL : ClassId} {ad : Nat → Nat} {pa pl : Nat}
noncomputable def fX4_handOut_0 (x1 : Int32) (x2 : Int32) (x3 : Int32) (u : Sg) : Option Sg := bnd (fX11_spotOf x1 x2) (fun v1 => grd (vp_in v1 120) (bnd (s2 u 20 ((v1 : Int32).toNatClampNeg) 3) (fun u3 => grd (vp_in v1 120) (bnd (s2 u3 23 ((v1 : Int32).toNatClampNeg) x3) (fun u5 => grd (vp_in x1 6) (grd (vp_in (fX11_spotOf x1 (u5 25 ((x1 : Int32).toNatClampNeg))) 120) (bnd (s2 u5 24 (((fX11_spotOf x1 (u5 25 ((x1 : Int32).toNatClampNeg))) : Int32).toNatClampNeg) x2) (fun u8 => grd (vp_in x1 6) (grd (vp_in x1 6) (bnd (s2 u8 25 ((x1 : Int32).toNatClampNeg) ((u8 25 ((x1 : Int32).toNatClampNeg)) + 1)) (fun u11 => some u11)))))))))))
noncomputable def fX4_handOut (x1 : Int32) (x2 : Int32) (x3 : Int32) (u : Sg) : Option Sg := fX4_handOut_0 x1 x2 x3 u
set_option maxRecDepth 10000 in
set_option maxHeartbeats 4000000 in
theorem wX4_handOut_0 (C : cx D (tyl cI cB cL) A RX4 cX4_handOut 5 none p s m args c meth) (hR : 1 ≤ R.frames ∧ 21 ≤ R.locals) {σ' : Sg} (u : Sg) (x1 : Int32) (x2 : Int32) (x3 : Int32) {H : Heap} {locs : List Loc} {ls : Array Slot} (hl : lv_has ls 5 [(0, .ref (ad 19)), (1, .int x1), (2, .int x2), (3, .int x3)]) (S : st D (wN cI ad pa pl) A s u H locs) (h : fX4_handOut_0 x1 x2 x3 u = some σ') : W p l e R s m args below meth c H locs 0 0 (MQ below (qV D (tyl cI cB cL) (wN cI ad pa pl) A σ') args s 0 0 A) (F0 m 0 ls []) := by
  have hx := C.1
  have hb := C.2.1
  have hsz := hl.1
  unfold fX4_handOut_0 at h
  refine lv_iload_n hx hb dX4_handOut_0 rfl (lv_at hl 1 rfl) ?_
  refine lv_iload_n hx hb dX4_handOut_1 rfl (lv_at hl 2 rfl) ?_
  refine q_callPN (As := [.int x1, .int x2]) (na := 2) C S (ct_X11_spotOf l D cI cB cL x1 x2) (List.mem_of_getElem? (i := 18) rfl) mw_322 mw_321 mw_320 hdX11_spotOf ⟨Nat.le_trans (Nat.le_of_ble_eq_true rfl) hR.1, Nat.le_trans (Nat.le_of_ble_eq_true rfl) hR.2⟩ rfl hsz ⟨Nat.zero_le _, Nat.zero_le _⟩ (Nat.le_of_ble_eq_true rfl) dX4_handOut_2 rfl (fun H locs S => ?_)
  refine lv_topi (fun v1 ev1 => ?_)
  have h := bnd_of ev1 h
  refine lv_istore (lv' := [(4, .int v1), (0, .ref (ad 19)), (1, .int x1), (2, .int x2), (3, .int x3)]) hx hb dX4_handOut_5 hl (by decide) rfl (fun ls hl => ?_)
  have hsz := hl.1
  refine lv_aload_n hx hb dX4_handOut_7 rfl (lv_at hl 1 rfl) ?_
  refine q_get (v := .ref (ad 20)) C S (oN19 cI ad pa pl) rfl iwX4 0 (by decide) mw_330 rfl dX4_handOut_8 ?_
  refine lv_iload hx hb dX4_handOut_11 (lv_at hl 0 rfl) ?_
  refine lv_iconst (v := 3) hx hb dX4_handOut_13 (by decide) ?_
  obtain ⟨g2, h⟩ := grd_some h
  obtain ⟨u3, eu3⟩ : ∃ z : Sg, z = s2 u 20 ((v1 : Int32).toNatClampNeg) 3 := ⟨_, rfl⟩
  have h := bnd_of eu3 h
  refine q_iast C S (aN20 cI ad pa pl) 0 rfl g2 dX4_handOut_14 (j := (v1 : Int32).toNatClampNeg) rfl eu3 (fun H locs S => ?_)
  refine lv_aload_n hx hb dX4_handOut_15 rfl (lv_at hl 1 rfl) ?_
  refine q_get (v := .ref (ad 23)) C S (oN19 cI ad pa pl) rfl iwX4 3 (by decide) mw_418 rfl dX4_handOut_16 ?_
  refine lv_iload hx hb dX4_handOut_19 (lv_at hl 0 rfl) ?_
  refine lv_iload_n hx hb dX4_handOut_21 rfl (lv_at hl 4 rfl) ?_
  obtain ⟨g4, h⟩ := grd_some h
  obtain ⟨u5, eu5⟩ : ∃ z : Sg, z = s2 u3 23 ((v1 : Int32).toNatClampNeg) x3 := ⟨_, rfl⟩
  have h := bnd_of eu5 h
  refine q_iast C S (aN23 cI ad pa pl) 0 rfl g4 dX4_handOut_22 (j := (v1 : Int32).toNatClampNeg) rfl eu5 (fun H locs S => ?_)
  refine lv_aload_n hx hb dX4_handOut_23 rfl (lv_at hl 1 rfl) ?_
  refine q_get (v := .ref (ad 24)) C S (oN19 cI ad pa pl) rfl iwX4 4 (by decide) mw_382 rfl dX4_handOut_24 ?_
  refine lv_iload_n hx hb dX4_handOut_27 rfl (lv_at hl 2 rfl) ?_
  refine lv_aload_n hx hb dX4_handOut_28 rfl (lv_at hl 1 rfl) ?_
  refine q_get (v := .ref (ad 25)) C S (oN19 cI ad pa pl) rfl iwX4 5 (by decide) mw_381 rfl dX4_handOut_29 ?_
  refine lv_iload_n hx hb dX4_handOut_32 rfl (lv_at hl 2 rfl) ?_
  obtain ⟨g6, h⟩ := grd_some h
  refine q_iald C S (aN25 cI ad pa pl) 0 rfl g6 dX4_handOut_33 (j := (x1 : Int32).toNatClampNeg) rfl ?_
  refine q_callPN (As := [.int x1, .int (u5 25 ((x1 : Int32).toNatClampNeg))]) (na := 2) C S (ct_X11_spotOf l D cI cB cL x1 (u5 25 ((x1 : Int32).toNatClampNeg))) (List.mem_of_getElem? (i := 18) rfl) mw_322 mw_321 mw_320 hdX11_spotOf ⟨Nat.le_trans (Nat.le_of_ble_eq_true rfl) hR.1, Nat.le_trans (Nat.le_of_ble_eq_true rfl) hR.2⟩ rfl hsz ⟨Nat.zero_le _, Nat.zero_le _⟩ (Nat.le_of_ble_eq_true rfl) dX4_handOut_34 rfl (fun H locs S => ?_)
  refine lv_iload_n hx hb dX4_handOut_37 rfl (lv_at hl 3 rfl) ?_
  obtain ⟨g7, h⟩ := grd_some h
  obtain ⟨u8, eu8⟩ : ∃ z : Sg, z = s2 u5 24 (((fX11_spotOf x1 (u5 25 ((x1 : Int32).toNatClampNeg))) : Int32).toNatClampNeg) x2 := ⟨_, rfl⟩
  have h := bnd_of eu8 h
  refine q_iast C S (aN24 cI ad pa pl) 0 rfl g7 dX4_handOut_38 (j := ((fX11_spotOf x1 (u5 25 ((x1 : Int32).toNatClampNeg))) : Int32).toNatClampNeg) rfl eu8 (fun H locs S => ?_)
  refine lv_aload_n hx hb dX4_handOut_39 rfl (lv_at hl 1 rfl) ?_
  refine q_get (v := .ref (ad 25)) C S (oN19 cI ad pa pl) rfl iwX4 5 (by decide) mw_381 rfl dX4_handOut_40 ?_
  refine lv_iload_n hx hb dX4_handOut_43 rfl (lv_at hl 2 rfl) ?_
  refine lv_dup2_11 hx hb dX4_handOut_44 rfl rfl ?_
  obtain ⟨g9, h⟩ := grd_some h
  refine q_iald C S (aN25 cI ad pa pl) 0 rfl g9 dX4_handOut_45 (j := (x1 : Int32).toNatClampNeg) rfl ?_
  refine lv_iconst (v := 1) hx hb dX4_handOut_46 (by decide) ?_
  refine lv_iadd hx hb dX4_handOut_47 ?_
  obtain ⟨g10, h⟩ := grd_some h
  obtain ⟨u11, eu11⟩ : ∃ z : Sg, z = s2 u8 25 ((x1 : Int32).toNatClampNeg) ((u8 25 ((x1 : Int32).toNatClampNeg)) + 1) := ⟨_, rfl⟩
  have h := bnd_of eu11 h
  refine q_iast C S (aN25 cI ad pa pl) 0 rfl g10 dX4_handOut_48 (j := (x1 : Int32).toNatClampNeg) rfl eu11 (fun H locs S => ?_)
  exact q_vret C S (Option.some.inj h) dX4_handOut_49
set_option maxRecDepth 10000 in
set_option maxHeartbeats 4000000 in
theorem ct_X4_handOut (l : Launch) (D : va_G) (cI cB cL : ClassId) (ad : Nat → Nat) (pa pl : Nat) (x1 : Int32) (x2 : Int32) (x3 : Int32) (u : Sg) {σ' : Sg} (h : fX4_handOut x1 x2 x3 u = some σ') : metV l D (tyl cI cB cL) yX4_handOut cX4_handOut 5 1 21 (wN cI ad pa pl) [.ref (ad 19), .int x1, .int x2, .int x3] u σ' := by
  intro sz
  refine Met.ofW (cc := cX4_handOut) (maxL := 5) (ret := none) (by decide) rfl ?_
  intro p e s m args below meth c s₁ B hml hv
  obtain ⟨rfl, C, S⟩ := q_entry B hml hv
  have hl := lv_entry ([.ref (ad 19), .int x1, .int x2, .int x3]) (n := 5) (Nat.le_of_ble_eq_true rfl)
  rw [lg_entry_eq]
  generalize (lg_sl ([.ref (ad 19), .int x1, .int x2, .int x3]) ++ List.replicate (5 - (lg_sl ([.ref (ad 19), .int x1, .int x2, .int x3])).length) Slot.unset).toArray = ls at hl ⊢
  exact wX4_handOut_0 C ⟨Nat.le_refl _, Nat.le_refl _⟩ u x1 x2 x3 (lv_sub hl [0, 1, 2, 3] rfl) S h
noncomputable def fX5_add_0 (x1 : Int32) (x2 : Int32) (x3 : Int32) (x4 : Int32) (u : Sg) : Option Sg := bnd ((u 34 1) * 4) (fun v1 => grd (vp_in v1 240) (bnd (s2 u 35 ((v1 : Int32).toNatClampNeg) x1) (fun u3 => grd (vp_in (v1 + 1) 240) (bnd (s2 u3 35 (((v1 + 1) : Int32).toNatClampNeg) x2) (fun u5 => grd (vp_in (v1 + 2) 240) (bnd (s2 u5 35 (((v1 + 2) : Int32).toNatClampNeg) x3) (fun u7 => grd (vp_in (v1 + 3) 240) (bnd (s2 u7 35 (((v1 + 3) : Int32).toNatClampNeg) x4) (fun u9 => bnd (s2 u9 34 1 (((u9 34 1) + 1) - ((u9 34 1) + 1) / 60 * 60)) (fun u10 => bnd (s2 u10 34 0 (if 60 < ((u10 34 0) + 1) then 60 else ((u10 34 0) + 1))) (fun u11 => some u11)))))))))))
noncomputable def fX5_add (x1 : Int32) (x2 : Int32) (x3 : Int32) (x4 : Int32) (u : Sg) : Option Sg := fX5_add_0 x1 x2 x3 x4 u
set_option maxRecDepth 10000 in
set_option maxHeartbeats 4000000 in
theorem wX5_add_0 (C : cx D (tyl cI cB cL) A RX5 cX5_add 6 none p s m args c meth) (hR : 1 ≤ R.frames ∧ 21 ≤ R.locals) {σ' : Sg} (u : Sg) (x1 : Int32) (x2 : Int32) (x3 : Int32) (x4 : Int32) {H : Heap} {locs : List Loc} {ls : Array Slot} (hl : lv_has ls 6 [(0, .ref (ad 34)), (1, .int x1), (2, .int x2), (3, .int x3), (4, .int x4)]) (S : st D (wN cI ad pa pl) A s u H locs) (h : fX5_add_0 x1 x2 x3 x4 u = some σ') : W p l e R s m args below meth c H locs 0 0 (MQ below (qV D (tyl cI cB cL) (wN cI ad pa pl) A σ') args s 0 0 A) (F0 m 0 ls []) := by
  have hx := C.1
  have hb := C.2.1
  have hsz := hl.1
  unfold fX5_add_0 at h
  refine lv_aload_n hx hb dX5_add_0 rfl (lv_at hl 0 rfl) ?_
  refine q_get (v := .int (u 34 1)) C S (oN34 cI ad pa pl) rfl iwX5 1 (by decide) mw_419 rfl dX5_add_1 ?_
  refine lv_iconst (v := 4) hx hb dX5_add_4 (by decide) ?_
  refine lv_imul hx hb dX5_add_5 ?_
  refine lv_topi (fun v1 ev1 => ?_)
  have h := bnd_of ev1 h
  refine lv_istore (lv' := [(5, .int v1), (0, .ref (ad 34)), (1, .int x1), (2, .int x2), (3, .int x3), (4, .int x4)]) hx hb dX5_add_6 hl (by decide) rfl (fun ls hl => ?_)
  have hsz := hl.1
  refine lv_aload_n hx hb dX5_add_8 rfl (lv_at hl 1 rfl) ?_
  refine q_get (v := .ref (ad 35)) C S (oN34 cI ad pa pl) rfl iwX5 2 (by decide) mw_420 rfl dX5_add_9 ?_
  refine lv_iload hx hb dX5_add_12 (lv_at hl 0 rfl) ?_
  refine lv_iload_n hx hb dX5_add_14 rfl (lv_at hl 2 rfl) ?_
  obtain ⟨g2, h⟩ := grd_some h
  obtain ⟨u3, eu3⟩ : ∃ z : Sg, z = s2 u 35 ((v1 : Int32).toNatClampNeg) x1 := ⟨_, rfl⟩
  have h := bnd_of eu3 h
  refine q_iast C S (aN35 cI ad pa pl) 0 rfl g2 dX5_add_15 (j := (v1 : Int32).toNatClampNeg) rfl eu3 (fun H locs S => ?_)
  refine lv_aload_n hx hb dX5_add_16 rfl (lv_at hl 1 rfl) ?_
  refine q_get (v := .ref (ad 35)) C S (oN34 cI ad pa pl) rfl iwX5 2 (by decide) mw_420 rfl dX5_add_17 ?_
  refine lv_iload hx hb dX5_add_20 (lv_at hl 0 rfl) ?_
  refine lv_iconst (v := 1) hx hb dX5_add_22 (by decide) ?_
  refine lv_iadd hx hb dX5_add_23 ?_
  refine lv_iload_n hx hb dX5_add_24 rfl (lv_at hl 3 rfl) ?_
  obtain ⟨g4, h⟩ := grd_some h
  obtain ⟨u5, eu5⟩ : ∃ z : Sg, z = s2 u3 35 (((v1 + 1) : Int32).toNatClampNeg) x2 := ⟨_, rfl⟩
  have h := bnd_of eu5 h
  refine q_iast C S (aN35 cI ad pa pl) 0 rfl g4 dX5_add_25 (j := ((v1 + 1) : Int32).toNatClampNeg) rfl eu5 (fun H locs S => ?_)
  refine lv_aload_n hx hb dX5_add_26 rfl (lv_at hl 1 rfl) ?_
  refine q_get (v := .ref (ad 35)) C S (oN34 cI ad pa pl) rfl iwX5 2 (by decide) mw_420 rfl dX5_add_27 ?_
  refine lv_iload hx hb dX5_add_30 (lv_at hl 0 rfl) ?_
  refine lv_iconst (v := 2) hx hb dX5_add_32 (by decide) ?_
  refine lv_iadd hx hb dX5_add_33 ?_
  refine lv_iload_n hx hb dX5_add_34 rfl (lv_at hl 4 rfl) ?_
  obtain ⟨g6, h⟩ := grd_some h
  obtain ⟨u7, eu7⟩ : ∃ z : Sg, z = s2 u5 35 (((v1 + 2) : Int32).toNatClampNeg) x3 := ⟨_, rfl⟩
  have h := bnd_of eu7 h
  refine q_iast C S (aN35 cI ad pa pl) 0 rfl g6 dX5_add_35 (j := ((v1 + 2) : Int32).toNatClampNeg) rfl eu7 (fun H locs S => ?_)
  refine lv_aload_n hx hb dX5_add_36 rfl (lv_at hl 1 rfl) ?_
  refine q_get (v := .ref (ad 35)) C S (oN34 cI ad pa pl) rfl iwX5 2 (by decide) mw_420 rfl dX5_add_37 ?_
  refine lv_iload hx hb dX5_add_40 (lv_at hl 0 rfl) ?_
  refine lv_iconst (v := 3) hx hb dX5_add_42 (by decide) ?_
  refine lv_iadd hx hb dX5_add_43 ?_
  refine lv_iload hx hb dX5_add_44 (lv_at hl 5 rfl) ?_
  obtain ⟨g8, h⟩ := grd_some h
  obtain ⟨u9, eu9⟩ : ∃ z : Sg, z = s2 u7 35 (((v1 + 3) : Int32).toNatClampNeg) x4 := ⟨_, rfl⟩
  have h := bnd_of eu9 h
  refine q_iast C S (aN35 cI ad pa pl) 0 rfl g8 dX5_add_46 (j := ((v1 + 3) : Int32).toNatClampNeg) rfl eu9 (fun H locs S => ?_)
  refine lv_aload_n hx hb dX5_add_47 rfl (lv_at hl 1 rfl) ?_
  refine lv_aload_n hx hb dX5_add_48 rfl (lv_at hl 1 rfl) ?_
  refine q_get (v := .int (u9 34 1)) C S (oN34 cI ad pa pl) rfl iwX5 1 (by decide) mw_419 rfl dX5_add_49 ?_
  refine lv_iconst (v := 1) hx hb dX5_add_52 (by decide) ?_
  refine lv_iadd hx hb dX5_add_53 ?_
  refine lv_bipush (v := 60) hx hb dX5_add_54 (by decide) ?_
  refine lv_irem hx hb dX5_add_56 (by decide) ?_
  obtain ⟨u10, eu10⟩ : ∃ z : Sg, z = s2 u9 34 1 (((u9 34 1) + 1) - ((u9 34 1) + 1) / 60 * 60) := ⟨_, rfl⟩
  have h := bnd_of eu10 h
  refine q_put C S (oN34 cI ad pa pl) rfl iwX5 tyX5 tyX5_ok nmX5 1 (by decide) mw_419 rfl (iN34_1 cI ad pa pl) rfl rfl dX5_add_57 eu10 (fun H locs S => ?_)
  refine lv_aload_n hx hb dX5_add_60 rfl (lv_at hl 1 rfl) ?_
  refine lv_aload_n hx hb dX5_add_61 rfl (lv_at hl 1 rfl) ?_
  refine q_get (v := .int (u10 34 0)) C S (oN34 cI ad pa pl) rfl iwX5 0 (by decide) mw_421 rfl dX5_add_62 ?_
  refine lv_iconst (v := 1) hx hb dX5_add_65 (by decide) ?_
  refine lv_iadd hx hb dX5_add_66 ?_
  refine lv_bipush (v := 60) hx hb dX5_add_67 (by decide) ?_
  refine q_mmin C mw_422 mw_106 mw_92 mw_107 ⟨Nat.le_trans (Nat.le_of_ble_eq_true rfl) hR.1, Nat.le_trans (Nat.le_of_ble_eq_true rfl) hR.2⟩ hsz ⟨Nat.zero_le _, Nat.zero_le _⟩ (Nat.le_of_ble_eq_true rfl) dX5_add_69 ?_
  obtain ⟨u11, eu11⟩ : ∃ z : Sg, z = s2 u10 34 0 (if 60 < ((u10 34 0) + 1) then 60 else ((u10 34 0) + 1)) := ⟨_, rfl⟩
  have h := bnd_of eu11 h
  refine q_put C S (oN34 cI ad pa pl) rfl iwX5 tyX5 tyX5_ok nmX5 0 (by decide) mw_421 rfl (iN34_0 cI ad pa pl) rfl rfl dX5_add_72 eu11 (fun H locs S => ?_)
  exact q_vret C S (Option.some.inj h) dX5_add_75
set_option maxRecDepth 10000 in
set_option maxHeartbeats 4000000 in
theorem ct_X5_add (l : Launch) (D : va_G) (cI cB cL : ClassId) (ad : Nat → Nat) (pa pl : Nat) (x1 : Int32) (x2 : Int32) (x3 : Int32) (x4 : Int32) (u : Sg) {σ' : Sg} (h : fX5_add x1 x2 x3 x4 u = some σ') : metV l D (tyl cI cB cL) yX5_add cX5_add 6 1 21 (wN cI ad pa pl) [.ref (ad 34), .int x1, .int x2, .int x3, .int x4] u σ' := by
  intro sz
  refine Met.ofW (cc := cX5_add) (maxL := 6) (ret := none) (by decide) rfl ?_
  intro p e s m args below meth c s₁ B hml hv
  obtain ⟨rfl, C, S⟩ := q_entry B hml hv
  have hl := lv_entry ([.ref (ad 34), .int x1, .int x2, .int x3, .int x4]) (n := 6) (Nat.le_of_ble_eq_true rfl)
  rw [lg_entry_eq]
  generalize (lg_sl ([.ref (ad 34), .int x1, .int x2, .int x3, .int x4]) ++ List.replicate (6 - (lg_sl ([.ref (ad 34), .int x1, .int x2, .int x3, .int x4])).length) Slot.unset).toArray = ls at hl ⊢
  exact wX5_add_0 C ⟨Nat.le_refl _, Nat.le_refl _⟩ u x1 x2 x3 x4 (lv_sub hl [0, 1, 2, 3, 4] rfl) S h
noncomputable def fX5_cell_0 (x1 : Int32) (x2 : Int32) (u : Sg) : Option Int32 := bnd (((((u 34 1) - 1) - x1) + 120) - ((((u 34 1) - 1) - x1) + 120) / 60 * 60) (fun v1 => grd (vp_in ((v1 * 4) + x2) 240) (some (u 35 ((((v1 * 4) + x2) : Int32).toNatClampNeg))))
noncomputable def fX5_cell (x1 : Int32) (x2 : Int32) (u : Sg) : Option Int32 := fX5_cell_0 x1 x2 u
set_option maxRecDepth 10000 in
set_option maxHeartbeats 4000000 in
theorem wX5_cell_0 (C : cx D (tyl cI cB cL) A RX5 cX5_cell 4 (some .int) p s m args c meth) (hR : 0 ≤ R.frames ∧ 0 ≤ R.locals) {r : Int32} (u : Sg) (x1 : Int32) (x2 : Int32) {H : Heap} {locs : List Loc} {ls : Array Slot} (hl : lv_has ls 4 [(0, .ref (ad 34)), (1, .int x1), (2, .int x2)]) (S : st D (wN cI ad pa pl) A s u H locs) (h : fX5_cell_0 x1 x2 u = some r) : W p l e R s m args below meth c H locs 0 0 (MQ below (qI D (tyl cI cB cL) (wN cI ad pa pl) A r u) args s 0 0 A) (F0 m 0 ls []) := by
  have hx := C.1
  have hb := C.2.1
  have hsz := hl.1
  unfold fX5_cell_0 at h
  refine lv_aload_n hx hb dX5_cell_0 rfl (lv_at hl 0 rfl) ?_
  refine q_get (v := .int (u 34 1)) C S (oN34 cI ad pa pl) rfl iwX5 1 (by decide) mw_419 rfl dX5_cell_1 ?_
  refine lv_iconst (v := 1) hx hb dX5_cell_4 (by decide) ?_
  refine lv_isub hx hb dX5_cell_5 ?_
  refine lv_iload_n hx hb dX5_cell_6 rfl (lv_at hl 1 rfl) ?_
  refine lv_isub hx hb dX5_cell_7 ?_
  refine lv_bipush (v := 120) hx hb dX5_cell_8 (by decide) ?_
  refine lv_iadd hx hb dX5_cell_10 ?_
  refine lv_bipush (v := 60) hx hb dX5_cell_11 (by decide) ?_
  refine lv_irem hx hb dX5_cell_13 (by decide) ?_
  refine lv_topi (fun v1 ev1 => ?_)
  have h := bnd_of ev1 h
  refine lv_istore_n (lv' := [(3, .int v1), (0, .ref (ad 34)), (1, .int x1), (2, .int x2)]) hx hb dX5_cell_14 rfl hl (by decide) rfl (fun ls hl => ?_)
  have hsz := hl.1
  refine lv_aload_n hx hb dX5_cell_15 rfl (lv_at hl 1 rfl) ?_
  refine q_get (v := .ref (ad 35)) C S (oN34 cI ad pa pl) rfl iwX5 2 (by decide) mw_420 rfl dX5_cell_16 ?_
  refine lv_iload_n hx hb dX5_cell_19 rfl (lv_at hl 0 rfl) ?_
  refine lv_iconst (v := 4) hx hb dX5_cell_20 (by decide) ?_
  refine lv_imul hx hb dX5_cell_21 ?_
  refine lv_iload_n hx hb dX5_cell_22 rfl (lv_at hl 3 rfl) ?_
  refine lv_iadd hx hb dX5_cell_23 ?_
  obtain ⟨g2, h⟩ := grd_some h
  refine q_iald C S (aN35 cI ad pa pl) 0 rfl g2 dX5_cell_24 (j := (((v1 * 4) + x2) : Int32).toNatClampNeg) rfl ?_
  exact q_iret C S (rt_R h) dX5_cell_25
set_option maxRecDepth 10000 in
set_option maxHeartbeats 4000000 in
theorem ct_X5_cell (l : Launch) (D : va_G) (cI cB cL : ClassId) (ad : Nat → Nat) (pa pl : Nat) (x1 : Int32) (x2 : Int32) (u : Sg) {r : Int32} (h : fX5_cell x1 x2 u = some r) : metI l D (tyl cI cB cL) yX5_cell cX5_cell 4 (some .int) 0 0 (wN cI ad pa pl) [.ref (ad 34), .int x1, .int x2] u r u := by
  intro sz
  refine Met.ofW (cc := cX5_cell) (maxL := 4) (ret := (some .int)) (by decide) rfl ?_
  intro p e s m args below meth c s₁ B hml hv
  obtain ⟨rfl, C, S⟩ := q_entry B hml hv
  have hl := lv_entry ([.ref (ad 34), .int x1, .int x2]) (n := 4) (Nat.le_of_ble_eq_true rfl)
  rw [lg_entry_eq]
  generalize (lg_sl ([.ref (ad 34), .int x1, .int x2]) ++ List.replicate (4 - (lg_sl ([.ref (ad 34), .int x1, .int x2])).length) Slot.unset).toArray = ls at hl ⊢
  exact wX5_cell_0 C ⟨Nat.le_refl _, Nat.le_refl _⟩ u x1 x2 (lv_sub hl [0, 1, 2] rfl) S h
noncomputable def fX6_add_0 (x1 : Int32) (x2 : Int32) (x3 : Int32) (u : Sg) : Option (Int32 × Sg) := bnd (u 13 0) (fun v1 => grd (vp_in v1 20) (bnd (s2 u 14 ((v1 : Int32).toNatClampNeg) x1) (fun u3 => grd (vp_in v1 20) (bnd (s2 u3 15 ((v1 : Int32).toNatClampNeg) x2) (fun u5 => grd (vp_in v1 20) (bnd (s2 u5 16 ((v1 : Int32).toNatClampNeg) 0) (fun u7 => grd (vp_in v1 20) (bnd (s2 u7 17 ((v1 : Int32).toNatClampNeg) x3) (fun u9 => grd (vp_in v1 20) (bnd (s2 u9 18 ((v1 : Int32).toNatClampNeg) 0) (fun u11 => bnd (s2 u11 13 0 ((u11 13 0) + 1)) (fun u12 => some (v1, u12)))))))))))))
noncomputable def fX6_add (x1 : Int32) (x2 : Int32) (x3 : Int32) (u : Sg) : Option (Int32 × Sg) := fX6_add_0 x1 x2 x3 u
set_option maxRecDepth 10000 in
set_option maxHeartbeats 4000000 in
theorem wX6_add_0 (C : cx D (tyl cI cB cL) A RX6 cX6_add 5 (some .int) p s m args c meth) (hR : 0 ≤ R.frames ∧ 0 ≤ R.locals) {r : Int32} {σ' : Sg} (u : Sg) (x1 : Int32) (x2 : Int32) (x3 : Int32) {H : Heap} {locs : List Loc} {ls : Array Slot} (hl : lv_has ls 5 [(0, .ref (ad 13)), (1, .int x1), (2, .int x2), (3, .int x3)]) (S : st D (wN cI ad pa pl) A s u H locs) (h : fX6_add_0 x1 x2 x3 u = some (r, σ')) : W p l e R s m args below meth c H locs 0 0 (MQ below (qI D (tyl cI cB cL) (wN cI ad pa pl) A r σ') args s 0 0 A) (F0 m 0 ls []) := by
  have hx := C.1
  have hb := C.2.1
  have hsz := hl.1
  unfold fX6_add_0 at h
  refine lv_aload_n hx hb dX6_add_0 rfl (lv_at hl 0 rfl) ?_
  refine q_get (v := .int (u 13 0)) C S (oN13 cI ad pa pl) rfl iwX6 0 (by decide) mw_423 rfl dX6_add_1 ?_
  refine lv_topi (fun v1 ev1 => ?_)
  have h := bnd_of ev1 h
  refine lv_istore (lv' := [(4, .int v1), (0, .ref (ad 13)), (1, .int x1), (2, .int x2), (3, .int x3)]) hx hb dX6_add_4 hl (by decide) rfl (fun ls hl => ?_)
  have hsz := hl.1
  refine lv_aload_n hx hb dX6_add_6 rfl (lv_at hl 1 rfl) ?_
  refine q_get (v := .ref (ad 14)) C S (oN13 cI ad pa pl) rfl iwX6 1 (by decide) mw_424 rfl dX6_add_7 ?_
  refine lv_iload hx hb dX6_add_10 (lv_at hl 0 rfl) ?_
  refine lv_iload_n hx hb dX6_add_12 rfl (lv_at hl 2 rfl) ?_
  obtain ⟨g2, h⟩ := grd_some h
  obtain ⟨u3, eu3⟩ : ∃ z : Sg, z = s2 u 14 ((v1 : Int32).toNatClampNeg) x1 := ⟨_, rfl⟩
  have h := bnd_of eu3 h
  refine q_iast C S (aN14 cI ad pa pl) 0 rfl g2 dX6_add_13 (j := (v1 : Int32).toNatClampNeg) rfl eu3 (fun H locs S => ?_)
  refine lv_aload_n hx hb dX6_add_14 rfl (lv_at hl 1 rfl) ?_
  refine q_get (v := .ref (ad 15)) C S (oN13 cI ad pa pl) rfl iwX6 2 (by decide) mw_425 rfl dX6_add_15 ?_
  refine lv_iload hx hb dX6_add_18 (lv_at hl 0 rfl) ?_
  refine lv_iload_n hx hb dX6_add_20 rfl (lv_at hl 3 rfl) ?_
  obtain ⟨g4, h⟩ := grd_some h
  obtain ⟨u5, eu5⟩ : ∃ z : Sg, z = s2 u3 15 ((v1 : Int32).toNatClampNeg) x2 := ⟨_, rfl⟩
  have h := bnd_of eu5 h
  refine q_iast C S (aN15 cI ad pa pl) 0 rfl g4 dX6_add_21 (j := (v1 : Int32).toNatClampNeg) rfl eu5 (fun H locs S => ?_)
  refine lv_aload_n hx hb dX6_add_22 rfl (lv_at hl 1 rfl) ?_
  refine q_get (v := .ref (ad 16)) C S (oN13 cI ad pa pl) rfl iwX6 3 (by decide) mw_426 rfl dX6_add_23 ?_
  refine lv_iload hx hb dX6_add_26 (lv_at hl 0 rfl) ?_
  refine lv_iconst (v := 0) hx hb dX6_add_28 (by decide) ?_
  obtain ⟨g6, h⟩ := grd_some h
  obtain ⟨u7, eu7⟩ : ∃ z : Sg, z = s2 u5 16 ((v1 : Int32).toNatClampNeg) 0 := ⟨_, rfl⟩
  have h := bnd_of eu7 h
  refine q_iast C S (aN16 cI ad pa pl) 0 rfl g6 dX6_add_29 (j := (v1 : Int32).toNatClampNeg) rfl eu7 (fun H locs S => ?_)
  refine lv_aload_n hx hb dX6_add_30 rfl (lv_at hl 1 rfl) ?_
  refine q_get (v := .ref (ad 17)) C S (oN13 cI ad pa pl) rfl iwX6 4 (by decide) mw_427 rfl dX6_add_31 ?_
  refine lv_iload hx hb dX6_add_34 (lv_at hl 0 rfl) ?_
  refine lv_iload_n hx hb dX6_add_36 rfl (lv_at hl 4 rfl) ?_
  obtain ⟨g8, h⟩ := grd_some h
  obtain ⟨u9, eu9⟩ : ∃ z : Sg, z = s2 u7 17 ((v1 : Int32).toNatClampNeg) x3 := ⟨_, rfl⟩
  have h := bnd_of eu9 h
  refine q_iast C S (aN17 cI ad pa pl) 0 rfl g8 dX6_add_37 (j := (v1 : Int32).toNatClampNeg) rfl eu9 (fun H locs S => ?_)
  refine lv_aload_n hx hb dX6_add_38 rfl (lv_at hl 1 rfl) ?_
  refine q_get (v := .ref (ad 18)) C S (oN13 cI ad pa pl) rfl iwX6 5 (by decide) mw_428 rfl dX6_add_39 ?_
  refine lv_iload hx hb dX6_add_42 (lv_at hl 0 rfl) ?_
  refine lv_iconst (v := 0) hx hb dX6_add_44 (by decide) ?_
  obtain ⟨g10, h⟩ := grd_some h
  obtain ⟨u11, eu11⟩ : ∃ z : Sg, z = s2 u9 18 ((v1 : Int32).toNatClampNeg) 0 := ⟨_, rfl⟩
  have h := bnd_of eu11 h
  refine q_iast C S (aN18 cI ad pa pl) 0 rfl g10 dX6_add_45 (j := (v1 : Int32).toNatClampNeg) rfl eu11 (fun H locs S => ?_)
  refine lv_aload_n hx hb dX6_add_46 rfl (lv_at hl 1 rfl) ?_
  refine lv_dup hx hb dX6_add_47 rfl ?_
  refine q_get (v := .int (u11 13 0)) C S (oN13 cI ad pa pl) rfl iwX6 0 (by decide) mw_423 rfl dX6_add_48 ?_
  refine lv_iconst (v := 1) hx hb dX6_add_51 (by decide) ?_
  refine lv_iadd hx hb dX6_add_52 ?_
  obtain ⟨u12, eu12⟩ : ∃ z : Sg, z = s2 u11 13 0 ((u11 13 0) + 1) := ⟨_, rfl⟩
  have h := bnd_of eu12 h
  refine q_put C S (oN13 cI ad pa pl) rfl iwX6 tyX6 tyX6_ok nmX6 0 (by decide) mw_423 rfl (iN13_0 cI ad pa pl) rfl rfl dX6_add_53 eu12 (fun H locs S => ?_)
  refine lv_iload hx hb dX6_add_56 (lv_at hl 0 rfl) ?_
  exact q_iret C S (rt_S h) dX6_add_58
set_option maxRecDepth 10000 in
set_option maxHeartbeats 4000000 in
theorem ct_X6_add (l : Launch) (D : va_G) (cI cB cL : ClassId) (ad : Nat → Nat) (pa pl : Nat) (x1 : Int32) (x2 : Int32) (x3 : Int32) (u : Sg) {r : Int32} {σ' : Sg} (h : fX6_add x1 x2 x3 u = some (r, σ')) : metI l D (tyl cI cB cL) yX6_add cX6_add 5 (some .int) 0 0 (wN cI ad pa pl) [.ref (ad 13), .int x1, .int x2, .int x3] u r σ' := by
  intro sz
  refine Met.ofW (cc := cX6_add) (maxL := 5) (ret := (some .int)) (by decide) rfl ?_
  intro p e s m args below meth c s₁ B hml hv
  obtain ⟨rfl, C, S⟩ := q_entry B hml hv
  have hl := lv_entry ([.ref (ad 13), .int x1, .int x2, .int x3]) (n := 5) (Nat.le_of_ble_eq_true rfl)
  rw [lg_entry_eq]
  generalize (lg_sl ([.ref (ad 13), .int x1, .int x2, .int x3]) ++ List.replicate (5 - (lg_sl ([.ref (ad 13), .int x1, .int x2, .int x3])).length) Slot.unset).toArray = ls at hl ⊢
  exact wX6_add_0 C ⟨Nat.le_refl _, Nat.le_refl _⟩ u x1 x2 x3 (lv_sub hl [0, 1, 2, 3] rfl) S h
noncomputable def fX6_addressedTo_31 (K4 : Int32 → Int32 → Int32 → Option Int32) (x1 : Int32) (x2 : Int32) (x3 : Int32) (u : Sg) : Option Int32 := bnd (x3 + 1) (fun v4 => K4 x1 x2 v4)
noncomputable def fX6_addressedTo_4 (u : Sg) : Nat → Int32 → Int32 → Int32 → Option Int32
  | 0, _, _, _ => none
  | n + 1, x1, x2, x3 => cnd ((u 13 0) ≤ x3) (some x2) (grd (vp_in x3 20) (cnd ((fX11_isIn (u 15 ((x3 : Int32).toNatClampNeg)) x1) = 0) (fX6_addressedTo_31 (fun a0 a1 a2 => fX6_addressedTo_4 u n a0 a1 a2) x1 x2 x3 u) (bnd (x2 ||| ((1 : Int32) <<< ((x3 &&& 31 : Int32)))) (fun v5 => fX6_addressedTo_31 (fun a0 a1 a2 => fX6_addressedTo_4 u n a0 a1 a2) x1 v5 x3 u))))
noncomputable def fX6_addressedTo_0 (x1 : Int32) (u : Sg) : Option Int32 := fX6_addressedTo_4 u FU x1 0 0
noncomputable def fX6_addressedTo (x1 : Int32) (u : Sg) : Option Int32 := fX6_addressedTo_0 x1 u
set_option maxRecDepth 10000 in
set_option maxHeartbeats 4000000 in
theorem wX6_addressedTo_31 (C : cx D (tyl cI cB cL) A RX6 cX6_addressedTo 4 (some .int) p s m args c meth) (hR : 1 ≤ R.frames ∧ 21 ≤ R.locals) {r : Int32} (u : Sg) {K4 : Int32 → Int32 → Int32 → Option Int32} (hK4 : ∀ (y1 : Int32) (y2 : Int32) (y3 : Int32) (H : Heap) (locs : List Loc) (ls : Array Slot), lv_has ls 4 [(0, .ref (ad 13)), (1, .int y1), (2, .int y2), (3, .int y3)] → st D (wN cI ad pa pl) A s u H locs → K4 y1 y2 y3 = some r → W p l e R s m args below meth c H locs 0 0 (MQ below (qI D (tyl cI cB cL) (wN cI ad pa pl) A r u) args s 0 0 A) (F0 m 4 ls [])) (x1 : Int32) (x2 : Int32) (x3 : Int32) {H : Heap} {locs : List Loc} {ls : Array Slot} (hl : lv_has ls 4 [(0, .ref (ad 13)), (1, .int x1), (2, .int x2), (3, .int x3)]) (S : st D (wN cI ad pa pl) A s u H locs) (h : fX6_addressedTo_31 K4 x1 x2 x3 u = some r) : W p l e R s m args below meth c H locs 0 0 (MQ below (qI D (tyl cI cB cL) (wN cI ad pa pl) A r u) args s 0 0 A) (F0 m 31 ls []) := by
  have hx := C.1
  have hb := C.2.1
  have hsz := hl.1
  unfold fX6_addressedTo_31 at h
  obtain ⟨v4, ev4⟩ : ∃ y : Int32, y = x3 + 1 := ⟨_, rfl⟩
  have h := bnd_of ev4 h
  refine lv_iinc (v := v4) (lv' := [(3, .int v4), (0, .ref (ad 13)), (1, .int x1), (2, .int x2)]) hx hb dX6_addressedTo_31 hl (k := 3) rfl (by rw [ev4]; rfl) (by decide) rfl (fun ls hl => ?_)
  have hsz := hl.1
  refine lv_goto (tgt := 4) hx hb dX6_addressedTo_34 (by decide) ?_
  exact hK4 x1 x2 v4 H locs ls (lv_sub hl [1, 2, 3, 0] rfl) S h
set_option maxRecDepth 10000 in
set_option maxHeartbeats 4000000 in
theorem wX6_addressedTo_4 (C : cx D (tyl cI cB cL) A RX6 cX6_addressedTo 4 (some .int) p s m args c meth) (hR : 1 ≤ R.frames ∧ 21 ≤ R.locals) {r : Int32} (u : Sg) : ∀ (n : Nat) (x1 : Int32) (x2 : Int32) (x3 : Int32) (H : Heap) (locs : List Loc) (ls : Array Slot), lv_has ls 4 [(0, .ref (ad 13)), (1, .int x1), (2, .int x2), (3, .int x3)] → st D (wN cI ad pa pl) A s u H locs → fX6_addressedTo_4 u n x1 x2 x3 = some r → W p l e R s m args below meth c H locs 0 0 (MQ below (qI D (tyl cI cB cL) (wN cI ad pa pl) A r u) args s 0 0 A) (F0 m 4 ls []) := by
  have hx := C.1
  have hb := C.2.1
  intro n
  induction n with
  | zero =>
    intro x1 x2 x3 H locs ls hl S h
    cases h
  | succ n ih =>
    intro x1 x2 x3 H locs ls hl S h
    rw [fX6_addressedTo_4] at h
    have hsz := hl.1
    refine lv_iload_n hx hb dX6_addressedTo_4 rfl (lv_at hl 3 rfl) ?_
    refine lv_aload_n hx hb dX6_addressedTo_5 rfl (lv_at hl 0 rfl) ?_
    refine q_get (v := .int (u 13 0)) C S (oN13 cI ad pa pl) rfl iwX6 0 (by decide) mw_423 rfl dX6_addressedTo_6 ?_
    refine lv_icmp_ge (tgt := 37) hx hb dX6_addressedTo_9 (by decide) (fun c1 => ?_) (fun c1 => ?_)
    · have h := cnd_t c1 h
      refine lv_iload_n hx hb dX6_addressedTo_37 rfl (lv_at hl 2 rfl) ?_
      exact q_iret C S (rt_R h) dX6_addressedTo_38
    · have h := cnd_f c1 h
      refine lv_aload_n hx hb dX6_addressedTo_12 rfl (lv_at hl 0 rfl) ?_
      refine q_get (v := .ref (ad 15)) C S (oN13 cI ad pa pl) rfl iwX6 2 (by decide) mw_425 rfl dX6_addressedTo_13 ?_
      refine lv_iload_n hx hb dX6_addressedTo_16 rfl (lv_at hl 3 rfl) ?_
      obtain ⟨g2, h⟩ := grd_some h
      refine q_iald C S (aN15 cI ad pa pl) 0 rfl g2 dX6_addressedTo_17 (j := (x3 : Int32).toNatClampNeg) rfl ?_
      refine lv_iload_n hx hb dX6_addressedTo_18 rfl (lv_at hl 1 rfl) ?_
      refine q_callPN (As := [.int (u 15 ((x3 : Int32).toNatClampNeg)), .int x1]) (na := 2) C S (ct_X11_isIn l D cI cB cL (u 15 ((x3 : Int32).toNatClampNeg)) x1) (List.mem_of_getElem? (i := 20) rfl) mw_360 mw_321 mw_359 hdX11_isIn ⟨Nat.le_trans (Nat.le_of_ble_eq_true rfl) hR.1, Nat.le_trans (Nat.le_of_ble_eq_true rfl) hR.2⟩ rfl hsz ⟨Nat.zero_le _, Nat.zero_le _⟩ (Nat.le_of_ble_eq_true rfl) dX6_addressedTo_19 rfl (fun H locs S => ?_)
      refine lv_if_eq (tgt := 31) hx hb dX6_addressedTo_22 (by decide) (fun c3 => ?_) (fun c3 => ?_)
      · have h := cnd_t c3 h
        exact wX6_addressedTo_31 C hR u ih x1 x2 x3 (lv_sub hl [0, 1, 2, 3] rfl) S h
      · have h := cnd_f c3 h
        refine lv_iload_n hx hb dX6_addressedTo_25 rfl (lv_at hl 2 rfl) ?_
        refine lv_iconst (v := 1) hx hb dX6_addressedTo_26 (by decide) ?_
        refine lv_iload_n hx hb dX6_addressedTo_27 rfl (lv_at hl 3 rfl) ?_
        refine lv_ishl hx hb dX6_addressedTo_28 ?_
        refine lv_ior hx hb dX6_addressedTo_29 ?_
        refine lv_topi (fun v5 ev5 => ?_)
        have h := bnd_of ev5 h
        refine lv_istore_n (lv' := [(2, .int v5), (0, .ref (ad 13)), (1, .int x1), (3, .int x3)]) hx hb dX6_addressedTo_30 rfl hl (by decide) rfl (fun ls hl => ?_)
        have hsz := hl.1
        exact wX6_addressedTo_31 C hR u ih x1 v5 x3 (lv_sub hl [1, 2, 0, 3] rfl) S h
set_option maxRecDepth 10000 in
set_option maxHeartbeats 4000000 in
theorem wX6_addressedTo_0 (C : cx D (tyl cI cB cL) A RX6 cX6_addressedTo 4 (some .int) p s m args c meth) (hR : 1 ≤ R.frames ∧ 21 ≤ R.locals) {r : Int32} (u : Sg) (x1 : Int32) {H : Heap} {locs : List Loc} {ls : Array Slot} (hl : lv_has ls 4 [(0, .ref (ad 13)), (1, .int x1)]) (S : st D (wN cI ad pa pl) A s u H locs) (h : fX6_addressedTo_0 x1 u = some r) : W p l e R s m args below meth c H locs 0 0 (MQ below (qI D (tyl cI cB cL) (wN cI ad pa pl) A r u) args s 0 0 A) (F0 m 0 ls []) := by
  have hx := C.1
  have hb := C.2.1
  have hsz := hl.1
  unfold fX6_addressedTo_0 at h
  refine lv_iconst (v := 0) hx hb dX6_addressedTo_0 (by decide) ?_
  refine lv_istore_n (lv' := [(2, .int 0), (0, .ref (ad 13)), (1, .int x1)]) hx hb dX6_addressedTo_1 rfl hl (by decide) rfl (fun ls hl => ?_)
  have hsz := hl.1
  refine lv_iconst (v := 0) hx hb dX6_addressedTo_2 (by decide) ?_
  refine lv_istore_n (lv' := [(3, .int 0), (2, .int 0), (0, .ref (ad 13)), (1, .int x1)]) hx hb dX6_addressedTo_3 rfl hl (by decide) rfl (fun ls hl => ?_)
  have hsz := hl.1
  exact wX6_addressedTo_4 C hR u FU x1 0 0 H locs ls (lv_sub hl [2, 3, 1, 0] rfl) S h
set_option maxRecDepth 10000 in
set_option maxHeartbeats 4000000 in
theorem ct_X6_addressedTo (l : Launch) (D : va_G) (cI cB cL : ClassId) (ad : Nat → Nat) (pa pl : Nat) (x1 : Int32) (u : Sg) {r : Int32} (h : fX6_addressedTo x1 u = some r) : metI l D (tyl cI cB cL) yX6_addressedTo cX6_addressedTo 4 (some .int) 1 21 (wN cI ad pa pl) [.ref (ad 13), .int x1] u r u := by
  intro sz
  refine Met.ofW (cc := cX6_addressedTo) (maxL := 4) (ret := (some .int)) (by decide) rfl ?_
  intro p e s m args below meth c s₁ B hml hv
  obtain ⟨rfl, C, S⟩ := q_entry B hml hv
  have hl := lv_entry ([.ref (ad 13), .int x1]) (n := 4) (Nat.le_of_ble_eq_true rfl)
  rw [lg_entry_eq]
  generalize (lg_sl ([.ref (ad 13), .int x1]) ++ List.replicate (4 - (lg_sl ([.ref (ad 13), .int x1])).length) Slot.unset).toArray = ls at hl ⊢
  exact wX6_addressedTo_0 C ⟨Nat.le_refl _, Nat.le_refl _⟩ u x1 (lv_sub hl [0, 1] rfl) S h
noncomputable def fX7_canStir_42 (K2 : Int32 → Option Int32) (x1 : Int32) (u : Sg) : Option Int32 := bnd (x1 + 1) (fun v8 => K2 v8)
noncomputable def fX7_canStir_2 (u : Sg) : Nat → Int32 → Option Int32
  | 0, _ => none
  | n + 1, x1 => cnd ((u 0 0) ≤ x1) (some 0) (obr (fX7_isUp x1 u) (fun r3 => cnd (r3 = 0) (obr (fX7_isNoticed x1 u) (fun r6 => cnd (r6 = 0) (some 1) (fX7_canStir_42 (fun a0 => fX7_canStir_2 u n a0) x1 u))) (obr (fX1_hasOpen x1 u) (fun r10 => cnd (r10 = 0) (fX7_canStir_42 (fun a0 => fX7_canStir_2 u n a0) x1 u) (some 1)))))
noncomputable def fX7_canStir_0 (u : Sg) : Option Int32 := fX7_canStir_2 u FU 0
noncomputable def fX7_canStir (u : Sg) : Option Int32 := fX7_canStir_0 u
set_option maxRecDepth 10000 in
set_option maxHeartbeats 4000000 in
theorem wX7_canStir_42 (C : cx D (tyl cI cB cL) A RX7 cX7_canStir 2 (some .boolean) p s m args c meth) (hR : 2 ≤ R.frames ∧ 44 ≤ R.locals) {r : Int32} (u : Sg) {K2 : Int32 → Option Int32} (hK2 : ∀ (y1 : Int32) (H : Heap) (locs : List Loc) (ls : Array Slot), lv_has ls 2 [(0, .ref (ad 0)), (1, .int y1)] → st D (wN cI ad pa pl) A s u H locs → K2 y1 = some r → W p l e R s m args below meth c H locs 0 0 (MQ below (qI D (tyl cI cB cL) (wN cI ad pa pl) A r u) args s 0 0 A) (F0 m 2 ls [])) (x1 : Int32) {H : Heap} {locs : List Loc} {ls : Array Slot} (hl : lv_has ls 2 [(0, .ref (ad 0)), (1, .int x1)]) (S : st D (wN cI ad pa pl) A s u H locs) (h : fX7_canStir_42 K2 x1 u = some r) : W p l e R s m args below meth c H locs 0 0 (MQ below (qI D (tyl cI cB cL) (wN cI ad pa pl) A r u) args s 0 0 A) (F0 m 42 ls []) := by
  have hx := C.1
  have hb := C.2.1
  have hsz := hl.1
  unfold fX7_canStir_42 at h
  obtain ⟨v8, ev8⟩ : ∃ y : Int32, y = x1 + 1 := ⟨_, rfl⟩
  have h := bnd_of ev8 h
  refine lv_iinc (v := v8) (lv' := [(1, .int v8), (0, .ref (ad 0))]) hx hb dX7_canStir_42 hl (k := 1) rfl (by rw [ev8]; rfl) (by decide) rfl (fun ls hl => ?_)
  have hsz := hl.1
  refine lv_goto (tgt := 2) hx hb dX7_canStir_45 (by decide) ?_
  exact hK2 v8 H locs ls (lv_sub hl [1, 0] rfl) S h
set_option maxRecDepth 10000 in
set_option maxHeartbeats 4000000 in
theorem wX7_canStir_2 (C : cx D (tyl cI cB cL) A RX7 cX7_canStir 2 (some .boolean) p s m args c meth) (hR : 2 ≤ R.frames ∧ 44 ≤ R.locals) {r : Int32} (u : Sg) : ∀ (n : Nat) (x1 : Int32) (H : Heap) (locs : List Loc) (ls : Array Slot), lv_has ls 2 [(0, .ref (ad 0)), (1, .int x1)] → st D (wN cI ad pa pl) A s u H locs → fX7_canStir_2 u n x1 = some r → W p l e R s m args below meth c H locs 0 0 (MQ below (qI D (tyl cI cB cL) (wN cI ad pa pl) A r u) args s 0 0 A) (F0 m 2 ls []) := by
  have hx := C.1
  have hb := C.2.1
  intro n
  induction n with
  | zero =>
    intro x1 H locs ls hl S h
    cases h
  | succ n ih =>
    intro x1 H locs ls hl S h
    rw [fX7_canStir_2] at h
    have hsz := hl.1
    refine lv_iload_n hx hb dX7_canStir_2 rfl (lv_at hl 1 rfl) ?_
    refine lv_aload_n hx hb dX7_canStir_3 rfl (lv_at hl 0 rfl) ?_
    refine q_get (v := .int (u 0 0)) C S (oN0 cI ad pa pl) rfl iwX7 0 (by decide) mw_347 rfl dX7_canStir_4 ?_
    refine lv_icmp_ge (tgt := 48) hx hb dX7_canStir_7 (by decide) (fun c1 => ?_) (fun c1 => ?_)
    · have h := cnd_t c1 h
      refine lv_iconst (v := 0) hx hb dX7_canStir_48 (by decide) ?_
      exact q_zret C S rfl (rt_R h) dX7_canStir_49
    · have h := cnd_f c1 h
      refine lv_aload_n hx hb dX7_canStir_10 rfl (lv_at hl 0 rfl) ?_
      refine lv_iload_n hx hb dX7_canStir_11 rfl (lv_at hl 1 rfl) ?_
      obtain ⟨r3, h2, h⟩ := obr_some h
      refine q_callVi (As := [.int x1]) (na := 1) C S (oN0 cI ad pa pl) rfl (ct_X7_isUp l D cI cB cL ad pa pl x1 u h2) mw_343 mw_342 mw_344 mw_341 mw_340 hdX7_isUp ⟨Nat.le_trans (Nat.le_of_ble_eq_true rfl) hR.1, Nat.le_trans (Nat.le_of_ble_eq_true rfl) hR.2⟩ rfl hsz ⟨Nat.zero_le _, Nat.zero_le _⟩ (Nat.le_of_ble_eq_true rfl) dX7_canStir_12 rfl (fun H locs S => ?_)
      refine lv_if_eq (tgt := 32) hx hb dX7_canStir_15 (by decide) (fun c4 => ?_) (fun c4 => ?_)
      · have h := cnd_t c4 h
        refine lv_aload_n hx hb dX7_canStir_32 rfl (lv_at hl 0 rfl) ?_
        refine lv_iload_n hx hb dX7_canStir_33 rfl (lv_at hl 1 rfl) ?_
        obtain ⟨r6, h5, h⟩ := obr_some h
        refine q_callVi (As := [.int x1]) (na := 1) C S (oN0 cI ad pa pl) rfl (ct_X7_isNoticed l D cI cB cL ad pa pl x1 u h5) mw_350 mw_349 mw_351 mw_341 mw_348 hdX7_isNoticed ⟨Nat.le_trans (Nat.le_of_ble_eq_true rfl) hR.1, Nat.le_trans (Nat.le_of_ble_eq_true rfl) hR.2⟩ rfl hsz ⟨Nat.zero_le _, Nat.zero_le _⟩ (Nat.le_of_ble_eq_true rfl) dX7_canStir_34 rfl (fun H locs S => ?_)
        refine lv_if_ne (tgt := 42) hx hb dX7_canStir_37 (by decide) (fun c7 => ?_) (fun c7 => ?_)
        · have h := cnd_f c7 h
          exact wX7_canStir_42 C hR u ih x1 (lv_sub hl [0, 1] rfl) S h
        · have h := cnd_t c7 h
          refine lv_iconst (v := 1) hx hb dX7_canStir_40 (by decide) ?_
          exact q_zret C S rfl (rt_R h) dX7_canStir_41
      · have h := cnd_f c4 h
        refine lv_aload_n hx hb dX7_canStir_18 rfl (lv_at hl 0 rfl) ?_
        refine q_get (v := .ref (ad 5)) C S (oN0 cI ad pa pl) rfl iwX7 13 (by decide) mw_429 rfl dX7_canStir_19 ?_
        refine lv_iload_n hx hb dX7_canStir_22 rfl (lv_at hl 1 rfl) ?_
        obtain ⟨r10, h9, h⟩ := obr_some h
        refine q_callVi (As := [.int x1]) (na := 1) C S (oN5 cI ad pa pl) rfl (ct_X1_hasOpen l D cI cB cL ad pa pl x1 u h9) mw_432 mw_431 mw_433 mw_401 mw_430 hdX1_hasOpen ⟨Nat.le_trans (Nat.le_of_ble_eq_true rfl) hR.1, Nat.le_trans (Nat.le_of_ble_eq_true rfl) hR.2⟩ rfl hsz ⟨Nat.zero_le _, Nat.zero_le _⟩ (Nat.le_of_ble_eq_true rfl) dX7_canStir_23 rfl (fun H locs S => ?_)
        refine lv_if_eq (tgt := 42) hx hb dX7_canStir_26 (by decide) (fun c11 => ?_) (fun c11 => ?_)
        · have h := cnd_t c11 h
          exact wX7_canStir_42 C hR u ih x1 (lv_sub hl [0, 1] rfl) S h
        · have h := cnd_f c11 h
          refine lv_goto (tgt := 40) hx hb dX7_canStir_29 (by decide) ?_
          refine lv_iconst (v := 1) hx hb dX7_canStir_40 (by decide) ?_
          exact q_zret C S rfl (rt_R h) dX7_canStir_41
set_option maxRecDepth 10000 in
set_option maxHeartbeats 4000000 in
theorem wX7_canStir_0 (C : cx D (tyl cI cB cL) A RX7 cX7_canStir 2 (some .boolean) p s m args c meth) (hR : 2 ≤ R.frames ∧ 44 ≤ R.locals) {r : Int32} (u : Sg) {H : Heap} {locs : List Loc} {ls : Array Slot} (hl : lv_has ls 2 [(0, .ref (ad 0))]) (S : st D (wN cI ad pa pl) A s u H locs) (h : fX7_canStir_0 u = some r) : W p l e R s m args below meth c H locs 0 0 (MQ below (qI D (tyl cI cB cL) (wN cI ad pa pl) A r u) args s 0 0 A) (F0 m 0 ls []) := by
  have hx := C.1
  have hb := C.2.1
  have hsz := hl.1
  unfold fX7_canStir_0 at h
  refine lv_iconst (v := 0) hx hb dX7_canStir_0 (by decide) ?_
  refine lv_istore_n (lv' := [(1, .int 0), (0, .ref (ad 0))]) hx hb dX7_canStir_1 rfl hl (by decide) rfl (fun ls hl => ?_)
  have hsz := hl.1
  exact wX7_canStir_2 C hR u FU 0 H locs ls (lv_sub hl [1, 0] rfl) S h
set_option maxRecDepth 10000 in
set_option maxHeartbeats 4000000 in
theorem ct_X7_canStir (l : Launch) (D : va_G) (cI cB cL : ClassId) (ad : Nat → Nat) (pa pl : Nat) (u : Sg) {r : Int32} (h : fX7_canStir u = some r) : metI l D (tyl cI cB cL) yX7_canStir cX7_canStir 2 (some .boolean) 2 44 (wN cI ad pa pl) [.ref (ad 0)] u r u := by
  intro sz
  refine Met.ofW (cc := cX7_canStir) (maxL := 2) (ret := (some .boolean)) (by decide) rfl ?_
  intro p e s m args below meth c s₁ B hml hv
  obtain ⟨rfl, C, S⟩ := q_entry B hml hv
  have hl := lv_entry ([.ref (ad 0)]) (n := 2) (Nat.le_of_ble_eq_true rfl)
  rw [lg_entry_eq]
  generalize (lg_sl ([.ref (ad 0)]) ++ List.replicate (2 - (lg_sl ([.ref (ad 0)])).length) Slot.unset).toArray = ls at hl ⊢
  exact wX7_canStir_0 C ⟨Nat.le_refl _, Nat.le_refl _⟩ u (lv_sub hl [0] rfl) S h
noncomputable def fX7_messagesAt_42 (K5 : Int32 → Int32 → Int32 → Int32 → Option Int32) (x1 : Int32) (x2 : Int32) (x3 : Int32) (x4 : Int32) (u : Sg) : Option Int32 := bnd (x4 + 1) (fun v4 => K5 x1 x2 x3 v4)
noncomputable def fX7_messagesAt_5 (u : Sg) : Nat → Int32 → Int32 → Int32 → Int32 → Option Int32
  | 0, _, _, _, _ => none
  | n + 1, x1, x2, x3, x4 => cnd ((u 13 0) ≤ x4) (some x3) (grd (vp_in (fX11_spotOf x1 x4) 120) (cnd ((u 20 (((fX11_spotOf x1 x4) : Int32).toNatClampNeg)) = x2) (bnd (x3 ||| ((1 : Int32) <<< ((x4 &&& 31 : Int32)))) (fun v5 => fX7_messagesAt_42 (fun a0 a1 a2 a3 => fX7_messagesAt_5 u n a0 a1 a2 a3) x1 x2 v5 x4 u)) (fX7_messagesAt_42 (fun a0 a1 a2 a3 => fX7_messagesAt_5 u n a0 a1 a2 a3) x1 x2 x3 x4 u)))
noncomputable def fX7_messagesAt_0 (x1 : Int32) (x2 : Int32) (u : Sg) : Option Int32 := fX7_messagesAt_5 u FU x1 x2 0 0
noncomputable def fX7_messagesAt (x1 : Int32) (x2 : Int32) (u : Sg) : Option Int32 := fX7_messagesAt_0 x1 x2 u
set_option maxRecDepth 10000 in
set_option maxHeartbeats 4000000 in
theorem wX7_messagesAt_42 (C : cx D (tyl cI cB cL) A RX7 cX7_messagesAt 5 (some .int) p s m args c meth) (hR : 1 ≤ R.frames ∧ 21 ≤ R.locals) {r : Int32} (u : Sg) {K5 : Int32 → Int32 → Int32 → Int32 → Option Int32} (hK5 : ∀ (y1 : Int32) (y2 : Int32) (y3 : Int32) (y4 : Int32) (H : Heap) (locs : List Loc) (ls : Array Slot), lv_has ls 5 [(0, .ref (ad 0)), (1, .int y1), (2, .int y2), (3, .int y3), (4, .int y4)] → st D (wN cI ad pa pl) A s u H locs → K5 y1 y2 y3 y4 = some r → W p l e R s m args below meth c H locs 0 0 (MQ below (qI D (tyl cI cB cL) (wN cI ad pa pl) A r u) args s 0 0 A) (F0 m 5 ls [])) (x1 : Int32) (x2 : Int32) (x3 : Int32) (x4 : Int32) {H : Heap} {locs : List Loc} {ls : Array Slot} (hl : lv_has ls 5 [(0, .ref (ad 0)), (1, .int x1), (2, .int x2), (3, .int x3), (4, .int x4)]) (S : st D (wN cI ad pa pl) A s u H locs) (h : fX7_messagesAt_42 K5 x1 x2 x3 x4 u = some r) : W p l e R s m args below meth c H locs 0 0 (MQ below (qI D (tyl cI cB cL) (wN cI ad pa pl) A r u) args s 0 0 A) (F0 m 42 ls []) := by
  have hx := C.1
  have hb := C.2.1
  have hsz := hl.1
  unfold fX7_messagesAt_42 at h
  obtain ⟨v4, ev4⟩ : ∃ y : Int32, y = x4 + 1 := ⟨_, rfl⟩
  have h := bnd_of ev4 h
  refine lv_iinc (v := v4) (lv' := [(4, .int v4), (0, .ref (ad 0)), (1, .int x1), (2, .int x2), (3, .int x3)]) hx hb dX7_messagesAt_42 hl (k := 4) rfl (by rw [ev4]; rfl) (by decide) rfl (fun ls hl => ?_)
  have hsz := hl.1
  refine lv_goto (tgt := 5) hx hb dX7_messagesAt_45 (by decide) ?_
  exact hK5 x1 x2 x3 v4 H locs ls (lv_sub hl [1, 2, 3, 4, 0] rfl) S h
set_option maxRecDepth 10000 in
set_option maxHeartbeats 4000000 in
theorem wX7_messagesAt_5 (C : cx D (tyl cI cB cL) A RX7 cX7_messagesAt 5 (some .int) p s m args c meth) (hR : 1 ≤ R.frames ∧ 21 ≤ R.locals) {r : Int32} (u : Sg) : ∀ (n : Nat) (x1 : Int32) (x2 : Int32) (x3 : Int32) (x4 : Int32) (H : Heap) (locs : List Loc) (ls : Array Slot), lv_has ls 5 [(0, .ref (ad 0)), (1, .int x1), (2, .int x2), (3, .int x3), (4, .int x4)] → st D (wN cI ad pa pl) A s u H locs → fX7_messagesAt_5 u n x1 x2 x3 x4 = some r → W p l e R s m args below meth c H locs 0 0 (MQ below (qI D (tyl cI cB cL) (wN cI ad pa pl) A r u) args s 0 0 A) (F0 m 5 ls []) := by
  have hx := C.1
  have hb := C.2.1
  intro n
  induction n with
  | zero =>
    intro x1 x2 x3 x4 H locs ls hl S h
    cases h
  | succ n ih =>
    intro x1 x2 x3 x4 H locs ls hl S h
    rw [fX7_messagesAt_5] at h
    have hsz := hl.1
    refine lv_iload hx hb dX7_messagesAt_5 (lv_at hl 4 rfl) ?_
    refine lv_aload_n hx hb dX7_messagesAt_7 rfl (lv_at hl 0 rfl) ?_
    refine q_get (v := .ref (ad 13)) C S (oN0 cI ad pa pl) rfl iwX7 14 (by decide) mw_434 rfl dX7_messagesAt_8 ?_
    refine q_get (v := .int (u 13 0)) C S (oN13 cI ad pa pl) rfl iwX6 0 (by decide) mw_435 rfl dX7_messagesAt_11 ?_
    refine lv_icmp_ge (tgt := 48) hx hb dX7_messagesAt_14 (by decide) (fun c1 => ?_) (fun c1 => ?_)
    · have h := cnd_t c1 h
      refine lv_iload_n hx hb dX7_messagesAt_48 rfl (lv_at hl 3 rfl) ?_
      exact q_iret C S (rt_R h) dX7_messagesAt_49
    · have h := cnd_f c1 h
      refine lv_aload_n hx hb dX7_messagesAt_17 rfl (lv_at hl 0 rfl) ?_
      refine q_get (v := .ref (ad 19)) C S (oN0 cI ad pa pl) rfl iwX7 15 (by decide) mw_436 rfl dX7_messagesAt_18 ?_
      refine q_get (v := .ref (ad 20)) C S (oN19 cI ad pa pl) rfl iwX4 0 (by decide) mw_437 rfl dX7_messagesAt_21 ?_
      refine lv_iload_n hx hb dX7_messagesAt_24 rfl (lv_at hl 1 rfl) ?_
      refine lv_iload hx hb dX7_messagesAt_25 (lv_at hl 4 rfl) ?_
      refine q_callPN (As := [.int x1, .int x4]) (na := 2) C S (ct_X11_spotOf l D cI cB cL x1 x4) (List.mem_of_getElem? (i := 13) rfl) mw_322 mw_321 mw_320 hdX11_spotOf ⟨Nat.le_trans (Nat.le_of_ble_eq_true rfl) hR.1, Nat.le_trans (Nat.le_of_ble_eq_true rfl) hR.2⟩ rfl hsz ⟨Nat.zero_le _, Nat.zero_le _⟩ (Nat.le_of_ble_eq_true rfl) dX7_messagesAt_27 rfl (fun H locs S => ?_)
      obtain ⟨g2, h⟩ := grd_some h
      refine q_iald C S (aN20 cI ad pa pl) 0 rfl g2 dX7_messagesAt_30 (j := ((fX11_spotOf x1 x4) : Int32).toNatClampNeg) rfl ?_
      refine lv_iload_n hx hb dX7_messagesAt_31 rfl (lv_at hl 2 rfl) ?_
      refine lv_icmp_ne (tgt := 42) hx hb dX7_messagesAt_32 (by decide) (fun c3 => ?_) (fun c3 => ?_)
      · have h := cnd_f c3 h
        exact wX7_messagesAt_42 C hR u ih x1 x2 x3 x4 (lv_sub hl [0, 1, 2, 3, 4] rfl) S h
      · have h := cnd_t c3 h
        refine lv_iload_n hx hb dX7_messagesAt_35 rfl (lv_at hl 3 rfl) ?_
        refine lv_iconst (v := 1) hx hb dX7_messagesAt_36 (by decide) ?_
        refine lv_iload hx hb dX7_messagesAt_37 (lv_at hl 4 rfl) ?_
        refine lv_ishl hx hb dX7_messagesAt_39 ?_
        refine lv_ior hx hb dX7_messagesAt_40 ?_
        refine lv_topi (fun v5 ev5 => ?_)
        have h := bnd_of ev5 h
        refine lv_istore_n (lv' := [(3, .int v5), (0, .ref (ad 0)), (1, .int x1), (2, .int x2), (4, .int x4)]) hx hb dX7_messagesAt_41 rfl hl (by decide) rfl (fun ls hl => ?_)
        have hsz := hl.1
        exact wX7_messagesAt_42 C hR u ih x1 x2 v5 x4 (lv_sub hl [1, 2, 3, 0, 4] rfl) S h
set_option maxRecDepth 10000 in
set_option maxHeartbeats 4000000 in
theorem wX7_messagesAt_0 (C : cx D (tyl cI cB cL) A RX7 cX7_messagesAt 5 (some .int) p s m args c meth) (hR : 1 ≤ R.frames ∧ 21 ≤ R.locals) {r : Int32} (u : Sg) (x1 : Int32) (x2 : Int32) {H : Heap} {locs : List Loc} {ls : Array Slot} (hl : lv_has ls 5 [(0, .ref (ad 0)), (1, .int x1), (2, .int x2)]) (S : st D (wN cI ad pa pl) A s u H locs) (h : fX7_messagesAt_0 x1 x2 u = some r) : W p l e R s m args below meth c H locs 0 0 (MQ below (qI D (tyl cI cB cL) (wN cI ad pa pl) A r u) args s 0 0 A) (F0 m 0 ls []) := by
  have hx := C.1
  have hb := C.2.1
  have hsz := hl.1
  unfold fX7_messagesAt_0 at h
  refine lv_iconst (v := 0) hx hb dX7_messagesAt_0 (by decide) ?_
  refine lv_istore_n (lv' := [(3, .int 0), (0, .ref (ad 0)), (1, .int x1), (2, .int x2)]) hx hb dX7_messagesAt_1 rfl hl (by decide) rfl (fun ls hl => ?_)
  have hsz := hl.1
  refine lv_iconst (v := 0) hx hb dX7_messagesAt_2 (by decide) ?_
  refine lv_istore (lv' := [(4, .int 0), (3, .int 0), (0, .ref (ad 0)), (1, .int x1), (2, .int x2)]) hx hb dX7_messagesAt_3 hl (by decide) rfl (fun ls hl => ?_)
  have hsz := hl.1
  exact wX7_messagesAt_5 C hR u FU x1 x2 0 0 H locs ls (lv_sub hl [2, 3, 4, 1, 0] rfl) S h
set_option maxRecDepth 10000 in
set_option maxHeartbeats 4000000 in
theorem ct_X7_messagesAt (l : Launch) (D : va_G) (cI cB cL : ClassId) (ad : Nat → Nat) (pa pl : Nat) (x1 : Int32) (x2 : Int32) (u : Sg) {r : Int32} (h : fX7_messagesAt x1 x2 u = some r) : metI l D (tyl cI cB cL) yX7_messagesAt cX7_messagesAt 5 (some .int) 1 21 (wN cI ad pa pl) [.ref (ad 0), .int x1, .int x2] u r u := by
  intro sz
  refine Met.ofW (cc := cX7_messagesAt) (maxL := 5) (ret := (some .int)) (by decide) rfl ?_
  intro p e s m args below meth c s₁ B hml hv
  obtain ⟨rfl, C, S⟩ := q_entry B hml hv
  have hl := lv_entry ([.ref (ad 0), .int x1, .int x2]) (n := 5) (Nat.le_of_ble_eq_true rfl)
  rw [lg_entry_eq]
  generalize (lg_sl ([.ref (ad 0), .int x1, .int x2]) ++ List.replicate (5 - (lg_sl ([.ref (ad 0), .int x1, .int x2])).length) Slot.unset).toArray = ls at hl ⊢
  exact wX7_messagesAt_0 C ⟨Nat.le_refl _, Nat.le_refl _⟩ u x1 x2 (lv_sub hl [0, 1, 2] rfl) S h
noncomputable def fX7_goDown_0 (x1 : Int32) (u : Sg) : Option Sg := obr (fX7_isUp x1 u) (fun r2 => cnd (r2 = 0) (some u) (grd (vp_in x1 6) (bnd (s2 u 2 ((x1 : Int32).toNatClampNeg) (u 0 3)) (fun u5 => obr (fX5_add (u5 0 3) x1 2 (-1) u5) (fun u7 => some u7)))))
noncomputable def fX7_goDown (x1 : Int32) (u : Sg) : Option Sg := fX7_goDown_0 x1 u
set_option maxRecDepth 10000 in
set_option maxHeartbeats 4000000 in
theorem wX7_goDown_0 (C : cx D (tyl cI cB cL) A RX7 cX7_goDown 2 none p s m args c meth) (hR : 2 ≤ R.frames ∧ 46 ≤ R.locals) {σ' : Sg} (u : Sg) (x1 : Int32) {H : Heap} {locs : List Loc} {ls : Array Slot} (hl : lv_has ls 2 [(0, .ref (ad 0)), (1, .int x1)]) (S : st D (wN cI ad pa pl) A s u H locs) (h : fX7_goDown_0 x1 u = some σ') : W p l e R s m args below meth c H locs 0 0 (MQ below (qV D (tyl cI cB cL) (wN cI ad pa pl) A σ') args s 0 0 A) (F0 m 0 ls []) := by
  have hx := C.1
  have hb := C.2.1
  have hsz := hl.1
  unfold fX7_goDown_0 at h
  refine lv_aload_n hx hb dX7_goDown_0 rfl (lv_at hl 0 rfl) ?_
  refine lv_iload_n hx hb dX7_goDown_1 rfl (lv_at hl 1 rfl) ?_
  obtain ⟨r2, h1, h⟩ := obr_some h
  refine q_callVi (As := [.int x1]) (na := 1) C S (oN0 cI ad pa pl) rfl (ct_X7_isUp l D cI cB cL ad pa pl x1 u h1) mw_343 mw_342 mw_344 mw_341 mw_340 hdX7_isUp ⟨Nat.le_trans (Nat.le_of_ble_eq_true rfl) hR.1, Nat.le_trans (Nat.le_of_ble_eq_true rfl) hR.2⟩ rfl hsz ⟨Nat.zero_le _, Nat.zero_le _⟩ (Nat.le_of_ble_eq_true rfl) dX7_goDown_2 rfl (fun H locs S => ?_)
  refine lv_if_eq (tgt := 32) hx hb dX7_goDown_5 (by decide) (fun c3 => ?_) (fun c3 => ?_)
  · have h := cnd_t c3 h
    exact q_vret C S (Option.some.inj h) dX7_goDown_32
  · have h := cnd_f c3 h
    refine lv_aload_n hx hb dX7_goDown_8 rfl (lv_at hl 0 rfl) ?_
    refine q_get (v := .ref (ad 2)) C S (oN0 cI ad pa pl) rfl iwX7 10 (by decide) mw_339 rfl dX7_goDown_9 ?_
    refine lv_iload_n hx hb dX7_goDown_12 rfl (lv_at hl 1 rfl) ?_
    refine lv_aload_n hx hb dX7_goDown_13 rfl (lv_at hl 0 rfl) ?_
    refine q_get (v := .int (u 0 3)) C S (oN0 cI ad pa pl) rfl iwX7 3 (by decide) mw_345 rfl dX7_goDown_14 ?_
    obtain ⟨g4, h⟩ := grd_some h
    obtain ⟨u5, eu5⟩ : ∃ z : Sg, z = s2 u 2 ((x1 : Int32).toNatClampNeg) (u 0 3) := ⟨_, rfl⟩
    have h := bnd_of eu5 h
    refine q_iast C S (aN2 cI ad pa pl) 0 rfl g4 dX7_goDown_17 (j := (x1 : Int32).toNatClampNeg) rfl eu5 (fun H locs S => ?_)
    refine lv_aload_n hx hb dX7_goDown_18 rfl (lv_at hl 0 rfl) ?_
    refine q_get (v := .ref (ad 34)) C S (oN0 cI ad pa pl) rfl iwX7 18 (by decide) mw_438 rfl dX7_goDown_19 ?_
    refine lv_aload_n hx hb dX7_goDown_22 rfl (lv_at hl 0 rfl) ?_
    refine q_get (v := .int (u5 0 3)) C S (oN0 cI ad pa pl) rfl iwX7 3 (by decide) mw_345 rfl dX7_goDown_23 ?_
    refine lv_iload_n hx hb dX7_goDown_26 rfl (lv_at hl 1 rfl) ?_
    refine lv_iconst (v := 2) hx hb dX7_goDown_27 (by decide) ?_
    refine lv_iconst (v := (-1)) hx hb dX7_goDown_28 (by decide) ?_
    obtain ⟨u7, h6, h⟩ := obr_some h
    refine q_callVv (As := [.int (u5 0 3), .int x1, .int 2, .int (-1)]) (na := 4) C S (oN34 cI ad pa pl) rfl (ct_X5_add l D cI cB cL ad pa pl (u5 0 3) x1 2 (-1) u5 h6) mw_442 mw_441 mw_443 mw_440 mw_439 hdX5_add ⟨Nat.le_trans (Nat.le_of_ble_eq_true rfl) hR.1, Nat.le_trans (Nat.le_of_ble_eq_true rfl) hR.2⟩ rfl hsz ⟨Nat.zero_le _, Nat.zero_le _⟩ (Nat.le_of_ble_eq_true rfl) dX7_goDown_29 rfl (fun H locs S => ?_)
    exact q_vret C S (Option.some.inj h) dX7_goDown_32
set_option maxRecDepth 10000 in
set_option maxHeartbeats 4000000 in
theorem ct_X7_goDown (l : Launch) (D : va_G) (cI cB cL : ClassId) (ad : Nat → Nat) (pa pl : Nat) (x1 : Int32) (u : Sg) {σ' : Sg} (h : fX7_goDown x1 u = some σ') : metV l D (tyl cI cB cL) yX7_goDown cX7_goDown 2 2 46 (wN cI ad pa pl) [.ref (ad 0), .int x1] u σ' := by
  intro sz
  refine Met.ofW (cc := cX7_goDown) (maxL := 2) (ret := none) (by decide) rfl ?_
  intro p e s m args below meth c s₁ B hml hv
  obtain ⟨rfl, C, S⟩ := q_entry B hml hv
  have hl := lv_entry ([.ref (ad 0), .int x1]) (n := 2) (Nat.le_of_ble_eq_true rfl)
  rw [lg_entry_eq]
  generalize (lg_sl ([.ref (ad 0), .int x1]) ++ List.replicate (2 - (lg_sl ([.ref (ad 0), .int x1])).length) Slot.unset).toArray = ls at hl ⊢
  exact wX7_goDown_0 C ⟨Nat.le_refl _, Nat.le_refl _⟩ u x1 (lv_sub hl [0, 1] rfl) S h
noncomputable def fX7_canStart_0 (x1 : Int32) (u : Sg) : Option Int32 := obr (fX7_isUp x1 u) (fun r2 => cnd (r2 = 0) (some 0) (cnd (20 ≤ (u 13 0)) (some 0) (some 1)))
noncomputable def fX7_canStart (x1 : Int32) (u : Sg) : Option Int32 := fX7_canStart_0 x1 u
set_option maxRecDepth 10000 in
set_option maxHeartbeats 4000000 in
theorem wX7_canStart_0 (C : cx D (tyl cI cB cL) A RX7 cX7_canStart 2 (some .boolean) p s m args c meth) (hR : 1 ≤ R.frames ∧ 21 ≤ R.locals) {r : Int32} (u : Sg) (x1 : Int32) {H : Heap} {locs : List Loc} {ls : Array Slot} (hl : lv_has ls 2 [(0, .ref (ad 0)), (1, .int x1)]) (S : st D (wN cI ad pa pl) A s u H locs) (h : fX7_canStart_0 x1 u = some r) : W p l e R s m args below meth c H locs 0 0 (MQ below (qI D (tyl cI cB cL) (wN cI ad pa pl) A r u) args s 0 0 A) (F0 m 0 ls []) := by
  have hx := C.1
  have hb := C.2.1
  have hsz := hl.1
  unfold fX7_canStart_0 at h
  refine lv_aload_n hx hb dX7_canStart_0 rfl (lv_at hl 0 rfl) ?_
  refine lv_iload_n hx hb dX7_canStart_1 rfl (lv_at hl 1 rfl) ?_
  obtain ⟨r2, h1, h⟩ := obr_some h
  refine q_callVi (As := [.int x1]) (na := 1) C S (oN0 cI ad pa pl) rfl (ct_X7_isUp l D cI cB cL ad pa pl x1 u h1) mw_343 mw_342 mw_344 mw_341 mw_340 hdX7_isUp ⟨Nat.le_trans (Nat.le_of_ble_eq_true rfl) hR.1, Nat.le_trans (Nat.le_of_ble_eq_true rfl) hR.2⟩ rfl hsz ⟨Nat.zero_le _, Nat.zero_le _⟩ (Nat.le_of_ble_eq_true rfl) dX7_canStart_2 rfl (fun H locs S => ?_)
  refine lv_if_eq (tgt := 24) hx hb dX7_canStart_5 (by decide) (fun c3 => ?_) (fun c3 => ?_)
  · have h := cnd_t c3 h
    refine lv_iconst (v := 0) hx hb dX7_canStart_24 (by decide) ?_
    exact q_zret C S rfl (rt_R h) dX7_canStart_25
  · have h := cnd_f c3 h
    refine lv_aload_n hx hb dX7_canStart_8 rfl (lv_at hl 0 rfl) ?_
    refine q_get (v := .ref (ad 13)) C S (oN0 cI ad pa pl) rfl iwX7 14 (by decide) mw_434 rfl dX7_canStart_9 ?_
    refine q_get (v := .int (u 13 0)) C S (oN13 cI ad pa pl) rfl iwX6 0 (by decide) mw_435 rfl dX7_canStart_12 ?_
    refine lv_bipush (v := 20) hx hb dX7_canStart_15 (by decide) ?_
    refine lv_icmp_ge (tgt := 24) hx hb dX7_canStart_17 (by decide) (fun c4 => ?_) (fun c4 => ?_)
    · have h := cnd_t c4 h
      refine lv_iconst (v := 0) hx hb dX7_canStart_24 (by decide) ?_
      exact q_zret C S rfl (rt_R h) dX7_canStart_25
    · have h := cnd_f c4 h
      refine lv_iconst (v := 1) hx hb dX7_canStart_20 (by decide) ?_
      refine lv_goto (tgt := 25) hx hb dX7_canStart_21 (by decide) ?_
      exact q_zret C S rfl (rt_R h) dX7_canStart_25
set_option maxRecDepth 10000 in
set_option maxHeartbeats 4000000 in
theorem ct_X7_canStart (l : Launch) (D : va_G) (cI cB cL : ClassId) (ad : Nat → Nat) (pa pl : Nat) (x1 : Int32) (u : Sg) {r : Int32} (h : fX7_canStart x1 u = some r) : metI l D (tyl cI cB cL) yX7_canStart cX7_canStart 2 (some .boolean) 1 21 (wN cI ad pa pl) [.ref (ad 0), .int x1] u r u := by
  intro sz
  refine Met.ofW (cc := cX7_canStart) (maxL := 2) (ret := (some .boolean)) (by decide) rfl ?_
  intro p e s m args below meth c s₁ B hml hv
  obtain ⟨rfl, C, S⟩ := q_entry B hml hv
  have hl := lv_entry ([.ref (ad 0), .int x1]) (n := 2) (Nat.le_of_ble_eq_true rfl)
  rw [lg_entry_eq]
  generalize (lg_sl ([.ref (ad 0), .int x1]) ++ List.replicate (2 - (lg_sl ([.ref (ad 0), .int x1])).length) Slot.unset).toArray = ls at hl ⊢
  exact wX7_canStart_0 C ⟨Nat.le_refl _, Nat.le_refl _⟩ u x1 (lv_sub hl [0, 1] rfl) S h
noncomputable def fX7_propose_0 (x1 : Int32) (x2 : Int32) (u : Sg) : Option Sg := grd (vp_in x1 6) (grd (vp_in x1 6) (bnd (s2 u 3 ((x1 : Int32).toNatClampNeg) ((u 3 ((x1 : Int32).toNatClampNeg)) + 1)) (fun u3 => grd (vp_in x2 120) (bnd (s2 u3 20 ((x2 : Int32).toNatClampNeg) 1) (fun u5 => grd (vp_in x1 6) (grd (vp_in x2 120) (bnd (s2 u5 21 ((x2 : Int32).toNatClampNeg) (fX11_stampOf (u5 3 ((x1 : Int32).toNatClampNeg)) x1)) (fun u8 => some u8))))))))
noncomputable def fX7_propose (x1 : Int32) (x2 : Int32) (u : Sg) : Option Sg := fX7_propose_0 x1 x2 u
set_option maxRecDepth 10000 in
set_option maxHeartbeats 4000000 in
theorem wX7_propose_0 (C : cx D (tyl cI cB cL) A RX7 cX7_propose 3 none p s m args c meth) (hR : 1 ≤ R.frames ∧ 21 ≤ R.locals) {σ' : Sg} (u : Sg) (x1 : Int32) (x2 : Int32) {H : Heap} {locs : List Loc} {ls : Array Slot} (hl : lv_has ls 3 [(0, .ref (ad 0)), (1, .int x1), (2, .int x2)]) (S : st D (wN cI ad pa pl) A s u H locs) (h : fX7_propose_0 x1 x2 u = some σ') : W p l e R s m args below meth c H locs 0 0 (MQ below (qV D (tyl cI cB cL) (wN cI ad pa pl) A σ') args s 0 0 A) (F0 m 0 ls []) := by
  have hx := C.1
  have hb := C.2.1
  have hsz := hl.1
  unfold fX7_propose_0 at h
  refine lv_aload_n hx hb dX7_propose_0 rfl (lv_at hl 0 rfl) ?_
  refine q_get (v := .ref (ad 3)) C S (oN0 cI ad pa pl) rfl iwX7 11 (by decide) mw_444 rfl dX7_propose_1 ?_
  refine lv_iload_n hx hb dX7_propose_4 rfl (lv_at hl 1 rfl) ?_
  refine lv_dup2_11 hx hb dX7_propose_5 rfl rfl ?_
  obtain ⟨g1, h⟩ := grd_some h
  refine q_iald C S (aN3 cI ad pa pl) 0 rfl g1 dX7_propose_6 (j := (x1 : Int32).toNatClampNeg) rfl ?_
  refine lv_iconst (v := 1) hx hb dX7_propose_7 (by decide) ?_
  refine lv_iadd hx hb dX7_propose_8 ?_
  obtain ⟨g2, h⟩ := grd_some h
  obtain ⟨u3, eu3⟩ : ∃ z : Sg, z = s2 u 3 ((x1 : Int32).toNatClampNeg) ((u 3 ((x1 : Int32).toNatClampNeg)) + 1) := ⟨_, rfl⟩
  have h := bnd_of eu3 h
  refine q_iast C S (aN3 cI ad pa pl) 0 rfl g2 dX7_propose_9 (j := (x1 : Int32).toNatClampNeg) rfl eu3 (fun H locs S => ?_)
  refine lv_aload_n hx hb dX7_propose_10 rfl (lv_at hl 0 rfl) ?_
  refine q_get (v := .ref (ad 19)) C S (oN0 cI ad pa pl) rfl iwX7 15 (by decide) mw_436 rfl dX7_propose_11 ?_
  refine q_get (v := .ref (ad 20)) C S (oN19 cI ad pa pl) rfl iwX4 0 (by decide) mw_437 rfl dX7_propose_14 ?_
  refine lv_iload_n hx hb dX7_propose_17 rfl (lv_at hl 2 rfl) ?_
  refine lv_iconst (v := 1) hx hb dX7_propose_18 (by decide) ?_
  obtain ⟨g4, h⟩ := grd_some h
  obtain ⟨u5, eu5⟩ : ∃ z : Sg, z = s2 u3 20 ((x2 : Int32).toNatClampNeg) 1 := ⟨_, rfl⟩
  have h := bnd_of eu5 h
  refine q_iast C S (aN20 cI ad pa pl) 0 rfl g4 dX7_propose_19 (j := (x2 : Int32).toNatClampNeg) rfl eu5 (fun H locs S => ?_)
  refine lv_aload_n hx hb dX7_propose_20 rfl (lv_at hl 0 rfl) ?_
  refine q_get (v := .ref (ad 19)) C S (oN0 cI ad pa pl) rfl iwX7 15 (by decide) mw_436 rfl dX7_propose_21 ?_
  refine q_get (v := .ref (ad 21)) C S (oN19 cI ad pa pl) rfl iwX4 1 (by decide) mw_445 rfl dX7_propose_24 ?_
  refine lv_iload_n hx hb dX7_propose_27 rfl (lv_at hl 2 rfl) ?_
  refine lv_aload_n hx hb dX7_propose_28 rfl (lv_at hl 0 rfl) ?_
  refine q_get (v := .ref (ad 3)) C S (oN0 cI ad pa pl) rfl iwX7 11 (by decide) mw_444 rfl dX7_propose_29 ?_
  refine lv_iload_n hx hb dX7_propose_32 rfl (lv_at hl 1 rfl) ?_
  obtain ⟨g6, h⟩ := grd_some h
  refine q_iald C S (aN3 cI ad pa pl) 0 rfl g6 dX7_propose_33 (j := (x1 : Int32).toNatClampNeg) rfl ?_
  refine lv_iload_n hx hb dX7_propose_34 rfl (lv_at hl 1 rfl) ?_
  refine q_callPN (As := [.int (u5 3 ((x1 : Int32).toNatClampNeg)), .int x1]) (na := 2) C S (ct_X11_stampOf l D cI cB cL (u5 3 ((x1 : Int32).toNatClampNeg)) x1) (List.mem_of_getElem? (i := 16) rfl) mw_447 mw_321 mw_446 hdX11_stampOf ⟨Nat.le_trans (Nat.le_of_ble_eq_true rfl) hR.1, Nat.le_trans (Nat.le_of_ble_eq_true rfl) hR.2⟩ rfl hsz ⟨Nat.zero_le _, Nat.zero_le _⟩ (Nat.le_of_ble_eq_true rfl) dX7_propose_35 rfl (fun H locs S => ?_)
  obtain ⟨g7, h⟩ := grd_some h
  obtain ⟨u8, eu8⟩ : ∃ z : Sg, z = s2 u5 21 ((x2 : Int32).toNatClampNeg) (fX11_stampOf (u5 3 ((x1 : Int32).toNatClampNeg)) x1) := ⟨_, rfl⟩
  have h := bnd_of eu8 h
  refine q_iast C S (aN21 cI ad pa pl) 0 rfl g7 dX7_propose_38 (j := (x2 : Int32).toNatClampNeg) rfl eu8 (fun H locs S => ?_)
  exact q_vret C S (Option.some.inj h) dX7_propose_39
set_option maxRecDepth 10000 in
set_option maxHeartbeats 4000000 in
theorem ct_X7_propose (l : Launch) (D : va_G) (cI cB cL : ClassId) (ad : Nat → Nat) (pa pl : Nat) (x1 : Int32) (x2 : Int32) (u : Sg) {σ' : Sg} (h : fX7_propose x1 x2 u = some σ') : metV l D (tyl cI cB cL) yX7_propose cX7_propose 3 1 21 (wN cI ad pa pl) [.ref (ad 0), .int x1, .int x2] u σ' := by
  intro sz
  refine Met.ofW (cc := cX7_propose) (maxL := 3) (ret := none) (by decide) rfl ?_
  intro p e s m args below meth c s₁ B hml hv
  obtain ⟨rfl, C, S⟩ := q_entry B hml hv
  have hl := lv_entry ([.ref (ad 0), .int x1, .int x2]) (n := 3) (Nat.le_of_ble_eq_true rfl)
  rw [lg_entry_eq]
  generalize (lg_sl ([.ref (ad 0), .int x1, .int x2]) ++ List.replicate (3 - (lg_sl ([.ref (ad 0), .int x1, .int x2])).length) Slot.unset).toArray = ls at hl ⊢
  exact wX7_propose_0 C ⟨Nat.le_refl _, Nat.le_refl _⟩ u x1 x2 (lv_sub hl [0, 1, 2] rfl) S h
noncomputable def fX7_mustTakeOver_0 (x1 : Int32) (x2 : Int32) (u : Sg) : Option Int32 := bnd (fX11_spotOf x1 x2) (fun v1 => grd (vp_in v1 120) (cnd ((u 20 ((v1 : Int32).toNatClampNeg)) = 0) (some 0) (obr (fX3_isOn v1 u) (fun r5 => cnd (r5 = 0) (grd (vp_in v1 120) (obr (fX7_isNoticed (u 22 ((v1 : Int32).toNatClampNeg)) u) (fun r9 => cnd (r9 = 0) (some 0) (grd (vp_in x2 20) (obr (fX7_noticedNodes u) (fun r13 => bnd ((u 15 ((x2 : Int32).toNatClampNeg)) &&& (r13 ^^^ (-1))) (fun v14 => bnd (((1 : Int32) <<< ((x1 &&& 31 : Int32))) - 1) (fun v15 => cnd ((fX11_isIn v14 x1) = 0) (some 0) (cnd ((v14 &&& v15) = 0) (some 1) (some 0)))))))))) (some 0)))))
noncomputable def fX7_mustTakeOver (x1 : Int32) (x2 : Int32) (u : Sg) : Option Int32 := fX7_mustTakeOver_0 x1 x2 u
set_option maxRecDepth 10000 in
set_option maxHeartbeats 4000000 in
theorem wX7_mustTakeOver_0 (C : cx D (tyl cI cB cL) A RX7 cX7_mustTakeOver 6 (some .boolean) p s m args c meth) (hR : 3 ≤ R.frames ∧ 64 ≤ R.locals) {r : Int32} (u : Sg) (x1 : Int32) (x2 : Int32) {H : Heap} {locs : List Loc} {ls : Array Slot} (hl : lv_has ls 6 [(0, .ref (ad 0)), (1, .int x1), (2, .int x2)]) (S : st D (wN cI ad pa pl) A s u H locs) (h : fX7_mustTakeOver_0 x1 x2 u = some r) : W p l e R s m args below meth c H locs 0 0 (MQ below (qI D (tyl cI cB cL) (wN cI ad pa pl) A r u) args s 0 0 A) (F0 m 0 ls []) := by
  have hx := C.1
  have hb := C.2.1
  have hsz := hl.1
  unfold fX7_mustTakeOver_0 at h
  refine lv_iload_n hx hb dX7_mustTakeOver_0 rfl (lv_at hl 1 rfl) ?_
  refine lv_iload_n hx hb dX7_mustTakeOver_1 rfl (lv_at hl 2 rfl) ?_
  refine q_callPN (As := [.int x1, .int x2]) (na := 2) C S (ct_X11_spotOf l D cI cB cL x1 x2) (List.mem_of_getElem? (i := 13) rfl) mw_322 mw_321 mw_320 hdX11_spotOf ⟨Nat.le_trans (Nat.le_of_ble_eq_true rfl) hR.1, Nat.le_trans (Nat.le_of_ble_eq_true rfl) hR.2⟩ rfl hsz ⟨Nat.zero_le _, Nat.zero_le _⟩ (Nat.le_of_ble_eq_true rfl) dX7_mustTakeOver_2 rfl (fun H locs S => ?_)
  refine lv_topi (fun v1 ev1 => ?_)
  have h := bnd_of ev1 h
  refine lv_istore_n (lv' := [(3, .int v1), (0, .ref (ad 0)), (1, .int x1), (2, .int x2)]) hx hb dX7_mustTakeOver_5 rfl hl (by decide) rfl (fun ls hl => ?_)
  have hsz := hl.1
  refine lv_aload_n hx hb dX7_mustTakeOver_6 rfl (lv_at hl 1 rfl) ?_
  refine q_get (v := .ref (ad 19)) C S (oN0 cI ad pa pl) rfl iwX7 15 (by decide) mw_436 rfl dX7_mustTakeOver_7 ?_
  refine q_get (v := .ref (ad 20)) C S (oN19 cI ad pa pl) rfl iwX4 0 (by decide) mw_437 rfl dX7_mustTakeOver_10 ?_
  refine lv_iload_n hx hb dX7_mustTakeOver_13 rfl (lv_at hl 0 rfl) ?_
  obtain ⟨g2, h⟩ := grd_some h
  refine q_iald C S (aN20 cI ad pa pl) 0 rfl g2 dX7_mustTakeOver_14 (j := (v1 : Int32).toNatClampNeg) rfl ?_
  refine lv_if_eq (tgt := 45) hx hb dX7_mustTakeOver_15 (by decide) (fun c3 => ?_) (fun c3 => ?_)
  · have h := cnd_t c3 h
    refine lv_iconst (v := 0) hx hb dX7_mustTakeOver_45 (by decide) ?_
    exact q_zret C S rfl (rt_R h) dX7_mustTakeOver_46
  · have h := cnd_f c3 h
    refine lv_aload_n hx hb dX7_mustTakeOver_18 rfl (lv_at hl 1 rfl) ?_
    refine q_get (v := .ref (ad 26)) C S (oN0 cI ad pa pl) rfl iwX7 16 (by decide) mw_448 rfl dX7_mustTakeOver_19 ?_
    refine lv_iload_n hx hb dX7_mustTakeOver_22 rfl (lv_at hl 0 rfl) ?_
    obtain ⟨r5, h4, h⟩ := obr_some h
    refine q_callVi (As := [.int v1]) (na := 1) C S (oN26 cI ad pa pl) rfl (ct_X3_isOn l D cI cB cL ad pa pl v1 u h4) mw_449 mw_327 mw_329 mw_326 mw_325 hdX3_isOn ⟨Nat.le_trans (Nat.le_of_ble_eq_true rfl) hR.1, Nat.le_trans (Nat.le_of_ble_eq_true rfl) hR.2⟩ rfl hsz ⟨Nat.zero_le _, Nat.zero_le _⟩ (Nat.le_of_ble_eq_true rfl) dX7_mustTakeOver_23 rfl (fun H locs S => ?_)
    refine lv_if_ne (tgt := 45) hx hb dX7_mustTakeOver_26 (by decide) (fun c6 => ?_) (fun c6 => ?_)
    · have h := cnd_f c6 h
      refine lv_iconst (v := 0) hx hb dX7_mustTakeOver_45 (by decide) ?_
      exact q_zret C S rfl (rt_R h) dX7_mustTakeOver_46
    · have h := cnd_t c6 h
      refine lv_aload_n hx hb dX7_mustTakeOver_29 rfl (lv_at hl 1 rfl) ?_
      refine lv_aload_n hx hb dX7_mustTakeOver_30 rfl (lv_at hl 1 rfl) ?_
      refine q_get (v := .ref (ad 19)) C S (oN0 cI ad pa pl) rfl iwX7 15 (by decide) mw_436 rfl dX7_mustTakeOver_31 ?_
      refine q_get (v := .ref (ad 22)) C S (oN19 cI ad pa pl) rfl iwX4 2 (by decide) mw_450 rfl dX7_mustTakeOver_34 ?_
      refine lv_iload_n hx hb dX7_mustTakeOver_37 rfl (lv_at hl 0 rfl) ?_
      obtain ⟨g7, h⟩ := grd_some h
      refine q_iald C S (aN22 cI ad pa pl) 0 rfl g7 dX7_mustTakeOver_38 (j := (v1 : Int32).toNatClampNeg) rfl ?_
      obtain ⟨r9, h8, h⟩ := obr_some h
      refine q_callVi (As := [.int (u 22 ((v1 : Int32).toNatClampNeg))]) (na := 1) C S (oN0 cI ad pa pl) rfl (ct_X7_isNoticed l D cI cB cL ad pa pl (u 22 ((v1 : Int32).toNatClampNeg)) u h8) mw_350 mw_349 mw_351 mw_341 mw_348 hdX7_isNoticed ⟨Nat.le_trans (Nat.le_of_ble_eq_true rfl) hR.1, Nat.le_trans (Nat.le_of_ble_eq_true rfl) hR.2⟩ rfl hsz ⟨Nat.zero_le _, Nat.zero_le _⟩ (Nat.le_of_ble_eq_true rfl) dX7_mustTakeOver_39 rfl (fun H locs S => ?_)
      refine lv_if_ne (tgt := 47) hx hb dX7_mustTakeOver_42 (by decide) (fun c10 => ?_) (fun c10 => ?_)
      · have h := cnd_f c10 h
        refine lv_aload_n hx hb dX7_mustTakeOver_47 rfl (lv_at hl 1 rfl) ?_
        refine q_get (v := .ref (ad 13)) C S (oN0 cI ad pa pl) rfl iwX7 14 (by decide) mw_434 rfl dX7_mustTakeOver_48 ?_
        refine q_get (v := .ref (ad 15)) C S (oN13 cI ad pa pl) rfl iwX6 2 (by decide) mw_451 rfl dX7_mustTakeOver_51 ?_
        refine lv_iload_n hx hb dX7_mustTakeOver_54 rfl (lv_at hl 3 rfl) ?_
        obtain ⟨g11, h⟩ := grd_some h
        refine q_iald C S (aN15 cI ad pa pl) 0 rfl g11 dX7_mustTakeOver_55 (j := (x2 : Int32).toNatClampNeg) rfl ?_
        refine lv_aload_n hx hb dX7_mustTakeOver_56 rfl (lv_at hl 1 rfl) ?_
        obtain ⟨r13, h12, h⟩ := obr_some h
        refine q_callVi (As := []) (na := 0) C S (oN0 cI ad pa pl) rfl (ct_X7_noticedNodes l D cI cB cL ad pa pl u h12) mw_452 mw_354 mw_356 mw_341 mw_353 hdX7_noticedNodes ⟨Nat.le_trans (Nat.le_of_ble_eq_true rfl) hR.1, Nat.le_trans (Nat.le_of_ble_eq_true rfl) hR.2⟩ rfl hsz ⟨Nat.zero_le _, Nat.zero_le _⟩ (Nat.le_of_ble_eq_true rfl) dX7_mustTakeOver_57 rfl (fun H locs S => ?_)
        refine lv_iconst (v := (-1)) hx hb dX7_mustTakeOver_60 (by decide) ?_
        refine lv_ixor hx hb dX7_mustTakeOver_61 ?_
        refine lv_iand hx hb dX7_mustTakeOver_62 ?_
        refine lv_topi (fun v14 ev14 => ?_)
        have h := bnd_of ev14 h
        refine lv_istore (lv' := [(4, .int v14), (3, .int v1), (0, .ref (ad 0)), (1, .int x1), (2, .int x2)]) hx hb dX7_mustTakeOver_63 hl (by decide) rfl (fun ls hl => ?_)
        have hsz := hl.1
        refine lv_iconst (v := 1) hx hb dX7_mustTakeOver_65 (by decide) ?_
        refine lv_iload_n hx hb dX7_mustTakeOver_66 rfl (lv_at hl 3 rfl) ?_
        refine lv_ishl hx hb dX7_mustTakeOver_67 ?_
        refine lv_iconst (v := 1) hx hb dX7_mustTakeOver_68 (by decide) ?_
        refine lv_isub hx hb dX7_mustTakeOver_69 ?_
        refine lv_topi (fun v15 ev15 => ?_)
        have h := bnd_of ev15 h
        refine lv_istore (lv' := [(5, .int v15), (4, .int v14), (3, .int v1), (0, .ref (ad 0)), (1, .int x1), (2, .int x2)]) hx hb dX7_mustTakeOver_70 hl (by decide) rfl (fun ls hl => ?_)
        have hsz := hl.1
        refine lv_iload hx hb dX7_mustTakeOver_72 (lv_at hl 1 rfl) ?_
        refine lv_iload_n hx hb dX7_mustTakeOver_74 rfl (lv_at hl 4 rfl) ?_
        refine q_callPN (As := [.int v14, .int x1]) (na := 2) C S (ct_X11_isIn l D cI cB cL v14 x1) (List.mem_of_getElem? (i := 14) rfl) mw_360 mw_321 mw_359 hdX11_isIn ⟨Nat.le_trans (Nat.le_of_ble_eq_true rfl) hR.1, Nat.le_trans (Nat.le_of_ble_eq_true rfl) hR.2⟩ rfl hsz ⟨Nat.zero_le _, Nat.zero_le _⟩ (Nat.le_of_ble_eq_true rfl) dX7_mustTakeOver_75 rfl (fun H locs S => ?_)
        refine lv_if_eq (tgt := 93) hx hb dX7_mustTakeOver_78 (by decide) (fun c16 => ?_) (fun c16 => ?_)
        · have h := cnd_t c16 h
          refine lv_iconst (v := 0) hx hb dX7_mustTakeOver_93 (by decide) ?_
          exact q_zret C S rfl (rt_R h) dX7_mustTakeOver_94
        · have h := cnd_f c16 h
          refine lv_iload hx hb dX7_mustTakeOver_81 (lv_at hl 1 rfl) ?_
          refine lv_iload hx hb dX7_mustTakeOver_83 (lv_at hl 0 rfl) ?_
          refine lv_iand hx hb dX7_mustTakeOver_85 ?_
          refine lv_if_ne (tgt := 93) hx hb dX7_mustTakeOver_86 (by decide) (fun c17 => ?_) (fun c17 => ?_)
          · have h := cnd_f c17 h
            refine lv_iconst (v := 0) hx hb dX7_mustTakeOver_93 (by decide) ?_
            exact q_zret C S rfl (rt_R h) dX7_mustTakeOver_94
          · have h := cnd_t c17 h
            refine lv_iconst (v := 1) hx hb dX7_mustTakeOver_89 (by decide) ?_
            refine lv_goto (tgt := 94) hx hb dX7_mustTakeOver_90 (by decide) ?_
            exact q_zret C S rfl (rt_R h) dX7_mustTakeOver_94
      · have h := cnd_t c10 h
        refine lv_iconst (v := 0) hx hb dX7_mustTakeOver_45 (by decide) ?_
        exact q_zret C S rfl (rt_R h) dX7_mustTakeOver_46
set_option maxRecDepth 10000 in
set_option maxHeartbeats 4000000 in
theorem ct_X7_mustTakeOver (l : Launch) (D : va_G) (cI cB cL : ClassId) (ad : Nat → Nat) (pa pl : Nat) (x1 : Int32) (x2 : Int32) (u : Sg) {r : Int32} (h : fX7_mustTakeOver x1 x2 u = some r) : metI l D (tyl cI cB cL) yX7_mustTakeOver cX7_mustTakeOver 6 (some .boolean) 3 64 (wN cI ad pa pl) [.ref (ad 0), .int x1, .int x2] u r u := by
  intro sz
  refine Met.ofW (cc := cX7_mustTakeOver) (maxL := 6) (ret := (some .boolean)) (by decide) rfl ?_
  intro p e s m args below meth c s₁ B hml hv
  obtain ⟨rfl, C, S⟩ := q_entry B hml hv
  have hl := lv_entry ([.ref (ad 0), .int x1, .int x2]) (n := 6) (Nat.le_of_ble_eq_true rfl)
  rw [lg_entry_eq]
  generalize (lg_sl ([.ref (ad 0), .int x1, .int x2]) ++ List.replicate (6 - (lg_sl ([.ref (ad 0), .int x1, .int x2])).length) Slot.unset).toArray = ls at hl ⊢
  exact wX7_mustTakeOver_0 C ⟨Nat.le_refl _, Nat.le_refl _⟩ u x1 x2 (lv_sub hl [0, 1, 2] rfl) S h
noncomputable def fX7_isFull_0 (x1 : Int32) (x2 : Int32) (u : Sg) : Option Int32 := bnd (fX11_spotOf x1 x2) (fun v1 => obr (fX3_isOn v1 u) (fun r3 => cnd (r3 = 0) (some 0) (grd (vp_in x2 20) (grd (vp_in v1 120) (obr (fX7_noticedNodes u) (fun r8 => cnd ((((u 15 ((x2 : Int32).toNatClampNeg)) &&& ((u 27 ((v1 : Int32).toNatClampNeg)) ^^^ (-1))) &&& (r8 ^^^ (-1))) = 0) (some 1) (some 0)))))))
noncomputable def fX7_isFull (x1 : Int32) (x2 : Int32) (u : Sg) : Option Int32 := fX7_isFull_0 x1 x2 u
set_option maxRecDepth 10000 in
set_option maxHeartbeats 4000000 in
theorem wX7_isFull_0 (C : cx D (tyl cI cB cL) A RX7 cX7_isFull 4 (some .boolean) p s m args c meth) (hR : 3 ≤ R.frames ∧ 64 ≤ R.locals) {r : Int32} (u : Sg) (x1 : Int32) (x2 : Int32) {H : Heap} {locs : List Loc} {ls : Array Slot} (hl : lv_has ls 4 [(0, .ref (ad 0)), (1, .int x1), (2, .int x2)]) (S : st D (wN cI ad pa pl) A s u H locs) (h : fX7_isFull_0 x1 x2 u = some r) : W p l e R s m args below meth c H locs 0 0 (MQ below (qI D (tyl cI cB cL) (wN cI ad pa pl) A r u) args s 0 0 A) (F0 m 0 ls []) := by
  have hx := C.1
  have hb := C.2.1
  have hsz := hl.1
  unfold fX7_isFull_0 at h
  refine lv_iload_n hx hb dX7_isFull_0 rfl (lv_at hl 1 rfl) ?_
  refine lv_iload_n hx hb dX7_isFull_1 rfl (lv_at hl 2 rfl) ?_
  refine q_callPN (As := [.int x1, .int x2]) (na := 2) C S (ct_X11_spotOf l D cI cB cL x1 x2) (List.mem_of_getElem? (i := 13) rfl) mw_322 mw_321 mw_320 hdX11_spotOf ⟨Nat.le_trans (Nat.le_of_ble_eq_true rfl) hR.1, Nat.le_trans (Nat.le_of_ble_eq_true rfl) hR.2⟩ rfl hsz ⟨Nat.zero_le _, Nat.zero_le _⟩ (Nat.le_of_ble_eq_true rfl) dX7_isFull_2 rfl (fun H locs S => ?_)
  refine lv_topi (fun v1 ev1 => ?_)
  have h := bnd_of ev1 h
  refine lv_istore_n (lv' := [(3, .int v1), (0, .ref (ad 0)), (1, .int x1), (2, .int x2)]) hx hb dX7_isFull_5 rfl hl (by decide) rfl (fun ls hl => ?_)
  have hsz := hl.1
  refine lv_aload_n hx hb dX7_isFull_6 rfl (lv_at hl 1 rfl) ?_
  refine q_get (v := .ref (ad 26)) C S (oN0 cI ad pa pl) rfl iwX7 16 (by decide) mw_448 rfl dX7_isFull_7 ?_
  refine lv_iload_n hx hb dX7_isFull_10 rfl (lv_at hl 0 rfl) ?_
  obtain ⟨r3, h2, h⟩ := obr_some h
  refine q_callVi (As := [.int v1]) (na := 1) C S (oN26 cI ad pa pl) rfl (ct_X3_isOn l D cI cB cL ad pa pl v1 u h2) mw_449 mw_327 mw_329 mw_326 mw_325 hdX3_isOn ⟨Nat.le_trans (Nat.le_of_ble_eq_true rfl) hR.1, Nat.le_trans (Nat.le_of_ble_eq_true rfl) hR.2⟩ rfl hsz ⟨Nat.zero_le _, Nat.zero_le _⟩ (Nat.le_of_ble_eq_true rfl) dX7_isFull_11 rfl (fun H locs S => ?_)
  refine lv_if_eq (tgt := 52) hx hb dX7_isFull_14 (by decide) (fun c4 => ?_) (fun c4 => ?_)
  · have h := cnd_t c4 h
    refine lv_iconst (v := 0) hx hb dX7_isFull_52 (by decide) ?_
    exact q_zret C S rfl (rt_R h) dX7_isFull_53
  · have h := cnd_f c4 h
    refine lv_aload_n hx hb dX7_isFull_17 rfl (lv_at hl 1 rfl) ?_
    refine q_get (v := .ref (ad 13)) C S (oN0 cI ad pa pl) rfl iwX7 14 (by decide) mw_434 rfl dX7_isFull_18 ?_
    refine q_get (v := .ref (ad 15)) C S (oN13 cI ad pa pl) rfl iwX6 2 (by decide) mw_451 rfl dX7_isFull_21 ?_
    refine lv_iload_n hx hb dX7_isFull_24 rfl (lv_at hl 3 rfl) ?_
    obtain ⟨g5, h⟩ := grd_some h
    refine q_iald C S (aN15 cI ad pa pl) 0 rfl g5 dX7_isFull_25 (j := (x2 : Int32).toNatClampNeg) rfl ?_
    refine lv_aload_n hx hb dX7_isFull_26 rfl (lv_at hl 1 rfl) ?_
    refine q_get (v := .ref (ad 26)) C S (oN0 cI ad pa pl) rfl iwX7 16 (by decide) mw_448 rfl dX7_isFull_27 ?_
    refine q_get (v := .ref (ad 27)) C S (oN26 cI ad pa pl) rfl iwX3 0 (by decide) mw_453 rfl dX7_isFull_30 ?_
    refine lv_iload_n hx hb dX7_isFull_33 rfl (lv_at hl 0 rfl) ?_
    obtain ⟨g6, h⟩ := grd_some h
    refine q_iald C S (aN27 cI ad pa pl) 0 rfl g6 dX7_isFull_34 (j := (v1 : Int32).toNatClampNeg) rfl ?_
    refine lv_iconst (v := (-1)) hx hb dX7_isFull_35 (by decide) ?_
    refine lv_ixor hx hb dX7_isFull_36 ?_
    refine lv_iand hx hb dX7_isFull_37 ?_
    refine lv_aload_n hx hb dX7_isFull_38 rfl (lv_at hl 1 rfl) ?_
    obtain ⟨r8, h7, h⟩ := obr_some h
    refine q_callVi (As := []) (na := 0) C S (oN0 cI ad pa pl) rfl (ct_X7_noticedNodes l D cI cB cL ad pa pl u h7) mw_452 mw_354 mw_356 mw_341 mw_353 hdX7_noticedNodes ⟨Nat.le_trans (Nat.le_of_ble_eq_true rfl) hR.1, Nat.le_trans (Nat.le_of_ble_eq_true rfl) hR.2⟩ rfl hsz ⟨Nat.zero_le _, Nat.zero_le _⟩ (Nat.le_of_ble_eq_true rfl) dX7_isFull_39 rfl (fun H locs S => ?_)
    refine lv_iconst (v := (-1)) hx hb dX7_isFull_42 (by decide) ?_
    refine lv_ixor hx hb dX7_isFull_43 ?_
    refine lv_iand hx hb dX7_isFull_44 ?_
    refine lv_if_ne (tgt := 52) hx hb dX7_isFull_45 (by decide) (fun c9 => ?_) (fun c9 => ?_)
    · have h := cnd_f c9 h
      refine lv_iconst (v := 0) hx hb dX7_isFull_52 (by decide) ?_
      exact q_zret C S rfl (rt_R h) dX7_isFull_53
    · have h := cnd_t c9 h
      refine lv_iconst (v := 1) hx hb dX7_isFull_48 (by decide) ?_
      refine lv_goto (tgt := 53) hx hb dX7_isFull_49 (by decide) ?_
      exact q_zret C S rfl (rt_R h) dX7_isFull_53
set_option maxRecDepth 10000 in
set_option maxHeartbeats 4000000 in
theorem ct_X7_isFull (l : Launch) (D : va_G) (cI cB cL : ClassId) (ad : Nat → Nat) (pa pl : Nat) (x1 : Int32) (x2 : Int32) (u : Sg) {r : Int32} (h : fX7_isFull x1 x2 u = some r) : metI l D (tyl cI cB cL) yX7_isFull cX7_isFull 4 (some .boolean) 3 64 (wN cI ad pa pl) [.ref (ad 0), .int x1, .int x2] u r u := by
  intro sz
  refine Met.ofW (cc := cX7_isFull) (maxL := 4) (ret := (some .boolean)) (by decide) rfl ?_
  intro p e s m args below meth c s₁ B hml hv
  obtain ⟨rfl, C, S⟩ := q_entry B hml hv
  have hl := lv_entry ([.ref (ad 0), .int x1, .int x2]) (n := 4) (Nat.le_of_ble_eq_true rfl)
  rw [lg_entry_eq]
  generalize (lg_sl ([.ref (ad 0), .int x1, .int x2]) ++ List.replicate (4 - (lg_sl ([.ref (ad 0), .int x1, .int x2])).length) Slot.unset).toArray = ls at hl ⊢
  exact wX7_isFull_0 C ⟨Nat.le_refl _, Nat.le_refl _⟩ u x1 x2 (lv_sub hl [0, 1, 2] rfl) S h
noncomputable def fX7_handOutAll_115 (K4 : Int32 → Int32 → Sg → Option (Int32 × Sg)) (x1 : Int32) (x2 : Int32) (u : Sg) : Option (Int32 × Sg) := bnd (x2 + 1) (fun v3 => K4 x1 v3 u)
noncomputable def fX7_handOutAll_14 (K4 : Int32 → Int32 → Sg → Option (Int32 × Sg)) : Nat → Int32 → Int32 → Int32 → Sg → Option (Int32 × Sg)
  | 0, _, _, _, _ => none
  | n + 1, x1, x2, x3, u => cnd ((u 13 0) ≤ x3) (fX7_handOutAll_115 K4 x1 x2 u) (obr (fX7_isUp x2 u) (fun r5 => cnd (r5 = 0) (fX7_handOutAll_115 K4 x1 x2 u) (obr (fX4_leastPending x2 (u 13 0) u) (fun r8 => cnd (r8 = (-1)) (fX7_handOutAll_115 K4 x1 x2 u) (grd (vp_in (fX11_spotOf x2 r8) 120) (cnd ((u 20 (((fX11_spotOf x2 r8) : Int32).toNatClampNeg)) = 2) (obr (fX4_handOut x2 r8 (u 0 3) u) (fun u13 => obr (fX5_add (u13 0 3) x2 1 r8 u13) (fun u15 => bnd (x1 + 1) (fun v16 => bnd (x3 + 1) (fun v17 => fX7_handOutAll_14 K4 n v16 x2 v17 u15))))) (fX7_handOutAll_115 K4 x1 x2 u)))))))
noncomputable def fX7_handOutAll_4 : Nat → Int32 → Int32 → Sg → Option (Int32 × Sg)
  | 0, _, _, _ => none
  | n + 1, x1, x2, u => cnd ((u 0 0) ≤ x2) (some (x1, u)) (fX7_handOutAll_14 (fun a0 a1 w => fX7_handOutAll_4 n a0 a1 w) FU x1 x2 0 u)
noncomputable def fX7_handOutAll_0 (u : Sg) : Option (Int32 × Sg) := fX7_handOutAll_4 FU 0 0 u
noncomputable def fX7_handOutAll (u : Sg) : Option (Int32 × Sg) := fX7_handOutAll_0 u
set_option maxRecDepth 10000 in
set_option maxHeartbeats 4000000 in
theorem wX7_handOutAll_115 (C : cx D (tyl cI cB cL) A RX7 cX7_handOutAll 5 (some .int) p s m args c meth) (hR : 2 ≤ R.frames ∧ 46 ≤ R.locals) {r : Int32} {σ' : Sg} (u : Sg) {K4 : Int32 → Int32 → Sg → Option (Int32 × Sg)} (hK4 : ∀ (y1 : Int32) (y2 : Int32) (v : Sg) (H : Heap) (locs : List Loc) (ls : Array Slot), lv_has ls 5 [(0, .ref (ad 0)), (1, .int y1), (2, .int y2)] → st D (wN cI ad pa pl) A s v H locs → K4 y1 y2 v = some (r, σ') → W p l e R s m args below meth c H locs 0 0 (MQ below (qI D (tyl cI cB cL) (wN cI ad pa pl) A r σ') args s 0 0 A) (F0 m 4 ls [])) (x1 : Int32) (x2 : Int32) {H : Heap} {locs : List Loc} {ls : Array Slot} (hl : lv_has ls 5 [(0, .ref (ad 0)), (1, .int x1), (2, .int x2)]) (S : st D (wN cI ad pa pl) A s u H locs) (h : fX7_handOutAll_115 K4 x1 x2 u = some (r, σ')) : W p l e R s m args below meth c H locs 0 0 (MQ below (qI D (tyl cI cB cL) (wN cI ad pa pl) A r σ') args s 0 0 A) (F0 m 115 ls []) := by
  have hx := C.1
  have hb := C.2.1
  have hsz := hl.1
  unfold fX7_handOutAll_115 at h
  obtain ⟨v3, ev3⟩ : ∃ y : Int32, y = x2 + 1 := ⟨_, rfl⟩
  have h := bnd_of ev3 h
  refine lv_iinc (v := v3) (lv' := [(2, .int v3), (0, .ref (ad 0)), (1, .int x1)]) hx hb dX7_handOutAll_115 hl (k := 2) rfl (by rw [ev3]; rfl) (by decide) rfl (fun ls hl => ?_)
  have hsz := hl.1
  refine lv_goto (tgt := 4) hx hb dX7_handOutAll_118 (by decide) ?_
  exact hK4 x1 v3 u H locs ls (lv_sub hl [1, 2, 0] rfl) S h
set_option maxRecDepth 10000 in
set_option maxHeartbeats 4000000 in
theorem wX7_handOutAll_14 (C : cx D (tyl cI cB cL) A RX7 cX7_handOutAll 5 (some .int) p s m args c meth) (hR : 2 ≤ R.frames ∧ 46 ≤ R.locals) {r : Int32} {σ' : Sg} {K4 : Int32 → Int32 → Sg → Option (Int32 × Sg)} (hK4 : ∀ (y1 : Int32) (y2 : Int32) (v : Sg) (H : Heap) (locs : List Loc) (ls : Array Slot), lv_has ls 5 [(0, .ref (ad 0)), (1, .int y1), (2, .int y2)] → st D (wN cI ad pa pl) A s v H locs → K4 y1 y2 v = some (r, σ') → W p l e R s m args below meth c H locs 0 0 (MQ below (qI D (tyl cI cB cL) (wN cI ad pa pl) A r σ') args s 0 0 A) (F0 m 4 ls [])) : ∀ (n : Nat) (x1 : Int32) (x2 : Int32) (x3 : Int32) (u : Sg) (H : Heap) (locs : List Loc) (ls : Array Slot), lv_has ls 5 [(0, .ref (ad 0)), (1, .int x1), (2, .int x2), (3, .int x3)] → st D (wN cI ad pa pl) A s u H locs → fX7_handOutAll_14 K4 n x1 x2 x3 u = some (r, σ') → W p l e R s m args below meth c H locs 0 0 (MQ below (qI D (tyl cI cB cL) (wN cI ad pa pl) A r σ') args s 0 0 A) (F0 m 14 ls []) := by
  have hx := C.1
  have hb := C.2.1
  intro n
  induction n with
  | zero =>
    intro x1 x2 x3 u H locs ls hl S h
    cases h
  | succ n ih =>
    intro x1 x2 x3 u H locs ls hl S h
    rw [fX7_handOutAll_14] at h
    have hsz := hl.1
    refine lv_iload_n hx hb dX7_handOutAll_14 rfl (lv_at hl 3 rfl) ?_
    refine lv_aload_n hx hb dX7_handOutAll_15 rfl (lv_at hl 0 rfl) ?_
    refine q_get (v := .ref (ad 13)) C S (oN0 cI ad pa pl) rfl iwX7 14 (by decide) mw_434 rfl dX7_handOutAll_16 ?_
    refine q_get (v := .int (u 13 0)) C S (oN13 cI ad pa pl) rfl iwX6 0 (by decide) mw_435 rfl dX7_handOutAll_19 ?_
    refine lv_icmp_ge (tgt := 115) hx hb dX7_handOutAll_22 (by decide) (fun c2 => ?_) (fun c2 => ?_)
    · have h := cnd_t c2 h
      exact wX7_handOutAll_115 C hR u hK4 x1 x2 (lv_sub hl [0, 1, 2] rfl) S h
    · have h := cnd_f c2 h
      refine lv_aload_n hx hb dX7_handOutAll_25 rfl (lv_at hl 0 rfl) ?_
      refine lv_iload_n hx hb dX7_handOutAll_26 rfl (lv_at hl 2 rfl) ?_
      obtain ⟨r5, h4, h⟩ := obr_some h
      refine q_callVi (As := [.int x2]) (na := 1) C S (oN0 cI ad pa pl) rfl (ct_X7_isUp l D cI cB cL ad pa pl x2 u h4) mw_343 mw_342 mw_344 mw_341 mw_340 hdX7_isUp ⟨Nat.le_trans (Nat.le_of_ble_eq_true rfl) hR.1, Nat.le_trans (Nat.le_of_ble_eq_true rfl) hR.2⟩ rfl hsz ⟨Nat.zero_le _, Nat.zero_le _⟩ (Nat.le_of_ble_eq_true rfl) dX7_handOutAll_27 rfl (fun H locs S => ?_)
      refine lv_if_eq (tgt := 115) hx hb dX7_handOutAll_30 (by decide) (fun c6 => ?_) (fun c6 => ?_)
      · have h := cnd_t c6 h
        exact wX7_handOutAll_115 C hR u hK4 x1 x2 (lv_sub hl [0, 1, 2] rfl) S h
      · have h := cnd_f c6 h
        refine lv_aload_n hx hb dX7_handOutAll_33 rfl (lv_at hl 0 rfl) ?_
        refine q_get (v := .ref (ad 19)) C S (oN0 cI ad pa pl) rfl iwX7 15 (by decide) mw_436 rfl dX7_handOutAll_34 ?_
        refine lv_iload_n hx hb dX7_handOutAll_37 rfl (lv_at hl 2 rfl) ?_
        refine lv_aload_n hx hb dX7_handOutAll_38 rfl (lv_at hl 0 rfl) ?_
        refine q_get (v := .ref (ad 13)) C S (oN0 cI ad pa pl) rfl iwX7 14 (by decide) mw_434 rfl dX7_handOutAll_39 ?_
        refine q_get (v := .int (u 13 0)) C S (oN13 cI ad pa pl) rfl iwX6 0 (by decide) mw_435 rfl dX7_handOutAll_42 ?_
        obtain ⟨r8, h7, h⟩ := obr_some h
        refine q_callVi (As := [.int x2, .int (u 13 0)]) (na := 2) C S (oN19 cI ad pa pl) rfl (ct_X4_leastPending l D cI cB cL ad pa pl x2 (u 13 0) u h7) mw_456 mw_455 mw_457 mw_332 mw_454 hdX4_leastPending ⟨Nat.le_trans (Nat.le_of_ble_eq_true rfl) hR.1, Nat.le_trans (Nat.le_of_ble_eq_true rfl) hR.2⟩ rfl hsz ⟨Nat.zero_le _, Nat.zero_le _⟩ (Nat.le_of_ble_eq_true rfl) dX7_handOutAll_45 rfl (fun H locs S => ?_)
        refine lv_istore (lv' := [(4, .int r8), (0, .ref (ad 0)), (1, .int x1), (2, .int x2), (3, .int x3)]) hx hb dX7_handOutAll_48 hl (by decide) rfl (fun ls hl => ?_)
        have hsz := hl.1
        refine lv_iload hx hb dX7_handOutAll_50 (lv_at hl 0 rfl) ?_
        refine lv_iconst (v := (-1)) hx hb dX7_handOutAll_52 (by decide) ?_
        refine lv_icmp_eq (tgt := 115) hx hb dX7_handOutAll_53 (by decide) (fun c9 => ?_) (fun c9 => ?_)
        · have h := cnd_t c9 h
          exact wX7_handOutAll_115 C hR u hK4 x1 x2 (lv_sub hl [1, 2, 3] rfl) S h
        · have h := cnd_f c9 h
          refine lv_aload_n hx hb dX7_handOutAll_56 rfl (lv_at hl 1 rfl) ?_
          refine q_get (v := .ref (ad 19)) C S (oN0 cI ad pa pl) rfl iwX7 15 (by decide) mw_436 rfl dX7_handOutAll_57 ?_
          refine q_get (v := .ref (ad 20)) C S (oN19 cI ad pa pl) rfl iwX4 0 (by decide) mw_437 rfl dX7_handOutAll_60 ?_
          refine lv_iload_n hx hb dX7_handOutAll_63 rfl (lv_at hl 3 rfl) ?_
          refine lv_iload hx hb dX7_handOutAll_64 (lv_at hl 0 rfl) ?_
          refine q_callPN (As := [.int x2, .int r8]) (na := 2) C S (ct_X11_spotOf l D cI cB cL x2 r8) (List.mem_of_getElem? (i := 13) rfl) mw_322 mw_321 mw_320 hdX11_spotOf ⟨Nat.le_trans (Nat.le_of_ble_eq_true rfl) hR.1, Nat.le_trans (Nat.le_of_ble_eq_true rfl) hR.2⟩ rfl hsz ⟨Nat.zero_le _, Nat.zero_le _⟩ (Nat.le_of_ble_eq_true rfl) dX7_handOutAll_66 rfl (fun H locs S => ?_)
          obtain ⟨g10, h⟩ := grd_some h
          refine q_iald C S (aN20 cI ad pa pl) 0 rfl g10 dX7_handOutAll_69 (j := ((fX11_spotOf x2 r8) : Int32).toNatClampNeg) rfl ?_
          refine lv_iconst (v := 2) hx hb dX7_handOutAll_70 (by decide) ?_
          refine lv_icmp_eq (tgt := 77) hx hb dX7_handOutAll_71 (by decide) (fun c11 => ?_) (fun c11 => ?_)
          · have h := cnd_t c11 h
            refine lv_aload_n hx hb dX7_handOutAll_77 rfl (lv_at hl 1 rfl) ?_
            refine q_get (v := .ref (ad 19)) C S (oN0 cI ad pa pl) rfl iwX7 15 (by decide) mw_436 rfl dX7_handOutAll_78 ?_
            refine lv_iload_n hx hb dX7_handOutAll_81 rfl (lv_at hl 3 rfl) ?_
            refine lv_iload hx hb dX7_handOutAll_82 (lv_at hl 0 rfl) ?_
            refine lv_aload_n hx hb dX7_handOutAll_84 rfl (lv_at hl 1 rfl) ?_
            refine q_get (v := .int (u 0 3)) C S (oN0 cI ad pa pl) rfl iwX7 3 (by decide) mw_345 rfl dX7_handOutAll_85 ?_
            obtain ⟨u13, h12, h⟩ := obr_some h
            refine q_callVv (As := [.int x2, .int r8, .int (u 0 3)]) (na := 3) C S (oN19 cI ad pa pl) rfl (ct_X4_handOut l D cI cB cL ad pa pl x2 r8 (u 0 3) u h12) mw_460 mw_459 mw_461 mw_332 mw_458 hdX4_handOut ⟨Nat.le_trans (Nat.le_of_ble_eq_true rfl) hR.1, Nat.le_trans (Nat.le_of_ble_eq_true rfl) hR.2⟩ rfl hsz ⟨Nat.zero_le _, Nat.zero_le _⟩ (Nat.le_of_ble_eq_true rfl) dX7_handOutAll_88 rfl (fun H locs S => ?_)
            refine lv_aload_n hx hb dX7_handOutAll_91 rfl (lv_at hl 1 rfl) ?_
            refine q_get (v := .ref (ad 34)) C S (oN0 cI ad pa pl) rfl iwX7 18 (by decide) mw_438 rfl dX7_handOutAll_92 ?_
            refine lv_aload_n hx hb dX7_handOutAll_95 rfl (lv_at hl 1 rfl) ?_
            refine q_get (v := .int (u13 0 3)) C S (oN0 cI ad pa pl) rfl iwX7 3 (by decide) mw_345 rfl dX7_handOutAll_96 ?_
            refine lv_iload_n hx hb dX7_handOutAll_99 rfl (lv_at hl 3 rfl) ?_
            refine lv_iconst (v := 1) hx hb dX7_handOutAll_100 (by decide) ?_
            refine lv_iload hx hb dX7_handOutAll_101 (lv_at hl 0 rfl) ?_
            obtain ⟨u15, h14, h⟩ := obr_some h
            refine q_callVv (As := [.int (u13 0 3), .int x2, .int 1, .int r8]) (na := 4) C S (oN34 cI ad pa pl) rfl (ct_X5_add l D cI cB cL ad pa pl (u13 0 3) x2 1 r8 u13 h14) mw_442 mw_441 mw_443 mw_440 mw_439 hdX5_add ⟨Nat.le_trans (Nat.le_of_ble_eq_true rfl) hR.1, Nat.le_trans (Nat.le_of_ble_eq_true rfl) hR.2⟩ rfl hsz ⟨Nat.zero_le _, Nat.zero_le _⟩ (Nat.le_of_ble_eq_true rfl) dX7_handOutAll_103 rfl (fun H locs S => ?_)
            obtain ⟨v16, ev16⟩ : ∃ y : Int32, y = x1 + 1 := ⟨_, rfl⟩
            have h := bnd_of ev16 h
            refine lv_iinc (v := v16) (lv' := [(1, .int v16), (4, .int r8), (0, .ref (ad 0)), (2, .int x2), (3, .int x3)]) hx hb dX7_handOutAll_106 hl (k := 2) rfl (by rw [ev16]; rfl) (by decide) rfl (fun ls hl => ?_)
            have hsz := hl.1
            obtain ⟨v17, ev17⟩ : ∃ y : Int32, y = x3 + 1 := ⟨_, rfl⟩
            have h := bnd_of ev17 h
            refine lv_iinc (v := v17) (lv' := [(3, .int v17), (1, .int v16), (4, .int r8), (0, .ref (ad 0)), (2, .int x2)]) hx hb dX7_handOutAll_109 hl (k := 4) rfl (by rw [ev17]; rfl) (by decide) rfl (fun ls hl => ?_)
            have hsz := hl.1
            refine lv_goto (tgt := 14) hx hb dX7_handOutAll_112 (by decide) ?_
            exact ih v16 x2 v17 u15 H locs ls (lv_sub hl [3, 1, 4, 0] rfl) S h
          · have h := cnd_f c11 h
            refine lv_goto (tgt := 115) hx hb dX7_handOutAll_74 (by decide) ?_
            exact wX7_handOutAll_115 C hR u hK4 x1 x2 (lv_sub hl [1, 2, 3] rfl) S h
set_option maxRecDepth 10000 in
set_option maxHeartbeats 4000000 in
theorem wX7_handOutAll_4 (C : cx D (tyl cI cB cL) A RX7 cX7_handOutAll 5 (some .int) p s m args c meth) (hR : 2 ≤ R.frames ∧ 46 ≤ R.locals) {r : Int32} {σ' : Sg} : ∀ (n : Nat) (x1 : Int32) (x2 : Int32) (u : Sg) (H : Heap) (locs : List Loc) (ls : Array Slot), lv_has ls 5 [(0, .ref (ad 0)), (1, .int x1), (2, .int x2)] → st D (wN cI ad pa pl) A s u H locs → fX7_handOutAll_4 n x1 x2 u = some (r, σ') → W p l e R s m args below meth c H locs 0 0 (MQ below (qI D (tyl cI cB cL) (wN cI ad pa pl) A r σ') args s 0 0 A) (F0 m 4 ls []) := by
  have hx := C.1
  have hb := C.2.1
  intro n
  induction n with
  | zero =>
    intro x1 x2 u H locs ls hl S h
    cases h
  | succ n ih =>
    intro x1 x2 u H locs ls hl S h
    rw [fX7_handOutAll_4] at h
    have hsz := hl.1
    refine lv_iload_n hx hb dX7_handOutAll_4 rfl (lv_at hl 2 rfl) ?_
    refine lv_aload_n hx hb dX7_handOutAll_5 rfl (lv_at hl 0 rfl) ?_
    refine q_get (v := .int (u 0 0)) C S (oN0 cI ad pa pl) rfl iwX7 0 (by decide) mw_347 rfl dX7_handOutAll_6 ?_
    refine lv_icmp_ge (tgt := 121) hx hb dX7_handOutAll_9 (by decide) (fun c1 => ?_) (fun c1 => ?_)
    · have h := cnd_t c1 h
      refine lv_iload_n hx hb dX7_handOutAll_121 rfl (lv_at hl 1 rfl) ?_
      exact q_iret C S (rt_S h) dX7_handOutAll_122
    · have h := cnd_f c1 h
      refine lv_iconst (v := 0) hx hb dX7_handOutAll_12 (by decide) ?_
      refine lv_istore_n (lv' := [(3, .int 0), (0, .ref (ad 0)), (1, .int x1), (2, .int x2)]) hx hb dX7_handOutAll_13 rfl hl (by decide) rfl (fun ls hl => ?_)
      have hsz := hl.1
      exact wX7_handOutAll_14 C hR ih FU x1 x2 0 u H locs ls (lv_sub hl [1, 2, 3, 0] rfl) S h
set_option maxRecDepth 10000 in
set_option maxHeartbeats 4000000 in
theorem wX7_handOutAll_0 (C : cx D (tyl cI cB cL) A RX7 cX7_handOutAll 5 (some .int) p s m args c meth) (hR : 2 ≤ R.frames ∧ 46 ≤ R.locals) {r : Int32} {σ' : Sg} (u : Sg) {H : Heap} {locs : List Loc} {ls : Array Slot} (hl : lv_has ls 5 [(0, .ref (ad 0))]) (S : st D (wN cI ad pa pl) A s u H locs) (h : fX7_handOutAll_0 u = some (r, σ')) : W p l e R s m args below meth c H locs 0 0 (MQ below (qI D (tyl cI cB cL) (wN cI ad pa pl) A r σ') args s 0 0 A) (F0 m 0 ls []) := by
  have hx := C.1
  have hb := C.2.1
  have hsz := hl.1
  unfold fX7_handOutAll_0 at h
  refine lv_iconst (v := 0) hx hb dX7_handOutAll_0 (by decide) ?_
  refine lv_istore_n (lv' := [(1, .int 0), (0, .ref (ad 0))]) hx hb dX7_handOutAll_1 rfl hl (by decide) rfl (fun ls hl => ?_)
  have hsz := hl.1
  refine lv_iconst (v := 0) hx hb dX7_handOutAll_2 (by decide) ?_
  refine lv_istore_n (lv' := [(2, .int 0), (1, .int 0), (0, .ref (ad 0))]) hx hb dX7_handOutAll_3 rfl hl (by decide) rfl (fun ls hl => ?_)
  have hsz := hl.1
  exact wX7_handOutAll_4 C hR FU 0 0 u H locs ls (lv_sub hl [2, 1, 0] rfl) S h
set_option maxRecDepth 10000 in
set_option maxHeartbeats 4000000 in
theorem ct_X7_handOutAll (l : Launch) (D : va_G) (cI cB cL : ClassId) (ad : Nat → Nat) (pa pl : Nat) (u : Sg) {r : Int32} {σ' : Sg} (h : fX7_handOutAll u = some (r, σ')) : metI l D (tyl cI cB cL) yX7_handOutAll cX7_handOutAll 5 (some .int) 2 46 (wN cI ad pa pl) [.ref (ad 0)] u r σ' := by
  intro sz
  refine Met.ofW (cc := cX7_handOutAll) (maxL := 5) (ret := (some .int)) (by decide) rfl ?_
  intro p e s m args below meth c s₁ B hml hv
  obtain ⟨rfl, C, S⟩ := q_entry B hml hv
  have hl := lv_entry ([.ref (ad 0)]) (n := 5) (Nat.le_of_ble_eq_true rfl)
  rw [lg_entry_eq]
  generalize (lg_sl ([.ref (ad 0)]) ++ List.replicate (5 - (lg_sl ([.ref (ad 0)])).length) Slot.unset).toArray = ls at hl ⊢
  exact wX7_handOutAll_0 C ⟨Nat.le_refl _, Nat.le_refl _⟩ u (lv_sub hl [0] rfl) S h
noncomputable def fX7_dropForDown_46 (pl : Nat) (K2 : Int32 → Sg → Option Sg) (x1 : Int32) (u : Sg) : Option Sg := bnd (x1 + 1) (fun v3 => K2 v3 u)
noncomputable def fX7_dropForDown_12 (pl : Nat) (K2 : Int32 → Sg → Option Sg) : Nat → Int32 → Int32 → Sg → Option Sg
  | 0, _, _, _ => none
  | n + 1, x1, x2, u => cnd ((u 0 0) ≤ x2) (fX7_dropForDown_46 pl K2 x1 u) (obr (fX7_isUp x1 u) (fun r5 => cnd (r5 = 0) (obr (fX1_dropAll pl (fX11_channelOf x2 x1) u) (fun u8 => bnd (x2 + 1) (fun v9 => fX7_dropForDown_12 pl K2 n x1 v9 u8))) (fX7_dropForDown_46 pl K2 x1 u)))
noncomputable def fX7_dropForDown_2 (pl : Nat) : Nat → Int32 → Sg → Option Sg
  | 0, _, _ => none
  | n + 1, x1, u => cnd ((u 0 0) ≤ x1) (some u) (fX7_dropForDown_12 pl (fun a0 w => fX7_dropForDown_2 pl n a0 w) FU x1 0 u)
noncomputable def fX7_dropForDown_0 (pl : Nat) (u : Sg) : Option Sg := fX7_dropForDown_2 pl FU 0 u
noncomputable def fX7_dropForDown (pl : Nat) (u : Sg) : Option Sg := fX7_dropForDown_0 pl u
set_option maxRecDepth 10000 in
set_option maxHeartbeats 4000000 in
theorem wX7_dropForDown_46 (C : cx D (tyl cI cB cL) A RX7 cX7_dropForDown 3 none p s m args c meth) (hR : 2 ≤ R.frames ∧ 44 ≤ R.locals) {σ' : Sg} (u : Sg) {K2 : Int32 → Sg → Option Sg} (hK2 : ∀ (y1 : Int32) (v : Sg) (H : Heap) (locs : List Loc) (ls : Array Slot), lv_has ls 3 [(0, .ref (ad 0)), (1, .int y1)] → st D (wN cI ad pa pl) A s v H locs → K2 y1 v = some σ' → W p l e R s m args below meth c H locs 0 0 (MQ below (qV D (tyl cI cB cL) (wN cI ad pa pl) A σ') args s 0 0 A) (F0 m 2 ls [])) (x1 : Int32) {H : Heap} {locs : List Loc} {ls : Array Slot} (hl : lv_has ls 3 [(0, .ref (ad 0)), (1, .int x1)]) (S : st D (wN cI ad pa pl) A s u H locs) (h : fX7_dropForDown_46 pl K2 x1 u = some σ') : W p l e R s m args below meth c H locs 0 0 (MQ below (qV D (tyl cI cB cL) (wN cI ad pa pl) A σ') args s 0 0 A) (F0 m 46 ls []) := by
  have hx := C.1
  have hb := C.2.1
  have hsz := hl.1
  unfold fX7_dropForDown_46 at h
  obtain ⟨v3, ev3⟩ : ∃ y : Int32, y = x1 + 1 := ⟨_, rfl⟩
  have h := bnd_of ev3 h
  refine lv_iinc (v := v3) (lv' := [(1, .int v3), (0, .ref (ad 0))]) hx hb dX7_dropForDown_46 hl (k := 1) rfl (by rw [ev3]; rfl) (by decide) rfl (fun ls hl => ?_)
  have hsz := hl.1
  refine lv_goto (tgt := 2) hx hb dX7_dropForDown_49 (by decide) ?_
  exact hK2 v3 u H locs ls (lv_sub hl [1, 0] rfl) S h
set_option maxRecDepth 10000 in
set_option maxHeartbeats 4000000 in
theorem wX7_dropForDown_12 (C : cx D (tyl cI cB cL) A RX7 cX7_dropForDown 3 none p s m args c meth) (hR : 2 ≤ R.frames ∧ 44 ≤ R.locals) {σ' : Sg} {K2 : Int32 → Sg → Option Sg} (hK2 : ∀ (y1 : Int32) (v : Sg) (H : Heap) (locs : List Loc) (ls : Array Slot), lv_has ls 3 [(0, .ref (ad 0)), (1, .int y1)] → st D (wN cI ad pa pl) A s v H locs → K2 y1 v = some σ' → W p l e R s m args below meth c H locs 0 0 (MQ below (qV D (tyl cI cB cL) (wN cI ad pa pl) A σ') args s 0 0 A) (F0 m 2 ls [])) : ∀ (n : Nat) (x1 : Int32) (x2 : Int32) (u : Sg) (H : Heap) (locs : List Loc) (ls : Array Slot), lv_has ls 3 [(0, .ref (ad 0)), (1, .int x1), (2, .int x2)] → st D (wN cI ad pa pl) A s u H locs → fX7_dropForDown_12 pl K2 n x1 x2 u = some σ' → W p l e R s m args below meth c H locs 0 0 (MQ below (qV D (tyl cI cB cL) (wN cI ad pa pl) A σ') args s 0 0 A) (F0 m 12 ls []) := by
  have hx := C.1
  have hb := C.2.1
  intro n
  induction n with
  | zero =>
    intro x1 x2 u H locs ls hl S h
    cases h
  | succ n ih =>
    intro x1 x2 u H locs ls hl S h
    rw [fX7_dropForDown_12] at h
    have hsz := hl.1
    refine lv_iload_n hx hb dX7_dropForDown_12 rfl (lv_at hl 2 rfl) ?_
    refine lv_aload_n hx hb dX7_dropForDown_13 rfl (lv_at hl 0 rfl) ?_
    refine q_get (v := .int (u 0 0)) C S (oN0 cI ad pa pl) rfl iwX7 0 (by decide) mw_347 rfl dX7_dropForDown_14 ?_
    refine lv_icmp_ge (tgt := 46) hx hb dX7_dropForDown_17 (by decide) (fun c2 => ?_) (fun c2 => ?_)
    · have h := cnd_t c2 h
      exact wX7_dropForDown_46 C hR u hK2 x1 (lv_sub hl [0, 1] rfl) S h
    · have h := cnd_f c2 h
      refine lv_aload_n hx hb dX7_dropForDown_20 rfl (lv_at hl 0 rfl) ?_
      refine lv_iload_n hx hb dX7_dropForDown_21 rfl (lv_at hl 1 rfl) ?_
      obtain ⟨r5, h4, h⟩ := obr_some h
      refine q_callVi (As := [.int x1]) (na := 1) C S (oN0 cI ad pa pl) rfl (ct_X7_isUp l D cI cB cL ad pa pl x1 u h4) mw_343 mw_342 mw_344 mw_341 mw_340 hdX7_isUp ⟨Nat.le_trans (Nat.le_of_ble_eq_true rfl) hR.1, Nat.le_trans (Nat.le_of_ble_eq_true rfl) hR.2⟩ rfl hsz ⟨Nat.zero_le _, Nat.zero_le _⟩ (Nat.le_of_ble_eq_true rfl) dX7_dropForDown_22 rfl (fun H locs S => ?_)
      refine lv_if_ne (tgt := 46) hx hb dX7_dropForDown_25 (by decide) (fun c6 => ?_) (fun c6 => ?_)
      · have h := cnd_f c6 h
        exact wX7_dropForDown_46 C hR u hK2 x1 (lv_sub hl [0, 1] rfl) S h
      · have h := cnd_t c6 h
        refine lv_aload_n hx hb dX7_dropForDown_28 rfl (lv_at hl 0 rfl) ?_
        refine q_get (v := .ref (ad 5)) C S (oN0 cI ad pa pl) rfl iwX7 13 (by decide) mw_429 rfl dX7_dropForDown_29 ?_
        refine lv_iload_n hx hb dX7_dropForDown_32 rfl (lv_at hl 2 rfl) ?_
        refine lv_iload_n hx hb dX7_dropForDown_33 rfl (lv_at hl 1 rfl) ?_
        refine q_callPN (As := [.int x2, .int x1]) (na := 2) C S (ct_X11_channelOf l D cI cB cL x2 x1) (List.mem_of_getElem? (i := 15) rfl) mw_406 mw_321 mw_405 hdX11_channelOf ⟨Nat.le_trans (Nat.le_of_ble_eq_true rfl) hR.1, Nat.le_trans (Nat.le_of_ble_eq_true rfl) hR.2⟩ rfl hsz ⟨Nat.zero_le _, Nat.zero_le _⟩ (Nat.le_of_ble_eq_true rfl) dX7_dropForDown_34 rfl (fun H locs S => ?_)
        obtain ⟨u8, h7, h⟩ := obr_some h
        refine q_callVv (As := [.int (fX11_channelOf x2 x1)]) (na := 1) C S (oN5 cI ad pa pl) rfl (ct_X1_dropAll l D cI cB cL ad pa pl (fX11_channelOf x2 x1) u h7) mw_464 mw_463 mw_465 mw_401 mw_462 hdX1_dropAll ⟨Nat.le_trans (Nat.le_of_ble_eq_true rfl) hR.1, Nat.le_trans (Nat.le_of_ble_eq_true rfl) hR.2⟩ rfl hsz ⟨Nat.zero_le _, Nat.zero_le _⟩ (Nat.le_of_ble_eq_true rfl) dX7_dropForDown_37 rfl (fun H locs S => ?_)
        obtain ⟨v9, ev9⟩ : ∃ y : Int32, y = x2 + 1 := ⟨_, rfl⟩
        have h := bnd_of ev9 h
        refine lv_iinc (v := v9) (lv' := [(2, .int v9), (0, .ref (ad 0)), (1, .int x1)]) hx hb dX7_dropForDown_40 hl (k := 2) rfl (by rw [ev9]; rfl) (by decide) rfl (fun ls hl => ?_)
        have hsz := hl.1
        refine lv_goto (tgt := 12) hx hb dX7_dropForDown_43 (by decide) ?_
        exact ih x1 v9 u8 H locs ls (lv_sub hl [1, 2, 0] rfl) S h
set_option maxRecDepth 10000 in
set_option maxHeartbeats 4000000 in
theorem wX7_dropForDown_2 (C : cx D (tyl cI cB cL) A RX7 cX7_dropForDown 3 none p s m args c meth) (hR : 2 ≤ R.frames ∧ 44 ≤ R.locals) {σ' : Sg} : ∀ (n : Nat) (x1 : Int32) (u : Sg) (H : Heap) (locs : List Loc) (ls : Array Slot), lv_has ls 3 [(0, .ref (ad 0)), (1, .int x1)] → st D (wN cI ad pa pl) A s u H locs → fX7_dropForDown_2 pl n x1 u = some σ' → W p l e R s m args below meth c H locs 0 0 (MQ below (qV D (tyl cI cB cL) (wN cI ad pa pl) A σ') args s 0 0 A) (F0 m 2 ls []) := by
  have hx := C.1
  have hb := C.2.1
  intro n
  induction n with
  | zero =>
    intro x1 u H locs ls hl S h
    cases h
  | succ n ih =>
    intro x1 u H locs ls hl S h
    rw [fX7_dropForDown_2] at h
    have hsz := hl.1
    refine lv_iload_n hx hb dX7_dropForDown_2 rfl (lv_at hl 1 rfl) ?_
    refine lv_aload_n hx hb dX7_dropForDown_3 rfl (lv_at hl 0 rfl) ?_
    refine q_get (v := .int (u 0 0)) C S (oN0 cI ad pa pl) rfl iwX7 0 (by decide) mw_347 rfl dX7_dropForDown_4 ?_
    refine lv_icmp_ge (tgt := 52) hx hb dX7_dropForDown_7 (by decide) (fun c1 => ?_) (fun c1 => ?_)
    · have h := cnd_t c1 h
      exact q_vret C S (Option.some.inj h) dX7_dropForDown_52
    · have h := cnd_f c1 h
      refine lv_iconst (v := 0) hx hb dX7_dropForDown_10 (by decide) ?_
      refine lv_istore_n (lv' := [(2, .int 0), (0, .ref (ad 0)), (1, .int x1)]) hx hb dX7_dropForDown_11 rfl hl (by decide) rfl (fun ls hl => ?_)
      have hsz := hl.1
      exact wX7_dropForDown_12 C hR ih FU x1 0 u H locs ls (lv_sub hl [1, 2, 0] rfl) S h
set_option maxRecDepth 10000 in
set_option maxHeartbeats 4000000 in
theorem wX7_dropForDown_0 (C : cx D (tyl cI cB cL) A RX7 cX7_dropForDown 3 none p s m args c meth) (hR : 2 ≤ R.frames ∧ 44 ≤ R.locals) {σ' : Sg} (u : Sg) {H : Heap} {locs : List Loc} {ls : Array Slot} (hl : lv_has ls 3 [(0, .ref (ad 0))]) (S : st D (wN cI ad pa pl) A s u H locs) (h : fX7_dropForDown_0 pl u = some σ') : W p l e R s m args below meth c H locs 0 0 (MQ below (qV D (tyl cI cB cL) (wN cI ad pa pl) A σ') args s 0 0 A) (F0 m 0 ls []) := by
  have hx := C.1
  have hb := C.2.1
  have hsz := hl.1
  unfold fX7_dropForDown_0 at h
  refine lv_iconst (v := 0) hx hb dX7_dropForDown_0 (by decide) ?_
  refine lv_istore_n (lv' := [(1, .int 0), (0, .ref (ad 0))]) hx hb dX7_dropForDown_1 rfl hl (by decide) rfl (fun ls hl => ?_)
  have hsz := hl.1
  exact wX7_dropForDown_2 C hR FU 0 u H locs ls (lv_sub hl [1, 0] rfl) S h
set_option maxRecDepth 10000 in
set_option maxHeartbeats 4000000 in
theorem ct_X7_dropForDown (l : Launch) (D : va_G) (cI cB cL : ClassId) (ad : Nat → Nat) (pa pl : Nat) (u : Sg) {σ' : Sg} (h : fX7_dropForDown pl u = some σ') : metV l D (tyl cI cB cL) yX7_dropForDown cX7_dropForDown 3 2 44 (wN cI ad pa pl) [.ref (ad 0)] u σ' := by
  intro sz
  refine Met.ofW (cc := cX7_dropForDown) (maxL := 3) (ret := none) (by decide) rfl ?_
  intro p e s m args below meth c s₁ B hml hv
  obtain ⟨rfl, C, S⟩ := q_entry B hml hv
  have hl := lv_entry ([.ref (ad 0)]) (n := 3) (Nat.le_of_ble_eq_true rfl)
  rw [lg_entry_eq]
  generalize (lg_sl ([.ref (ad 0)]) ++ List.replicate (3 - (lg_sl ([.ref (ad 0)])).length) Slot.unset).toArray = ls at hl ⊢
  exact wX7_dropForDown_0 C ⟨Nat.le_refl _, Nat.le_refl _⟩ u (lv_sub hl [0] rfl) S h
noncomputable def fX7_draw_0 (u : Sg) : Option (Int32 × Sg) := bnd (s2 u 0 6 ((1103515245 * (u 0 6)) + 12345)) (fun u1 => some (((((u1 0 6) : Int32).toUInt32 >>> ((16 : Int32).toUInt32 &&& Int32.toUInt32 31)).toInt32 &&& 32767), u1))
noncomputable def fX7_draw (u : Sg) : Option (Int32 × Sg) := fX7_draw_0 u
set_option maxRecDepth 10000 in
set_option maxHeartbeats 4000000 in
theorem wX7_draw_0 (C : cx D (tyl cI cB cL) A RX7 cX7_draw 1 (some .int) p s m args c meth) (hR : 0 ≤ R.frames ∧ 0 ≤ R.locals) {r : Int32} {σ' : Sg} (u : Sg) {H : Heap} {locs : List Loc} {ls : Array Slot} (hl : lv_has ls 1 [(0, .ref (ad 0))]) (S : st D (wN cI ad pa pl) A s u H locs) (h : fX7_draw_0 u = some (r, σ')) : W p l e R s m args below meth c H locs 0 0 (MQ below (qI D (tyl cI cB cL) (wN cI ad pa pl) A r σ') args s 0 0 A) (F0 m 0 ls []) := by
  have hx := C.1
  have hb := C.2.1
  have hsz := hl.1
  unfold fX7_draw_0 at h
  refine lv_aload_n hx hb dX7_draw_0 rfl (lv_at hl 0 rfl) ?_
  refine q_ldcw (v := 1103515245) C mw_466 dX7_draw_1 ?_
  refine lv_aload_n hx hb dX7_draw_4 rfl (lv_at hl 0 rfl) ?_
  refine q_get (v := .int (u 0 6)) C S (oN0 cI ad pa pl) rfl iwX7 6 (by decide) mw_467 rfl dX7_draw_5 ?_
  refine lv_imul hx hb dX7_draw_8 ?_
  refine lv_sipush (v := 12345) hx hb dX7_draw_9 (by decide) ?_
  refine lv_iadd hx hb dX7_draw_12 ?_
  obtain ⟨u1, eu1⟩ : ∃ z : Sg, z = s2 u 0 6 ((1103515245 * (u 0 6)) + 12345) := ⟨_, rfl⟩
  have h := bnd_of eu1 h
  refine q_put C S (oN0 cI ad pa pl) rfl iwX7 tyX7 tyX7_ok nmX7 6 (by decide) mw_467 rfl (iN0_6 cI ad pa pl) rfl rfl dX7_draw_13 eu1 (fun H locs S => ?_)
  refine lv_aload_n hx hb dX7_draw_16 rfl (lv_at hl 0 rfl) ?_
  refine q_get (v := .int (u1 0 6)) C S (oN0 cI ad pa pl) rfl iwX7 6 (by decide) mw_467 rfl dX7_draw_17 ?_
  refine lv_bipush (v := 16) hx hb dX7_draw_20 (by decide) ?_
  refine lv_iushr (v := (((u1 0 6) : Int32).toUInt32 >>> ((16 : Int32).toUInt32 &&& Int32.toUInt32 31)).toInt32) hx hb dX7_draw_22 rfl ?_
  refine lv_sipush (v := 32767) hx hb dX7_draw_23 (by decide) ?_
  refine lv_iand hx hb dX7_draw_26 ?_
  exact q_iret C S (rt_S h) dX7_draw_27
set_option maxRecDepth 10000 in
set_option maxHeartbeats 4000000 in
theorem ct_X7_draw (l : Launch) (D : va_G) (cI cB cL : ClassId) (ad : Nat → Nat) (pa pl : Nat) (u : Sg) {r : Int32} {σ' : Sg} (h : fX7_draw u = some (r, σ')) : metI l D (tyl cI cB cL) yX7_draw cX7_draw 1 (some .int) 0 0 (wN cI ad pa pl) [.ref (ad 0)] u r σ' := by
  intro sz
  refine Met.ofW (cc := cX7_draw) (maxL := 1) (ret := (some .int)) (by decide) rfl ?_
  intro p e s m args below meth c s₁ B hml hv
  obtain ⟨rfl, C, S⟩ := q_entry B hml hv
  have hl := lv_entry ([.ref (ad 0)]) (n := 1) (Nat.le_of_ble_eq_true rfl)
  rw [lg_entry_eq]
  generalize (lg_sl ([.ref (ad 0)]) ++ List.replicate (1 - (lg_sl ([.ref (ad 0)])).length) Slot.unset).toArray = ls at hl ⊢
  exact wX7_draw_0 C ⟨Nat.le_refl _, Nat.le_refl _⟩ u (lv_sub hl [0] rfl) S h
end S_22_n02
