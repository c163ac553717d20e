theorem mw_520 : Cond.code yX7_mustTakeOver cX7_mustTakeOver 6 (some .boolean) ∈ gw := gw_t5 85 rfl rfl
theorem mw_521 : Cond.instanceMethod yX7_mustTakeOver ∈ gw := gw_t5 84 rfl rfl
theorem mw_522 : Cond.methodLink RX7 262 yX7_mustTakeOver ∈ gw := gw_t5 82 rfl rfl
theorem mw_523 : Cond.selects RX7 yX7_mustTakeOver yX7_mustTakeOver ∈ gw := gw_pv (n := 19) (List.mem_of_getElem? (i := 24) rfl)
theorem mw_524 : Cond.code yX7_isFull cX7_isFull 4 (some .boolean) ∈ gw := gw_t5 94 rfl rfl
theorem mw_525 : Cond.instanceMethod yX7_isFull ∈ gw := gw_t5 93 rfl rfl
theorem mw_526 : Cond.methodLink RX7 266 yX7_isFull ∈ gw := gw_t5 91 rfl rfl
theorem mw_527 : Cond.selects RX7 yX7_isFull yX7_isFull ∈ gw := gw_pv (n := 19) (List.mem_of_getElem? (i := 25) rfl)
theorem mw_528 : Cond.code yX3_outcome cX3_outcome 2 (some .int) ∈ gw := gw_t5 98 rfl rfl
theorem mw_529 : Cond.instanceMethod yX3_outcome ∈ gw := gw_t5 96 rfl rfl
theorem mw_530 : Cond.methodLink RX7 269 yX3_outcome ∈ gw := gw_t5 95 rfl rfl
theorem mw_531 : Cond.selects RX3 yX3_outcome yX3_outcome ∈ gw := gw_t5 97 rfl rfl
theorem mw_532 : Cond.code yX3_cease cX3_cease 2 none ∈ gw := gw_t5 102 rfl rfl
theorem mw_533 : Cond.instanceMethod yX3_cease ∈ gw := gw_t5 100 rfl rfl
theorem mw_534 : Cond.methodLink RX7 272 yX3_cease ∈ gw := gw_t5 99 rfl rfl
theorem mw_535 : Cond.selects RX3 yX3_cease yX3_cease ∈ gw := gw_t5 101 rfl rfl
theorem mw_536 : Cond.code yX7_putForAll cX7_putForAll 6 none ∈ gw := gw_t5 8 rfl rfl
theorem mw_537 : Cond.instanceMethod yX7_putForAll ∈ gw := gw_t5 7 rfl rfl
theorem mw_538 : Cond.methodLink RX7 166 yX7_putForAll ∈ gw := gw_t5 5 rfl rfl
theorem mw_539 : Cond.selects RX7 yX7_putForAll yX7_putForAll ∈ gw := gw_pv (n := 19) (List.mem_of_getElem? (i := 17) rfl)
theorem mw_540 : Cond.fieldLink RX7 33 "LeastPending$Net" "takeovers" "I" ∈ gw := gw_t2 68 rfl rfl
theorem mw_541 : Cond.code yX3_begin cX3_begin 2 none ∈ gw := gw_t5 4 rfl rfl
theorem mw_542 : Cond.instanceMethod yX3_begin ∈ gw := gw_t5 2 rfl rfl
theorem mw_543 : Cond.methodLink RX7 162 yX3_begin ∈ gw := gw_t5 1 rfl rfl
theorem mw_544 : Cond.selects RX3 yX3_begin yX3_begin ∈ gw := gw_t5 3 rfl rfl
theorem mw_545 : Cond.code yX7_hearAll cX7_hearAll 10 none ∈ gw := gw_t5 46 rfl rfl
theorem mw_546 : Cond.instanceMethod yX7_hearAll ∈ gw := gw_t5 45 rfl rfl
theorem mw_547 : Cond.methodLink RX7 172 yX7_hearAll ∈ gw := gw_t5 43 rfl rfl
theorem mw_548 : Cond.selects RX7 yX7_hearAll yX7_hearAll ∈ gw := gw_pv (n := 19) (List.mem_of_getElem? (i := 20) rfl)
theorem mw_549 : Cond.code yX7_leadAll cX7_leadAll 5 none ∈ gw := gw_t5 81 rfl rfl
theorem mw_550 : Cond.instanceMethod yX7_leadAll ∈ gw := gw_t5 80 rfl rfl
theorem mw_551 : Cond.methodLink RX7 175 yX7_leadAll ∈ gw := gw_t5 78 rfl rfl
theorem mw_552 : Cond.selects RX7 yX7_leadAll yX7_leadAll ∈ gw := gw_pv (n := 19) (List.mem_of_getElem? (i := 23) rfl)
theorem mw_553 : Cond.code yX7_handOutAll cX7_handOutAll 5 (some .int) ∈ gw := gw_t5 106 rfl rfl
theorem mw_554 : Cond.instanceMethod yX7_handOutAll ∈ gw := gw_t5 105 rfl rfl
theorem mw_555 : Cond.methodLink RX7 178 yX7_handOutAll ∈ gw := gw_t5 103 rfl rfl
theorem mw_556 : Cond.selects RX7 yX7_handOutAll yX7_handOutAll ∈ gw := gw_pv (n := 19) (List.mem_of_getElem? (i := 26) rfl)
theorem mw_557 : Cond.code yX7_dropForDown cX7_dropForDown 3 none ∈ gw := gw_t5 123 rfl rfl
theorem mw_558 : Cond.instanceMethod yX7_dropForDown ∈ gw := gw_t5 122 rfl rfl
theorem mw_559 : Cond.methodLink RX7 181 yX7_dropForDown ∈ gw := gw_t5 120 rfl rfl
theorem mw_560 : Cond.selects RX7 yX7_dropForDown yX7_dropForDown ∈ gw := gw_pv (n := 19) (List.mem_of_getElem? (i := 27) rfl)
theorem mw_561 : Cond.code yX7_canStir cX7_canStir 2 (some .boolean) ∈ gw := gw_t5 170 rfl rfl
theorem mw_562 : Cond.instanceMethod yX7_canStir ∈ gw := gw_t5 168 rfl rfl
theorem mw_563 : Cond.methodLink RX7 127 yX7_canStir ∈ gw := gw_t5 223 rfl rfl
theorem mw_564 : Cond.selects RX7 yX7_canStir yX7_canStir ∈ gw := gw_t5 169 rfl rfl
theorem mw_565 : Cond.code yX7_passOn cX7_passOn 2 (some .int) ∈ gw := gw_t5 42 rfl rfl
theorem mw_566 : Cond.instanceMethod yX7_passOn ∈ gw := gw_t5 40 rfl rfl
theorem mw_567 : Cond.methodLink RX7 131 yX7_passOn ∈ gw := gw_t5 39 rfl rfl
theorem mw_568 : Cond.selects RX7 yX7_passOn yX7_passOn ∈ gw := gw_t5 41 rfl rfl
theorem mw_569 : Cond.fieldLink RX7 40 "LeastPending$Net" "groups" "[I" ∈ gw := gw_t2 72 rfl rfl
theorem mw_570 : Cond.code yX6_add cX6_add 5 (some .int) ∈ gw := gw_t5 0 rfl rfl
theorem mw_571 : Cond.initialized RX6 ∈ gw := gw_t1 8 rfl rfl
theorem mw_572 : Cond.instanceMethod yX6_add ∈ gw := gw_t4 238 rfl rfl
theorem mw_573 : Cond.methodLink RX7 159 yX6_add ∈ gw := gw_t4 237 rfl rfl
theorem mw_574 : Cond.selects RX6 yX6_add yX6_add ∈ gw := gw_t4 239 rfl rfl
theorem mw_575 : Cond.fieldLink RX7 90 "LeastPending$Net" "events" "LLeastPending$Events;" ∈ gw := gw_t2 94 rfl rfl
theorem mw_576 : Cond.fieldLink RX7 184 "LeastPending$Events" "waiting" "I" ∈ gw := gw_t2 9 rfl rfl
theorem mw_577 : Cond.fieldLink RX7 187 "LeastPending$Events" "time" "[I" ∈ gw := gw_t2 12 rfl rfl
theorem mw_578 : Cond.code yX2_isCrash cX2_isCrash 2 (some .boolean) ∈ gw := gw_t4 219 rfl rfl
theorem mw_579 : Cond.initialized RX2 ∈ gw := gw_t1 11 rfl rfl
theorem mw_580 : Cond.instanceMethod yX2_isCrash ∈ gw := gw_t4 217 rfl rfl
theorem mw_581 : Cond.methodLink RX7 194 yX2_isCrash ∈ gw := gw_t4 216 rfl rfl
theorem mw_582 : Cond.selects RX2 yX2_isCrash yX2_isCrash ∈ gw := gw_t4 218 rfl rfl
theorem mw_583 : Cond.fieldLink RX7 197 "LeastPending$Events" "who" "[I" ∈ gw := gw_t2 15 rfl rfl
theorem mw_584 : Cond.code yX7_canStart cX7_canStart 2 (some .boolean) ∈ gw := gw_t4 232 rfl rfl
theorem mw_585 : Cond.instanceMethod yX7_canStart ∈ gw := gw_t4 230 rfl rfl
theorem mw_586 : Cond.methodLink RX7 203 yX7_canStart ∈ gw := gw_t4 229 rfl rfl
theorem mw_587 : Cond.selects RX7 yX7_canStart yX7_canStart ∈ gw := gw_t4 231 rfl rfl
theorem mw_588 : Cond.fieldLink RX7 206 "LeastPending$Events" "toGroup" "[I" ∈ gw := gw_t2 18 rfl rfl
theorem mw_589 : Cond.code yX7_start cX7_start 4 (some .int) ∈ gw := gw_t4 236 rfl rfl
theorem mw_590 : Cond.instanceMethod yX7_start ∈ gw := gw_t4 234 rfl rfl
theorem mw_591 : Cond.methodLink RX7 209 yX7_start ∈ gw := gw_t4 233 rfl rfl
theorem mw_592 : Cond.selects RX7 yX7_start yX7_start ∈ gw := gw_t4 235 rfl rfl
theorem mw_593 : Cond.code yX7_goDown cX7_goDown 2 none ∈ gw := gw_t4 223 rfl rfl
theorem mw_594 : Cond.instanceMethod yX7_goDown ∈ gw := gw_t4 221 rfl rfl
theorem mw_595 : Cond.methodLink RX7 200 yX7_goDown ∈ gw := gw_t4 220 rfl rfl
theorem mw_596 : Cond.selects RX7 yX7_goDown yX7_goDown ∈ gw := gw_t4 222 rfl rfl
theorem mw_597 : Cond.code yX2_move cX2_move 3 none ∈ gw := gw_t4 215 rfl rfl
theorem mw_598 : Cond.instanceMethod yX2_move ∈ gw := gw_t4 213 rfl rfl
theorem mw_599 : Cond.methodLink RX7 190 yX2_move ∈ gw := gw_t4 212 rfl rfl
theorem mw_600 : Cond.selects RX2 yX2_move yX2_move ∈ gw := gw_t4 214 rfl rfl
theorem mw_601 : Cond.code yX7_happen cX7_happen 3 none ∈ gw := gw_t4 211 rfl rfl
theorem mw_602 : Cond.instanceMethod yX7_happen ∈ gw := gw_t4 210 rfl rfl
theorem mw_603 : Cond.methodLink RX7 169 yX7_happen ∈ gw := gw_t4 208 rfl rfl
theorem mw_604 : Cond.selects RX7 yX7_happen yX7_happen ∈ gw := gw_pv (n := 19) (List.mem_of_getElem? (i := 16) rfl)
theorem hdX2_isCrash : yX2_isCrash.cls = RX2 ∧ yX2_isCrash.cls ≠ "java/lang/invoke/MethodHandle" ∧ yX2_isCrash.cls ≠ "java/lang/invoke/VarHandle" ∧ (parseMethodDescriptor yX2_isCrash.desc).map (fun d => d.parameters.length) = some 1 := by decide +kernel
theorem hdX2_move : yX2_move.cls = RX2 ∧ yX2_move.cls ≠ "java/lang/invoke/MethodHandle" ∧ yX2_move.cls ≠ "java/lang/invoke/VarHandle" ∧ (parseMethodDescriptor yX2_move.desc).map (fun d => d.parameters.length) = some 2 := by decide +kernel
theorem hdX3_begin : yX3_begin.cls = RX3 ∧ yX3_begin.cls ≠ "java/lang/invoke/MethodHandle" ∧ yX3_begin.cls ≠ "java/lang/invoke/VarHandle" ∧ (parseMethodDescriptor yX3_begin.desc).map (fun d => d.parameters.length) = some 1 := by decide +kernel
theorem hdX3_cease : yX3_cease.cls = RX3 ∧ yX3_cease.cls ≠ "java/lang/invoke/MethodHandle" ∧ yX3_cease.cls ≠ "java/lang/invoke/VarHandle" ∧ (parseMethodDescriptor yX3_cease.desc).map (fun d => d.parameters.length) = some 1 := by decide +kernel
theorem hdX3_outcome : yX3_outcome.cls = RX3 ∧ yX3_outcome.cls ≠ "java/lang/invoke/MethodHandle" ∧ yX3_outcome.cls ≠ "java/lang/invoke/VarHandle" ∧ (parseMethodDescriptor yX3_outcome.desc).map (fun d => d.parameters.length) = some 1 := by decide +kernel
theorem hdX6_add : yX6_add.cls = RX6 ∧ yX6_add.cls ≠ "java/lang/invoke/MethodHandle" ∧ yX6_add.cls ≠ "java/lang/invoke/VarHandle" ∧ (parseMethodDescriptor yX6_add.desc).map (fun d => d.parameters.length) = some 3 := by decide +kernel
theorem hdX7_canStart : yX7_canStart.cls = RX7 ∧ yX7_canStart.cls ≠ "java/lang/invoke/MethodHandle" ∧ yX7_canStart.cls ≠ "java/lang/invoke/VarHandle" ∧ (parseMethodDescriptor yX7_canStart.desc).map (fun d => d.parameters.length) = some 1 := by decide +kernel
theorem hdX7_canStir : yX7_canStir.cls = RX7 ∧ yX7_canStir.cls ≠ "java/lang/invoke/MethodHandle" ∧ yX7_canStir.cls ≠ "java/lang/invoke/VarHandle" ∧ (parseMethodDescriptor yX7_canStir.desc).map (fun d => d.parameters.length) = some 0 := by decide +kernel
theorem hdX7_dropForDown : yX7_dropForDown.cls = RX7 ∧ yX7_dropForDown.cls ≠ "java/lang/invoke/MethodHandle" ∧ yX7_dropForDown.cls ≠ "java/lang/invoke/VarHandle" ∧ (parseMethodDescriptor yX7_dropForDown.desc).map (fun d => d.parameters.length) = some 0 := by decide +kernel
theorem hdX7_goDown : yX7_goDown.cls = RX7 ∧ yX7_goDown.cls ≠ "java/lang/invoke/MethodHandle" ∧ yX7_goDown.cls ≠ "java/lang/invoke/VarHandle" ∧ (parseMethodDescriptor yX7_goDown.desc).map (fun d => d.parameters.length) = some 1 := by decide +kernel
theorem hdX7_handOutAll : yX7_handOutAll.cls = RX7 ∧ yX7_handOutAll.cls ≠ "java/lang/invoke/MethodHandle" ∧ yX7_handOutAll.cls ≠ "java/lang/invoke/VarHandle" ∧ (parseMethodDescriptor yX7_handOutAll.desc).map (fun d => d.parameters.length) = some 0 := by decide +kernel
theorem hdX7_happen : yX7_happen.cls = RX7 ∧ yX7_happen.cls ≠ "java/lang/invoke/MethodHandle" ∧ yX7_happen.cls ≠ "java/lang/invoke/VarHandle" ∧ (parseMethodDescriptor yX7_happen.desc).map (fun d => d.parameters.length) = some 0 := by decide +kernel
theorem hdX7_hearAll : yX7_hearAll.cls = RX7 ∧ yX7_hearAll.cls ≠ "java/lang/invoke/MethodHandle" ∧ yX7_hearAll.cls ≠ "java/lang/invoke/VarHandle" ∧ (parseMethodDescriptor yX7_hearAll.desc).map (fun d => d.parameters.length) = some 0 := by decide +kernel
theorem hdX7_isFull : yX7_isFull.cls = RX7 ∧ yX7_isFull.cls ≠ "java/lang/invoke/MethodHandle" ∧ yX7_isFull.cls ≠ "java/lang/invoke/VarHandle" ∧ (parseMethodDescriptor yX7_isFull.desc).map (fun d => d.parameters.length) = some 2 := by decide +kernel
theorem hdX7_leadAll : yX7_leadAll.cls = RX7 ∧ yX7_leadAll.cls ≠ "java/lang/invoke/MethodHandle" ∧ yX7_leadAll.cls ≠ "java/lang/invoke/VarHandle" ∧ (parseMethodDescriptor yX7_leadAll.desc).map (fun d => d.parameters.length) = some 0 := by decide +kernel
theorem hdX7_mustTakeOver : yX7_mustTakeOver.cls = RX7 ∧ yX7_mustTakeOver.cls ≠ "java/lang/invoke/MethodHandle" ∧ yX7_mustTakeOver.cls ≠ "java/lang/invoke/VarHandle" ∧ (parseMethodDescriptor yX7_mustTakeOver.desc).map (fun d => d.parameters.length) = some 2 := by decide +kernel
theorem hdX7_passOn : yX7_passOn.cls = RX7 ∧ yX7_passOn.cls ≠ "java/lang/invoke/MethodHandle" ∧ yX7_passOn.cls ≠ "java/lang/invoke/VarHandle" ∧ (parseMethodDescriptor yX7_passOn.desc).map (fun d => d.parameters.length) = some 0 := by decide +kernel
theorem hdX7_putForAll : yX7_putForAll.cls = RX7 ∧ yX7_putForAll.cls ≠ "java/lang/invoke/MethodHandle" ∧ yX7_putForAll.cls ≠ "java/lang/invoke/VarHandle" ∧ (parseMethodDescriptor yX7_putForAll.desc).map (fun d => d.parameters.length) = some 4 := by decide +kernel
theorem hdX7_start : yX7_start.cls = RX7 ∧ yX7_start.cls ≠ "java/lang/invoke/MethodHandle" ∧ yX7_start.cls ≠ "java/lang/invoke/VarHandle" ∧ (parseMethodDescriptor yX7_start.desc).map (fun d => d.parameters.length) = some 2 := by decide +kernel
theorem dX7_putForAll_0 : decode cX7_putForAll 0 = .ok (.iconst 0, 1) := by decide +kernel
theorem dX7_putForAll_1 : decode cX7_putForAll 1 = .ok (.istore 5, 2) := by decide +kernel
theorem dX7_putForAll_3 : decode cX7_putForAll 3 = .ok (.iload 5, 2) := by decide +kernel
theorem dX7_putForAll_5 : decode cX7_putForAll 5 = .ok (.aload_n 0, 1) := by decide +kernel
theorem dX7_putForAll_6 : decode cX7_putForAll 6 = .ok (.getfield 9, 3) := by decide +kernel
theorem dX7_putForAll_9 : decode cX7_putForAll 9 = .ok (.if_icmp .ge 38, 3) := by decide +kernel
theorem dX7_putForAll_12 : decode cX7_putForAll 12 = .ok (.aload_n 0, 1) := by decide +kernel
theorem dX7_putForAll_13 : decode cX7_putForAll 13 = .ok (.getfield 69, 3) := by decide +kernel
theorem dX7_putForAll_16 : decode cX7_putForAll 16 = .ok (.getfield 278, 3) := by decide +kernel
theorem dX7_putForAll_19 : decode cX7_putForAll 19 = .ok (.iload_n 3, 1) := by decide +kernel
theorem dX7_putForAll_20 : decode cX7_putForAll 20 = .ok (.iaload, 1) := by decide +kernel
theorem dX7_putForAll_21 : decode cX7_putForAll 21 = .ok (.iload 5, 2) := by decide +kernel
theorem dX7_putForAll_23 : decode cX7_putForAll 23 = .ok (.invokestatic 284, 3) := by decide +kernel
theorem dX7_putForAll_26 : decode cX7_putForAll 26 = .ok (.ifCond .eq 15, 3) := by decide +kernel
theorem dX7_putForAll_29 : decode cX7_putForAll 29 = .ok (.aload_n 0, 1) := by decide +kernel
theorem dX7_putForAll_30 : decode cX7_putForAll 30 = .ok (.iload_n 1, 1) := by decide +kernel
theorem dX7_putForAll_31 : decode cX7_putForAll 31 = .ok (.iload 5, 2) := by decide +kernel
theorem dX7_putForAll_33 : decode cX7_putForAll 33 = .ok (.iload_n 2, 1) := by decide +kernel
theorem dX7_putForAll_34 : decode cX7_putForAll 34 = .ok (.iload_n 3, 1) := by decide +kernel
theorem dX7_putForAll_35 : decode cX7_putForAll 35 = .ok (.iload 4, 2) := by decide +kernel
theorem dX7_putForAll_37 : decode cX7_putForAll 37 = .ok (.iconst 0, 1) := by decide +kernel
theorem dX7_putForAll_38 : decode cX7_putForAll 38 = .ok (.invokevirtual 240, 3) := by decide +kernel
theorem dX7_putForAll_41 : decode cX7_putForAll 41 = .ok (.iinc 5 1, 3) := by decide +kernel
theorem dX7_putForAll_44 : decode cX7_putForAll 44 = .ok (.goto (-41), 3) := by decide +kernel
theorem dX7_putForAll_47 : decode cX7_putForAll 47 = .ok (.return_, 1) := by decide +kernel
theorem dX7_leadAll_0 : decode cX7_leadAll 0 = .ok (.iconst 0, 1) := by decide +kernel
theorem dX7_leadAll_1 : decode cX7_leadAll 1 = .ok (.istore_n 1, 1) := by decide +kernel
theorem dX7_leadAll_2 : decode cX7_leadAll 2 = .ok (.iload_n 1, 1) := by decide +kernel
theorem dX7_leadAll_3 : decode cX7_leadAll 3 = .ok (.aload_n 0, 1) := by decide +kernel
theorem dX7_leadAll_4 : decode cX7_leadAll 4 = .ok (.getfield 9, 3) := by decide +kernel
theorem dX7_leadAll_7 : decode cX7_leadAll 7 = .ok (.if_icmp .ge 147, 3) := by decide +kernel
theorem dX7_leadAll_10 : decode cX7_leadAll 10 = .ok (.iconst 0, 1) := by decide +kernel
theorem dX7_leadAll_11 : decode cX7_leadAll 11 = .ok (.istore_n 2, 1) := by decide +kernel
theorem dX7_leadAll_12 : decode cX7_leadAll 12 = .ok (.iload_n 2, 1) := by decide +kernel
theorem dX7_leadAll_13 : decode cX7_leadAll 13 = .ok (.aload_n 0, 1) := by decide +kernel
theorem dX7_leadAll_14 : decode cX7_leadAll 14 = .ok (.getfield 69, 3) := by decide +kernel
theorem dX7_leadAll_17 : decode cX7_leadAll 17 = .ok (.getfield 145, 3) := by decide +kernel
theorem dX7_leadAll_20 : decode cX7_leadAll 20 = .ok (.if_icmp .ge 128, 3) := by decide +kernel
theorem dX7_leadAll_23 : decode cX7_leadAll 23 = .ok (.aload_n 0, 1) := by decide +kernel
theorem dX7_leadAll_24 : decode cX7_leadAll 24 = .ok (.iload_n 1, 1) := by decide +kernel
theorem dX7_leadAll_25 : decode cX7_leadAll 25 = .ok (.invokevirtual 135, 3) := by decide +kernel
theorem dX7_leadAll_28 : decode cX7_leadAll 28 = .ok (.ifCond .eq 120, 3) := by decide +kernel
theorem dX7_leadAll_31 : decode cX7_leadAll 31 = .ok (.aload_n 0, 1) := by decide +kernel
theorem dX7_leadAll_32 : decode cX7_leadAll 32 = .ok (.iload_n 1, 1) := by decide +kernel
theorem dX7_leadAll_33 : decode cX7_leadAll 33 = .ok (.iload_n 2, 1) := by decide +kernel
theorem dX7_leadAll_34 : decode cX7_leadAll 34 = .ok (.invokevirtual 262, 3) := by decide +kernel
theorem dX7_leadAll_37 : decode cX7_leadAll 37 = .ok (.ifCond .eq 52, 3) := by decide +kernel
theorem dX7_leadAll_40 : decode cX7_leadAll 40 = .ok (.aload_n 0, 1) := by decide +kernel
theorem dX7_leadAll_41 : decode cX7_leadAll 41 = .ok (.dup, 1) := by decide +kernel
theorem dX7_leadAll_42 : decode cX7_leadAll 42 = .ok (.getfield 33, 3) := by decide +kernel
theorem dX7_leadAll_45 : decode cX7_leadAll 45 = .ok (.iconst 1, 1) := by decide +kernel
theorem dX7_leadAll_46 : decode cX7_leadAll 46 = .ok (.iadd, 1) := by decide +kernel
theorem dX7_leadAll_47 : decode cX7_leadAll 47 = .ok (.putfield 33, 3) := by decide +kernel
theorem dX7_leadAll_50 : decode cX7_leadAll 50 = .ok (.aload_n 0, 1) := by decide +kernel
theorem dX7_leadAll_51 : decode cX7_leadAll 51 = .ok (.iconst 1, 1) := by decide +kernel
theorem dX7_leadAll_52 : decode cX7_leadAll 52 = .ok (.putfield 36, 3) := by decide +kernel
theorem dX7_leadAll_55 : decode cX7_leadAll 55 = .ok (.aload_n 0, 1) := by decide +kernel
theorem dX7_leadAll_56 : decode cX7_leadAll 56 = .ok (.getfield 97, 3) := by decide +kernel
theorem dX7_leadAll_59 : decode cX7_leadAll 59 = .ok (.aload_n 0, 1) := by decide +kernel
theorem dX7_leadAll_60 : decode cX7_leadAll 60 = .ok (.getfield 21, 3) := by decide +kernel
theorem dX7_leadAll_63 : decode cX7_leadAll 63 = .ok (.iload_n 1, 1) := by decide +kernel
theorem dX7_leadAll_64 : decode cX7_leadAll 64 = .ok (.iconst 3, 1) := by decide +kernel
theorem dX7_leadAll_65 : decode cX7_leadAll 65 = .ok (.iload_n 2, 1) := by decide +kernel
theorem dX7_leadAll_66 : decode cX7_leadAll 66 = .ok (.invokevirtual 155, 3) := by decide +kernel
theorem dX7_leadAll_69 : decode cX7_leadAll 69 = .ok (.aload_n 0, 1) := by decide +kernel
theorem dX7_leadAll_70 : decode cX7_leadAll 70 = .ok (.getfield 83, 3) := by decide +kernel
theorem dX7_leadAll_73 : decode cX7_leadAll 73 = .ok (.iload_n 1, 1) := by decide +kernel
theorem dX7_leadAll_74 : decode cX7_leadAll 74 = .ok (.iload_n 2, 1) := by decide +kernel
theorem dX7_leadAll_75 : decode cX7_leadAll 75 = .ok (.invokestatic 151, 3) := by decide +kernel
theorem dX7_leadAll_78 : decode cX7_leadAll 78 = .ok (.invokevirtual 162, 3) := by decide +kernel
theorem dX7_leadAll_81 : decode cX7_leadAll 81 = .ok (.aload_n 0, 1) := by decide +kernel
theorem dX7_leadAll_82 : decode cX7_leadAll 82 = .ok (.iload_n 1, 1) := by decide +kernel
theorem dX7_leadAll_83 : decode cX7_leadAll 83 = .ok (.iconst 3, 1) := by decide +kernel
theorem dX7_leadAll_84 : decode cX7_leadAll 84 = .ok (.iload_n 2, 1) := by decide +kernel
theorem dX7_leadAll_85 : decode cX7_leadAll 85 = .ok (.iconst (-1), 1) := by decide +kernel
theorem dX7_leadAll_86 : decode cX7_leadAll 86 = .ok (.invokevirtual 166, 3) := by decide +kernel
theorem dX7_leadAll_89 : decode cX7_leadAll 89 = .ok (.aload_n 0, 1) := by decide +kernel
theorem dX7_leadAll_90 : decode cX7_leadAll 90 = .ok (.iload_n 1, 1) := by decide +kernel
theorem dX7_leadAll_91 : decode cX7_leadAll 91 = .ok (.iload_n 2, 1) := by decide +kernel
theorem dX7_leadAll_92 : decode cX7_leadAll 92 = .ok (.invokevirtual 266, 3) := by decide +kernel
theorem dX7_leadAll_95 : decode cX7_leadAll 95 = .ok (.ifCond .eq 47, 3) := by decide +kernel
theorem dX7_leadAll_98 : decode cX7_leadAll 98 = .ok (.iload_n 1, 1) := by decide +kernel
theorem dX7_leadAll_99 : decode cX7_leadAll 99 = .ok (.iload_n 2, 1) := by decide +kernel
theorem dX7_leadAll_100 : decode cX7_leadAll 100 = .ok (.invokestatic 151, 3) := by decide +kernel
theorem dX7_leadAll_103 : decode cX7_leadAll 103 = .ok (.istore_n 3, 1) := by decide +kernel
theorem dX7_leadAll_104 : decode cX7_leadAll 104 = .ok (.aload_n 0, 1) := by decide +kernel
theorem dX7_leadAll_105 : decode cX7_leadAll 105 = .ok (.getfield 83, 3) := by decide +kernel
theorem dX7_leadAll_108 : decode cX7_leadAll 108 = .ok (.iload_n 3, 1) := by decide +kernel
theorem dX7_leadAll_109 : decode cX7_leadAll 109 = .ok (.invokevirtual 269, 3) := by decide +kernel
theorem dX7_leadAll_112 : decode cX7_leadAll 112 = .ok (.istore 4, 2) := by decide +kernel
theorem dX7_leadAll_114 : decode cX7_leadAll 114 = .ok (.aload_n 0, 1) := by decide +kernel
theorem dX7_leadAll_115 : decode cX7_leadAll 115 = .ok (.iconst 1, 1) := by decide +kernel
theorem dX7_leadAll_116 : decode cX7_leadAll 116 = .ok (.putfield 36, 3) := by decide +kernel
theorem dX7_leadAll_119 : decode cX7_leadAll 119 = .ok (.aload_n 0, 1) := by decide +kernel
theorem dX7_leadAll_120 : decode cX7_leadAll 120 = .ok (.getfield 83, 3) := by decide +kernel
theorem dX7_leadAll_123 : decode cX7_leadAll 123 = .ok (.iload_n 3, 1) := by decide +kernel
theorem dX7_leadAll_124 : decode cX7_leadAll 124 = .ok (.invokevirtual 272, 3) := by decide +kernel
theorem dX7_leadAll_127 : decode cX7_leadAll 127 = .ok (.iload 4, 2) := by decide +kernel
theorem dX7_leadAll_129 : decode cX7_leadAll 129 = .ok (.iconst (-1), 1) := by decide +kernel
theorem dX7_leadAll_130 : decode cX7_leadAll 130 = .ok (.if_icmp .eq 12, 3) := by decide +kernel
theorem dX7_leadAll_133 : decode cX7_leadAll 133 = .ok (.aload_n 0, 1) := by decide +kernel
theorem dX7_leadAll_134 : decode cX7_leadAll 134 = .ok (.iload_n 1, 1) := by decide +kernel
theorem dX7_leadAll_135 : decode cX7_leadAll 135 = .ok (.iconst 2, 1) := by decide +kernel
theorem dX7_leadAll_136 : decode cX7_leadAll 136 = .ok (.iload_n 2, 1) := by decide +kernel
theorem dX7_leadAll_137 : decode cX7_leadAll 137 = .ok (.iload 4, 2) := by decide +kernel
theorem dX7_leadAll_139 : decode cX7_leadAll 139 = .ok (.invokevirtual 166, 3) := by decide +kernel
theorem dX7_leadAll_142 : decode cX7_leadAll 142 = .ok (.iinc 2 1, 3) := by decide +kernel
theorem dX7_leadAll_145 : decode cX7_leadAll 145 = .ok (.goto (-133), 3) := by decide +kernel
theorem dX7_leadAll_148 : decode cX7_leadAll 148 = .ok (.iinc 1 1, 3) := by decide +kernel
theorem dX7_leadAll_151 : decode cX7_leadAll 151 = .ok (.goto (-149), 3) := by decide +kernel
theorem dX7_leadAll_154 : decode cX7_leadAll 154 = .ok (.return_, 1) := by decide +kernel
theorem dX7_passOn_0 : decode cX7_passOn 0 = .ok (.aload_n 0, 1) := by decide +kernel
theorem dX7_passOn_1 : decode cX7_passOn 1 = .ok (.iconst 0, 1) := by decide +kernel
theorem dX7_passOn_2 : decode cX7_passOn 2 = .ok (.putfield 36, 3) := by decide +kernel
theorem dX7_passOn_5 : decode cX7_passOn 5 = .ok (.aload_n 0, 1) := by decide +kernel
theorem dX7_passOn_6 : decode cX7_passOn 6 = .ok (.invokevirtual 172, 3) := by decide +kernel
theorem dX7_passOn_9 : decode cX7_passOn 9 = .ok (.aload_n 0, 1) := by decide +kernel
theorem dX7_passOn_10 : decode cX7_passOn 10 = .ok (.invokevirtual 175, 3) := by decide +kernel
theorem dX7_passOn_13 : decode cX7_passOn 13 = .ok (.aload_n 0, 1) := by decide +kernel
theorem dX7_passOn_14 : decode cX7_passOn 14 = .ok (.invokevirtual 178, 3) := by decide +kernel
theorem dX7_passOn_17 : decode cX7_passOn 17 = .ok (.istore_n 1, 1) := by decide +kernel
theorem dX7_passOn_18 : decode cX7_passOn 18 = .ok (.aload_n 0, 1) := by decide +kernel
theorem dX7_passOn_19 : decode cX7_passOn 19 = .ok (.invokevirtual 181, 3) := by decide +kernel
theorem dX7_passOn_22 : decode cX7_passOn 22 = .ok (.aload_n 0, 1) := by decide +kernel
theorem dX7_passOn_23 : decode cX7_passOn 23 = .ok (.dup, 1) := by decide +kernel
theorem dX7_passOn_24 : decode cX7_passOn 24 = .ok (.getfield 21, 3) := by decide +kernel
theorem dX7_passOn_27 : decode cX7_passOn 27 = .ok (.iconst 1, 1) := by decide +kernel
theorem dX7_passOn_28 : decode cX7_passOn 28 = .ok (.iadd, 1) := by decide +kernel
theorem dX7_passOn_29 : decode cX7_passOn 29 = .ok (.putfield 21, 3) := by decide +kernel
theorem dX7_passOn_32 : decode cX7_passOn 32 = .ok (.iload_n 1, 1) := by decide +kernel
theorem dX7_passOn_33 : decode cX7_passOn 33 = .ok (.ireturn, 1) := by decide +kernel
theorem dX7_passFar_0 : decode cX7_passFar 0 = .ok (.iconst 1, 1) := by decide +kernel
theorem dX7_passFar_1 : decode cX7_passFar 1 = .ok (.istore_n 1, 1) := by decide +kernel
theorem dX7_passFar_2 : decode cX7_passFar 2 = .ok (.iconst 0, 1) := by decide +kernel
theorem dX7_passFar_3 : decode cX7_passFar 3 = .ok (.istore_n 2, 1) := by decide +kernel
theorem dX7_passFar_4 : decode cX7_passFar 4 = .ok (.iload_n 2, 1) := by decide +kernel
theorem dX7_passFar_5 : decode cX7_passFar 5 = .ok (.bipush 120, 2) := by decide +kernel
theorem dX7_passFar_7 : decode cX7_passFar 7 = .ok (.if_icmp .ge 40, 3) := by decide +kernel
theorem dX7_passFar_10 : decode cX7_passFar 10 = .ok (.iload_n 1, 1) := by decide +kernel
theorem dX7_passFar_11 : decode cX7_passFar 11 = .ok (.ifCond .eq 36, 3) := by decide +kernel
theorem dX7_passFar_14 : decode cX7_passFar 14 = .ok (.aload_n 0, 1) := by decide +kernel
theorem dX7_passFar_15 : decode cX7_passFar 15 = .ok (.invokevirtual 127, 3) := by decide +kernel
theorem dX7_passFar_18 : decode cX7_passFar 18 = .ok (.istore_n 3, 1) := by decide +kernel
theorem dX7_passFar_19 : decode cX7_passFar 19 = .ok (.aload_n 0, 1) := by decide +kernel
theorem dX7_passFar_20 : decode cX7_passFar 20 = .ok (.invokevirtual 131, 3) := by decide +kernel
theorem dX7_passFar_23 : decode cX7_passFar 23 = .ok (.pop, 1) := by decide +kernel
theorem dX7_passFar_24 : decode cX7_passFar 24 = .ok (.iload_n 3, 1) := by decide +kernel
theorem dX7_passFar_25 : decode cX7_passFar 25 = .ok (.ifCond .ne 10, 3) := by decide +kernel
theorem dX7_passFar_28 : decode cX7_passFar 28 = .ok (.aload_n 0, 1) := by decide +kernel
theorem dX7_passFar_29 : decode cX7_passFar 29 = .ok (.getfield 36, 3) := by decide +kernel
theorem dX7_passFar_32 : decode cX7_passFar 32 = .ok (.ifCond .eq 7, 3) := by decide +kernel
theorem dX7_passFar_35 : decode cX7_passFar 35 = .ok (.iconst 1, 1) := by decide +kernel
theorem dX7_passFar_36 : decode cX7_passFar 36 = .ok (.goto 4, 3) := by decide +kernel
theorem dX7_passFar_39 : decode cX7_passFar 39 = .ok (.iconst 0, 1) := by decide +kernel
theorem dX7_passFar_40 : decode cX7_passFar 40 = .ok (.istore_n 1, 1) := by decide +kernel
theorem dX7_passFar_41 : decode cX7_passFar 41 = .ok (.iinc 2 1, 3) := by decide +kernel
theorem dX7_passFar_44 : decode cX7_passFar 44 = .ok (.goto (-40), 3) := by decide +kernel
theorem dX7_passFar_47 : decode cX7_passFar 47 = .ok (.return_, 1) := by decide +kernel
theorem dX7_start_0 : decode cX7_start 0 = .ok (.aload_n 0, 1) := by decide +kernel
theorem dX7_start_1 : decode cX7_start 1 = .ok (.getfield 69, 3) := by decide +kernel
theorem dX7_start_4 : decode cX7_start 4 = .ok (.iload_n 1, 1) := by decide +kernel
theorem dX7_start_5 : decode cX7_start 5 = .ok (.aload_n 0, 1) := by decide +kernel
theorem dX7_start_6 : decode cX7_start 6 = .ok (.getfield 40, 3) := by decide +kernel
theorem dX7_start_9 : decode cX7_start 9 = .ok (.iload_n 2, 1) := by decide +kernel
theorem dX7_start_10 : decode cX7_start 10 = .ok (.iaload, 1) := by decide +kernel
theorem dX7_start_11 : decode cX7_start 11 = .ok (.aload_n 0, 1) := by decide +kernel
theorem dX7_start_12 : decode cX7_start 12 = .ok (.getfield 21, 3) := by decide +kernel
theorem dX7_start_15 : decode cX7_start 15 = .ok (.invokevirtual 159, 3) := by decide +kernel
theorem dX7_start_18 : decode cX7_start 18 = .ok (.istore_n 3, 1) := by decide +kernel
theorem dX7_start_19 : decode cX7_start 19 = .ok (.aload_n 0, 1) := by decide +kernel
theorem dX7_start_20 : decode cX7_start 20 = .ok (.getfield 97, 3) := by decide +kernel
theorem dX7_start_23 : decode cX7_start 23 = .ok (.aload_n 0, 1) := by decide +kernel
theorem dX7_start_24 : decode cX7_start 24 = .ok (.getfield 21, 3) := by decide +kernel
theorem dX7_start_27 : decode cX7_start 27 = .ok (.iload_n 1, 1) := by decide +kernel
theorem dX7_start_28 : decode cX7_start 28 = .ok (.iconst 0, 1) := by decide +kernel
theorem dX7_start_29 : decode cX7_start 29 = .ok (.iload_n 3, 1) := by decide +kernel
theorem dX7_start_30 : decode cX7_start 30 = .ok (.invokevirtual 155, 3) := by decide +kernel
theorem dX7_start_33 : decode cX7_start 33 = .ok (.aload_n 0, 1) := by decide +kernel
theorem dX7_start_34 : decode cX7_start 34 = .ok (.getfield 83, 3) := by decide +kernel
theorem dX7_start_37 : decode cX7_start 37 = .ok (.iload_n 1, 1) := by decide +kernel
theorem dX7_start_38 : decode cX7_start 38 = .ok (.iload_n 3, 1) := by decide +kernel
theorem dX7_start_39 : decode cX7_start 39 = .ok (.invokestatic 151, 3) := by decide +kernel
theorem dX7_start_42 : decode cX7_start 42 = .ok (.invokevirtual 162, 3) := by decide +kernel
theorem dX7_start_45 : decode cX7_start 45 = .ok (.aload_n 0, 1) := by decide +kernel
theorem dX7_start_46 : decode cX7_start 46 = .ok (.iload_n 1, 1) := by decide +kernel
theorem dX7_start_47 : decode cX7_start 47 = .ok (.iconst 0, 1) := by decide +kernel
theorem dX7_start_48 : decode cX7_start 48 = .ok (.iload_n 3, 1) := by decide +kernel
theorem dX7_start_49 : decode cX7_start 49 = .ok (.iconst (-1), 1) := by decide +kernel
theorem dX7_start_50 : decode cX7_start 50 = .ok (.invokevirtual 166, 3) := by decide +kernel
theorem dX7_start_53 : decode cX7_start 53 = .ok (.iload_n 3, 1) := by decide +kernel
theorem dX7_start_54 : decode cX7_start 54 = .ok (.ireturn, 1) := by decide +kernel
theorem dX7_happen_0 : decode cX7_happen 0 = .ok (.iconst 0, 1) := by decide +kernel
theorem dX7_happen_1 : decode cX7_happen 1 = .ok (.istore_n 1, 1) := by decide +kernel
theorem dX7_happen_2 : decode cX7_happen 2 = .ok (.iconst 0, 1) := by decide +kernel
theorem dX7_happen_3 : decode cX7_happen 3 = .ok (.istore_n 2, 1) := by decide +kernel
theorem dX7_happen_4 : decode cX7_happen 4 = .ok (.iload_n 2, 1) := by decide +kernel
theorem dX7_happen_5 : decode cX7_happen 5 = .ok (.aload_n 0, 1) := by decide +kernel
theorem dX7_happen_6 : decode cX7_happen 6 = .ok (.getfield 90, 3) := by decide +kernel
theorem dX7_happen_9 : decode cX7_happen 9 = .ok (.getfield 184, 3) := by decide +kernel
theorem dX7_happen_12 : decode cX7_happen 12 = .ok (.if_icmp .ge 106, 3) := by decide +kernel
theorem dX7_happen_15 : decode cX7_happen 15 = .ok (.aload_n 0, 1) := by decide +kernel
theorem dX7_happen_16 : decode cX7_happen 16 = .ok (.getfield 90, 3) := by decide +kernel
theorem dX7_happen_19 : decode cX7_happen 19 = .ok (.getfield 187, 3) := by decide +kernel
theorem dX7_happen_22 : decode cX7_happen 22 = .ok (.iload_n 2, 1) := by decide +kernel
theorem dX7_happen_23 : decode cX7_happen 23 = .ok (.iaload, 1) := by decide +kernel
theorem dX7_happen_24 : decode cX7_happen 24 = .ok (.aload_n 0, 1) := by decide +kernel
theorem dX7_happen_25 : decode cX7_happen 25 = .ok (.getfield 21, 3) := by decide +kernel
theorem dX7_happen_28 : decode cX7_happen 28 = .ok (.if_icmp .le 18, 3) := by decide +kernel
theorem dX7_happen_31 : decode cX7_happen 31 = .ok (.aload_n 0, 1) := by decide +kernel
theorem dX7_happen_32 : decode cX7_happen 32 = .ok (.getfield 90, 3) := by decide +kernel
theorem dX7_happen_35 : decode cX7_happen 35 = .ok (.iload_n 2, 1) := by decide +kernel
theorem dX7_happen_36 : decode cX7_happen 36 = .ok (.iload_n 1, 1) := by decide +kernel
theorem dX7_happen_37 : decode cX7_happen 37 = .ok (.invokevirtual 190, 3) := by decide +kernel
theorem dX7_happen_40 : decode cX7_happen 40 = .ok (.iinc 1 1, 3) := by decide +kernel
theorem dX7_happen_43 : decode cX7_happen 43 = .ok (.goto 69, 3) := by decide +kernel
theorem dX7_happen_46 : decode cX7_happen 46 = .ok (.aload_n 0, 1) := by decide +kernel
theorem dX7_happen_47 : decode cX7_happen 47 = .ok (.getfield 90, 3) := by decide +kernel
theorem dX7_happen_50 : decode cX7_happen 50 = .ok (.iload_n 2, 1) := by decide +kernel
theorem dX7_happen_51 : decode cX7_happen 51 = .ok (.invokevirtual 194, 3) := by decide +kernel
theorem dX7_happen_54 : decode cX7_happen 54 = .ok (.ifCond .eq 19, 3) := by decide +kernel
theorem dX7_happen_57 : decode cX7_happen 57 = .ok (.aload_n 0, 1) := by decide +kernel
theorem dX7_happen_58 : decode cX7_happen 58 = .ok (.aload_n 0, 1) := by decide +kernel
theorem dX7_happen_59 : decode cX7_happen 59 = .ok (.getfield 90, 3) := by decide +kernel
theorem dX7_happen_62 : decode cX7_happen 62 = .ok (.getfield 197, 3) := by decide +kernel
theorem dX7_happen_65 : decode cX7_happen 65 = .ok (.iload_n 2, 1) := by decide +kernel
theorem dX7_happen_66 : decode cX7_happen 66 = .ok (.iaload, 1) := by decide +kernel
theorem dX7_happen_67 : decode cX7_happen 67 = .ok (.invokevirtual 200, 3) := by decide +kernel
theorem dX7_happen_70 : decode cX7_happen 70 = .ok (.goto 42, 3) := by decide +kernel
theorem dX7_happen_73 : decode cX7_happen 73 = .ok (.aload_n 0, 1) := by decide +kernel
theorem dX7_happen_74 : decode cX7_happen 74 = .ok (.aload_n 0, 1) := by decide +kernel
theorem dX7_happen_75 : decode cX7_happen 75 = .ok (.getfield 90, 3) := by decide +kernel
theorem dX7_happen_78 : decode cX7_happen 78 = .ok (.getfield 197, 3) := by decide +kernel
theorem dX7_happen_81 : decode cX7_happen 81 = .ok (.iload_n 2, 1) := by decide +kernel
theorem dX7_happen_82 : decode cX7_happen 82 = .ok (.iaload, 1) := by decide +kernel
theorem dX7_happen_83 : decode cX7_happen 83 = .ok (.invokevirtual 203, 3) := by decide +kernel
theorem dX7_happen_86 : decode cX7_happen 86 = .ok (.ifCond .eq 26, 3) := by decide +kernel
theorem dX7_happen_89 : decode cX7_happen 89 = .ok (.aload_n 0, 1) := by decide +kernel
theorem dX7_happen_90 : decode cX7_happen 90 = .ok (.aload_n 0, 1) := by decide +kernel
theorem dX7_happen_91 : decode cX7_happen 91 = .ok (.getfield 90, 3) := by decide +kernel
theorem dX7_happen_94 : decode cX7_happen 94 = .ok (.getfield 197, 3) := by decide +kernel
theorem dX7_happen_97 : decode cX7_happen 97 = .ok (.iload_n 2, 1) := by decide +kernel
theorem dX7_happen_98 : decode cX7_happen 98 = .ok (.iaload, 1) := by decide +kernel
theorem dX7_happen_99 : decode cX7_happen 99 = .ok (.aload_n 0, 1) := by decide +kernel
theorem dX7_happen_100 : decode cX7_happen 100 = .ok (.getfield 90, 3) := by decide +kernel
theorem dX7_happen_103 : decode cX7_happen 103 = .ok (.getfield 206, 3) := by decide +kernel
theorem dX7_happen_106 : decode cX7_happen 106 = .ok (.iload_n 2, 1) := by decide +kernel
theorem dX7_happen_107 : decode cX7_happen 107 = .ok (.iaload, 1) := by decide +kernel
theorem dX7_happen_108 : decode cX7_happen 108 = .ok (.invokevirtual 209, 3) := by decide +kernel
theorem dX7_happen_111 : decode cX7_happen 111 = .ok (.pop, 1) := by decide +kernel
theorem dX7_happen_112 : decode cX7_happen 112 = .ok (.iinc 2 1, 3) := by decide +kernel
theorem dX7_happen_115 : decode cX7_happen 115 = .ok (.goto (-111), 3) := by decide +kernel
theorem dX7_happen_118 : decode cX7_happen 118 = .ok (.aload_n 0, 1) := by decide +kernel
theorem dX7_happen_119 : decode cX7_happen 119 = .ok (.getfield 90, 3) := by decide +kernel
theorem dX7_happen_122 : decode cX7_happen 122 = .ok (.iload_n 1, 1) := by decide +kernel
theorem dX7_happen_123 : decode cX7_happen 123 = .ok (.putfield 184, 3) := by decide +kernel
theorem dX7_happen_126 : decode cX7_happen 126 = .ok (.return_, 1) := by decide +kernel
theorem dX7_pass_0 : decode cX7_pass 0 = .ok (.aload_n 0, 1) := by decide +kernel
theorem dX7_pass_1 : decode cX7_pass 1 = .ok (.invokevirtual 169, 3) := by decide +kernel
theorem dX7_pass_4 : decode cX7_pass 4 = .ok (.aload_n 0, 1) := by decide +kernel
theorem dX7_pass_5 : decode cX7_pass 5 = .ok (.invokevirtual 131, 3) := by decide +kernel
theorem dX7_pass_8 : decode cX7_pass 8 = .ok (.ireturn, 1) := by decide +kernel
section S_28_a01
variable {p : Program} {l : Launch} {e : Env} {R : Room} {s : State} {m : MethodId} {args : Array Value} {below : List Frame} {meth : Method} {c : Code} {A : Nat → Prop} {D : va_G} {cI cB cL : ClassId} {ad : Nat → Nat} {pa pl : Nat}
noncomputable def fX7_putForAll_41 (K3 : Int32 → Int32 → Int32 → Int32 → Int32 → Sg → Nat → Option (Sg × Nat)) (x1 : Int32) (x2 : Int32) (x3 : Int32) (x4 : Int32) (x5 : Int32) (u : Sg) (pl : Nat) : Option (Sg × Nat) := bnd (x5 + 1) (fun v4 => K3 x1 x2 x3 x4 v4 u pl)
noncomputable def fX7_putForAll_3 : Nat → Int32 → Int32 → Int32 → Int32 → Int32 → Sg → Nat → Option (Sg × Nat)
  | 0, _, _, _, _, _, _, _ => none
  | n + 1, x1, x2, x3, x4, x5, u, pl => cnd ((u 0 0) ≤ x5) (some (u, 0)) (grd (vp_in x3 20) (cnd ((fX11_isIn (u 15 ((x3 : Int32).toNatClampNeg)) x5) = 0) (fX7_putForAll_41 (fun a0 a1 a2 a3 a4 w z => fX7_putForAll_3 n a0 a1 a2 a3 a4 w z) x1 x2 x3 x4 x5 u pl) (obd (fX7_put x1 x5 x2 x3 x4 0 u pl) (fun u6 d7 => addB d7 (fX7_putForAll_41 (fun a0 a1 a2 a3 a4 w z => fX7_putForAll_3 n a0 a1 a2 a3 a4 w z) x1 x2 x3 x4 x5 u6 (pl + d7))))))
noncomputable def fX7_putForAll_0 (x1 : Int32) (x2 : Int32) (x3 : Int32) (x4 : Int32) (u : Sg) (pl : Nat) : Option (Sg × Nat) := fX7_putForAll_3 FU x1 x2 x3 x4 0 u pl
noncomputable def fX7_putForAll (x1 : Int32) (x2 : Int32) (x3 : Int32) (x4 : Int32) (u : Sg) (pl : Nat) : Option (Sg × Nat) := fX7_putForAll_0 x1 x2 x3 x4 u pl
set_option maxRecDepth 10000 in
set_option maxHeartbeats 4000000 in
theorem wX7_putForAll_41 (C : cx D (tyl cI cB cL) A RX7 cX7_putForAll 6 none p s m args c meth) (hR : 4 ≤ R.frames ∧ 103 ≤ R.locals) {σ' : Sg} {dt pf : Nat} (hC : R.cells = dt ∧ R.slots = 2 * dt) (u : Sg) {K3 : Int32 → Int32 → Int32 → Int32 → Int32 → Sg → Nat → Option (Sg × Nat)} (hK3 : ∀ (y1 : Int32) (y2 : Int32) (y3 : Int32) (y4 : Int32) (y5 : Int32) (v : Sg) (pl pa a dz : Nat) (H : Heap) (locs : List Loc) (ls : Array Slot), lv_has ls 6 [(0, .ref (ad 0)), (1, .int y1), (2, .int y2), (3, .int y3), (4, .int y4), (5, .int y5)] → st D (wN cI ad pa pl) A s v H locs → dt = a + dz → pf = pl + dz → K3 y1 y2 y3 y4 y5 v pl = some (σ', dz) → W p l e R s m args below meth c H locs a (2 * a) (MQ below (qVA D cI cB cL (wN cI ad) pf A σ') args s dt (2 * dt) A) (F0 m 3 ls [])) (x1 : Int32) (x2 : Int32) (x3 : Int32) (x4 : Int32) (x5 : Int32) {pl pa a dz : Nat} {H : Heap} {locs : List Loc} {ls : Array Slot} (hl : lv_has ls 6 [(0, .ref (ad 0)), (1, .int x1), (2, .int x2), (3, .int x3), (4, .int x4), (5, .int x5)]) (S : st D (wN cI ad pa pl) A s u H locs) (ha : dt = a + dz) (hpf : pf = pl + dz) (h : fX7_putForAll_41 K3 x1 x2 x3 x4 x5 u pl = some (σ', dz)) : W p l e R s m args below meth c H locs a (2 * a) (MQ below (qVA D cI cB cL (wN cI ad) pf A σ') args s dt (2 * dt) A) (F0 m 41 ls []) := by
  have hx := C.1
  have hb := C.2.1
  have hsz := hl.1
  unfold fX7_putForAll_41 at h
  obtain ⟨v4, ev4⟩ : ∃ y : Int32, y = x5 + 1 := ⟨_, rfl⟩
  have h := bnd_of ev4 h
  refine lv_iinc (v := v4) (lv' := [(5, .int v4), (0, .ref (ad 0)), (1, .int x1), (2, .int x2), (3, .int x3), (4, .int x4)]) hx hb dX7_putForAll_41 hl (k := 5) rfl (by rw [ev4]; rfl) (by decide) rfl (fun ls hl => ?_)
  have hsz := hl.1
  refine lv_goto (tgt := 3) hx hb dX7_putForAll_44 (by decide) ?_
  exact hK3 x1 x2 x3 x4 v4 u pl pa a dz H locs ls (lv_sub hl [1, 2, 3, 4, 5, 0] rfl) S ha hpf h
set_option maxRecDepth 10000 in
set_option maxHeartbeats 4000000 in
theorem wX7_putForAll_3 (C : cx D (tyl cI cB cL) A RX7 cX7_putForAll 6 none p s m args c meth) (hR : 4 ≤ R.frames ∧ 103 ≤ R.locals) {σ' : Sg} {dt pf : Nat} (hC : R.cells = dt ∧ R.slots = 2 * dt) : ∀ (n : Nat) (x1 : Int32) (x2 : Int32) (x3 : Int32) (x4 : Int32) (x5 : Int32) (u : Sg) (pl pa a dz : Nat) (H : Heap) (locs : List Loc) (ls : Array Slot), lv_has ls 6 [(0, .ref (ad 0)), (1, .int x1), (2, .int x2), (3, .int x3), (4, .int x4), (5, .int x5)] → st D (wN cI ad pa pl) A s u H locs → dt = a + dz → pf = pl + dz → fX7_putForAll_3 n x1 x2 x3 x4 x5 u pl = some (σ', dz) → W p l e R s m args below meth c H locs a (2 * a) (MQ below (qVA D cI cB cL (wN cI ad) pf A σ') args s dt (2 * dt) A) (F0 m 3 ls []) := by
  have hx := C.1
  have hb := C.2.1
  intro n
  induction n with
  | zero =>
    intro x1 x2 x3 x4 x5 u pl pa a dz H locs ls hl S ha hpf h
    cases h
  | succ n ih =>
    intro x1 x2 x3 x4 x5 u pl pa a dz H locs ls hl S ha hpf h
    rw [fX7_putForAll_3] at h
    have hsz := hl.1
    refine lv_iload hx hb dX7_putForAll_3 (lv_at hl 5 rfl) ?_
    refine lv_aload_n hx hb dX7_putForAll_5 rfl (lv_at hl 0 rfl) ?_
    refine q_get (v := .int (u 0 0)) C S (oN0 cI ad pa pl) rfl iwX7 0 (by decide) mw_347 rfl dX7_putForAll_6 ?_
    refine lv_icmp_ge (tgt := 47) hx hb dX7_putForAll_9 (by decide) (fun c1 => ?_) (fun c1 => ?_)
    · have h := cnd_t c1 h
      exact q_vretA C S h ha hpf dX7_putForAll_47
    · have h := cnd_f c1 h
      refine lv_aload_n hx hb dX7_putForAll_12 rfl (lv_at hl 0 rfl) ?_
      refine q_get (v := .ref (ad 13)) C S (oN0 cI ad pa pl) rfl iwX7 14 (by decide) mw_434 rfl dX7_putForAll_13 ?_
      refine q_get (v := .ref (ad 15)) C S (oN13 cI ad pa pl) rfl iwX6 2 (by decide) mw_451 rfl dX7_putForAll_16 ?_
      refine lv_iload_n hx hb dX7_putForAll_19 rfl (lv_at hl 3 rfl) ?_
      obtain ⟨g2, h⟩ := grd_some h
      refine q_iald C S (aN15 cI ad pa pl) 0 rfl g2 dX7_putForAll_20 (j := (x3 : Int32).toNatClampNeg) rfl ?_
      refine lv_iload hx hb dX7_putForAll_21 (lv_at hl 5 rfl) ?_
      refine q_callPN (As := [.int (u 15 ((x3 : Int32).toNatClampNeg)), .int x5]) (na := 2) C S (ct_X11_isIn l D cI cB cL (u 15 ((x3 : Int32).toNatClampNeg)) x5) (List.mem_of_getElem? (i := 14) rfl) mw_360 mw_321 mw_359 hdX11_isIn ⟨Nat.le_trans (Nat.le_of_ble_eq_true rfl) hR.1, Nat.le_trans (Nat.le_of_ble_eq_true rfl) hR.2⟩ rfl hsz (capA hC ha) (Nat.le_of_ble_eq_true rfl) dX7_putForAll_23 rfl (fun H locs S => ?_)
      refine lv_if_eq (tgt := 41) hx hb dX7_putForAll_26 (by decide) (fun c3 => ?_) (fun c3 => ?_)
      · have h := cnd_t c3 h
        exact wX7_putForAll_41 C hR hC u ih x1 x2 x3 x4 x5 (lv_sub hl [0, 1, 2, 3, 4, 5] rfl) S ha hpf h
      · have h := cnd_f c3 h
        refine lv_aload_n hx hb dX7_putForAll_29 rfl (lv_at hl 0 rfl) ?_
        refine lv_iload_n hx hb dX7_putForAll_30 rfl (lv_at hl 1 rfl) ?_
        refine lv_iload hx hb dX7_putForAll_31 (lv_at hl 5 rfl) ?_
        refine lv_iload_n hx hb dX7_putForAll_33 rfl (lv_at hl 2 rfl) ?_
        refine lv_iload_n hx hb dX7_putForAll_34 rfl (lv_at hl 3 rfl) ?_
        refine lv_iload hx hb dX7_putForAll_35 (lv_at hl 4 rfl) ?_
        refine lv_iconst (v := 0) hx hb dX7_putForAll_37 (by decide) ?_
        obtain ⟨u6, d7, h5, h⟩ := obd_some h
        obtain ⟨dz8, h, edz8⟩ := addB_some h
        have ha9 : dt = (a + d7) + dz8 := by omega
        have hpf9 : pf = (pl + d7) + dz8 := by omega
        refine q_callVvA (As := [.int x1, .int x5, .int x2, .int x3, .int x4, .int 0]) (na := 6) C S (oN0 cI ad pa pl) rfl (ct_X7_put l D cI cB cL ad x1 x5 x2 x3 x4 0 u pl h5) mw_495 mw_494 mw_496 mw_341 mw_493 hdX7_put ⟨Nat.le_trans (Nat.le_of_ble_eq_true rfl) hR.1, Nat.le_trans (Nat.le_of_ble_eq_true rfl) hR.2⟩ rfl hsz (dz := dz8) hC (by omega) (Nat.le_of_ble_eq_true rfl) dX7_putForAll_38 rfl (fun pa9 H locs S => ?_)
        exact wX7_putForAll_41 C hR hC u6 ih x1 x2 x3 x4 x5 (lv_sub hl [0, 1, 2, 3, 4, 5] rfl) S ha9 hpf9 h
set_option maxRecDepth 10000 in
set_option maxHeartbeats 4000000 in
theorem wX7_putForAll_0 (C : cx D (tyl cI cB cL) A RX7 cX7_putForAll 6 none p s m args c meth) (hR : 4 ≤ R.frames ∧ 103 ≤ R.locals) {σ' : Sg} {dt pf : Nat} (hC : R.cells = dt ∧ R.slots = 2 * dt) (u : Sg) (x1 : Int32) (x2 : Int32) (x3 : Int32) (x4 : Int32) {pl pa a dz : Nat} {H : Heap} {locs : List Loc} {ls : Array Slot} (hl : lv_has ls 6 [(0, .ref (ad 0)), (1, .int x1), (2, .int x2), (3, .int x3), (4, .int x4)]) (S : st D (wN cI ad pa pl) A s u H locs) (ha : dt = a + dz) (hpf : pf = pl + dz) (h : fX7_putForAll_0 x1 x2 x3 x4 u pl = some (σ', dz)) : W p l e R s m args below meth c H locs a (2 * a) (MQ below (qVA D cI cB cL (wN cI ad) pf A σ') args s dt (2 * dt) A) (F0 m 0 ls []) := by
  have hx := C.1
  have hb := C.2.1
  have hsz := hl.1
  unfold fX7_putForAll_0 at h
  refine lv_iconst (v := 0) hx hb dX7_putForAll_0 (by decide) ?_
  refine lv_istore (lv' := [(5, .int 0), (0, .ref (ad 0)), (1, .int x1), (2, .int x2), (3, .int x3), (4, .int x4)]) hx hb dX7_putForAll_1 hl (by decide) rfl (fun ls hl => ?_)
  have hsz := hl.1
  exact wX7_putForAll_3 C hR hC FU x1 x2 x3 x4 0 u pl pa a dz H locs ls (lv_sub hl [1, 2, 3, 4, 5, 0] rfl) S ha hpf h
set_option maxRecDepth 10000 in
set_option maxHeartbeats 4000000 in
theorem ct_X7_putForAll (l : Launch) (D : va_G) (cI cB cL : ClassId) (ad : Nat → Nat) (x1 : Int32) (x2 : Int32) (x3 : Int32) (x4 : Int32) (u : Sg) (pl : Nat) {σ' : Sg} {dz : Nat} (h : fX7_putForAll x1 x2 x3 x4 u pl = some (σ', dz)) : metVA l D cI cB cL yX7_putForAll cX7_putForAll 6 4 103 (wN cI ad) [.ref (ad 0), .int x1, .int x2, .int x3, .int x4] u pl σ' dz := by
  intro pa sz
  refine Met.ofW (cc := cX7_putForAll) (maxL := 6) (ret := none) (by decide) rfl ?_
  intro p e s m args below meth c s₁ B hml hv
  obtain ⟨rfl, C, S⟩ := q_entryA B hml hv
  have hl := lv_entry ([.ref (ad 0), .int x1, .int x2, .int x3, .int x4]) (n := 6) (Nat.le_of_ble_eq_true rfl)
  rw [lg_entry_eq]
  generalize (lg_sl ([.ref (ad 0), .int x1, .int x2, .int x3, .int x4]) ++ List.replicate (6 - (lg_sl ([.ref (ad 0), .int x1, .int x2, .int x3, .int x4])).length) Slot.unset).toArray = ls at hl ⊢
  exact wX7_putForAll_0 C ⟨Nat.le_refl _, Nat.le_refl _⟩ ⟨rfl, rfl⟩ u x1 x2 x3 x4 (lv_sub hl [0, 1, 2, 3, 4] rfl) S (Nat.zero_add _).symm rfl h
noncomputable def fX7_leadAll_148 (K2 : Int32 → Sg → Nat → Option (Sg × Nat)) (x1 : Int32) (u : Sg) (pl : Nat) : Option (Sg × Nat) := bnd (x1 + 1) (fun v3 => K2 v3 u pl)
noncomputable def fX7_leadAll_142 (K2 : Int32 → Sg → Nat → Option (Sg × Nat)) (K12 : Int32 → Int32 → Sg → Nat → Option (Sg × Nat)) (x1 : Int32) (x2 : Int32) (u : Sg) (pl : Nat) : Option (Sg × Nat) := bnd (x2 + 1) (fun v13 => K12 x1 v13 u pl)
noncomputable def fX7_leadAll_89 (K2 : Int32 → Sg → Nat → Option (Sg × Nat)) (K12 : Int32 → Int32 → Sg → Nat → Option (Sg × Nat)) (x1 : Int32) (x2 : Int32) (u : Sg) (pl : Nat) : Option (Sg × Nat) := obr (fX7_isFull x1 x2 u) (fun r11 => cnd (r11 = 0) (fX7_leadAll_142 K2 K12 x1 x2 u pl) (bnd (fX11_spotOf x1 x2) (fun v14 => obr (fX3_outcome v14 u) (fun r16 => bnd (s2 u 0 8 1) (fun u17 => obr (fX3_cease v14 u17) (fun u19 => cnd (r16 = (-1)) (fX7_leadAll_142 K2 K12 x1 x2 u19 pl) (obd (fX7_putForAll x1 2 x2 r16 u19 pl) (fun u22 d23 => addB d23 (fX7_leadAll_142 K2 K12 x1 x2 u22 (pl + d23))))))))))
noncomputable def fX7_leadAll_12 (K2 : Int32 → Sg → Nat → Option (Sg × Nat)) : Nat → Int32 → Int32 → Sg → Nat → Option (Sg × Nat)
  | 0, _, _, _, _ => none
  | n + 1, x1, x2, u, pl => cnd ((u 13 0) ≤ x2) (fX7_leadAll_148 K2 x1 u pl) (obr (fX7_isUp x1 u) (fun r5 => cnd (r5 = 0) (fX7_leadAll_148 K2 x1 u pl) (obr (fX7_mustTakeOver x1 x2 u) (fun r8 => cnd (r8 = 0) (fX7_leadAll_89 K2 (fun a0 a1 w z => fX7_leadAll_12 K2 n a0 a1 w z) x1 x2 u pl) (bnd (s2 u 0 7 ((u 0 7) + 1)) (fun u26 => bnd (s2 u26 0 8 1) (fun u27 => obr (fX5_add (u27 0 3) x1 3 x2 u27) (fun u29 => obr (fX3_begin (fX11_spotOf x1 x2) u29) (fun u31 => obd (fX7_putForAll x1 3 x2 (-1) u31 pl) (fun u33 d34 => addB d34 (fX7_leadAll_89 K2 (fun a0 a1 w z => fX7_leadAll_12 K2 n a0 a1 w z) x1 x2 u33 (pl + d34))))))))))))
noncomputable def fX7_leadAll_2 : Nat → Int32 → Sg → Nat → Option (Sg × Nat)
  | 0, _, _, _ => none
  | n + 1, x1, u, pl => cnd ((u 0 0) ≤ x1) (some (u, 0)) (fX7_leadAll_12 (fun a0 w z => fX7_leadAll_2 n a0 w z) FU x1 0 u pl)
noncomputable def fX7_leadAll_0 (u : Sg) (pl : Nat) : Option (Sg × Nat) := fX7_leadAll_2 FU 0 u pl
noncomputable def fX7_leadAll (u : Sg) (pl : Nat) : Option (Sg × Nat) := fX7_leadAll_0 u pl
set_option maxRecDepth 10000 in
set_option maxHeartbeats 4000000 in
theorem wX7_leadAll_148 (C : cx D (tyl cI cB cL) A RX7 cX7_leadAll 5 none p s m args c meth) (hR : 5 ≤ R.frames ∧ 128 ≤ R.locals) {σ' : Sg} {dt pf : Nat} (hC : R.cells = dt ∧ R.slots = 2 * dt) (u : Sg) {K2 : Int32 → Sg → Nat → Option (Sg × Nat)} (hK2 : ∀ (y1 : Int32) (v : Sg) (pl pa a dz : Nat) (H : Heap) (locs : List Loc) (ls : Array Slot), lv_has ls 5 [(0, .ref (ad 0)), (1, .int y1)] → st D (wN cI ad pa pl) A s v H locs → dt = a + dz → pf = pl + dz → K2 y1 v pl = some (σ', dz) → W p l e R s m args below meth c H locs a (2 * a) (MQ below (qVA D cI cB cL (wN cI ad) pf A σ') args s dt (2 * dt) A) (F0 m 2 ls [])) (x1 : Int32) {pl pa a dz : Nat} {H : Heap} {locs : List Loc} {ls : Array Slot} (hl : lv_has ls 5 [(0, .ref (ad 0)), (1, .int x1)]) (S : st D (wN cI ad pa pl) A s u H locs) (ha : dt = a + dz) (hpf : pf = pl + dz) (h : fX7_leadAll_148 K2 x1 u pl = some (σ', dz)) : W p l e R s m args below meth c H locs a (2 * a) (MQ below (qVA D cI cB cL (wN cI ad) pf A σ') args s dt (2 * dt) A) (F0 m 148 ls []) := by
  have hx := C.1
  have hb := C.2.1
  have hsz := hl.1
  unfold fX7_leadAll_148 at h
  obtain ⟨v3, ev3⟩ : ∃ y : Int32, y = x1 + 1 := ⟨_, rfl⟩
  have h := bnd_of ev3 h
  refine lv_iinc (v := v3) (lv' := [(1, .int v3), (0, .ref (ad 0))]) hx hb dX7_leadAll_148 hl (k := 1) rfl (by rw [ev3]; rfl) (by decide) rfl (fun ls hl => ?_)
  have hsz := hl.1
  refine lv_goto (tgt := 2) hx hb dX7_leadAll_151 (by decide) ?_
  exact hK2 v3 u pl pa a dz H locs ls (lv_sub hl [1, 0] rfl) S ha hpf h
set_option maxRecDepth 10000 in
set_option maxHeartbeats 4000000 in
theorem wX7_leadAll_142 (C : cx D (tyl cI cB cL) A RX7 cX7_leadAll 5 none p s m args c meth) (hR : 5 ≤ R.frames ∧ 128 ≤ R.locals) {σ' : Sg} {dt pf : Nat} (hC : R.cells = dt ∧ R.slots = 2 * dt) (u : Sg) {K2 : Int32 → Sg → Nat → Option (Sg × Nat)} (hK2 : ∀ (y1 : Int32) (v : Sg) (pl pa a dz : Nat) (H : Heap) (locs : List Loc) (ls : Array Slot), lv_has ls 5 [(0, .ref (ad 0)), (1, .int y1)] → st D (wN cI ad pa pl) A s v H locs → dt = a + dz → pf = pl + dz → K2 y1 v pl = some (σ', dz) → W p l e R s m args below meth c H locs a (2 * a) (MQ below (qVA D cI cB cL (wN cI ad) pf A σ') args s dt (2 * dt) A) (F0 m 2 ls [])) {K12 : Int32 → Int32 → Sg → Nat → Option (Sg × Nat)} (hK12 : ∀ (y1 : Int32) (y2 : Int32) (v : Sg) (pl pa a dz : Nat) (H : Heap) (locs : List Loc) (ls : Array Slot), lv_has ls 5 [(0, .ref (ad 0)), (1, .int y1), (2, .int y2)] → st D (wN cI ad pa pl) A s v H locs → dt = a + dz → pf = pl + dz → K12 y1 y2 v pl = some (σ', dz) → W p l e R s m args below meth c H locs a (2 * a) (MQ below (qVA D cI cB cL (wN cI ad) pf A σ') args s dt (2 * dt) A) (F0 m 12 ls [])) (x1 : Int32) (x2 : Int32) {pl pa a dz : Nat} {H : Heap} {locs : List Loc} {ls : Array Slot} (hl : lv_has ls 5 [(0, .ref (ad 0)), (1, .int x1), (2, .int x2)]) (S : st D (wN cI ad pa pl) A s u H locs) (ha : dt = a + dz) (hpf : pf = pl + dz) (h : fX7_leadAll_142 K2 K12 x1 x2 u pl = some (σ', dz)) : W p l e R s m args below meth c H locs a (2 * a) (MQ below (qVA D cI cB cL (wN cI ad) pf A σ') args s dt (2 * dt) A) (F0 m 142 ls []) := by
  have hx := C.1
  have hb := C.2.1
  have hsz := hl.1
  unfold fX7_leadAll_142 at h
  obtain ⟨v13, ev13⟩ : ∃ y : Int32, y = x2 + 1 := ⟨_, rfl⟩
  have h := bnd_of ev13 h
  refine lv_iinc (v := v13) (lv' := [(2, .int v13), (0, .ref (ad 0)), (1, .int x1)]) hx hb dX7_leadAll_142 hl (k := 2) rfl (by rw [ev13]; rfl) (by decide) rfl (fun ls hl => ?_)
  have hsz := hl.1
  refine lv_goto (tgt := 12) hx hb dX7_leadAll_145 (by decide) ?_
  exact hK12 x1 v13 u pl pa a dz H locs ls (lv_sub hl [1, 2, 0] rfl) S ha hpf h
set_option maxRecDepth 10000 in
set_option maxHeartbeats 4000000 in
theorem wX7_leadAll_89 (C : cx D (tyl cI cB cL) A RX7 cX7_leadAll 5 none p s m args c meth) (hR : 5 ≤ R.frames ∧ 128 ≤ R.locals) {σ' : Sg} {dt pf : Nat} (hC : R.cells = dt ∧ R.slots = 2 * dt) (u : Sg) {K2 : Int32 → Sg → Nat → Option (Sg × Nat)} (hK2 : ∀ (y1 : Int32) (v : Sg) (pl pa a dz : Nat) (H : Heap) (locs : List Loc) (ls : Array Slot), lv_has ls 5 [(0, .ref (ad 0)), (1, .int y1)] → st D (wN cI ad pa pl) A s v H locs → dt = a + dz → pf = pl + dz → K2 y1 v pl = some (σ', dz) → W p l e R s m args below meth c H locs a (2 * a) (MQ below (qVA D cI cB cL (wN cI ad) pf A σ') args s dt (2 * dt) A) (F0 m 2 ls [])) {K12 : Int32 → Int32 → Sg → Nat → Option (Sg × Nat)} (hK12 : ∀ (y1 : Int32) (y2 : Int32) (v : Sg) (pl pa a dz : Nat) (H : Heap) (locs : List Loc) (ls : Array Slot), lv_has ls 5 [(0, .ref (ad 0)), (1, .int y1), (2, .int y2)] → st D (wN cI ad pa pl) A s v H locs → dt = a + dz → pf = pl + dz → K12 y1 y2 v pl = some (σ', dz) → W p l e R s m args below meth c H locs a (2 * a) (MQ below (qVA D cI cB cL (wN cI ad) pf A σ') args s dt (2 * dt) A) (F0 m 12 ls [])) (x1 : Int32) (x2 : Int32) {pl pa a dz : Nat} {H : Heap} {locs : List Loc} {ls : Array Slot} (hl : lv_has ls 5 [(0, .ref (ad 0)), (1, .int x1), (2, .int x2)]) (S : st D (wN cI ad pa pl) A s u H locs) (ha : dt = a + dz) (hpf : pf = pl + dz) (h : fX7_leadAll_89 K2 K12 x1 x2 u pl = some (σ', dz)) : W p l e R s m args below meth c H locs a (2 * a) (MQ below (qVA D cI cB cL (wN cI ad) pf A σ') args s dt (2 * dt) A) (F0 m 89 ls []) := by
  have hx := C.1
  have hb := C.2.1
  have hsz := hl.1
  unfold fX7_leadAll_89 at h
  refine lv_aload_n hx hb dX7_leadAll_89 rfl (lv_at hl 0 rfl) ?_
  refine lv_iload_n hx hb dX7_leadAll_90 rfl (lv_at hl 1 rfl) ?_
  refine lv_iload_n hx hb dX7_leadAll_91 rfl (lv_at hl 2 rfl) ?_
  obtain ⟨r11, h10, h⟩ := obr_some h
  refine q_callVi (As := [.int x1, .int x2]) (na := 2) C S (oN0 cI ad pa pl) rfl (ct_X7_isFull l D cI cB cL ad pa pl x1 x2 u h10) mw_526 mw_525 mw_527 mw_341 mw_524 hdX7_isFull ⟨Nat.le_trans (Nat.le_of_ble_eq_true rfl) hR.1, Nat.le_trans (Nat.le_of_ble_eq_true rfl) hR.2⟩ rfl hsz (capA hC ha) (Nat.le_of_ble_eq_true rfl) dX7_leadAll_92 rfl (fun H locs S => ?_)
  refine lv_if_eq (tgt := 142) hx hb dX7_leadAll_95 (by decide) (fun c12 => ?_) (fun c12 => ?_)
  · have h := cnd_t c12 h
    exact wX7_leadAll_142 C hR hC u hK2 hK12 x1 x2 (lv_sub hl [0, 1, 2] rfl) S ha hpf h
  · have h := cnd_f c12 h
    refine lv_iload_n hx hb dX7_leadAll_98 rfl (lv_at hl 1 rfl) ?_
    refine lv_iload_n hx hb dX7_leadAll_99 rfl (lv_at hl 2 rfl) ?_
    refine q_callPN (As := [.int x1, .int x2]) (na := 2) C S (ct_X11_spotOf l D cI cB cL x1 x2) (List.mem_of_getElem? (i := 13) rfl) mw_322 mw_321 mw_320 hdX11_spotOf ⟨Nat.le_trans (Nat.le_of_ble_eq_true rfl) hR.1, Nat.le_trans (Nat.le_of_ble_eq_true rfl) hR.2⟩ rfl hsz (capA hC ha) (Nat.le_of_ble_eq_true rfl) dX7_leadAll_100 rfl (fun H locs S => ?_)
    refine lv_topi (fun v14 ev14 => ?_)
    have h := bnd_of ev14 h
    refine lv_istore_n (lv' := [(3, .int v14), (0, .ref (ad 0)), (1, .int x1), (2, .int x2)]) hx hb dX7_leadAll_103 rfl hl (by decide) rfl (fun ls hl => ?_)
    have hsz := hl.1
    refine lv_aload_n hx hb dX7_leadAll_104 rfl (lv_at hl 1 rfl) ?_
    refine q_get (v := .ref (ad 26)) C S (oN0 cI ad pa pl) rfl iwX7 16 (by decide) mw_448 rfl dX7_leadAll_105 ?_
    refine lv_iload_n hx hb dX7_leadAll_108 rfl (lv_at hl 0 rfl) ?_
    obtain ⟨r16, h15, h⟩ := obr_some h
    refine q_callVi (As := [.int v14]) (na := 1) C S (oN26 cI ad pa pl) rfl (ct_X3_outcome l D cI cB cL ad pa pl v14 u h15) mw_530 mw_529 mw_531 mw_326 mw_528 hdX3_outcome ⟨Nat.le_trans (Nat.le_of_ble_eq_true rfl) hR.1, Nat.le_trans (Nat.le_of_ble_eq_true rfl) hR.2⟩ rfl hsz (capA hC ha) (Nat.le_of_ble_eq_true rfl) dX7_leadAll_109 rfl (fun H locs S => ?_)
    refine lv_istore (lv' := [(4, .int r16), (3, .int v14), (0, .ref (ad 0)), (1, .int x1), (2, .int x2)]) hx hb dX7_leadAll_112 hl (by decide) rfl (fun ls hl => ?_)
    have hsz := hl.1
    refine lv_aload_n hx hb dX7_leadAll_114 rfl (lv_at hl 2 rfl) ?_
    refine lv_iconst (v := 1) hx hb dX7_leadAll_115 (by decide) ?_
    obtain ⟨u17, eu17⟩ : ∃ z : Sg, z = s2 u 0 8 1 := ⟨_, rfl⟩
    have h := bnd_of eu17 h
    refine q_put C S (oN0 cI ad pa pl) rfl iwX7 tyX7 tyX7_ok nmX7 8 (by decide) mw_519 rfl (iN0_8 cI ad pa pl) rfl rfl dX7_leadAll_116 eu17 (fun H locs S => ?_)
    refine lv_aload_n hx hb dX7_leadAll_119 rfl (lv_at hl 2 rfl) ?_
    refine q_get (v := .ref (ad 26)) C S (oN0 cI ad pa pl) rfl iwX7 16 (by decide) mw_448 rfl dX7_leadAll_120 ?_
    refine lv_iload_n hx hb dX7_leadAll_123 rfl (lv_at hl 1 rfl) ?_
    obtain ⟨u19, h18, h⟩ := obr_some h
    refine q_callVv (As := [.int v14]) (na := 1) C S (oN26 cI ad pa pl) rfl (ct_X3_cease l D cI cB cL ad pa pl v14 u17 h18) mw_534 mw_533 mw_535 mw_326 mw_532 hdX3_cease ⟨Nat.le_trans (Nat.le_of_ble_eq_true rfl) hR.1, Nat.le_trans (Nat.le_of_ble_eq_true rfl) hR.2⟩ rfl hsz (capA hC ha) (Nat.le_of_ble_eq_true rfl) dX7_leadAll_124 rfl (fun H locs S => ?_)
    refine lv_iload hx hb dX7_leadAll_127 (lv_at hl 0 rfl) ?_
    refine lv_iconst (v := (-1)) hx hb dX7_leadAll_129 (by decide) ?_
    refine lv_icmp_eq (tgt := 142) hx hb dX7_leadAll_130 (by decide) (fun c20 => ?_) (fun c20 => ?_)
    · have h := cnd_t c20 h
      exact wX7_leadAll_142 C hR hC u19 hK2 hK12 x1 x2 (lv_sub hl [2, 3, 4] rfl) S ha hpf h
    · have h := cnd_f c20 h
      refine lv_aload_n hx hb dX7_leadAll_133 rfl (lv_at hl 2 rfl) ?_
      refine lv_iload_n hx hb dX7_leadAll_134 rfl (lv_at hl 3 rfl) ?_
      refine lv_iconst (v := 2) hx hb dX7_leadAll_135 (by decide) ?_
      refine lv_iload_n hx hb dX7_leadAll_136 rfl (lv_at hl 4 rfl) ?_
      refine lv_iload hx hb dX7_leadAll_137 (lv_at hl 0 rfl) ?_
      obtain ⟨u22, d23, h21, h⟩ := obd_some h
      obtain ⟨dz24, h, edz24⟩ := addB_some h
      have ha25 : dt = (a + d23) + dz24 := by omega
      have hpf25 : pf = (pl + d23) + dz24 := by omega
      refine q_callVvA (As := [.int x1, .int 2, .int x2, .int r16]) (na := 4) C S (oN0 cI ad pa pl) rfl (ct_X7_putForAll l D cI cB cL ad x1 2 x2 r16 u19 pl h21) mw_538 mw_537 mw_539 mw_341 mw_536 hdX7_putForAll ⟨Nat.le_trans (Nat.le_of_ble_eq_true rfl) hR.1, Nat.le_trans (Nat.le_of_ble_eq_true rfl) hR.2⟩ rfl hsz (dz := dz24) hC (by omega) (Nat.le_of_ble_eq_true rfl) dX7_leadAll_139 rfl (fun pa25 H locs S => ?_)
      exact wX7_leadAll_142 C hR hC u22 hK2 hK12 x1 x2 (lv_sub hl [2, 3, 4] rfl) S ha25 hpf25 h
set_option maxRecDepth 10000 in
set_option maxHeartbeats 4000000 in
theorem wX7_leadAll_12 (C : cx D (tyl cI cB cL) A RX7 cX7_leadAll 5 none p s m args c meth) (hR : 5 ≤ R.frames ∧ 128 ≤ R.locals) {σ' : Sg} {dt pf : Nat} (hC : R.cells = dt ∧ R.slots = 2 * dt) {K2 : Int32 → Sg → Nat → Option (Sg × Nat)} (hK2 : ∀ (y1 : Int32) (v : Sg) (pl pa a dz : Nat) (H : Heap) (locs : List Loc) (ls : Array Slot), lv_has ls 5 [(0, .ref (ad 0)), (1, .int y1)] → st D (wN cI ad pa pl) A s v H locs → dt = a + dz → pf = pl + dz → K2 y1 v pl = some (σ', dz) → W p l e R s m args below meth c H locs a (2 * a) (MQ below (qVA D cI cB cL (wN cI ad) pf A σ') args s dt (2 * dt) A) (F0 m 2 ls [])) : ∀ (n : Nat) (x1 : Int32) (x2 : Int32) (u : Sg) (pl pa a dz : Nat) (H : Heap) (locs : List Loc) (ls : Array Slot), lv_has ls 5 [(0, .ref (ad 0)), (1, .int x1), (2, .int x2)] → st D (wN cI ad pa pl) A s u H locs → dt = a + dz → pf = pl + dz → fX7_leadAll_12 K2 n x1 x2 u pl = some (σ', dz) → W p l e R s m args below meth c H locs a (2 * a) (MQ below (qVA D cI cB cL (wN cI ad) pf A σ') args s dt (2 * dt) A) (F0 m 12 ls []) := by
  have hx := C.1
  have hb := C.2.1
  intro n
  induction n with
  | zero =>
    intro x1 x2 u pl pa a dz H locs ls hl S ha hpf h
    cases h
  | succ n ih =>
    intro x1 x2 u pl pa a dz H locs ls hl S ha hpf h
    rw [fX7_leadAll_12] at h
    have hsz := hl.1
    refine lv_iload_n hx hb dX7_leadAll_12 rfl (lv_at hl 2 rfl) ?_
    refine lv_aload_n hx hb dX7_leadAll_13 rfl (lv_at hl 0 rfl) ?_
    refine q_get (v := .ref (ad 13)) C S (oN0 cI ad pa pl) rfl iwX7 14 (by decide) mw_434 rfl dX7_leadAll_14 ?_
    refine q_get (v := .int (u 13 0)) C S (oN13 cI ad pa pl) rfl iwX6 0 (by decide) mw_435 rfl dX7_leadAll_17 ?_
    refine lv_icmp_ge (tgt := 148) hx hb dX7_leadAll_20 (by decide) (fun c2 => ?_) (fun c2 => ?_)
    · have h := cnd_t c2 h
      exact wX7_leadAll_148 C hR hC u hK2 x1 (lv_sub hl [0, 1] rfl) S ha hpf h
    · have h := cnd_f c2 h
      refine lv_aload_n hx hb dX7_leadAll_23 rfl (lv_at hl 0 rfl) ?_
      refine lv_iload_n hx hb dX7_leadAll_24 rfl (lv_at hl 1 rfl) ?_
      obtain ⟨r5, h4, h⟩ := obr_some h
      refine q_callVi (As := [.int x1]) (na := 1) C S (oN0 cI ad pa pl) rfl (ct_X7_isUp l D cI cB cL ad pa pl x1 u h4) mw_343 mw_342 mw_344 mw_341 mw_340 hdX7_isUp ⟨Nat.le_trans (Nat.le_of_ble_eq_true rfl) hR.1, Nat.le_trans (Nat.le_of_ble_eq_true rfl) hR.2⟩ rfl hsz (capA hC ha) (Nat.le_of_ble_eq_true rfl) dX7_leadAll_25 rfl (fun H locs S => ?_)
      refine lv_if_eq (tgt := 148) hx hb dX7_leadAll_28 (by decide) (fun c6 => ?_) (fun c6 => ?_)
      · have h := cnd_t c6 h
        exact wX7_leadAll_148 C hR hC u hK2 x1 (lv_sub hl [0, 1] rfl) S ha hpf h
      · have h := cnd_f c6 h
        refine lv_aload_n hx hb dX7_leadAll_31 rfl (lv_at hl 0 rfl) ?_
        refine lv_iload_n hx hb dX7_leadAll_32 rfl (lv_at hl 1 rfl) ?_
        refine lv_iload_n hx hb dX7_leadAll_33 rfl (lv_at hl 2 rfl) ?_
        obtain ⟨r8, h7, h⟩ := obr_some h
        refine q_callVi (As := [.int x1, .int x2]) (na := 2) C S (oN0 cI ad pa pl) rfl (ct_X7_mustTakeOver l D cI cB cL ad pa pl x1 x2 u h7) mw_522 mw_521 mw_523 mw_341 mw_520 hdX7_mustTakeOver ⟨Nat.le_trans (Nat.le_of_ble_eq_true rfl) hR.1, Nat.le_trans (Nat.le_of_ble_eq_true rfl) hR.2⟩ rfl hsz (capA hC ha) (Nat.le_of_ble_eq_true rfl) dX7_leadAll_34 rfl (fun H locs S => ?_)
        refine lv_if_eq (tgt := 89) hx hb dX7_leadAll_37 (by decide) (fun c9 => ?_) (fun c9 => ?_)
        · have h := cnd_t c9 h
          exact wX7_leadAll_89 C hR hC u hK2 ih x1 x2 (lv_sub hl [0, 1, 2] rfl) S ha hpf h
        · have h := cnd_f c9 h
          refine lv_aload_n hx hb dX7_leadAll_40 rfl (lv_at hl 0 rfl) ?_
          refine lv_dup hx hb dX7_leadAll_41 rfl ?_
          refine q_get (v := .int (u 0 7)) C S (oN0 cI ad pa pl) rfl iwX7 7 (by decide) mw_540 rfl dX7_leadAll_42 ?_
          refine lv_iconst (v := 1) hx hb dX7_leadAll_45 (by decide) ?_
          refine lv_iadd hx hb dX7_leadAll_46 ?_
          obtain ⟨u26, eu26⟩ : ∃ z : Sg, z = s2 u 0 7 ((u 0 7) + 1) := ⟨_, rfl⟩
          have h := bnd_of eu26 h
          refine q_put C S (oN0 cI ad pa pl) rfl iwX7 tyX7 tyX7_ok nmX7 7 (by decide) mw_540 rfl (iN0_7 cI ad pa pl) rfl rfl dX7_leadAll_47 eu26 (fun H locs S => ?_)
          refine lv_aload_n hx hb dX7_leadAll_50 rfl (lv_at hl 0 rfl) ?_
          refine lv_iconst (v := 1) hx hb dX7_leadAll_51 (by decide) ?_
          obtain ⟨u27, eu27⟩ : ∃ z : Sg, z = s2 u26 0 8 1 := ⟨_, rfl⟩
          have h := bnd_of eu27 h
          refine q_put C S (oN0 cI ad pa pl) rfl iwX7 tyX7 tyX7_ok nmX7 8 (by decide) mw_519 rfl (iN0_8 cI ad pa pl) rfl rfl dX7_leadAll_52 eu27 (fun H locs S => ?_)
          refine lv_aload_n hx hb dX7_leadAll_55 rfl (lv_at hl 0 rfl) ?_
          refine q_get (v := .ref (ad 34)) C S (oN0 cI ad pa pl) rfl iwX7 18 (by decide) mw_438 rfl dX7_leadAll_56 ?_
          refine lv_aload_n hx hb dX7_leadAll_59 rfl (lv_at hl 0 rfl) ?_
          refine q_get (v := .int (u27 0 3)) C S (oN0 cI ad pa pl) rfl iwX7 3 (by decide) mw_345 rfl dX7_leadAll_60 ?_
          refine lv_iload_n hx hb dX7_leadAll_63 rfl (lv_at hl 1 rfl) ?_
          refine lv_iconst (v := 3) hx hb dX7_leadAll_64 (by decide) ?_
          refine lv_iload_n hx hb dX7_leadAll_65 rfl (lv_at hl 2 rfl) ?_
          obtain ⟨u29, h28, h⟩ := obr_some h
          refine q_callVv (As := [.int (u27 0 3), .int x1, .int 3, .int x2]) (na := 4) C S (oN34 cI ad pa pl) rfl (ct_X5_add l D cI cB cL ad pa pl (u27 0 3) x1 3 x2 u27 h28) mw_442 mw_441 mw_443 mw_440 mw_439 hdX5_add ⟨Nat.le_trans (Nat.le_of_ble_eq_true rfl) hR.1, Nat.le_trans (Nat.le_of_ble_eq_true rfl) hR.2⟩ rfl hsz (capA hC ha) (Nat.le_of_ble_eq_true rfl) dX7_leadAll_66 rfl (fun H locs S => ?_)
          refine lv_aload_n hx hb dX7_leadAll_69 rfl (lv_at hl 0 rfl) ?_
          refine q_get (v := .ref (ad 26)) C S (oN0 cI ad pa pl) rfl iwX7 16 (by decide) mw_448 rfl dX7_leadAll_70 ?_
          refine lv_iload_n hx hb dX7_leadAll_73 rfl (lv_at hl 1 rfl) ?_
          refine lv_iload_n hx hb dX7_leadAll_74 rfl (lv_at hl 2 rfl) ?_
          refine q_callPN (As := [.int x1, .int x2]) (na := 2) C S (ct_X11_spotOf l D cI cB cL x1 x2) (List.mem_of_getElem? (i := 13) rfl) mw_322 mw_321 mw_320 hdX11_spotOf ⟨Nat.le_trans (Nat.le_of_ble_eq_true rfl) hR.1, Nat.le_trans (Nat.le_of_ble_eq_true rfl) hR.2⟩ rfl hsz (capA hC ha) (Nat.le_of_ble_eq_true rfl) dX7_leadAll_75 rfl (fun H locs S => ?_)
          obtain ⟨u31, h30, h⟩ := obr_some h
          refine q_callVv (As := [.int (fX11_spotOf x1 x2)]) (na := 1) C S (oN26 cI ad pa pl) rfl (ct_X3_begin l D cI cB cL ad pa pl (fX11_spotOf x1 x2) u29 h30) mw_543 mw_542 mw_544 mw_326 mw_541 hdX3_begin ⟨Nat.le_trans (Nat.le_of_ble_eq_true rfl) hR.1, Nat.le_trans (Nat.le_of_ble_eq_true rfl) hR.2⟩ rfl hsz (capA hC ha) (Nat.le_of_ble_eq_true rfl) dX7_leadAll_78 rfl (fun H locs S => ?_)
          refine lv_aload_n hx hb dX7_leadAll_81 rfl (lv_at hl 0 rfl) ?_
          refine lv_iload_n hx hb dX7_leadAll_82 rfl (lv_at hl 1 rfl) ?_
          refine lv_iconst (v := 3) hx hb dX7_leadAll_83 (by decide) ?_
          refine lv_iload_n hx hb dX7_leadAll_84 rfl (lv_at hl 2 rfl) ?_
          refine lv_iconst (v := (-1)) hx hb dX7_leadAll_85 (by decide) ?_
          obtain ⟨u33, d34, h32, h⟩ := obd_some h
          obtain ⟨dz35, h, edz35⟩ := addB_some h
          have ha36 : dt = (a + d34) + dz35 := by omega
          have hpf36 : pf = (pl + d34) + dz35 := by omega
          refine q_callVvA (As := [.int x1, .int 3, .int x2, .int (-1)]) (na := 4) C S (oN0 cI ad pa pl) rfl (ct_X7_putForAll l D cI cB cL ad x1 3 x2 (-1) u31 pl h32) mw_538 mw_537 mw_539 mw_341 mw_536 hdX7_putForAll ⟨Nat.le_trans (Nat.le_of_ble_eq_true rfl) hR.1, Nat.le_trans (Nat.le_of_ble_eq_true rfl) hR.2⟩ rfl hsz (dz := dz35) hC (by omega) (Nat.le_of_ble_eq_true rfl) dX7_leadAll_86 rfl (fun pa36 H locs S => ?_)
          exact wX7_leadAll_89 C hR hC u33 hK2 ih x1 x2 (lv_sub hl [0, 1, 2] rfl) S ha36 hpf36 h
set_option maxRecDepth 10000 in
set_option maxHeartbeats 4000000 in
theorem wX7_leadAll_2 (C : cx D (tyl cI cB cL) A RX7 cX7_leadAll 5 none p s m args c meth) (hR : 5 ≤ R.frames ∧ 128 ≤ R.locals) {σ' : Sg} {dt pf : Nat} (hC : R.cells = dt ∧ R.slots = 2 * dt) : ∀ (n : Nat) (x1 : Int32) (u : Sg) (pl pa a dz : Nat) (H : Heap) (locs : List Loc) (ls : Array Slot), lv_has ls 5 [(0, .ref (ad 0)), (1, .int x1)] → st D (wN cI ad pa pl) A s u H locs → dt = a + dz → pf = pl + dz → fX7_leadAll_2 n x1 u pl = some (σ', dz) → W p l e R s m args below meth c H locs a (2 * a) (MQ below (qVA D cI cB cL (wN cI ad) pf A σ') args s dt (2 * dt) A) (F0 m 2 ls []) := by
  have hx := C.1
  have hb := C.2.1
  intro n
  induction n with
  | zero =>
    intro x1 u pl pa a dz H locs ls hl S ha hpf h
    cases h
  | succ n ih =>
    intro x1 u pl pa a dz H locs ls hl S ha hpf h
    rw [fX7_leadAll_2] at h
    have hsz := hl.1
    refine lv_iload_n hx hb dX7_leadAll_2 rfl (lv_at hl 1 rfl) ?_
    refine lv_aload_n hx hb dX7_leadAll_3 rfl (lv_at hl 0 rfl) ?_
    refine q_get (v := .int (u 0 0)) C S (oN0 cI ad pa pl) rfl iwX7 0 (by decide) mw_347 rfl dX7_leadAll_4 ?_
    refine lv_icmp_ge (tgt := 154) hx hb dX7_leadAll_7 (by decide) (fun c1 => ?_) (fun c1 => ?_)
    · have h := cnd_t c1 h
      exact q_vretA C S h ha hpf dX7_leadAll_154
    · have h := cnd_f c1 h
      refine lv_iconst (v := 0) hx hb dX7_leadAll_10 (by decide) ?_
      refine lv_istore_n (lv' := [(2, .int 0), (0, .ref (ad 0)), (1, .int x1)]) hx hb dX7_leadAll_11 rfl hl (by decide) rfl (fun ls hl => ?_)
      have hsz := hl.1
      exact wX7_leadAll_12 C hR hC ih FU x1 0 u pl pa a dz H locs ls (lv_sub hl [1, 2, 0] rfl) S ha hpf h
set_option maxRecDepth 10000 in
set_option maxHeartbeats 4000000 in
theorem wX7_leadAll_0 (C : cx D (tyl cI cB cL) A RX7 cX7_leadAll 5 none p s m args c meth) (hR : 5 ≤ R.frames ∧ 128 ≤ R.locals) {σ' : Sg} {dt pf : Nat} (hC : R.cells = dt ∧ R.slots = 2 * dt) (u : Sg) {pl pa a dz : Nat} {H : Heap} {locs : List Loc} {ls : Array Slot} (hl : lv_has ls 5 [(0, .ref (ad 0))]) (S : st D (wN cI ad pa pl) A s u H locs) (ha : dt = a + dz) (hpf : pf = pl + dz) (h : fX7_leadAll_0 u pl = some (σ', dz)) : W p l e R s m args below meth c H locs a (2 * a) (MQ below (qVA D cI cB cL (wN cI ad) pf A σ') args s dt (2 * dt) A) (F0 m 0 ls []) := by
  have hx := C.1
  have hb := C.2.1
  have hsz := hl.1
  unfold fX7_leadAll_0 at h
  refine lv_iconst (v := 0) hx hb dX7_leadAll_0 (by decide) ?_
  refine lv_istore_n (lv' := [(1, .int 0), (0, .ref (ad 0))]) hx hb dX7_leadAll_1 rfl hl (by decide) rfl (fun ls hl => ?_)
  have hsz := hl.1
  exact wX7_leadAll_2 C hR hC FU 0 u pl pa a dz H locs ls (lv_sub hl [1, 0] rfl) S ha hpf h
set_option maxRecDepth 10000 in
set_option maxHeartbeats 4000000 in
theorem ct_X7_leadAll (l : Launch) (D : va_G) (cI cB cL : ClassId) (ad : Nat → Nat) (u : Sg) (pl : Nat) {σ' : Sg} {dz : Nat} (h : fX7_leadAll u pl = some (σ', dz)) : metVA l D cI cB cL yX7_leadAll cX7_leadAll 5 5 128 (wN cI ad) [.ref (ad 0)] u pl σ' dz := by
  intro pa sz
  refine Met.ofW (cc := cX7_leadAll) (maxL := 5) (ret := none) (by decide) rfl ?_
  intro p e s m args below meth c s₁ B hml hv
  obtain ⟨rfl, C, S⟩ := q_entryA B hml hv
  have hl := lv_entry ([.ref (ad 0)]) (n := 5) (Nat.le_of_ble_eq_true rfl)
  rw [lg_entry_eq]
  generalize (lg_sl ([.ref (ad 0)]) ++ List.replicate (5 - (lg_sl ([.ref (ad 0)])).length) Slot.unset).toArray = ls at hl ⊢
  exact wX7_leadAll_0 C ⟨Nat.le_refl _, Nat.le_refl _⟩ ⟨rfl, rfl⟩ u (lv_sub hl [0] rfl) S (Nat.zero_add _).symm rfl h
noncomputable def fX7_passOn_0 (u : Sg) (pl : Nat) : Option (Int32 × Sg × Nat) := bnd (s2 u 0 8 0) (fun u1 => obd (fX7_hearAll u1 pl) (fun u3 d4 => addA d4 (obd (fX7_leadAll u3 (pl + d4)) (fun u8 d9 => addA d9 (obd (fX7_handOutAll u8) (fun r13 u14 => obr (fX7_dropForDown ((pl + d4) + d9) u14) (fun u16 => bnd (s2 u16 0 3 ((u16 0 3) + 1)) (fun u17 => some (r13, u17, 0)))))))))
noncomputable def fX7_passOn (u : Sg) (pl : Nat) : Option (Int32 × Sg × Nat) := fX7_passOn_0 u pl
set_option maxRecDepth 10000 in
set_option maxHeartbeats 4000000 in
theorem wX7_passOn_0 (C : cx D (tyl cI cB cL) A RX7 cX7_passOn 2 (some .int) p s m args c meth) (hR : 6 ≤ R.frames ∧ 159 ≤ R.locals) {r : Int32} {σ' : Sg} {dt pf : Nat} (hC : R.cells = dt ∧ R.slots = 2 * dt) (u : Sg) {pl pa a dz : Nat} {H : Heap} {locs : List Loc} {ls : Array Slot} (hl : lv_has ls 2 [(0, .ref (ad 0))]) (S : st D (wN cI ad pa pl) A s u H locs) (ha : dt = a + dz) (hpf : pf = pl + dz) (h : fX7_passOn_0 u pl = some (r, σ', dz)) : W p l e R s m args below meth c H locs a (2 * a) (MQ below (qIA D cI cB cL (wN cI ad) pf A r σ') args s dt (2 * dt) A) (F0 m 0 ls []) := by
  have hx := C.1
  have hb := C.2.1
  have hsz := hl.1
  unfold fX7_passOn_0 at h
  refine lv_aload_n hx hb dX7_passOn_0 rfl (lv_at hl 0 rfl) ?_
  refine lv_iconst (v := 0) hx hb dX7_passOn_1 (by decide) ?_
  obtain ⟨u1, eu1⟩ : ∃ z : Sg, z = s2 u 0 8 0 := ⟨_, rfl⟩
  have h := bnd_of eu1 h
  refine q_put C S (oN0 cI ad pa pl) rfl iwX7 tyX7 tyX7_ok nmX7 8 (by decide) mw_519 rfl (iN0_8 cI ad pa pl) rfl rfl dX7_passOn_2 eu1 (fun H locs S => ?_)
  refine lv_aload_n hx hb dX7_passOn_5 rfl (lv_at hl 0 rfl) ?_
  obtain ⟨u3, d4, h2, h⟩ := obd_some h
  obtain ⟨dz5, h, edz5⟩ := addA_some h
  have ha6 : dt = (a + d4) + dz5 := by omega
  have hpf6 : pf = (pl + d4) + dz5 := by omega
  refine q_callVvA (As := []) (na := 0) C S (oN0 cI ad pa pl) rfl (ct_X7_hearAll l D cI cB cL ad u1 pl h2) mw_547 mw_546 mw_548 mw_341 mw_545 hdX7_hearAll ⟨Nat.le_trans (Nat.le_of_ble_eq_true rfl) hR.1, Nat.le_trans (Nat.le_of_ble_eq_true rfl) hR.2⟩ rfl hsz (dz := dz5) hC (by omega) (Nat.le_of_ble_eq_true rfl) dX7_passOn_6 rfl (fun pa6 H locs S => ?_)
  refine lv_aload_n hx hb dX7_passOn_9 rfl (lv_at hl 0 rfl) ?_
  obtain ⟨u8, d9, h7, h⟩ := obd_some h
  obtain ⟨dz10, h, edz10⟩ := addA_some h
  have ha11 : dt = ((a + d4) + d9) + dz10 := by omega
  have hpf11 : pf = ((pl + d4) + d9) + dz10 := by omega
  refine q_callVvA (As := []) (na := 0) C S (oN0 cI ad pa6 (pl + d4)) rfl (ct_X7_leadAll l D cI cB cL ad u3 (pl + d4) h7) mw_551 mw_550 mw_552 mw_341 mw_549 hdX7_leadAll ⟨Nat.le_trans (Nat.le_of_ble_eq_true rfl) hR.1, Nat.le_trans (Nat.le_of_ble_eq_true rfl) hR.2⟩ rfl hsz (dz := dz10) hC (by omega) (Nat.le_of_ble_eq_true rfl) dX7_passOn_10 rfl (fun pa11 H locs S => ?_)
  refine lv_aload_n hx hb dX7_passOn_13 rfl (lv_at hl 0 rfl) ?_
  obtain ⟨r13, u14, h12, h⟩ := obd_some h
  refine q_callVi (As := []) (na := 0) C S (oN0 cI ad pa11 ((pl + d4) + d9)) rfl (ct_X7_handOutAll l D cI cB cL ad pa11 ((pl + d4) + d9) u8 h12) mw_555 mw_554 mw_556 mw_341 mw_553 hdX7_handOutAll ⟨Nat.le_trans (Nat.le_of_ble_eq_true rfl) hR.1, Nat.le_trans (Nat.le_of_ble_eq_true rfl) hR.2⟩ rfl hsz (capA hC ha11) (Nat.le_of_ble_eq_true rfl) dX7_passOn_14 rfl (fun H locs S => ?_)
  refine lv_istore_n (lv' := [(1, .int r13), (0, .ref (ad 0))]) hx hb dX7_passOn_17 rfl hl (by decide) rfl (fun ls hl => ?_)
  have hsz := hl.1
  refine lv_aload_n hx hb dX7_passOn_18 rfl (lv_at hl 1 rfl) ?_
  obtain ⟨u16, h15, h⟩ := obr_some h
  refine q_callVv (As := []) (na := 0) C S (oN0 cI ad pa11 ((pl + d4) + d9)) rfl (ct_X7_dropForDown l D cI cB cL ad pa11 ((pl + d4) + d9) u14 h15) mw_559 mw_558 mw_560 mw_341 mw_557 hdX7_dropForDown ⟨Nat.le_trans (Nat.le_of_ble_eq_true rfl) hR.1, Nat.le_trans (Nat.le_of_ble_eq_true rfl) hR.2⟩ rfl hsz (capA hC ha11) (Nat.le_of_ble_eq_true rfl) dX7_passOn_19 rfl (fun H locs S => ?_)
  refine lv_aload_n hx hb dX7_passOn_22 rfl (lv_at hl 1 rfl) ?_
  refine lv_dup hx hb dX7_passOn_23 rfl ?_
  refine q_get (v := .int (u16 0 3)) C S (oN0 cI ad pa11 ((pl + d4) + d9)) rfl iwX7 3 (by decide) mw_345 rfl dX7_passOn_24 ?_
  refine lv_iconst (v := 1) hx hb dX7_passOn_27 (by decide) ?_
  refine lv_iadd hx hb dX7_passOn_28 ?_
  obtain ⟨u17, eu17⟩ : ∃ z : Sg, z = s2 u16 0 3 ((u16 0 3) + 1) := ⟨_, rfl⟩
  have h := bnd_of eu17 h
  refine q_put C S (oN0 cI ad pa11 ((pl + d4) + d9)) rfl iwX7 tyX7 tyX7_ok nmX7 3 (by decide) mw_345 rfl (iN0_3 cI ad pa11 ((pl + d4) + d9)) rfl rfl dX7_passOn_29 eu17 (fun H locs S => ?_)
  refine lv_iload_n hx hb dX7_passOn_32 rfl (lv_at hl 0 rfl) ?_
  exact q_iretA C S h ha11 hpf11 dX7_passOn_33
set_option maxRecDepth 10000 in
set_option maxHeartbeats 4000000 in
theorem ct_X7_passOn (l : Launch) (D : va_G) (cI cB cL : ClassId) (ad : Nat → Nat) (u : Sg) (pl : Nat) {r : Int32} {σ' : Sg} {dz : Nat} (h : fX7_passOn u pl = some (r, σ', dz)) : metIA l D cI cB cL yX7_passOn cX7_passOn 2 (some .int) 6 159 (wN cI ad) [.ref (ad 0)] u pl r σ' dz := by
  intro pa sz
  refine Met.ofW (cc := cX7_passOn) (maxL := 2) (ret := (some .int)) (by decide) rfl ?_
  intro p e s m args below meth c s₁ B hml hv
  obtain ⟨rfl, C, S⟩ := q_entryA B hml hv
  have hl := lv_entry ([.ref (ad 0)]) (n := 2) (Nat.le_of_ble_eq_true rfl)
  rw [lg_entry_eq]
  generalize (lg_sl ([.ref (ad 0)]) ++ List.replicate (2 - (lg_sl ([.ref (ad 0)])).length) Slot.unset).toArray = ls at hl ⊢
  exact wX7_passOn_0 C ⟨Nat.le_refl _, Nat.le_refl _⟩ ⟨rfl, rfl⟩ u (lv_sub hl [0] rfl) S (Nat.zero_add _).symm rfl h
noncomputable def fX7_passFar_40 (K4 : Int32 → Int32 → Sg → Nat → Option (Sg × Nat)) (x2 : Int32) (t0 : Int32) (u : Sg) (pl : Nat) : Option (Sg × Nat) := bnd (x2 + 1) (fun v12 => K4 t0 v12 u pl)
noncomputable def fX7_passFar_35 (K4 : Int32 → Int32 → Sg → Nat → Option (Sg × Nat)) (x2 : Int32) (u : Sg) (pl : Nat) : Option (Sg × Nat) := fX7_passFar_40 K4 x2 1 u pl
noncomputable def fX7_passFar_4 : Nat → Int32 → Int32 → Sg → Nat → Option (Sg × Nat)
  | 0, _, _, _, _ => none
  | n + 1, x1, x2, u, pl => cnd (120 ≤ x2) (some (u, 0)) (cnd (x1 = 0) (some (u, 0)) (obr (fX7_canStir u) (fun r4 => obt (fX7_passOn u pl) (fun r10 u6 d7 => addB d7 (cnd (r4 = 0) (cnd ((u6 0 8) = 0) (fX7_passFar_40 (fun a0 a1 w z => fX7_passFar_4 n a0 a1 w z) x2 0 u6 (pl + d7)) (fX7_passFar_35 (fun a0 a1 w z => fX7_passFar_4 n a0 a1 w z) x2 u6 (pl + d7))) (fX7_passFar_35 (fun a0 a1 w z => fX7_passFar_4 n a0 a1 w z) x2 u6 (pl + d7)))))))
noncomputable def fX7_passFar_0 (u : Sg) (pl : Nat) : Option (Sg × Nat) := fX7_passFar_4 FU 1 0 u pl
noncomputable def fX7_passFar (u : Sg) (pl : Nat) : Option (Sg × Nat) := fX7_passFar_0 u pl
set_option maxRecDepth 10000 in
set_option maxHeartbeats 4000000 in
theorem wX7_passFar_40 (C : cx D (tyl cI cB cL) A RX7 cX7_passFar 4 none p s m args c meth) (hR : 7 ≤ R.frames ∧ 180 ≤ R.locals) {σ' : Sg} {dt pf : Nat} (hC : R.cells = dt ∧ R.slots = 2 * dt) (u : Sg) {K4 : Int32 → Int32 → Sg → Nat → Option (Sg × Nat)} (hK4 : ∀ (y1 : Int32) (y2 : Int32) (v : Sg) (pl pa a dz : Nat) (H : Heap) (locs : List Loc) (ls : Array Slot), lv_has ls 4 [(0, .ref (ad 0)), (1, .int y1), (2, .int y2)] → st D (wN cI ad pa pl) A s v H locs → dt = a + dz → pf = pl + dz → K4 y1 y2 v pl = some (σ', dz) → W p l e R s m args below meth c H locs a (2 * a) (MQ below (qVA D cI cB cL (wN cI ad) pf A σ') args s dt (2 * dt) A) (F0 m 4 ls [])) (x2 : Int32) (t0 : Int32) {pl pa a dz : Nat} {H : Heap} {locs : List Loc} {ls : Array Slot} (hl : lv_has ls 4 [(0, .ref (ad 0)), (2, .int x2)]) (S : st D (wN cI ad pa pl) A s u H locs) (ha : dt = a + dz) (hpf : pf = pl + dz) (h : fX7_passFar_40 K4 x2 t0 u pl = some (σ', dz)) : W p l e R s m args below meth c H locs a (2 * a) (MQ below (qVA D cI cB cL (wN cI ad) pf A σ') args s dt (2 * dt) A) (F0 m 40 ls [.int t0]) := by
  have hx := C.1
  have hb := C.2.1
  have hsz := hl.1
  unfold fX7_passFar_40 at h
  refine lv_istore_n (lv' := [(1, .int t0), (0, .ref (ad 0)), (2, .int x2)]) hx hb dX7_passFar_40 rfl hl (by decide) rfl (fun ls hl => ?_)
  have hsz := hl.1
  obtain ⟨v12, ev12⟩ : ∃ y : Int32, y = x2 + 1 := ⟨_, rfl⟩
  have h := bnd_of ev12 h
  refine lv_iinc (v := v12) (lv' := [(2, .int v12), (1, .int t0), (0, .ref (ad 0))]) hx hb dX7_passFar_41 hl (k := 2) rfl (by rw [ev12]; rfl) (by decide) rfl (fun ls hl => ?_)
  have hsz := hl.1
  refine lv_goto (tgt := 4) hx hb dX7_passFar_44 (by decide) ?_
  exact hK4 t0 v12 u pl pa a dz H locs ls (lv_sub hl [2, 1, 0] rfl) S ha hpf h
set_option maxRecDepth 10000 in
set_option maxHeartbeats 4000000 in
theorem wX7_passFar_35 (C : cx D (tyl cI cB cL) A RX7 cX7_passFar 4 none p s m args c meth) (hR : 7 ≤ R.frames ∧ 180 ≤ R.locals) {σ' : Sg} {dt pf : Nat} (hC : R.cells = dt ∧ R.slots = 2 * dt) (u : Sg) {K4 : Int32 → Int32 → Sg → Nat → Option (Sg × Nat)} (hK4 : ∀ (y1 : Int32) (y2 : Int32) (v : Sg) (pl pa a dz : Nat) (H : Heap) (locs : List Loc) (ls : Array Slot), lv_has ls 4 [(0, .ref (ad 0)), (1, .int y1), (2, .int y2)] → st D (wN cI ad pa pl) A s v H locs → dt = a + dz → pf = pl + dz → K4 y1 y2 v pl = some (σ', dz) → W p l e R s m args below meth c H locs a (2 * a) (MQ below (qVA D cI cB cL (wN cI ad) pf A σ') args s dt (2 * dt) A) (F0 m 4 ls [])) (x2 : Int32) {pl pa a dz : Nat} {H : Heap} {locs : List Loc} {ls : Array Slot} (hl : lv_has ls 4 [(0, .ref (ad 0)), (2, .int x2)]) (S : st D (wN cI ad pa pl) A s u H locs) (ha : dt = a + dz) (hpf : pf = pl + dz) (h : fX7_passFar_35 K4 x2 u pl = some (σ', dz)) : W p l e R s m args below meth c H locs a (2 * a) (MQ below (qVA D cI cB cL (wN cI ad) pf A σ') args s dt (2 * dt) A) (F0 m 35 ls []) := by
  have hx := C.1
  have hb := C.2.1
  have hsz := hl.1
  unfold fX7_passFar_35 at h
  refine lv_iconst (v := 1) hx hb dX7_passFar_35 (by decide) ?_
  refine lv_goto (tgt := 40) hx hb dX7_passFar_36 (by decide) ?_
  exact wX7_passFar_40 C hR hC u hK4 x2 1 (lv_sub hl [0, 1] rfl) S ha hpf h
set_option maxRecDepth 10000 in
set_option maxHeartbeats 4000000 in
theorem wX7_passFar_4 (C : cx D (tyl cI cB cL) A RX7 cX7_passFar 4 none p s m args c meth) (hR : 7 ≤ R.frames ∧ 180 ≤ R.locals) {σ' : Sg} {dt pf : Nat} (hC : R.cells = dt ∧ R.slots = 2 * dt) : ∀ (n : Nat) (x1 : Int32) (x2 : Int32) (u : Sg) (pl pa a dz : Nat) (H : Heap) (locs : List Loc) (ls : Array Slot), lv_has ls 4 [(0, .ref (ad 0)), (1, .int x1), (2, .int x2)] → st D (wN cI ad pa pl) A s u H locs → dt = a + dz → pf = pl + dz → fX7_passFar_4 n x1 x2 u pl = some (σ', dz) → W p l e R s m args below meth c H locs a (2 * a) (MQ below (qVA D cI cB cL (wN cI ad) pf A σ') args s dt (2 * dt) A) (F0 m 4 ls []) := by
  have hx := C.1
  have hb := C.2.1
  intro n
  induction n with
  | zero =>
    intro x1 x2 u pl pa a dz H locs ls hl S ha hpf h
    cases h
  | succ n ih =>
    intro x1 x2 u pl pa a dz H locs ls hl S ha hpf h
    rw [fX7_passFar_4] at h
    have hsz := hl.1
    refine lv_iload_n hx hb dX7_passFar_4 rfl (lv_at hl 2 rfl) ?_
    refine lv_bipush (v := 120) hx hb dX7_passFar_5 (by decide) ?_
    refine lv_icmp_ge (tgt := 47) hx hb dX7_passFar_7 (by decide) (fun c1 => ?_) (fun c1 => ?_)
    · have h := cnd_t c1 h
      exact q_vretA C S h ha hpf dX7_passFar_47
    · have h := cnd_f c1 h
      refine lv_iload_n hx hb dX7_passFar_10 rfl (lv_at hl 1 rfl) ?_
      refine lv_if_eq (tgt := 47) hx hb dX7_passFar_11 (by decide) (fun c2 => ?_) (fun c2 => ?_)
      · have h := cnd_t c2 h
        exact q_vretA C S h ha hpf dX7_passFar_47
      · have h := cnd_f c2 h
        refine lv_aload_n hx hb dX7_passFar_14 rfl (lv_at hl 0 rfl) ?_
        obtain ⟨r4, h3, h⟩ := obr_some h
        refine q_callVi (As := []) (na := 0) C S (oN0 cI ad pa pl) rfl (ct_X7_canStir l D cI cB cL ad pa pl u h3) mw_563 mw_562 mw_564 mw_341 mw_561 hdX7_canStir ⟨Nat.le_trans (Nat.le_of_ble_eq_true rfl) hR.1, Nat.le_trans (Nat.le_of_ble_eq_true rfl) hR.2⟩ rfl hsz (capA hC ha) (Nat.le_of_ble_eq_true rfl) dX7_passFar_15 rfl (fun H locs S => ?_)
        refine lv_istore_n (lv' := [(3, .int r4), (0, .ref (ad 0)), (1, .int x1), (2, .int x2)]) hx hb dX7_passFar_18 rfl hl (by decide) rfl (fun ls hl => ?_)
        have hsz := hl.1
        refine lv_aload_n hx hb dX7_passFar_19 rfl (lv_at hl 1 rfl) ?_
        obtain ⟨r10, u6, d7, h5, h⟩ := obt_some h
        obtain ⟨dz8, h, edz8⟩ := addB_some h
        have ha9 : dt = (a + d7) + dz8 := by omega
        have hpf9 : pf = (pl + d7) + dz8 := by omega
        refine q_callViA (As := []) (na := 0) C S (oN0 cI ad pa pl) rfl (ct_X7_passOn l D cI cB cL ad u pl h5) mw_567 mw_566 mw_568 mw_341 mw_565 hdX7_passOn ⟨Nat.le_trans (Nat.le_of_ble_eq_true rfl) hR.1, Nat.le_trans (Nat.le_of_ble_eq_true rfl) hR.2⟩ rfl hsz (dz := dz8) hC (by omega) (Nat.le_of_ble_eq_true rfl) dX7_passFar_20 rfl (fun pa9 H locs S => ?_)
        refine lv_pop hx hb dX7_passFar_23 rfl ?_
        refine lv_iload_n hx hb dX7_passFar_24 rfl (lv_at hl 0 rfl) ?_
        refine lv_if_ne (tgt := 35) hx hb dX7_passFar_25 (by decide) (fun c11 => ?_) (fun c11 => ?_)
        · have h := cnd_f c11 h
          exact wX7_passFar_35 C hR hC u6 ih x2 (lv_sub hl [1, 3] rfl) S ha9 hpf9 h
        · have h := cnd_t c11 h
          refine lv_aload_n hx hb dX7_passFar_28 rfl (lv_at hl 1 rfl) ?_
          refine q_get (v := .int (u6 0 8)) C S (oN0 cI ad pa9 (pl + d7)) rfl iwX7 8 (by decide) mw_519 rfl dX7_passFar_29 ?_
          refine lv_if_eq (tgt := 39) hx hb dX7_passFar_32 (by decide) (fun c13 => ?_) (fun c13 => ?_)
          · have h := cnd_t c13 h
            refine lv_iconst (v := 0) hx hb dX7_passFar_39 (by decide) ?_
            exact wX7_passFar_40 C hR hC u6 ih x2 0 (lv_sub hl [1, 3] rfl) S ha9 hpf9 h
          · have h := cnd_f c13 h
            exact wX7_passFar_35 C hR hC u6 ih x2 (lv_sub hl [1, 3] rfl) S ha9 hpf9 h
set_option maxRecDepth 10000 in
set_option maxHeartbeats 4000000 in
theorem wX7_passFar_0 (C : cx D (tyl cI cB cL) A RX7 cX7_passFar 4 none p s m args c meth) (hR : 7 ≤ R.frames ∧ 180 ≤ R.locals) {σ' : Sg} {dt pf : Nat} (hC : R.cells = dt ∧ R.slots = 2 * dt) (u : Sg) {pl pa a dz : Nat} {H : Heap} {locs : List Loc} {ls : Array Slot} (hl : lv_has ls 4 [(0, .ref (ad 0))]) (S : st D (wN cI ad pa pl) A s u H locs) (ha : dt = a + dz) (hpf : pf = pl + dz) (h : fX7_passFar_0 u pl = some (σ', dz)) : W p l e R s m args below meth c H locs a (2 * a) (MQ below (qVA D cI cB cL (wN cI ad) pf A σ') args s dt (2 * dt) A) (F0 m 0 ls []) := by
  have hx := C.1
  have hb := C.2.1
  have hsz := hl.1
  unfold fX7_passFar_0 at h
  refine lv_iconst (v := 1) hx hb dX7_passFar_0 (by decide) ?_
  refine lv_istore_n (lv' := [(1, .int 1), (0, .ref (ad 0))]) hx hb dX7_passFar_1 rfl hl (by decide) rfl (fun ls hl => ?_)
  have hsz := hl.1
  refine lv_iconst (v := 0) hx hb dX7_passFar_2 (by decide) ?_
  refine lv_istore_n (lv' := [(2, .int 0), (1, .int 1), (0, .ref (ad 0))]) hx hb dX7_passFar_3 rfl hl (by decide) rfl (fun ls hl => ?_)
  have hsz := hl.1
  exact wX7_passFar_4 C hR hC FU 1 0 u pl pa a dz H locs ls (lv_sub hl [2, 1, 0] rfl) S ha hpf h
set_option maxRecDepth 10000 in
set_option maxHeartbeats 4000000 in
theorem ct_X7_passFar (l : Launch) (D : va_G) (cI cB cL : ClassId) (ad : Nat → Nat) (u : Sg) (pl : Nat) {σ' : Sg} {dz : Nat} (h : fX7_passFar u pl = some (σ', dz)) : metVA l D cI cB cL yX7_passFar cX7_passFar 4 7 180 (wN cI ad) [.ref (ad 0)] u pl σ' dz := by
  intro pa sz
  refine Met.ofW (cc := cX7_passFar) (maxL := 4) (ret := none) (by decide) rfl ?_
  intro p e s m args below meth c s₁ B hml hv
  obtain ⟨rfl, C, S⟩ := q_entryA B hml hv
  have hl := lv_entry ([.ref (ad 0)]) (n := 4) (Nat.le_of_ble_eq_true rfl)
  rw [lg_entry_eq]
  generalize (lg_sl ([.ref (ad 0)]) ++ List.replicate (4 - (lg_sl ([.ref (ad 0)])).length) Slot.unset).toArray = ls at hl ⊢
  exact wX7_passFar_0 C ⟨Nat.le_refl _, Nat.le_refl _⟩ ⟨rfl, rfl⟩ u (lv_sub hl [0] rfl) S (Nat.zero_add _).symm rfl h
noncomputable def fX7_start_0 (x1 : Int32) (x2 : Int32) (u : Sg) (pl : Nat) : Option (Int32 × Sg × Nat) := grd (vp_in x2 6) (obd (fX6_add x1 (u 1 ((x2 : Int32).toNatClampNeg)) (u 0 3) u) (fun r3 u4 => obr (fX5_add (u4 0 3) x1 0 r3 u4) (fun u6 => obr (fX3_begin (fX11_spotOf x1 r3) u6) (fun u8 => obd (fX7_putForAll x1 0 r3 (-1) u8 pl) (fun u10 d11 => addA d11 (some (r3, u10, 0)))))))
noncomputable def fX7_start (x1 : Int32) (x2 : Int32) (u : Sg) (pl : Nat) : Option (Int32 × Sg × Nat) := fX7_start_0 x1 x2 u pl
set_option maxRecDepth 10000 in
set_option maxHeartbeats 4000000 in
theorem wX7_start_0 (C : cx D (tyl cI cB cL) A RX7 cX7_start 4 (some .int) p s m args c meth) (hR : 5 ≤ R.frames ∧ 128 ≤ R.locals) {r : Int32} {σ' : Sg} {dt pf : Nat} (hC : R.cells = dt ∧ R.slots = 2 * dt) (u : Sg) (x1 : Int32) (x2 : Int32) {pl pa a dz : Nat} {H : Heap} {locs : List Loc} {ls : Array Slot} (hl : lv_has ls 4 [(0, .ref (ad 0)), (1, .int x1), (2, .int x2)]) (S : st D (wN cI ad pa pl) A s u H locs) (ha : dt = a + dz) (hpf : pf = pl + dz) (h : fX7_start_0 x1 x2 u pl = some (r, σ', dz)) : W p l e R s m args below meth c H locs a (2 * a) (MQ below (qIA D cI cB cL (wN cI ad) pf A r σ') args s dt (2 * dt) A) (F0 m 0 ls []) := by
  have hx := C.1
  have hb := C.2.1
  have hsz := hl.1
  unfold fX7_start_0 at h
  refine lv_aload_n hx hb dX7_start_0 rfl (lv_at hl 0 rfl) ?_
  refine q_get (v := .ref (ad 13)) C S (oN0 cI ad pa pl) rfl iwX7 14 (by decide) mw_434 rfl dX7_start_1 ?_
  refine lv_iload_n hx hb dX7_start_4 rfl (lv_at hl 1 rfl) ?_
  refine lv_aload_n hx hb dX7_start_5 rfl (lv_at hl 0 rfl) ?_
  refine q_get (v := .ref (ad 1)) C S (oN0 cI ad pa pl) rfl iwX7 9 (by decide) mw_569 rfl dX7_start_6 ?_
  refine lv_iload_n hx hb dX7_start_9 rfl (lv_at hl 2 rfl) ?_
  obtain ⟨g1, h⟩ := grd_some h
  refine q_iald C S (aN1 cI ad pa pl) 0 rfl g1 dX7_start_10 (j := (x2 : Int32).toNatClampNeg) rfl ?_
  refine lv_aload_n hx hb dX7_start_11 rfl (lv_at hl 0 rfl) ?_
  refine q_get (v := .int (u 0 3)) C S (oN0 cI ad pa pl) rfl iwX7 3 (by decide) mw_345 rfl dX7_start_12 ?_
  obtain ⟨r3, u4, h2, h⟩ := obd_some h
  refine q_callVi (As := [.int x1, .int (u 1 ((x2 : Int32).toNatClampNeg)), .int (u 0 3)]) (na := 3) C S (oN13 cI ad pa pl) rfl (ct_X6_add l D cI cB cL ad pa pl x1 (u 1 ((x2 : Int32).toNatClampNeg)) (u 0 3) u h2) mw_573 mw_572 mw_574 mw_571 mw_570 hdX6_add ⟨Nat.le_trans (Nat.le_of_ble_eq_true rfl) hR.1, Nat.le_trans (Nat.le_of_ble_eq_true rfl) hR.2⟩ rfl hsz (capA hC ha) (Nat.le_of_ble_eq_true rfl) dX7_start_15 rfl (fun H locs S => ?_)
  refine lv_istore_n (lv' := [(3, .int r3), (0, .ref (ad 0)), (1, .int x1), (2, .int x2)]) hx hb dX7_start_18 rfl hl (by decide) rfl (fun ls hl => ?_)
  have hsz := hl.1
  refine lv_aload_n hx hb dX7_start_19 rfl (lv_at hl 1 rfl) ?_
  refine q_get (v := .ref (ad 34)) C S (oN0 cI ad pa pl) rfl iwX7 18 (by decide) mw_438 rfl dX7_start_20 ?_
  refine lv_aload_n hx hb dX7_start_23 rfl (lv_at hl 1 rfl) ?_
  refine q_get (v := .int (u4 0 3)) C S (oN0 cI ad pa pl) rfl iwX7 3 (by decide) mw_345 rfl dX7_start_24 ?_
  refine lv_iload_n hx hb dX7_start_27 rfl (lv_at hl 2 rfl) ?_
  refine lv_iconst (v := 0) hx hb dX7_start_28 (by decide) ?_
  refine lv_iload_n hx hb dX7_start_29 rfl (lv_at hl 0 rfl) ?_
  obtain ⟨u6, h5, h⟩ := obr_some h
  refine q_callVv (As := [.int (u4 0 3), .int x1, .int 0, .int r3]) (na := 4) C S (oN34 cI ad pa pl) rfl (ct_X5_add l D cI cB cL ad pa pl (u4 0 3) x1 0 r3 u4 h5) mw_442 mw_441 mw_443 mw_440 mw_439 hdX5_add ⟨Nat.le_trans (Nat.le_of_ble_eq_true rfl) hR.1, Nat.le_trans (Nat.le_of_ble_eq_true rfl) hR.2⟩ rfl hsz (capA hC ha) (Nat.le_of_ble_eq_true rfl) dX7_start_30 rfl (fun H locs S => ?_)
  refine lv_aload_n hx hb dX7_start_33 rfl (lv_at hl 1 rfl) ?_
  refine q_get (v := .ref (ad 26)) C S (oN0 cI ad pa pl) rfl iwX7 16 (by decide) mw_448 rfl dX7_start_34 ?_
  refine lv_iload_n hx hb dX7_start_37 rfl (lv_at hl 2 rfl) ?_
  refine lv_iload_n hx hb dX7_start_38 rfl (lv_at hl 0 rfl) ?_
  refine q_callPN (As := [.int x1, .int r3]) (na := 2) C S (ct_X11_spotOf l D cI cB cL x1 r3) (List.mem_of_getElem? (i := 13) rfl) mw_322 mw_321 mw_320 hdX11_spotOf ⟨Nat.le_trans (Nat.le_of_ble_eq_true rfl) hR.1, Nat.le_trans (Nat.le_of_ble_eq_true rfl) hR.2⟩ rfl hsz (capA hC ha) (Nat.le_of_ble_eq_true rfl) dX7_start_39 rfl (fun H locs S => ?_)
  obtain ⟨u8, h7, h⟩ := obr_some h
  refine q_callVv (As := [.int (fX11_spotOf x1 r3)]) (na := 1) C S (oN26 cI ad pa pl) rfl (ct_X3_begin l D cI cB cL ad pa pl (fX11_spotOf x1 r3) u6 h7) mw_543 mw_542 mw_544 mw_326 mw_541 hdX3_begin ⟨Nat.le_trans (Nat.le_of_ble_eq_true rfl) hR.1, Nat.le_trans (Nat.le_of_ble_eq_true rfl) hR.2⟩ rfl hsz (capA hC ha) (Nat.le_of_ble_eq_true rfl) dX7_start_42 rfl (fun H locs S => ?_)
  refine lv_aload_n hx hb dX7_start_45 rfl (lv_at hl 1 rfl) ?_
  refine lv_iload_n hx hb dX7_start_46 rfl (lv_at hl 2 rfl) ?_
  refine lv_iconst (v := 0) hx hb dX7_start_47 (by decide) ?_
  refine lv_iload_n hx hb dX7_start_48 rfl (lv_at hl 0 rfl) ?_
  refine lv_iconst (v := (-1)) hx hb dX7_start_49 (by decide) ?_
  obtain ⟨u10, d11, h9, h⟩ := obd_some h
  obtain ⟨dz12, h, edz12⟩ := addA_some h
  have ha13 : dt = (a + d11) + dz12 := by omega
  have hpf13 : pf = (pl + d11) + dz12 := by omega
  refine q_callVvA (As := [.int x1, .int 0, .int r3, .int (-1)]) (na := 4) C S (oN0 cI ad pa pl) rfl (ct_X7_putForAll l D cI cB cL ad x1 0 r3 (-1) u8 pl h9) mw_538 mw_537 mw_539 mw_341 mw_536 hdX7_putForAll ⟨Nat.le_trans (Nat.le_of_ble_eq_true rfl) hR.1, Nat.le_trans (Nat.le_of_ble_eq_true rfl) hR.2⟩ rfl hsz (dz := dz12) hC (by omega) (Nat.le_of_ble_eq_true rfl) dX7_start_50 rfl (fun pa13 H locs S => ?_)
  refine lv_iload_n hx hb dX7_start_53 rfl (lv_at hl 0 rfl) ?_
  exact q_iretA C S h ha13 hpf13 dX7_start_54
set_option maxRecDepth 10000 in
set_option maxHeartbeats 4000000 in
theorem ct_X7_start (l : Launch) (D : va_G) (cI cB cL : ClassId) (ad : Nat → Nat) (x1 : Int32) (x2 : Int32) (u : Sg) (pl : Nat) {r : Int32} {σ' : Sg} {dz : Nat} (h : fX7_start x1 x2 u pl = some (r, σ', dz)) : metIA l D cI cB cL yX7_start cX7_start 4 (some .int) 5 128 (wN cI ad) [.ref (ad 0), .int x1, .int x2] u pl r σ' dz := by
  intro pa sz
  refine Met.ofW (cc := cX7_start) (maxL := 4) (ret := (some .int)) (by decide) rfl ?_
  intro p e s m args below meth c s₁ B hml hv
  obtain ⟨rfl, C, S⟩ := q_entryA B hml hv
  have hl := lv_entry ([.ref (ad 0), .int x1, .int x2]) (n := 4) (Nat.le_of_ble_eq_true rfl)
  rw [lg_entry_eq]
  generalize (lg_sl ([.ref (ad 0), .int x1, .int x2]) ++ List.replicate (4 - (lg_sl ([.ref (ad 0), .int x1, .int x2])).length) Slot.unset).toArray = ls at hl ⊢
  exact wX7_start_0 C ⟨Nat.le_refl _, Nat.le_refl _⟩ ⟨rfl, rfl⟩ u x1 x2 (lv_sub hl [0, 1, 2] rfl) S (Nat.zero_add _).symm rfl h
noncomputable def fX7_happen_112 (K4 : Int32 → Int32 → Sg → Nat → Option (Sg × Nat)) (x1 : Int32) (x2 : Int32) (u : Sg) (pl : Nat) : Option (Sg × Nat) := bnd (x2 + 1) (fun v12 => K4 x1 v12 u pl)
noncomputable def fX7_happen_4 : Nat → Int32 → Int32 → Sg → Nat → Option (Sg × Nat)
  | 0, _, _, _, _ => none
  | n + 1, x1, x2, u, pl => cnd ((u 30 0) ≤ x2) (bnd (s2 u 30 0 x1) (fun u2 => some (u2, 0))) (grd (vp_in x2 8) (cnd ((u 31 ((x2 : Int32).toNatClampNeg)) ≤ (u 0 3)) (obr (fX2_isCrash x2 u) (fun r6 => cnd (r6 = 0) (grd (vp_in x2 8) (obr (fX7_canStart (u 32 ((x2 : Int32).toNatClampNeg)) u) (fun r10 => cnd (r10 = 0) (fX7_happen_112 (fun a0 a1 w z => fX7_happen_4 n a0 a1 w z) x1 x2 u pl) (grd (vp_in x2 8) (grd (vp_in x2 8) (obt (fX7_start (u 32 ((x2 : Int32).toNatClampNeg)) (u 33 ((x2 : Int32).toNatClampNeg)) u pl) (fun r20 u16 d17 => addB d17 (fX7_happen_112 (fun a0 a1 w z => fX7_happen_4 n a0 a1 w z) x1 x2 u16 (pl + d17))))))))) (grd (vp_in x2 8) (obr (fX7_goDown (u 32 ((x2 : Int32).toNatClampNeg)) u) (fun u23 => fX7_happen_112 (fun a0 a1 w z => fX7_happen_4 n a0 a1 w z) x1 x2 u23 pl))))) (obr (fX2_move x2 x1 u) (fun u25 => bnd (x1 + 1) (fun v26 => fX7_happen_112 (fun a0 a1 w z => fX7_happen_4 n a0 a1 w z) v26 x2 u25 pl)))))
noncomputable def fX7_happen_0 (u : Sg) (pl : Nat) : Option (Sg × Nat) := fX7_happen_4 FU 0 0 u pl
noncomputable def fX7_happen (u : Sg) (pl : Nat) : Option (Sg × Nat) := fX7_happen_0 u pl
set_option maxRecDepth 10000 in
set_option maxHeartbeats 4000000 in
theorem wX7_happen_112 (C : cx D (tyl cI cB cL) A RX7 cX7_happen 3 none p s m args c meth) (hR : 6 ≤ R.frames ∧ 151 ≤ R.locals) {σ' : Sg} {dt pf : Nat} (hC : R.cells = dt ∧ R.slots = 2 * dt) (u : Sg) {K4 : Int32 → Int32 → Sg → Nat → Option (Sg × Nat)} (hK4 : ∀ (y1 : Int32) (y2 : Int32) (v : Sg) (pl pa a dz : Nat) (H : Heap) (locs : List Loc) (ls : Array Slot), lv_has ls 3 [(0, .ref (ad 0)), (1, .int y1), (2, .int y2)] → st D (wN cI ad pa pl) A s v H locs → dt = a + dz → pf = pl + dz → K4 y1 y2 v pl = some (σ', dz) → W p l e R s m args below meth c H locs a (2 * a) (MQ below (qVA D cI cB cL (wN cI ad) pf A σ') args s dt (2 * dt) A) (F0 m 4 ls [])) (x1 : Int32) (x2 : Int32) {pl pa a dz : Nat} {H : Heap} {locs : List Loc} {ls : Array Slot} (hl : lv_has ls 3 [(0, .ref (ad 0)), (1, .int x1), (2, .int x2)]) (S : st D (wN cI ad pa pl) A s u H locs) (ha : dt = a + dz) (hpf : pf = pl + dz) (h : fX7_happen_112 K4 x1 x2 u pl = some (σ', dz)) : W p l e R s m args below meth c H locs a (2 * a) (MQ below (qVA D cI cB cL (wN cI ad) pf A σ') args s dt (2 * dt) A) (F0 m 112 ls []) := by
  have hx := C.1
  have hb := C.2.1
  have hsz := hl.1
  unfold fX7_happen_112 at h
  obtain ⟨v12, ev12⟩ : ∃ y : Int32, y = x2 + 1 := ⟨_, rfl⟩
  have h := bnd_of ev12 h
  refine lv_iinc (v := v12) (lv' := [(2, .int v12), (0, .ref (ad 0)), (1, .int x1)]) hx hb dX7_happen_112 hl (k := 2) rfl (by rw [ev12]; rfl) (by decide) rfl (fun ls hl => ?_)
  have hsz := hl.1
  refine lv_goto (tgt := 4) hx hb dX7_happen_115 (by decide) ?_
  exact hK4 x1 v12 u pl pa a dz H locs ls (lv_sub hl [1, 2, 0] rfl) S ha hpf h
set_option maxRecDepth 10000 in
set_option maxHeartbeats 4000000 in
theorem wX7_happen_4 (C : cx D (tyl cI cB cL) A RX7 cX7_happen 3 none p s m args c meth) (hR : 6 ≤ R.frames ∧ 151 ≤ R.locals) {σ' : Sg} {dt pf : Nat} (hC : R.cells = dt ∧ R.slots = 2 * dt) : ∀ (n : Nat) (x1 : Int32) (x2 : Int32) (u : Sg) (pl pa a dz : Nat) (H : Heap) (locs : List Loc) (ls : Array Slot), lv_has ls 3 [(0, .ref (ad 0)), (1, .int x1), (2, .int x2)] → st D (wN cI ad pa pl) A s u H locs → dt = a + dz → pf = pl + dz → fX7_happen_4 n x1 x2 u pl = some (σ', dz) → W p l e R s m args below meth c H locs a (2 * a) (MQ below (qVA D cI cB cL (wN cI ad) pf A σ') args s dt (2 * dt) A) (F0 m 4 ls []) := by
  have hx := C.1
  have hb := C.2.1
  intro n
  induction n with
  | zero =>
    intro x1 x2 u pl pa a dz H locs ls hl S ha hpf h
    cases h
  | succ n ih =>
    intro x1 x2 u pl pa a dz H locs ls hl S ha hpf h
    rw [fX7_happen_4] at h
    have hsz := hl.1
    refine lv_iload_n hx hb dX7_happen_4 rfl (lv_at hl 2 rfl) ?_
    refine lv_aload_n hx hb dX7_happen_5 rfl (lv_at hl 0 rfl) ?_
    refine q_get (v := .ref (ad 30)) C S (oN0 cI ad pa pl) rfl iwX7 17 (by decide) mw_575 rfl dX7_happen_6 ?_
    refine q_get (v := .int (u 30 0)) C S (oN30 cI ad pa pl) rfl iwX2 0 (by decide) mw_576 rfl dX7_happen_9 ?_
    refine lv_icmp_ge (tgt := 118) hx hb dX7_happen_12 (by decide) (fun c1 => ?_) (fun c1 => ?_)
    · have h := cnd_t c1 h
      refine lv_aload_n hx hb dX7_happen_118 rfl (lv_at hl 0 rfl) ?_
      refine q_get (v := .ref (ad 30)) C S (oN0 cI ad pa pl) rfl iwX7 17 (by decide) mw_575 rfl dX7_happen_119 ?_
      refine lv_iload_n hx hb dX7_happen_122 rfl (lv_at hl 1 rfl) ?_
      obtain ⟨u2, eu2⟩ : ∃ z : Sg, z = s2 u 30 0 x1 := ⟨_, rfl⟩
      have h := bnd_of eu2 h
      refine q_put C S (oN30 cI ad pa pl) rfl iwX2 tyX2 tyX2_ok nmX2 0 (by decide) mw_576 rfl (iN30_0 cI ad pa pl) rfl rfl dX7_happen_123 eu2 (fun H locs S => ?_)
      exact q_vretA C S h ha hpf dX7_happen_126
    · have h := cnd_f c1 h
      refine lv_aload_n hx hb dX7_happen_15 rfl (lv_at hl 0 rfl) ?_
      refine q_get (v := .ref (ad 30)) C S (oN0 cI ad pa pl) rfl iwX7 17 (by decide) mw_575 rfl dX7_happen_16 ?_
      refine q_get (v := .ref (ad 31)) C S (oN30 cI ad pa pl) rfl iwX2 1 (by decide) mw_577 rfl dX7_happen_19 ?_
      refine lv_iload_n hx hb dX7_happen_22 rfl (lv_at hl 2 rfl) ?_
      obtain ⟨g3, h⟩ := grd_some h
      refine q_iald C S (aN31 cI ad pa pl) 0 rfl g3 dX7_happen_23 (j := (x2 : Int32).toNatClampNeg) rfl ?_
      refine lv_aload_n hx hb dX7_happen_24 rfl (lv_at hl 0 rfl) ?_
      refine q_get (v := .int (u 0 3)) C S (oN0 cI ad pa pl) rfl iwX7 3 (by decide) mw_345 rfl dX7_happen_25 ?_
      refine lv_icmp_le (tgt := 46) hx hb dX7_happen_28 (by decide) (fun c4 => ?_) (fun c4 => ?_)
      · have h := cnd_t c4 h
        refine lv_aload_n hx hb dX7_happen_46 rfl (lv_at hl 0 rfl) ?_
        refine q_get (v := .ref (ad 30)) C S (oN0 cI ad pa pl) rfl iwX7 17 (by decide) mw_575 rfl dX7_happen_47 ?_
        refine lv_iload_n hx hb dX7_happen_50 rfl (lv_at hl 2 rfl) ?_
        obtain ⟨r6, h5, h⟩ := obr_some h
        refine q_callVi (As := [.int x2]) (na := 1) C S (oN30 cI ad pa pl) rfl (ct_X2_isCrash l D cI cB cL ad pa pl x2 u h5) mw_581 mw_580 mw_582 mw_579 mw_578 hdX2_isCrash ⟨Nat.le_trans (Nat.le_of_ble_eq_true rfl) hR.1, Nat.le_trans (Nat.le_of_ble_eq_true rfl) hR.2⟩ rfl hsz (capA hC ha) (Nat.le_of_ble_eq_true rfl) dX7_happen_51 rfl (fun H locs S => ?_)
        refine lv_if_eq (tgt := 73) hx hb dX7_happen_54 (by decide) (fun c7 => ?_) (fun c7 => ?_)
        · have h := cnd_t c7 h
          refine lv_aload_n hx hb dX7_happen_73 rfl (lv_at hl 0 rfl) ?_
          refine lv_aload_n hx hb dX7_happen_74 rfl (lv_at hl 0 rfl) ?_
          refine q_get (v := .ref (ad 30)) C S (oN0 cI ad pa pl) rfl iwX7 17 (by decide) mw_575 rfl dX7_happen_75 ?_
          refine q_get (v := .ref (ad 32)) C S (oN30 cI ad pa pl) rfl iwX2 2 (by decide) mw_583 rfl dX7_happen_78 ?_
          refine lv_iload_n hx hb dX7_happen_81 rfl (lv_at hl 2 rfl) ?_
          obtain ⟨g8, h⟩ := grd_some h
          refine q_iald C S (aN32 cI ad pa pl) 0 rfl g8 dX7_happen_82 (j := (x2 : Int32).toNatClampNeg) rfl ?_
          obtain ⟨r10, h9, h⟩ := obr_some h
          refine q_callVi (As := [.int (u 32 ((x2 : Int32).toNatClampNeg))]) (na := 1) C S (oN0 cI ad pa pl) rfl (ct_X7_canStart l D cI cB cL ad pa pl (u 32 ((x2 : Int32).toNatClampNeg)) u h9) mw_586 mw_585 mw_587 mw_341 mw_584 hdX7_canStart ⟨Nat.le_trans (Nat.le_of_ble_eq_true rfl) hR.1, Nat.le_trans (Nat.le_of_ble_eq_true rfl) hR.2⟩ rfl hsz (capA hC ha) (Nat.le_of_ble_eq_true rfl) dX7_happen_83 rfl (fun H locs S => ?_)
          refine lv_if_eq (tgt := 112) hx hb dX7_happen_86 (by decide) (fun c11 => ?_) (fun c11 => ?_)
          · have h := cnd_t c11 h
            exact wX7_happen_112 C hR hC u ih x1 x2 (lv_sub hl [0, 1, 2] rfl) S ha hpf h
          · have h := cnd_f c11 h
            refine lv_aload_n hx hb dX7_happen_89 rfl (lv_at hl 0 rfl) ?_
            refine lv_aload_n hx hb dX7_happen_90 rfl (lv_at hl 0 rfl) ?_
            refine q_get (v := .ref (ad 30)) C S (oN0 cI ad pa pl) rfl iwX7 17 (by decide) mw_575 rfl dX7_happen_91 ?_
            refine q_get (v := .ref (ad 32)) C S (oN30 cI ad pa pl) rfl iwX2 2 (by decide) mw_583 rfl dX7_happen_94 ?_
            refine lv_iload_n hx hb dX7_happen_97 rfl (lv_at hl 2 rfl) ?_
            obtain ⟨g13, h⟩ := grd_some h
            refine q_iald C S (aN32 cI ad pa pl) 0 rfl g13 dX7_happen_98 (j := (x2 : Int32).toNatClampNeg) rfl ?_
            refine lv_aload_n hx hb dX7_happen_99 rfl (lv_at hl 0 rfl) ?_
            refine q_get (v := .ref (ad 30)) C S (oN0 cI ad pa pl) rfl iwX7 17 (by decide) mw_575 rfl dX7_happen_100 ?_
            refine q_get (v := .ref (ad 33)) C S (oN30 cI ad pa pl) rfl iwX2 3 (by decide) mw_588 rfl dX7_happen_103 ?_
            refine lv_iload_n hx hb dX7_happen_106 rfl (lv_at hl 2 rfl) ?_
            obtain ⟨g14, h⟩ := grd_some h
            refine q_iald C S (aN33 cI ad pa pl) 0 rfl g14 dX7_happen_107 (j := (x2 : Int32).toNatClampNeg) rfl ?_
            obtain ⟨r20, u16, d17, h15, h⟩ := obt_some h
            obtain ⟨dz18, h, edz18⟩ := addB_some h
            have ha19 : dt = (a + d17) + dz18 := by omega
            have hpf19 : pf = (pl + d17) + dz18 := by omega
            refine q_callViA (As := [.int (u 32 ((x2 : Int32).toNatClampNeg)), .int (u 33 ((x2 : Int32).toNatClampNeg))]) (na := 2) C S (oN0 cI ad pa pl) rfl (ct_X7_start l D cI cB cL ad (u 32 ((x2 : Int32).toNatClampNeg)) (u 33 ((x2 : Int32).toNatClampNeg)) u pl h15) mw_591 mw_590 mw_592 mw_341 mw_589 hdX7_start ⟨Nat.le_trans (Nat.le_of_ble_eq_true rfl) hR.1, Nat.le_trans (Nat.le_of_ble_eq_true rfl) hR.2⟩ rfl hsz (dz := dz18) hC (by omega) (Nat.le_of_ble_eq_true rfl) dX7_happen_108 rfl (fun pa19 H locs S => ?_)
            refine lv_pop hx hb dX7_happen_111 rfl ?_
            exact wX7_happen_112 C hR hC u16 ih x1 x2 (lv_sub hl [0, 1, 2] rfl) S ha19 hpf19 h
        · have h := cnd_f c7 h
          refine lv_aload_n hx hb dX7_happen_57 rfl (lv_at hl 0 rfl) ?_
          refine lv_aload_n hx hb dX7_happen_58 rfl (lv_at hl 0 rfl) ?_
          refine q_get (v := .ref (ad 30)) C S (oN0 cI ad pa pl) rfl iwX7 17 (by decide) mw_575 rfl dX7_happen_59 ?_
          refine q_get (v := .ref (ad 32)) C S (oN30 cI ad pa pl) rfl iwX2 2 (by decide) mw_583 rfl dX7_happen_62 ?_
          refine lv_iload_n hx hb dX7_happen_65 rfl (lv_at hl 2 rfl) ?_
          obtain ⟨g21, h⟩ := grd_some h
          refine q_iald C S (aN32 cI ad pa pl) 0 rfl g21 dX7_happen_66 (j := (x2 : Int32).toNatClampNeg) rfl ?_
          obtain ⟨u23, h22, h⟩ := obr_some h
          refine q_callVv (As := [.int (u 32 ((x2 : Int32).toNatClampNeg))]) (na := 1) C S (oN0 cI ad pa pl) rfl (ct_X7_goDown l D cI cB cL ad pa pl (u 32 ((x2 : Int32).toNatClampNeg)) u h22) mw_595 mw_594 mw_596 mw_341 mw_593 hdX7_goDown ⟨Nat.le_trans (Nat.le_of_ble_eq_true rfl) hR.1, Nat.le_trans (Nat.le_of_ble_eq_true rfl) hR.2⟩ rfl hsz (capA hC ha) (Nat.le_of_ble_eq_true rfl) dX7_happen_67 rfl (fun H locs S => ?_)
          refine lv_goto (tgt := 112) hx hb dX7_happen_70 (by decide) ?_
          exact wX7_happen_112 C hR hC u23 ih x1 x2 (lv_sub hl [0, 1, 2] rfl) S ha hpf h
      · have h := cnd_f c4 h
        refine lv_aload_n hx hb dX7_happen_31 rfl (lv_at hl 0 rfl) ?_
        refine q_get (v := .ref (ad 30)) C S (oN0 cI ad pa pl) rfl iwX7 17 (by decide) mw_575 rfl dX7_happen_32 ?_
        refine lv_iload_n hx hb dX7_happen_35 rfl (lv_at hl 2 rfl) ?_
        refine lv_iload_n hx hb dX7_happen_36 rfl (lv_at hl 1 rfl) ?_
        obtain ⟨u25, h24, h⟩ := obr_some h
        refine q_callVv (As := [.int x2, .int x1]) (na := 2) C S (oN30 cI ad pa pl) rfl (ct_X2_move l D cI cB cL ad pa pl x2 x1 u h24) mw_599 mw_598 mw_600 mw_579 mw_597 hdX2_move ⟨Nat.le_trans (Nat.le_of_ble_eq_true rfl) hR.1, Nat.le_trans (Nat.le_of_ble_eq_true rfl) hR.2⟩ rfl hsz (capA hC ha) (Nat.le_of_ble_eq_true rfl) dX7_happen_37 rfl (fun H locs S => ?_)
        obtain ⟨v26, ev26⟩ : ∃ y : Int32, y = x1 + 1 := ⟨_, rfl⟩
        have h := bnd_of ev26 h
        refine lv_iinc (v := v26) (lv' := [(1, .int v26), (0, .ref (ad 0)), (2, .int x2)]) hx hb dX7_happen_40 hl (k := 1) rfl (by rw [ev26]; rfl) (by decide) rfl (fun ls hl => ?_)
        have hsz := hl.1
        refine lv_goto (tgt := 112) hx hb dX7_happen_43 (by decide) ?_
        exact wX7_happen_112 C hR hC u25 ih v26 x2 (lv_sub hl [1, 0, 2] rfl) S ha hpf h
set_option maxRecDepth 10000 in
set_option maxHeartbeats 4000000 in
theorem wX7_happen_0 (C : cx D (tyl cI cB cL) A RX7 cX7_happen 3 none p s m args c meth) (hR : 6 ≤ R.frames ∧ 151 ≤ R.locals) {σ' : Sg} {dt pf : Nat} (hC : R.cells = dt ∧ R.slots = 2 * dt) (u : Sg) {pl pa a dz : Nat} {H : Heap} {locs : List Loc} {ls : Array Slot} (hl : lv_has ls 3 [(0, .ref (ad 0))]) (S : st D (wN cI ad pa pl) A s u H locs) (ha : dt = a + dz) (hpf : pf = pl + dz) (h : fX7_happen_0 u pl = some (σ', dz)) : W p l e R s m args below meth c H locs a (2 * a) (MQ below (qVA D cI cB cL (wN cI ad) pf A σ') args s dt (2 * dt) A) (F0 m 0 ls []) := by
  have hx := C.1
  have hb := C.2.1
  have hsz := hl.1
  unfold fX7_happen_0 at h
  refine lv_iconst (v := 0) hx hb dX7_happen_0 (by decide) ?_
  refine lv_istore_n (lv' := [(1, .int 0), (0, .ref (ad 0))]) hx hb dX7_happen_1 rfl hl (by decide) rfl (fun ls hl => ?_)
  have hsz := hl.1
  refine lv_iconst (v := 0) hx hb dX7_happen_2 (by decide) ?_
  refine lv_istore_n (lv' := [(2, .int 0), (1, .int 0), (0, .ref (ad 0))]) hx hb dX7_happen_3 rfl hl (by decide) rfl (fun ls hl => ?_)
  have hsz := hl.1
  exact wX7_happen_4 C hR hC FU 0 0 u pl pa a dz H locs ls (lv_sub hl [2, 1, 0] rfl) S ha hpf h
set_option maxRecDepth 10000 in
set_option maxHeartbeats 4000000 in
theorem ct_X7_happen (l : Launch) (D : va_G) (cI cB cL : ClassId) (ad : Nat → Nat) (u : Sg) (pl : Nat) {σ' : Sg} {dz : Nat} (h : fX7_happen u pl = some (σ', dz)) : metVA l D cI cB cL yX7_happen cX7_happen 3 6 151 (wN cI ad) [.ref (ad 0)] u pl σ' dz := by
  intro pa sz
  refine Met.ofW (cc := cX7_happen) (maxL := 3) (ret := none) (by decide) rfl ?_
  intro p e s m args below meth c s₁ B hml hv
  obtain ⟨rfl, C, S⟩ := q_entryA B hml hv
  have hl := lv_entry ([.ref (ad 0)]) (n := 3) (Nat.le_of_ble_eq_true rfl)
  rw [lg_entry_eq]
  generalize (lg_sl ([.ref (ad 0)]) ++ List.replicate (3 - (lg_sl ([.ref (ad 0)])).length) Slot.unset).toArray = ls at hl ⊢
  exact wX7_happen_0 C ⟨Nat.le_refl _, Nat.le_refl _⟩ ⟨rfl, rfl⟩ u (lv_sub hl [0] rfl) S (Nat.zero_add _).symm rfl h
noncomputable def fX7_pass_0 (u : Sg) (pl : Nat) : Option (Int32 × Sg × Nat) := obd (fX7_happen u pl) (fun u2 d3 => addA d3 (obt (fX7_passOn u2 (pl + d3)) (fun r11 u7 d8 => addA d8 (some (r11, u7, 0)))))
noncomputable def fX7_pass (u : Sg) (pl : Nat) : Option (Int32 × Sg × Nat) := fX7_pass_0 u pl
set_option maxRecDepth 10000 in
set_option maxHeartbeats 4000000 in
theorem wX7_pass_0 (C : cx D (tyl cI cB cL) A RX7 cX7_pass 1 (some .int) p s m args c meth) (hR : 7 ≤ R.frames ∧ 180 ≤ R.locals) {r : Int32} {σ' : Sg} {dt pf : Nat} (hC : R.cells = dt ∧ R.slots = 2 * dt) (u : Sg) {pl pa a dz : Nat} {H : Heap} {locs : List Loc} {ls : Array Slot} (hl : lv_has ls 1 [(0, .ref (ad 0))]) (S : st D (wN cI ad pa pl) A s u H locs) (ha : dt = a + dz) (hpf : pf = pl + dz) (h : fX7_pass_0 u pl = some (r, σ', dz)) : W p l e R s m args below meth c H locs a (2 * a) (MQ below (qIA D cI cB cL (wN cI ad) pf A r σ') args s dt (2 * dt) A) (F0 m 0 ls []) := by
  have hx := C.1
  have hb := C.2.1
  have hsz := hl.1
  unfold fX7_pass_0 at h
  refine lv_aload_n hx hb dX7_pass_0 rfl (lv_at hl 0 rfl) ?_
  obtain ⟨u2, d3, h1, h⟩ := obd_some h
  obtain ⟨dz4, h, edz4⟩ := addA_some h
  have ha5 : dt = (a + d3) + dz4 := by omega
  have hpf5 : pf = (pl + d3) + dz4 := by omega
  refine q_callVvA (As := []) (na := 0) C S (oN0 cI ad pa pl) rfl (ct_X7_happen l D cI cB cL ad u pl h1) mw_603 mw_602 mw_604 mw_341 mw_601 hdX7_happen ⟨Nat.le_trans (Nat.le_of_ble_eq_true rfl) hR.1, Nat.le_trans (Nat.le_of_ble_eq_true rfl) hR.2⟩ rfl hsz (dz := dz4) hC (by omega) (Nat.le_of_ble_eq_true rfl) dX7_pass_1 rfl (fun pa5 H locs S => ?_)
  refine lv_aload_n hx hb dX7_pass_4 rfl (lv_at hl 0 rfl) ?_
  obtain ⟨r11, u7, d8, h6, h⟩ := obt_some h
  obtain ⟨dz9, h, edz9⟩ := addA_some h
  have ha10 : dt = ((a + d3) + d8) + dz9 := by omega
  have hpf10 : pf = ((pl + d3) + d8) + dz9 := by omega
  refine q_callViA (As := []) (na := 0) C S (oN0 cI ad pa5 (pl + d3)) rfl (ct_X7_passOn l D cI cB cL ad u2 (pl + d3) h6) mw_567 mw_566 mw_568 mw_341 mw_565 hdX7_passOn ⟨Nat.le_trans (Nat.le_of_ble_eq_true rfl) hR.1, Nat.le_trans (Nat.le_of_ble_eq_true rfl) hR.2⟩ rfl hsz (dz := dz9) hC (by omega) (Nat.le_of_ble_eq_true rfl) dX7_pass_5 rfl (fun pa10 H locs S => ?_)
  exact q_iretA C S h ha10 hpf10 dX7_pass_8
set_option maxRecDepth 10000 in
set_option maxHeartbeats 4000000 in
theorem ct_X7_pass (l : Launch) (D : va_G) (cI cB cL : ClassId) (ad : Nat → Nat) (u : Sg) (pl : Nat) {r : Int32} {σ' : Sg} {dz : Nat} (h : fX7_pass u pl = some (r, σ', dz)) : metIA l D cI cB cL yX7_pass cX7_pass 1 (some .int) 7 180 (wN cI ad) [.ref (ad 0)] u pl r σ' dz := by
  intro pa sz
  refine Met.ofW (cc := cX7_pass) (maxL := 1) (ret := (some .int)) (by decide) rfl ?_
  intro p e s m args below meth c s₁ B hml hv
  obtain ⟨rfl, C, S⟩ := q_entryA B hml hv
  have hl := lv_entry ([.ref (ad 0)]) (n := 1) (Nat.le_of_ble_eq_true rfl)
  rw [lg_entry_eq]
  generalize (lg_sl ([.ref (ad 0)]) ++ List.replicate (1 - (lg_sl ([.ref (ad 0)])).length) Slot.unset).toArray = ls at hl ⊢
  exact wX7_pass_0 C ⟨Nat.le_refl _, Nat.le_refl _⟩ ⟨rfl, rfl⟩ u (lv_sub hl [0] rfl) S (Nat.zero_add _).symm rfl h
end S_28_a01
