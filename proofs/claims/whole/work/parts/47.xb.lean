theorem mw_805 : Cond.code yX8_placed cX8_placed 5 (some .int) ∈ gw := gw_t2 197 rfl rfl
theorem mw_806 : Cond.methodLink RX11 294 yX8_placed ∈ gw := gw_t2 194 rfl rfl
theorem mw_807 : Cond.instanceMethod yX8_placed ∈ gw := gw_t2 195 rfl rfl
theorem mw_808 : Cond.selects RX8 yX8_placed yX8_placed ∈ gw := gw_t2 196 rfl rfl
theorem mw_809 : Cond.fieldLink RX11 142 "LeastPending$Mail" "to" "[I" ∈ gw := gw_t1 155 rfl rfl
theorem mw_810 : Cond.fieldLink RX11 137 "LeastPending$Mail" "sender" "[I" ∈ gw := gw_t1 152 rfl rfl
theorem mw_811 : Cond.fieldLink RX11 303 "LeastPending$Mail" "putters" "[I" ∈ gw := gw_t1 163 rfl rfl
theorem mw_812 : Cond.code yX0_partedPairs cX0_partedPairs 9 (some .int) ∈ gw := gw_t6 1 rfl rfl
theorem mw_813 : Cond.methodLink RX11 306 yX0_partedPairs ∈ gw := gw_t5 239 rfl rfl
theorem mw_814 : Cond.static yX0_partedPairs ∈ gw := gw_t6 0 rfl rfl
theorem mw_815 : Cond.fieldLink RX11 166 "LeastPending$Holdings" "kind" "[I" ∈ gw := gw_t1 186 rfl rfl
theorem mw_816 : Cond.fieldLink RX11 309 "LeastPending$Holdings" "when" "[I" ∈ gw := gw_t1 197 rfl rfl
theorem mw_817 : Cond.code yX0_chainAt cX0_chainAt 8 (some .int) ∈ gw := gw_t6 22 rfl rfl
theorem mw_818 : Cond.methodLink RX11 312 yX0_chainAt ∈ gw := gw_t6 20 rfl rfl
theorem mw_819 : Cond.static yX0_chainAt ∈ gw := gw_t6 21 rfl rfl
theorem mw_820 : Cond.code yX0_lateOf cX0_lateOf 5 (some .int) ∈ gw := gw_t2 216 rfl rfl
theorem mw_821 : Cond.methodLink RX11 316 yX0_lateOf ∈ gw := gw_t2 214 rfl rfl
theorem mw_822 : Cond.static yX0_lateOf ∈ gw := gw_t2 215 rfl rfl
theorem mw_823 : Cond.code yX6_addressedTo cX6_addressedTo 4 (some .int) ∈ gw := gw_t6 55 rfl rfl
theorem mw_824 : Cond.methodLink RX11 325 yX6_addressedTo ∈ gw := gw_t6 52 rfl rfl
theorem mw_825 : Cond.instanceMethod yX6_addressedTo ∈ gw := gw_t6 53 rfl rfl
theorem mw_826 : Cond.selects RX6 yX6_addressedTo yX6_addressedTo ∈ gw := gw_t6 54 rfl rfl
theorem mw_827 : Cond.code yX7_messagesAt cX7_messagesAt 5 (some .int) ∈ gw := gw_t4 62 rfl rfl
theorem mw_828 : Cond.methodLink RX11 94 yX7_messagesAt ∈ gw := gw_t4 59 rfl rfl
theorem mw_829 : Cond.instanceMethod yX7_messagesAt ∈ gw := gw_t4 60 rfl rfl
theorem mw_830 : Cond.selects RX7 yX7_messagesAt yX7_messagesAt ∈ gw := gw_t4 61 rfl rfl
theorem mw_831 : Cond.code yX0_ringOf cX0_ringOf 4 (some .int) ∈ gw := gw_t2 239 rfl rfl
theorem mw_832 : Cond.methodLink RX11 331 yX0_ringOf ∈ gw := gw_t2 237 rfl rfl
theorem mw_833 : Cond.static yX0_ringOf ∈ gw := gw_t2 238 rfl rfl
theorem mw_834 : Cond.methodLink RX11 98 yJ6_bitCount_0f7a4 ∈ gw := gw_t4 64 rfl rfl
theorem mw_835 : Cond.fieldLink RX11 145 "LeastPending$Mail" "cost" "[I" ∈ gw := gw_t1 158 rfl rfl
theorem mw_836 : Cond.fieldLink RX11 371 "LeastPending$Net" "seed" "I" ∈ gw := gw_t2 67 rfl rfl
theorem mw_837 : Cond.fieldLink RX11 75 "LeastPending$Net" "textCount" "I" ∈ gw := gw_t2 56 rfl rfl
theorem mw_838 : Cond.fieldLink RX11 380 "LeastPending$Net" "tick" "I" ∈ gw := gw_t2 59 rfl rfl
theorem mw_839 : Cond.fieldLink RX11 383 "LeastPending$Net" "jitter" "I" ∈ gw := gw_t2 62 rfl rfl
theorem mw_840 : Cond.fieldLink RX11 386 "LeastPending$Net" "notice" "I" ∈ gw := gw_t2 65 rfl rfl
theorem mw_841 : Cond.fieldLink RX11 334 "LeastPending$Net" "events" "LLeastPending$Events;" ∈ gw := gw_t2 96 rfl rfl
theorem mw_842 : Cond.fieldLink RX11 338 "LeastPending$Events" "waiting" "I" ∈ gw := gw_t2 10 rfl rfl
theorem mw_843 : Cond.code yX1_sizeOfAll cX1_sizeOfAll 3 (some .int) ∈ gw := gw_t3 66 rfl rfl
theorem mw_844 : Cond.methodLink RX11 389 yX1_sizeOfAll ∈ gw := gw_t3 63 rfl rfl
theorem mw_845 : Cond.instanceMethod yX1_sizeOfAll ∈ gw := gw_t3 64 rfl rfl
theorem mw_846 : Cond.selects RX1 yX1_sizeOfAll yX1_sizeOfAll ∈ gw := gw_t3 65 rfl rfl
theorem mw_847 : Cond.fieldLink RX11 359 "LeastPending$Net" "log" "LLeastPending$Log;" ∈ gw := gw_t2 98 rfl rfl
theorem mw_848 : Cond.fieldLink RX11 363 "LeastPending$Log" "stored" "I" ∈ gw := gw_t2 36 rfl rfl
theorem hdX0_chainAt : yX0_chainAt.cls ≠ "java/lang/invoke/MethodHandle" ∧ yX0_chainAt.cls ≠ "java/lang/invoke/VarHandle" ∧ (parseMethodDescriptor yX0_chainAt.desc).map (fun d => d.parameters.length) = some 4 := by decide +kernel
theorem hdX0_lateOf : yX0_lateOf.cls ≠ "java/lang/invoke/MethodHandle" ∧ yX0_lateOf.cls ≠ "java/lang/invoke/VarHandle" ∧ (parseMethodDescriptor yX0_lateOf.desc).map (fun d => d.parameters.length) = some 2 := by decide +kernel
theorem hdX0_partedPairs : yX0_partedPairs.cls ≠ "java/lang/invoke/MethodHandle" ∧ yX0_partedPairs.cls ≠ "java/lang/invoke/VarHandle" ∧ (parseMethodDescriptor yX0_partedPairs.desc).map (fun d => d.parameters.length) = some 3 := by decide +kernel
theorem hdX0_ringOf : yX0_ringOf.cls ≠ "java/lang/invoke/MethodHandle" ∧ yX0_ringOf.cls ≠ "java/lang/invoke/VarHandle" ∧ (parseMethodDescriptor yX0_ringOf.desc).map (fun d => d.parameters.length) = some 1 := by decide +kernel
theorem hdX1_sizeOfAll : yX1_sizeOfAll.cls = RX1 ∧ yX1_sizeOfAll.cls ≠ "java/lang/invoke/MethodHandle" ∧ yX1_sizeOfAll.cls ≠ "java/lang/invoke/VarHandle" ∧ (parseMethodDescriptor yX1_sizeOfAll.desc).map (fun d => d.parameters.length) = some 0 := by decide +kernel
theorem hdX6_addressedTo : yX6_addressedTo.cls = RX6 ∧ yX6_addressedTo.cls ≠ "java/lang/invoke/MethodHandle" ∧ yX6_addressedTo.cls ≠ "java/lang/invoke/VarHandle" ∧ (parseMethodDescriptor yX6_addressedTo.desc).map (fun d => d.parameters.length) = some 1 := by decide +kernel
theorem hdX7_messagesAt : yX7_messagesAt.cls = RX7 ∧ yX7_messagesAt.cls ≠ "java/lang/invoke/MethodHandle" ∧ yX7_messagesAt.cls ≠ "java/lang/invoke/VarHandle" ∧ (parseMethodDescriptor yX7_messagesAt.desc).map (fun d => d.parameters.length) = some 2 := by decide +kernel
theorem hdX8_placed : yX8_placed.cls = RX8 ∧ yX8_placed.cls ≠ "java/lang/invoke/MethodHandle" ∧ yX8_placed.cls ≠ "java/lang/invoke/VarHandle" ∧ (parseMethodDescriptor yX8_placed.desc).map (fun d => d.parameters.length) = some 1 := by decide +kernel
theorem dX11_line_0 : decode cX11_line 0 = .ok (.aload_n 0, 1) := by decide +kernel
theorem dX11_line_1 : decode cX11_line 1 = .ok (.getfield 28, 3) := by decide +kernel
theorem dX11_line_4 : decode cX11_line 4 = .ok (.aload_n 0, 1) := by decide +kernel
theorem dX11_line_5 : decode cX11_line 5 = .ok (.getfield 35, 3) := by decide +kernel
theorem dX11_line_8 : decode cX11_line 8 = .ok (.invokevirtual 287, 3) := by decide +kernel
theorem dX11_line_11 : decode cX11_line 11 = .ok (.aload_n 0, 1) := by decide +kernel
theorem dX11_line_12 : decode cX11_line 12 = .ok (.getfield 28, 3) := by decide +kernel
theorem dX11_line_15 : decode cX11_line 15 = .ok (.iload_n 1, 1) := by decide +kernel
theorem dX11_line_16 : decode cX11_line 16 = .ok (.invokevirtual 294, 3) := by decide +kernel
theorem dX11_line_19 : decode cX11_line 19 = .ok (.ireturn, 1) := by decide +kernel
theorem dX11_outside_0 : decode cX11_outside 0 = .ok (.aload_n 0, 1) := by decide +kernel
theorem dX11_outside_1 : decode cX11_outside 1 = .ok (.iload_n 1, 1) := by decide +kernel
theorem dX11_outside_2 : decode cX11_outside 2 = .ok (.invokevirtual 130, 3) := by decide +kernel
theorem dX11_outside_5 : decode cX11_outside 5 = .ok (.aload_n 0, 1) := by decide +kernel
theorem dX11_outside_6 : decode cX11_outside 6 = .ok (.getfield 35, 3) := by decide +kernel
theorem dX11_outside_9 : decode cX11_outside 9 = .ok (.getfield 133, 3) := by decide +kernel
theorem dX11_outside_12 : decode cX11_outside 12 = .ok (.getfield 142, 3) := by decide +kernel
theorem dX11_outside_15 : decode cX11_outside 15 = .ok (.iload_n 1, 1) := by decide +kernel
theorem dX11_outside_16 : decode cX11_outside 16 = .ok (.iaload, 1) := by decide +kernel
theorem dX11_outside_17 : decode cX11_outside 17 = .ok (.iconst 1, 1) := by decide +kernel
theorem dX11_outside_18 : decode cX11_outside 18 = .ok (.aload_n 0, 1) := by decide +kernel
theorem dX11_outside_19 : decode cX11_outside 19 = .ok (.getfield 35, 3) := by decide +kernel
theorem dX11_outside_22 : decode cX11_outside 22 = .ok (.getfield 133, 3) := by decide +kernel
theorem dX11_outside_25 : decode cX11_outside 25 = .ok (.getfield 137, 3) := by decide +kernel
theorem dX11_outside_28 : decode cX11_outside 28 = .ok (.iload_n 1, 1) := by decide +kernel
theorem dX11_outside_29 : decode cX11_outside 29 = .ok (.iaload, 1) := by decide +kernel
theorem dX11_outside_30 : decode cX11_outside 30 = .ok (.ishl, 1) := by decide +kernel
theorem dX11_outside_31 : decode cX11_outside 31 = .ok (.ior, 1) := by decide +kernel
theorem dX11_outside_32 : decode cX11_outside 32 = .ok (.istore_n 2, 1) := by decide +kernel
theorem dX11_outside_33 : decode cX11_outside 33 = .ok (.aload_n 0, 1) := by decide +kernel
theorem dX11_outside_34 : decode cX11_outside 34 = .ok (.getfield 35, 3) := by decide +kernel
theorem dX11_outside_37 : decode cX11_outside 37 = .ok (.getfield 133, 3) := by decide +kernel
theorem dX11_outside_40 : decode cX11_outside 40 = .ok (.getfield 303, 3) := by decide +kernel
theorem dX11_outside_43 : decode cX11_outside 43 = .ok (.iload_n 1, 1) := by decide +kernel
theorem dX11_outside_44 : decode cX11_outside 44 = .ok (.iaload, 1) := by decide +kernel
theorem dX11_outside_45 : decode cX11_outside 45 = .ok (.iload_n 2, 1) := by decide +kernel
theorem dX11_outside_46 : decode cX11_outside 46 = .ok (.iconst (-1), 1) := by decide +kernel
theorem dX11_outside_47 : decode cX11_outside 47 = .ok (.ixor, 1) := by decide +kernel
theorem dX11_outside_48 : decode cX11_outside 48 = .ok (.iand, 1) := by decide +kernel
theorem dX11_outside_49 : decode cX11_outside 49 = .ok (.ireturn, 1) := by decide +kernel
theorem dX11_parted_0 : decode cX11_parted 0 = .ok (.aload_n 0, 1) := by decide +kernel
theorem dX11_parted_1 : decode cX11_parted 1 = .ok (.iload_n 1, 1) := by decide +kernel
theorem dX11_parted_2 : decode cX11_parted 2 = .ok (.invokevirtual 83, 3) := by decide +kernel
theorem dX11_parted_5 : decode cX11_parted 5 = .ok (.aload_n 0, 1) := by decide +kernel
theorem dX11_parted_6 : decode cX11_parted 6 = .ok (.iload_n 2, 1) := by decide +kernel
theorem dX11_parted_7 : decode cX11_parted 7 = .ok (.invokevirtual 83, 3) := by decide +kernel
theorem dX11_parted_10 : decode cX11_parted 10 = .ok (.iload_n 1, 1) := by decide +kernel
theorem dX11_parted_11 : decode cX11_parted 11 = .ok (.iload_n 2, 1) := by decide +kernel
theorem dX11_parted_12 : decode cX11_parted 12 = .ok (.invokestatic 283, 3) := by decide +kernel
theorem dX11_parted_15 : decode cX11_parted 15 = .ok (.aload_n 0, 1) := by decide +kernel
theorem dX11_parted_16 : decode cX11_parted 16 = .ok (.getfield 35, 3) := by decide +kernel
theorem dX11_parted_19 : decode cX11_parted 19 = .ok (.iload_n 1, 1) := by decide +kernel
theorem dX11_parted_20 : decode cX11_parted 20 = .ok (.iload_n 2, 1) := by decide +kernel
theorem dX11_parted_21 : decode cX11_parted 21 = .ok (.invokestatic 306, 3) := by decide +kernel
theorem dX11_parted_24 : decode cX11_parted 24 = .ok (.ireturn, 1) := by decide +kernel
theorem dX11_when_0 : decode cX11_when 0 = .ok (.aload_n 0, 1) := by decide +kernel
theorem dX11_when_1 : decode cX11_when 1 = .ok (.iload_n 1, 1) := by decide +kernel
theorem dX11_when_2 : decode cX11_when 2 = .ok (.invokevirtual 83, 3) := by decide +kernel
theorem dX11_when_5 : decode cX11_when 5 = .ok (.aload_n 0, 1) := by decide +kernel
theorem dX11_when_6 : decode cX11_when 6 = .ok (.iload_n 2, 1) := by decide +kernel
theorem dX11_when_7 : decode cX11_when 7 = .ok (.invokevirtual 130, 3) := by decide +kernel
theorem dX11_when_10 : decode cX11_when 10 = .ok (.iload_n 1, 1) := by decide +kernel
theorem dX11_when_11 : decode cX11_when 11 = .ok (.iload_n 2, 1) := by decide +kernel
theorem dX11_when_12 : decode cX11_when 12 = .ok (.invokestatic 163, 3) := by decide +kernel
theorem dX11_when_15 : decode cX11_when 15 = .ok (.istore_n 3, 1) := by decide +kernel
theorem dX11_when_16 : decode cX11_when 16 = .ok (.aload_n 0, 1) := by decide +kernel
theorem dX11_when_17 : decode cX11_when 17 = .ok (.getfield 35, 3) := by decide +kernel
theorem dX11_when_20 : decode cX11_when 20 = .ok (.getfield 104, 3) := by decide +kernel
theorem dX11_when_23 : decode cX11_when 23 = .ok (.getfield 166, 3) := by decide +kernel
theorem dX11_when_26 : decode cX11_when 26 = .ok (.iload_n 3, 1) := by decide +kernel
theorem dX11_when_27 : decode cX11_when 27 = .ok (.iaload, 1) := by decide +kernel
theorem dX11_when_28 : decode cX11_when 28 = .ok (.iconst 3, 1) := by decide +kernel
theorem dX11_when_29 : decode cX11_when 29 = .ok (.if_icmp .ne 18, 3) := by decide +kernel
theorem dX11_when_32 : decode cX11_when 32 = .ok (.aload_n 0, 1) := by decide +kernel
theorem dX11_when_33 : decode cX11_when 33 = .ok (.getfield 35, 3) := by decide +kernel
theorem dX11_when_36 : decode cX11_when 36 = .ok (.getfield 104, 3) := by decide +kernel
theorem dX11_when_39 : decode cX11_when 39 = .ok (.getfield 309, 3) := by decide +kernel
theorem dX11_when_42 : decode cX11_when 42 = .ok (.iload_n 3, 1) := by decide +kernel
theorem dX11_when_43 : decode cX11_when 43 = .ok (.iaload, 1) := by decide +kernel
theorem dX11_when_44 : decode cX11_when 44 = .ok (.goto 4, 3) := by decide +kernel
theorem dX11_when_47 : decode cX11_when 47 = .ok (.iconst (-1), 1) := by decide +kernel
theorem dX11_when_48 : decode cX11_when 48 = .ok (.ireturn, 1) := by decide +kernel
theorem dX11_chain_0 : decode cX11_chain 0 = .ok (.aload_n 0, 1) := by decide +kernel
theorem dX11_chain_1 : decode cX11_chain 1 = .ok (.iload_n 1, 1) := by decide +kernel
theorem dX11_chain_2 : decode cX11_chain 2 = .ok (.invokevirtual 83, 3) := by decide +kernel
theorem dX11_chain_5 : decode cX11_chain 5 = .ok (.aload_n 0, 1) := by decide +kernel
theorem dX11_chain_6 : decode cX11_chain 6 = .ok (.iload_n 2, 1) := by decide +kernel
theorem dX11_chain_7 : decode cX11_chain 7 = .ok (.invokevirtual 130, 3) := by decide +kernel
theorem dX11_chain_10 : decode cX11_chain 10 = .ok (.aload_n 0, 1) := by decide +kernel
theorem dX11_chain_11 : decode cX11_chain 11 = .ok (.getfield 35, 3) := by decide +kernel
theorem dX11_chain_14 : decode cX11_chain 14 = .ok (.iload_n 1, 1) := by decide +kernel
theorem dX11_chain_15 : decode cX11_chain 15 = .ok (.iload_n 2, 1) := by decide +kernel
theorem dX11_chain_16 : decode cX11_chain 16 = .ok (.iload_n 3, 1) := by decide +kernel
theorem dX11_chain_17 : decode cX11_chain 17 = .ok (.invokestatic 312, 3) := by decide +kernel
theorem dX11_chain_20 : decode cX11_chain 20 = .ok (.ireturn, 1) := by decide +kernel
theorem dX11_late_0 : decode cX11_late 0 = .ok (.aload_n 0, 1) := by decide +kernel
theorem dX11_late_1 : decode cX11_late 1 = .ok (.iload_n 1, 1) := by decide +kernel
theorem dX11_late_2 : decode cX11_late 2 = .ok (.invokevirtual 130, 3) := by decide +kernel
theorem dX11_late_5 : decode cX11_late 5 = .ok (.aload_n 0, 1) := by decide +kernel
theorem dX11_late_6 : decode cX11_late 6 = .ok (.getfield 35, 3) := by decide +kernel
theorem dX11_late_9 : decode cX11_late 9 = .ok (.iload_n 1, 1) := by decide +kernel
theorem dX11_late_10 : decode cX11_late 10 = .ok (.invokestatic 316, 3) := by decide +kernel
theorem dX11_late_13 : decode cX11_late 13 = .ok (.ireturn, 1) := by decide +kernel
theorem dX11_slowest_0 : decode cX11_slowest 0 = .ok (.iconst (-1), 1) := by decide +kernel
theorem dX11_slowest_1 : decode cX11_slowest 1 = .ok (.istore_n 1, 1) := by decide +kernel
theorem dX11_slowest_2 : decode cX11_slowest 2 = .ok (.iconst (-1), 1) := by decide +kernel
theorem dX11_slowest_3 : decode cX11_slowest 3 = .ok (.istore_n 2, 1) := by decide +kernel
theorem dX11_slowest_4 : decode cX11_slowest 4 = .ok (.iconst 0, 1) := by decide +kernel
theorem dX11_slowest_5 : decode cX11_slowest 5 = .ok (.istore_n 3, 1) := by decide +kernel
theorem dX11_slowest_6 : decode cX11_slowest 6 = .ok (.iload_n 3, 1) := by decide +kernel
theorem dX11_slowest_7 : decode cX11_slowest 7 = .ok (.aload_n 0, 1) := by decide +kernel
theorem dX11_slowest_8 : decode cX11_slowest 8 = .ok (.getfield 35, 3) := by decide +kernel
theorem dX11_slowest_11 : decode cX11_slowest 11 = .ok (.getfield 133, 3) := by decide +kernel
theorem dX11_slowest_14 : decode cX11_slowest 14 = .ok (.getfield 319, 3) := by decide +kernel
theorem dX11_slowest_17 : decode cX11_slowest 17 = .ok (.if_icmp .ge 30, 3) := by decide +kernel
theorem dX11_slowest_20 : decode cX11_slowest 20 = .ok (.aload_n 0, 1) := by decide +kernel
theorem dX11_slowest_21 : decode cX11_slowest 21 = .ok (.getfield 35, 3) := by decide +kernel
theorem dX11_slowest_24 : decode cX11_slowest 24 = .ok (.iload_n 3, 1) := by decide +kernel
theorem dX11_slowest_25 : decode cX11_slowest 25 = .ok (.invokestatic 316, 3) := by decide +kernel
theorem dX11_slowest_28 : decode cX11_slowest 28 = .ok (.istore 4, 2) := by decide +kernel
theorem dX11_slowest_30 : decode cX11_slowest 30 = .ok (.iload 4, 2) := by decide +kernel
theorem dX11_slowest_32 : decode cX11_slowest 32 = .ok (.iload_n 2, 1) := by decide +kernel
theorem dX11_slowest_33 : decode cX11_slowest 33 = .ok (.if_icmp .le 8, 3) := by decide +kernel
theorem dX11_slowest_36 : decode cX11_slowest 36 = .ok (.iload 4, 2) := by decide +kernel
theorem dX11_slowest_38 : decode cX11_slowest 38 = .ok (.istore_n 2, 1) := by decide +kernel
theorem dX11_slowest_39 : decode cX11_slowest 39 = .ok (.iload_n 3, 1) := by decide +kernel
theorem dX11_slowest_40 : decode cX11_slowest 40 = .ok (.istore_n 1, 1) := by decide +kernel
theorem dX11_slowest_41 : decode cX11_slowest 41 = .ok (.iinc 3 1, 3) := by decide +kernel
theorem dX11_slowest_44 : decode cX11_slowest 44 = .ok (.goto (-38), 3) := by decide +kernel
theorem dX11_slowest_47 : decode cX11_slowest 47 = .ok (.iload_n 1, 1) := by decide +kernel
theorem dX11_slowest_48 : decode cX11_slowest 48 = .ok (.ireturn, 1) := by decide +kernel
theorem dX11_lag_0 : decode cX11_lag 0 = .ok (.aload_n 0, 1) := by decide +kernel
theorem dX11_lag_1 : decode cX11_lag 1 = .ok (.iload_n 1, 1) := by decide +kernel
theorem dX11_lag_2 : decode cX11_lag 2 = .ok (.invokevirtual 83, 3) := by decide +kernel
theorem dX11_lag_5 : decode cX11_lag 5 = .ok (.aload_n 0, 1) := by decide +kernel
theorem dX11_lag_6 : decode cX11_lag 6 = .ok (.getfield 35, 3) := by decide +kernel
theorem dX11_lag_9 : decode cX11_lag 9 = .ok (.getfield 133, 3) := by decide +kernel
theorem dX11_lag_12 : decode cX11_lag 12 = .ok (.iload_n 1, 1) := by decide +kernel
theorem dX11_lag_13 : decode cX11_lag 13 = .ok (.invokevirtual 325, 3) := by decide +kernel
theorem dX11_lag_16 : decode cX11_lag 16 = .ok (.aload_n 0, 1) := by decide +kernel
theorem dX11_lag_17 : decode cX11_lag 17 = .ok (.getfield 35, 3) := by decide +kernel
theorem dX11_lag_20 : decode cX11_lag 20 = .ok (.iload_n 1, 1) := by decide +kernel
theorem dX11_lag_21 : decode cX11_lag 21 = .ok (.iconst 3, 1) := by decide +kernel
theorem dX11_lag_22 : decode cX11_lag 22 = .ok (.invokevirtual 94, 3) := by decide +kernel
theorem dX11_lag_25 : decode cX11_lag 25 = .ok (.iconst (-1), 1) := by decide +kernel
theorem dX11_lag_26 : decode cX11_lag 26 = .ok (.ixor, 1) := by decide +kernel
theorem dX11_lag_27 : decode cX11_lag 27 = .ok (.iand, 1) := by decide +kernel
theorem dX11_lag_28 : decode cX11_lag 28 = .ok (.ireturn, 1) := by decide +kernel
theorem dX11_knot_0 : decode cX11_knot 0 = .ok (.aload_n 0, 1) := by decide +kernel
theorem dX11_knot_1 : decode cX11_knot 1 = .ok (.iload_n 1, 1) := by decide +kernel
theorem dX11_knot_2 : decode cX11_knot 2 = .ok (.invokevirtual 124, 3) := by decide +kernel
theorem dX11_knot_5 : decode cX11_knot 5 = .ok (.aload_n 0, 1) := by decide +kernel
theorem dX11_knot_6 : decode cX11_knot 6 = .ok (.iload_n 2, 1) := by decide +kernel
theorem dX11_knot_7 : decode cX11_knot 7 = .ok (.invokevirtual 124, 3) := by decide +kernel
theorem dX11_knot_10 : decode cX11_knot 10 = .ok (.iload_n 1, 1) := by decide +kernel
theorem dX11_knot_11 : decode cX11_knot 11 = .ok (.iload_n 2, 1) := by decide +kernel
theorem dX11_knot_12 : decode cX11_knot 12 = .ok (.invokestatic 283, 3) := by decide +kernel
theorem dX11_knot_15 : decode cX11_knot 15 = .ok (.aload_n 0, 1) := by decide +kernel
theorem dX11_knot_16 : decode cX11_knot 16 = .ok (.getfield 35, 3) := by decide +kernel
theorem dX11_knot_19 : decode cX11_knot 19 = .ok (.getfield 127, 3) := by decide +kernel
theorem dX11_knot_22 : decode cX11_knot 22 = .ok (.iload_n 1, 1) := by decide +kernel
theorem dX11_knot_23 : decode cX11_knot 23 = .ok (.iaload, 1) := by decide +kernel
theorem dX11_knot_24 : decode cX11_knot 24 = .ok (.aload_n 0, 1) := by decide +kernel
theorem dX11_knot_25 : decode cX11_knot 25 = .ok (.getfield 35, 3) := by decide +kernel
theorem dX11_knot_28 : decode cX11_knot 28 = .ok (.getfield 127, 3) := by decide +kernel
theorem dX11_knot_31 : decode cX11_knot 31 = .ok (.iload_n 2, 1) := by decide +kernel
theorem dX11_knot_32 : decode cX11_knot 32 = .ok (.iaload, 1) := by decide +kernel
theorem dX11_knot_33 : decode cX11_knot 33 = .ok (.iand, 1) := by decide +kernel
theorem dX11_knot_34 : decode cX11_knot 34 = .ok (.ireturn, 1) := by decide +kernel
theorem dX11_ring_0 : decode cX11_ring 0 = .ok (.aload_n 0, 1) := by decide +kernel
theorem dX11_ring_1 : decode cX11_ring 1 = .ok (.getfield 35, 3) := by decide +kernel
theorem dX11_ring_4 : decode cX11_ring 4 = .ok (.invokestatic 331, 3) := by decide +kernel
theorem dX11_ring_7 : decode cX11_ring 7 = .ok (.ireturn, 1) := by decide +kernel
theorem dX11_spared_0 : decode cX11_spared 0 = .ok (.aload_n 0, 1) := by decide +kernel
theorem dX11_spared_1 : decode cX11_spared 1 = .ok (.iload_n 1, 1) := by decide +kernel
theorem dX11_spared_2 : decode cX11_spared 2 = .ok (.invokevirtual 130, 3) := by decide +kernel
theorem dX11_spared_5 : decode cX11_spared 5 = .ok (.iconst 3, 1) := by decide +kernel
theorem dX11_spared_6 : decode cX11_spared 6 = .ok (.aload_n 0, 1) := by decide +kernel
theorem dX11_spared_7 : decode cX11_spared 7 = .ok (.getfield 35, 3) := by decide +kernel
theorem dX11_spared_10 : decode cX11_spared 10 = .ok (.getfield 133, 3) := by decide +kernel
theorem dX11_spared_13 : decode cX11_spared 13 = .ok (.getfield 142, 3) := by decide +kernel
theorem dX11_spared_16 : decode cX11_spared 16 = .ok (.iload_n 1, 1) := by decide +kernel
theorem dX11_spared_17 : decode cX11_spared 17 = .ok (.iaload, 1) := by decide +kernel
theorem dX11_spared_18 : decode cX11_spared 18 = .ok (.invokestatic 98, 3) := by decide +kernel
theorem dX11_spared_21 : decode cX11_spared 21 = .ok (.imul, 1) := by decide +kernel
theorem dX11_spared_22 : decode cX11_spared 22 = .ok (.aload_n 0, 1) := by decide +kernel
theorem dX11_spared_23 : decode cX11_spared 23 = .ok (.getfield 35, 3) := by decide +kernel
theorem dX11_spared_26 : decode cX11_spared 26 = .ok (.getfield 133, 3) := by decide +kernel
theorem dX11_spared_29 : decode cX11_spared 29 = .ok (.getfield 145, 3) := by decide +kernel
theorem dX11_spared_32 : decode cX11_spared 32 = .ok (.iload_n 1, 1) := by decide +kernel
theorem dX11_spared_33 : decode cX11_spared 33 = .ok (.iaload, 1) := by decide +kernel
theorem dX11_spared_34 : decode cX11_spared 34 = .ok (.isub, 1) := by decide +kernel
theorem dX11_spared_35 : decode cX11_spared 35 = .ok (.ireturn, 1) := by decide +kernel
theorem dX11_seed_0 : decode cX11_seed 0 = .ok (.aload_n 0, 1) := by decide +kernel
theorem dX11_seed_1 : decode cX11_seed 1 = .ok (.getfield 35, 3) := by decide +kernel
theorem dX11_seed_4 : decode cX11_seed 4 = .ok (.getfield 371, 3) := by decide +kernel
theorem dX11_seed_7 : decode cX11_seed 7 = .ok (.istore_n 2, 1) := by decide +kernel
theorem dX11_seed_8 : decode cX11_seed 8 = .ok (.aload_n 0, 1) := by decide +kernel
theorem dX11_seed_9 : decode cX11_seed 9 = .ok (.getfield 35, 3) := by decide +kernel
theorem dX11_seed_12 : decode cX11_seed 12 = .ok (.iload_n 1, 1) := by decide +kernel
theorem dX11_seed_13 : decode cX11_seed 13 = .ok (.putfield 371, 3) := by decide +kernel
theorem dX11_seed_16 : decode cX11_seed 16 = .ok (.iload_n 2, 1) := by decide +kernel
theorem dX11_seed_17 : decode cX11_seed 17 = .ok (.ireturn, 1) := by decide +kernel
theorem dX11_count_0 : decode cX11_count 0 = .ok (.iload_n 1, 1) := by decide +kernel
theorem dX11_count_1 : decode cX11_count 1 = .ok (.tableswitch 147 0 9 #[55, 63, 71, 79, 90, 98, 106, 114, 125, 136], 55) := by decide +kernel
theorem dX11_count_56 : decode cX11_count 56 = .ok (.aload_n 0, 1) := by decide +kernel
theorem dX11_count_57 : decode cX11_count 57 = .ok (.getfield 35, 3) := by decide +kernel
theorem dX11_count_60 : decode cX11_count 60 = .ok (.getfield 374, 3) := by decide +kernel
theorem dX11_count_63 : decode cX11_count 63 = .ok (.ireturn, 1) := by decide +kernel
theorem dX11_count_64 : decode cX11_count 64 = .ok (.aload_n 0, 1) := by decide +kernel
theorem dX11_count_65 : decode cX11_count 65 = .ok (.getfield 35, 3) := by decide +kernel
theorem dX11_count_68 : decode cX11_count 68 = .ok (.getfield 377, 3) := by decide +kernel
theorem dX11_count_71 : decode cX11_count 71 = .ok (.ireturn, 1) := by decide +kernel
theorem dX11_count_72 : decode cX11_count 72 = .ok (.aload_n 0, 1) := by decide +kernel
theorem dX11_count_73 : decode cX11_count 73 = .ok (.getfield 35, 3) := by decide +kernel
theorem dX11_count_76 : decode cX11_count 76 = .ok (.getfield 75, 3) := by decide +kernel
theorem dX11_count_79 : decode cX11_count 79 = .ok (.ireturn, 1) := by decide +kernel
theorem dX11_count_80 : decode cX11_count 80 = .ok (.aload_n 0, 1) := by decide +kernel
theorem dX11_count_81 : decode cX11_count 81 = .ok (.getfield 35, 3) := by decide +kernel
theorem dX11_count_84 : decode cX11_count 84 = .ok (.getfield 133, 3) := by decide +kernel
theorem dX11_count_87 : decode cX11_count 87 = .ok (.getfield 319, 3) := by decide +kernel
theorem dX11_count_90 : decode cX11_count 90 = .ok (.ireturn, 1) := by decide +kernel
theorem dX11_count_91 : decode cX11_count 91 = .ok (.aload_n 0, 1) := by decide +kernel
theorem dX11_count_92 : decode cX11_count 92 = .ok (.getfield 35, 3) := by decide +kernel
theorem dX11_count_95 : decode cX11_count 95 = .ok (.getfield 380, 3) := by decide +kernel
theorem dX11_count_98 : decode cX11_count 98 = .ok (.ireturn, 1) := by decide +kernel
theorem dX11_count_99 : decode cX11_count 99 = .ok (.aload_n 0, 1) := by decide +kernel
theorem dX11_count_100 : decode cX11_count 100 = .ok (.getfield 35, 3) := by decide +kernel
theorem dX11_count_103 : decode cX11_count 103 = .ok (.getfield 383, 3) := by decide +kernel
theorem dX11_count_106 : decode cX11_count 106 = .ok (.ireturn, 1) := by decide +kernel
theorem dX11_count_107 : decode cX11_count 107 = .ok (.aload_n 0, 1) := by decide +kernel
theorem dX11_count_108 : decode cX11_count 108 = .ok (.getfield 35, 3) := by decide +kernel
theorem dX11_count_111 : decode cX11_count 111 = .ok (.getfield 386, 3) := by decide +kernel
theorem dX11_count_114 : decode cX11_count 114 = .ok (.ireturn, 1) := by decide +kernel
theorem dX11_count_115 : decode cX11_count 115 = .ok (.aload_n 0, 1) := by decide +kernel
theorem dX11_count_116 : decode cX11_count 116 = .ok (.getfield 35, 3) := by decide +kernel
theorem dX11_count_119 : decode cX11_count 119 = .ok (.getfield 334, 3) := by decide +kernel
theorem dX11_count_122 : decode cX11_count 122 = .ok (.getfield 338, 3) := by decide +kernel
theorem dX11_count_125 : decode cX11_count 125 = .ok (.ireturn, 1) := by decide +kernel
theorem dX11_count_126 : decode cX11_count 126 = .ok (.aload_n 0, 1) := by decide +kernel
theorem dX11_count_127 : decode cX11_count 127 = .ok (.getfield 35, 3) := by decide +kernel
theorem dX11_count_130 : decode cX11_count 130 = .ok (.getfield 186, 3) := by decide +kernel
theorem dX11_count_133 : decode cX11_count 133 = .ok (.invokevirtual 389, 3) := by decide +kernel
theorem dX11_count_136 : decode cX11_count 136 = .ok (.ireturn, 1) := by decide +kernel
theorem dX11_count_137 : decode cX11_count 137 = .ok (.aload_n 0, 1) := by decide +kernel
theorem dX11_count_138 : decode cX11_count 138 = .ok (.getfield 35, 3) := by decide +kernel
theorem dX11_count_141 : decode cX11_count 141 = .ok (.getfield 359, 3) := by decide +kernel
theorem dX11_count_144 : decode cX11_count 144 = .ok (.getfield 363, 3) := by decide +kernel
theorem dX11_count_147 : decode cX11_count 147 = .ok (.ireturn, 1) := by decide +kernel
theorem dX11_count_148 : decode cX11_count 148 = .ok (.iconst (-1), 1) := by decide +kernel
theorem dX11_count_149 : decode cX11_count 149 = .ok (.ireturn, 1) := by decide +kernel
section S_47_xb
variable {p : Program} {l : Launch} {e : Env} {R : Room} {s : State} {m : MethodId} {args : Array Value} {below : List Frame} {meth : Method} {c : Code} {A : Nat → Prop} {D : va_G} {cI cB cL : ClassId} {ad : Nat → Nat} {ka kv : Nat → Nat} {fv : Value} {tr kt pa pl : Nat}
noncomputable def fX11_line_0 (x1 : Int32) (u : Sg) : Option (Xr × Sg) := obr (fX8_read (sbTO u)) (fun u2 => bnd (ubTO u u2) (fun u3 => obr (fX8_placed x1 (sbTO u3)) (fun r5 => some (.inl r5, u3))))
noncomputable def fX11_line (x1 : Int32) (u : Sg) : Option (Xr × Sg) := fX11_line_0 x1 u
set_option maxRecDepth 10000 in
set_option maxHeartbeats 4000000 in
theorem wX11_line_0 (C : cx D (tyl cI cB cL) A RX11 cX11_line 2 (some .int) p s m args c meth) (Kx : kx ka kv fv A s s.heap) (Xc : ∀ x ∈ c.exceptionTable.toList, False) (hfl : l.stackTraces = false) (hR : 5 ≤ R.frames ∧ 113 ≤ R.locals) {z : Xr × Sg} (hC : R.cells = 0 ∧ R.slots = 6 * 0) (u : Sg) (x1 : Int32) {H : Heap} {locs : List Loc} {ls : Array Slot} (hl : lv_has ls 2 [(0, .ref (ad 36)), (1, .int x1)]) (S : st D (wT cI cB ad tr kt pa pl) A s u H locs) (h : fX11_line_0 x1 u = some z) : W p l e R s m args below meth c H locs 0 0 (vx_MQ below (qXI D (tyl cI cB cL) (wT cI cB ad tr kt pa pl) A z) (xX D (tyl cI cB cL) (wT cI cB ad tr kt pa pl) A z) args s 0 (6 * 0) A) (F0 m 0 ls []) := by
  have hx := C.1
  have hb := C.2.1
  have hsz := hl.1
  unfold fX11_line_0 at h
  refine lv_aload_n hx hb dX11_line_0 rfl (lv_at hl 0 rfl) ?_
  refine q_get (v := .ref (ad 40)) C S (oT36 cI cB ad tr kt pa pl) rfl iwX11 2 (by decide) mw_799 rfl dX11_line_1 ?_
  refine lv_aload_n hx hb dX11_line_4 rfl (lv_at hl 0 rfl) ?_
  refine q_get (v := .ref (ad 0)) C S (oT36 cI cB ad tr kt pa pl) rfl iwX11 4 (by decide) mw_767 rfl dX11_line_5 ?_
  obtain ⟨u2, h1, h⟩ := obr_some h
  obtain ⟨u3, eu3⟩ : ∃ z : Sg, z = ubTO u u2 := ⟨_, rfl⟩
  have h := bnd_of eu3 h
  refine s_callVv (spl_TO cI cB ad tr kt) (As := [.ref (adTO ad 0)]) (na := 1) C S (oO36 cI (adTO ad) pa pl) rfl (ct_X8_read l D cI cB cL (adTO ad) pa pl (sbTO u) h1) mw_801 mw_802 mw_803 mw_647 mw_800 hdX8_read ⟨Nat.le_trans (Nat.le_of_ble_eq_true rfl) hR.1, Nat.le_trans (Nat.le_of_ble_eq_true rfl) hR.2⟩ rfl hsz (capX hC (Nat.le_of_ble_eq_true rfl) (Nat.le_of_ble_eq_true rfl)) (Nat.le_of_ble_eq_true rfl) dX11_line_8 rfl (fun H locs S => ?_)
  rw [← eu3] at S
  refine lv_aload_n hx hb dX11_line_11 rfl (lv_at hl 0 rfl) ?_
  refine q_get (v := .ref (ad 40)) C S (oT36 cI cB ad tr kt pa pl) rfl iwX11 2 (by decide) mw_799 rfl dX11_line_12 ?_
  refine lv_iload_n hx hb dX11_line_15 rfl (lv_at hl 1 rfl) ?_
  obtain ⟨r5, h4, h⟩ := obr_some h
  refine s_callViR (spl_TO cI cB ad tr kt) (As := [.int x1]) (na := 1) C S (oO36 cI (adTO ad) pa pl) rfl (ct_X8_placed l D cI cB cL (adTO ad) pa pl x1 (sbTO u3) h4) mw_806 mw_807 mw_808 mw_647 mw_805 hdX8_placed ⟨Nat.le_trans (Nat.le_of_ble_eq_true rfl) hR.1, Nat.le_trans (Nat.le_of_ble_eq_true rfl) hR.2⟩ rfl hsz (capX hC (Nat.le_of_ble_eq_true rfl) (Nat.le_of_ble_eq_true rfl)) (Nat.le_of_ble_eq_true rfl) dX11_line_16 rfl (fun H locs S => ?_)
  exact x_iret C S h ⟨Nat.le_of_ble_eq_true rfl, Nat.le_of_ble_eq_true rfl⟩ dX11_line_19
set_option maxRecDepth 10000 in
set_option maxHeartbeats 4000000 in
theorem ct_X11_line (l : Launch) (hfl : l.stackTraces = false) (D : va_G) (cI cB cL : ClassId) (ka kv : Nat → Nat) (fv : Value) (ad : Nat → Nat) (tr kt pa pl : Nat) (x1 : Int32) (u : Sg) {z : Xr × Sg} (h : fX11_line x1 u = some z) : metXI l D (tyl cI cB cL) ka kv fv yX11_line cX11_line 2 (some .int) 5 113 0 (wT cI cB ad tr kt pa pl) [.ref (ad 36), .int x1] u z := by
  intro sz
  refine vx_ofW (cc := cX11_line) (maxL := 2) (ret := (some .int)) (by decide) rfl ?_
  intro p e s m args below meth c s₁ B hml Xc hv
  obtain ⟨rfl, C, S, Kx⟩ := q_entryK B hml hv
  have hl := lv_entry ([.ref (ad 36), .int x1]) (n := 2) (Nat.le_of_ble_eq_true rfl)
  rw [lg_entry_eq]
  generalize (lg_sl ([.ref (ad 36), .int x1]) ++ List.replicate (2 - (lg_sl ([.ref (ad 36), .int x1])).length) Slot.unset).toArray = ls at hl ⊢
  exact wX11_line_0 C Kx Xc hfl ⟨Nat.le_refl _, Nat.le_refl _⟩ ⟨rfl, rfl⟩ u x1 (lv_sub hl [0, 1] rfl) S h
noncomputable def fX11_outside_0 (x1 : Int32) (u : Sg) : Option (Xr × Sg) := obx (fX11_needMessage x1 u) (fun u4 => grd (vp_in x1 20) (grd (vp_in x1 20) (bnd ((u4 15 ((x1 : Int32).toNatClampNeg)) ||| ((1 : Int32) <<< (((u4 14 ((x1 : Int32).toNatClampNeg)) &&& 31 : Int32)))) (fun v7 => grd (vp_in x1 20) (some (.inl ((u4 18 ((x1 : Int32).toNatClampNeg)) &&& (v7 ^^^ (-1))), u4))))))
noncomputable def fX11_outside (x1 : Int32) (u : Sg) : Option (Xr × Sg) := fX11_outside_0 x1 u
set_option maxRecDepth 10000 in
set_option maxHeartbeats 4000000 in
theorem wX11_outside_0 (C : cx D (tyl cI cB cL) A RX11 cX11_outside 3 (some .int) p s m args c meth) (Kx : kx ka kv fv A s s.heap) (Xc : ∀ x ∈ c.exceptionTable.toList, False) (hfl : l.stackTraces = false) (hR : 7 ≤ R.frames ∧ 111 ≤ R.locals) {z : Xr × Sg} (hC : R.cells = 1 ∧ R.slots = 6 * 1) (u : Sg) (x1 : Int32) {H : Heap} {locs : List Loc} {ls : Array Slot} (hl : lv_has ls 3 [(0, .ref (ad 36)), (1, .int x1)]) (S : st D (wT cI cB ad tr kt pa pl) A s u H locs) (h : fX11_outside_0 x1 u = some z) : W p l e R s m args below meth c H locs 0 0 (vx_MQ below (qXI D (tyl cI cB cL) (wT cI cB ad tr kt pa pl) A z) (xX D (tyl cI cB cL) (wT cI cB ad tr kt pa pl) A z) args s 1 (6 * 1) A) (F0 m 0 ls []) := by
  have hx := C.1
  have hb := C.2.1
  have hsz := hl.1
  unfold fX11_outside_0 at h
  refine lv_aload_n hx hb dX11_outside_0 rfl (lv_at hl 0 rfl) ?_
  refine lv_iload_n hx hb dX11_outside_1 rfl (lv_at hl 1 rfl) ?_
  obtain ⟨z1, h2, h3⟩ := obx_some h
  refine x_callVv (As := [.int x1]) (na := 1) C Kx Xc S (oT36 cI cB ad tr kt pa pl) rfl (ct_X11_needMessage l hfl D cI cB cL ka kv fv ad tr kt pa pl x1 u h2) h3 mw_791 mw_792 mw_793 mw_321 mw_790 hdX11_needMessage ⟨Nat.le_trans (Nat.le_of_ble_eq_true rfl) hR.1, Nat.le_trans (Nat.le_of_ble_eq_true rfl) hR.2⟩ rfl hsz (capX hC (Nat.le_of_ble_eq_true rfl) (Nat.le_of_ble_eq_true rfl)) ⟨Nat.le_of_ble_eq_true rfl, Nat.le_of_ble_eq_true rfl⟩ (Nat.le_of_ble_eq_true rfl) dX11_outside_2 rfl (fun u4 H locs h S => ?_)
  refine lv_aload_n hx hb dX11_outside_5 rfl (lv_at hl 0 rfl) ?_
  refine q_get (v := .ref (ad 0)) C S (oT36 cI cB ad tr kt pa pl) rfl iwX11 4 (by decide) mw_767 rfl dX11_outside_6 ?_
  refine q_get (v := .ref (ad 13)) C S (oT0 cI cB ad tr kt pa pl) rfl iwX7 14 (by decide) mw_775 rfl dX11_outside_9 ?_
  refine q_get (v := .ref (ad 15)) C S (oT13 cI cB ad tr kt pa pl) rfl iwX6 2 (by decide) mw_809 rfl dX11_outside_12 ?_
  refine lv_iload_n hx hb dX11_outside_15 rfl (lv_at hl 1 rfl) ?_
  obtain ⟨g5, h⟩ := grd_some h
  refine q_iald C S (aT15 cI cB ad tr kt pa pl) 0 rfl g5 dX11_outside_16 (j := (x1 : Int32).toNatClampNeg) rfl ?_
  refine lv_iconst (v := 1) hx hb dX11_outside_17 (by decide) ?_
  refine lv_aload_n hx hb dX11_outside_18 rfl (lv_at hl 0 rfl) ?_
  refine q_get (v := .ref (ad 0)) C S (oT36 cI cB ad tr kt pa pl) rfl iwX11 4 (by decide) mw_767 rfl dX11_outside_19 ?_
  refine q_get (v := .ref (ad 13)) C S (oT0 cI cB ad tr kt pa pl) rfl iwX7 14 (by decide) mw_775 rfl dX11_outside_22 ?_
  refine q_get (v := .ref (ad 14)) C S (oT13 cI cB ad tr kt pa pl) rfl iwX6 1 (by decide) mw_810 rfl dX11_outside_25 ?_
  refine lv_iload_n hx hb dX11_outside_28 rfl (lv_at hl 1 rfl) ?_
  obtain ⟨g6, h⟩ := grd_some h
  refine q_iald C S (aT14 cI cB ad tr kt pa pl) 0 rfl g6 dX11_outside_29 (j := (x1 : Int32).toNatClampNeg) rfl ?_
  refine lv_ishl hx hb dX11_outside_30 ?_
  refine lv_ior hx hb dX11_outside_31 ?_
  refine lv_topi (fun v7 ev7 => ?_)
  have h := bnd_of ev7 h
  refine lv_istore_n (lv' := [(2, .int v7), (0, .ref (ad 36)), (1, .int x1)]) hx hb dX11_outside_32 rfl hl (by decide) rfl (fun ls hl => ?_)
  have hsz := hl.1
  refine lv_aload_n hx hb dX11_outside_33 rfl (lv_at hl 1 rfl) ?_
  refine q_get (v := .ref (ad 0)) C S (oT36 cI cB ad tr kt pa pl) rfl iwX11 4 (by decide) mw_767 rfl dX11_outside_34 ?_
  refine q_get (v := .ref (ad 13)) C S (oT0 cI cB ad tr kt pa pl) rfl iwX7 14 (by decide) mw_775 rfl dX11_outside_37 ?_
  refine q_get (v := .ref (ad 18)) C S (oT13 cI cB ad tr kt pa pl) rfl iwX6 5 (by decide) mw_811 rfl dX11_outside_40 ?_
  refine lv_iload_n hx hb dX11_outside_43 rfl (lv_at hl 2 rfl) ?_
  obtain ⟨g8, h⟩ := grd_some h
  refine q_iald C S (aT18 cI cB ad tr kt pa pl) 0 rfl g8 dX11_outside_44 (j := (x1 : Int32).toNatClampNeg) rfl ?_
  refine lv_iload_n hx hb dX11_outside_45 rfl (lv_at hl 0 rfl) ?_
  refine lv_iconst (v := (-1)) hx hb dX11_outside_46 (by decide) ?_
  refine lv_ixor hx hb dX11_outside_47 ?_
  refine lv_iand hx hb dX11_outside_48 ?_
  exact x_iret C S h ⟨Nat.le_of_ble_eq_true rfl, Nat.le_of_ble_eq_true rfl⟩ dX11_outside_49
set_option maxRecDepth 10000 in
set_option maxHeartbeats 4000000 in
theorem ct_X11_outside (l : Launch) (hfl : l.stackTraces = false) (D : va_G) (cI cB cL : ClassId) (ka kv : Nat → Nat) (fv : Value) (ad : Nat → Nat) (tr kt pa pl : Nat) (x1 : Int32) (u : Sg) {z : Xr × Sg} (h : fX11_outside x1 u = some z) : metXI l D (tyl cI cB cL) ka kv fv yX11_outside cX11_outside 3 (some .int) 7 111 1 (wT cI cB ad tr kt pa pl) [.ref (ad 36), .int x1] u z := by
  intro sz
  refine vx_ofW (cc := cX11_outside) (maxL := 3) (ret := (some .int)) (by decide) rfl ?_
  intro p e s m args below meth c s₁ B hml Xc hv
  obtain ⟨rfl, C, S, Kx⟩ := q_entryK B hml hv
  have hl := lv_entry ([.ref (ad 36), .int x1]) (n := 3) (Nat.le_of_ble_eq_true rfl)
  rw [lg_entry_eq]
  generalize (lg_sl ([.ref (ad 36), .int x1]) ++ List.replicate (3 - (lg_sl ([.ref (ad 36), .int x1])).length) Slot.unset).toArray = ls at hl ⊢
  exact wX11_outside_0 C Kx Xc hfl ⟨Nat.le_refl _, Nat.le_refl _⟩ ⟨rfl, rfl⟩ u x1 (lv_sub hl [0, 1] rfl) S h
noncomputable def fX11_parted_0 (x1 : Int32) (x2 : Int32) (u : Sg) : Option (Xr × Sg) := obx (fX11_needNode x1 u) (fun u4 => obx (fX11_needNode x2 u4) (fun u8 => obx (fX11_needTwo x1 x2 u8) (fun u12 => obr (fX0_partedPairs x1 x2 (sbTN u12)) (fun r14 => some (.inl r14, u12)))))
noncomputable def fX11_parted (x1 : Int32) (x2 : Int32) (u : Sg) : Option (Xr × Sg) := fX11_parted_0 x1 x2 u
set_option maxRecDepth 10000 in
set_option maxHeartbeats 4000000 in
theorem wX11_parted_0 (C : cx D (tyl cI cB cL) A RX11 cX11_parted 3 (some .int) p s m args c meth) (Kx : kx ka kv fv A s s.heap) (Xc : ∀ x ∈ c.exceptionTable.toList, False) (hfl : l.stackTraces = false) (hR : 7 ≤ R.frames ∧ 111 ≤ R.locals) {z : Xr × Sg} (hC : R.cells = 3 ∧ R.slots = 6 * 3) (u : Sg) (x1 : Int32) (x2 : Int32) {H : Heap} {locs : List Loc} {ls : Array Slot} (hl : lv_has ls 3 [(0, .ref (ad 36)), (1, .int x1), (2, .int x2)]) (S : st D (wT cI cB ad tr kt pa pl) A s u H locs) (h : fX11_parted_0 x1 x2 u = some z) : W p l e R s m args below meth c H locs 0 0 (vx_MQ below (qXI D (tyl cI cB cL) (wT cI cB ad tr kt pa pl) A z) (xX D (tyl cI cB cL) (wT cI cB ad tr kt pa pl) A z) args s 3 (6 * 3) A) (F0 m 0 ls []) := by
  have hx := C.1
  have hb := C.2.1
  have hsz := hl.1
  unfold fX11_parted_0 at h
  refine lv_aload_n hx hb dX11_parted_0 rfl (lv_at hl 0 rfl) ?_
  refine lv_iload_n hx hb dX11_parted_1 rfl (lv_at hl 1 rfl) ?_
  obtain ⟨z1, h2, h3⟩ := obx_some h
  refine x_callVv (As := [.int x1]) (na := 1) C Kx Xc S (oT36 cI cB ad tr kt pa pl) rfl (ct_X11_needNode l hfl D cI cB cL ka kv fv ad tr kt pa pl x1 u h2) h3 mw_778 mw_779 mw_780 mw_321 mw_777 hdX11_needNode ⟨Nat.le_trans (Nat.le_of_ble_eq_true rfl) hR.1, Nat.le_trans (Nat.le_of_ble_eq_true rfl) hR.2⟩ rfl hsz (capX hC (Nat.le_of_ble_eq_true rfl) (Nat.le_of_ble_eq_true rfl)) ⟨Nat.le_of_ble_eq_true rfl, Nat.le_of_ble_eq_true rfl⟩ (Nat.le_of_ble_eq_true rfl) dX11_parted_2 rfl (fun u4 H locs h S => ?_)
  refine lv_aload_n hx hb dX11_parted_5 rfl (lv_at hl 0 rfl) ?_
  refine lv_iload_n hx hb dX11_parted_6 rfl (lv_at hl 2 rfl) ?_
  obtain ⟨z5, h6, h7⟩ := obx_some h
  refine x_callVv (As := [.int x2]) (na := 1) C Kx Xc S (oT36 cI cB ad tr kt pa pl) rfl (ct_X11_needNode l hfl D cI cB cL ka kv fv ad tr kt pa pl x2 u4 h6) h7 mw_778 mw_779 mw_780 mw_321 mw_777 hdX11_needNode ⟨Nat.le_trans (Nat.le_of_ble_eq_true rfl) hR.1, Nat.le_trans (Nat.le_of_ble_eq_true rfl) hR.2⟩ rfl hsz (capX hC (Nat.le_of_ble_eq_true rfl) (Nat.le_of_ble_eq_true rfl)) ⟨Nat.le_of_ble_eq_true rfl, Nat.le_of_ble_eq_true rfl⟩ (Nat.le_of_ble_eq_true rfl) dX11_parted_7 rfl (fun u8 H locs h S => ?_)
  refine lv_iload_n hx hb dX11_parted_10 rfl (lv_at hl 1 rfl) ?_
  refine lv_iload_n hx hb dX11_parted_11 rfl (lv_at hl 2 rfl) ?_
  obtain ⟨z9, h10, h11⟩ := obx_some h
  refine x_callSv (As := [.int x1, .int x2]) (na := 2) C Kx Xc S (ct_X11_needTwo l hfl D cI cB cL ka kv fv ad tr kt pa pl x1 x2 u8 h10) h11 mw_797 mw_798 mw_321 mw_796 hdX11_needTwo ⟨Nat.le_trans (Nat.le_of_ble_eq_true rfl) hR.1, Nat.le_trans (Nat.le_of_ble_eq_true rfl) hR.2⟩ rfl hsz (capX hC (Nat.le_of_ble_eq_true rfl) (Nat.le_of_ble_eq_true rfl)) ⟨Nat.le_of_ble_eq_true rfl, Nat.le_of_ble_eq_true rfl⟩ (Nat.le_of_ble_eq_true rfl) dX11_parted_12 rfl (fun u12 H locs h S => ?_)
  refine lv_aload_n hx hb dX11_parted_15 rfl (lv_at hl 0 rfl) ?_
  refine q_get (v := .ref (ad 0)) C S (oT36 cI cB ad tr kt pa pl) rfl iwX11 4 (by decide) mw_767 rfl dX11_parted_16 ?_
  refine lv_iload_n hx hb dX11_parted_19 rfl (lv_at hl 1 rfl) ?_
  refine lv_iload_n hx hb dX11_parted_20 rfl (lv_at hl 2 rfl) ?_
  obtain ⟨r14, h13, h⟩ := obr_some h
  refine s_callSiR (spl_TN cI cB ad tr kt) (As := [.ref (adTN ad 0), .int x1, .int x2]) (na := 3) C S (ct_X0_partedPairs l D cI cB cL (adTN ad) pa pl x1 x2 (sbTN u12) h13) mw_813 mw_814 mw_362 mw_812 hdX0_partedPairs ⟨Nat.le_trans (Nat.le_of_ble_eq_true rfl) hR.1, Nat.le_trans (Nat.le_of_ble_eq_true rfl) hR.2⟩ rfl hsz (capX hC (Nat.le_of_ble_eq_true rfl) (Nat.le_of_ble_eq_true rfl)) (Nat.le_of_ble_eq_true rfl) dX11_parted_21 rfl (fun H locs S => ?_)
  exact x_iret C S h ⟨Nat.le_of_ble_eq_true rfl, Nat.le_of_ble_eq_true rfl⟩ dX11_parted_24
set_option maxRecDepth 10000 in
set_option maxHeartbeats 4000000 in
theorem ct_X11_parted (l : Launch) (hfl : l.stackTraces = false) (D : va_G) (cI cB cL : ClassId) (ka kv : Nat → Nat) (fv : Value) (ad : Nat → Nat) (tr kt pa pl : Nat) (x1 : Int32) (x2 : Int32) (u : Sg) {z : Xr × Sg} (h : fX11_parted x1 x2 u = some z) : metXI l D (tyl cI cB cL) ka kv fv yX11_parted cX11_parted 3 (some .int) 7 111 3 (wT cI cB ad tr kt pa pl) [.ref (ad 36), .int x1, .int x2] u z := by
  intro sz
  refine vx_ofW (cc := cX11_parted) (maxL := 3) (ret := (some .int)) (by decide) rfl ?_
  intro p e s m args below meth c s₁ B hml Xc hv
  obtain ⟨rfl, C, S, Kx⟩ := q_entryK B hml hv
  have hl := lv_entry ([.ref (ad 36), .int x1, .int x2]) (n := 3) (Nat.le_of_ble_eq_true rfl)
  rw [lg_entry_eq]
  generalize (lg_sl ([.ref (ad 36), .int x1, .int x2]) ++ List.replicate (3 - (lg_sl ([.ref (ad 36), .int x1, .int x2])).length) Slot.unset).toArray = ls at hl ⊢
  exact wX11_parted_0 C Kx Xc hfl ⟨Nat.le_refl _, Nat.le_refl _⟩ ⟨rfl, rfl⟩ u x1 x2 (lv_sub hl [0, 1, 2] rfl) S h
noncomputable def fX11_when_0 (x1 : Int32) (x2 : Int32) (u : Sg) : Option (Xr × Sg) := obx (fX11_needNode x1 u) (fun u4 => obx (fX11_needMessage x2 u4) (fun u8 => bnd (fX11_spotOf x1 x2) (fun v9 => grd (vp_in v9 120) (cnd ((u8 20 ((v9 : Int32).toNatClampNeg)) = 3) (grd (vp_in v9 120) (some (.inl (u8 23 ((v9 : Int32).toNatClampNeg)), u8))) (some (.inl (-1), u8))))))
noncomputable def fX11_when (x1 : Int32) (x2 : Int32) (u : Sg) : Option (Xr × Sg) := fX11_when_0 x1 x2 u
set_option maxRecDepth 10000 in
set_option maxHeartbeats 4000000 in
theorem wX11_when_0 (C : cx D (tyl cI cB cL) A RX11 cX11_when 4 (some .int) p s m args c meth) (Kx : kx ka kv fv A s s.heap) (Xc : ∀ x ∈ c.exceptionTable.toList, False) (hfl : l.stackTraces = false) (hR : 7 ≤ R.frames ∧ 111 ≤ R.locals) {z : Xr × Sg} (hC : R.cells = 2 ∧ R.slots = 6 * 2) (u : Sg) (x1 : Int32) (x2 : Int32) {H : Heap} {locs : List Loc} {ls : Array Slot} (hl : lv_has ls 4 [(0, .ref (ad 36)), (1, .int x1), (2, .int x2)]) (S : st D (wT cI cB ad tr kt pa pl) A s u H locs) (h : fX11_when_0 x1 x2 u = some z) : W p l e R s m args below meth c H locs 0 0 (vx_MQ below (qXI D (tyl cI cB cL) (wT cI cB ad tr kt pa pl) A z) (xX D (tyl cI cB cL) (wT cI cB ad tr kt pa pl) A z) args s 2 (6 * 2) A) (F0 m 0 ls []) := by
  have hx := C.1
  have hb := C.2.1
  have hsz := hl.1
  unfold fX11_when_0 at h
  refine lv_aload_n hx hb dX11_when_0 rfl (lv_at hl 0 rfl) ?_
  refine lv_iload_n hx hb dX11_when_1 rfl (lv_at hl 1 rfl) ?_
  obtain ⟨z1, h2, h3⟩ := obx_some h
  refine x_callVv (As := [.int x1]) (na := 1) C Kx Xc S (oT36 cI cB ad tr kt pa pl) rfl (ct_X11_needNode l hfl D cI cB cL ka kv fv ad tr kt pa pl x1 u h2) h3 mw_778 mw_779 mw_780 mw_321 mw_777 hdX11_needNode ⟨Nat.le_trans (Nat.le_of_ble_eq_true rfl) hR.1, Nat.le_trans (Nat.le_of_ble_eq_true rfl) hR.2⟩ rfl hsz (capX hC (Nat.le_of_ble_eq_true rfl) (Nat.le_of_ble_eq_true rfl)) ⟨Nat.le_of_ble_eq_true rfl, Nat.le_of_ble_eq_true rfl⟩ (Nat.le_of_ble_eq_true rfl) dX11_when_2 rfl (fun u4 H locs h S => ?_)
  refine lv_aload_n hx hb dX11_when_5 rfl (lv_at hl 0 rfl) ?_
  refine lv_iload_n hx hb dX11_when_6 rfl (lv_at hl 2 rfl) ?_
  obtain ⟨z5, h6, h7⟩ := obx_some h
  refine x_callVv (As := [.int x2]) (na := 1) C Kx Xc S (oT36 cI cB ad tr kt pa pl) rfl (ct_X11_needMessage l hfl D cI cB cL ka kv fv ad tr kt pa pl x2 u4 h6) h7 mw_791 mw_792 mw_793 mw_321 mw_790 hdX11_needMessage ⟨Nat.le_trans (Nat.le_of_ble_eq_true rfl) hR.1, Nat.le_trans (Nat.le_of_ble_eq_true rfl) hR.2⟩ rfl hsz (capX hC (Nat.le_of_ble_eq_true rfl) (Nat.le_of_ble_eq_true rfl)) ⟨Nat.le_of_ble_eq_true rfl, Nat.le_of_ble_eq_true rfl⟩ (Nat.le_of_ble_eq_true rfl) dX11_when_7 rfl (fun u8 H locs h S => ?_)
  refine lv_iload_n hx hb dX11_when_10 rfl (lv_at hl 1 rfl) ?_
  refine lv_iload_n hx hb dX11_when_11 rfl (lv_at hl 2 rfl) ?_
  refine q_callP (As := [.int x1, .int x2]) (na := 2) C S (ct_X11_spotOf l D cI cB cL x1 x2) mw_784 mw_322 mw_321 mw_320 hdX11_spotOf ⟨Nat.le_trans (Nat.le_of_ble_eq_true rfl) hR.1, Nat.le_trans (Nat.le_of_ble_eq_true rfl) hR.2⟩ rfl hsz (capX hC (Nat.le_of_ble_eq_true rfl) (Nat.le_of_ble_eq_true rfl)) (Nat.le_of_ble_eq_true rfl) dX11_when_12 rfl (fun H locs S => ?_)
  refine lv_topi (fun v9 ev9 => ?_)
  have h := bnd_of ev9 h
  refine lv_istore_n (lv' := [(3, .int v9), (0, .ref (ad 36)), (1, .int x1), (2, .int x2)]) hx hb dX11_when_15 rfl hl (by decide) rfl (fun ls hl => ?_)
  have hsz := hl.1
  refine lv_aload_n hx hb dX11_when_16 rfl (lv_at hl 1 rfl) ?_
  refine q_get (v := .ref (ad 0)) C S (oT36 cI cB ad tr kt pa pl) rfl iwX11 4 (by decide) mw_767 rfl dX11_when_17 ?_
  refine q_get (v := .ref (ad 19)) C S (oT0 cI cB ad tr kt pa pl) rfl iwX7 15 (by decide) mw_781 rfl dX11_when_20 ?_
  refine q_get (v := .ref (ad 20)) C S (oT19 cI cB ad tr kt pa pl) rfl iwX4 0 (by decide) mw_815 rfl dX11_when_23 ?_
  refine lv_iload_n hx hb dX11_when_26 rfl (lv_at hl 0 rfl) ?_
  obtain ⟨g10, h⟩ := grd_some h
  refine q_iald C S (aT20 cI cB ad tr kt pa pl) 0 rfl g10 dX11_when_27 (j := (v9 : Int32).toNatClampNeg) rfl ?_
  refine lv_iconst (v := 3) hx hb dX11_when_28 (by decide) ?_
  refine lv_icmp_ne (tgt := 47) hx hb dX11_when_29 (by decide) (fun c11 => ?_) (fun c11 => ?_)
  · have h := cnd_f c11 h
    refine lv_iconst (v := (-1)) hx hb dX11_when_47 (by decide) ?_
    exact x_iret C S h ⟨Nat.le_of_ble_eq_true rfl, Nat.le_of_ble_eq_true rfl⟩ dX11_when_48
  · have h := cnd_t c11 h
    refine lv_aload_n hx hb dX11_when_32 rfl (lv_at hl 1 rfl) ?_
    refine q_get (v := .ref (ad 0)) C S (oT36 cI cB ad tr kt pa pl) rfl iwX11 4 (by decide) mw_767 rfl dX11_when_33 ?_
    refine q_get (v := .ref (ad 19)) C S (oT0 cI cB ad tr kt pa pl) rfl iwX7 15 (by decide) mw_781 rfl dX11_when_36 ?_
    refine q_get (v := .ref (ad 23)) C S (oT19 cI cB ad tr kt pa pl) rfl iwX4 3 (by decide) mw_816 rfl dX11_when_39 ?_
    refine lv_iload_n hx hb dX11_when_42 rfl (lv_at hl 0 rfl) ?_
    obtain ⟨g12, h⟩ := grd_some h
    refine q_iald C S (aT23 cI cB ad tr kt pa pl) 0 rfl g12 dX11_when_43 (j := (v9 : Int32).toNatClampNeg) rfl ?_
    refine lv_goto (tgt := 48) hx hb dX11_when_44 (by decide) ?_
    exact x_iret C S h ⟨Nat.le_of_ble_eq_true rfl, Nat.le_of_ble_eq_true rfl⟩ dX11_when_48
set_option maxRecDepth 10000 in
set_option maxHeartbeats 4000000 in
theorem ct_X11_when (l : Launch) (hfl : l.stackTraces = false) (D : va_G) (cI cB cL : ClassId) (ka kv : Nat → Nat) (fv : Value) (ad : Nat → Nat) (tr kt pa pl : Nat) (x1 : Int32) (x2 : Int32) (u : Sg) {z : Xr × Sg} (h : fX11_when x1 x2 u = some z) : metXI l D (tyl cI cB cL) ka kv fv yX11_when cX11_when 4 (some .int) 7 111 2 (wT cI cB ad tr kt pa pl) [.ref (ad 36), .int x1, .int x2] u z := by
  intro sz
  refine vx_ofW (cc := cX11_when) (maxL := 4) (ret := (some .int)) (by decide) rfl ?_
  intro p e s m args below meth c s₁ B hml Xc hv
  obtain ⟨rfl, C, S, Kx⟩ := q_entryK B hml hv
  have hl := lv_entry ([.ref (ad 36), .int x1, .int x2]) (n := 4) (Nat.le_of_ble_eq_true rfl)
  rw [lg_entry_eq]
  generalize (lg_sl ([.ref (ad 36), .int x1, .int x2]) ++ List.replicate (4 - (lg_sl ([.ref (ad 36), .int x1, .int x2])).length) Slot.unset).toArray = ls at hl ⊢
  exact wX11_when_0 C Kx Xc hfl ⟨Nat.le_refl _, Nat.le_refl _⟩ ⟨rfl, rfl⟩ u x1 x2 (lv_sub hl [0, 1, 2] rfl) S h
noncomputable def fX11_chain_0 (x1 : Int32) (x2 : Int32) (x3 : Int32) (u : Sg) : Option (Xr × Sg) := obx (fX11_needNode x1 u) (fun u4 => obx (fX11_needMessage x2 u4) (fun u8 => obr (fX0_chainAt x1 x2 x3 (sbTN u8)) (fun r10 => some (.inl r10, u8))))
noncomputable def fX11_chain (x1 : Int32) (x2 : Int32) (x3 : Int32) (u : Sg) : Option (Xr × Sg) := fX11_chain_0 x1 x2 x3 u
set_option maxRecDepth 10000 in
set_option maxHeartbeats 4000000 in
theorem wX11_chain_0 (C : cx D (tyl cI cB cL) A RX11 cX11_chain 4 (some .int) p s m args c meth) (Kx : kx ka kv fv A s s.heap) (Xc : ∀ x ∈ c.exceptionTable.toList, False) (hfl : l.stackTraces = false) (hR : 7 ≤ R.frames ∧ 116 ≤ R.locals) {z : Xr × Sg} (hC : R.cells = 2 ∧ R.slots = 6 * 2) (u : Sg) (x1 : Int32) (x2 : Int32) (x3 : Int32) {H : Heap} {locs : List Loc} {ls : Array Slot} (hl : lv_has ls 4 [(0, .ref (ad 36)), (1, .int x1), (2, .int x2), (3, .int x3)]) (S : st D (wT cI cB ad tr kt pa pl) A s u H locs) (h : fX11_chain_0 x1 x2 x3 u = some z) : W p l e R s m args below meth c H locs 0 0 (vx_MQ below (qXI D (tyl cI cB cL) (wT cI cB ad tr kt pa pl) A z) (xX D (tyl cI cB cL) (wT cI cB ad tr kt pa pl) A z) args s 2 (6 * 2) A) (F0 m 0 ls []) := by
  have hx := C.1
  have hb := C.2.1
  have hsz := hl.1
  unfold fX11_chain_0 at h
  refine lv_aload_n hx hb dX11_chain_0 rfl (lv_at hl 0 rfl) ?_
  refine lv_iload_n hx hb dX11_chain_1 rfl (lv_at hl 1 rfl) ?_
  obtain ⟨z1, h2, h3⟩ := obx_some h
  refine x_callVv (As := [.int x1]) (na := 1) C Kx Xc S (oT36 cI cB ad tr kt pa pl) rfl (ct_X11_needNode l hfl D cI cB cL ka kv fv ad tr kt pa pl x1 u h2) h3 mw_778 mw_779 mw_780 mw_321 mw_777 hdX11_needNode ⟨Nat.le_trans (Nat.le_of_ble_eq_true rfl) hR.1, Nat.le_trans (Nat.le_of_ble_eq_true rfl) hR.2⟩ rfl hsz (capX hC (Nat.le_of_ble_eq_true rfl) (Nat.le_of_ble_eq_true rfl)) ⟨Nat.le_of_ble_eq_true rfl, Nat.le_of_ble_eq_true rfl⟩ (Nat.le_of_ble_eq_true rfl) dX11_chain_2 rfl (fun u4 H locs h S => ?_)
  refine lv_aload_n hx hb dX11_chain_5 rfl (lv_at hl 0 rfl) ?_
  refine lv_iload_n hx hb dX11_chain_6 rfl (lv_at hl 2 rfl) ?_
  obtain ⟨z5, h6, h7⟩ := obx_some h
  refine x_callVv (As := [.int x2]) (na := 1) C Kx Xc S (oT36 cI cB ad tr kt pa pl) rfl (ct_X11_needMessage l hfl D cI cB cL ka kv fv ad tr kt pa pl x2 u4 h6) h7 mw_791 mw_792 mw_793 mw_321 mw_790 hdX11_needMessage ⟨Nat.le_trans (Nat.le_of_ble_eq_true rfl) hR.1, Nat.le_trans (Nat.le_of_ble_eq_true rfl) hR.2⟩ rfl hsz (capX hC (Nat.le_of_ble_eq_true rfl) (Nat.le_of_ble_eq_true rfl)) ⟨Nat.le_of_ble_eq_true rfl, Nat.le_of_ble_eq_true rfl⟩ (Nat.le_of_ble_eq_true rfl) dX11_chain_7 rfl (fun u8 H locs h S => ?_)
  refine lv_aload_n hx hb dX11_chain_10 rfl (lv_at hl 0 rfl) ?_
  refine q_get (v := .ref (ad 0)) C S (oT36 cI cB ad tr kt pa pl) rfl iwX11 4 (by decide) mw_767 rfl dX11_chain_11 ?_
  refine lv_iload_n hx hb dX11_chain_14 rfl (lv_at hl 1 rfl) ?_
  refine lv_iload_n hx hb dX11_chain_15 rfl (lv_at hl 2 rfl) ?_
  refine lv_iload_n hx hb dX11_chain_16 rfl (lv_at hl 3 rfl) ?_
  obtain ⟨r10, h9, h⟩ := obr_some h
  refine s_callSiR (spl_TN cI cB ad tr kt) (As := [.ref (adTN ad 0), .int x1, .int x2, .int x3]) (na := 4) C S (ct_X0_chainAt l D cI cB cL (adTN ad) pa pl x1 x2 x3 (sbTN u8) h9) mw_818 mw_819 mw_362 mw_817 hdX0_chainAt ⟨Nat.le_trans (Nat.le_of_ble_eq_true rfl) hR.1, Nat.le_trans (Nat.le_of_ble_eq_true rfl) hR.2⟩ rfl hsz (capX hC (Nat.le_of_ble_eq_true rfl) (Nat.le_of_ble_eq_true rfl)) (Nat.le_of_ble_eq_true rfl) dX11_chain_17 rfl (fun H locs S => ?_)
  exact x_iret C S h ⟨Nat.le_of_ble_eq_true rfl, Nat.le_of_ble_eq_true rfl⟩ dX11_chain_20
set_option maxRecDepth 10000 in
set_option maxHeartbeats 4000000 in
theorem ct_X11_chain (l : Launch) (hfl : l.stackTraces = false) (D : va_G) (cI cB cL : ClassId) (ka kv : Nat → Nat) (fv : Value) (ad : Nat → Nat) (tr kt pa pl : Nat) (x1 : Int32) (x2 : Int32) (x3 : Int32) (u : Sg) {z : Xr × Sg} (h : fX11_chain x1 x2 x3 u = some z) : metXI l D (tyl cI cB cL) ka kv fv yX11_chain cX11_chain 4 (some .int) 7 116 2 (wT cI cB ad tr kt pa pl) [.ref (ad 36), .int x1, .int x2, .int x3] u z := by
  intro sz
  refine vx_ofW (cc := cX11_chain) (maxL := 4) (ret := (some .int)) (by decide) rfl ?_
  intro p e s m args below meth c s₁ B hml Xc hv
  obtain ⟨rfl, C, S, Kx⟩ := q_entryK B hml hv
  have hl := lv_entry ([.ref (ad 36), .int x1, .int x2, .int x3]) (n := 4) (Nat.le_of_ble_eq_true rfl)
  rw [lg_entry_eq]
  generalize (lg_sl ([.ref (ad 36), .int x1, .int x2, .int x3]) ++ List.replicate (4 - (lg_sl ([.ref (ad 36), .int x1, .int x2, .int x3])).length) Slot.unset).toArray = ls at hl ⊢
  exact wX11_chain_0 C Kx Xc hfl ⟨Nat.le_refl _, Nat.le_refl _⟩ ⟨rfl, rfl⟩ u x1 x2 x3 (lv_sub hl [0, 1, 2, 3] rfl) S h
noncomputable def fX11_late_0 (x1 : Int32) (u : Sg) : Option (Xr × Sg) := obx (fX11_needMessage x1 u) (fun u4 => obr (fX0_lateOf x1 (sbTN u4)) (fun r6 => some (.inl r6, u4)))
noncomputable def fX11_late (x1 : Int32) (u : Sg) : Option (Xr × Sg) := fX11_late_0 x1 u
set_option maxRecDepth 10000 in
set_option maxHeartbeats 4000000 in
theorem wX11_late_0 (C : cx D (tyl cI cB cL) A RX11 cX11_late 2 (some .int) p s m args c meth) (Kx : kx ka kv fv A s s.heap) (Xc : ∀ x ∈ c.exceptionTable.toList, False) (hfl : l.stackTraces = false) (hR : 7 ≤ R.frames ∧ 111 ≤ R.locals) {z : Xr × Sg} (hC : R.cells = 1 ∧ R.slots = 6 * 1) (u : Sg) (x1 : Int32) {H : Heap} {locs : List Loc} {ls : Array Slot} (hl : lv_has ls 2 [(0, .ref (ad 36)), (1, .int x1)]) (S : st D (wT cI cB ad tr kt pa pl) A s u H locs) (h : fX11_late_0 x1 u = some z) : W p l e R s m args below meth c H locs 0 0 (vx_MQ below (qXI D (tyl cI cB cL) (wT cI cB ad tr kt pa pl) A z) (xX D (tyl cI cB cL) (wT cI cB ad tr kt pa pl) A z) args s 1 (6 * 1) A) (F0 m 0 ls []) := by
  have hx := C.1
  have hb := C.2.1
  have hsz := hl.1
  unfold fX11_late_0 at h
  refine lv_aload_n hx hb dX11_late_0 rfl (lv_at hl 0 rfl) ?_
  refine lv_iload_n hx hb dX11_late_1 rfl (lv_at hl 1 rfl) ?_
  obtain ⟨z1, h2, h3⟩ := obx_some h
  refine x_callVv (As := [.int x1]) (na := 1) C Kx Xc S (oT36 cI cB ad tr kt pa pl) rfl (ct_X11_needMessage l hfl D cI cB cL ka kv fv ad tr kt pa pl x1 u h2) h3 mw_791 mw_792 mw_793 mw_321 mw_790 hdX11_needMessage ⟨Nat.le_trans (Nat.le_of_ble_eq_true rfl) hR.1, Nat.le_trans (Nat.le_of_ble_eq_true rfl) hR.2⟩ rfl hsz (capX hC (Nat.le_of_ble_eq_true rfl) (Nat.le_of_ble_eq_true rfl)) ⟨Nat.le_of_ble_eq_true rfl, Nat.le_of_ble_eq_true rfl⟩ (Nat.le_of_ble_eq_true rfl) dX11_late_2 rfl (fun u4 H locs h S => ?_)
  refine lv_aload_n hx hb dX11_late_5 rfl (lv_at hl 0 rfl) ?_
  refine q_get (v := .ref (ad 0)) C S (oT36 cI cB ad tr kt pa pl) rfl iwX11 4 (by decide) mw_767 rfl dX11_late_6 ?_
  refine lv_iload_n hx hb dX11_late_9 rfl (lv_at hl 1 rfl) ?_
  obtain ⟨r6, h5, h⟩ := obr_some h
  refine s_callSiR (spl_TN cI cB ad tr kt) (As := [.ref (adTN ad 0), .int x1]) (na := 2) C S (ct_X0_lateOf l D cI cB cL (adTN ad) pa pl x1 (sbTN u4) h5) mw_821 mw_822 mw_362 mw_820 hdX0_lateOf ⟨Nat.le_trans (Nat.le_of_ble_eq_true rfl) hR.1, Nat.le_trans (Nat.le_of_ble_eq_true rfl) hR.2⟩ rfl hsz (capX hC (Nat.le_of_ble_eq_true rfl) (Nat.le_of_ble_eq_true rfl)) (Nat.le_of_ble_eq_true rfl) dX11_late_10 rfl (fun H locs S => ?_)
  exact x_iret C S h ⟨Nat.le_of_ble_eq_true rfl, Nat.le_of_ble_eq_true rfl⟩ dX11_late_13
set_option maxRecDepth 10000 in
set_option maxHeartbeats 4000000 in
theorem ct_X11_late (l : Launch) (hfl : l.stackTraces = false) (D : va_G) (cI cB cL : ClassId) (ka kv : Nat → Nat) (fv : Value) (ad : Nat → Nat) (tr kt pa pl : Nat) (x1 : Int32) (u : Sg) {z : Xr × Sg} (h : fX11_late x1 u = some z) : metXI l D (tyl cI cB cL) ka kv fv yX11_late cX11_late 2 (some .int) 7 111 1 (wT cI cB ad tr kt pa pl) [.ref (ad 36), .int x1] u z := by
  intro sz
  refine vx_ofW (cc := cX11_late) (maxL := 2) (ret := (some .int)) (by decide) rfl ?_
  intro p e s m args below meth c s₁ B hml Xc hv
  obtain ⟨rfl, C, S, Kx⟩ := q_entryK B hml hv
  have hl := lv_entry ([.ref (ad 36), .int x1]) (n := 2) (Nat.le_of_ble_eq_true rfl)
  rw [lg_entry_eq]
  generalize (lg_sl ([.ref (ad 36), .int x1]) ++ List.replicate (2 - (lg_sl ([.ref (ad 36), .int x1])).length) Slot.unset).toArray = ls at hl ⊢
  exact wX11_late_0 C Kx Xc hfl ⟨Nat.le_refl _, Nat.le_refl _⟩ ⟨rfl, rfl⟩ u x1 (lv_sub hl [0, 1] rfl) S h
noncomputable def fX11_slowest_41 (K6 : Int32 → Int32 → Int32 → Sg → Option (Xr × Sg)) (x1 : Int32) (x2 : Int32) (x3 : Int32) (u : Sg) : Option (Xr × Sg) := bnd (x3 + 1) (fun v5 => K6 x1 x2 v5 u)
noncomputable def fX11_slowest_6 : Nat → Int32 → Int32 → Int32 → Sg → Option (Xr × Sg)
  | 0, _, _, _, _ => none
  | n + 1, x1, x2, x3, u => cnd ((u 13 0) ≤ x3) (some (.inl x1, u)) (obr (fX0_lateOf x3 (sbTN u)) (fun r3 => cnd (r3 ≤ x2) (fX11_slowest_41 (fun a0 a1 a2 w => fX11_slowest_6 n a0 a1 a2 w) x1 x2 x3 u) (fX11_slowest_41 (fun a0 a1 a2 w => fX11_slowest_6 n a0 a1 a2 w) x3 r3 x3 u)))
noncomputable def fX11_slowest_0 (u : Sg) : Option (Xr × Sg) := fX11_slowest_6 FU (-1) (-1) 0 u
noncomputable def fX11_slowest (u : Sg) : Option (Xr × Sg) := fX11_slowest_0 u
set_option maxRecDepth 10000 in
set_option maxHeartbeats 4000000 in
theorem wX11_slowest_41 (C : cx D (tyl cI cB cL) A RX11 cX11_slowest 5 (some .int) p s m args c meth) (Kx : kx ka kv fv A s s.heap) (Xc : ∀ x ∈ c.exceptionTable.toList, False) (hfl : l.stackTraces = false) (hR : 3 ≤ R.frames ∧ 68 ≤ R.locals) {z : Xr × Sg} (hC : R.cells = 0 ∧ R.slots = 6 * 0) (u : Sg) {K6 : Int32 → Int32 → Int32 → Sg → Option (Xr × Sg)} (hK6 : ∀ (y1 : Int32) (y2 : Int32) (y3 : Int32) (v : Sg) (H : Heap) (locs : List Loc) (ls : Array Slot), lv_has ls 5 [(0, .ref (ad 36)), (1, .int y1), (2, .int y2), (3, .int y3)] → st D (wT cI cB ad tr kt pa pl) A s v H locs → K6 y1 y2 y3 v = some z → W p l e R s m args below meth c H locs 0 (6 * 0) (vx_MQ below (qXI D (tyl cI cB cL) (wT cI cB ad tr kt pa pl) A z) (xX D (tyl cI cB cL) (wT cI cB ad tr kt pa pl) A z) args s 0 (6 * 0) A) (F0 m 6 ls [])) (x1 : Int32) (x2 : Int32) (x3 : Int32) {H : Heap} {locs : List Loc} {ls : Array Slot} (hl : lv_has ls 5 [(0, .ref (ad 36)), (1, .int x1), (2, .int x2), (3, .int x3)]) (S : st D (wT cI cB ad tr kt pa pl) A s u H locs) (h : fX11_slowest_41 K6 x1 x2 x3 u = some z) : W p l e R s m args below meth c H locs 0 (6 * 0) (vx_MQ below (qXI D (tyl cI cB cL) (wT cI cB ad tr kt pa pl) A z) (xX D (tyl cI cB cL) (wT cI cB ad tr kt pa pl) A z) args s 0 (6 * 0) A) (F0 m 41 ls []) := by
  have hx := C.1
  have hb := C.2.1
  have hsz := hl.1
  unfold fX11_slowest_41 at h
  obtain ⟨v5, ev5⟩ : ∃ y : Int32, y = x3 + 1 := ⟨_, rfl⟩
  have h := bnd_of ev5 h
  refine lv_iinc (v := v5) (lv' := [(3, .int v5), (0, .ref (ad 36)), (1, .int x1), (2, .int x2)]) hx hb dX11_slowest_41 hl (k := 3) rfl (by rw [ev5]; rfl) (by decide) rfl (fun ls hl => ?_)
  have hsz := hl.1
  refine lv_goto (tgt := 6) hx hb dX11_slowest_44 (by decide) ?_
  exact hK6 x1 x2 v5 u H locs ls (lv_sub hl [1, 2, 3, 0] rfl) S h
set_option maxRecDepth 10000 in
set_option maxHeartbeats 4000000 in
theorem wX11_slowest_6 (C : cx D (tyl cI cB cL) A RX11 cX11_slowest 5 (some .int) p s m args c meth) (Kx : kx ka kv fv A s s.heap) (Xc : ∀ x ∈ c.exceptionTable.toList, False) (hfl : l.stackTraces = false) (hR : 3 ≤ R.frames ∧ 68 ≤ R.locals) {z : Xr × Sg} (hC : R.cells = 0 ∧ R.slots = 6 * 0) : ∀ (n : Nat) (x1 : Int32) (x2 : Int32) (x3 : Int32) (u : Sg) (H : Heap) (locs : List Loc) (ls : Array Slot), lv_has ls 5 [(0, .ref (ad 36)), (1, .int x1), (2, .int x2), (3, .int x3)] → st D (wT cI cB ad tr kt pa pl) A s u H locs → fX11_slowest_6 n x1 x2 x3 u = some z → W p l e R s m args below meth c H locs 0 (6 * 0) (vx_MQ below (qXI D (tyl cI cB cL) (wT cI cB ad tr kt pa pl) A z) (xX D (tyl cI cB cL) (wT cI cB ad tr kt pa pl) A z) args s 0 (6 * 0) A) (F0 m 6 ls []) := by
  have hx := C.1
  have hb := C.2.1
  intro n
  induction n with
  | zero =>
    intro x1 x2 x3 u H locs ls hl S h
    cases h
  | succ n ih =>
    intro x1 x2 x3 u H locs ls hl S h
    rw [fX11_slowest_6] at h
    have hsz := hl.1
    refine lv_iload_n hx hb dX11_slowest_6 rfl (lv_at hl 3 rfl) ?_
    refine lv_aload_n hx hb dX11_slowest_7 rfl (lv_at hl 0 rfl) ?_
    refine q_get (v := .ref (ad 0)) C S (oT36 cI cB ad tr kt pa pl) rfl iwX11 4 (by decide) mw_767 rfl dX11_slowest_8 ?_
    refine q_get (v := .ref (ad 13)) C S (oT0 cI cB ad tr kt pa pl) rfl iwX7 14 (by decide) mw_775 rfl dX11_slowest_11 ?_
    refine q_get (v := .int (u 13 0)) C S (oT13 cI cB ad tr kt pa pl) rfl iwX6 0 (by decide) mw_776 rfl dX11_slowest_14 ?_
    refine lv_icmp_ge (tgt := 47) hx hb dX11_slowest_17 (by decide) (fun c1 => ?_) (fun c1 => ?_)
    · have h := cnd_t c1 h
      refine lv_iload_n hx hb dX11_slowest_47 rfl (lv_at hl 1 rfl) ?_
      exact x_iret C S h ⟨Nat.le_of_ble_eq_true rfl, Nat.le_of_ble_eq_true rfl⟩ dX11_slowest_48
    · have h := cnd_f c1 h
      refine lv_aload_n hx hb dX11_slowest_20 rfl (lv_at hl 0 rfl) ?_
      refine q_get (v := .ref (ad 0)) C S (oT36 cI cB ad tr kt pa pl) rfl iwX11 4 (by decide) mw_767 rfl dX11_slowest_21 ?_
      refine lv_iload_n hx hb dX11_slowest_24 rfl (lv_at hl 3 rfl) ?_
      obtain ⟨r3, h2, h⟩ := obr_some h
      refine s_callSiR (spl_TN cI cB ad tr kt) (As := [.ref (adTN ad 0), .int x3]) (na := 2) C S (ct_X0_lateOf l D cI cB cL (adTN ad) pa pl x3 (sbTN u) h2) mw_821 mw_822 mw_362 mw_820 hdX0_lateOf ⟨Nat.le_trans (Nat.le_of_ble_eq_true rfl) hR.1, Nat.le_trans (Nat.le_of_ble_eq_true rfl) hR.2⟩ rfl hsz (capX hC (Nat.le_of_ble_eq_true rfl) (Nat.le_of_ble_eq_true rfl)) (Nat.le_of_ble_eq_true rfl) dX11_slowest_25 rfl (fun H locs S => ?_)
      refine lv_istore (lv' := [(4, .int r3), (0, .ref (ad 36)), (1, .int x1), (2, .int x2), (3, .int x3)]) hx hb dX11_slowest_28 hl (by decide) rfl (fun ls hl => ?_)
      have hsz := hl.1
      refine lv_iload hx hb dX11_slowest_30 (lv_at hl 0 rfl) ?_
      refine lv_iload_n hx hb dX11_slowest_32 rfl (lv_at hl 3 rfl) ?_
      refine lv_icmp_le (tgt := 41) hx hb dX11_slowest_33 (by decide) (fun c4 => ?_) (fun c4 => ?_)
      · have h := cnd_t c4 h
        exact wX11_slowest_41 C Kx Xc hfl hR hC u ih x1 x2 x3 (lv_sub hl [1, 2, 3, 4] rfl) S h
      · have h := cnd_f c4 h
        refine lv_iload hx hb dX11_slowest_36 (lv_at hl 0 rfl) ?_
        refine lv_istore_n (lv' := [(2, .int r3), (4, .int r3), (0, .ref (ad 36)), (1, .int x1), (3, .int x3)]) hx hb dX11_slowest_38 rfl hl (by decide) rfl (fun ls hl => ?_)
        have hsz := hl.1
        refine lv_iload_n hx hb dX11_slowest_39 rfl (lv_at hl 4 rfl) ?_
        refine lv_istore_n (lv' := [(1, .int x3), (2, .int r3), (4, .int r3), (0, .ref (ad 36)), (3, .int x3)]) hx hb dX11_slowest_40 rfl hl (by decide) rfl (fun ls hl => ?_)
        have hsz := hl.1
        exact wX11_slowest_41 C Kx Xc hfl hR hC u ih x3 r3 x3 (lv_sub hl [3, 0, 1, 4] rfl) S h
set_option maxRecDepth 10000 in
set_option maxHeartbeats 4000000 in
theorem wX11_slowest_0 (C : cx D (tyl cI cB cL) A RX11 cX11_slowest 5 (some .int) p s m args c meth) (Kx : kx ka kv fv A s s.heap) (Xc : ∀ x ∈ c.exceptionTable.toList, False) (hfl : l.stackTraces = false) (hR : 3 ≤ R.frames ∧ 68 ≤ R.locals) {z : Xr × Sg} (hC : R.cells = 0 ∧ R.slots = 6 * 0) (u : Sg) {H : Heap} {locs : List Loc} {ls : Array Slot} (hl : lv_has ls 5 [(0, .ref (ad 36))]) (S : st D (wT cI cB ad tr kt pa pl) A s u H locs) (h : fX11_slowest_0 u = some z) : W p l e R s m args below meth c H locs 0 0 (vx_MQ below (qXI D (tyl cI cB cL) (wT cI cB ad tr kt pa pl) A z) (xX D (tyl cI cB cL) (wT cI cB ad tr kt pa pl) A z) args s 0 (6 * 0) A) (F0 m 0 ls []) := by
  have hx := C.1
  have hb := C.2.1
  have hsz := hl.1
  unfold fX11_slowest_0 at h
  refine lv_iconst (v := (-1)) hx hb dX11_slowest_0 (by decide) ?_
  refine lv_istore_n (lv' := [(1, .int (-1)), (0, .ref (ad 36))]) hx hb dX11_slowest_1 rfl hl (by decide) rfl (fun ls hl => ?_)
  have hsz := hl.1
  refine lv_iconst (v := (-1)) hx hb dX11_slowest_2 (by decide) ?_
  refine lv_istore_n (lv' := [(2, .int (-1)), (1, .int (-1)), (0, .ref (ad 36))]) hx hb dX11_slowest_3 rfl hl (by decide) rfl (fun ls hl => ?_)
  have hsz := hl.1
  refine lv_iconst (v := 0) hx hb dX11_slowest_4 (by decide) ?_
  refine lv_istore_n (lv' := [(3, .int 0), (2, .int (-1)), (1, .int (-1)), (0, .ref (ad 36))]) hx hb dX11_slowest_5 rfl hl (by decide) rfl (fun ls hl => ?_)
  have hsz := hl.1
  refine W.widen (k := 0) (n := (6 * 0)) (Nat.le_of_ble_eq_true rfl) (Nat.le_of_ble_eq_true rfl) ?_
  exact wX11_slowest_6 C Kx Xc hfl hR hC FU (-1) (-1) 0 u H locs ls (lv_sub hl [3, 2, 1, 0] rfl) S h
set_option maxRecDepth 10000 in
set_option maxHeartbeats 4000000 in
theorem ct_X11_slowest (l : Launch) (hfl : l.stackTraces = false) (D : va_G) (cI cB cL : ClassId) (ka kv : Nat → Nat) (fv : Value) (ad : Nat → Nat) (tr kt pa pl : Nat) (u : Sg) {z : Xr × Sg} (h : fX11_slowest u = some z) : metXI l D (tyl cI cB cL) ka kv fv yX11_slowest cX11_slowest 5 (some .int) 3 68 0 (wT cI cB ad tr kt pa pl) [.ref (ad 36)] u z := by
  intro sz
  refine vx_ofW (cc := cX11_slowest) (maxL := 5) (ret := (some .int)) (by decide) rfl ?_
  intro p e s m args below meth c s₁ B hml Xc hv
  obtain ⟨rfl, C, S, Kx⟩ := q_entryK B hml hv
  have hl := lv_entry ([.ref (ad 36)]) (n := 5) (Nat.le_of_ble_eq_true rfl)
  rw [lg_entry_eq]
  generalize (lg_sl ([.ref (ad 36)]) ++ List.replicate (5 - (lg_sl ([.ref (ad 36)])).length) Slot.unset).toArray = ls at hl ⊢
  exact wX11_slowest_0 C Kx Xc hfl ⟨Nat.le_refl _, Nat.le_refl _⟩ ⟨rfl, rfl⟩ u (lv_sub hl [0] rfl) S h
noncomputable def fX11_lag_0 (x1 : Int32) (u : Sg) : Option (Xr × Sg) := obx (fX11_needNode x1 u) (fun u4 => obr (fX6_addressedTo x1 (sbTN u4)) (fun r6 => obr (fX7_messagesAt x1 3 (sbTN u4)) (fun r8 => some (.inl (r6 &&& (r8 ^^^ (-1))), u4))))
noncomputable def fX11_lag (x1 : Int32) (u : Sg) : Option (Xr × Sg) := fX11_lag_0 x1 u
set_option maxRecDepth 10000 in
set_option maxHeartbeats 4000000 in
theorem wX11_lag_0 (C : cx D (tyl cI cB cL) A RX11 cX11_lag 2 (some .int) p s m args c meth) (Kx : kx ka kv fv A s s.heap) (Xc : ∀ x ∈ c.exceptionTable.toList, False) (hfl : l.stackTraces = false) (hR : 7 ≤ R.frames ∧ 111 ≤ R.locals) {z : Xr × Sg} (hC : R.cells = 1 ∧ R.slots = 6 * 1) (u : Sg) (x1 : Int32) {H : Heap} {locs : List Loc} {ls : Array Slot} (hl : lv_has ls 2 [(0, .ref (ad 36)), (1, .int x1)]) (S : st D (wT cI cB ad tr kt pa pl) A s u H locs) (h : fX11_lag_0 x1 u = some z) : W p l e R s m args below meth c H locs 0 0 (vx_MQ below (qXI D (tyl cI cB cL) (wT cI cB ad tr kt pa pl) A z) (xX D (tyl cI cB cL) (wT cI cB ad tr kt pa pl) A z) args s 1 (6 * 1) A) (F0 m 0 ls []) := by
  have hx := C.1
  have hb := C.2.1
  have hsz := hl.1
  unfold fX11_lag_0 at h
  refine lv_aload_n hx hb dX11_lag_0 rfl (lv_at hl 0 rfl) ?_
  refine lv_iload_n hx hb dX11_lag_1 rfl (lv_at hl 1 rfl) ?_
  obtain ⟨z1, h2, h3⟩ := obx_some h
  refine x_callVv (As := [.int x1]) (na := 1) C Kx Xc S (oT36 cI cB ad tr kt pa pl) rfl (ct_X11_needNode l hfl D cI cB cL ka kv fv ad tr kt pa pl x1 u h2) h3 mw_778 mw_779 mw_780 mw_321 mw_777 hdX11_needNode ⟨Nat.le_trans (Nat.le_of_ble_eq_true rfl) hR.1, Nat.le_trans (Nat.le_of_ble_eq_true rfl) hR.2⟩ rfl hsz (capX hC (Nat.le_of_ble_eq_true rfl) (Nat.le_of_ble_eq_true rfl)) ⟨Nat.le_of_ble_eq_true rfl, Nat.le_of_ble_eq_true rfl⟩ (Nat.le_of_ble_eq_true rfl) dX11_lag_2 rfl (fun u4 H locs h S => ?_)
  refine lv_aload_n hx hb dX11_lag_5 rfl (lv_at hl 0 rfl) ?_
  refine q_get (v := .ref (ad 0)) C S (oT36 cI cB ad tr kt pa pl) rfl iwX11 4 (by decide) mw_767 rfl dX11_lag_6 ?_
  refine q_get (v := .ref (ad 13)) C S (oT0 cI cB ad tr kt pa pl) rfl iwX7 14 (by decide) mw_775 rfl dX11_lag_9 ?_
  refine lv_iload_n hx hb dX11_lag_12 rfl (lv_at hl 1 rfl) ?_
  obtain ⟨r6, h5, h⟩ := obr_some h
  refine s_callViR (spl_TN cI cB ad tr kt) (As := [.int x1]) (na := 1) C S (oN13 cI (adTN ad) pa pl) rfl (ct_X6_addressedTo l D cI cB cL (adTN ad) pa pl x1 (sbTN u4) h5) mw_824 mw_825 mw_826 mw_571 mw_823 hdX6_addressedTo ⟨Nat.le_trans (Nat.le_of_ble_eq_true rfl) hR.1, Nat.le_trans (Nat.le_of_ble_eq_true rfl) hR.2⟩ rfl hsz (capX hC (Nat.le_of_ble_eq_true rfl) (Nat.le_of_ble_eq_true rfl)) (Nat.le_of_ble_eq_true rfl) dX11_lag_13 rfl (fun H locs S => ?_)
  refine lv_aload_n hx hb dX11_lag_16 rfl (lv_at hl 0 rfl) ?_
  refine q_get (v := .ref (ad 0)) C S (oT36 cI cB ad tr kt pa pl) rfl iwX11 4 (by decide) mw_767 rfl dX11_lag_17 ?_
  refine lv_iload_n hx hb dX11_lag_20 rfl (lv_at hl 1 rfl) ?_
  refine lv_iconst (v := 3) hx hb dX11_lag_21 (by decide) ?_
  obtain ⟨r8, h7, h⟩ := obr_some h
  refine s_callViR (spl_TN cI cB ad tr kt) (As := [.int x1, .int 3]) (na := 2) C S (oN0 cI (adTN ad) pa pl) rfl (ct_X7_messagesAt l D cI cB cL (adTN ad) pa pl x1 3 (sbTN u4) h7) mw_828 mw_829 mw_830 mw_341 mw_827 hdX7_messagesAt ⟨Nat.le_trans (Nat.le_of_ble_eq_true rfl) hR.1, Nat.le_trans (Nat.le_of_ble_eq_true rfl) hR.2⟩ rfl hsz (capX hC (Nat.le_of_ble_eq_true rfl) (Nat.le_of_ble_eq_true rfl)) (Nat.le_of_ble_eq_true rfl) dX11_lag_22 rfl (fun H locs S => ?_)
  refine lv_iconst (v := (-1)) hx hb dX11_lag_25 (by decide) ?_
  refine lv_ixor hx hb dX11_lag_26 ?_
  refine lv_iand hx hb dX11_lag_27 ?_
  exact x_iret C S h ⟨Nat.le_of_ble_eq_true rfl, Nat.le_of_ble_eq_true rfl⟩ dX11_lag_28
set_option maxRecDepth 10000 in
set_option maxHeartbeats 4000000 in
theorem ct_X11_lag (l : Launch) (hfl : l.stackTraces = false) (D : va_G) (cI cB cL : ClassId) (ka kv : Nat → Nat) (fv : Value) (ad : Nat → Nat) (tr kt pa pl : Nat) (x1 : Int32) (u : Sg) {z : Xr × Sg} (h : fX11_lag x1 u = some z) : metXI l D (tyl cI cB cL) ka kv fv yX11_lag cX11_lag 2 (some .int) 7 111 1 (wT cI cB ad tr kt pa pl) [.ref (ad 36), .int x1] u z := by
  intro sz
  refine vx_ofW (cc := cX11_lag) (maxL := 2) (ret := (some .int)) (by decide) rfl ?_
  intro p e s m args below meth c s₁ B hml Xc hv
  obtain ⟨rfl, C, S, Kx⟩ := q_entryK B hml hv
  have hl := lv_entry ([.ref (ad 36), .int x1]) (n := 2) (Nat.le_of_ble_eq_true rfl)
  rw [lg_entry_eq]
  generalize (lg_sl ([.ref (ad 36), .int x1]) ++ List.replicate (2 - (lg_sl ([.ref (ad 36), .int x1])).length) Slot.unset).toArray = ls at hl ⊢
  exact wX11_lag_0 C Kx Xc hfl ⟨Nat.le_refl _, Nat.le_refl _⟩ ⟨rfl, rfl⟩ u x1 (lv_sub hl [0, 1] rfl) S h
noncomputable def fX11_knot_0 (x1 : Int32) (x2 : Int32) (u : Sg) : Option (Xr × Sg) := obx (fX11_needGroup x1 u) (fun u4 => obx (fX11_needGroup x2 u4) (fun u8 => obx (fX11_needTwo x1 x2 u8) (fun u12 => grd (vp_in x1 6) (grd (vp_in x2 6) (some (.inl ((u12 1 ((x1 : Int32).toNatClampNeg)) &&& (u12 1 ((x2 : Int32).toNatClampNeg))), u12))))))
noncomputable def fX11_knot (x1 : Int32) (x2 : Int32) (u : Sg) : Option (Xr × Sg) := fX11_knot_0 x1 x2 u
set_option maxRecDepth 10000 in
set_option maxHeartbeats 4000000 in
theorem wX11_knot_0 (C : cx D (tyl cI cB cL) A RX11 cX11_knot 3 (some .int) p s m args c meth) (Kx : kx ka kv fv A s s.heap) (Xc : ∀ x ∈ c.exceptionTable.toList, False) (hfl : l.stackTraces = false) (hR : 7 ≤ R.frames ∧ 111 ≤ R.locals) {z : Xr × Sg} (hC : R.cells = 3 ∧ R.slots = 6 * 3) (u : Sg) (x1 : Int32) (x2 : Int32) {H : Heap} {locs : List Loc} {ls : Array Slot} (hl : lv_has ls 3 [(0, .ref (ad 36)), (1, .int x1), (2, .int x2)]) (S : st D (wT cI cB ad tr kt pa pl) A s u H locs) (h : fX11_knot_0 x1 x2 u = some z) : W p l e R s m args below meth c H locs 0 0 (vx_MQ below (qXI D (tyl cI cB cL) (wT cI cB ad tr kt pa pl) A z) (xX D (tyl cI cB cL) (wT cI cB ad tr kt pa pl) A z) args s 3 (6 * 3) A) (F0 m 0 ls []) := by
  have hx := C.1
  have hb := C.2.1
  have hsz := hl.1
  unfold fX11_knot_0 at h
  refine lv_aload_n hx hb dX11_knot_0 rfl (lv_at hl 0 rfl) ?_
  refine lv_iload_n hx hb dX11_knot_1 rfl (lv_at hl 1 rfl) ?_
  obtain ⟨z1, h2, h3⟩ := obx_some h
  refine x_callVv (As := [.int x1]) (na := 1) C Kx Xc S (oT36 cI cB ad tr kt pa pl) rfl (ct_X11_needGroup l hfl D cI cB cL ka kv fv ad tr kt pa pl x1 u h2) h3 mw_771 mw_772 mw_773 mw_321 mw_770 hdX11_needGroup ⟨Nat.le_trans (Nat.le_of_ble_eq_true rfl) hR.1, Nat.le_trans (Nat.le_of_ble_eq_true rfl) hR.2⟩ rfl hsz (capX hC (Nat.le_of_ble_eq_true rfl) (Nat.le_of_ble_eq_true rfl)) ⟨Nat.le_of_ble_eq_true rfl, Nat.le_of_ble_eq_true rfl⟩ (Nat.le_of_ble_eq_true rfl) dX11_knot_2 rfl (fun u4 H locs h S => ?_)
  refine lv_aload_n hx hb dX11_knot_5 rfl (lv_at hl 0 rfl) ?_
  refine lv_iload_n hx hb dX11_knot_6 rfl (lv_at hl 2 rfl) ?_
  obtain ⟨z5, h6, h7⟩ := obx_some h
  refine x_callVv (As := [.int x2]) (na := 1) C Kx Xc S (oT36 cI cB ad tr kt pa pl) rfl (ct_X11_needGroup l hfl D cI cB cL ka kv fv ad tr kt pa pl x2 u4 h6) h7 mw_771 mw_772 mw_773 mw_321 mw_770 hdX11_needGroup ⟨Nat.le_trans (Nat.le_of_ble_eq_true rfl) hR.1, Nat.le_trans (Nat.le_of_ble_eq_true rfl) hR.2⟩ rfl hsz (capX hC (Nat.le_of_ble_eq_true rfl) (Nat.le_of_ble_eq_true rfl)) ⟨Nat.le_of_ble_eq_true rfl, Nat.le_of_ble_eq_true rfl⟩ (Nat.le_of_ble_eq_true rfl) dX11_knot_7 rfl (fun u8 H locs h S => ?_)
  refine lv_iload_n hx hb dX11_knot_10 rfl (lv_at hl 1 rfl) ?_
  refine lv_iload_n hx hb dX11_knot_11 rfl (lv_at hl 2 rfl) ?_
  obtain ⟨z9, h10, h11⟩ := obx_some h
  refine x_callSv (As := [.int x1, .int x2]) (na := 2) C Kx Xc S (ct_X11_needTwo l hfl D cI cB cL ka kv fv ad tr kt pa pl x1 x2 u8 h10) h11 mw_797 mw_798 mw_321 mw_796 hdX11_needTwo ⟨Nat.le_trans (Nat.le_of_ble_eq_true rfl) hR.1, Nat.le_trans (Nat.le_of_ble_eq_true rfl) hR.2⟩ rfl hsz (capX hC (Nat.le_of_ble_eq_true rfl) (Nat.le_of_ble_eq_true rfl)) ⟨Nat.le_of_ble_eq_true rfl, Nat.le_of_ble_eq_true rfl⟩ (Nat.le_of_ble_eq_true rfl) dX11_knot_12 rfl (fun u12 H locs h S => ?_)
  refine lv_aload_n hx hb dX11_knot_15 rfl (lv_at hl 0 rfl) ?_
  refine q_get (v := .ref (ad 0)) C S (oT36 cI cB ad tr kt pa pl) rfl iwX11 4 (by decide) mw_767 rfl dX11_knot_16 ?_
  refine q_get (v := .ref (ad 1)) C S (oT0 cI cB ad tr kt pa pl) rfl iwX7 9 (by decide) mw_774 rfl dX11_knot_19 ?_
  refine lv_iload_n hx hb dX11_knot_22 rfl (lv_at hl 1 rfl) ?_
  obtain ⟨g13, h⟩ := grd_some h
  refine q_iald C S (aT1 cI cB ad tr kt pa pl) 0 rfl g13 dX11_knot_23 (j := (x1 : Int32).toNatClampNeg) rfl ?_
  refine lv_aload_n hx hb dX11_knot_24 rfl (lv_at hl 0 rfl) ?_
  refine q_get (v := .ref (ad 0)) C S (oT36 cI cB ad tr kt pa pl) rfl iwX11 4 (by decide) mw_767 rfl dX11_knot_25 ?_
  refine q_get (v := .ref (ad 1)) C S (oT0 cI cB ad tr kt pa pl) rfl iwX7 9 (by decide) mw_774 rfl dX11_knot_28 ?_
  refine lv_iload_n hx hb dX11_knot_31 rfl (lv_at hl 2 rfl) ?_
  obtain ⟨g14, h⟩ := grd_some h
  refine q_iald C S (aT1 cI cB ad tr kt pa pl) 0 rfl g14 dX11_knot_32 (j := (x2 : Int32).toNatClampNeg) rfl ?_
  refine lv_iand hx hb dX11_knot_33 ?_
  exact x_iret C S h ⟨Nat.le_of_ble_eq_true rfl, Nat.le_of_ble_eq_true rfl⟩ dX11_knot_34
set_option maxRecDepth 10000 in
set_option maxHeartbeats 4000000 in
theorem ct_X11_knot (l : Launch) (hfl : l.stackTraces = false) (D : va_G) (cI cB cL : ClassId) (ka kv : Nat → Nat) (fv : Value) (ad : Nat → Nat) (tr kt pa pl : Nat) (x1 : Int32) (x2 : Int32) (u : Sg) {z : Xr × Sg} (h : fX11_knot x1 x2 u = some z) : metXI l D (tyl cI cB cL) ka kv fv yX11_knot cX11_knot 3 (some .int) 7 111 3 (wT cI cB ad tr kt pa pl) [.ref (ad 36), .int x1, .int x2] u z := by
  intro sz
  refine vx_ofW (cc := cX11_knot) (maxL := 3) (ret := (some .int)) (by decide) rfl ?_
  intro p e s m args below meth c s₁ B hml Xc hv
  obtain ⟨rfl, C, S, Kx⟩ := q_entryK B hml hv
  have hl := lv_entry ([.ref (ad 36), .int x1, .int x2]) (n := 3) (Nat.le_of_ble_eq_true rfl)
  rw [lg_entry_eq]
  generalize (lg_sl ([.ref (ad 36), .int x1, .int x2]) ++ List.replicate (3 - (lg_sl ([.ref (ad 36), .int x1, .int x2])).length) Slot.unset).toArray = ls at hl ⊢
  exact wX11_knot_0 C Kx Xc hfl ⟨Nat.le_refl _, Nat.le_refl _⟩ ⟨rfl, rfl⟩ u x1 x2 (lv_sub hl [0, 1, 2] rfl) S h
noncomputable def fX11_ring_0 (u : Sg) : Option (Xr × Sg) := obr (fX0_ringOf (sbTN u)) (fun r2 => some (.inl r2, u))
noncomputable def fX11_ring (u : Sg) : Option (Xr × Sg) := fX11_ring_0 u
set_option maxRecDepth 10000 in
set_option maxHeartbeats 4000000 in
theorem wX11_ring_0 (C : cx D (tyl cI cB cL) A RX11 cX11_ring 1 (some .int) p s m args c meth) (Kx : kx ka kv fv A s s.heap) (Xc : ∀ x ∈ c.exceptionTable.toList, False) (hfl : l.stackTraces = false) (hR : 2 ≤ R.frames ∧ 45 ≤ R.locals) {z : Xr × Sg} (hC : R.cells = 0 ∧ R.slots = 6 * 0) (u : Sg) {H : Heap} {locs : List Loc} {ls : Array Slot} (hl : lv_has ls 1 [(0, .ref (ad 36))]) (S : st D (wT cI cB ad tr kt pa pl) A s u H locs) (h : fX11_ring_0 u = some z) : W p l e R s m args below meth c H locs 0 0 (vx_MQ below (qXI D (tyl cI cB cL) (wT cI cB ad tr kt pa pl) A z) (xX D (tyl cI cB cL) (wT cI cB ad tr kt pa pl) A z) args s 0 (6 * 0) A) (F0 m 0 ls []) := by
  have hx := C.1
  have hb := C.2.1
  have hsz := hl.1
  unfold fX11_ring_0 at h
  refine lv_aload_n hx hb dX11_ring_0 rfl (lv_at hl 0 rfl) ?_
  refine q_get (v := .ref (ad 0)) C S (oT36 cI cB ad tr kt pa pl) rfl iwX11 4 (by decide) mw_767 rfl dX11_ring_1 ?_
  obtain ⟨r2, h1, h⟩ := obr_some h
  refine s_callSiR (spl_TN cI cB ad tr kt) (As := [.ref (adTN ad 0)]) (na := 1) C S (ct_X0_ringOf l D cI cB cL (adTN ad) pa pl (sbTN u) h1) mw_832 mw_833 mw_362 mw_831 hdX0_ringOf ⟨Nat.le_trans (Nat.le_of_ble_eq_true rfl) hR.1, Nat.le_trans (Nat.le_of_ble_eq_true rfl) hR.2⟩ rfl hsz (capX hC (Nat.le_of_ble_eq_true rfl) (Nat.le_of_ble_eq_true rfl)) (Nat.le_of_ble_eq_true rfl) dX11_ring_4 rfl (fun H locs S => ?_)
  exact x_iret C S h ⟨Nat.le_of_ble_eq_true rfl, Nat.le_of_ble_eq_true rfl⟩ dX11_ring_7
set_option maxRecDepth 10000 in
set_option maxHeartbeats 4000000 in
theorem ct_X11_ring (l : Launch) (hfl : l.stackTraces = false) (D : va_G) (cI cB cL : ClassId) (ka kv : Nat → Nat) (fv : Value) (ad : Nat → Nat) (tr kt pa pl : Nat) (u : Sg) {z : Xr × Sg} (h : fX11_ring u = some z) : metXI l D (tyl cI cB cL) ka kv fv yX11_ring cX11_ring 1 (some .int) 2 45 0 (wT cI cB ad tr kt pa pl) [.ref (ad 36)] u z := by
  intro sz
  refine vx_ofW (cc := cX11_ring) (maxL := 1) (ret := (some .int)) (by decide) rfl ?_
  intro p e s m args below meth c s₁ B hml Xc hv
  obtain ⟨rfl, C, S, Kx⟩ := q_entryK B hml hv
  have hl := lv_entry ([.ref (ad 36)]) (n := 1) (Nat.le_of_ble_eq_true rfl)
  rw [lg_entry_eq]
  generalize (lg_sl ([.ref (ad 36)]) ++ List.replicate (1 - (lg_sl ([.ref (ad 36)])).length) Slot.unset).toArray = ls at hl ⊢
  exact wX11_ring_0 C Kx Xc hfl ⟨Nat.le_refl _, Nat.le_refl _⟩ ⟨rfl, rfl⟩ u (lv_sub hl [0] rfl) S h
noncomputable def fX11_spared_0 (x1 : Int32) (u : Sg) : Option (Xr × Sg) := obx (fX11_needMessage x1 u) (fun u4 => grd (vp_in x1 20) (grd (vp_in x1 20) (some (.inl ((3 * (fJ6_bitCount_0f7a4 (u4 15 ((x1 : Int32).toNatClampNeg)))) - (u4 16 ((x1 : Int32).toNatClampNeg))), u4))))
noncomputable def fX11_spared (x1 : Int32) (u : Sg) : Option (Xr × Sg) := fX11_spared_0 x1 u
set_option maxRecDepth 10000 in
set_option maxHeartbeats 4000000 in
theorem wX11_spared_0 (C : cx D (tyl cI cB cL) A RX11 cX11_spared 2 (some .int) p s m args c meth) (Kx : kx ka kv fv A s s.heap) (Xc : ∀ x ∈ c.exceptionTable.toList, False) (hfl : l.stackTraces = false) (hR : 7 ≤ R.frames ∧ 111 ≤ R.locals) {z : Xr × Sg} (hC : R.cells = 1 ∧ R.slots = 6 * 1) (u : Sg) (x1 : Int32) {H : Heap} {locs : List Loc} {ls : Array Slot} (hl : lv_has ls 2 [(0, .ref (ad 36)), (1, .int x1)]) (S : st D (wT cI cB ad tr kt pa pl) A s u H locs) (h : fX11_spared_0 x1 u = some z) : W p l e R s m args below meth c H locs 0 0 (vx_MQ below (qXI D (tyl cI cB cL) (wT cI cB ad tr kt pa pl) A z) (xX D (tyl cI cB cL) (wT cI cB ad tr kt pa pl) A z) args s 1 (6 * 1) A) (F0 m 0 ls []) := by
  have hx := C.1
  have hb := C.2.1
  have hsz := hl.1
  unfold fX11_spared_0 at h
  refine lv_aload_n hx hb dX11_spared_0 rfl (lv_at hl 0 rfl) ?_
  refine lv_iload_n hx hb dX11_spared_1 rfl (lv_at hl 1 rfl) ?_
  obtain ⟨z1, h2, h3⟩ := obx_some h
  refine x_callVv (As := [.int x1]) (na := 1) C Kx Xc S (oT36 cI cB ad tr kt pa pl) rfl (ct_X11_needMessage l hfl D cI cB cL ka kv fv ad tr kt pa pl x1 u h2) h3 mw_791 mw_792 mw_793 mw_321 mw_790 hdX11_needMessage ⟨Nat.le_trans (Nat.le_of_ble_eq_true rfl) hR.1, Nat.le_trans (Nat.le_of_ble_eq_true rfl) hR.2⟩ rfl hsz (capX hC (Nat.le_of_ble_eq_true rfl) (Nat.le_of_ble_eq_true rfl)) ⟨Nat.le_of_ble_eq_true rfl, Nat.le_of_ble_eq_true rfl⟩ (Nat.le_of_ble_eq_true rfl) dX11_spared_2 rfl (fun u4 H locs h S => ?_)
  refine lv_iconst (v := 3) hx hb dX11_spared_5 (by decide) ?_
  refine lv_aload_n hx hb dX11_spared_6 rfl (lv_at hl 0 rfl) ?_
  refine q_get (v := .ref (ad 0)) C S (oT36 cI cB ad tr kt pa pl) rfl iwX11 4 (by decide) mw_767 rfl dX11_spared_7 ?_
  refine q_get (v := .ref (ad 13)) C S (oT0 cI cB ad tr kt pa pl) rfl iwX7 14 (by decide) mw_775 rfl dX11_spared_10 ?_
  refine q_get (v := .ref (ad 15)) C S (oT13 cI cB ad tr kt pa pl) rfl iwX6 2 (by decide) mw_809 rfl dX11_spared_13 ?_
  refine lv_iload_n hx hb dX11_spared_16 rfl (lv_at hl 1 rfl) ?_
  obtain ⟨g5, h⟩ := grd_some h
  refine q_iald C S (aT15 cI cB ad tr kt pa pl) 0 rfl g5 dX11_spared_17 (j := (x1 : Int32).toNatClampNeg) rfl ?_
  refine q_callP (As := [.int (u4 15 ((x1 : Int32).toNatClampNeg))]) (na := 1) C S (ct_J6_bitCount_0f7a4 l D cI cB cL (u4 15 ((x1 : Int32).toNatClampNeg))) mw_834 mw_238 mw_237 mw_236 hdJ6_bitCount_0f7a4 ⟨Nat.le_trans (Nat.le_of_ble_eq_true rfl) hR.1, Nat.le_trans (Nat.le_of_ble_eq_true rfl) hR.2⟩ rfl hsz (capX hC (Nat.le_of_ble_eq_true rfl) (Nat.le_of_ble_eq_true rfl)) (Nat.le_of_ble_eq_true rfl) dX11_spared_18 rfl (fun H locs S => ?_)
  refine lv_imul hx hb dX11_spared_21 ?_
  refine lv_aload_n hx hb dX11_spared_22 rfl (lv_at hl 0 rfl) ?_
  refine q_get (v := .ref (ad 0)) C S (oT36 cI cB ad tr kt pa pl) rfl iwX11 4 (by decide) mw_767 rfl dX11_spared_23 ?_
  refine q_get (v := .ref (ad 13)) C S (oT0 cI cB ad tr kt pa pl) rfl iwX7 14 (by decide) mw_775 rfl dX11_spared_26 ?_
  refine q_get (v := .ref (ad 16)) C S (oT13 cI cB ad tr kt pa pl) rfl iwX6 3 (by decide) mw_835 rfl dX11_spared_29 ?_
  refine lv_iload_n hx hb dX11_spared_32 rfl (lv_at hl 1 rfl) ?_
  obtain ⟨g6, h⟩ := grd_some h
  refine q_iald C S (aT16 cI cB ad tr kt pa pl) 0 rfl g6 dX11_spared_33 (j := (x1 : Int32).toNatClampNeg) rfl ?_
  refine lv_isub hx hb dX11_spared_34 ?_
  exact x_iret C S h ⟨Nat.le_of_ble_eq_true rfl, Nat.le_of_ble_eq_true rfl⟩ dX11_spared_35
set_option maxRecDepth 10000 in
set_option maxHeartbeats 4000000 in
theorem ct_X11_spared (l : Launch) (hfl : l.stackTraces = false) (D : va_G) (cI cB cL : ClassId) (ka kv : Nat → Nat) (fv : Value) (ad : Nat → Nat) (tr kt pa pl : Nat) (x1 : Int32) (u : Sg) {z : Xr × Sg} (h : fX11_spared x1 u = some z) : metXI l D (tyl cI cB cL) ka kv fv yX11_spared cX11_spared 2 (some .int) 7 111 1 (wT cI cB ad tr kt pa pl) [.ref (ad 36), .int x1] u z := by
  intro sz
  refine vx_ofW (cc := cX11_spared) (maxL := 2) (ret := (some .int)) (by decide) rfl ?_
  intro p e s m args below meth c s₁ B hml Xc hv
  obtain ⟨rfl, C, S, Kx⟩ := q_entryK B hml hv
  have hl := lv_entry ([.ref (ad 36), .int x1]) (n := 2) (Nat.le_of_ble_eq_true rfl)
  rw [lg_entry_eq]
  generalize (lg_sl ([.ref (ad 36), .int x1]) ++ List.replicate (2 - (lg_sl ([.ref (ad 36), .int x1])).length) Slot.unset).toArray = ls at hl ⊢
  exact wX11_spared_0 C Kx Xc hfl ⟨Nat.le_refl _, Nat.le_refl _⟩ ⟨rfl, rfl⟩ u x1 (lv_sub hl [0, 1] rfl) S h
noncomputable def fX11_seed_0 (x1 : Int32) (u : Sg) : Option (Xr × Sg) := bnd (u 0 6) (fun v1 => bnd (s2 u 0 6 x1) (fun u2 => some (.inl v1, u2)))
noncomputable def fX11_seed (x1 : Int32) (u : Sg) : Option (Xr × Sg) := fX11_seed_0 x1 u
set_option maxRecDepth 10000 in
set_option maxHeartbeats 4000000 in
theorem wX11_seed_0 (C : cx D (tyl cI cB cL) A RX11 cX11_seed 3 (some .int) p s m args c meth) (Kx : kx ka kv fv A s s.heap) (Xc : ∀ x ∈ c.exceptionTable.toList, False) (hfl : l.stackTraces = false) (hR : 0 ≤ R.frames ∧ 0 ≤ R.locals) {z : Xr × Sg} (hC : R.cells = 0 ∧ R.slots = 6 * 0) (u : Sg) (x1 : Int32) {H : Heap} {locs : List Loc} {ls : Array Slot} (hl : lv_has ls 3 [(0, .ref (ad 36)), (1, .int x1)]) (S : st D (wT cI cB ad tr kt pa pl) A s u H locs) (h : fX11_seed_0 x1 u = some z) : W p l e R s m args below meth c H locs 0 0 (vx_MQ below (qXI D (tyl cI cB cL) (wT cI cB ad tr kt pa pl) A z) (xX D (tyl cI cB cL) (wT cI cB ad tr kt pa pl) A z) args s 0 (6 * 0) A) (F0 m 0 ls []) := by
  have hx := C.1
  have hb := C.2.1
  have hsz := hl.1
  unfold fX11_seed_0 at h
  refine lv_aload_n hx hb dX11_seed_0 rfl (lv_at hl 0 rfl) ?_
  refine q_get (v := .ref (ad 0)) C S (oT36 cI cB ad tr kt pa pl) rfl iwX11 4 (by decide) mw_767 rfl dX11_seed_1 ?_
  refine q_get (v := .int (u 0 6)) C S (oT0 cI cB ad tr kt pa pl) rfl iwX7 6 (by decide) mw_836 rfl dX11_seed_4 ?_
  refine lv_topi (fun v1 ev1 => ?_)
  have h := bnd_of ev1 h
  refine lv_istore_n (lv' := [(2, .int v1), (0, .ref (ad 36)), (1, .int x1)]) hx hb dX11_seed_7 rfl hl (by decide) rfl (fun ls hl => ?_)
  have hsz := hl.1
  refine lv_aload_n hx hb dX11_seed_8 rfl (lv_at hl 1 rfl) ?_
  refine q_get (v := .ref (ad 0)) C S (oT36 cI cB ad tr kt pa pl) rfl iwX11 4 (by decide) mw_767 rfl dX11_seed_9 ?_
  refine lv_iload_n hx hb dX11_seed_12 rfl (lv_at hl 2 rfl) ?_
  obtain ⟨u2, eu2⟩ : ∃ z : Sg, z = s2 u 0 6 x1 := ⟨_, rfl⟩
  have h := bnd_of eu2 h
  refine q_put C S (oT0 cI cB ad tr kt pa pl) rfl iwX7 tyX7 tyX7_ok nmX7 6 (by decide) mw_836 rfl (iT0_6 cI cB ad tr kt pa pl) rfl rfl dX11_seed_13 eu2 (fun H locs S => ?_)
  refine lv_iload_n hx hb dX11_seed_16 rfl (lv_at hl 0 rfl) ?_
  exact x_iret C S h ⟨Nat.le_of_ble_eq_true rfl, Nat.le_of_ble_eq_true rfl⟩ dX11_seed_17
set_option maxRecDepth 10000 in
set_option maxHeartbeats 4000000 in
theorem ct_X11_seed (l : Launch) (hfl : l.stackTraces = false) (D : va_G) (cI cB cL : ClassId) (ka kv : Nat → Nat) (fv : Value) (ad : Nat → Nat) (tr kt pa pl : Nat) (x1 : Int32) (u : Sg) {z : Xr × Sg} (h : fX11_seed x1 u = some z) : metXI l D (tyl cI cB cL) ka kv fv yX11_seed cX11_seed 3 (some .int) 0 0 0 (wT cI cB ad tr kt pa pl) [.ref (ad 36), .int x1] u z := by
  intro sz
  refine vx_ofW (cc := cX11_seed) (maxL := 3) (ret := (some .int)) (by decide) rfl ?_
  intro p e s m args below meth c s₁ B hml Xc hv
  obtain ⟨rfl, C, S, Kx⟩ := q_entryK B hml hv
  have hl := lv_entry ([.ref (ad 36), .int x1]) (n := 3) (Nat.le_of_ble_eq_true rfl)
  rw [lg_entry_eq]
  generalize (lg_sl ([.ref (ad 36), .int x1]) ++ List.replicate (3 - (lg_sl ([.ref (ad 36), .int x1])).length) Slot.unset).toArray = ls at hl ⊢
  exact wX11_seed_0 C Kx Xc hfl ⟨Nat.le_refl _, Nat.le_refl _⟩ ⟨rfl, rfl⟩ u x1 (lv_sub hl [0, 1] rfl) S h
noncomputable def fX11_count_0 (x1 : Int32) (u : Sg) : Option (Xr × Sg) := cnd (x1 = 0) (some (.inl (u 0 0), u)) (cnd (x1 = 1) (some (.inl (u 0 1), u)) (cnd (x1 = 2) (some (.inl (u 0 2), u)) (cnd (x1 = 3) (some (.inl (u 13 0), u)) (cnd (x1 = 4) (some (.inl (u 0 3), u)) (cnd (x1 = 5) (some (.inl (u 0 4), u)) (cnd (x1 = 6) (some (.inl (u 0 5), u)) (cnd (x1 = 7) (some (.inl (u 30 0), u)) (cnd (x1 = 8) (obr (fX1_sizeOfAll (sbTN u)) (fun r11 => some (.inl r11, u))) (cnd (x1 = 9) (some (.inl (u 34 0), u)) (some (.inl (-1), u)))))))))))
noncomputable def fX11_count (x1 : Int32) (u : Sg) : Option (Xr × Sg) := fX11_count_0 x1 u
set_option maxRecDepth 10000 in
set_option maxHeartbeats 4000000 in
theorem wX11_count_0 (C : cx D (tyl cI cB cL) A RX11 cX11_count 2 (some .int) p s m args c meth) (Kx : kx ka kv fv A s s.heap) (Xc : ∀ x ∈ c.exceptionTable.toList, False) (hfl : l.stackTraces = false) (hR : 1 ≤ R.frames ∧ 22 ≤ R.locals) {z : Xr × Sg} (hC : R.cells = 0 ∧ R.slots = 6 * 0) (u : Sg) (x1 : Int32) {H : Heap} {locs : List Loc} {ls : Array Slot} (hl : lv_has ls 2 [(0, .ref (ad 36)), (1, .int x1)]) (S : st D (wT cI cB ad tr kt pa pl) A s u H locs) (h : fX11_count_0 x1 u = some z) : W p l e R s m args below meth c H locs 0 0 (vx_MQ below (qXI D (tyl cI cB cL) (wT cI cB ad tr kt pa pl) A z) (xX D (tyl cI cB cL) (wT cI cB ad tr kt pa pl) A z) args s 0 (6 * 0) A) (F0 m 0 ls []) := by
  have hx := C.1
  have hb := C.2.1
  have hsz := hl.1
  unfold fX11_count_0 at h
  refine lv_iload_n hx hb dX11_count_0 rfl (lv_at hl 1 rfl) ?_
  by_cases c1 : x1 = 0
  · have h := cnd_t c1 h
    refine lv_tableIn (off := 55) (tgt := 56) hx hb dX11_count_1 (by rw [c1]; decide) (by rw [c1]; decide) (by rw [c1]; rfl) (by decide) ?_
    refine lv_aload_n hx hb dX11_count_56 rfl (lv_at hl 0 rfl) ?_
    refine q_get (v := .ref (ad 0)) C S (oT36 cI cB ad tr kt pa pl) rfl iwX11 4 (by decide) mw_767 rfl dX11_count_57 ?_
    refine q_get (v := .int (u 0 0)) C S (oT0 cI cB ad tr kt pa pl) rfl iwX7 0 (by decide) mw_768 rfl dX11_count_60 ?_
    exact x_iret C S h ⟨Nat.le_of_ble_eq_true rfl, Nat.le_of_ble_eq_true rfl⟩ dX11_count_63
  · have h := cnd_f c1 h
    by_cases c2 : x1 = 1
    · have h := cnd_t c2 h
      refine lv_tableIn (off := 63) (tgt := 64) hx hb dX11_count_1 (by rw [c2]; decide) (by rw [c2]; decide) (by rw [c2]; rfl) (by decide) ?_
      refine lv_aload_n hx hb dX11_count_64 rfl (lv_at hl 0 rfl) ?_
      refine q_get (v := .ref (ad 0)) C S (oT36 cI cB ad tr kt pa pl) rfl iwX11 4 (by decide) mw_767 rfl dX11_count_65 ?_
      refine q_get (v := .int (u 0 1)) C S (oT0 cI cB ad tr kt pa pl) rfl iwX7 1 (by decide) mw_769 rfl dX11_count_68 ?_
      exact x_iret C S h ⟨Nat.le_of_ble_eq_true rfl, Nat.le_of_ble_eq_true rfl⟩ dX11_count_71
    · have h := cnd_f c2 h
      by_cases c3 : x1 = 2
      · have h := cnd_t c3 h
        refine lv_tableIn (off := 71) (tgt := 72) hx hb dX11_count_1 (by rw [c3]; decide) (by rw [c3]; decide) (by rw [c3]; rfl) (by decide) ?_
        refine lv_aload_n hx hb dX11_count_72 rfl (lv_at hl 0 rfl) ?_
        refine q_get (v := .ref (ad 0)) C S (oT36 cI cB ad tr kt pa pl) rfl iwX11 4 (by decide) mw_767 rfl dX11_count_73 ?_
        refine q_get (v := .int (u 0 2)) C S (oT0 cI cB ad tr kt pa pl) rfl iwX7 2 (by decide) mw_837 rfl dX11_count_76 ?_
        exact x_iret C S h ⟨Nat.le_of_ble_eq_true rfl, Nat.le_of_ble_eq_true rfl⟩ dX11_count_79
      · have h := cnd_f c3 h
        by_cases c4 : x1 = 3
        · have h := cnd_t c4 h
          refine lv_tableIn (off := 79) (tgt := 80) hx hb dX11_count_1 (by rw [c4]; decide) (by rw [c4]; decide) (by rw [c4]; rfl) (by decide) ?_
          refine lv_aload_n hx hb dX11_count_80 rfl (lv_at hl 0 rfl) ?_
          refine q_get (v := .ref (ad 0)) C S (oT36 cI cB ad tr kt pa pl) rfl iwX11 4 (by decide) mw_767 rfl dX11_count_81 ?_
          refine q_get (v := .ref (ad 13)) C S (oT0 cI cB ad tr kt pa pl) rfl iwX7 14 (by decide) mw_775 rfl dX11_count_84 ?_
          refine q_get (v := .int (u 13 0)) C S (oT13 cI cB ad tr kt pa pl) rfl iwX6 0 (by decide) mw_776 rfl dX11_count_87 ?_
          exact x_iret C S h ⟨Nat.le_of_ble_eq_true rfl, Nat.le_of_ble_eq_true rfl⟩ dX11_count_90
        · have h := cnd_f c4 h
          by_cases c5 : x1 = 4
          · have h := cnd_t c5 h
            refine lv_tableIn (off := 90) (tgt := 91) hx hb dX11_count_1 (by rw [c5]; decide) (by rw [c5]; decide) (by rw [c5]; rfl) (by decide) ?_
            refine lv_aload_n hx hb dX11_count_91 rfl (lv_at hl 0 rfl) ?_
            refine q_get (v := .ref (ad 0)) C S (oT36 cI cB ad tr kt pa pl) rfl iwX11 4 (by decide) mw_767 rfl dX11_count_92 ?_
            refine q_get (v := .int (u 0 3)) C S (oT0 cI cB ad tr kt pa pl) rfl iwX7 3 (by decide) mw_838 rfl dX11_count_95 ?_
            exact x_iret C S h ⟨Nat.le_of_ble_eq_true rfl, Nat.le_of_ble_eq_true rfl⟩ dX11_count_98
          · have h := cnd_f c5 h
            by_cases c6 : x1 = 5
            · have h := cnd_t c6 h
              refine lv_tableIn (off := 98) (tgt := 99) hx hb dX11_count_1 (by rw [c6]; decide) (by rw [c6]; decide) (by rw [c6]; rfl) (by decide) ?_
              refine lv_aload_n hx hb dX11_count_99 rfl (lv_at hl 0 rfl) ?_
              refine q_get (v := .ref (ad 0)) C S (oT36 cI cB ad tr kt pa pl) rfl iwX11 4 (by decide) mw_767 rfl dX11_count_100 ?_
              refine q_get (v := .int (u 0 4)) C S (oT0 cI cB ad tr kt pa pl) rfl iwX7 4 (by decide) mw_839 rfl dX11_count_103 ?_
              exact x_iret C S h ⟨Nat.le_of_ble_eq_true rfl, Nat.le_of_ble_eq_true rfl⟩ dX11_count_106
            · have h := cnd_f c6 h
              by_cases c7 : x1 = 6
              · have h := cnd_t c7 h
                refine lv_tableIn (off := 106) (tgt := 107) hx hb dX11_count_1 (by rw [c7]; decide) (by rw [c7]; decide) (by rw [c7]; rfl) (by decide) ?_
                refine lv_aload_n hx hb dX11_count_107 rfl (lv_at hl 0 rfl) ?_
                refine q_get (v := .ref (ad 0)) C S (oT36 cI cB ad tr kt pa pl) rfl iwX11 4 (by decide) mw_767 rfl dX11_count_108 ?_
                refine q_get (v := .int (u 0 5)) C S (oT0 cI cB ad tr kt pa pl) rfl iwX7 5 (by decide) mw_840 rfl dX11_count_111 ?_
                exact x_iret C S h ⟨Nat.le_of_ble_eq_true rfl, Nat.le_of_ble_eq_true rfl⟩ dX11_count_114
              · have h := cnd_f c7 h
                by_cases c8 : x1 = 7
                · have h := cnd_t c8 h
                  refine lv_tableIn (off := 114) (tgt := 115) hx hb dX11_count_1 (by rw [c8]; decide) (by rw [c8]; decide) (by rw [c8]; rfl) (by decide) ?_
                  refine lv_aload_n hx hb dX11_count_115 rfl (lv_at hl 0 rfl) ?_
                  refine q_get (v := .ref (ad 0)) C S (oT36 cI cB ad tr kt pa pl) rfl iwX11 4 (by decide) mw_767 rfl dX11_count_116 ?_
                  refine q_get (v := .ref (ad 30)) C S (oT0 cI cB ad tr kt pa pl) rfl iwX7 17 (by decide) mw_841 rfl dX11_count_119 ?_
                  refine q_get (v := .int (u 30 0)) C S (oT30 cI cB ad tr kt pa pl) rfl iwX2 0 (by decide) mw_842 rfl dX11_count_122 ?_
                  exact x_iret C S h ⟨Nat.le_of_ble_eq_true rfl, Nat.le_of_ble_eq_true rfl⟩ dX11_count_125
                · have h := cnd_f c8 h
                  by_cases c9 : x1 = 8
                  · have h := cnd_t c9 h
                    refine lv_tableIn (off := 125) (tgt := 126) hx hb dX11_count_1 (by rw [c9]; decide) (by rw [c9]; decide) (by rw [c9]; rfl) (by decide) ?_
                    refine lv_aload_n hx hb dX11_count_126 rfl (lv_at hl 0 rfl) ?_
                    refine q_get (v := .ref (ad 0)) C S (oT36 cI cB ad tr kt pa pl) rfl iwX11 4 (by decide) mw_767 rfl dX11_count_127 ?_
                    refine q_get (v := .ref (ad 5)) C S (oT0 cI cB ad tr kt pa pl) rfl iwX7 13 (by decide) mw_788 rfl dX11_count_130 ?_
                    obtain ⟨r11, h10, h⟩ := obr_some h
                    refine s_callViR (spl_TN cI cB ad tr kt) (As := []) (na := 0) C S (oN5 cI (adTN ad) pa pl) rfl (ct_X1_sizeOfAll l D cI cB cL (adTN ad) pa pl (sbTN u) h10) mw_844 mw_845 mw_846 mw_401 mw_843 hdX1_sizeOfAll ⟨Nat.le_trans (Nat.le_of_ble_eq_true rfl) hR.1, Nat.le_trans (Nat.le_of_ble_eq_true rfl) hR.2⟩ rfl hsz (capX hC (Nat.le_of_ble_eq_true rfl) (Nat.le_of_ble_eq_true rfl)) (Nat.le_of_ble_eq_true rfl) dX11_count_133 rfl (fun H locs S => ?_)
                    exact x_iret C S h ⟨Nat.le_of_ble_eq_true rfl, Nat.le_of_ble_eq_true rfl⟩ dX11_count_136
                  · have h := cnd_f c9 h
                    by_cases c12 : x1 = 9
                    · have h := cnd_t c12 h
                      refine lv_tableIn (off := 136) (tgt := 137) hx hb dX11_count_1 (by rw [c12]; decide) (by rw [c12]; decide) (by rw [c12]; rfl) (by decide) ?_
                      refine lv_aload_n hx hb dX11_count_137 rfl (lv_at hl 0 rfl) ?_
                      refine q_get (v := .ref (ad 0)) C S (oT36 cI cB ad tr kt pa pl) rfl iwX11 4 (by decide) mw_767 rfl dX11_count_138 ?_
                      refine q_get (v := .ref (ad 34)) C S (oT0 cI cB ad tr kt pa pl) rfl iwX7 18 (by decide) mw_847 rfl dX11_count_141 ?_
                      refine q_get (v := .int (u 34 0)) C S (oT34 cI cB ad tr kt pa pl) rfl iwX5 0 (by decide) mw_848 rfl dX11_count_144 ?_
                      exact x_iret C S h ⟨Nat.le_of_ble_eq_true rfl, Nat.le_of_ble_eq_true rfl⟩ dX11_count_147
                    · have h := cnd_f c12 h
                      refine lv_tableOut (tgt := 148) hx hb dX11_count_1 (sw_out (0) 10 (fun k hk => by
                        rcases (show k = 0 ∨ k = 1 ∨ k = 2 ∨ k = 3 ∨ k = 4 ∨ k = 5 ∨ k = 6 ∨ k = 7 ∨ k = 8 ∨ k = 9 by omega) with rfl | rfl | rfl | rfl | rfl | rfl | rfl | rfl | rfl | rfl
                        · exact sw_ne 0 _ (by decide) c1
                        · exact sw_ne 1 _ (by decide) c2
                        · exact sw_ne 2 _ (by decide) c3
                        · exact sw_ne 3 _ (by decide) c4
                        · exact sw_ne 4 _ (by decide) c5
                        · exact sw_ne 5 _ (by decide) c6
                        · exact sw_ne 6 _ (by decide) c7
                        · exact sw_ne 7 _ (by decide) c8
                        · exact sw_ne 8 _ (by decide) c9
                        · exact sw_ne 9 _ (by decide) c12)) (by decide) ?_
                      refine lv_iconst (v := (-1)) hx hb dX11_count_148 (by decide) ?_
                      exact x_iret C S h ⟨Nat.le_of_ble_eq_true rfl, Nat.le_of_ble_eq_true rfl⟩ dX11_count_149
set_option maxRecDepth 10000 in
set_option maxHeartbeats 4000000 in
theorem ct_X11_count (l : Launch) (hfl : l.stackTraces = false) (D : va_G) (cI cB cL : ClassId) (ka kv : Nat → Nat) (fv : Value) (ad : Nat → Nat) (tr kt pa pl : Nat) (x1 : Int32) (u : Sg) {z : Xr × Sg} (h : fX11_count x1 u = some z) : metXI l D (tyl cI cB cL) ka kv fv yX11_count cX11_count 2 (some .int) 1 22 0 (wT cI cB ad tr kt pa pl) [.ref (ad 36), .int x1] u z := by
  intro sz
  refine vx_ofW (cc := cX11_count) (maxL := 2) (ret := (some .int)) (by decide) rfl ?_
  intro p e s m args below meth c s₁ B hml Xc hv
  obtain ⟨rfl, C, S, Kx⟩ := q_entryK B hml hv
  have hl := lv_entry ([.ref (ad 36), .int x1]) (n := 2) (Nat.le_of_ble_eq_true rfl)
  rw [lg_entry_eq]
  generalize (lg_sl ([.ref (ad 36), .int x1]) ++ List.replicate (2 - (lg_sl ([.ref (ad 36), .int x1])).length) Slot.unset).toArray = ls at hl ⊢
  exact wX11_count_0 C Kx Xc hfl ⟨Nat.le_refl _, Nat.le_refl _⟩ ⟨rfl, rfl⟩ u x1 (lv_sub hl [0, 1] rfl) S h
end S_47_xb
