abbrev tyl (cI cB cL : ClassId) : List (ClassId × FieldType) := [(cI, .int), (cB, .byte), (cL, .long)]
theorem mw_0 : Cond.constant RJ6 265 1431655765 ∈ gw := gw_t4 67 rfl rfl
theorem mw_1 : Cond.constant RJ6 266 858993459 ∈ gw := gw_t4 68 rfl rfl
theorem mw_2 : Cond.constant RJ6 267 252645135 ∈ gw := gw_t4 69 rfl rfl
theorem mw_3 : Cond.constant RJ6 264 65536 ∈ gw := gw_t8 80 rfl rfl
theorem mw_4 : Cond.code yX12_nodeAt cX12_nodeAt 2 (some .int) ∈ gw := gw_t6 239 rfl rfl
theorem mw_5 : Cond.initialized RX12 ∈ gw := gw_t1 13 rfl rfl
theorem mw_6 : Cond.static yX12_nodeAt ∈ gw := gw_t6 238 rfl rfl
theorem mw_7 : Cond.methodLink RX12 56 yX12_nodeAt ∈ gw := gw_t6 237 rfl rfl
theorem mw_8 : Cond.code yX12_channelAt cX12_channelAt 3 (some .int) ∈ gw := gw_t6 118 rfl rfl
theorem mw_9 : Cond.static yX12_channelAt ∈ gw := gw_t6 117 rfl rfl
theorem mw_10 : Cond.methodLink RX12 49 yX12_channelAt ∈ gw := gw_t6 116 rfl rfl
theorem hdX12_channelAt : yX12_channelAt.cls ≠ "java/lang/invoke/MethodHandle" ∧ yX12_channelAt.cls ≠ "java/lang/invoke/VarHandle" ∧ (parseMethodDescriptor yX12_channelAt.desc).map (fun d => d.parameters.length) = some 3 := by decide +kernel
theorem hdX12_nodeAt : yX12_nodeAt.cls ≠ "java/lang/invoke/MethodHandle" ∧ yX12_nodeAt.cls ≠ "java/lang/invoke/VarHandle" ∧ (parseMethodDescriptor yX12_nodeAt.desc).map (fun d => d.parameters.length) = some 2 := by decide +kernel
theorem dJ6_bitCount_0f7a4_0 : decode cJ6_bitCount_0f7a4 0 = .ok (.iload_n 0, 1) := by decide +kernel
theorem dJ6_bitCount_0f7a4_1 : decode cJ6_bitCount_0f7a4 1 = .ok (.iload_n 0, 1) := by decide +kernel
theorem dJ6_bitCount_0f7a4_2 : decode cJ6_bitCount_0f7a4 2 = .ok (.iconst 1, 1) := by decide +kernel
theorem dJ6_bitCount_0f7a4_3 : decode cJ6_bitCount_0f7a4 3 = .ok (.iushr, 1) := by decide +kernel
theorem dJ6_bitCount_0f7a4_4 : decode cJ6_bitCount_0f7a4 4 = .ok (.ldc_w 265, 3) := by decide +kernel
theorem dJ6_bitCount_0f7a4_7 : decode cJ6_bitCount_0f7a4 7 = .ok (.iand, 1) := by decide +kernel
theorem dJ6_bitCount_0f7a4_8 : decode cJ6_bitCount_0f7a4 8 = .ok (.isub, 1) := by decide +kernel
theorem dJ6_bitCount_0f7a4_9 : decode cJ6_bitCount_0f7a4 9 = .ok (.istore_n 0, 1) := by decide +kernel
theorem dJ6_bitCount_0f7a4_10 : decode cJ6_bitCount_0f7a4 10 = .ok (.iload_n 0, 1) := by decide +kernel
theorem dJ6_bitCount_0f7a4_11 : decode cJ6_bitCount_0f7a4 11 = .ok (.ldc_w 266, 3) := by decide +kernel
theorem dJ6_bitCount_0f7a4_14 : decode cJ6_bitCount_0f7a4 14 = .ok (.iand, 1) := by decide +kernel
theorem dJ6_bitCount_0f7a4_15 : decode cJ6_bitCount_0f7a4 15 = .ok (.iload_n 0, 1) := by decide +kernel
theorem dJ6_bitCount_0f7a4_16 : decode cJ6_bitCount_0f7a4 16 = .ok (.iconst 2, 1) := by decide +kernel
theorem dJ6_bitCount_0f7a4_17 : decode cJ6_bitCount_0f7a4 17 = .ok (.iushr, 1) := by decide +kernel
theorem dJ6_bitCount_0f7a4_18 : decode cJ6_bitCount_0f7a4 18 = .ok (.ldc_w 266, 3) := by decide +kernel
theorem dJ6_bitCount_0f7a4_21 : decode cJ6_bitCount_0f7a4 21 = .ok (.iand, 1) := by decide +kernel
theorem dJ6_bitCount_0f7a4_22 : decode cJ6_bitCount_0f7a4 22 = .ok (.iadd, 1) := by decide +kernel
theorem dJ6_bitCount_0f7a4_23 : decode cJ6_bitCount_0f7a4 23 = .ok (.istore_n 0, 1) := by decide +kernel
theorem dJ6_bitCount_0f7a4_24 : decode cJ6_bitCount_0f7a4 24 = .ok (.iload_n 0, 1) := by decide +kernel
theorem dJ6_bitCount_0f7a4_25 : decode cJ6_bitCount_0f7a4 25 = .ok (.iload_n 0, 1) := by decide +kernel
theorem dJ6_bitCount_0f7a4_26 : decode cJ6_bitCount_0f7a4 26 = .ok (.iconst 4, 1) := by decide +kernel
theorem dJ6_bitCount_0f7a4_27 : decode cJ6_bitCount_0f7a4 27 = .ok (.iushr, 1) := by decide +kernel
theorem dJ6_bitCount_0f7a4_28 : decode cJ6_bitCount_0f7a4 28 = .ok (.iadd, 1) := by decide +kernel
theorem dJ6_bitCount_0f7a4_29 : decode cJ6_bitCount_0f7a4 29 = .ok (.ldc_w 267, 3) := by decide +kernel
theorem dJ6_bitCount_0f7a4_32 : decode cJ6_bitCount_0f7a4 32 = .ok (.iand, 1) := by decide +kernel
theorem dJ6_bitCount_0f7a4_33 : decode cJ6_bitCount_0f7a4 33 = .ok (.istore_n 0, 1) := by decide +kernel
theorem dJ6_bitCount_0f7a4_34 : decode cJ6_bitCount_0f7a4 34 = .ok (.iload_n 0, 1) := by decide +kernel
theorem dJ6_bitCount_0f7a4_35 : decode cJ6_bitCount_0f7a4 35 = .ok (.iload_n 0, 1) := by decide +kernel
theorem dJ6_bitCount_0f7a4_36 : decode cJ6_bitCount_0f7a4 36 = .ok (.bipush 8, 2) := by decide +kernel
theorem dJ6_bitCount_0f7a4_38 : decode cJ6_bitCount_0f7a4 38 = .ok (.iushr, 1) := by decide +kernel
theorem dJ6_bitCount_0f7a4_39 : decode cJ6_bitCount_0f7a4 39 = .ok (.iadd, 1) := by decide +kernel
theorem dJ6_bitCount_0f7a4_40 : decode cJ6_bitCount_0f7a4 40 = .ok (.istore_n 0, 1) := by decide +kernel
theorem dJ6_bitCount_0f7a4_41 : decode cJ6_bitCount_0f7a4 41 = .ok (.iload_n 0, 1) := by decide +kernel
theorem dJ6_bitCount_0f7a4_42 : decode cJ6_bitCount_0f7a4 42 = .ok (.iload_n 0, 1) := by decide +kernel
theorem dJ6_bitCount_0f7a4_43 : decode cJ6_bitCount_0f7a4 43 = .ok (.bipush 16, 2) := by decide +kernel
theorem dJ6_bitCount_0f7a4_45 : decode cJ6_bitCount_0f7a4 45 = .ok (.iushr, 1) := by decide +kernel
theorem dJ6_bitCount_0f7a4_46 : decode cJ6_bitCount_0f7a4 46 = .ok (.iadd, 1) := by decide +kernel
theorem dJ6_bitCount_0f7a4_47 : decode cJ6_bitCount_0f7a4 47 = .ok (.istore_n 0, 1) := by decide +kernel
theorem dJ6_bitCount_0f7a4_48 : decode cJ6_bitCount_0f7a4 48 = .ok (.iload_n 0, 1) := by decide +kernel
theorem dJ6_bitCount_0f7a4_49 : decode cJ6_bitCount_0f7a4 49 = .ok (.bipush 63, 2) := by decide +kernel
theorem dJ6_bitCount_0f7a4_51 : decode cJ6_bitCount_0f7a4 51 = .ok (.iand, 1) := by decide +kernel
theorem dJ6_bitCount_0f7a4_52 : decode cJ6_bitCount_0f7a4 52 = .ok (.ireturn, 1) := by decide +kernel
theorem dJ6_numberOfTrailingZeros_0f7a4_0 : decode cJ6_numberOfTrailingZeros_0f7a4 0 = .ok (.iload_n 0, 1) := by decide +kernel
theorem dJ6_numberOfTrailingZeros_0f7a4_1 : decode cJ6_numberOfTrailingZeros_0f7a4 1 = .ok (.iconst (-1), 1) := by decide +kernel
theorem dJ6_numberOfTrailingZeros_0f7a4_2 : decode cJ6_numberOfTrailingZeros_0f7a4 2 = .ok (.ixor, 1) := by decide +kernel
theorem dJ6_numberOfTrailingZeros_0f7a4_3 : decode cJ6_numberOfTrailingZeros_0f7a4 3 = .ok (.iload_n 0, 1) := by decide +kernel
theorem dJ6_numberOfTrailingZeros_0f7a4_4 : decode cJ6_numberOfTrailingZeros_0f7a4 4 = .ok (.iconst 1, 1) := by decide +kernel
theorem dJ6_numberOfTrailingZeros_0f7a4_5 : decode cJ6_numberOfTrailingZeros_0f7a4 5 = .ok (.isub, 1) := by decide +kernel
theorem dJ6_numberOfTrailingZeros_0f7a4_6 : decode cJ6_numberOfTrailingZeros_0f7a4 6 = .ok (.iand, 1) := by decide +kernel
theorem dJ6_numberOfTrailingZeros_0f7a4_7 : decode cJ6_numberOfTrailingZeros_0f7a4 7 = .ok (.istore_n 0, 1) := by decide +kernel
theorem dJ6_numberOfTrailingZeros_0f7a4_8 : decode cJ6_numberOfTrailingZeros_0f7a4 8 = .ok (.iload_n 0, 1) := by decide +kernel
theorem dJ6_numberOfTrailingZeros_0f7a4_9 : decode cJ6_numberOfTrailingZeros_0f7a4 9 = .ok (.ifCond .gt 8, 3) := by decide +kernel
theorem dJ6_numberOfTrailingZeros_0f7a4_12 : decode cJ6_numberOfTrailingZeros_0f7a4 12 = .ok (.iload_n 0, 1) := by decide +kernel
theorem dJ6_numberOfTrailingZeros_0f7a4_13 : decode cJ6_numberOfTrailingZeros_0f7a4 13 = .ok (.bipush 32, 2) := by decide +kernel
theorem dJ6_numberOfTrailingZeros_0f7a4_15 : decode cJ6_numberOfTrailingZeros_0f7a4 15 = .ok (.iand, 1) := by decide +kernel
theorem dJ6_numberOfTrailingZeros_0f7a4_16 : decode cJ6_numberOfTrailingZeros_0f7a4 16 = .ok (.ireturn, 1) := by decide +kernel
theorem dJ6_numberOfTrailingZeros_0f7a4_17 : decode cJ6_numberOfTrailingZeros_0f7a4 17 = .ok (.iconst 1, 1) := by decide +kernel
theorem dJ6_numberOfTrailingZeros_0f7a4_18 : decode cJ6_numberOfTrailingZeros_0f7a4 18 = .ok (.istore_n 1, 1) := by decide +kernel
theorem dJ6_numberOfTrailingZeros_0f7a4_19 : decode cJ6_numberOfTrailingZeros_0f7a4 19 = .ok (.iload_n 0, 1) := by decide +kernel
theorem dJ6_numberOfTrailingZeros_0f7a4_20 : decode cJ6_numberOfTrailingZeros_0f7a4 20 = .ok (.ldc_w 264, 3) := by decide +kernel
theorem dJ6_numberOfTrailingZeros_0f7a4_23 : decode cJ6_numberOfTrailingZeros_0f7a4 23 = .ok (.if_icmp .le 11, 3) := by decide +kernel
theorem dJ6_numberOfTrailingZeros_0f7a4_26 : decode cJ6_numberOfTrailingZeros_0f7a4 26 = .ok (.iinc 1 16, 3) := by decide +kernel
theorem dJ6_numberOfTrailingZeros_0f7a4_29 : decode cJ6_numberOfTrailingZeros_0f7a4 29 = .ok (.iload_n 0, 1) := by decide +kernel
theorem dJ6_numberOfTrailingZeros_0f7a4_30 : decode cJ6_numberOfTrailingZeros_0f7a4 30 = .ok (.bipush 16, 2) := by decide +kernel
theorem dJ6_numberOfTrailingZeros_0f7a4_32 : decode cJ6_numberOfTrailingZeros_0f7a4 32 = .ok (.iushr, 1) := by decide +kernel
theorem dJ6_numberOfTrailingZeros_0f7a4_33 : decode cJ6_numberOfTrailingZeros_0f7a4 33 = .ok (.istore_n 0, 1) := by decide +kernel
theorem dJ6_numberOfTrailingZeros_0f7a4_34 : decode cJ6_numberOfTrailingZeros_0f7a4 34 = .ok (.iload_n 0, 1) := by decide +kernel
theorem dJ6_numberOfTrailingZeros_0f7a4_35 : decode cJ6_numberOfTrailingZeros_0f7a4 35 = .ok (.sipush 256, 3) := by decide +kernel
theorem dJ6_numberOfTrailingZeros_0f7a4_38 : decode cJ6_numberOfTrailingZeros_0f7a4 38 = .ok (.if_icmp .le 11, 3) := by decide +kernel
theorem dJ6_numberOfTrailingZeros_0f7a4_41 : decode cJ6_numberOfTrailingZeros_0f7a4 41 = .ok (.iinc 1 8, 3) := by decide +kernel
theorem dJ6_numberOfTrailingZeros_0f7a4_44 : decode cJ6_numberOfTrailingZeros_0f7a4 44 = .ok (.iload_n 0, 1) := by decide +kernel
theorem dJ6_numberOfTrailingZeros_0f7a4_45 : decode cJ6_numberOfTrailingZeros_0f7a4 45 = .ok (.bipush 8, 2) := by decide +kernel
theorem dJ6_numberOfTrailingZeros_0f7a4_47 : decode cJ6_numberOfTrailingZeros_0f7a4 47 = .ok (.iushr, 1) := by decide +kernel
theorem dJ6_numberOfTrailingZeros_0f7a4_48 : decode cJ6_numberOfTrailingZeros_0f7a4 48 = .ok (.istore_n 0, 1) := by decide +kernel
theorem dJ6_numberOfTrailingZeros_0f7a4_49 : decode cJ6_numberOfTrailingZeros_0f7a4 49 = .ok (.iload_n 0, 1) := by decide +kernel
theorem dJ6_numberOfTrailingZeros_0f7a4_50 : decode cJ6_numberOfTrailingZeros_0f7a4 50 = .ok (.bipush 16, 2) := by decide +kernel
theorem dJ6_numberOfTrailingZeros_0f7a4_52 : decode cJ6_numberOfTrailingZeros_0f7a4 52 = .ok (.if_icmp .le 10, 3) := by decide +kernel
theorem dJ6_numberOfTrailingZeros_0f7a4_55 : decode cJ6_numberOfTrailingZeros_0f7a4 55 = .ok (.iinc 1 4, 3) := by decide +kernel
theorem dJ6_numberOfTrailingZeros_0f7a4_58 : decode cJ6_numberOfTrailingZeros_0f7a4 58 = .ok (.iload_n 0, 1) := by decide +kernel
theorem dJ6_numberOfTrailingZeros_0f7a4_59 : decode cJ6_numberOfTrailingZeros_0f7a4 59 = .ok (.iconst 4, 1) := by decide +kernel
theorem dJ6_numberOfTrailingZeros_0f7a4_60 : decode cJ6_numberOfTrailingZeros_0f7a4 60 = .ok (.iushr, 1) := by decide +kernel
theorem dJ6_numberOfTrailingZeros_0f7a4_61 : decode cJ6_numberOfTrailingZeros_0f7a4 61 = .ok (.istore_n 0, 1) := by decide +kernel
theorem dJ6_numberOfTrailingZeros_0f7a4_62 : decode cJ6_numberOfTrailingZeros_0f7a4 62 = .ok (.iload_n 0, 1) := by decide +kernel
theorem dJ6_numberOfTrailingZeros_0f7a4_63 : decode cJ6_numberOfTrailingZeros_0f7a4 63 = .ok (.iconst 4, 1) := by decide +kernel
theorem dJ6_numberOfTrailingZeros_0f7a4_64 : decode cJ6_numberOfTrailingZeros_0f7a4 64 = .ok (.if_icmp .le 10, 3) := by decide +kernel
theorem dJ6_numberOfTrailingZeros_0f7a4_67 : decode cJ6_numberOfTrailingZeros_0f7a4 67 = .ok (.iinc 1 2, 3) := by decide +kernel
theorem dJ6_numberOfTrailingZeros_0f7a4_70 : decode cJ6_numberOfTrailingZeros_0f7a4 70 = .ok (.iload_n 0, 1) := by decide +kernel
theorem dJ6_numberOfTrailingZeros_0f7a4_71 : decode cJ6_numberOfTrailingZeros_0f7a4 71 = .ok (.iconst 2, 1) := by decide +kernel
theorem dJ6_numberOfTrailingZeros_0f7a4_72 : decode cJ6_numberOfTrailingZeros_0f7a4 72 = .ok (.iushr, 1) := by decide +kernel
theorem dJ6_numberOfTrailingZeros_0f7a4_73 : decode cJ6_numberOfTrailingZeros_0f7a4 73 = .ok (.istore_n 0, 1) := by decide +kernel
theorem dJ6_numberOfTrailingZeros_0f7a4_74 : decode cJ6_numberOfTrailingZeros_0f7a4 74 = .ok (.iload_n 1, 1) := by decide +kernel
theorem dJ6_numberOfTrailingZeros_0f7a4_75 : decode cJ6_numberOfTrailingZeros_0f7a4 75 = .ok (.iload_n 0, 1) := by decide +kernel
theorem dJ6_numberOfTrailingZeros_0f7a4_76 : decode cJ6_numberOfTrailingZeros_0f7a4 76 = .ok (.iconst 1, 1) := by decide +kernel
theorem dJ6_numberOfTrailingZeros_0f7a4_77 : decode cJ6_numberOfTrailingZeros_0f7a4 77 = .ok (.iushr, 1) := by decide +kernel
theorem dJ6_numberOfTrailingZeros_0f7a4_78 : decode cJ6_numberOfTrailingZeros_0f7a4 78 = .ok (.iadd, 1) := by decide +kernel
theorem dJ6_numberOfTrailingZeros_0f7a4_79 : decode cJ6_numberOfTrailingZeros_0f7a4 79 = .ok (.ireturn, 1) := by decide +kernel
theorem dX11_spotOf_0 : decode cX11_spotOf 0 = .ok (.iload_n 0, 1) := by decide +kernel
theorem dX11_spotOf_1 : decode cX11_spotOf 1 = .ok (.bipush 20, 2) := by decide +kernel
theorem dX11_spotOf_3 : decode cX11_spotOf 3 = .ok (.imul, 1) := by decide +kernel
theorem dX11_spotOf_4 : decode cX11_spotOf 4 = .ok (.iload_n 1, 1) := by decide +kernel
theorem dX11_spotOf_5 : decode cX11_spotOf 5 = .ok (.iadd, 1) := by decide +kernel
theorem dX11_spotOf_6 : decode cX11_spotOf 6 = .ok (.ireturn, 1) := by decide +kernel
theorem dX11_channelOf_0 : decode cX11_channelOf 0 = .ok (.iload_n 0, 1) := by decide +kernel
theorem dX11_channelOf_1 : decode cX11_channelOf 1 = .ok (.bipush 6, 2) := by decide +kernel
theorem dX11_channelOf_3 : decode cX11_channelOf 3 = .ok (.imul, 1) := by decide +kernel
theorem dX11_channelOf_4 : decode cX11_channelOf 4 = .ok (.iload_n 1, 1) := by decide +kernel
theorem dX11_channelOf_5 : decode cX11_channelOf 5 = .ok (.iadd, 1) := by decide +kernel
theorem dX11_channelOf_6 : decode cX11_channelOf 6 = .ok (.ireturn, 1) := by decide +kernel
theorem dX11_stampOf_0 : decode cX11_stampOf 0 = .ok (.iload_n 0, 1) := by decide +kernel
theorem dX11_stampOf_1 : decode cX11_stampOf 1 = .ok (.iconst 3, 1) := by decide +kernel
theorem dX11_stampOf_2 : decode cX11_stampOf 2 = .ok (.ishl, 1) := by decide +kernel
theorem dX11_stampOf_3 : decode cX11_stampOf 3 = .ok (.iload_n 1, 1) := by decide +kernel
theorem dX11_stampOf_4 : decode cX11_stampOf 4 = .ok (.ior, 1) := by decide +kernel
theorem dX11_stampOf_5 : decode cX11_stampOf 5 = .ok (.ireturn, 1) := by decide +kernel
theorem dX11_numberOf_0 : decode cX11_numberOf 0 = .ok (.iload_n 0, 1) := by decide +kernel
theorem dX11_numberOf_1 : decode cX11_numberOf 1 = .ok (.iconst (-1), 1) := by decide +kernel
theorem dX11_numberOf_2 : decode cX11_numberOf 2 = .ok (.if_icmp .ne 7, 3) := by decide +kernel
theorem dX11_numberOf_5 : decode cX11_numberOf 5 = .ok (.iconst (-1), 1) := by decide +kernel
theorem dX11_numberOf_6 : decode cX11_numberOf 6 = .ok (.goto 6, 3) := by decide +kernel
theorem dX11_numberOf_9 : decode cX11_numberOf 9 = .ok (.iload_n 0, 1) := by decide +kernel
theorem dX11_numberOf_10 : decode cX11_numberOf 10 = .ok (.iconst 3, 1) := by decide +kernel
theorem dX11_numberOf_11 : decode cX11_numberOf 11 = .ok (.ishr, 1) := by decide +kernel
theorem dX11_numberOf_12 : decode cX11_numberOf 12 = .ok (.ireturn, 1) := by decide +kernel
theorem dX11_nodeOf_0 : decode cX11_nodeOf 0 = .ok (.iload_n 0, 1) := by decide +kernel
theorem dX11_nodeOf_1 : decode cX11_nodeOf 1 = .ok (.iconst (-1), 1) := by decide +kernel
theorem dX11_nodeOf_2 : decode cX11_nodeOf 2 = .ok (.if_icmp .ne 7, 3) := by decide +kernel
theorem dX11_nodeOf_5 : decode cX11_nodeOf 5 = .ok (.iconst (-1), 1) := by decide +kernel
theorem dX11_nodeOf_6 : decode cX11_nodeOf 6 = .ok (.goto 7, 3) := by decide +kernel
theorem dX11_nodeOf_9 : decode cX11_nodeOf 9 = .ok (.iload_n 0, 1) := by decide +kernel
theorem dX11_nodeOf_10 : decode cX11_nodeOf 10 = .ok (.bipush 7, 2) := by decide +kernel
theorem dX11_nodeOf_12 : decode cX11_nodeOf 12 = .ok (.iand, 1) := by decide +kernel
theorem dX11_nodeOf_13 : decode cX11_nodeOf 13 = .ok (.ireturn, 1) := by decide +kernel
theorem dX11_isIn_0 : decode cX11_isIn 0 = .ok (.iload_n 0, 1) := by decide +kernel
theorem dX11_isIn_1 : decode cX11_isIn 1 = .ok (.iload_n 1, 1) := by decide +kernel
theorem dX11_isIn_2 : decode cX11_isIn 2 = .ok (.ishr, 1) := by decide +kernel
theorem dX11_isIn_3 : decode cX11_isIn 3 = .ok (.iconst 1, 1) := by decide +kernel
theorem dX11_isIn_4 : decode cX11_isIn 4 = .ok (.iand, 1) := by decide +kernel
theorem dX11_isIn_5 : decode cX11_isIn 5 = .ok (.ifCond .eq 7, 3) := by decide +kernel
theorem dX11_isIn_8 : decode cX11_isIn 8 = .ok (.iconst 1, 1) := by decide +kernel
theorem dX11_isIn_9 : decode cX11_isIn 9 = .ok (.goto 4, 3) := by decide +kernel
theorem dX11_isIn_12 : decode cX11_isIn 12 = .ok (.iconst 0, 1) := by decide +kernel
theorem dX11_isIn_13 : decode cX11_isIn 13 = .ok (.ireturn, 1) := by decide +kernel
theorem dX12_in_0 : decode cX12_in 0 = .ok (.iload_n 0, 1) := by decide +kernel
theorem dX12_in_1 : decode cX12_in 1 = .ok (.iload_n 1, 1) := by decide +kernel
theorem dX12_in_2 : decode cX12_in 2 = .ok (.if_icmp .lt 12, 3) := by decide +kernel
theorem dX12_in_5 : decode cX12_in 5 = .ok (.iload_n 0, 1) := by decide +kernel
theorem dX12_in_6 : decode cX12_in 6 = .ok (.iload_n 2, 1) := by decide +kernel
theorem dX12_in_7 : decode cX12_in 7 = .ok (.if_icmp .gt 7, 3) := by decide +kernel
theorem dX12_in_10 : decode cX12_in 10 = .ok (.iconst 1, 1) := by decide +kernel
theorem dX12_in_11 : decode cX12_in 11 = .ok (.goto 4, 3) := by decide +kernel
theorem dX12_in_14 : decode cX12_in 14 = .ok (.iconst 0, 1) := by decide +kernel
theorem dX12_in_15 : decode cX12_in 15 = .ok (.ireturn, 1) := by decide +kernel
theorem dX12_holds_0 : decode cX12_holds 0 = .ok (.iload_n 0, 1) := by decide +kernel
theorem dX12_holds_1 : decode cX12_holds 1 = .ok (.iload_n 1, 1) := by decide +kernel
theorem dX12_holds_2 : decode cX12_holds 2 = .ok (.ishr, 1) := by decide +kernel
theorem dX12_holds_3 : decode cX12_holds 3 = .ok (.iconst 1, 1) := by decide +kernel
theorem dX12_holds_4 : decode cX12_holds 4 = .ok (.iand, 1) := by decide +kernel
theorem dX12_holds_5 : decode cX12_holds 5 = .ok (.iconst 1, 1) := by decide +kernel
theorem dX12_holds_6 : decode cX12_holds 6 = .ok (.if_icmp .ne 7, 3) := by decide +kernel
theorem dX12_holds_9 : decode cX12_holds 9 = .ok (.iconst 1, 1) := by decide +kernel
theorem dX12_holds_10 : decode cX12_holds 10 = .ok (.goto 4, 3) := by decide +kernel
theorem dX12_holds_13 : decode cX12_holds 13 = .ok (.iconst 0, 1) := by decide +kernel
theorem dX12_holds_14 : decode cX12_holds 14 = .ok (.ireturn, 1) := by decide +kernel
theorem dX12_nodeAt_0 : decode cX12_nodeAt 0 = .ok (.bipush 17, 2) := by decide +kernel
theorem dX12_nodeAt_2 : decode cX12_nodeAt 2 = .ok (.sipush 245, 3) := by decide +kernel
theorem dX12_nodeAt_5 : decode cX12_nodeAt 5 = .ok (.iload_n 0, 1) := by decide +kernel
theorem dX12_nodeAt_6 : decode cX12_nodeAt 6 = .ok (.imul, 1) := by decide +kernel
theorem dX12_nodeAt_7 : decode cX12_nodeAt 7 = .ok (.iadd, 1) := by decide +kernel
theorem dX12_nodeAt_8 : decode cX12_nodeAt 8 = .ok (.iload_n 1, 1) := by decide +kernel
theorem dX12_nodeAt_9 : decode cX12_nodeAt 9 = .ok (.iadd, 1) := by decide +kernel
theorem dX12_nodeAt_10 : decode cX12_nodeAt 10 = .ok (.ireturn, 1) := by decide +kernel
theorem dX12_pairAt_0 : decode cX12_pairAt 0 = .ok (.iload_n 0, 1) := by decide +kernel
theorem dX12_pairAt_1 : decode cX12_pairAt 1 = .ok (.bipush 25, 2) := by decide +kernel
theorem dX12_pairAt_3 : decode cX12_pairAt 3 = .ok (.bipush 11, 2) := by decide +kernel
theorem dX12_pairAt_5 : decode cX12_pairAt 5 = .ok (.iload_n 1, 1) := by decide +kernel
theorem dX12_pairAt_6 : decode cX12_pairAt 6 = .ok (.imul, 1) := by decide +kernel
theorem dX12_pairAt_7 : decode cX12_pairAt 7 = .ok (.iadd, 1) := by decide +kernel
theorem dX12_pairAt_8 : decode cX12_pairAt 8 = .ok (.iload_n 2, 1) := by decide +kernel
theorem dX12_pairAt_9 : decode cX12_pairAt 9 = .ok (.iadd, 1) := by decide +kernel
theorem dX12_pairAt_10 : decode cX12_pairAt 10 = .ok (.invokestatic 56, 3) := by decide +kernel
theorem dX12_pairAt_13 : decode cX12_pairAt 13 = .ok (.ireturn, 1) := by decide +kernel
theorem dX12_messageAt_0 : decode cX12_messageAt 0 = .ok (.sipush 1487, 3) := by decide +kernel
theorem dX12_messageAt_3 : decode cX12_messageAt 3 = .ok (.iconst 5, 1) := by decide +kernel
theorem dX12_messageAt_4 : decode cX12_messageAt 4 = .ok (.iload_n 0, 1) := by decide +kernel
theorem dX12_messageAt_5 : decode cX12_messageAt 5 = .ok (.imul, 1) := by decide +kernel
theorem dX12_messageAt_6 : decode cX12_messageAt 6 = .ok (.iadd, 1) := by decide +kernel
theorem dX12_messageAt_7 : decode cX12_messageAt 7 = .ok (.iload_n 1, 1) := by decide +kernel
theorem dX12_messageAt_8 : decode cX12_messageAt 8 = .ok (.iadd, 1) := by decide +kernel
theorem dX12_messageAt_9 : decode cX12_messageAt 9 = .ok (.ireturn, 1) := by decide +kernel
theorem dX12_channelAt_0 : decode cX12_channelAt 0 = .ok (.sipush 1859, 3) := by decide +kernel
theorem dX12_channelAt_3 : decode cX12_channelAt 3 = .ok (.sipush 844, 3) := by decide +kernel
theorem dX12_channelAt_6 : decode cX12_channelAt 6 = .ok (.bipush 6, 2) := by decide +kernel
theorem dX12_channelAt_8 : decode cX12_channelAt 8 = .ok (.iload_n 0, 1) := by decide +kernel
theorem dX12_channelAt_9 : decode cX12_channelAt 9 = .ok (.imul, 1) := by decide +kernel
theorem dX12_channelAt_10 : decode cX12_channelAt 10 = .ok (.iload_n 1, 1) := by decide +kernel
theorem dX12_channelAt_11 : decode cX12_channelAt 11 = .ok (.iadd, 1) := by decide +kernel
theorem dX12_channelAt_12 : decode cX12_channelAt 12 = .ok (.imul, 1) := by decide +kernel
theorem dX12_channelAt_13 : decode cX12_channelAt 13 = .ok (.iadd, 1) := by decide +kernel
theorem dX12_channelAt_14 : decode cX12_channelAt 14 = .ok (.iload_n 2, 1) := by decide +kernel
theorem dX12_channelAt_15 : decode cX12_channelAt 15 = .ok (.iadd, 1) := by decide +kernel
theorem dX12_channelAt_16 : decode cX12_channelAt 16 = .ok (.ireturn, 1) := by decide +kernel
theorem dX12_packetAt_0 : decode cX12_packetAt 0 = .ok (.iload_n 0, 1) := by decide +kernel
theorem dX12_packetAt_1 : decode cX12_packetAt 1 = .ok (.iload_n 1, 1) := by decide +kernel
theorem dX12_packetAt_2 : decode cX12_packetAt 2 = .ok (.iconst 4, 1) := by decide +kernel
theorem dX12_packetAt_3 : decode cX12_packetAt 3 = .ok (.bipush 6, 2) := by decide +kernel
theorem dX12_packetAt_5 : decode cX12_packetAt 5 = .ok (.iload_n 2, 1) := by decide +kernel
theorem dX12_packetAt_6 : decode cX12_packetAt 6 = .ok (.imul, 1) := by decide +kernel
theorem dX12_packetAt_7 : decode cX12_packetAt 7 = .ok (.iadd, 1) := by decide +kernel
theorem dX12_packetAt_8 : decode cX12_packetAt 8 = .ok (.iload_n 3, 1) := by decide +kernel
theorem dX12_packetAt_9 : decode cX12_packetAt 9 = .ok (.iadd, 1) := by decide +kernel
theorem dX12_packetAt_10 : decode cX12_packetAt 10 = .ok (.invokestatic 49, 3) := by decide +kernel
theorem dX12_packetAt_13 : decode cX12_packetAt 13 = .ok (.ireturn, 1) := by decide +kernel
theorem dX12_isLess_0 : decode cX12_isLess 0 = .ok (.iload_n 0, 1) := by decide +kernel
theorem dX12_isLess_1 : decode cX12_isLess 1 = .ok (.iload_n 2, 1) := by decide +kernel
theorem dX12_isLess_2 : decode cX12_isLess 2 = .ok (.if_icmp .lt 13, 3) := by decide +kernel
theorem dX12_isLess_5 : decode cX12_isLess 5 = .ok (.iload_n 0, 1) := by decide +kernel
theorem dX12_isLess_6 : decode cX12_isLess 6 = .ok (.iload_n 2, 1) := by decide +kernel
theorem dX12_isLess_7 : decode cX12_isLess 7 = .ok (.if_icmp .ne 12, 3) := by decide +kernel
theorem dX12_isLess_10 : decode cX12_isLess 10 = .ok (.iload_n 1, 1) := by decide +kernel
theorem dX12_isLess_11 : decode cX12_isLess 11 = .ok (.iload_n 3, 1) := by decide +kernel
theorem dX12_isLess_12 : decode cX12_isLess 12 = .ok (.if_icmp .ge 7, 3) := by decide +kernel
theorem dX12_isLess_15 : decode cX12_isLess 15 = .ok (.iconst 1, 1) := by decide +kernel
theorem dX12_isLess_16 : decode cX12_isLess 16 = .ok (.goto 4, 3) := by decide +kernel
theorem dX12_isLess_19 : decode cX12_isLess 19 = .ok (.iconst 0, 1) := by decide +kernel
theorem dX12_isLess_20 : decode cX12_isLess 20 = .ok (.ireturn, 1) := by decide +kernel
theorem dX0_isRing_0 : decode cX0_isRing 0 = .ok (.iload_n 0, 1) := by decide +kernel
theorem dX0_isRing_1 : decode cX0_isRing 1 = .ok (.iload_n 1, 1) := by decide +kernel
theorem dX0_isRing_2 : decode cX0_isRing 2 = .ok (.iand, 1) := by decide +kernel
theorem dX0_isRing_3 : decode cX0_isRing 3 = .ok (.ifCond .eq 27, 3) := by decide +kernel
theorem dX0_isRing_6 : decode cX0_isRing 6 = .ok (.iload_n 1, 1) := by decide +kernel
theorem dX0_isRing_7 : decode cX0_isRing 7 = .ok (.iload_n 2, 1) := by decide +kernel
theorem dX0_isRing_8 : decode cX0_isRing 8 = .ok (.iand, 1) := by decide +kernel
theorem dX0_isRing_9 : decode cX0_isRing 9 = .ok (.ifCond .eq 21, 3) := by decide +kernel
theorem dX0_isRing_12 : decode cX0_isRing 12 = .ok (.iload_n 0, 1) := by decide +kernel
theorem dX0_isRing_13 : decode cX0_isRing 13 = .ok (.iload_n 2, 1) := by decide +kernel
theorem dX0_isRing_14 : decode cX0_isRing 14 = .ok (.iand, 1) := by decide +kernel
theorem dX0_isRing_15 : decode cX0_isRing 15 = .ok (.ifCond .eq 15, 3) := by decide +kernel
theorem dX0_isRing_18 : decode cX0_isRing 18 = .ok (.iload_n 0, 1) := by decide +kernel
theorem dX0_isRing_19 : decode cX0_isRing 19 = .ok (.iload_n 1, 1) := by decide +kernel
theorem dX0_isRing_20 : decode cX0_isRing 20 = .ok (.iand, 1) := by decide +kernel
theorem dX0_isRing_21 : decode cX0_isRing 21 = .ok (.iload_n 2, 1) := by decide +kernel
theorem dX0_isRing_22 : decode cX0_isRing 22 = .ok (.iand, 1) := by decide +kernel
theorem dX0_isRing_23 : decode cX0_isRing 23 = .ok (.ifCond .ne 7, 3) := by decide +kernel
theorem dX0_isRing_26 : decode cX0_isRing 26 = .ok (.iconst 1, 1) := by decide +kernel
theorem dX0_isRing_27 : decode cX0_isRing 27 = .ok (.goto 4, 3) := by decide +kernel
theorem dX0_isRing_30 : decode cX0_isRing 30 = .ok (.iconst 0, 1) := by decide +kernel
theorem dX0_isRing_31 : decode cX0_isRing 31 = .ok (.ireturn, 1) := by decide +kernel
section S_05_pure
variable {p : Program} {l : Launch} {e : Env} {R : Room} {s : State} {m : MethodId} {args : Array Value} {below : List Frame} {meth : Method} {c : Code} {A : Nat → Prop} {D : va_G} {cI cB cL : ClassId} {ad : Nat → Nat} {pa pl : Nat}
noncomputable def fJ6_bitCount_0f7a4_0 (x0 : Int32) : Int32 := bnd (x0 - (((x0 : Int32).toUInt32 >>> ((1 : Int32).toUInt32 &&& Int32.toUInt32 31)).toInt32 &&& 1431655765)) (fun v1 => bnd ((v1 &&& 858993459) + (((v1 : Int32).toUInt32 >>> ((2 : Int32).toUInt32 &&& Int32.toUInt32 31)).toInt32 &&& 858993459)) (fun v2 => bnd ((v2 + ((v2 : Int32).toUInt32 >>> ((4 : Int32).toUInt32 &&& Int32.toUInt32 31)).toInt32) &&& 252645135) (fun v3 => bnd (v3 + ((v3 : Int32).toUInt32 >>> ((8 : Int32).toUInt32 &&& Int32.toUInt32 31)).toInt32) (fun v4 => bnd (v4 + ((v4 : Int32).toUInt32 >>> ((16 : Int32).toUInt32 &&& Int32.toUInt32 31)).toInt32) (fun v5 => (v5 &&& 63))))))
noncomputable def fJ6_bitCount_0f7a4 (x0 : Int32) : Int32 := fJ6_bitCount_0f7a4_0 x0
set_option maxRecDepth 10000 in
set_option maxHeartbeats 4000000 in
theorem wJ6_bitCount_0f7a4_0 (C : cx D (tyl cI cB cL) A RJ6 cJ6_bitCount_0f7a4 1 (some .int) p s m args c meth) (hR : 0 ≤ R.frames ∧ 0 ≤ R.locals) {r : Int32} (x0 : Int32) {H : Heap} {locs : List Loc} {ls : Array Slot} (hl : lv_has ls 1 [(0, .int x0)]) (S : st D w0 A s z0 H locs) (h : fJ6_bitCount_0f7a4_0 x0 = r) : W p l e R s m args below meth c H locs 0 0 (MQ below (qI D (tyl cI cB cL) w0 A r z0) args s 0 0 A) (F0 m 0 ls []) := by
  have hx := C.1
  have hb := C.2.1
  have hsz := hl.1
  unfold fJ6_bitCount_0f7a4_0 at h
  refine lv_iload_n hx hb dJ6_bitCount_0f7a4_0 rfl (lv_at hl 0 rfl) ?_
  refine lv_iload_n hx hb dJ6_bitCount_0f7a4_1 rfl (lv_at hl 0 rfl) ?_
  refine lv_iconst (v := 1) hx hb dJ6_bitCount_0f7a4_2 (by decide) ?_
  refine lv_iushr (v := ((x0 : Int32).toUInt32 >>> ((1 : Int32).toUInt32 &&& Int32.toUInt32 31)).toInt32) hx hb dJ6_bitCount_0f7a4_3 rfl ?_
  refine q_ldcw (v := 1431655765) C mw_0 dJ6_bitCount_0f7a4_4 ?_
  refine lv_iand hx hb dJ6_bitCount_0f7a4_7 ?_
  refine lv_isub hx hb dJ6_bitCount_0f7a4_8 ?_
  refine lv_topi (fun v1 ev1 => ?_)
  have h := bnd_of ev1 h
  refine lv_istore_n (lv' := [(0, .int v1)]) hx hb dJ6_bitCount_0f7a4_9 rfl hl (by decide) rfl (fun ls hl => ?_)
  have hsz := hl.1
  refine lv_iload_n hx hb dJ6_bitCount_0f7a4_10 rfl (lv_at hl 0 rfl) ?_
  refine q_ldcw (v := 858993459) C mw_1 dJ6_bitCount_0f7a4_11 ?_
  refine lv_iand hx hb dJ6_bitCount_0f7a4_14 ?_
  refine lv_iload_n hx hb dJ6_bitCount_0f7a4_15 rfl (lv_at hl 0 rfl) ?_
  refine lv_iconst (v := 2) hx hb dJ6_bitCount_0f7a4_16 (by decide) ?_
  refine lv_iushr (v := ((v1 : Int32).toUInt32 >>> ((2 : Int32).toUInt32 &&& Int32.toUInt32 31)).toInt32) hx hb dJ6_bitCount_0f7a4_17 rfl ?_
  refine q_ldcw (v := 858993459) C mw_1 dJ6_bitCount_0f7a4_18 ?_
  refine lv_iand hx hb dJ6_bitCount_0f7a4_21 ?_
  refine lv_iadd hx hb dJ6_bitCount_0f7a4_22 ?_
  refine lv_topi (fun v2 ev2 => ?_)
  have h := bnd_of ev2 h
  refine lv_istore_n (lv' := [(0, .int v2)]) hx hb dJ6_bitCount_0f7a4_23 rfl hl (by decide) rfl (fun ls hl => ?_)
  have hsz := hl.1
  refine lv_iload_n hx hb dJ6_bitCount_0f7a4_24 rfl (lv_at hl 0 rfl) ?_
  refine lv_iload_n hx hb dJ6_bitCount_0f7a4_25 rfl (lv_at hl 0 rfl) ?_
  refine lv_iconst (v := 4) hx hb dJ6_bitCount_0f7a4_26 (by decide) ?_
  refine lv_iushr (v := ((v2 : Int32).toUInt32 >>> ((4 : Int32).toUInt32 &&& Int32.toUInt32 31)).toInt32) hx hb dJ6_bitCount_0f7a4_27 rfl ?_
  refine lv_iadd hx hb dJ6_bitCount_0f7a4_28 ?_
  refine q_ldcw (v := 252645135) C mw_2 dJ6_bitCount_0f7a4_29 ?_
  refine lv_iand hx hb dJ6_bitCount_0f7a4_32 ?_
  refine lv_topi (fun v3 ev3 => ?_)
  have h := bnd_of ev3 h
  refine lv_istore_n (lv' := [(0, .int v3)]) hx hb dJ6_bitCount_0f7a4_33 rfl hl (by decide) rfl (fun ls hl => ?_)
  have hsz := hl.1
  refine lv_iload_n hx hb dJ6_bitCount_0f7a4_34 rfl (lv_at hl 0 rfl) ?_
  refine lv_iload_n hx hb dJ6_bitCount_0f7a4_35 rfl (lv_at hl 0 rfl) ?_
  refine lv_bipush (v := 8) hx hb dJ6_bitCount_0f7a4_36 (by decide) ?_
  refine lv_iushr (v := ((v3 : Int32).toUInt32 >>> ((8 : Int32).toUInt32 &&& Int32.toUInt32 31)).toInt32) hx hb dJ6_bitCount_0f7a4_38 rfl ?_
  refine lv_iadd hx hb dJ6_bitCount_0f7a4_39 ?_
  refine lv_topi (fun v4 ev4 => ?_)
  have h := bnd_of ev4 h
  refine lv_istore_n (lv' := [(0, .int v4)]) hx hb dJ6_bitCount_0f7a4_40 rfl hl (by decide) rfl (fun ls hl => ?_)
  have hsz := hl.1
  refine lv_iload_n hx hb dJ6_bitCount_0f7a4_41 rfl (lv_at hl 0 rfl) ?_
  refine lv_iload_n hx hb dJ6_bitCount_0f7a4_42 rfl (lv_at hl 0 rfl) ?_
  refine lv_bipush (v := 16) hx hb dJ6_bitCount_0f7a4_43 (by decide) ?_
  refine lv_iushr (v := ((v4 : Int32).toUInt32 >>> ((16 : Int32).toUInt32 &&& Int32.toUInt32 31)).toInt32) hx hb dJ6_bitCount_0f7a4_45 rfl ?_
  refine lv_iadd hx hb dJ6_bitCount_0f7a4_46 ?_
  refine lv_topi (fun v5 ev5 => ?_)
  have h := bnd_of ev5 h
  refine lv_istore_n (lv' := [(0, .int v5)]) hx hb dJ6_bitCount_0f7a4_47 rfl hl (by decide) rfl (fun ls hl => ?_)
  have hsz := hl.1
  refine lv_iload_n hx hb dJ6_bitCount_0f7a4_48 rfl (lv_at hl 0 rfl) ?_
  refine lv_bipush (v := 63) hx hb dJ6_bitCount_0f7a4_49 (by decide) ?_
  refine lv_iand hx hb dJ6_bitCount_0f7a4_51 ?_
  exact q_iret C S (rt_P h) dJ6_bitCount_0f7a4_52
set_option maxRecDepth 10000 in
set_option maxHeartbeats 4000000 in
theorem ct_J6_bitCount_0f7a4 (l : Launch) (D : va_G) (cI cB cL : ClassId) (x0 : Int32) : metP l D (tyl cI cB cL) yJ6_bitCount_0f7a4 cJ6_bitCount_0f7a4 1 (some .int) 0 0 [.int x0] (fJ6_bitCount_0f7a4 x0) := by
  intro sz
  refine Met.ofW (cc := cJ6_bitCount_0f7a4) (maxL := 1) (ret := (some .int)) (by decide) rfl ?_
  intro p e s m args below meth c s₁ B hml hv
  obtain ⟨rfl, C, S⟩ := q_entry B hml hv
  have hl := lv_entry ([.int x0]) (n := 1) (Nat.le_of_ble_eq_true rfl)
  rw [lg_entry_eq]
  generalize (lg_sl ([.int x0]) ++ List.replicate (1 - (lg_sl ([.int x0])).length) Slot.unset).toArray = ls at hl ⊢
  exact wJ6_bitCount_0f7a4_0 C ⟨Nat.le_refl _, Nat.le_refl _⟩ x0 (lv_sub hl [0] rfl) S rfl
noncomputable def fJ6_numberOfTrailingZeros_0f7a4_74 (x0 : Int32) (x1 : Int32) : Int32 := (x1 + ((x0 : Int32).toUInt32 >>> ((1 : Int32).toUInt32 &&& Int32.toUInt32 31)).toInt32)
noncomputable def fJ6_numberOfTrailingZeros_0f7a4_62 (x0 : Int32) (x1 : Int32) : Int32 := cnd (x0 ≤ 4) (fJ6_numberOfTrailingZeros_0f7a4_74 x0 x1) (bnd (x1 + 2) (fun v7 => bnd (((x0 : Int32).toUInt32 >>> ((2 : Int32).toUInt32 &&& Int32.toUInt32 31)).toInt32) (fun v8 => fJ6_numberOfTrailingZeros_0f7a4_74 v8 v7)))
noncomputable def fJ6_numberOfTrailingZeros_0f7a4_49 (x0 : Int32) (x1 : Int32) : Int32 := cnd (x0 ≤ 16) (fJ6_numberOfTrailingZeros_0f7a4_62 x0 x1) (bnd (x1 + 4) (fun v9 => bnd (((x0 : Int32).toUInt32 >>> ((4 : Int32).toUInt32 &&& Int32.toUInt32 31)).toInt32) (fun v10 => fJ6_numberOfTrailingZeros_0f7a4_62 v10 v9)))
noncomputable def fJ6_numberOfTrailingZeros_0f7a4_34 (x0 : Int32) (x1 : Int32) : Int32 := cnd (x0 ≤ 256) (fJ6_numberOfTrailingZeros_0f7a4_49 x0 x1) (bnd (x1 + 8) (fun v11 => bnd (((x0 : Int32).toUInt32 >>> ((8 : Int32).toUInt32 &&& Int32.toUInt32 31)).toInt32) (fun v12 => fJ6_numberOfTrailingZeros_0f7a4_49 v12 v11)))
noncomputable def fJ6_numberOfTrailingZeros_0f7a4_0 (x0 : Int32) : Int32 := bnd ((x0 ^^^ (-1)) &&& (x0 - 1)) (fun v1 => cnd (0 < v1) (cnd (v1 ≤ 65536) (fJ6_numberOfTrailingZeros_0f7a4_34 v1 1) (bnd (1 + 16) (fun v13 => bnd (((v1 : Int32).toUInt32 >>> ((16 : Int32).toUInt32 &&& Int32.toUInt32 31)).toInt32) (fun v14 => fJ6_numberOfTrailingZeros_0f7a4_34 v14 v13)))) ((v1 &&& 32)))
noncomputable def fJ6_numberOfTrailingZeros_0f7a4 (x0 : Int32) : Int32 := fJ6_numberOfTrailingZeros_0f7a4_0 x0
set_option maxRecDepth 10000 in
set_option maxHeartbeats 4000000 in
theorem wJ6_numberOfTrailingZeros_0f7a4_74 (C : cx D (tyl cI cB cL) A RJ6 cJ6_numberOfTrailingZeros_0f7a4 2 (some .int) p s m args c meth) (hR : 0 ≤ R.frames ∧ 0 ≤ R.locals) {r : Int32} (x0 : Int32) (x1 : Int32) {H : Heap} {locs : List Loc} {ls : Array Slot} (hl : lv_has ls 2 [(0, .int x0), (1, .int x1)]) (S : st D w0 A s z0 H locs) (h : fJ6_numberOfTrailingZeros_0f7a4_74 x0 x1 = r) : W p l e R s m args below meth c H locs 0 0 (MQ below (qI D (tyl cI cB cL) w0 A r z0) args s 0 0 A) (F0 m 74 ls []) := by
  have hx := C.1
  have hb := C.2.1
  have hsz := hl.1
  unfold fJ6_numberOfTrailingZeros_0f7a4_74 at h
  refine lv_iload_n hx hb dJ6_numberOfTrailingZeros_0f7a4_74 rfl (lv_at hl 1 rfl) ?_
  refine lv_iload_n hx hb dJ6_numberOfTrailingZeros_0f7a4_75 rfl (lv_at hl 0 rfl) ?_
  refine lv_iconst (v := 1) hx hb dJ6_numberOfTrailingZeros_0f7a4_76 (by decide) ?_
  refine lv_iushr (v := ((x0 : Int32).toUInt32 >>> ((1 : Int32).toUInt32 &&& Int32.toUInt32 31)).toInt32) hx hb dJ6_numberOfTrailingZeros_0f7a4_77 rfl ?_
  refine lv_iadd hx hb dJ6_numberOfTrailingZeros_0f7a4_78 ?_
  exact q_iret C S (rt_P h) dJ6_numberOfTrailingZeros_0f7a4_79
set_option maxRecDepth 10000 in
set_option maxHeartbeats 4000000 in
theorem wJ6_numberOfTrailingZeros_0f7a4_62 (C : cx D (tyl cI cB cL) A RJ6 cJ6_numberOfTrailingZeros_0f7a4 2 (some .int) p s m args c meth) (hR : 0 ≤ R.frames ∧ 0 ≤ R.locals) {r : Int32} (x0 : Int32) (x1 : Int32) {H : Heap} {locs : List Loc} {ls : Array Slot} (hl : lv_has ls 2 [(0, .int x0), (1, .int x1)]) (S : st D w0 A s z0 H locs) (h : fJ6_numberOfTrailingZeros_0f7a4_62 x0 x1 = r) : W p l e R s m args below meth c H locs 0 0 (MQ below (qI D (tyl cI cB cL) w0 A r z0) args s 0 0 A) (F0 m 62 ls []) := by
  have hx := C.1
  have hb := C.2.1
  have hsz := hl.1
  unfold fJ6_numberOfTrailingZeros_0f7a4_62 at h
  refine lv_iload_n hx hb dJ6_numberOfTrailingZeros_0f7a4_62 rfl (lv_at hl 0 rfl) ?_
  refine lv_iconst (v := 4) hx hb dJ6_numberOfTrailingZeros_0f7a4_63 (by decide) ?_
  refine lv_icmp_le (tgt := 74) hx hb dJ6_numberOfTrailingZeros_0f7a4_64 (by decide) (fun c6 => ?_) (fun c6 => ?_)
  · have h := cnd_t c6 h
    exact wJ6_numberOfTrailingZeros_0f7a4_74 C hR x0 x1 (lv_sub hl [0, 1] rfl) S h
  · have h := cnd_f c6 h
    obtain ⟨v7, ev7⟩ : ∃ y : Int32, y = x1 + 2 := ⟨_, rfl⟩
    have h := bnd_of ev7 h
    refine lv_iinc (v := v7) (lv' := [(1, .int v7), (0, .int x0)]) hx hb dJ6_numberOfTrailingZeros_0f7a4_67 hl (k := 1) rfl (by rw [ev7]; rfl) (by decide) rfl (fun ls hl => ?_)
    have hsz := hl.1
    refine lv_iload_n hx hb dJ6_numberOfTrailingZeros_0f7a4_70 rfl (lv_at hl 1 rfl) ?_
    refine lv_iconst (v := 2) hx hb dJ6_numberOfTrailingZeros_0f7a4_71 (by decide) ?_
    refine lv_iushr (v := ((x0 : Int32).toUInt32 >>> ((2 : Int32).toUInt32 &&& Int32.toUInt32 31)).toInt32) hx hb dJ6_numberOfTrailingZeros_0f7a4_72 rfl ?_
    refine lv_topi (fun v8 ev8 => ?_)
    have h := bnd_of ev8 h
    refine lv_istore_n (lv' := [(0, .int v8), (1, .int v7)]) hx hb dJ6_numberOfTrailingZeros_0f7a4_73 rfl hl (by decide) rfl (fun ls hl => ?_)
    have hsz := hl.1
    exact wJ6_numberOfTrailingZeros_0f7a4_74 C hR v8 v7 (lv_sub hl [0, 1] rfl) S h
set_option maxRecDepth 10000 in
set_option maxHeartbeats 4000000 in
theorem wJ6_numberOfTrailingZeros_0f7a4_49 (C : cx D (tyl cI cB cL) A RJ6 cJ6_numberOfTrailingZeros_0f7a4 2 (some .int) p s m args c meth) (hR : 0 ≤ R.frames ∧ 0 ≤ R.locals) {r : Int32} (x0 : Int32) (x1 : Int32) {H : Heap} {locs : List Loc} {ls : Array Slot} (hl : lv_has ls 2 [(0, .int x0), (1, .int x1)]) (S : st D w0 A s z0 H locs) (h : fJ6_numberOfTrailingZeros_0f7a4_49 x0 x1 = r) : W p l e R s m args below meth c H locs 0 0 (MQ below (qI D (tyl cI cB cL) w0 A r z0) args s 0 0 A) (F0 m 49 ls []) := by
  have hx := C.1
  have hb := C.2.1
  have hsz := hl.1
  unfold fJ6_numberOfTrailingZeros_0f7a4_49 at h
  refine lv_iload_n hx hb dJ6_numberOfTrailingZeros_0f7a4_49 rfl (lv_at hl 0 rfl) ?_
  refine lv_bipush (v := 16) hx hb dJ6_numberOfTrailingZeros_0f7a4_50 (by decide) ?_
  refine lv_icmp_le (tgt := 62) hx hb dJ6_numberOfTrailingZeros_0f7a4_52 (by decide) (fun c5 => ?_) (fun c5 => ?_)
  · have h := cnd_t c5 h
    exact wJ6_numberOfTrailingZeros_0f7a4_62 C hR x0 x1 (lv_sub hl [0, 1] rfl) S h
  · have h := cnd_f c5 h
    obtain ⟨v9, ev9⟩ : ∃ y : Int32, y = x1 + 4 := ⟨_, rfl⟩
    have h := bnd_of ev9 h
    refine lv_iinc (v := v9) (lv' := [(1, .int v9), (0, .int x0)]) hx hb dJ6_numberOfTrailingZeros_0f7a4_55 hl (k := 1) rfl (by rw [ev9]; rfl) (by decide) rfl (fun ls hl => ?_)
    have hsz := hl.1
    refine lv_iload_n hx hb dJ6_numberOfTrailingZeros_0f7a4_58 rfl (lv_at hl 1 rfl) ?_
    refine lv_iconst (v := 4) hx hb dJ6_numberOfTrailingZeros_0f7a4_59 (by decide) ?_
    refine lv_iushr (v := ((x0 : Int32).toUInt32 >>> ((4 : Int32).toUInt32 &&& Int32.toUInt32 31)).toInt32) hx hb dJ6_numberOfTrailingZeros_0f7a4_60 rfl ?_
    refine lv_topi (fun v10 ev10 => ?_)
    have h := bnd_of ev10 h
    refine lv_istore_n (lv' := [(0, .int v10), (1, .int v9)]) hx hb dJ6_numberOfTrailingZeros_0f7a4_61 rfl hl (by decide) rfl (fun ls hl => ?_)
    have hsz := hl.1
    exact wJ6_numberOfTrailingZeros_0f7a4_62 C hR v10 v9 (lv_sub hl [0, 1] rfl) S h
set_option maxRecDepth 10000 in
set_option maxHeartbeats 4000000 in
theorem wJ6_numberOfTrailingZeros_0f7a4_34 (C : cx D (tyl cI cB cL) A RJ6 cJ6_numberOfTrailingZeros_0f7a4 2 (some .int) p s m args c meth) (hR : 0 ≤ R.frames ∧ 0 ≤ R.locals) {r : Int32} (x0 : Int32) (x1 : Int32) {H : Heap} {locs : List Loc} {ls : Array Slot} (hl : lv_has ls 2 [(0, .int x0), (1, .int x1)]) (S : st D w0 A s z0 H locs) (h : fJ6_numberOfTrailingZeros_0f7a4_34 x0 x1 = r) : W p l e R s m args below meth c H locs 0 0 (MQ below (qI D (tyl cI cB cL) w0 A r z0) args s 0 0 A) (F0 m 34 ls []) := by
  have hx := C.1
  have hb := C.2.1
  have hsz := hl.1
  unfold fJ6_numberOfTrailingZeros_0f7a4_34 at h
  refine lv_iload_n hx hb dJ6_numberOfTrailingZeros_0f7a4_34 rfl (lv_at hl 0 rfl) ?_
  refine lv_sipush (v := 256) hx hb dJ6_numberOfTrailingZeros_0f7a4_35 (by decide) ?_
  refine lv_icmp_le (tgt := 49) hx hb dJ6_numberOfTrailingZeros_0f7a4_38 (by decide) (fun c4 => ?_) (fun c4 => ?_)
  · have h := cnd_t c4 h
    exact wJ6_numberOfTrailingZeros_0f7a4_49 C hR x0 x1 (lv_sub hl [0, 1] rfl) S h
  · have h := cnd_f c4 h
    obtain ⟨v11, ev11⟩ : ∃ y : Int32, y = x1 + 8 := ⟨_, rfl⟩
    have h := bnd_of ev11 h
    refine lv_iinc (v := v11) (lv' := [(1, .int v11), (0, .int x0)]) hx hb dJ6_numberOfTrailingZeros_0f7a4_41 hl (k := 1) rfl (by rw [ev11]; rfl) (by decide) rfl (fun ls hl => ?_)
    have hsz := hl.1
    refine lv_iload_n hx hb dJ6_numberOfTrailingZeros_0f7a4_44 rfl (lv_at hl 1 rfl) ?_
    refine lv_bipush (v := 8) hx hb dJ6_numberOfTrailingZeros_0f7a4_45 (by decide) ?_
    refine lv_iushr (v := ((x0 : Int32).toUInt32 >>> ((8 : Int32).toUInt32 &&& Int32.toUInt32 31)).toInt32) hx hb dJ6_numberOfTrailingZeros_0f7a4_47 rfl ?_
    refine lv_topi (fun v12 ev12 => ?_)
    have h := bnd_of ev12 h
    refine lv_istore_n (lv' := [(0, .int v12), (1, .int v11)]) hx hb dJ6_numberOfTrailingZeros_0f7a4_48 rfl hl (by decide) rfl (fun ls hl => ?_)
    have hsz := hl.1
    exact wJ6_numberOfTrailingZeros_0f7a4_49 C hR v12 v11 (lv_sub hl [0, 1] rfl) S h
set_option maxRecDepth 10000 in
set_option maxHeartbeats 4000000 in
theorem wJ6_numberOfTrailingZeros_0f7a4_0 (C : cx D (tyl cI cB cL) A RJ6 cJ6_numberOfTrailingZeros_0f7a4 2 (some .int) p s m args c meth) (hR : 0 ≤ R.frames ∧ 0 ≤ R.locals) {r : Int32} (x0 : Int32) {H : Heap} {locs : List Loc} {ls : Array Slot} (hl : lv_has ls 2 [(0, .int x0)]) (S : st D w0 A s z0 H locs) (h : fJ6_numberOfTrailingZeros_0f7a4_0 x0 = r) : W p l e R s m args below meth c H locs 0 0 (MQ below (qI D (tyl cI cB cL) w0 A r z0) args s 0 0 A) (F0 m 0 ls []) := by
  have hx := C.1
  have hb := C.2.1
  have hsz := hl.1
  unfold fJ6_numberOfTrailingZeros_0f7a4_0 at h
  refine lv_iload_n hx hb dJ6_numberOfTrailingZeros_0f7a4_0 rfl (lv_at hl 0 rfl) ?_
  refine lv_iconst (v := (-1)) hx hb dJ6_numberOfTrailingZeros_0f7a4_1 (by decide) ?_
  refine lv_ixor hx hb dJ6_numberOfTrailingZeros_0f7a4_2 ?_
  refine lv_iload_n hx hb dJ6_numberOfTrailingZeros_0f7a4_3 rfl (lv_at hl 0 rfl) ?_
  refine lv_iconst (v := 1) hx hb dJ6_numberOfTrailingZeros_0f7a4_4 (by decide) ?_
  refine lv_isub hx hb dJ6_numberOfTrailingZeros_0f7a4_5 ?_
  refine lv_iand hx hb dJ6_numberOfTrailingZeros_0f7a4_6 ?_
  refine lv_topi (fun v1 ev1 => ?_)
  have h := bnd_of ev1 h
  refine lv_istore_n (lv' := [(0, .int v1)]) hx hb dJ6_numberOfTrailingZeros_0f7a4_7 rfl hl (by decide) rfl (fun ls hl => ?_)
  have hsz := hl.1
  refine lv_iload_n hx hb dJ6_numberOfTrailingZeros_0f7a4_8 rfl (lv_at hl 0 rfl) ?_
  refine lv_if_gt (tgt := 17) hx hb dJ6_numberOfTrailingZeros_0f7a4_9 (by decide) (fun c2 => ?_) (fun c2 => ?_)
  · have h := cnd_t c2 h
    refine lv_iconst (v := 1) hx hb dJ6_numberOfTrailingZeros_0f7a4_17 (by decide) ?_
    refine lv_istore_n (lv' := [(1, .int 1), (0, .int v1)]) hx hb dJ6_numberOfTrailingZeros_0f7a4_18 rfl hl (by decide) rfl (fun ls hl => ?_)
    have hsz := hl.1
    refine lv_iload_n hx hb dJ6_numberOfTrailingZeros_0f7a4_19 rfl (lv_at hl 1 rfl) ?_
    refine q_ldcw (v := 65536) C mw_3 dJ6_numberOfTrailingZeros_0f7a4_20 ?_
    refine lv_icmp_le (tgt := 34) hx hb dJ6_numberOfTrailingZeros_0f7a4_23 (by decide) (fun c3 => ?_) (fun c3 => ?_)
    · have h := cnd_t c3 h
      exact wJ6_numberOfTrailingZeros_0f7a4_34 C hR v1 1 (lv_sub hl [1, 0] rfl) S h
    · have h := cnd_f c3 h
      obtain ⟨v13, ev13⟩ : ∃ y : Int32, y = 1 + 16 := ⟨_, rfl⟩
      have h := bnd_of ev13 h
      refine lv_iinc (v := v13) (lv' := [(1, .int v13), (0, .int v1)]) hx hb dJ6_numberOfTrailingZeros_0f7a4_26 hl (k := 0) rfl (by rw [ev13]; rfl) (by decide) rfl (fun ls hl => ?_)
      have hsz := hl.1
      refine lv_iload_n hx hb dJ6_numberOfTrailingZeros_0f7a4_29 rfl (lv_at hl 1 rfl) ?_
      refine lv_bipush (v := 16) hx hb dJ6_numberOfTrailingZeros_0f7a4_30 (by decide) ?_
      refine lv_iushr (v := ((v1 : Int32).toUInt32 >>> ((16 : Int32).toUInt32 &&& Int32.toUInt32 31)).toInt32) hx hb dJ6_numberOfTrailingZeros_0f7a4_32 rfl ?_
      refine lv_topi (fun v14 ev14 => ?_)
      have h := bnd_of ev14 h
      refine lv_istore_n (lv' := [(0, .int v14), (1, .int v13)]) hx hb dJ6_numberOfTrailingZeros_0f7a4_33 rfl hl (by decide) rfl (fun ls hl => ?_)
      have hsz := hl.1
      exact wJ6_numberOfTrailingZeros_0f7a4_34 C hR v14 v13 (lv_sub hl [0, 1] rfl) S h
  · have h := cnd_f c2 h
    refine lv_iload_n hx hb dJ6_numberOfTrailingZeros_0f7a4_12 rfl (lv_at hl 0 rfl) ?_
    refine lv_bipush (v := 32) hx hb dJ6_numberOfTrailingZeros_0f7a4_13 (by decide) ?_
    refine lv_iand hx hb dJ6_numberOfTrailingZeros_0f7a4_15 ?_
    exact q_iret C S (rt_P h) dJ6_numberOfTrailingZeros_0f7a4_16
set_option maxRecDepth 10000 in
set_option maxHeartbeats 4000000 in
theorem ct_J6_numberOfTrailingZeros_0f7a4 (l : Launch) (D : va_G) (cI cB cL : ClassId) (x0 : Int32) : metP l D (tyl cI cB cL) yJ6_numberOfTrailingZeros_0f7a4 cJ6_numberOfTrailingZeros_0f7a4 2 (some .int) 0 0 [.int x0] (fJ6_numberOfTrailingZeros_0f7a4 x0) := by
  intro sz
  refine Met.ofW (cc := cJ6_numberOfTrailingZeros_0f7a4) (maxL := 2) (ret := (some .int)) (by decide) rfl ?_
  intro p e s m args below meth c s₁ B hml hv
  obtain ⟨rfl, C, S⟩ := q_entry B hml hv
  have hl := lv_entry ([.int x0]) (n := 2) (Nat.le_of_ble_eq_true rfl)
  rw [lg_entry_eq]
  generalize (lg_sl ([.int x0]) ++ List.replicate (2 - (lg_sl ([.int x0])).length) Slot.unset).toArray = ls at hl ⊢
  exact wJ6_numberOfTrailingZeros_0f7a4_0 C ⟨Nat.le_refl _, Nat.le_refl _⟩ x0 (lv_sub hl [0] rfl) S rfl
noncomputable def fX11_spotOf_0 (x0 : Int32) (x1 : Int32) : Int32 := ((x0 * 20) + x1)
noncomputable def fX11_spotOf (x0 : Int32) (x1 : Int32) : Int32 := fX11_spotOf_0 x0 x1
set_option maxRecDepth 10000 in
set_option maxHeartbeats 4000000 in
theorem wX11_spotOf_0 (C : cx D (tyl cI cB cL) A RX11 cX11_spotOf 2 (some .int) p s m args c meth) (hR : 0 ≤ R.frames ∧ 0 ≤ R.locals) {r : Int32} (x0 : Int32) (x1 : Int32) {H : Heap} {locs : List Loc} {ls : Array Slot} (hl : lv_has ls 2 [(0, .int x0), (1, .int x1)]) (S : st D w0 A s z0 H locs) (h : fX11_spotOf_0 x0 x1 = r) : W p l e R s m args below meth c H locs 0 0 (MQ below (qI D (tyl cI cB cL) w0 A r z0) args s 0 0 A) (F0 m 0 ls []) := by
  have hx := C.1
  have hb := C.2.1
  have hsz := hl.1
  unfold fX11_spotOf_0 at h
  refine lv_iload_n hx hb dX11_spotOf_0 rfl (lv_at hl 0 rfl) ?_
  refine lv_bipush (v := 20) hx hb dX11_spotOf_1 (by decide) ?_
  refine lv_imul hx hb dX11_spotOf_3 ?_
  refine lv_iload_n hx hb dX11_spotOf_4 rfl (lv_at hl 1 rfl) ?_
  refine lv_iadd hx hb dX11_spotOf_5 ?_
  exact q_iret C S (rt_P h) dX11_spotOf_6
set_option maxRecDepth 10000 in
set_option maxHeartbeats 4000000 in
theorem ct_X11_spotOf (l : Launch) (D : va_G) (cI cB cL : ClassId) (x0 : Int32) (x1 : Int32) : metP l D (tyl cI cB cL) yX11_spotOf cX11_spotOf 2 (some .int) 0 0 [.int x0, .int x1] (fX11_spotOf x0 x1) := by
  intro sz
  refine Met.ofW (cc := cX11_spotOf) (maxL := 2) (ret := (some .int)) (by decide) rfl ?_
  intro p e s m args below meth c s₁ B hml hv
  obtain ⟨rfl, C, S⟩ := q_entry B hml hv
  have hl := lv_entry ([.int x0, .int x1]) (n := 2) (Nat.le_of_ble_eq_true rfl)
  rw [lg_entry_eq]
  generalize (lg_sl ([.int x0, .int x1]) ++ List.replicate (2 - (lg_sl ([.int x0, .int x1])).length) Slot.unset).toArray = ls at hl ⊢
  exact wX11_spotOf_0 C ⟨Nat.le_refl _, Nat.le_refl _⟩ x0 x1 (lv_sub hl [0, 1] rfl) S rfl
noncomputable def fX11_channelOf_0 (x0 : Int32) (x1 : Int32) : Int32 := ((x0 * 6) + x1)
noncomputable def fX11_channelOf (x0 : Int32) (x1 : Int32) : Int32 := fX11_channelOf_0 x0 x1
set_option maxRecDepth 10000 in
set_option maxHeartbeats 4000000 in
theorem wX11_channelOf_0 (C : cx D (tyl cI cB cL) A RX11 cX11_channelOf 2 (some .int) p s m args c meth) (hR : 0 ≤ R.frames ∧ 0 ≤ R.locals) {r : Int32} (x0 : Int32) (x1 : Int32) {H : Heap} {locs : List Loc} {ls : Array Slot} (hl : lv_has ls 2 [(0, .int x0), (1, .int x1)]) (S : st D w0 A s z0 H locs) (h : fX11_channelOf_0 x0 x1 = r) : W p l e R s m args below meth c H locs 0 0 (MQ below (qI D (tyl cI cB cL) w0 A r z0) args s 0 0 A) (F0 m 0 ls []) := by
  have hx := C.1
  have hb := C.2.1
  have hsz := hl.1
  unfold fX11_channelOf_0 at h
  refine lv_iload_n hx hb dX11_channelOf_0 rfl (lv_at hl 0 rfl) ?_
  refine lv_bipush (v := 6) hx hb dX11_channelOf_1 (by decide) ?_
  refine lv_imul hx hb dX11_channelOf_3 ?_
  refine lv_iload_n hx hb dX11_channelOf_4 rfl (lv_at hl 1 rfl) ?_
  refine lv_iadd hx hb dX11_channelOf_5 ?_
  exact q_iret C S (rt_P h) dX11_channelOf_6
set_option maxRecDepth 10000 in
set_option maxHeartbeats 4000000 in
theorem ct_X11_channelOf (l : Launch) (D : va_G) (cI cB cL : ClassId) (x0 : Int32) (x1 : Int32) : metP l D (tyl cI cB cL) yX11_channelOf cX11_channelOf 2 (some .int) 0 0 [.int x0, .int x1] (fX11_channelOf x0 x1) := by
  intro sz
  refine Met.ofW (cc := cX11_channelOf) (maxL := 2) (ret := (some .int)) (by decide) rfl ?_
  intro p e s m args below meth c s₁ B hml hv
  obtain ⟨rfl, C, S⟩ := q_entry B hml hv
  have hl := lv_entry ([.int x0, .int x1]) (n := 2) (Nat.le_of_ble_eq_true rfl)
  rw [lg_entry_eq]
  generalize (lg_sl ([.int x0, .int x1]) ++ List.replicate (2 - (lg_sl ([.int x0, .int x1])).length) Slot.unset).toArray = ls at hl ⊢
  exact wX11_channelOf_0 C ⟨Nat.le_refl _, Nat.le_refl _⟩ x0 x1 (lv_sub hl [0, 1] rfl) S rfl
noncomputable def fX11_stampOf_0 (x0 : Int32) (x1 : Int32) : Int32 := (((x0 : Int32) <<< ((3 &&& 31 : Int32))) ||| x1)
noncomputable def fX11_stampOf (x0 : Int32) (x1 : Int32) : Int32 := fX11_stampOf_0 x0 x1
set_option maxRecDepth 10000 in
set_option maxHeartbeats 4000000 in
theorem wX11_stampOf_0 (C : cx D (tyl cI cB cL) A RX11 cX11_stampOf 2 (some .int) p s m args c meth) (hR : 0 ≤ R.frames ∧ 0 ≤ R.locals) {r : Int32} (x0 : Int32) (x1 : Int32) {H : Heap} {locs : List Loc} {ls : Array Slot} (hl : lv_has ls 2 [(0, .int x0), (1, .int x1)]) (S : st D w0 A s z0 H locs) (h : fX11_stampOf_0 x0 x1 = r) : W p l e R s m args below meth c H locs 0 0 (MQ below (qI D (tyl cI cB cL) w0 A r z0) args s 0 0 A) (F0 m 0 ls []) := by
  have hx := C.1
  have hb := C.2.1
  have hsz := hl.1
  unfold fX11_stampOf_0 at h
  refine lv_iload_n hx hb dX11_stampOf_0 rfl (lv_at hl 0 rfl) ?_
  refine lv_iconst (v := 3) hx hb dX11_stampOf_1 (by decide) ?_
  refine lv_ishl hx hb dX11_stampOf_2 ?_
  refine lv_iload_n hx hb dX11_stampOf_3 rfl (lv_at hl 1 rfl) ?_
  refine lv_ior hx hb dX11_stampOf_4 ?_
  exact q_iret C S (rt_P h) dX11_stampOf_5
set_option maxRecDepth 10000 in
set_option maxHeartbeats 4000000 in
theorem ct_X11_stampOf (l : Launch) (D : va_G) (cI cB cL : ClassId) (x0 : Int32) (x1 : Int32) : metP l D (tyl cI cB cL) yX11_stampOf cX11_stampOf 2 (some .int) 0 0 [.int x0, .int x1] (fX11_stampOf x0 x1) := by
  intro sz
  refine Met.ofW (cc := cX11_stampOf) (maxL := 2) (ret := (some .int)) (by decide) rfl ?_
  intro p e s m args below meth c s₁ B hml hv
  obtain ⟨rfl, C, S⟩ := q_entry B hml hv
  have hl := lv_entry ([.int x0, .int x1]) (n := 2) (Nat.le_of_ble_eq_true rfl)
  rw [lg_entry_eq]
  generalize (lg_sl ([.int x0, .int x1]) ++ List.replicate (2 - (lg_sl ([.int x0, .int x1])).length) Slot.unset).toArray = ls at hl ⊢
  exact wX11_stampOf_0 C ⟨Nat.le_refl _, Nat.le_refl _⟩ x0 x1 (lv_sub hl [0, 1] rfl) S rfl
noncomputable def fX11_numberOf_0 (x0 : Int32) : Int32 := cnd (x0 = (-1)) ((-1)) (((x0 : Int32) >>> ((3 &&& 31 : Int32))))
noncomputable def fX11_numberOf (x0 : Int32) : Int32 := fX11_numberOf_0 x0
set_option maxRecDepth 10000 in
set_option maxHeartbeats 4000000 in
theorem wX11_numberOf_0 (C : cx D (tyl cI cB cL) A RX11 cX11_numberOf 1 (some .int) p s m args c meth) (hR : 0 ≤ R.frames ∧ 0 ≤ R.locals) {r : Int32} (x0 : Int32) {H : Heap} {locs : List Loc} {ls : Array Slot} (hl : lv_has ls 1 [(0, .int x0)]) (S : st D w0 A s z0 H locs) (h : fX11_numberOf_0 x0 = r) : W p l e R s m args below meth c H locs 0 0 (MQ below (qI D (tyl cI cB cL) w0 A r z0) args s 0 0 A) (F0 m 0 ls []) := by
  have hx := C.1
  have hb := C.2.1
  have hsz := hl.1
  unfold fX11_numberOf_0 at h
  refine lv_iload_n hx hb dX11_numberOf_0 rfl (lv_at hl 0 rfl) ?_
  refine lv_iconst (v := (-1)) hx hb dX11_numberOf_1 (by decide) ?_
  refine lv_icmp_ne (tgt := 9) hx hb dX11_numberOf_2 (by decide) (fun c1 => ?_) (fun c1 => ?_)
  · have h := cnd_f c1 h
    refine lv_iload_n hx hb dX11_numberOf_9 rfl (lv_at hl 0 rfl) ?_
    refine lv_iconst (v := 3) hx hb dX11_numberOf_10 (by decide) ?_
    refine lv_ishr hx hb dX11_numberOf_11 ?_
    exact q_iret C S (rt_P h) dX11_numberOf_12
  · have h := cnd_t c1 h
    refine lv_iconst (v := (-1)) hx hb dX11_numberOf_5 (by decide) ?_
    refine lv_goto (tgt := 12) hx hb dX11_numberOf_6 (by decide) ?_
    exact q_iret C S (rt_P h) dX11_numberOf_12
set_option maxRecDepth 10000 in
set_option maxHeartbeats 4000000 in
theorem ct_X11_numberOf (l : Launch) (D : va_G) (cI cB cL : ClassId) (x0 : Int32) : metP l D (tyl cI cB cL) yX11_numberOf cX11_numberOf 1 (some .int) 0 0 [.int x0] (fX11_numberOf x0) := by
  intro sz
  refine Met.ofW (cc := cX11_numberOf) (maxL := 1) (ret := (some .int)) (by decide) rfl ?_
  intro p e s m args below meth c s₁ B hml hv
  obtain ⟨rfl, C, S⟩ := q_entry B hml hv
  have hl := lv_entry ([.int x0]) (n := 1) (Nat.le_of_ble_eq_true rfl)
  rw [lg_entry_eq]
  generalize (lg_sl ([.int x0]) ++ List.replicate (1 - (lg_sl ([.int x0])).length) Slot.unset).toArray = ls at hl ⊢
  exact wX11_numberOf_0 C ⟨Nat.le_refl _, Nat.le_refl _⟩ x0 (lv_sub hl [0] rfl) S rfl
noncomputable def fX11_nodeOf_0 (x0 : Int32) : Int32 := cnd (x0 = (-1)) ((-1)) ((x0 &&& 7))
noncomputable def fX11_nodeOf (x0 : Int32) : Int32 := fX11_nodeOf_0 x0
set_option maxRecDepth 10000 in
set_option maxHeartbeats 4000000 in
theorem wX11_nodeOf_0 (C : cx D (tyl cI cB cL) A RX11 cX11_nodeOf 1 (some .int) p s m args c meth) (hR : 0 ≤ R.frames ∧ 0 ≤ R.locals) {r : Int32} (x0 : Int32) {H : Heap} {locs : List Loc} {ls : Array Slot} (hl : lv_has ls 1 [(0, .int x0)]) (S : st D w0 A s z0 H locs) (h : fX11_nodeOf_0 x0 = r) : W p l e R s m args below meth c H locs 0 0 (MQ below (qI D (tyl cI cB cL) w0 A r z0) args s 0 0 A) (F0 m 0 ls []) := by
  have hx := C.1
  have hb := C.2.1
  have hsz := hl.1
  unfold fX11_nodeOf_0 at h
  refine lv_iload_n hx hb dX11_nodeOf_0 rfl (lv_at hl 0 rfl) ?_
  refine lv_iconst (v := (-1)) hx hb dX11_nodeOf_1 (by decide) ?_
  refine lv_icmp_ne (tgt := 9) hx hb dX11_nodeOf_2 (by decide) (fun c1 => ?_) (fun c1 => ?_)
  · have h := cnd_f c1 h
    refine lv_iload_n hx hb dX11_nodeOf_9 rfl (lv_at hl 0 rfl) ?_
    refine lv_bipush (v := 7) hx hb dX11_nodeOf_10 (by decide) ?_
    refine lv_iand hx hb dX11_nodeOf_12 ?_
    exact q_iret C S (rt_P h) dX11_nodeOf_13
  · have h := cnd_t c1 h
    refine lv_iconst (v := (-1)) hx hb dX11_nodeOf_5 (by decide) ?_
    refine lv_goto (tgt := 13) hx hb dX11_nodeOf_6 (by decide) ?_
    exact q_iret C S (rt_P h) dX11_nodeOf_13
set_option maxRecDepth 10000 in
set_option maxHeartbeats 4000000 in
theorem ct_X11_nodeOf (l : Launch) (D : va_G) (cI cB cL : ClassId) (x0 : Int32) : metP l D (tyl cI cB cL) yX11_nodeOf cX11_nodeOf 1 (some .int) 0 0 [.int x0] (fX11_nodeOf x0) := by
  intro sz
  refine Met.ofW (cc := cX11_nodeOf) (maxL := 1) (ret := (some .int)) (by decide) rfl ?_
  intro p e s m args below meth c s₁ B hml hv
  obtain ⟨rfl, C, S⟩ := q_entry B hml hv
  have hl := lv_entry ([.int x0]) (n := 1) (Nat.le_of_ble_eq_true rfl)
  rw [lg_entry_eq]
  generalize (lg_sl ([.int x0]) ++ List.replicate (1 - (lg_sl ([.int x0])).length) Slot.unset).toArray = ls at hl ⊢
  exact wX11_nodeOf_0 C ⟨Nat.le_refl _, Nat.le_refl _⟩ x0 (lv_sub hl [0] rfl) S rfl
noncomputable def fX11_isIn_0 (x0 : Int32) (x1 : Int32) : Int32 := cnd ((((x0 : Int32) >>> ((x1 &&& 31 : Int32))) &&& 1) = 0) (0) (1)
noncomputable def fX11_isIn (x0 : Int32) (x1 : Int32) : Int32 := fX11_isIn_0 x0 x1
set_option maxRecDepth 10000 in
set_option maxHeartbeats 4000000 in
theorem wX11_isIn_0 (C : cx D (tyl cI cB cL) A RX11 cX11_isIn 2 (some .boolean) p s m args c meth) (hR : 0 ≤ R.frames ∧ 0 ≤ R.locals) {r : Int32} (x0 : Int32) (x1 : Int32) {H : Heap} {locs : List Loc} {ls : Array Slot} (hl : lv_has ls 2 [(0, .int x0), (1, .int x1)]) (S : st D w0 A s z0 H locs) (h : fX11_isIn_0 x0 x1 = r) : W p l e R s m args below meth c H locs 0 0 (MQ below (qI D (tyl cI cB cL) w0 A r z0) args s 0 0 A) (F0 m 0 ls []) := by
  have hx := C.1
  have hb := C.2.1
  have hsz := hl.1
  unfold fX11_isIn_0 at h
  refine lv_iload_n hx hb dX11_isIn_0 rfl (lv_at hl 0 rfl) ?_
  refine lv_iload_n hx hb dX11_isIn_1 rfl (lv_at hl 1 rfl) ?_
  refine lv_ishr hx hb dX11_isIn_2 ?_
  refine lv_iconst (v := 1) hx hb dX11_isIn_3 (by decide) ?_
  refine lv_iand hx hb dX11_isIn_4 ?_
  refine lv_if_eq (tgt := 12) hx hb dX11_isIn_5 (by decide) (fun c1 => ?_) (fun c1 => ?_)
  · have h := cnd_t c1 h
    refine lv_iconst (v := 0) hx hb dX11_isIn_12 (by decide) ?_
    exact q_zret C S rfl (rt_P h) dX11_isIn_13
  · have h := cnd_f c1 h
    refine lv_iconst (v := 1) hx hb dX11_isIn_8 (by decide) ?_
    refine lv_goto (tgt := 13) hx hb dX11_isIn_9 (by decide) ?_
    exact q_zret C S rfl (rt_P h) dX11_isIn_13
set_option maxRecDepth 10000 in
set_option maxHeartbeats 4000000 in
theorem ct_X11_isIn (l : Launch) (D : va_G) (cI cB cL : ClassId) (x0 : Int32) (x1 : Int32) : metP l D (tyl cI cB cL) yX11_isIn cX11_isIn 2 (some .boolean) 0 0 [.int x0, .int x1] (fX11_isIn x0 x1) := by
  intro sz
  refine Met.ofW (cc := cX11_isIn) (maxL := 2) (ret := (some .boolean)) (by decide) rfl ?_
  intro p e s m args below meth c s₁ B hml hv
  obtain ⟨rfl, C, S⟩ := q_entry B hml hv
  have hl := lv_entry ([.int x0, .int x1]) (n := 2) (Nat.le_of_ble_eq_true rfl)
  rw [lg_entry_eq]
  generalize (lg_sl ([.int x0, .int x1]) ++ List.replicate (2 - (lg_sl ([.int x0, .int x1])).length) Slot.unset).toArray = ls at hl ⊢
  exact wX11_isIn_0 C ⟨Nat.le_refl _, Nat.le_refl _⟩ x0 x1 (lv_sub hl [0, 1] rfl) S rfl
noncomputable def fX12_in_0 (x0 : Int32) (x1 : Int32) (x2 : Int32) : Int32 := cnd (x0 < x1) (0) (cnd (x2 < x0) (0) (1))
noncomputable def fX12_in (x0 : Int32) (x1 : Int32) (x2 : Int32) : Int32 := fX12_in_0 x0 x1 x2
set_option maxRecDepth 10000 in
set_option maxHeartbeats 4000000 in
theorem wX12_in_0 (C : cx D (tyl cI cB cL) A RX12 cX12_in 3 (some .boolean) p s m args c meth) (hR : 0 ≤ R.frames ∧ 0 ≤ R.locals) {r : Int32} (x0 : Int32) (x1 : Int32) (x2 : Int32) {H : Heap} {locs : List Loc} {ls : Array Slot} (hl : lv_has ls 3 [(0, .int x0), (1, .int x1), (2, .int x2)]) (S : st D w0 A s z0 H locs) (h : fX12_in_0 x0 x1 x2 = r) : W p l e R s m args below meth c H locs 0 0 (MQ below (qI D (tyl cI cB cL) w0 A r z0) args s 0 0 A) (F0 m 0 ls []) := by
  have hx := C.1
  have hb := C.2.1
  have hsz := hl.1
  unfold fX12_in_0 at h
  refine lv_iload_n hx hb dX12_in_0 rfl (lv_at hl 0 rfl) ?_
  refine lv_iload_n hx hb dX12_in_1 rfl (lv_at hl 1 rfl) ?_
  refine lv_icmp_lt (tgt := 14) hx hb dX12_in_2 (by decide) (fun c1 => ?_) (fun c1 => ?_)
  · have h := cnd_t c1 h
    refine lv_iconst (v := 0) hx hb dX12_in_14 (by decide) ?_
    exact q_zret C S rfl (rt_P h) dX12_in_15
  · have h := cnd_f c1 h
    refine lv_iload_n hx hb dX12_in_5 rfl (lv_at hl 0 rfl) ?_
    refine lv_iload_n hx hb dX12_in_6 rfl (lv_at hl 2 rfl) ?_
    refine lv_icmp_gt (tgt := 14) hx hb dX12_in_7 (by decide) (fun c2 => ?_) (fun c2 => ?_)
    · have h := cnd_t c2 h
      refine lv_iconst (v := 0) hx hb dX12_in_14 (by decide) ?_
      exact q_zret C S rfl (rt_P h) dX12_in_15
    · have h := cnd_f c2 h
      refine lv_iconst (v := 1) hx hb dX12_in_10 (by decide) ?_
      refine lv_goto (tgt := 15) hx hb dX12_in_11 (by decide) ?_
      exact q_zret C S rfl (rt_P h) dX12_in_15
set_option maxRecDepth 10000 in
set_option maxHeartbeats 4000000 in
theorem ct_X12_in (l : Launch) (D : va_G) (cI cB cL : ClassId) (x0 : Int32) (x1 : Int32) (x2 : Int32) : metP l D (tyl cI cB cL) yX12_in cX12_in 3 (some .boolean) 0 0 [.int x0, .int x1, .int x2] (fX12_in x0 x1 x2) := by
  intro sz
  refine Met.ofW (cc := cX12_in) (maxL := 3) (ret := (some .boolean)) (by decide) rfl ?_
  intro p e s m args below meth c s₁ B hml hv
  obtain ⟨rfl, C, S⟩ := q_entry B hml hv
  have hl := lv_entry ([.int x0, .int x1, .int x2]) (n := 3) (Nat.le_of_ble_eq_true rfl)
  rw [lg_entry_eq]
  generalize (lg_sl ([.int x0, .int x1, .int x2]) ++ List.replicate (3 - (lg_sl ([.int x0, .int x1, .int x2])).length) Slot.unset).toArray = ls at hl ⊢
  exact wX12_in_0 C ⟨Nat.le_refl _, Nat.le_refl _⟩ x0 x1 x2 (lv_sub hl [0, 1, 2] rfl) S rfl
noncomputable def fX12_holds_0 (x0 : Int32) (x1 : Int32) : Int32 := cnd ((((x0 : Int32) >>> ((x1 &&& 31 : Int32))) &&& 1) = 1) (1) (0)
noncomputable def fX12_holds (x0 : Int32) (x1 : Int32) : Int32 := fX12_holds_0 x0 x1
set_option maxRecDepth 10000 in
set_option maxHeartbeats 4000000 in
theorem wX12_holds_0 (C : cx D (tyl cI cB cL) A RX12 cX12_holds 2 (some .boolean) p s m args c meth) (hR : 0 ≤ R.frames ∧ 0 ≤ R.locals) {r : Int32} (x0 : Int32) (x1 : Int32) {H : Heap} {locs : List Loc} {ls : Array Slot} (hl : lv_has ls 2 [(0, .int x0), (1, .int x1)]) (S : st D w0 A s z0 H locs) (h : fX12_holds_0 x0 x1 = r) : W p l e R s m args below meth c H locs 0 0 (MQ below (qI D (tyl cI cB cL) w0 A r z0) args s 0 0 A) (F0 m 0 ls []) := by
  have hx := C.1
  have hb := C.2.1
  have hsz := hl.1
  unfold fX12_holds_0 at h
  refine lv_iload_n hx hb dX12_holds_0 rfl (lv_at hl 0 rfl) ?_
  refine lv_iload_n hx hb dX12_holds_1 rfl (lv_at hl 1 rfl) ?_
  refine lv_ishr hx hb dX12_holds_2 ?_
  refine lv_iconst (v := 1) hx hb dX12_holds_3 (by decide) ?_
  refine lv_iand hx hb dX12_holds_4 ?_
  refine lv_iconst (v := 1) hx hb dX12_holds_5 (by decide) ?_
  refine lv_icmp_ne (tgt := 13) hx hb dX12_holds_6 (by decide) (fun c1 => ?_) (fun c1 => ?_)
  · have h := cnd_f c1 h
    refine lv_iconst (v := 0) hx hb dX12_holds_13 (by decide) ?_
    exact q_zret C S rfl (rt_P h) dX12_holds_14
  · have h := cnd_t c1 h
    refine lv_iconst (v := 1) hx hb dX12_holds_9 (by decide) ?_
    refine lv_goto (tgt := 14) hx hb dX12_holds_10 (by decide) ?_
    exact q_zret C S rfl (rt_P h) dX12_holds_14
set_option maxRecDepth 10000 in
set_option maxHeartbeats 4000000 in
theorem ct_X12_holds (l : Launch) (D : va_G) (cI cB cL : ClassId) (x0 : Int32) (x1 : Int32) : metP l D (tyl cI cB cL) yX12_holds cX12_holds 2 (some .boolean) 0 0 [.int x0, .int x1] (fX12_holds x0 x1) := by
  intro sz
  refine Met.ofW (cc := cX12_holds) (maxL := 2) (ret := (some .boolean)) (by decide) rfl ?_
  intro p e s m args below meth c s₁ B hml hv
  obtain ⟨rfl, C, S⟩ := q_entry B hml hv
  have hl := lv_entry ([.int x0, .int x1]) (n := 2) (Nat.le_of_ble_eq_true rfl)
  rw [lg_entry_eq]
  generalize (lg_sl ([.int x0, .int x1]) ++ List.replicate (2 - (lg_sl ([.int x0, .int x1])).length) Slot.unset).toArray = ls at hl ⊢
  exact wX12_holds_0 C ⟨Nat.le_refl _, Nat.le_refl _⟩ x0 x1 (lv_sub hl [0, 1] rfl) S rfl
noncomputable def fX12_nodeAt_0 (x0 : Int32) (x1 : Int32) : Int32 := ((17 + (245 * x0)) + x1)
noncomputable def fX12_nodeAt (x0 : Int32) (x1 : Int32) : Int32 := fX12_nodeAt_0 x0 x1
set_option maxRecDepth 10000 in
set_option maxHeartbeats 4000000 in
theorem wX12_nodeAt_0 (C : cx D (tyl cI cB cL) A RX12 cX12_nodeAt 2 (some .int) p s m args c meth) (hR : 0 ≤ R.frames ∧ 0 ≤ R.locals) {r : Int32} (x0 : Int32) (x1 : Int32) {H : Heap} {locs : List Loc} {ls : Array Slot} (hl : lv_has ls 2 [(0, .int x0), (1, .int x1)]) (S : st D w0 A s z0 H locs) (h : fX12_nodeAt_0 x0 x1 = r) : W p l e R s m args below meth c H locs 0 0 (MQ below (qI D (tyl cI cB cL) w0 A r z0) args s 0 0 A) (F0 m 0 ls []) := by
  have hx := C.1
  have hb := C.2.1
  have hsz := hl.1
  unfold fX12_nodeAt_0 at h
  refine lv_bipush (v := 17) hx hb dX12_nodeAt_0 (by decide) ?_
  refine lv_sipush (v := 245) hx hb dX12_nodeAt_2 (by decide) ?_
  refine lv_iload_n hx hb dX12_nodeAt_5 rfl (lv_at hl 0 rfl) ?_
  refine lv_imul hx hb dX12_nodeAt_6 ?_
  refine lv_iadd hx hb dX12_nodeAt_7 ?_
  refine lv_iload_n hx hb dX12_nodeAt_8 rfl (lv_at hl 1 rfl) ?_
  refine lv_iadd hx hb dX12_nodeAt_9 ?_
  exact q_iret C S (rt_P h) dX12_nodeAt_10
set_option maxRecDepth 10000 in
set_option maxHeartbeats 4000000 in
theorem ct_X12_nodeAt (l : Launch) (D : va_G) (cI cB cL : ClassId) (x0 : Int32) (x1 : Int32) : metP l D (tyl cI cB cL) yX12_nodeAt cX12_nodeAt 2 (some .int) 0 0 [.int x0, .int x1] (fX12_nodeAt x0 x1) := by
  intro sz
  refine Met.ofW (cc := cX12_nodeAt) (maxL := 2) (ret := (some .int)) (by decide) rfl ?_
  intro p e s m args below meth c s₁ B hml hv
  obtain ⟨rfl, C, S⟩ := q_entry B hml hv
  have hl := lv_entry ([.int x0, .int x1]) (n := 2) (Nat.le_of_ble_eq_true rfl)
  rw [lg_entry_eq]
  generalize (lg_sl ([.int x0, .int x1]) ++ List.replicate (2 - (lg_sl ([.int x0, .int x1])).length) Slot.unset).toArray = ls at hl ⊢
  exact wX12_nodeAt_0 C ⟨Nat.le_refl _, Nat.le_refl _⟩ x0 x1 (lv_sub hl [0, 1] rfl) S rfl
noncomputable def fX12_pairAt_0 (x0 : Int32) (x1 : Int32) (x2 : Int32) : Int32 := (fX12_nodeAt x0 ((25 + (11 * x1)) + x2))
noncomputable def fX12_pairAt (x0 : Int32) (x1 : Int32) (x2 : Int32) : Int32 := fX12_pairAt_0 x0 x1 x2
set_option maxRecDepth 10000 in
set_option maxHeartbeats 4000000 in
theorem wX12_pairAt_0 (C : cx D (tyl cI cB cL) A RX12 cX12_pairAt 3 (some .int) p s m args c meth) (hR : 1 ≤ R.frames ∧ 21 ≤ R.locals) {r : Int32} (x0 : Int32) (x1 : Int32) (x2 : Int32) {H : Heap} {locs : List Loc} {ls : Array Slot} (hl : lv_has ls 3 [(0, .int x0), (1, .int x1), (2, .int x2)]) (S : st D w0 A s z0 H locs) (h : fX12_pairAt_0 x0 x1 x2 = r) : W p l e R s m args below meth c H locs 0 0 (MQ below (qI D (tyl cI cB cL) w0 A r z0) args s 0 0 A) (F0 m 0 ls []) := by
  have hx := C.1
  have hb := C.2.1
  have hsz := hl.1
  unfold fX12_pairAt_0 at h
  refine lv_iload_n hx hb dX12_pairAt_0 rfl (lv_at hl 0 rfl) ?_
  refine lv_bipush (v := 25) hx hb dX12_pairAt_1 (by decide) ?_
  refine lv_bipush (v := 11) hx hb dX12_pairAt_3 (by decide) ?_
  refine lv_iload_n hx hb dX12_pairAt_5 rfl (lv_at hl 1 rfl) ?_
  refine lv_imul hx hb dX12_pairAt_6 ?_
  refine lv_iadd hx hb dX12_pairAt_7 ?_
  refine lv_iload_n hx hb dX12_pairAt_8 rfl (lv_at hl 2 rfl) ?_
  refine lv_iadd hx hb dX12_pairAt_9 ?_
  refine q_callP (As := [.int x0, .int ((25 + (11 * x1)) + x2)]) (na := 2) C S (ct_X12_nodeAt l D cI cB cL x0 ((25 + (11 * x1)) + x2)) mw_7 mw_6 mw_5 mw_4 hdX12_nodeAt ⟨Nat.le_trans (Nat.le_of_ble_eq_true rfl) hR.1, Nat.le_trans (Nat.le_of_ble_eq_true rfl) hR.2⟩ rfl hsz ⟨Nat.zero_le _, Nat.zero_le _⟩ (Nat.le_of_ble_eq_true rfl) dX12_pairAt_10 rfl (fun H locs S => ?_)
  exact q_iret C S (rt_P h) dX12_pairAt_13
set_option maxRecDepth 10000 in
set_option maxHeartbeats 4000000 in
theorem ct_X12_pairAt (l : Launch) (D : va_G) (cI cB cL : ClassId) (x0 : Int32) (x1 : Int32) (x2 : Int32) : metP l D (tyl cI cB cL) yX12_pairAt cX12_pairAt 3 (some .int) 1 21 [.int x0, .int x1, .int x2] (fX12_pairAt x0 x1 x2) := by
  intro sz
  refine Met.ofW (cc := cX12_pairAt) (maxL := 3) (ret := (some .int)) (by decide) rfl ?_
  intro p e s m args below meth c s₁ B hml hv
  obtain ⟨rfl, C, S⟩ := q_entry B hml hv
  have hl := lv_entry ([.int x0, .int x1, .int x2]) (n := 3) (Nat.le_of_ble_eq_true rfl)
  rw [lg_entry_eq]
  generalize (lg_sl ([.int x0, .int x1, .int x2]) ++ List.replicate (3 - (lg_sl ([.int x0, .int x1, .int x2])).length) Slot.unset).toArray = ls at hl ⊢
  exact wX12_pairAt_0 C ⟨Nat.le_refl _, Nat.le_refl _⟩ x0 x1 x2 (lv_sub hl [0, 1, 2] rfl) S rfl
noncomputable def fX12_messageAt_0 (x0 : Int32) (x1 : Int32) : Int32 := ((1487 + (5 * x0)) + x1)
noncomputable def fX12_messageAt (x0 : Int32) (x1 : Int32) : Int32 := fX12_messageAt_0 x0 x1
set_option maxRecDepth 10000 in
set_option maxHeartbeats 4000000 in
theorem wX12_messageAt_0 (C : cx D (tyl cI cB cL) A RX12 cX12_messageAt 2 (some .int) p s m args c meth) (hR : 0 ≤ R.frames ∧ 0 ≤ R.locals) {r : Int32} (x0 : Int32) (x1 : Int32) {H : Heap} {locs : List Loc} {ls : Array Slot} (hl : lv_has ls 2 [(0, .int x0), (1, .int x1)]) (S : st D w0 A s z0 H locs) (h : fX12_messageAt_0 x0 x1 = r) : W p l e R s m args below meth c H locs 0 0 (MQ below (qI D (tyl cI cB cL) w0 A r z0) args s 0 0 A) (F0 m 0 ls []) := by
  have hx := C.1
  have hb := C.2.1
  have hsz := hl.1
  unfold fX12_messageAt_0 at h
  refine lv_sipush (v := 1487) hx hb dX12_messageAt_0 (by decide) ?_
  refine lv_iconst (v := 5) hx hb dX12_messageAt_3 (by decide) ?_
  refine lv_iload_n hx hb dX12_messageAt_4 rfl (lv_at hl 0 rfl) ?_
  refine lv_imul hx hb dX12_messageAt_5 ?_
  refine lv_iadd hx hb dX12_messageAt_6 ?_
  refine lv_iload_n hx hb dX12_messageAt_7 rfl (lv_at hl 1 rfl) ?_
  refine lv_iadd hx hb dX12_messageAt_8 ?_
  exact q_iret C S (rt_P h) dX12_messageAt_9
set_option maxRecDepth 10000 in
set_option maxHeartbeats 4000000 in
theorem ct_X12_messageAt (l : Launch) (D : va_G) (cI cB cL : ClassId) (x0 : Int32) (x1 : Int32) : metP l D (tyl cI cB cL) yX12_messageAt cX12_messageAt 2 (some .int) 0 0 [.int x0, .int x1] (fX12_messageAt x0 x1) := by
  intro sz
  refine Met.ofW (cc := cX12_messageAt) (maxL := 2) (ret := (some .int)) (by decide) rfl ?_
  intro p e s m args below meth c s₁ B hml hv
  obtain ⟨rfl, C, S⟩ := q_entry B hml hv
  have hl := lv_entry ([.int x0, .int x1]) (n := 2) (Nat.le_of_ble_eq_true rfl)
  rw [lg_entry_eq]
  generalize (lg_sl ([.int x0, .int x1]) ++ List.replicate (2 - (lg_sl ([.int x0, .int x1])).length) Slot.unset).toArray = ls at hl ⊢
  exact wX12_messageAt_0 C ⟨Nat.le_refl _, Nat.le_refl _⟩ x0 x1 (lv_sub hl [0, 1] rfl) S rfl
noncomputable def fX12_channelAt_0 (x0 : Int32) (x1 : Int32) (x2 : Int32) : Int32 := ((1859 + (844 * ((6 * x0) + x1))) + x2)
noncomputable def fX12_channelAt (x0 : Int32) (x1 : Int32) (x2 : Int32) : Int32 := fX12_channelAt_0 x0 x1 x2
set_option maxRecDepth 10000 in
set_option maxHeartbeats 4000000 in
theorem wX12_channelAt_0 (C : cx D (tyl cI cB cL) A RX12 cX12_channelAt 3 (some .int) p s m args c meth) (hR : 0 ≤ R.frames ∧ 0 ≤ R.locals) {r : Int32} (x0 : Int32) (x1 : Int32) (x2 : Int32) {H : Heap} {locs : List Loc} {ls : Array Slot} (hl : lv_has ls 3 [(0, .int x0), (1, .int x1), (2, .int x2)]) (S : st D w0 A s z0 H locs) (h : fX12_channelAt_0 x0 x1 x2 = r) : W p l e R s m args below meth c H locs 0 0 (MQ below (qI D (tyl cI cB cL) w0 A r z0) args s 0 0 A) (F0 m 0 ls []) := by
  have hx := C.1
  have hb := C.2.1
  have hsz := hl.1
  unfold fX12_channelAt_0 at h
  refine lv_sipush (v := 1859) hx hb dX12_channelAt_0 (by decide) ?_
  refine lv_sipush (v := 844) hx hb dX12_channelAt_3 (by decide) ?_
  refine lv_bipush (v := 6) hx hb dX12_channelAt_6 (by decide) ?_
  refine lv_iload_n hx hb dX12_channelAt_8 rfl (lv_at hl 0 rfl) ?_
  refine lv_imul hx hb dX12_channelAt_9 ?_
  refine lv_iload_n hx hb dX12_channelAt_10 rfl (lv_at hl 1 rfl) ?_
  refine lv_iadd hx hb dX12_channelAt_11 ?_
  refine lv_imul hx hb dX12_channelAt_12 ?_
  refine lv_iadd hx hb dX12_channelAt_13 ?_
  refine lv_iload_n hx hb dX12_channelAt_14 rfl (lv_at hl 2 rfl) ?_
  refine lv_iadd hx hb dX12_channelAt_15 ?_
  exact q_iret C S (rt_P h) dX12_channelAt_16
set_option maxRecDepth 10000 in
set_option maxHeartbeats 4000000 in
theorem ct_X12_channelAt (l : Launch) (D : va_G) (cI cB cL : ClassId) (x0 : Int32) (x1 : Int32) (x2 : Int32) : metP l D (tyl cI cB cL) yX12_channelAt cX12_channelAt 3 (some .int) 0 0 [.int x0, .int x1, .int x2] (fX12_channelAt x0 x1 x2) := by
  intro sz
  refine Met.ofW (cc := cX12_channelAt) (maxL := 3) (ret := (some .int)) (by decide) rfl ?_
  intro p e s m args below meth c s₁ B hml hv
  obtain ⟨rfl, C, S⟩ := q_entry B hml hv
  have hl := lv_entry ([.int x0, .int x1, .int x2]) (n := 3) (Nat.le_of_ble_eq_true rfl)
  rw [lg_entry_eq]
  generalize (lg_sl ([.int x0, .int x1, .int x2]) ++ List.replicate (3 - (lg_sl ([.int x0, .int x1, .int x2])).length) Slot.unset).toArray = ls at hl ⊢
  exact wX12_channelAt_0 C ⟨Nat.le_refl _, Nat.le_refl _⟩ x0 x1 x2 (lv_sub hl [0, 1, 2] rfl) S rfl
noncomputable def fX12_packetAt_0 (x0 : Int32) (x1 : Int32) (x2 : Int32) (x3 : Int32) : Int32 := (fX12_channelAt x0 x1 ((4 + (6 * x2)) + x3))
noncomputable def fX12_packetAt (x0 : Int32) (x1 : Int32) (x2 : Int32) (x3 : Int32) : Int32 := fX12_packetAt_0 x0 x1 x2 x3
set_option maxRecDepth 10000 in
set_option maxHeartbeats 4000000 in
theorem wX12_packetAt_0 (C : cx D (tyl cI cB cL) A RX12 cX12_packetAt 4 (some .int) p s m args c meth) (hR : 1 ≤ R.frames ∧ 22 ≤ R.locals) {r : Int32} (x0 : Int32) (x1 : Int32) (x2 : Int32) (x3 : Int32) {H : Heap} {locs : List Loc} {ls : Array Slot} (hl : lv_has ls 4 [(0, .int x0), (1, .int x1), (2, .int x2), (3, .int x3)]) (S : st D w0 A s z0 H locs) (h : fX12_packetAt_0 x0 x1 x2 x3 = r) : W p l e R s m args below meth c H locs 0 0 (MQ below (qI D (tyl cI cB cL) w0 A r z0) args s 0 0 A) (F0 m 0 ls []) := by
  have hx := C.1
  have hb := C.2.1
  have hsz := hl.1
  unfold fX12_packetAt_0 at h
  refine lv_iload_n hx hb dX12_packetAt_0 rfl (lv_at hl 0 rfl) ?_
  refine lv_iload_n hx hb dX12_packetAt_1 rfl (lv_at hl 1 rfl) ?_
  refine lv_iconst (v := 4) hx hb dX12_packetAt_2 (by decide) ?_
  refine lv_bipush (v := 6) hx hb dX12_packetAt_3 (by decide) ?_
  refine lv_iload_n hx hb dX12_packetAt_5 rfl (lv_at hl 2 rfl) ?_
  refine lv_imul hx hb dX12_packetAt_6 ?_
  refine lv_iadd hx hb dX12_packetAt_7 ?_
  refine lv_iload_n hx hb dX12_packetAt_8 rfl (lv_at hl 3 rfl) ?_
  refine lv_iadd hx hb dX12_packetAt_9 ?_
  refine q_callP (As := [.int x0, .int x1, .int ((4 + (6 * x2)) + x3)]) (na := 3) C S (ct_X12_channelAt l D cI cB cL x0 x1 ((4 + (6 * x2)) + x3)) mw_10 mw_9 mw_5 mw_8 hdX12_channelAt ⟨Nat.le_trans (Nat.le_of_ble_eq_true rfl) hR.1, Nat.le_trans (Nat.le_of_ble_eq_true rfl) hR.2⟩ rfl hsz ⟨Nat.zero_le _, Nat.zero_le _⟩ (Nat.le_of_ble_eq_true rfl) dX12_packetAt_10 rfl (fun H locs S => ?_)
  exact q_iret C S (rt_P h) dX12_packetAt_13
set_option maxRecDepth 10000 in
set_option maxHeartbeats 4000000 in
theorem ct_X12_packetAt (l : Launch) (D : va_G) (cI cB cL : ClassId) (x0 : Int32) (x1 : Int32) (x2 : Int32) (x3 : Int32) : metP l D (tyl cI cB cL) yX12_packetAt cX12_packetAt 4 (some .int) 1 22 [.int x0, .int x1, .int x2, .int x3] (fX12_packetAt x0 x1 x2 x3) := by
  intro sz
  refine Met.ofW (cc := cX12_packetAt) (maxL := 4) (ret := (some .int)) (by decide) rfl ?_
  intro p e s m args below meth c s₁ B hml hv
  obtain ⟨rfl, C, S⟩ := q_entry B hml hv
  have hl := lv_entry ([.int x0, .int x1, .int x2, .int x3]) (n := 4) (Nat.le_of_ble_eq_true rfl)
  rw [lg_entry_eq]
  generalize (lg_sl ([.int x0, .int x1, .int x2, .int x3]) ++ List.replicate (4 - (lg_sl ([.int x0, .int x1, .int x2, .int x3])).length) Slot.unset).toArray = ls at hl ⊢
  exact wX12_packetAt_0 C ⟨Nat.le_refl _, Nat.le_refl _⟩ x0 x1 x2 x3 (lv_sub hl [0, 1, 2, 3] rfl) S rfl
noncomputable def fX12_isLess_15 : Int32 := 1
noncomputable def fX12_isLess_0 (x0 : Int32) (x1 : Int32) (x2 : Int32) (x3 : Int32) : Int32 := cnd (x0 < x2) (fX12_isLess_15) (cnd (x0 = x2) (cnd (x3 ≤ x1) (0) (fX12_isLess_15)) (0))
noncomputable def fX12_isLess (x0 : Int32) (x1 : Int32) (x2 : Int32) (x3 : Int32) : Int32 := fX12_isLess_0 x0 x1 x2 x3
set_option maxRecDepth 10000 in
set_option maxHeartbeats 4000000 in
theorem wX12_isLess_15 (C : cx D (tyl cI cB cL) A RX12 cX12_isLess 4 (some .boolean) p s m args c meth) (hR : 0 ≤ R.frames ∧ 0 ≤ R.locals) {r : Int32} {H : Heap} {locs : List Loc} {ls : Array Slot} (hl : lv_has ls 4 []) (S : st D w0 A s z0 H locs) (h : fX12_isLess_15 = r) : W p l e R s m args below meth c H locs 0 0 (MQ below (qI D (tyl cI cB cL) w0 A r z0) args s 0 0 A) (F0 m 15 ls []) := by
  have hx := C.1
  have hb := C.2.1
  have hsz := hl.1
  unfold fX12_isLess_15 at h
  refine lv_iconst (v := 1) hx hb dX12_isLess_15 (by decide) ?_
  refine lv_goto (tgt := 20) hx hb dX12_isLess_16 (by decide) ?_
  exact q_zret C S rfl (rt_P h) dX12_isLess_20
set_option maxRecDepth 10000 in
set_option maxHeartbeats 4000000 in
theorem wX12_isLess_0 (C : cx D (tyl cI cB cL) A RX12 cX12_isLess 4 (some .boolean) p s m args c meth) (hR : 0 ≤ R.frames ∧ 0 ≤ R.locals) {r : Int32} (x0 : Int32) (x1 : Int32) (x2 : Int32) (x3 : Int32) {H : Heap} {locs : List Loc} {ls : Array Slot} (hl : lv_has ls 4 [(0, .int x0), (1, .int x1), (2, .int x2), (3, .int x3)]) (S : st D w0 A s z0 H locs) (h : fX12_isLess_0 x0 x1 x2 x3 = r) : W p l e R s m args below meth c H locs 0 0 (MQ below (qI D (tyl cI cB cL) w0 A r z0) args s 0 0 A) (F0 m 0 ls []) := by
  have hx := C.1
  have hb := C.2.1
  have hsz := hl.1
  unfold fX12_isLess_0 at h
  refine lv_iload_n hx hb dX12_isLess_0 rfl (lv_at hl 0 rfl) ?_
  refine lv_iload_n hx hb dX12_isLess_1 rfl (lv_at hl 2 rfl) ?_
  refine lv_icmp_lt (tgt := 15) hx hb dX12_isLess_2 (by decide) (fun c1 => ?_) (fun c1 => ?_)
  · have h := cnd_t c1 h
    exact wX12_isLess_15 C hR (lv_sub hl [] rfl) S h
  · have h := cnd_f c1 h
    refine lv_iload_n hx hb dX12_isLess_5 rfl (lv_at hl 0 rfl) ?_
    refine lv_iload_n hx hb dX12_isLess_6 rfl (lv_at hl 2 rfl) ?_
    refine lv_icmp_ne (tgt := 19) hx hb dX12_isLess_7 (by decide) (fun c2 => ?_) (fun c2 => ?_)
    · have h := cnd_f c2 h
      refine lv_iconst (v := 0) hx hb dX12_isLess_19 (by decide) ?_
      exact q_zret C S rfl (rt_P h) dX12_isLess_20
    · have h := cnd_t c2 h
      refine lv_iload_n hx hb dX12_isLess_10 rfl (lv_at hl 1 rfl) ?_
      refine lv_iload_n hx hb dX12_isLess_11 rfl (lv_at hl 3 rfl) ?_
      refine lv_icmp_ge (tgt := 19) hx hb dX12_isLess_12 (by decide) (fun c3 => ?_) (fun c3 => ?_)
      · have h := cnd_t c3 h
        refine lv_iconst (v := 0) hx hb dX12_isLess_19 (by decide) ?_
        exact q_zret C S rfl (rt_P h) dX12_isLess_20
      · have h := cnd_f c3 h
        exact wX12_isLess_15 C hR (lv_sub hl [] rfl) S h
set_option maxRecDepth 10000 in
set_option maxHeartbeats 4000000 in
theorem ct_X12_isLess (l : Launch) (D : va_G) (cI cB cL : ClassId) (x0 : Int32) (x1 : Int32) (x2 : Int32) (x3 : Int32) : metP l D (tyl cI cB cL) yX12_isLess cX12_isLess 4 (some .boolean) 0 0 [.int x0, .int x1, .int x2, .int x3] (fX12_isLess x0 x1 x2 x3) := by
  intro sz
  refine Met.ofW (cc := cX12_isLess) (maxL := 4) (ret := (some .boolean)) (by decide) rfl ?_
  intro p e s m args below meth c s₁ B hml hv
  obtain ⟨rfl, C, S⟩ := q_entry B hml hv
  have hl := lv_entry ([.int x0, .int x1, .int x2, .int x3]) (n := 4) (Nat.le_of_ble_eq_true rfl)
  rw [lg_entry_eq]
  generalize (lg_sl ([.int x0, .int x1, .int x2, .int x3]) ++ List.replicate (4 - (lg_sl ([.int x0, .int x1, .int x2, .int x3])).length) Slot.unset).toArray = ls at hl ⊢
  exact wX12_isLess_0 C ⟨Nat.le_refl _, Nat.le_refl _⟩ x0 x1 x2 x3 (lv_sub hl [0, 1, 2, 3] rfl) S rfl
noncomputable def fX0_isRing_0 (x0 : Int32) (x1 : Int32) (x2 : Int32) : Int32 := cnd ((x0 &&& x1) = 0) (0) (cnd ((x1 &&& x2) = 0) (0) (cnd ((x0 &&& x2) = 0) (0) (cnd (((x0 &&& x1) &&& x2) = 0) (1) (0))))
noncomputable def fX0_isRing (x0 : Int32) (x1 : Int32) (x2 : Int32) : Int32 := fX0_isRing_0 x0 x1 x2
set_option maxRecDepth 10000 in
set_option maxHeartbeats 4000000 in
theorem wX0_isRing_0 (C : cx D (tyl cI cB cL) A RX0 cX0_isRing 3 (some .boolean) p s m args c meth) (hR : 0 ≤ R.frames ∧ 0 ≤ R.locals) {r : Int32} (x0 : Int32) (x1 : Int32) (x2 : Int32) {H : Heap} {locs : List Loc} {ls : Array Slot} (hl : lv_has ls 3 [(0, .int x0), (1, .int x1), (2, .int x2)]) (S : st D w0 A s z0 H locs) (h : fX0_isRing_0 x0 x1 x2 = r) : W p l e R s m args below meth c H locs 0 0 (MQ below (qI D (tyl cI cB cL) w0 A r z0) args s 0 0 A) (F0 m 0 ls []) := by
  have hx := C.1
  have hb := C.2.1
  have hsz := hl.1
  unfold fX0_isRing_0 at h
  refine lv_iload_n hx hb dX0_isRing_0 rfl (lv_at hl 0 rfl) ?_
  refine lv_iload_n hx hb dX0_isRing_1 rfl (lv_at hl 1 rfl) ?_
  refine lv_iand hx hb dX0_isRing_2 ?_
  refine lv_if_eq (tgt := 30) hx hb dX0_isRing_3 (by decide) (fun c1 => ?_) (fun c1 => ?_)
  · have h := cnd_t c1 h
    refine lv_iconst (v := 0) hx hb dX0_isRing_30 (by decide) ?_
    exact q_zret C S rfl (rt_P h) dX0_isRing_31
  · have h := cnd_f c1 h
    refine lv_iload_n hx hb dX0_isRing_6 rfl (lv_at hl 1 rfl) ?_
    refine lv_iload_n hx hb dX0_isRing_7 rfl (lv_at hl 2 rfl) ?_
    refine lv_iand hx hb dX0_isRing_8 ?_
    refine lv_if_eq (tgt := 30) hx hb dX0_isRing_9 (by decide) (fun c2 => ?_) (fun c2 => ?_)
    · have h := cnd_t c2 h
      refine lv_iconst (v := 0) hx hb dX0_isRing_30 (by decide) ?_
      exact q_zret C S rfl (rt_P h) dX0_isRing_31
    · have h := cnd_f c2 h
      refine lv_iload_n hx hb dX0_isRing_12 rfl (lv_at hl 0 rfl) ?_
      refine lv_iload_n hx hb dX0_isRing_13 rfl (lv_at hl 2 rfl) ?_
      refine lv_iand hx hb dX0_isRing_14 ?_
      refine lv_if_eq (tgt := 30) hx hb dX0_isRing_15 (by decide) (fun c3 => ?_) (fun c3 => ?_)
      · have h := cnd_t c3 h
        refine lv_iconst (v := 0) hx hb dX0_isRing_30 (by decide) ?_
        exact q_zret C S rfl (rt_P h) dX0_isRing_31
      · have h := cnd_f c3 h
        refine lv_iload_n hx hb dX0_isRing_18 rfl (lv_at hl 0 rfl) ?_
        refine lv_iload_n hx hb dX0_isRing_19 rfl (lv_at hl 1 rfl) ?_
        refine lv_iand hx hb dX0_isRing_20 ?_
        refine lv_iload_n hx hb dX0_isRing_21 rfl (lv_at hl 2 rfl) ?_
        refine lv_iand hx hb dX0_isRing_22 ?_
        refine lv_if_ne (tgt := 30) hx hb dX0_isRing_23 (by decide) (fun c4 => ?_) (fun c4 => ?_)
        · have h := cnd_f c4 h
          refine lv_iconst (v := 0) hx hb dX0_isRing_30 (by decide) ?_
          exact q_zret C S rfl (rt_P h) dX0_isRing_31
        · have h := cnd_t c4 h
          refine lv_iconst (v := 1) hx hb dX0_isRing_26 (by decide) ?_
          refine lv_goto (tgt := 31) hx hb dX0_isRing_27 (by decide) ?_
          exact q_zret C S rfl (rt_P h) dX0_isRing_31
set_option maxRecDepth 10000 in
set_option maxHeartbeats 4000000 in
theorem ct_X0_isRing (l : Launch) (D : va_G) (cI cB cL : ClassId) (x0 : Int32) (x1 : Int32) (x2 : Int32) : metP l D (tyl cI cB cL) yX0_isRing cX0_isRing 3 (some .boolean) 0 0 [.int x0, .int x1, .int x2] (fX0_isRing x0 x1 x2) := by
  intro sz
  refine Met.ofW (cc := cX0_isRing) (maxL := 3) (ret := (some .boolean)) (by decide) rfl ?_
  intro p e s m args below meth c s₁ B hml hv
  obtain ⟨rfl, C, S⟩ := q_entry B hml hv
  have hl := lv_entry ([.int x0, .int x1, .int x2]) (n := 3) (Nat.le_of_ble_eq_true rfl)
  rw [lg_entry_eq]
  generalize (lg_sl ([.int x0, .int x1, .int x2]) ++ List.replicate (3 - (lg_sl ([.int x0, .int x1, .int x2])).length) Slot.unset).toArray = ls at hl ⊢
  exact wX0_isRing_0 C ⟨Nat.le_refl _, Nat.le_refl _⟩ x0 x1 x2 (lv_sub hl [0, 1, 2] rfl) S rfl
end S_05_pure
