theorem mw_232 : Cond.code yX12_bitsWith cX12_bitsWith 5 (some .int) ∈ gw := gw_t7 219 rfl rfl
theorem mw_233 : Cond.instanceMethod yX12_bitsWith ∈ gw := gw_t7 218 rfl rfl
theorem mw_234 : Cond.methodLink RX12 302 yX12_bitsWith ∈ gw := gw_t7 216 rfl rfl
theorem mw_235 : Cond.selects RX12 yX12_bitsWith yX12_bitsWith ∈ gw := gw_pv (n := 18) (List.mem_of_getElem? (i := 79) rfl)
theorem mw_236 : Cond.code yJ6_bitCount_0f7a4 cJ6_bitCount_0f7a4 1 (some .int) ∈ gw := gw_t4 66 rfl rfl
theorem mw_237 : Cond.initialized RJ6 ∈ gw := gw_t1 26 rfl rfl
theorem mw_238 : Cond.static yJ6_bitCount_0f7a4 ∈ gw := gw_t4 65 rfl rfl
theorem mw_239 : Cond.methodLink RX12 305 yJ6_bitCount_0f7a4 ∈ gw := gw_t7 220 rfl rfl
theorem mw_240 : Cond.code yX12_noMessage cX12_noMessage 2 (some .boolean) ∈ gw := gw_t7 232 rfl rfl
theorem mw_241 : Cond.instanceMethod yX12_noMessage ∈ gw := gw_t7 231 rfl rfl
theorem mw_242 : Cond.methodLink RX12 310 yX12_noMessage ∈ gw := gw_t7 229 rfl rfl
theorem mw_243 : Cond.selects RX12 yX12_noMessage yX12_noMessage ∈ gw := gw_pv (n := 18) (List.mem_of_getElem? (i := 80) rfl)
theorem mw_244 : Cond.code yX12_nodesWith cX12_nodesWith 6 (some .int) ∈ gw := gw_t7 236 rfl rfl
theorem mw_245 : Cond.instanceMethod yX12_nodesWith ∈ gw := gw_t7 235 rfl rfl
theorem mw_246 : Cond.methodLink RX12 313 yX12_nodesWith ∈ gw := gw_t7 233 rfl rfl
theorem mw_247 : Cond.selects RX12 yX12_nodesWith yX12_nodesWith ∈ gw := gw_pv (n := 18) (List.mem_of_getElem? (i := 81) rfl)
theorem mw_248 : Cond.code yX12_noPair cX12_noPair 3 (some .boolean) ∈ gw := gw_t8 4 rfl rfl
theorem mw_249 : Cond.instanceMethod yX12_noPair ∈ gw := gw_t8 3 rfl rfl
theorem mw_250 : Cond.methodLink RX12 316 yX12_noPair ∈ gw := gw_t8 1 rfl rfl
theorem mw_251 : Cond.selects RX12 yX12_noPair yX12_noPair ∈ gw := gw_pv (n := 18) (List.mem_of_getElem? (i := 82) rfl)
theorem mw_252 : Cond.code yX12_noTwo cX12_noTwo 3 (some .boolean) ∈ gw := gw_t8 16 rfl rfl
theorem mw_253 : Cond.instanceMethod yX12_noTwo ∈ gw := gw_t8 15 rfl rfl
theorem mw_254 : Cond.methodLink RX12 319 yX12_noTwo ∈ gw := gw_t8 13 rfl rfl
theorem mw_255 : Cond.selects RX12 yX12_noTwo yX12_noTwo ∈ gw := gw_pv (n := 18) (List.mem_of_getElem? (i := 83) rfl)
theorem hdX12_bitsWith : yX12_bitsWith.cls = RX12 ∧ yX12_bitsWith.cls ≠ "java/lang/invoke/MethodHandle" ∧ yX12_bitsWith.cls ≠ "java/lang/invoke/VarHandle" ∧ (parseMethodDescriptor yX12_bitsWith.desc).map (fun d => d.parameters.length) = some 2 := by decide +kernel
theorem hdX12_noMessage : yX12_noMessage.cls = RX12 ∧ yX12_noMessage.cls ≠ "java/lang/invoke/MethodHandle" ∧ yX12_noMessage.cls ≠ "java/lang/invoke/VarHandle" ∧ (parseMethodDescriptor yX12_noMessage.desc).map (fun d => d.parameters.length) = some 1 := by decide +kernel
theorem hdX12_noPair : yX12_noPair.cls = RX12 ∧ yX12_noPair.cls ≠ "java/lang/invoke/MethodHandle" ∧ yX12_noPair.cls ≠ "java/lang/invoke/VarHandle" ∧ (parseMethodDescriptor yX12_noPair.desc).map (fun d => d.parameters.length) = some 2 := by decide +kernel
theorem hdX12_noTwo : yX12_noTwo.cls = RX12 ∧ yX12_noTwo.cls ≠ "java/lang/invoke/MethodHandle" ∧ yX12_noTwo.cls ≠ "java/lang/invoke/VarHandle" ∧ (parseMethodDescriptor yX12_noTwo.desc).map (fun d => d.parameters.length) = some 2 := by decide +kernel
theorem hdX12_nodesWith : yX12_nodesWith.cls = RX12 ∧ yX12_nodesWith.cls ≠ "java/lang/invoke/MethodHandle" ∧ yX12_nodesWith.cls ≠ "java/lang/invoke/VarHandle" ∧ (parseMethodDescriptor yX12_nodesWith.desc).map (fun d => d.parameters.length) = some 3 := by decide +kernel
theorem hdJ6_bitCount_0f7a4 : yJ6_bitCount_0f7a4.cls ≠ "java/lang/invoke/MethodHandle" ∧ yJ6_bitCount_0f7a4.cls ≠ "java/lang/invoke/VarHandle" ∧ (parseMethodDescriptor yJ6_bitCount_0f7a4.desc).map (fun d => d.parameters.length) = some 1 := by decide +kernel
theorem dX12_node_0 : decode cX12_node 0 = .ok (.aload_n 0, 1) := by decide +kernel
theorem dX12_node_1 : decode cX12_node 1 = .ok (.iconst 0, 1) := by decide +kernel
theorem dX12_node_2 : decode cX12_node 2 = .ok (.putfield 3, 3) := by decide +kernel
theorem dX12_node_5 : decode cX12_node 5 = .ok (.aload_n 0, 1) := by decide +kernel
theorem dX12_node_6 : decode cX12_node 6 = .ok (.aload_n 0, 1) := by decide +kernel
theorem dX12_node_7 : decode cX12_node 7 = .ok (.iload_n 1, 1) := by decide +kernel
theorem dX12_node_8 : decode cX12_node 8 = .ok (.invokevirtual 296, 3) := by decide +kernel
theorem dX12_node_11 : decode cX12_node 11 = .ok (.iconst 1, 1) := by decide +kernel
theorem dX12_node_12 : decode cX12_node 12 = .ok (.invokevirtual 176, 3) := by decide +kernel
theorem dX12_node_15 : decode cX12_node 15 = .ok (.ifCond .ne 25, 3) := by decide +kernel
theorem dX12_node_18 : decode cX12_node 18 = .ok (.aload_n 0, 1) := by decide +kernel
theorem dX12_node_19 : decode cX12_node 19 = .ok (.iload_n 2, 1) := by decide +kernel
theorem dX12_node_20 : decode cX12_node 20 = .ok (.iconst 0, 1) := by decide +kernel
theorem dX12_node_21 : decode cX12_node 21 = .ok (.iconst 5, 1) := by decide +kernel
theorem dX12_node_22 : decode cX12_node 22 = .ok (.invokestatic 70, 3) := by decide +kernel
theorem dX12_node_25 : decode cX12_node 25 = .ok (.ifCond .ne 7, 3) := by decide +kernel
theorem dX12_node_28 : decode cX12_node 28 = .ok (.iconst 1, 1) := by decide +kernel
theorem dX12_node_29 : decode cX12_node 29 = .ok (.goto 4, 3) := by decide +kernel
theorem dX12_node_32 : decode cX12_node 32 = .ok (.iconst 0, 1) := by decide +kernel
theorem dX12_node_33 : decode cX12_node 33 = .ok (.iconst 2, 1) := by decide +kernel
theorem dX12_node_34 : decode cX12_node 34 = .ok (.invokevirtual 176, 3) := by decide +kernel
theorem dX12_node_37 : decode cX12_node 37 = .ok (.ifCond .eq 5, 3) := by decide +kernel
theorem dX12_node_40 : decode cX12_node 40 = .ok (.iconst 0, 1) := by decide +kernel
theorem dX12_node_41 : decode cX12_node 41 = .ok (.ireturn, 1) := by decide +kernel
theorem dX12_node_42 : decode cX12_node 42 = .ok (.iload_n 2, 1) := by decide +kernel
theorem dX12_node_43 : decode cX12_node 43 = .ok (.tableswitch 78 0 4 #[33, 40, 47, 64, 71], 33) := by decide +kernel
theorem dX12_node_76 : decode cX12_node 76 = .ok (.aload_n 0, 1) := by decide +kernel
theorem dX12_node_77 : decode cX12_node 77 = .ok (.iload_n 1, 1) := by decide +kernel
theorem dX12_node_78 : decode cX12_node 78 = .ok (.iconst 0, 1) := by decide +kernel
theorem dX12_node_79 : decode cX12_node 79 = .ok (.invokevirtual 77, 3) := by decide +kernel
theorem dX12_node_82 : decode cX12_node 82 = .ok (.ireturn, 1) := by decide +kernel
theorem dX12_node_83 : decode cX12_node 83 = .ok (.aload_n 0, 1) := by decide +kernel
theorem dX12_node_84 : decode cX12_node 84 = .ok (.iload_n 1, 1) := by decide +kernel
theorem dX12_node_85 : decode cX12_node 85 = .ok (.iconst 2, 1) := by decide +kernel
theorem dX12_node_86 : decode cX12_node 86 = .ok (.invokevirtual 77, 3) := by decide +kernel
theorem dX12_node_89 : decode cX12_node 89 = .ok (.ireturn, 1) := by decide +kernel
theorem dX12_node_90 : decode cX12_node 90 = .ok (.aload_n 0, 1) := by decide +kernel
theorem dX12_node_91 : decode cX12_node 91 = .ok (.iload_n 1, 1) := by decide +kernel
theorem dX12_node_92 : decode cX12_node 92 = .ok (.iconst 1, 1) := by decide +kernel
theorem dX12_node_93 : decode cX12_node 93 = .ok (.invokevirtual 302, 3) := by decide +kernel
theorem dX12_node_96 : decode cX12_node 96 = .ok (.aload_n 0, 1) := by decide +kernel
theorem dX12_node_97 : decode cX12_node 97 = .ok (.iload_n 1, 1) := by decide +kernel
theorem dX12_node_98 : decode cX12_node 98 = .ok (.iconst 2, 1) := by decide +kernel
theorem dX12_node_99 : decode cX12_node 99 = .ok (.invokevirtual 302, 3) := by decide +kernel
theorem dX12_node_102 : decode cX12_node 102 = .ok (.ior, 1) := by decide +kernel
theorem dX12_node_103 : decode cX12_node 103 = .ok (.invokestatic 305, 3) := by decide +kernel
theorem dX12_node_106 : decode cX12_node 106 = .ok (.ireturn, 1) := by decide +kernel
theorem dX12_node_107 : decode cX12_node 107 = .ok (.aload_n 0, 1) := by decide +kernel
theorem dX12_node_108 : decode cX12_node 108 = .ok (.iload_n 1, 1) := by decide +kernel
theorem dX12_node_109 : decode cX12_node 109 = .ok (.iconst 4, 1) := by decide +kernel
theorem dX12_node_110 : decode cX12_node 110 = .ok (.invokevirtual 77, 3) := by decide +kernel
theorem dX12_node_113 : decode cX12_node 113 = .ok (.ireturn, 1) := by decide +kernel
theorem dX12_node_114 : decode cX12_node 114 = .ok (.aload_n 0, 1) := by decide +kernel
theorem dX12_node_115 : decode cX12_node 115 = .ok (.iload_n 1, 1) := by decide +kernel
theorem dX12_node_116 : decode cX12_node 116 = .ok (.iconst 3, 1) := by decide +kernel
theorem dX12_node_117 : decode cX12_node 117 = .ok (.invokevirtual 77, 3) := by decide +kernel
theorem dX12_node_120 : decode cX12_node 120 = .ok (.ireturn, 1) := by decide +kernel
theorem dX12_node_121 : decode cX12_node 121 = .ok (.aload_n 0, 1) := by decide +kernel
theorem dX12_node_122 : decode cX12_node 122 = .ok (.iload_n 1, 1) := by decide +kernel
theorem dX12_node_123 : decode cX12_node 123 = .ok (.invokevirtual 181, 3) := by decide +kernel
theorem dX12_node_126 : decode cX12_node 126 = .ok (.ifCond .eq 7, 3) := by decide +kernel
theorem dX12_node_129 : decode cX12_node 129 = .ok (.iconst 1, 1) := by decide +kernel
theorem dX12_node_130 : decode cX12_node 130 = .ok (.goto 4, 3) := by decide +kernel
theorem dX12_node_133 : decode cX12_node 133 = .ok (.iconst 0, 1) := by decide +kernel
theorem dX12_node_134 : decode cX12_node 134 = .ok (.ireturn, 1) := by decide +kernel
theorem dX12_group_0 : decode cX12_group 0 = .ok (.aload_n 0, 1) := by decide +kernel
theorem dX12_group_1 : decode cX12_group 1 = .ok (.iconst 0, 1) := by decide +kernel
theorem dX12_group_2 : decode cX12_group 2 = .ok (.putfield 3, 3) := by decide +kernel
theorem dX12_group_5 : decode cX12_group 5 = .ok (.aload_n 0, 1) := by decide +kernel
theorem dX12_group_6 : decode cX12_group 6 = .ok (.aload_n 0, 1) := by decide +kernel
theorem dX12_group_7 : decode cX12_group 7 = .ok (.iload_n 1, 1) := by decide +kernel
theorem dX12_group_8 : decode cX12_group 8 = .ok (.invokevirtual 299, 3) := by decide +kernel
theorem dX12_group_11 : decode cX12_group 11 = .ok (.iconst 1, 1) := by decide +kernel
theorem dX12_group_12 : decode cX12_group 12 = .ok (.invokevirtual 176, 3) := by decide +kernel
theorem dX12_group_15 : decode cX12_group 15 = .ok (.ifCond .eq 7, 3) := by decide +kernel
theorem dX12_group_18 : decode cX12_group 18 = .ok (.iconst 0, 1) := by decide +kernel
theorem dX12_group_19 : decode cX12_group 19 = .ok (.goto 12, 3) := by decide +kernel
theorem dX12_group_22 : decode cX12_group 22 = .ok (.aload_n 0, 1) := by decide +kernel
theorem dX12_group_23 : decode cX12_group 23 = .ok (.getfield 13, 3) := by decide +kernel
theorem dX12_group_26 : decode cX12_group 26 = .ok (.bipush 11, 2) := by decide +kernel
theorem dX12_group_28 : decode cX12_group 28 = .ok (.iload_n 1, 1) := by decide +kernel
theorem dX12_group_29 : decode cX12_group 29 = .ok (.iadd, 1) := by decide +kernel
theorem dX12_group_30 : decode cX12_group 30 = .ok (.iaload, 1) := by decide +kernel
theorem dX12_group_31 : decode cX12_group 31 = .ok (.ireturn, 1) := by decide +kernel
theorem dX12_nodesWith_0 : decode cX12_nodesWith 0 = .ok (.iconst 0, 1) := by decide +kernel
theorem dX12_nodesWith_1 : decode cX12_nodesWith 1 = .ok (.istore 4, 2) := by decide +kernel
theorem dX12_nodesWith_3 : decode cX12_nodesWith 3 = .ok (.iconst 0, 1) := by decide +kernel
theorem dX12_nodesWith_4 : decode cX12_nodesWith 4 = .ok (.istore 5, 2) := by decide +kernel
theorem dX12_nodesWith_6 : decode cX12_nodesWith 6 = .ok (.iload 5, 2) := by decide +kernel
theorem dX12_nodesWith_8 : decode cX12_nodesWith 8 = .ok (.aload_n 0, 1) := by decide +kernel
theorem dX12_nodesWith_9 : decode cX12_nodesWith 9 = .ok (.invokevirtual 66, 3) := by decide +kernel
theorem dX12_nodesWith_12 : decode cX12_nodesWith 12 = .ok (.if_icmp .ge 34, 3) := by decide +kernel
theorem dX12_nodesWith_15 : decode cX12_nodesWith 15 = .ok (.iload 4, 2) := by decide +kernel
theorem dX12_nodesWith_17 : decode cX12_nodesWith 17 = .ok (.aload_n 0, 1) := by decide +kernel
theorem dX12_nodesWith_18 : decode cX12_nodesWith 18 = .ok (.iload 5, 2) := by decide +kernel
theorem dX12_nodesWith_20 : decode cX12_nodesWith 20 = .ok (.iload_n 1, 1) := by decide +kernel
theorem dX12_nodesWith_21 : decode cX12_nodesWith 21 = .ok (.iload_n 2, 1) := by decide +kernel
theorem dX12_nodesWith_22 : decode cX12_nodesWith 22 = .ok (.invokevirtual 219, 3) := by decide +kernel
theorem dX12_nodesWith_25 : decode cX12_nodesWith 25 = .ok (.iload_n 3, 1) := by decide +kernel
theorem dX12_nodesWith_26 : decode cX12_nodesWith 26 = .ok (.if_icmp .ne 10, 3) := by decide +kernel
theorem dX12_nodesWith_29 : decode cX12_nodesWith 29 = .ok (.iconst 1, 1) := by decide +kernel
theorem dX12_nodesWith_30 : decode cX12_nodesWith 30 = .ok (.iload 5, 2) := by decide +kernel
theorem dX12_nodesWith_32 : decode cX12_nodesWith 32 = .ok (.ishl, 1) := by decide +kernel
theorem dX12_nodesWith_33 : decode cX12_nodesWith 33 = .ok (.goto 4, 3) := by decide +kernel
theorem dX12_nodesWith_36 : decode cX12_nodesWith 36 = .ok (.iconst 0, 1) := by decide +kernel
theorem dX12_nodesWith_37 : decode cX12_nodesWith 37 = .ok (.ior, 1) := by decide +kernel
theorem dX12_nodesWith_38 : decode cX12_nodesWith 38 = .ok (.istore 4, 2) := by decide +kernel
theorem dX12_nodesWith_40 : decode cX12_nodesWith 40 = .ok (.iinc 5 1, 3) := by decide +kernel
theorem dX12_nodesWith_43 : decode cX12_nodesWith 43 = .ok (.goto (-37), 3) := by decide +kernel
theorem dX12_nodesWith_46 : decode cX12_nodesWith 46 = .ok (.iload 4, 2) := by decide +kernel
theorem dX12_nodesWith_48 : decode cX12_nodesWith 48 = .ok (.ireturn, 1) := by decide +kernel
theorem dX12_message_0 : decode cX12_message 0 = .ok (.aload_n 0, 1) := by decide +kernel
theorem dX12_message_1 : decode cX12_message 1 = .ok (.iconst 0, 1) := by decide +kernel
theorem dX12_message_2 : decode cX12_message 2 = .ok (.putfield 3, 3) := by decide +kernel
theorem dX12_message_5 : decode cX12_message 5 = .ok (.aload_n 0, 1) := by decide +kernel
theorem dX12_message_6 : decode cX12_message 6 = .ok (.aload_n 0, 1) := by decide +kernel
theorem dX12_message_7 : decode cX12_message 7 = .ok (.iload_n 1, 1) := by decide +kernel
theorem dX12_message_8 : decode cX12_message 8 = .ok (.invokevirtual 310, 3) := by decide +kernel
theorem dX12_message_11 : decode cX12_message 11 = .ok (.iconst 1, 1) := by decide +kernel
theorem dX12_message_12 : decode cX12_message 12 = .ok (.invokevirtual 176, 3) := by decide +kernel
theorem dX12_message_15 : decode cX12_message 15 = .ok (.ifCond .ne 25, 3) := by decide +kernel
theorem dX12_message_18 : decode cX12_message 18 = .ok (.aload_n 0, 1) := by decide +kernel
theorem dX12_message_19 : decode cX12_message 19 = .ok (.iload_n 2, 1) := by decide +kernel
theorem dX12_message_20 : decode cX12_message 20 = .ok (.iconst 0, 1) := by decide +kernel
theorem dX12_message_21 : decode cX12_message 21 = .ok (.iconst 4, 1) := by decide +kernel
theorem dX12_message_22 : decode cX12_message 22 = .ok (.invokestatic 70, 3) := by decide +kernel
theorem dX12_message_25 : decode cX12_message 25 = .ok (.ifCond .ne 7, 3) := by decide +kernel
theorem dX12_message_28 : decode cX12_message 28 = .ok (.iconst 1, 1) := by decide +kernel
theorem dX12_message_29 : decode cX12_message 29 = .ok (.goto 4, 3) := by decide +kernel
theorem dX12_message_32 : decode cX12_message 32 = .ok (.iconst 0, 1) := by decide +kernel
theorem dX12_message_33 : decode cX12_message 33 = .ok (.iconst 2, 1) := by decide +kernel
theorem dX12_message_34 : decode cX12_message 34 = .ok (.invokevirtual 176, 3) := by decide +kernel
theorem dX12_message_37 : decode cX12_message 37 = .ok (.ifCond .eq 5, 3) := by decide +kernel
theorem dX12_message_40 : decode cX12_message 40 = .ok (.iconst 0, 1) := by decide +kernel
theorem dX12_message_41 : decode cX12_message 41 = .ok (.ireturn, 1) := by decide +kernel
theorem dX12_message_42 : decode cX12_message 42 = .ok (.iload_n 2, 1) := by decide +kernel
theorem dX12_message_43 : decode cX12_message 43 = .ok (.tableswitch 58 0 3 #[29, 36, 43, 50], 29) := by decide +kernel
theorem dX12_message_72 : decode cX12_message 72 = .ok (.aload_n 0, 1) := by decide +kernel
theorem dX12_message_73 : decode cX12_message 73 = .ok (.iload_n 1, 1) := by decide +kernel
theorem dX12_message_74 : decode cX12_message 74 = .ok (.iconst 0, 1) := by decide +kernel
theorem dX12_message_75 : decode cX12_message 75 = .ok (.invokevirtual 84, 3) := by decide +kernel
theorem dX12_message_78 : decode cX12_message 78 = .ok (.ireturn, 1) := by decide +kernel
theorem dX12_message_79 : decode cX12_message 79 = .ok (.aload_n 0, 1) := by decide +kernel
theorem dX12_message_80 : decode cX12_message 80 = .ok (.iload_n 1, 1) := by decide +kernel
theorem dX12_message_81 : decode cX12_message 81 = .ok (.iconst 1, 1) := by decide +kernel
theorem dX12_message_82 : decode cX12_message 82 = .ok (.invokevirtual 84, 3) := by decide +kernel
theorem dX12_message_85 : decode cX12_message 85 = .ok (.ireturn, 1) := by decide +kernel
theorem dX12_message_86 : decode cX12_message 86 = .ok (.aload_n 0, 1) := by decide +kernel
theorem dX12_message_87 : decode cX12_message 87 = .ok (.iload_n 1, 1) := by decide +kernel
theorem dX12_message_88 : decode cX12_message 88 = .ok (.iconst 2, 1) := by decide +kernel
theorem dX12_message_89 : decode cX12_message 89 = .ok (.invokevirtual 84, 3) := by decide +kernel
theorem dX12_message_92 : decode cX12_message 92 = .ok (.ireturn, 1) := by decide +kernel
theorem dX12_message_93 : decode cX12_message 93 = .ok (.aload_n 0, 1) := by decide +kernel
theorem dX12_message_94 : decode cX12_message 94 = .ok (.iload_n 1, 1) := by decide +kernel
theorem dX12_message_95 : decode cX12_message 95 = .ok (.iconst 0, 1) := by decide +kernel
theorem dX12_message_96 : decode cX12_message 96 = .ok (.iconst 3, 1) := by decide +kernel
theorem dX12_message_97 : decode cX12_message 97 = .ok (.invokevirtual 313, 3) := by decide +kernel
theorem dX12_message_100 : decode cX12_message 100 = .ok (.ireturn, 1) := by decide +kernel
theorem dX12_message_101 : decode cX12_message 101 = .ok (.aload_n 0, 1) := by decide +kernel
theorem dX12_message_102 : decode cX12_message 102 = .ok (.iload_n 1, 1) := by decide +kernel
theorem dX12_message_103 : decode cX12_message 103 = .ok (.iconst 5, 1) := by decide +kernel
theorem dX12_message_104 : decode cX12_message 104 = .ok (.iconst 1, 1) := by decide +kernel
theorem dX12_message_105 : decode cX12_message 105 = .ok (.invokevirtual 313, 3) := by decide +kernel
theorem dX12_message_108 : decode cX12_message 108 = .ok (.ireturn, 1) := by decide +kernel
theorem dX12_noPair_0 : decode cX12_noPair 0 = .ok (.aload_n 0, 1) := by decide +kernel
theorem dX12_noPair_1 : decode cX12_noPair 1 = .ok (.iconst 0, 1) := by decide +kernel
theorem dX12_noPair_2 : decode cX12_noPair 2 = .ok (.putfield 3, 3) := by decide +kernel
theorem dX12_noPair_5 : decode cX12_noPair 5 = .ok (.aload_n 0, 1) := by decide +kernel
theorem dX12_noPair_6 : decode cX12_noPair 6 = .ok (.aload_n 0, 1) := by decide +kernel
theorem dX12_noPair_7 : decode cX12_noPair 7 = .ok (.iload_n 1, 1) := by decide +kernel
theorem dX12_noPair_8 : decode cX12_noPair 8 = .ok (.invokevirtual 296, 3) := by decide +kernel
theorem dX12_noPair_11 : decode cX12_noPair 11 = .ok (.ifCond .ne 11, 3) := by decide +kernel
theorem dX12_noPair_14 : decode cX12_noPair 14 = .ok (.aload_n 0, 1) := by decide +kernel
theorem dX12_noPair_15 : decode cX12_noPair 15 = .ok (.iload_n 2, 1) := by decide +kernel
theorem dX12_noPair_16 : decode cX12_noPair 16 = .ok (.invokevirtual 310, 3) := by decide +kernel
theorem dX12_noPair_19 : decode cX12_noPair 19 = .ok (.ifCond .eq 7, 3) := by decide +kernel
theorem dX12_noPair_22 : decode cX12_noPair 22 = .ok (.iconst 1, 1) := by decide +kernel
theorem dX12_noPair_23 : decode cX12_noPair 23 = .ok (.goto 4, 3) := by decide +kernel
theorem dX12_noPair_26 : decode cX12_noPair 26 = .ok (.iconst 0, 1) := by decide +kernel
theorem dX12_noPair_27 : decode cX12_noPair 27 = .ok (.iconst 1, 1) := by decide +kernel
theorem dX12_noPair_28 : decode cX12_noPair 28 = .ok (.invokevirtual 176, 3) := by decide +kernel
theorem dX12_noPair_31 : decode cX12_noPair 31 = .ok (.ireturn, 1) := by decide +kernel
theorem dX12_has_0 : decode cX12_has 0 = .ok (.aload_n 0, 1) := by decide +kernel
theorem dX12_has_1 : decode cX12_has 1 = .ok (.iload_n 1, 1) := by decide +kernel
theorem dX12_has_2 : decode cX12_has 2 = .ok (.iload_n 2, 1) := by decide +kernel
theorem dX12_has_3 : decode cX12_has 3 = .ok (.invokevirtual 316, 3) := by decide +kernel
theorem dX12_has_6 : decode cX12_has 6 = .ok (.ifCond .ne 25, 3) := by decide +kernel
theorem dX12_has_9 : decode cX12_has 9 = .ok (.aload_n 0, 1) := by decide +kernel
theorem dX12_has_10 : decode cX12_has 10 = .ok (.iload_n 3, 1) := by decide +kernel
theorem dX12_has_11 : decode cX12_has 11 = .ok (.iconst 0, 1) := by decide +kernel
theorem dX12_has_12 : decode cX12_has 12 = .ok (.iconst 3, 1) := by decide +kernel
theorem dX12_has_13 : decode cX12_has 13 = .ok (.invokestatic 70, 3) := by decide +kernel
theorem dX12_has_16 : decode cX12_has 16 = .ok (.ifCond .ne 7, 3) := by decide +kernel
theorem dX12_has_19 : decode cX12_has 19 = .ok (.iconst 1, 1) := by decide +kernel
theorem dX12_has_20 : decode cX12_has 20 = .ok (.goto 4, 3) := by decide +kernel
theorem dX12_has_23 : decode cX12_has 23 = .ok (.iconst 0, 1) := by decide +kernel
theorem dX12_has_24 : decode cX12_has 24 = .ok (.iconst 2, 1) := by decide +kernel
theorem dX12_has_25 : decode cX12_has 25 = .ok (.invokevirtual 176, 3) := by decide +kernel
theorem dX12_has_28 : decode cX12_has 28 = .ok (.ifCond .eq 5, 3) := by decide +kernel
theorem dX12_has_31 : decode cX12_has 31 = .ok (.iconst 0, 1) := by decide +kernel
theorem dX12_has_32 : decode cX12_has 32 = .ok (.ireturn, 1) := by decide +kernel
theorem dX12_has_33 : decode cX12_has 33 = .ok (.iload_n 3, 1) := by decide +kernel
theorem dX12_has_34 : decode cX12_has 34 = .ok (.ifCond .le 15, 3) := by decide +kernel
theorem dX12_has_37 : decode cX12_has 37 = .ok (.aload_n 0, 1) := by decide +kernel
theorem dX12_has_38 : decode cX12_has 38 = .ok (.iload_n 1, 1) := by decide +kernel
theorem dX12_has_39 : decode cX12_has 39 = .ok (.iload_n 2, 1) := by decide +kernel
theorem dX12_has_40 : decode cX12_has 40 = .ok (.iconst 0, 1) := by decide +kernel
theorem dX12_has_41 : decode cX12_has 41 = .ok (.invokevirtual 219, 3) := by decide +kernel
theorem dX12_has_44 : decode cX12_has 44 = .ok (.ifCond .ne 5, 3) := by decide +kernel
theorem dX12_has_47 : decode cX12_has 47 = .ok (.iconst (-1), 1) := by decide +kernel
theorem dX12_has_48 : decode cX12_has 48 = .ok (.ireturn, 1) := by decide +kernel
theorem dX12_has_49 : decode cX12_has 49 = .ok (.iload_n 3, 1) := by decide +kernel
theorem dX12_has_50 : decode cX12_has 50 = .ok (.tableswitch 50 0 2 #[26, 34, 42], 26) := by decide +kernel
theorem dX12_has_76 : decode cX12_has 76 = .ok (.aload_n 0, 1) := by decide +kernel
theorem dX12_has_77 : decode cX12_has 77 = .ok (.iload_n 1, 1) := by decide +kernel
theorem dX12_has_78 : decode cX12_has 78 = .ok (.iload_n 2, 1) := by decide +kernel
theorem dX12_has_79 : decode cX12_has 79 = .ok (.iconst 0, 1) := by decide +kernel
theorem dX12_has_80 : decode cX12_has 80 = .ok (.invokevirtual 219, 3) := by decide +kernel
theorem dX12_has_83 : decode cX12_has 83 = .ok (.ireturn, 1) := by decide +kernel
theorem dX12_has_84 : decode cX12_has 84 = .ok (.aload_n 0, 1) := by decide +kernel
theorem dX12_has_85 : decode cX12_has 85 = .ok (.iload_n 1, 1) := by decide +kernel
theorem dX12_has_86 : decode cX12_has 86 = .ok (.iload_n 2, 1) := by decide +kernel
theorem dX12_has_87 : decode cX12_has 87 = .ok (.iconst 1, 1) := by decide +kernel
theorem dX12_has_88 : decode cX12_has 88 = .ok (.invokevirtual 219, 3) := by decide +kernel
theorem dX12_has_91 : decode cX12_has 91 = .ok (.ireturn, 1) := by decide +kernel
theorem dX12_has_92 : decode cX12_has 92 = .ok (.aload_n 0, 1) := by decide +kernel
theorem dX12_has_93 : decode cX12_has 93 = .ok (.iload_n 1, 1) := by decide +kernel
theorem dX12_has_94 : decode cX12_has 94 = .ok (.iload_n 2, 1) := by decide +kernel
theorem dX12_has_95 : decode cX12_has 95 = .ok (.iconst 2, 1) := by decide +kernel
theorem dX12_has_96 : decode cX12_has 96 = .ok (.invokevirtual 219, 3) := by decide +kernel
theorem dX12_has_99 : decode cX12_has 99 = .ok (.ireturn, 1) := by decide +kernel
theorem dX12_has_100 : decode cX12_has 100 = .ok (.aload_n 0, 1) := by decide +kernel
theorem dX12_has_101 : decode cX12_has 101 = .ok (.iload_n 1, 1) := by decide +kernel
theorem dX12_has_102 : decode cX12_has 102 = .ok (.iload_n 2, 1) := by decide +kernel
theorem dX12_has_103 : decode cX12_has 103 = .ok (.iconst 3, 1) := by decide +kernel
theorem dX12_has_104 : decode cX12_has 104 = .ok (.invokevirtual 219, 3) := by decide +kernel
theorem dX12_has_107 : decode cX12_has 107 = .ok (.ireturn, 1) := by decide +kernel
theorem dX12_delivered_0 : decode cX12_delivered 0 = .ok (.aload_n 0, 1) := by decide +kernel
theorem dX12_delivered_1 : decode cX12_delivered 1 = .ok (.iconst 0, 1) := by decide +kernel
theorem dX12_delivered_2 : decode cX12_delivered 2 = .ok (.putfield 3, 3) := by decide +kernel
theorem dX12_delivered_5 : decode cX12_delivered 5 = .ok (.aload_n 0, 1) := by decide +kernel
theorem dX12_delivered_6 : decode cX12_delivered 6 = .ok (.aload_n 0, 1) := by decide +kernel
theorem dX12_delivered_7 : decode cX12_delivered 7 = .ok (.iload_n 1, 1) := by decide +kernel
theorem dX12_delivered_8 : decode cX12_delivered 8 = .ok (.invokevirtual 296, 3) := by decide +kernel
theorem dX12_delivered_11 : decode cX12_delivered 11 = .ok (.iconst 1, 1) := by decide +kernel
theorem dX12_delivered_12 : decode cX12_delivered 12 = .ok (.invokevirtual 176, 3) := by decide +kernel
theorem dX12_delivered_15 : decode cX12_delivered 15 = .ok (.ifCond .eq 5, 3) := by decide +kernel
theorem dX12_delivered_18 : decode cX12_delivered 18 = .ok (.iconst 0, 1) := by decide +kernel
theorem dX12_delivered_19 : decode cX12_delivered 19 = .ok (.ireturn, 1) := by decide +kernel
theorem dX12_delivered_20 : decode cX12_delivered 20 = .ok (.iload_n 2, 1) := by decide +kernel
theorem dX12_delivered_21 : decode cX12_delivered 21 = .ok (.iconst 0, 1) := by decide +kernel
theorem dX12_delivered_22 : decode cX12_delivered 22 = .ok (.aload_n 0, 1) := by decide +kernel
theorem dX12_delivered_23 : decode cX12_delivered 23 = .ok (.iload_n 1, 1) := by decide +kernel
theorem dX12_delivered_24 : decode cX12_delivered 24 = .ok (.iconst 4, 1) := by decide +kernel
theorem dX12_delivered_25 : decode cX12_delivered 25 = .ok (.invokevirtual 77, 3) := by decide +kernel
theorem dX12_delivered_28 : decode cX12_delivered 28 = .ok (.iconst 1, 1) := by decide +kernel
theorem dX12_delivered_29 : decode cX12_delivered 29 = .ok (.isub, 1) := by decide +kernel
theorem dX12_delivered_30 : decode cX12_delivered 30 = .ok (.invokestatic 70, 3) := by decide +kernel
theorem dX12_delivered_33 : decode cX12_delivered 33 = .ok (.ifCond .eq 14, 3) := by decide +kernel
theorem dX12_delivered_36 : decode cX12_delivered 36 = .ok (.aload_n 0, 1) := by decide +kernel
theorem dX12_delivered_37 : decode cX12_delivered 37 = .ok (.iload_n 1, 1) := by decide +kernel
theorem dX12_delivered_38 : decode cX12_delivered 38 = .ok (.iconst 5, 1) := by decide +kernel
theorem dX12_delivered_39 : decode cX12_delivered 39 = .ok (.iload_n 2, 1) := by decide +kernel
theorem dX12_delivered_40 : decode cX12_delivered 40 = .ok (.iadd, 1) := by decide +kernel
theorem dX12_delivered_41 : decode cX12_delivered 41 = .ok (.invokevirtual 77, 3) := by decide +kernel
theorem dX12_delivered_44 : decode cX12_delivered 44 = .ok (.goto 4, 3) := by decide +kernel
theorem dX12_delivered_47 : decode cX12_delivered 47 = .ok (.iconst (-1), 1) := by decide +kernel
theorem dX12_delivered_48 : decode cX12_delivered 48 = .ok (.ireturn, 1) := by decide +kernel
theorem dX12_noTwo_0 : decode cX12_noTwo 0 = .ok (.aload_n 0, 1) := by decide +kernel
theorem dX12_noTwo_1 : decode cX12_noTwo 1 = .ok (.iconst 0, 1) := by decide +kernel
theorem dX12_noTwo_2 : decode cX12_noTwo 2 = .ok (.putfield 3, 3) := by decide +kernel
theorem dX12_noTwo_5 : decode cX12_noTwo 5 = .ok (.aload_n 0, 1) := by decide +kernel
theorem dX12_noTwo_6 : decode cX12_noTwo 6 = .ok (.aload_n 0, 1) := by decide +kernel
theorem dX12_noTwo_7 : decode cX12_noTwo 7 = .ok (.iload_n 1, 1) := by decide +kernel
theorem dX12_noTwo_8 : decode cX12_noTwo 8 = .ok (.invokevirtual 296, 3) := by decide +kernel
theorem dX12_noTwo_11 : decode cX12_noTwo 11 = .ok (.ifCond .ne 11, 3) := by decide +kernel
theorem dX12_noTwo_14 : decode cX12_noTwo 14 = .ok (.aload_n 0, 1) := by decide +kernel
theorem dX12_noTwo_15 : decode cX12_noTwo 15 = .ok (.iload_n 2, 1) := by decide +kernel
theorem dX12_noTwo_16 : decode cX12_noTwo 16 = .ok (.invokevirtual 296, 3) := by decide +kernel
theorem dX12_noTwo_19 : decode cX12_noTwo 19 = .ok (.ifCond .eq 7, 3) := by decide +kernel
theorem dX12_noTwo_22 : decode cX12_noTwo 22 = .ok (.iconst 1, 1) := by decide +kernel
theorem dX12_noTwo_23 : decode cX12_noTwo 23 = .ok (.goto 4, 3) := by decide +kernel
theorem dX12_noTwo_26 : decode cX12_noTwo 26 = .ok (.iconst 0, 1) := by decide +kernel
theorem dX12_noTwo_27 : decode cX12_noTwo 27 = .ok (.iconst 1, 1) := by decide +kernel
theorem dX12_noTwo_28 : decode cX12_noTwo 28 = .ok (.invokevirtual 176, 3) := by decide +kernel
theorem dX12_noTwo_31 : decode cX12_noTwo 31 = .ok (.ireturn, 1) := by decide +kernel
theorem dX12_channel_0 : decode cX12_channel 0 = .ok (.aload_n 0, 1) := by decide +kernel
theorem dX12_channel_1 : decode cX12_channel 1 = .ok (.iload_n 1, 1) := by decide +kernel
theorem dX12_channel_2 : decode cX12_channel 2 = .ok (.iload_n 2, 1) := by decide +kernel
theorem dX12_channel_3 : decode cX12_channel 3 = .ok (.invokevirtual 319, 3) := by decide +kernel
theorem dX12_channel_6 : decode cX12_channel 6 = .ok (.ifCond .ne 25, 3) := by decide +kernel
theorem dX12_channel_9 : decode cX12_channel 9 = .ok (.aload_n 0, 1) := by decide +kernel
theorem dX12_channel_10 : decode cX12_channel 10 = .ok (.iload_n 3, 1) := by decide +kernel
theorem dX12_channel_11 : decode cX12_channel 11 = .ok (.iconst 0, 1) := by decide +kernel
theorem dX12_channel_12 : decode cX12_channel 12 = .ok (.iconst 3, 1) := by decide +kernel
theorem dX12_channel_13 : decode cX12_channel 13 = .ok (.invokestatic 70, 3) := by decide +kernel
theorem dX12_channel_16 : decode cX12_channel 16 = .ok (.ifCond .ne 7, 3) := by decide +kernel
theorem dX12_channel_19 : decode cX12_channel 19 = .ok (.iconst 1, 1) := by decide +kernel
theorem dX12_channel_20 : decode cX12_channel 20 = .ok (.goto 4, 3) := by decide +kernel
theorem dX12_channel_23 : decode cX12_channel 23 = .ok (.iconst 0, 1) := by decide +kernel
theorem dX12_channel_24 : decode cX12_channel 24 = .ok (.iconst 2, 1) := by decide +kernel
theorem dX12_channel_25 : decode cX12_channel 25 = .ok (.invokevirtual 176, 3) := by decide +kernel
theorem dX12_channel_28 : decode cX12_channel 28 = .ok (.ifCond .eq 5, 3) := by decide +kernel
theorem dX12_channel_31 : decode cX12_channel 31 = .ok (.iconst 0, 1) := by decide +kernel
theorem dX12_channel_32 : decode cX12_channel 32 = .ok (.ireturn, 1) := by decide +kernel
theorem dX12_channel_33 : decode cX12_channel 33 = .ok (.iload_n 3, 1) := by decide +kernel
theorem dX12_channel_34 : decode cX12_channel 34 = .ok (.tableswitch 50 0 2 #[26, 34, 42], 26) := by decide +kernel
theorem dX12_channel_60 : decode cX12_channel 60 = .ok (.aload_n 0, 1) := by decide +kernel
theorem dX12_channel_61 : decode cX12_channel 61 = .ok (.iload_n 1, 1) := by decide +kernel
theorem dX12_channel_62 : decode cX12_channel 62 = .ok (.iload_n 2, 1) := by decide +kernel
theorem dX12_channel_63 : decode cX12_channel 63 = .ok (.iconst 0, 1) := by decide +kernel
theorem dX12_channel_64 : decode cX12_channel 64 = .ok (.invokevirtual 184, 3) := by decide +kernel
theorem dX12_channel_67 : decode cX12_channel 67 = .ok (.ireturn, 1) := by decide +kernel
theorem dX12_channel_68 : decode cX12_channel 68 = .ok (.aload_n 0, 1) := by decide +kernel
theorem dX12_channel_69 : decode cX12_channel 69 = .ok (.iload_n 1, 1) := by decide +kernel
theorem dX12_channel_70 : decode cX12_channel 70 = .ok (.iload_n 2, 1) := by decide +kernel
theorem dX12_channel_71 : decode cX12_channel 71 = .ok (.iconst 1, 1) := by decide +kernel
theorem dX12_channel_72 : decode cX12_channel 72 = .ok (.invokevirtual 184, 3) := by decide +kernel
theorem dX12_channel_75 : decode cX12_channel 75 = .ok (.ireturn, 1) := by decide +kernel
theorem dX12_channel_76 : decode cX12_channel 76 = .ok (.aload_n 0, 1) := by decide +kernel
theorem dX12_channel_77 : decode cX12_channel 77 = .ok (.iload_n 1, 1) := by decide +kernel
theorem dX12_channel_78 : decode cX12_channel 78 = .ok (.iload_n 2, 1) := by decide +kernel
theorem dX12_channel_79 : decode cX12_channel 79 = .ok (.iconst 2, 1) := by decide +kernel
theorem dX12_channel_80 : decode cX12_channel 80 = .ok (.invokevirtual 184, 3) := by decide +kernel
theorem dX12_channel_83 : decode cX12_channel 83 = .ok (.ireturn, 1) := by decide +kernel
theorem dX12_channel_84 : decode cX12_channel 84 = .ok (.aload_n 0, 1) := by decide +kernel
theorem dX12_channel_85 : decode cX12_channel 85 = .ok (.iload_n 1, 1) := by decide +kernel
theorem dX12_channel_86 : decode cX12_channel 86 = .ok (.iload_n 2, 1) := by decide +kernel
theorem dX12_channel_87 : decode cX12_channel 87 = .ok (.iconst 3, 1) := by decide +kernel
theorem dX12_channel_88 : decode cX12_channel 88 = .ok (.invokevirtual 184, 3) := by decide +kernel
theorem dX12_channel_91 : decode cX12_channel 91 = .ok (.ireturn, 1) := by decide +kernel
theorem dX12_packet_0 : decode cX12_packet 0 = .ok (.aload_n 0, 1) := by decide +kernel
theorem dX12_packet_1 : decode cX12_packet 1 = .ok (.iload_n 1, 1) := by decide +kernel
theorem dX12_packet_2 : decode cX12_packet 2 = .ok (.iload_n 2, 1) := by decide +kernel
theorem dX12_packet_3 : decode cX12_packet 3 = .ok (.invokevirtual 319, 3) := by decide +kernel
theorem dX12_packet_6 : decode cX12_packet 6 = .ok (.ifCond .ne 56, 3) := by decide +kernel
theorem dX12_packet_9 : decode cX12_packet 9 = .ok (.aload_n 0, 1) := by decide +kernel
theorem dX12_packet_10 : decode cX12_packet 10 = .ok (.iload_n 3, 1) := by decide +kernel
theorem dX12_packet_11 : decode cX12_packet 11 = .ok (.iconst 0, 1) := by decide +kernel
theorem dX12_packet_12 : decode cX12_packet 12 = .ok (.aload_n 0, 1) := by decide +kernel
theorem dX12_packet_13 : decode cX12_packet 13 = .ok (.iload_n 1, 1) := by decide +kernel
theorem dX12_packet_14 : decode cX12_packet 14 = .ok (.iload_n 2, 1) := by decide +kernel
theorem dX12_packet_15 : decode cX12_packet 15 = .ok (.iconst 2, 1) := by decide +kernel
theorem dX12_packet_16 : decode cX12_packet 16 = .ok (.invokevirtual 184, 3) := by decide +kernel
theorem dX12_packet_19 : decode cX12_packet 19 = .ok (.iconst 1, 1) := by decide +kernel
theorem dX12_packet_20 : decode cX12_packet 20 = .ok (.isub, 1) := by decide +kernel
theorem dX12_packet_21 : decode cX12_packet 21 = .ok (.invokestatic 70, 3) := by decide +kernel
theorem dX12_packet_24 : decode cX12_packet 24 = .ok (.ifCond .ne 7, 3) := by decide +kernel
theorem dX12_packet_27 : decode cX12_packet 27 = .ok (.iconst 1, 1) := by decide +kernel
theorem dX12_packet_28 : decode cX12_packet 28 = .ok (.goto 4, 3) := by decide +kernel
theorem dX12_packet_31 : decode cX12_packet 31 = .ok (.iconst 0, 1) := by decide +kernel
theorem dX12_packet_32 : decode cX12_packet 32 = .ok (.iconst 1, 1) := by decide +kernel
theorem dX12_packet_33 : decode cX12_packet 33 = .ok (.invokevirtual 176, 3) := by decide +kernel
theorem dX12_packet_36 : decode cX12_packet 36 = .ok (.ifCond .ne 26, 3) := by decide +kernel
theorem dX12_packet_39 : decode cX12_packet 39 = .ok (.aload_n 0, 1) := by decide +kernel
theorem dX12_packet_40 : decode cX12_packet 40 = .ok (.iload 4, 2) := by decide +kernel
theorem dX12_packet_42 : decode cX12_packet 42 = .ok (.iconst 0, 1) := by decide +kernel
theorem dX12_packet_43 : decode cX12_packet 43 = .ok (.iconst 4, 1) := by decide +kernel
theorem dX12_packet_44 : decode cX12_packet 44 = .ok (.invokestatic 70, 3) := by decide +kernel
theorem dX12_packet_47 : decode cX12_packet 47 = .ok (.ifCond .ne 7, 3) := by decide +kernel
theorem dX12_packet_50 : decode cX12_packet 50 = .ok (.iconst 1, 1) := by decide +kernel
theorem dX12_packet_51 : decode cX12_packet 51 = .ok (.goto 4, 3) := by decide +kernel
theorem dX12_packet_54 : decode cX12_packet 54 = .ok (.iconst 0, 1) := by decide +kernel
theorem dX12_packet_55 : decode cX12_packet 55 = .ok (.iconst 2, 1) := by decide +kernel
theorem dX12_packet_56 : decode cX12_packet 56 = .ok (.invokevirtual 176, 3) := by decide +kernel
theorem dX12_packet_59 : decode cX12_packet 59 = .ok (.ifCond .eq 5, 3) := by decide +kernel
theorem dX12_packet_62 : decode cX12_packet 62 = .ok (.iconst 0, 1) := by decide +kernel
theorem dX12_packet_63 : decode cX12_packet 63 = .ok (.ireturn, 1) := by decide +kernel
theorem dX12_packet_64 : decode cX12_packet 64 = .ok (.iload 4, 2) := by decide +kernel
theorem dX12_packet_66 : decode cX12_packet 66 = .ok (.tableswitch 82 0 3 #[30, 43, 56, 69], 30) := by decide +kernel
theorem dX12_packet_96 : decode cX12_packet 96 = .ok (.aload_n 0, 1) := by decide +kernel
theorem dX12_packet_97 : decode cX12_packet 97 = .ok (.getfield 13, 3) := by decide +kernel
theorem dX12_packet_100 : decode cX12_packet 100 = .ok (.iload_n 1, 1) := by decide +kernel
theorem dX12_packet_101 : decode cX12_packet 101 = .ok (.iload_n 2, 1) := by decide +kernel
theorem dX12_packet_102 : decode cX12_packet 102 = .ok (.iload_n 3, 1) := by decide +kernel
theorem dX12_packet_103 : decode cX12_packet 103 = .ok (.iconst 0, 1) := by decide +kernel
theorem dX12_packet_104 : decode cX12_packet 104 = .ok (.invokestatic 192, 3) := by decide +kernel
theorem dX12_packet_107 : decode cX12_packet 107 = .ok (.iaload, 1) := by decide +kernel
theorem dX12_packet_108 : decode cX12_packet 108 = .ok (.ireturn, 1) := by decide +kernel
theorem dX12_packet_109 : decode cX12_packet 109 = .ok (.aload_n 0, 1) := by decide +kernel
theorem dX12_packet_110 : decode cX12_packet 110 = .ok (.getfield 13, 3) := by decide +kernel
theorem dX12_packet_113 : decode cX12_packet 113 = .ok (.iload_n 1, 1) := by decide +kernel
theorem dX12_packet_114 : decode cX12_packet 114 = .ok (.iload_n 2, 1) := by decide +kernel
theorem dX12_packet_115 : decode cX12_packet 115 = .ok (.iload_n 3, 1) := by decide +kernel
theorem dX12_packet_116 : decode cX12_packet 116 = .ok (.iconst 1, 1) := by decide +kernel
theorem dX12_packet_117 : decode cX12_packet 117 = .ok (.invokestatic 192, 3) := by decide +kernel
theorem dX12_packet_120 : decode cX12_packet 120 = .ok (.iaload, 1) := by decide +kernel
theorem dX12_packet_121 : decode cX12_packet 121 = .ok (.ireturn, 1) := by decide +kernel
theorem dX12_packet_122 : decode cX12_packet 122 = .ok (.aload_n 0, 1) := by decide +kernel
theorem dX12_packet_123 : decode cX12_packet 123 = .ok (.getfield 13, 3) := by decide +kernel
theorem dX12_packet_126 : decode cX12_packet 126 = .ok (.iload_n 1, 1) := by decide +kernel
theorem dX12_packet_127 : decode cX12_packet 127 = .ok (.iload_n 2, 1) := by decide +kernel
theorem dX12_packet_128 : decode cX12_packet 128 = .ok (.iload_n 3, 1) := by decide +kernel
theorem dX12_packet_129 : decode cX12_packet 129 = .ok (.iconst 2, 1) := by decide +kernel
theorem dX12_packet_130 : decode cX12_packet 130 = .ok (.invokestatic 192, 3) := by decide +kernel
theorem dX12_packet_133 : decode cX12_packet 133 = .ok (.iaload, 1) := by decide +kernel
theorem dX12_packet_134 : decode cX12_packet 134 = .ok (.ireturn, 1) := by decide +kernel
theorem dX12_packet_135 : decode cX12_packet 135 = .ok (.aload_n 0, 1) := by decide +kernel
theorem dX12_packet_136 : decode cX12_packet 136 = .ok (.getfield 13, 3) := by decide +kernel
theorem dX12_packet_139 : decode cX12_packet 139 = .ok (.iload_n 1, 1) := by decide +kernel
theorem dX12_packet_140 : decode cX12_packet 140 = .ok (.iload_n 2, 1) := by decide +kernel
theorem dX12_packet_141 : decode cX12_packet 141 = .ok (.iload_n 3, 1) := by decide +kernel
theorem dX12_packet_142 : decode cX12_packet 142 = .ok (.iconst 3, 1) := by decide +kernel
theorem dX12_packet_143 : decode cX12_packet 143 = .ok (.invokestatic 192, 3) := by decide +kernel
theorem dX12_packet_146 : decode cX12_packet 146 = .ok (.iaload, 1) := by decide +kernel
theorem dX12_packet_147 : decode cX12_packet 147 = .ok (.ireturn, 1) := by decide +kernel
theorem dX12_packet_148 : decode cX12_packet 148 = .ok (.aload_n 0, 1) := by decide +kernel
theorem dX12_packet_149 : decode cX12_packet 149 = .ok (.getfield 13, 3) := by decide +kernel
theorem dX12_packet_152 : decode cX12_packet 152 = .ok (.iload_n 1, 1) := by decide +kernel
theorem dX12_packet_153 : decode cX12_packet 153 = .ok (.iload_n 2, 1) := by decide +kernel
theorem dX12_packet_154 : decode cX12_packet 154 = .ok (.iload_n 3, 1) := by decide +kernel
theorem dX12_packet_155 : decode cX12_packet 155 = .ok (.iconst 4, 1) := by decide +kernel
theorem dX12_packet_156 : decode cX12_packet 156 = .ok (.invokestatic 192, 3) := by decide +kernel
theorem dX12_packet_159 : decode cX12_packet 159 = .ok (.iaload, 1) := by decide +kernel
theorem dX12_packet_160 : decode cX12_packet 160 = .ok (.ireturn, 1) := by decide +kernel
theorem dX12_gather_0 : decode cX12_gather 0 = .ok (.aload_n 0, 1) := by decide +kernel
theorem dX12_gather_1 : decode cX12_gather 1 = .ok (.iload_n 1, 1) := by decide +kernel
theorem dX12_gather_2 : decode cX12_gather 2 = .ok (.iload_n 2, 1) := by decide +kernel
theorem dX12_gather_3 : decode cX12_gather 3 = .ok (.invokevirtual 316, 3) := by decide +kernel
theorem dX12_gather_6 : decode cX12_gather 6 = .ok (.ifCond .ne 48, 3) := by decide +kernel
theorem dX12_gather_9 : decode cX12_gather 9 = .ok (.aload_n 0, 1) := by decide +kernel
theorem dX12_gather_10 : decode cX12_gather 10 = .ok (.aload_n 0, 1) := by decide +kernel
theorem dX12_gather_11 : decode cX12_gather 11 = .ok (.iload_n 1, 1) := by decide +kernel
theorem dX12_gather_12 : decode cX12_gather 12 = .ok (.iload_n 2, 1) := by decide +kernel
theorem dX12_gather_13 : decode cX12_gather 13 = .ok (.iconst 5, 1) := by decide +kernel
theorem dX12_gather_14 : decode cX12_gather 14 = .ok (.invokevirtual 219, 3) := by decide +kernel
theorem dX12_gather_17 : decode cX12_gather 17 = .ok (.ifCond .ne 7, 3) := by decide +kernel
theorem dX12_gather_20 : decode cX12_gather 20 = .ok (.iconst 1, 1) := by decide +kernel
theorem dX12_gather_21 : decode cX12_gather 21 = .ok (.goto 4, 3) := by decide +kernel
theorem dX12_gather_24 : decode cX12_gather 24 = .ok (.iconst 0, 1) := by decide +kernel
theorem dX12_gather_25 : decode cX12_gather 25 = .ok (.iconst 2, 1) := by decide +kernel
theorem dX12_gather_26 : decode cX12_gather 26 = .ok (.invokevirtual 176, 3) := by decide +kernel
theorem dX12_gather_29 : decode cX12_gather 29 = .ok (.ifCond .ne 25, 3) := by decide +kernel
theorem dX12_gather_32 : decode cX12_gather 32 = .ok (.aload_n 0, 1) := by decide +kernel
theorem dX12_gather_33 : decode cX12_gather 33 = .ok (.iload_n 3, 1) := by decide +kernel
theorem dX12_gather_34 : decode cX12_gather 34 = .ok (.iconst 0, 1) := by decide +kernel
theorem dX12_gather_35 : decode cX12_gather 35 = .ok (.iconst 3, 1) := by decide +kernel
theorem dX12_gather_36 : decode cX12_gather 36 = .ok (.invokestatic 70, 3) := by decide +kernel
theorem dX12_gather_39 : decode cX12_gather 39 = .ok (.ifCond .ne 7, 3) := by decide +kernel
theorem dX12_gather_42 : decode cX12_gather 42 = .ok (.iconst 1, 1) := by decide +kernel
theorem dX12_gather_43 : decode cX12_gather 43 = .ok (.goto 4, 3) := by decide +kernel
theorem dX12_gather_46 : decode cX12_gather 46 = .ok (.iconst 0, 1) := by decide +kernel
theorem dX12_gather_47 : decode cX12_gather 47 = .ok (.iconst 3, 1) := by decide +kernel
theorem dX12_gather_48 : decode cX12_gather 48 = .ok (.invokevirtual 176, 3) := by decide +kernel
theorem dX12_gather_51 : decode cX12_gather 51 = .ok (.ifCond .eq 5, 3) := by decide +kernel
theorem dX12_gather_54 : decode cX12_gather 54 = .ok (.iconst 0, 1) := by decide +kernel
theorem dX12_gather_55 : decode cX12_gather 55 = .ok (.ireturn, 1) := by decide +kernel
theorem dX12_gather_56 : decode cX12_gather 56 = .ok (.iload_n 3, 1) := by decide +kernel
theorem dX12_gather_57 : decode cX12_gather 57 = .ok (.tableswitch 54 0 2 #[27, 36, 45], 27) := by decide +kernel
theorem dX12_gather_84 : decode cX12_gather 84 = .ok (.aload_n 0, 1) := by decide +kernel
theorem dX12_gather_85 : decode cX12_gather 85 = .ok (.iload_n 1, 1) := by decide +kernel
theorem dX12_gather_86 : decode cX12_gather 86 = .ok (.iload_n 2, 1) := by decide +kernel
theorem dX12_gather_87 : decode cX12_gather 87 = .ok (.bipush 6, 2) := by decide +kernel
theorem dX12_gather_89 : decode cX12_gather 89 = .ok (.invokevirtual 219, 3) := by decide +kernel
theorem dX12_gather_92 : decode cX12_gather 92 = .ok (.ireturn, 1) := by decide +kernel
theorem dX12_gather_93 : decode cX12_gather 93 = .ok (.aload_n 0, 1) := by decide +kernel
theorem dX12_gather_94 : decode cX12_gather 94 = .ok (.iload_n 1, 1) := by decide +kernel
theorem dX12_gather_95 : decode cX12_gather 95 = .ok (.iload_n 2, 1) := by decide +kernel
theorem dX12_gather_96 : decode cX12_gather 96 = .ok (.bipush 7, 2) := by decide +kernel
theorem dX12_gather_98 : decode cX12_gather 98 = .ok (.invokevirtual 219, 3) := by decide +kernel
theorem dX12_gather_101 : decode cX12_gather 101 = .ok (.ireturn, 1) := by decide +kernel
theorem dX12_gather_102 : decode cX12_gather 102 = .ok (.aload_n 0, 1) := by decide +kernel
theorem dX12_gather_103 : decode cX12_gather 103 = .ok (.iload_n 1, 1) := by decide +kernel
theorem dX12_gather_104 : decode cX12_gather 104 = .ok (.iload_n 2, 1) := by decide +kernel
theorem dX12_gather_105 : decode cX12_gather 105 = .ok (.bipush 8, 2) := by decide +kernel
theorem dX12_gather_107 : decode cX12_gather 107 = .ok (.invokevirtual 219, 3) := by decide +kernel
theorem dX12_gather_110 : decode cX12_gather 110 = .ok (.ireturn, 1) := by decide +kernel
theorem dX12_gather_111 : decode cX12_gather 111 = .ok (.aload_n 0, 1) := by decide +kernel
theorem dX12_gather_112 : decode cX12_gather 112 = .ok (.iload_n 1, 1) := by decide +kernel
theorem dX12_gather_113 : decode cX12_gather 113 = .ok (.iload_n 2, 1) := by decide +kernel
theorem dX12_gather_114 : decode cX12_gather 114 = .ok (.bipush 9, 2) := by decide +kernel
theorem dX12_gather_116 : decode cX12_gather 116 = .ok (.invokevirtual 219, 3) := by decide +kernel
theorem dX12_gather_119 : decode cX12_gather 119 = .ok (.ireturn, 1) := by decide +kernel
theorem dX12_when_0 : decode cX12_when 0 = .ok (.aload_n 0, 1) := by decide +kernel
theorem dX12_when_1 : decode cX12_when 1 = .ok (.iload_n 1, 1) := by decide +kernel
theorem dX12_when_2 : decode cX12_when 2 = .ok (.iload_n 2, 1) := by decide +kernel
theorem dX12_when_3 : decode cX12_when 3 = .ok (.invokevirtual 316, 3) := by decide +kernel
theorem dX12_when_6 : decode cX12_when 6 = .ok (.ifCond .eq 5, 3) := by decide +kernel
theorem dX12_when_9 : decode cX12_when 9 = .ok (.iconst 0, 1) := by decide +kernel
theorem dX12_when_10 : decode cX12_when 10 = .ok (.ireturn, 1) := by decide +kernel
theorem dX12_when_11 : decode cX12_when 11 = .ok (.aload_n 0, 1) := by decide +kernel
theorem dX12_when_12 : decode cX12_when 12 = .ok (.iload_n 1, 1) := by decide +kernel
theorem dX12_when_13 : decode cX12_when 13 = .ok (.iload_n 2, 1) := by decide +kernel
theorem dX12_when_14 : decode cX12_when 14 = .ok (.iconst 0, 1) := by decide +kernel
theorem dX12_when_15 : decode cX12_when 15 = .ok (.invokevirtual 219, 3) := by decide +kernel
theorem dX12_when_18 : decode cX12_when 18 = .ok (.iconst 3, 1) := by decide +kernel
theorem dX12_when_19 : decode cX12_when 19 = .ok (.if_icmp .ne 13, 3) := by decide +kernel
theorem dX12_when_22 : decode cX12_when 22 = .ok (.aload_n 0, 1) := by decide +kernel
theorem dX12_when_23 : decode cX12_when 23 = .ok (.iload_n 1, 1) := by decide +kernel
theorem dX12_when_24 : decode cX12_when 24 = .ok (.iload_n 2, 1) := by decide +kernel
theorem dX12_when_25 : decode cX12_when 25 = .ok (.iconst 4, 1) := by decide +kernel
theorem dX12_when_26 : decode cX12_when 26 = .ok (.invokevirtual 219, 3) := by decide +kernel
theorem dX12_when_29 : decode cX12_when 29 = .ok (.goto 4, 3) := by decide +kernel
theorem dX12_when_32 : decode cX12_when 32 = .ok (.iconst (-1), 1) := by decide +kernel
theorem dX12_when_33 : decode cX12_when 33 = .ok (.ireturn, 1) := by decide +kernel
theorem dX12_those_0 : decode cX12_those 0 = .ok (.aload_n 0, 1) := by decide +kernel
theorem dX12_those_1 : decode cX12_those 1 = .ok (.iconst 0, 1) := by decide +kernel
theorem dX12_those_2 : decode cX12_those 2 = .ok (.putfield 3, 3) := by decide +kernel
theorem dX12_those_5 : decode cX12_those 5 = .ok (.aload_n 0, 1) := by decide +kernel
theorem dX12_those_6 : decode cX12_those 6 = .ok (.aload_n 0, 1) := by decide +kernel
theorem dX12_those_7 : decode cX12_those 7 = .ok (.iload_n 1, 1) := by decide +kernel
theorem dX12_those_8 : decode cX12_those 8 = .ok (.invokevirtual 296, 3) := by decide +kernel
theorem dX12_those_11 : decode cX12_those 11 = .ok (.iconst 1, 1) := by decide +kernel
theorem dX12_those_12 : decode cX12_those 12 = .ok (.invokevirtual 176, 3) := by decide +kernel
theorem dX12_those_15 : decode cX12_those 15 = .ok (.ifCond .ne 25, 3) := by decide +kernel
theorem dX12_those_18 : decode cX12_those 18 = .ok (.aload_n 0, 1) := by decide +kernel
theorem dX12_those_19 : decode cX12_those 19 = .ok (.iload_n 2, 1) := by decide +kernel
theorem dX12_those_20 : decode cX12_those 20 = .ok (.iconst 1, 1) := by decide +kernel
theorem dX12_those_21 : decode cX12_those 21 = .ok (.iconst 3, 1) := by decide +kernel
theorem dX12_those_22 : decode cX12_those 22 = .ok (.invokestatic 70, 3) := by decide +kernel
theorem dX12_those_25 : decode cX12_those 25 = .ok (.ifCond .ne 7, 3) := by decide +kernel
theorem dX12_those_28 : decode cX12_those 28 = .ok (.iconst 1, 1) := by decide +kernel
theorem dX12_those_29 : decode cX12_those 29 = .ok (.goto 4, 3) := by decide +kernel
theorem dX12_those_32 : decode cX12_those 32 = .ok (.iconst 0, 1) := by decide +kernel
theorem dX12_those_33 : decode cX12_those 33 = .ok (.iconst 2, 1) := by decide +kernel
theorem dX12_those_34 : decode cX12_those 34 = .ok (.invokevirtual 176, 3) := by decide +kernel
theorem dX12_those_37 : decode cX12_those 37 = .ok (.ifCond .eq 7, 3) := by decide +kernel
theorem dX12_those_40 : decode cX12_those 40 = .ok (.iconst 0, 1) := by decide +kernel
theorem dX12_those_41 : decode cX12_those 41 = .ok (.goto 9, 3) := by decide +kernel
theorem dX12_those_44 : decode cX12_those 44 = .ok (.aload_n 0, 1) := by decide +kernel
theorem dX12_those_45 : decode cX12_those 45 = .ok (.iload_n 1, 1) := by decide +kernel
theorem dX12_those_46 : decode cX12_those 46 = .ok (.iload_n 2, 1) := by decide +kernel
theorem dX12_those_47 : decode cX12_those 47 = .ok (.invokevirtual 302, 3) := by decide +kernel
theorem dX12_those_50 : decode cX12_those 50 = .ok (.ireturn, 1) := by decide +kernel
theorem dX12_event_0 : decode cX12_event 0 = .ok (.aload_n 0, 1) := by decide +kernel
theorem dX12_event_1 : decode cX12_event 1 = .ok (.iconst 0, 1) := by decide +kernel
theorem dX12_event_2 : decode cX12_event 2 = .ok (.putfield 3, 3) := by decide +kernel
theorem dX12_event_5 : decode cX12_event 5 = .ok (.aload_n 0, 1) := by decide +kernel
theorem dX12_event_6 : decode cX12_event 6 = .ok (.iload_n 1, 1) := by decide +kernel
theorem dX12_event_7 : decode cX12_event 7 = .ok (.iconst 0, 1) := by decide +kernel
theorem dX12_event_8 : decode cX12_event 8 = .ok (.aload_n 0, 1) := by decide +kernel
theorem dX12_event_9 : decode cX12_event 9 = .ok (.getfield 13, 3) := by decide +kernel
theorem dX12_event_12 : decode cX12_event 12 = .ok (.bipush 7, 2) := by decide +kernel
theorem dX12_event_14 : decode cX12_event 14 = .ok (.iaload, 1) := by decide +kernel
theorem dX12_event_15 : decode cX12_event 15 = .ok (.iconst 1, 1) := by decide +kernel
theorem dX12_event_16 : decode cX12_event 16 = .ok (.isub, 1) := by decide +kernel
theorem dX12_event_17 : decode cX12_event 17 = .ok (.invokestatic 70, 3) := by decide +kernel
theorem dX12_event_20 : decode cX12_event 20 = .ok (.ifCond .ne 7, 3) := by decide +kernel
theorem dX12_event_23 : decode cX12_event 23 = .ok (.iconst 1, 1) := by decide +kernel
theorem dX12_event_24 : decode cX12_event 24 = .ok (.goto 4, 3) := by decide +kernel
theorem dX12_event_27 : decode cX12_event 27 = .ok (.iconst 0, 1) := by decide +kernel
theorem dX12_event_28 : decode cX12_event 28 = .ok (.iconst 1, 1) := by decide +kernel
theorem dX12_event_29 : decode cX12_event 29 = .ok (.invokevirtual 176, 3) := by decide +kernel
theorem dX12_event_32 : decode cX12_event 32 = .ok (.ifCond .ne 25, 3) := by decide +kernel
theorem dX12_event_35 : decode cX12_event 35 = .ok (.aload_n 0, 1) := by decide +kernel
theorem dX12_event_36 : decode cX12_event 36 = .ok (.iload_n 2, 1) := by decide +kernel
theorem dX12_event_37 : decode cX12_event 37 = .ok (.iconst 0, 1) := by decide +kernel
theorem dX12_event_38 : decode cX12_event 38 = .ok (.iconst 3, 1) := by decide +kernel
theorem dX12_event_39 : decode cX12_event 39 = .ok (.invokestatic 70, 3) := by decide +kernel
theorem dX12_event_42 : decode cX12_event 42 = .ok (.ifCond .ne 7, 3) := by decide +kernel
theorem dX12_event_45 : decode cX12_event 45 = .ok (.iconst 1, 1) := by decide +kernel
theorem dX12_event_46 : decode cX12_event 46 = .ok (.goto 4, 3) := by decide +kernel
theorem dX12_event_49 : decode cX12_event 49 = .ok (.iconst 0, 1) := by decide +kernel
theorem dX12_event_50 : decode cX12_event 50 = .ok (.iconst 2, 1) := by decide +kernel
theorem dX12_event_51 : decode cX12_event 51 = .ok (.invokevirtual 176, 3) := by decide +kernel
theorem dX12_event_54 : decode cX12_event 54 = .ok (.ifCond .eq 5, 3) := by decide +kernel
theorem dX12_event_57 : decode cX12_event 57 = .ok (.iconst 0, 1) := by decide +kernel
theorem dX12_event_58 : decode cX12_event 58 = .ok (.ireturn, 1) := by decide +kernel
theorem dX12_event_59 : decode cX12_event 59 = .ok (.aload_n 0, 1) := by decide +kernel
theorem dX12_event_60 : decode cX12_event 60 = .ok (.getfield 13, 3) := by decide +kernel
theorem dX12_event_63 : decode cX12_event 63 = .ok (.sipush 1587, 3) := by decide +kernel
theorem dX12_event_66 : decode cX12_event 66 = .ok (.iconst 4, 1) := by decide +kernel
theorem dX12_event_67 : decode cX12_event 67 = .ok (.iload_n 1, 1) := by decide +kernel
theorem dX12_event_68 : decode cX12_event 68 = .ok (.imul, 1) := by decide +kernel
theorem dX12_event_69 : decode cX12_event 69 = .ok (.iadd, 1) := by decide +kernel
theorem dX12_event_70 : decode cX12_event 70 = .ok (.iload_n 2, 1) := by decide +kernel
theorem dX12_event_71 : decode cX12_event 71 = .ok (.iadd, 1) := by decide +kernel
theorem dX12_event_72 : decode cX12_event 72 = .ok (.iaload, 1) := by decide +kernel
theorem dX12_event_73 : decode cX12_event 73 = .ok (.ireturn, 1) := by decide +kernel
theorem dX12_log_0 : decode cX12_log 0 = .ok (.aload_n 0, 1) := by decide +kernel
theorem dX12_log_1 : decode cX12_log 1 = .ok (.iconst 0, 1) := by decide +kernel
theorem dX12_log_2 : decode cX12_log 2 = .ok (.putfield 3, 3) := by decide +kernel
theorem dX12_log_5 : decode cX12_log 5 = .ok (.aload_n 0, 1) := by decide +kernel
theorem dX12_log_6 : decode cX12_log 6 = .ok (.iload_n 2, 1) := by decide +kernel
theorem dX12_log_7 : decode cX12_log 7 = .ok (.iconst 0, 1) := by decide +kernel
theorem dX12_log_8 : decode cX12_log 8 = .ok (.iconst 3, 1) := by decide +kernel
theorem dX12_log_9 : decode cX12_log 9 = .ok (.invokestatic 70, 3) := by decide +kernel
theorem dX12_log_12 : decode cX12_log 12 = .ok (.ifCond .ne 7, 3) := by decide +kernel
theorem dX12_log_15 : decode cX12_log 15 = .ok (.iconst 1, 1) := by decide +kernel
theorem dX12_log_16 : decode cX12_log 16 = .ok (.goto 4, 3) := by decide +kernel
theorem dX12_log_19 : decode cX12_log 19 = .ok (.iconst 0, 1) := by decide +kernel
theorem dX12_log_20 : decode cX12_log 20 = .ok (.iconst 1, 1) := by decide +kernel
theorem dX12_log_21 : decode cX12_log 21 = .ok (.invokevirtual 176, 3) := by decide +kernel
theorem dX12_log_24 : decode cX12_log 24 = .ok (.ifCond .eq 5, 3) := by decide +kernel
theorem dX12_log_27 : decode cX12_log 27 = .ok (.iconst 0, 1) := by decide +kernel
theorem dX12_log_28 : decode cX12_log 28 = .ok (.ireturn, 1) := by decide +kernel
theorem dX12_log_29 : decode cX12_log 29 = .ok (.iload_n 1, 1) := by decide +kernel
theorem dX12_log_30 : decode cX12_log 30 = .ok (.iconst 0, 1) := by decide +kernel
theorem dX12_log_31 : decode cX12_log 31 = .ok (.aload_n 0, 1) := by decide +kernel
theorem dX12_log_32 : decode cX12_log 32 = .ok (.getfield 13, 3) := by decide +kernel
theorem dX12_log_35 : decode cX12_log 35 = .ok (.bipush 9, 2) := by decide +kernel
theorem dX12_log_37 : decode cX12_log 37 = .ok (.iaload, 1) := by decide +kernel
theorem dX12_log_38 : decode cX12_log 38 = .ok (.iconst 1, 1) := by decide +kernel
theorem dX12_log_39 : decode cX12_log 39 = .ok (.isub, 1) := by decide +kernel
theorem dX12_log_40 : decode cX12_log 40 = .ok (.invokestatic 70, 3) := by decide +kernel
theorem dX12_log_43 : decode cX12_log 43 = .ok (.ifCond .eq 20, 3) := by decide +kernel
theorem dX12_log_46 : decode cX12_log 46 = .ok (.aload_n 0, 1) := by decide +kernel
theorem dX12_log_47 : decode cX12_log 47 = .ok (.getfield 13, 3) := by decide +kernel
theorem dX12_log_50 : decode cX12_log 50 = .ok (.sipush 1619, 3) := by decide +kernel
theorem dX12_log_53 : decode cX12_log 53 = .ok (.iconst 4, 1) := by decide +kernel
theorem dX12_log_54 : decode cX12_log 54 = .ok (.iload_n 1, 1) := by decide +kernel
theorem dX12_log_55 : decode cX12_log 55 = .ok (.imul, 1) := by decide +kernel
theorem dX12_log_56 : decode cX12_log 56 = .ok (.iadd, 1) := by decide +kernel
theorem dX12_log_57 : decode cX12_log 57 = .ok (.iload_n 2, 1) := by decide +kernel
theorem dX12_log_58 : decode cX12_log 58 = .ok (.iadd, 1) := by decide +kernel
theorem dX12_log_59 : decode cX12_log 59 = .ok (.iaload, 1) := by decide +kernel
theorem dX12_log_60 : decode cX12_log 60 = .ok (.goto 4, 3) := by decide +kernel
theorem dX12_log_63 : decode cX12_log 63 = .ok (.iconst (-1), 1) := by decide +kernel
theorem dX12_log_64 : decode cX12_log 64 = .ok (.ireturn, 1) := by decide +kernel
theorem dX12_seed_0 : decode cX12_seed 0 = .ok (.aload_n 0, 1) := by decide +kernel
theorem dX12_seed_1 : decode cX12_seed 1 = .ok (.iconst 0, 1) := by decide +kernel
theorem dX12_seed_2 : decode cX12_seed 2 = .ok (.putfield 3, 3) := by decide +kernel
theorem dX12_seed_5 : decode cX12_seed 5 = .ok (.aload_n 0, 1) := by decide +kernel
theorem dX12_seed_6 : decode cX12_seed 6 = .ok (.getfield 13, 3) := by decide +kernel
theorem dX12_seed_9 : decode cX12_seed 9 = .ok (.bipush 8, 2) := by decide +kernel
theorem dX12_seed_11 : decode cX12_seed 11 = .ok (.iaload, 1) := by decide +kernel
theorem dX12_seed_12 : decode cX12_seed 12 = .ok (.istore_n 2, 1) := by decide +kernel
theorem dX12_seed_13 : decode cX12_seed 13 = .ok (.aload_n 0, 1) := by decide +kernel
theorem dX12_seed_14 : decode cX12_seed 14 = .ok (.getfield 13, 3) := by decide +kernel
theorem dX12_seed_17 : decode cX12_seed 17 = .ok (.bipush 8, 2) := by decide +kernel
theorem dX12_seed_19 : decode cX12_seed 19 = .ok (.iload_n 1, 1) := by decide +kernel
theorem dX12_seed_20 : decode cX12_seed 20 = .ok (.iastore, 1) := by decide +kernel
theorem dX12_seed_21 : decode cX12_seed 21 = .ok (.iload_n 2, 1) := by decide +kernel
theorem dX12_seed_22 : decode cX12_seed 22 = .ok (.ireturn, 1) := by decide +kernel
section S_14_m04
variable {p : Program} {l : Launch} {e : Env} {R : Room} {s : State} {m : MethodId} {args : Array Value} {below : List Frame} {meth : Method} {c : Code} {A : Nat → Prop} {D : va_G} {cI cB cL : ClassId} {ad : Nat → Nat} {pa pl : Nat}
noncomputable def fX12_node_33 (x1 : Int32) (x2 : Int32) (t0 : Int32) (u : Sg) : Option (Int32 × Sg) := obd (fX12_throwsIf t0 2 u) (fun r10 u11 => cnd (r10 = 0) (cnd (x2 = 0) (obr (fX12_of x1 0 u11) (fun r15 => some (r15, u11))) (cnd (x2 = 1) (obr (fX12_of x1 2 u11) (fun r18 => some (r18, u11))) (cnd (x2 = 2) (obr (fX12_bitsWith x1 1 u11) (fun r21 => obr (fX12_bitsWith x1 2 u11) (fun r23 => some ((fJ6_bitCount_0f7a4 (r21 ||| r23)), u11)))) (cnd (x2 = 3) (obr (fX12_of x1 4 u11) (fun r26 => some (r26, u11))) (cnd (x2 = 4) (obr (fX12_of x1 3 u11) (fun r29 => some (r29, u11))) (obr (fX12_isNoticed x1 u11) (fun r31 => cnd (r31 = 0) (some (0, u11)) (some (1, u11))))))))) (some (0, u11)))
noncomputable def fX12_node_0 (x1 : Int32) (x2 : Int32) (u : Sg) : Option (Int32 × Sg) := bnd (s2 u 0 0 0) (fun u1 => obr (fX12_noNode x1 u1) (fun r3 => obd (fX12_throwsIf r3 1 u1) (fun r5 u6 => cnd (r5 = 0) (cnd ((fX12_in x2 0 5) = 0) (fX12_node_33 x1 x2 1 u6) (fX12_node_33 x1 x2 0 u6)) (some (0, u6)))))
noncomputable def fX12_node (x1 : Int32) (x2 : Int32) (u : Sg) : Option (Int32 × Sg) := fX12_node_0 x1 x2 u
set_option maxRecDepth 10000 in
set_option maxHeartbeats 4000000 in
theorem wX12_node_33 (C : cx D (tyl cI cB cL) A RX12 cX12_node 3 (some .int) p s m args c meth) (hR : 4 ≤ R.frames ∧ 90 ≤ R.locals) {r : Int32} {σ' : Sg} (u : Sg) (x1 : Int32) (x2 : Int32) (t0 : Int32) {H : Heap} {locs : List Loc} {ls : Array Slot} (hl : lv_has ls 3 [(0, .ref (ad 0)), (1, .int x1), (2, .int x2)]) (S : st D (wM cI cB ad) A s u H locs) (h : fX12_node_33 x1 x2 t0 u = some (r, σ')) : W p l e R s m args below meth c H locs 0 0 (MQ below (qI D (tyl cI cB cL) (wM cI cB ad) A r σ') args s 0 0 A) (F0 m 33 ls [.int t0, .ref (ad 0)]) := by
  have hx := C.1
  have hb := C.2.1
  have hsz := hl.1
  unfold fX12_node_33 at h
  refine lv_iconst (v := 2) hx hb dX12_node_33 (by decide) ?_
  obtain ⟨r10, u11, h9, h⟩ := obd_some h
  refine q_callVi (As := [.int t0, .int 2]) (na := 2) C S (oM0 cI cB ad) rfl (ct_X12_throwsIf l D cI cB cL ad t0 2 u h9) mw_210 mw_209 mw_211 mw_5 mw_208 hdX12_throwsIf ⟨Nat.le_trans (Nat.le_of_ble_eq_true rfl) hR.1, Nat.le_trans (Nat.le_of_ble_eq_true rfl) hR.2⟩ rfl hsz ⟨Nat.zero_le _, Nat.zero_le _⟩ (Nat.le_of_ble_eq_true rfl) dX12_node_34 rfl (fun H locs S => ?_)
  refine lv_if_eq (tgt := 42) hx hb dX12_node_37 (by decide) (fun c12 => ?_) (fun c12 => ?_)
  · have h := cnd_t c12 h
    refine lv_iload_n hx hb dX12_node_42 rfl (lv_at hl 2 rfl) ?_
    by_cases c13 : x2 = 0
    · have h := cnd_t c13 h
      refine lv_tableIn (off := 33) (tgt := 76) hx hb dX12_node_43 (by rw [c13]; decide) (by rw [c13]; decide) (by rw [c13]; rfl) (by decide) ?_
      refine lv_aload_n hx hb dX12_node_76 rfl (lv_at hl 0 rfl) ?_
      refine lv_iload_n hx hb dX12_node_77 rfl (lv_at hl 1 rfl) ?_
      refine lv_iconst (v := 0) hx hb dX12_node_78 (by decide) ?_
      obtain ⟨r15, h14, h⟩ := obr_some h
      refine q_callVi (As := [.int x1, .int 0]) (na := 2) C S (oM0 cI cB ad) rfl (ct_X12_of l D cI cB cL ad x1 0 u11 h14) mw_35 mw_34 mw_36 mw_5 mw_33 hdX12_of ⟨Nat.le_trans (Nat.le_of_ble_eq_true rfl) hR.1, Nat.le_trans (Nat.le_of_ble_eq_true rfl) hR.2⟩ rfl hsz ⟨Nat.zero_le _, Nat.zero_le _⟩ (Nat.le_of_ble_eq_true rfl) dX12_node_79 rfl (fun H locs S => ?_)
      exact q_iret C S (rt_S h) dX12_node_82
    · have h := cnd_f c13 h
      by_cases c16 : x2 = 1
      · have h := cnd_t c16 h
        refine lv_tableIn (off := 40) (tgt := 83) hx hb dX12_node_43 (by rw [c16]; decide) (by rw [c16]; decide) (by rw [c16]; rfl) (by decide) ?_
        refine lv_aload_n hx hb dX12_node_83 rfl (lv_at hl 0 rfl) ?_
        refine lv_iload_n hx hb dX12_node_84 rfl (lv_at hl 1 rfl) ?_
        refine lv_iconst (v := 2) hx hb dX12_node_85 (by decide) ?_
        obtain ⟨r18, h17, h⟩ := obr_some h
        refine q_callVi (As := [.int x1, .int 2]) (na := 2) C S (oM0 cI cB ad) rfl (ct_X12_of l D cI cB cL ad x1 2 u11 h17) mw_35 mw_34 mw_36 mw_5 mw_33 hdX12_of ⟨Nat.le_trans (Nat.le_of_ble_eq_true rfl) hR.1, Nat.le_trans (Nat.le_of_ble_eq_true rfl) hR.2⟩ rfl hsz ⟨Nat.zero_le _, Nat.zero_le _⟩ (Nat.le_of_ble_eq_true rfl) dX12_node_86 rfl (fun H locs S => ?_)
        exact q_iret C S (rt_S h) dX12_node_89
      · have h := cnd_f c16 h
        by_cases c19 : x2 = 2
        · have h := cnd_t c19 h
          refine lv_tableIn (off := 47) (tgt := 90) hx hb dX12_node_43 (by rw [c19]; decide) (by rw [c19]; decide) (by rw [c19]; rfl) (by decide) ?_
          refine lv_aload_n hx hb dX12_node_90 rfl (lv_at hl 0 rfl) ?_
          refine lv_iload_n hx hb dX12_node_91 rfl (lv_at hl 1 rfl) ?_
          refine lv_iconst (v := 1) hx hb dX12_node_92 (by decide) ?_
          obtain ⟨r21, h20, h⟩ := obr_some h
          refine q_callVi (As := [.int x1, .int 1]) (na := 2) C S (oM0 cI cB ad) rfl (ct_X12_bitsWith l D cI cB cL ad x1 1 u11 h20) mw_234 mw_233 mw_235 mw_5 mw_232 hdX12_bitsWith ⟨Nat.le_trans (Nat.le_of_ble_eq_true rfl) hR.1, Nat.le_trans (Nat.le_of_ble_eq_true rfl) hR.2⟩ rfl hsz ⟨Nat.zero_le _, Nat.zero_le _⟩ (Nat.le_of_ble_eq_true rfl) dX12_node_93 rfl (fun H locs S => ?_)
          refine lv_aload_n hx hb dX12_node_96 rfl (lv_at hl 0 rfl) ?_
          refine lv_iload_n hx hb dX12_node_97 rfl (lv_at hl 1 rfl) ?_
          refine lv_iconst (v := 2) hx hb dX12_node_98 (by decide) ?_
          obtain ⟨r23, h22, h⟩ := obr_some h
          refine q_callVi (As := [.int x1, .int 2]) (na := 2) C S (oM0 cI cB ad) rfl (ct_X12_bitsWith l D cI cB cL ad x1 2 u11 h22) mw_234 mw_233 mw_235 mw_5 mw_232 hdX12_bitsWith ⟨Nat.le_trans (Nat.le_of_ble_eq_true rfl) hR.1, Nat.le_trans (Nat.le_of_ble_eq_true rfl) hR.2⟩ rfl hsz ⟨Nat.zero_le _, Nat.zero_le _⟩ (Nat.le_of_ble_eq_true rfl) dX12_node_99 rfl (fun H locs S => ?_)
          refine lv_ior hx hb dX12_node_102 ?_
          refine q_callP (As := [.int (r21 ||| r23)]) (na := 1) C S (ct_J6_bitCount_0f7a4 l D cI cB cL (r21 ||| r23)) mw_239 mw_238 mw_237 mw_236 hdJ6_bitCount_0f7a4 ⟨Nat.le_trans (Nat.le_of_ble_eq_true rfl) hR.1, Nat.le_trans (Nat.le_of_ble_eq_true rfl) hR.2⟩ rfl hsz ⟨Nat.zero_le _, Nat.zero_le _⟩ (Nat.le_of_ble_eq_true rfl) dX12_node_103 rfl (fun H locs S => ?_)
          exact q_iret C S (rt_S h) dX12_node_106
        · have h := cnd_f c19 h
          by_cases c24 : x2 = 3
          · have h := cnd_t c24 h
            refine lv_tableIn (off := 64) (tgt := 107) hx hb dX12_node_43 (by rw [c24]; decide) (by rw [c24]; decide) (by rw [c24]; rfl) (by decide) ?_
            refine lv_aload_n hx hb dX12_node_107 rfl (lv_at hl 0 rfl) ?_
            refine lv_iload_n hx hb dX12_node_108 rfl (lv_at hl 1 rfl) ?_
            refine lv_iconst (v := 4) hx hb dX12_node_109 (by decide) ?_
            obtain ⟨r26, h25, h⟩ := obr_some h
            refine q_callVi (As := [.int x1, .int 4]) (na := 2) C S (oM0 cI cB ad) rfl (ct_X12_of l D cI cB cL ad x1 4 u11 h25) mw_35 mw_34 mw_36 mw_5 mw_33 hdX12_of ⟨Nat.le_trans (Nat.le_of_ble_eq_true rfl) hR.1, Nat.le_trans (Nat.le_of_ble_eq_true rfl) hR.2⟩ rfl hsz ⟨Nat.zero_le _, Nat.zero_le _⟩ (Nat.le_of_ble_eq_true rfl) dX12_node_110 rfl (fun H locs S => ?_)
            exact q_iret C S (rt_S h) dX12_node_113
          · have h := cnd_f c24 h
            by_cases c27 : x2 = 4
            · have h := cnd_t c27 h
              refine lv_tableIn (off := 71) (tgt := 114) hx hb dX12_node_43 (by rw [c27]; decide) (by rw [c27]; decide) (by rw [c27]; rfl) (by decide) ?_
              refine lv_aload_n hx hb dX12_node_114 rfl (lv_at hl 0 rfl) ?_
              refine lv_iload_n hx hb dX12_node_115 rfl (lv_at hl 1 rfl) ?_
              refine lv_iconst (v := 3) hx hb dX12_node_116 (by decide) ?_
              obtain ⟨r29, h28, h⟩ := obr_some h
              refine q_callVi (As := [.int x1, .int 3]) (na := 2) C S (oM0 cI cB ad) rfl (ct_X12_of l D cI cB cL ad x1 3 u11 h28) mw_35 mw_34 mw_36 mw_5 mw_33 hdX12_of ⟨Nat.le_trans (Nat.le_of_ble_eq_true rfl) hR.1, Nat.le_trans (Nat.le_of_ble_eq_true rfl) hR.2⟩ rfl hsz ⟨Nat.zero_le _, Nat.zero_le _⟩ (Nat.le_of_ble_eq_true rfl) dX12_node_117 rfl (fun H locs S => ?_)
              exact q_iret C S (rt_S h) dX12_node_120
            · have h := cnd_f c27 h
              refine lv_tableOut (tgt := 121) hx hb dX12_node_43 (sw_out (0) 5 (fun k hk => by
                rcases (show k = 0 ∨ k = 1 ∨ k = 2 ∨ k = 3 ∨ k = 4 by omega) with rfl | rfl | rfl | rfl | rfl
                · exact sw_ne 0 _ (by decide) c13
                · exact sw_ne 1 _ (by decide) c16
                · exact sw_ne 2 _ (by decide) c19
                · exact sw_ne 3 _ (by decide) c24
                · exact sw_ne 4 _ (by decide) c27)) (by decide) ?_
              refine lv_aload_n hx hb dX12_node_121 rfl (lv_at hl 0 rfl) ?_
              refine lv_iload_n hx hb dX12_node_122 rfl (lv_at hl 1 rfl) ?_
              obtain ⟨r31, h30, h⟩ := obr_some h
              refine q_callVi (As := [.int x1]) (na := 1) C S (oM0 cI cB ad) rfl (ct_X12_isNoticed l D cI cB cL ad x1 u11 h30) mw_80 mw_79 mw_81 mw_5 mw_78 hdX12_isNoticed ⟨Nat.le_trans (Nat.le_of_ble_eq_true rfl) hR.1, Nat.le_trans (Nat.le_of_ble_eq_true rfl) hR.2⟩ rfl hsz ⟨Nat.zero_le _, Nat.zero_le _⟩ (Nat.le_of_ble_eq_true rfl) dX12_node_123 rfl (fun H locs S => ?_)
              refine lv_if_eq (tgt := 133) hx hb dX12_node_126 (by decide) (fun c32 => ?_) (fun c32 => ?_)
              · have h := cnd_t c32 h
                refine lv_iconst (v := 0) hx hb dX12_node_133 (by decide) ?_
                exact q_iret C S (rt_S h) dX12_node_134
              · have h := cnd_f c32 h
                refine lv_iconst (v := 1) hx hb dX12_node_129 (by decide) ?_
                refine lv_goto (tgt := 134) hx hb dX12_node_130 (by decide) ?_
                exact q_iret C S (rt_S h) dX12_node_134
  · have h := cnd_f c12 h
    refine lv_iconst (v := 0) hx hb dX12_node_40 (by decide) ?_
    exact q_iret C S (rt_S h) dX12_node_41
set_option maxRecDepth 10000 in
set_option maxHeartbeats 4000000 in
theorem wX12_node_0 (C : cx D (tyl cI cB cL) A RX12 cX12_node 3 (some .int) p s m args c meth) (hR : 4 ≤ R.frames ∧ 90 ≤ R.locals) {r : Int32} {σ' : Sg} (u : Sg) (x1 : Int32) (x2 : Int32) {H : Heap} {locs : List Loc} {ls : Array Slot} (hl : lv_has ls 3 [(0, .ref (ad 0)), (1, .int x1), (2, .int x2)]) (S : st D (wM cI cB ad) A s u H locs) (h : fX12_node_0 x1 x2 u = some (r, σ')) : W p l e R s m args below meth c H locs 0 0 (MQ below (qI D (tyl cI cB cL) (wM cI cB ad) A r σ') args s 0 0 A) (F0 m 0 ls []) := by
  have hx := C.1
  have hb := C.2.1
  have hsz := hl.1
  unfold fX12_node_0 at h
  refine lv_aload_n hx hb dX12_node_0 rfl (lv_at hl 0 rfl) ?_
  refine lv_iconst (v := 0) hx hb dX12_node_1 (by decide) ?_
  obtain ⟨u1, eu1⟩ : ∃ z : Sg, z = s2 u 0 0 0 := ⟨_, rfl⟩
  have h := bnd_of eu1 h
  refine q_put C S (oM0 cI cB ad) rfl iwX12 tyX12 tyX12_ok nmX12 0 (by decide) mw_11 rfl (iM0_0 cI cB ad) rfl rfl dX12_node_2 eu1 (fun H locs S => ?_)
  refine lv_aload_n hx hb dX12_node_5 rfl (lv_at hl 0 rfl) ?_
  refine lv_aload_n hx hb dX12_node_6 rfl (lv_at hl 0 rfl) ?_
  refine lv_iload_n hx hb dX12_node_7 rfl (lv_at hl 1 rfl) ?_
  obtain ⟨r3, h2, h⟩ := obr_some h
  refine q_callVi (As := [.int x1]) (na := 1) C S (oM0 cI cB ad) rfl (ct_X12_noNode l D cI cB cL ad x1 u1 h2) mw_226 mw_225 mw_227 mw_5 mw_224 hdX12_noNode ⟨Nat.le_trans (Nat.le_of_ble_eq_true rfl) hR.1, Nat.le_trans (Nat.le_of_ble_eq_true rfl) hR.2⟩ rfl hsz ⟨Nat.zero_le _, Nat.zero_le _⟩ (Nat.le_of_ble_eq_true rfl) dX12_node_8 rfl (fun H locs S => ?_)
  refine lv_iconst (v := 1) hx hb dX12_node_11 (by decide) ?_
  obtain ⟨r5, u6, h4, h⟩ := obd_some h
  refine q_callVi (As := [.int r3, .int 1]) (na := 2) C S (oM0 cI cB ad) rfl (ct_X12_throwsIf l D cI cB cL ad r3 1 u1 h4) mw_210 mw_209 mw_211 mw_5 mw_208 hdX12_throwsIf ⟨Nat.le_trans (Nat.le_of_ble_eq_true rfl) hR.1, Nat.le_trans (Nat.le_of_ble_eq_true rfl) hR.2⟩ rfl hsz ⟨Nat.zero_le _, Nat.zero_le _⟩ (Nat.le_of_ble_eq_true rfl) dX12_node_12 rfl (fun H locs S => ?_)
  refine lv_if_ne (tgt := 40) hx hb dX12_node_15 (by decide) (fun c7 => ?_) (fun c7 => ?_)
  · have h := cnd_f c7 h
    refine lv_iconst (v := 0) hx hb dX12_node_40 (by decide) ?_
    exact q_iret C S (rt_S h) dX12_node_41
  · have h := cnd_t c7 h
    refine lv_aload_n hx hb dX12_node_18 rfl (lv_at hl 0 rfl) ?_
    refine lv_iload_n hx hb dX12_node_19 rfl (lv_at hl 2 rfl) ?_
    refine lv_iconst (v := 0) hx hb dX12_node_20 (by decide) ?_
    refine lv_iconst (v := 5) hx hb dX12_node_21 (by decide) ?_
    refine q_callP (As := [.int x2, .int 0, .int 5]) (na := 3) C S (ct_X12_in l D cI cB cL x2 0 5) mw_28 mw_27 mw_5 mw_26 hdX12_in ⟨Nat.le_trans (Nat.le_of_ble_eq_true rfl) hR.1, Nat.le_trans (Nat.le_of_ble_eq_true rfl) hR.2⟩ rfl hsz ⟨Nat.zero_le _, Nat.zero_le _⟩ (Nat.le_of_ble_eq_true rfl) dX12_node_22 rfl (fun H locs S => ?_)
    refine lv_if_ne (tgt := 32) hx hb dX12_node_25 (by decide) (fun c8 => ?_) (fun c8 => ?_)
    · have h := cnd_f c8 h
      refine lv_iconst (v := 0) hx hb dX12_node_32 (by decide) ?_
      exact wX12_node_33 C hR u6 x1 x2 0 (lv_sub hl [0, 1, 2] rfl) S h
    · have h := cnd_t c8 h
      refine lv_iconst (v := 1) hx hb dX12_node_28 (by decide) ?_
      refine lv_goto (tgt := 33) hx hb dX12_node_29 (by decide) ?_
      exact wX12_node_33 C hR u6 x1 x2 1 (lv_sub hl [0, 1, 2] rfl) S h
set_option maxRecDepth 10000 in
set_option maxHeartbeats 4000000 in
theorem ct_X12_node (l : Launch) (D : va_G) (cI cB cL : ClassId) (ad : Nat → Nat) (x1 : Int32) (x2 : Int32) (u : Sg) {r : Int32} {σ' : Sg} (h : fX12_node x1 x2 u = some (r, σ')) : metI l D (tyl cI cB cL) yX12_node cX12_node 3 (some .int) 4 90 (wM cI cB ad) [.ref (ad 0), .int x1, .int x2] u r σ' := by
  intro sz
  refine Met.ofW (cc := cX12_node) (maxL := 3) (ret := (some .int)) (by decide) rfl ?_
  intro p e s m args below meth c s₁ B hml hv
  obtain ⟨rfl, C, S⟩ := q_entry B hml hv
  have hl := lv_entry ([.ref (ad 0), .int x1, .int x2]) (n := 3) (Nat.le_of_ble_eq_true rfl)
  rw [lg_entry_eq]
  generalize (lg_sl ([.ref (ad 0), .int x1, .int x2]) ++ List.replicate (3 - (lg_sl ([.ref (ad 0), .int x1, .int x2])).length) Slot.unset).toArray = ls at hl ⊢
  exact wX12_node_0 C ⟨Nat.le_refl _, Nat.le_refl _⟩ u x1 x2 (lv_sub hl [0, 1, 2] rfl) S h
noncomputable def fX12_group_0 (x1 : Int32) (u : Sg) : Option (Int32 × Sg) := bnd (s2 u 0 0 0) (fun u1 => obr (fX12_noGroup x1 u1) (fun r3 => obd (fX12_throwsIf r3 1 u1) (fun r5 u6 => cnd (r5 = 0) (grd (vp_in (11 + x1) 32243) (some ((u6 1 (((11 + x1) : Int32).toNatClampNeg)), u6))) (some (0, u6)))))
noncomputable def fX12_group (x1 : Int32) (u : Sg) : Option (Int32 × Sg) := fX12_group_0 x1 u
set_option maxRecDepth 10000 in
set_option maxHeartbeats 4000000 in
theorem wX12_group_0 (C : cx D (tyl cI cB cL) A RX12 cX12_group 2 (some .int) p s m args c meth) (hR : 2 ≤ R.frames ∧ 43 ≤ R.locals) {r : Int32} {σ' : Sg} (u : Sg) (x1 : Int32) {H : Heap} {locs : List Loc} {ls : Array Slot} (hl : lv_has ls 2 [(0, .ref (ad 0)), (1, .int x1)]) (S : st D (wM cI cB ad) A s u H locs) (h : fX12_group_0 x1 u = some (r, σ')) : W p l e R s m args below meth c H locs 0 0 (MQ below (qI D (tyl cI cB cL) (wM cI cB ad) A r σ') args s 0 0 A) (F0 m 0 ls []) := by
  have hx := C.1
  have hb := C.2.1
  have hsz := hl.1
  unfold fX12_group_0 at h
  refine lv_aload_n hx hb dX12_group_0 rfl (lv_at hl 0 rfl) ?_
  refine lv_iconst (v := 0) hx hb dX12_group_1 (by decide) ?_
  obtain ⟨u1, eu1⟩ : ∃ z : Sg, z = s2 u 0 0 0 := ⟨_, rfl⟩
  have h := bnd_of eu1 h
  refine q_put C S (oM0 cI cB ad) rfl iwX12 tyX12 tyX12_ok nmX12 0 (by decide) mw_11 rfl (iM0_0 cI cB ad) rfl rfl dX12_group_2 eu1 (fun H locs S => ?_)
  refine lv_aload_n hx hb dX12_group_5 rfl (lv_at hl 0 rfl) ?_
  refine lv_aload_n hx hb dX12_group_6 rfl (lv_at hl 0 rfl) ?_
  refine lv_iload_n hx hb dX12_group_7 rfl (lv_at hl 1 rfl) ?_
  obtain ⟨r3, h2, h⟩ := obr_some h
  refine q_callVi (As := [.int x1]) (na := 1) C S (oM0 cI cB ad) rfl (ct_X12_noGroup l D cI cB cL ad x1 u1 h2) mw_230 mw_229 mw_231 mw_5 mw_228 hdX12_noGroup ⟨Nat.le_trans (Nat.le_of_ble_eq_true rfl) hR.1, Nat.le_trans (Nat.le_of_ble_eq_true rfl) hR.2⟩ rfl hsz ⟨Nat.zero_le _, Nat.zero_le _⟩ (Nat.le_of_ble_eq_true rfl) dX12_group_8 rfl (fun H locs S => ?_)
  refine lv_iconst (v := 1) hx hb dX12_group_11 (by decide) ?_
  obtain ⟨r5, u6, h4, h⟩ := obd_some h
  refine q_callVi (As := [.int r3, .int 1]) (na := 2) C S (oM0 cI cB ad) rfl (ct_X12_throwsIf l D cI cB cL ad r3 1 u1 h4) mw_210 mw_209 mw_211 mw_5 mw_208 hdX12_throwsIf ⟨Nat.le_trans (Nat.le_of_ble_eq_true rfl) hR.1, Nat.le_trans (Nat.le_of_ble_eq_true rfl) hR.2⟩ rfl hsz ⟨Nat.zero_le _, Nat.zero_le _⟩ (Nat.le_of_ble_eq_true rfl) dX12_group_12 rfl (fun H locs S => ?_)
  refine lv_if_eq (tgt := 22) hx hb dX12_group_15 (by decide) (fun c7 => ?_) (fun c7 => ?_)
  · have h := cnd_t c7 h
    refine lv_aload_n hx hb dX12_group_22 rfl (lv_at hl 0 rfl) ?_
    refine q_get (v := .ref (ad 1)) C S (oM0 cI cB ad) rfl iwX12 1 (by decide) mw_14 rfl dX12_group_23 ?_
    refine lv_bipush (v := 11) hx hb dX12_group_26 (by decide) ?_
    refine lv_iload_n hx hb dX12_group_28 rfl (lv_at hl 1 rfl) ?_
    refine lv_iadd hx hb dX12_group_29 ?_
    obtain ⟨g8, h⟩ := grd_some h
    refine q_iald C S (aM1 cI cB ad) 0 rfl g8 dX12_group_30 (j := ((11 + x1) : Int32).toNatClampNeg) rfl ?_
    exact q_iret C S (rt_S h) dX12_group_31
  · have h := cnd_f c7 h
    refine lv_iconst (v := 0) hx hb dX12_group_18 (by decide) ?_
    refine lv_goto (tgt := 31) hx hb dX12_group_19 (by decide) ?_
    exact q_iret C S (rt_S h) dX12_group_31
set_option maxRecDepth 10000 in
set_option maxHeartbeats 4000000 in
theorem ct_X12_group (l : Launch) (D : va_G) (cI cB cL : ClassId) (ad : Nat → Nat) (x1 : Int32) (u : Sg) {r : Int32} {σ' : Sg} (h : fX12_group x1 u = some (r, σ')) : metI l D (tyl cI cB cL) yX12_group cX12_group 2 (some .int) 2 43 (wM cI cB ad) [.ref (ad 0), .int x1] u r σ' := by
  intro sz
  refine Met.ofW (cc := cX12_group) (maxL := 2) (ret := (some .int)) (by decide) rfl ?_
  intro p e s m args below meth c s₁ B hml hv
  obtain ⟨rfl, C, S⟩ := q_entry B hml hv
  have hl := lv_entry ([.ref (ad 0), .int x1]) (n := 2) (Nat.le_of_ble_eq_true rfl)
  rw [lg_entry_eq]
  generalize (lg_sl ([.ref (ad 0), .int x1]) ++ List.replicate (2 - (lg_sl ([.ref (ad 0), .int x1])).length) Slot.unset).toArray = ls at hl ⊢
  exact wX12_group_0 C ⟨Nat.le_refl _, Nat.le_refl _⟩ u x1 (lv_sub hl [0, 1] rfl) S h
noncomputable def fX12_nodesWith_37 (K6 : Int32 → Int32 → Int32 → Int32 → Int32 → Option Int32) (x1 : Int32) (x2 : Int32) (x3 : Int32) (x5 : Int32) (t0 : Int32) (t1 : Int32) (u : Sg) : Option Int32 := bnd (t1 ||| t0) (fun v7 => bnd (x5 + 1) (fun v8 => K6 x1 x2 x3 v7 v8))
noncomputable def fX12_nodesWith_6 (u : Sg) : Nat → Int32 → Int32 → Int32 → Int32 → Int32 → Option Int32
  | 0, _, _, _, _, _ => none
  | n + 1, x1, x2, x3, x4, x5 => obr (fX12_nodes u) (fun r2 => cnd (r2 ≤ x5) (some x4) (obr (fX12_ofPair x5 x1 x2 u) (fun r5 => cnd (r5 = x3) (fX12_nodesWith_37 (fun a0 a1 a2 a3 a4 => fX12_nodesWith_6 u n a0 a1 a2 a3 a4) x1 x2 x3 x5 ((1 : Int32) <<< ((x5 &&& 31 : Int32))) x4 u) (fX12_nodesWith_37 (fun a0 a1 a2 a3 a4 => fX12_nodesWith_6 u n a0 a1 a2 a3 a4) x1 x2 x3 x5 0 x4 u))))
noncomputable def fX12_nodesWith_0 (x1 : Int32) (x2 : Int32) (x3 : Int32) (u : Sg) : Option Int32 := fX12_nodesWith_6 u FU x1 x2 x3 0 0
noncomputable def fX12_nodesWith (x1 : Int32) (x2 : Int32) (x3 : Int32) (u : Sg) : Option Int32 := fX12_nodesWith_0 x1 x2 x3 u
set_option maxRecDepth 10000 in
set_option maxHeartbeats 4000000 in
theorem wX12_nodesWith_37 (C : cx D (tyl cI cB cL) A RX12 cX12_nodesWith 6 (some .int) p s m args c meth) (hR : 3 ≤ R.frames ∧ 66 ≤ R.locals) {r : Int32} (u : Sg) {K6 : Int32 → Int32 → Int32 → Int32 → Int32 → Option Int32} (hK6 : ∀ (y1 : Int32) (y2 : Int32) (y3 : Int32) (y4 : Int32) (y5 : Int32) (H : Heap) (locs : List Loc) (ls : Array Slot), lv_has ls 6 [(0, .ref (ad 0)), (1, .int y1), (2, .int y2), (3, .int y3), (4, .int y4), (5, .int y5)] → st D (wM cI cB ad) A s u H locs → K6 y1 y2 y3 y4 y5 = some r → W p l e R s m args below meth c H locs 0 0 (MQ below (qI D (tyl cI cB cL) (wM cI cB ad) A r u) args s 0 0 A) (F0 m 6 ls [])) (x1 : Int32) (x2 : Int32) (x3 : Int32) (x5 : Int32) (t0 : Int32) (t1 : Int32) {H : Heap} {locs : List Loc} {ls : Array Slot} (hl : lv_has ls 6 [(0, .ref (ad 0)), (1, .int x1), (2, .int x2), (3, .int x3), (5, .int x5)]) (S : st D (wM cI cB ad) A s u H locs) (h : fX12_nodesWith_37 K6 x1 x2 x3 x5 t0 t1 u = some r) : W p l e R s m args below meth c H locs 0 0 (MQ below (qI D (tyl cI cB cL) (wM cI cB ad) A r u) args s 0 0 A) (F0 m 37 ls [.int t0, .int t1]) := by
  have hx := C.1
  have hb := C.2.1
  have hsz := hl.1
  unfold fX12_nodesWith_37 at h
  refine lv_ior hx hb dX12_nodesWith_37 ?_
  refine lv_topi (fun v7 ev7 => ?_)
  have h := bnd_of ev7 h
  refine lv_istore (lv' := [(4, .int v7), (0, .ref (ad 0)), (1, .int x1), (2, .int x2), (3, .int x3), (5, .int x5)]) hx hb dX12_nodesWith_38 hl (by decide) rfl (fun ls hl => ?_)
  have hsz := hl.1
  obtain ⟨v8, ev8⟩ : ∃ y : Int32, y = x5 + 1 := ⟨_, rfl⟩
  have h := bnd_of ev8 h
  refine lv_iinc (v := v8) (lv' := [(5, .int v8), (4, .int v7), (0, .ref (ad 0)), (1, .int x1), (2, .int x2), (3, .int x3)]) hx hb dX12_nodesWith_40 hl (k := 5) rfl (by rw [ev8]; rfl) (by decide) rfl (fun ls hl => ?_)
  have hsz := hl.1
  refine lv_goto (tgt := 6) hx hb dX12_nodesWith_43 (by decide) ?_
  exact hK6 x1 x2 x3 v7 v8 H locs ls (lv_sub hl [2, 3, 4, 5, 1, 0] rfl) S h
set_option maxRecDepth 10000 in
set_option maxHeartbeats 4000000 in
theorem wX12_nodesWith_6 (C : cx D (tyl cI cB cL) A RX12 cX12_nodesWith 6 (some .int) p s m args c meth) (hR : 3 ≤ R.frames ∧ 66 ≤ R.locals) {r : Int32} (u : Sg) : ∀ (n : Nat) (x1 : Int32) (x2 : Int32) (x3 : Int32) (x4 : Int32) (x5 : Int32) (H : Heap) (locs : List Loc) (ls : Array Slot), lv_has ls 6 [(0, .ref (ad 0)), (1, .int x1), (2, .int x2), (3, .int x3), (4, .int x4), (5, .int x5)] → st D (wM cI cB ad) A s u H locs → fX12_nodesWith_6 u n x1 x2 x3 x4 x5 = some r → W p l e R s m args below meth c H locs 0 0 (MQ below (qI D (tyl cI cB cL) (wM cI cB ad) A r u) args s 0 0 A) (F0 m 6 ls []) := by
  have hx := C.1
  have hb := C.2.1
  intro n
  induction n with
  | zero =>
    intro x1 x2 x3 x4 x5 H locs ls hl S h
    cases h
  | succ n ih =>
    intro x1 x2 x3 x4 x5 H locs ls hl S h
    rw [fX12_nodesWith_6] at h
    have hsz := hl.1
    refine lv_iload hx hb dX12_nodesWith_6 (lv_at hl 5 rfl) ?_
    refine lv_aload_n hx hb dX12_nodesWith_8 rfl (lv_at hl 0 rfl) ?_
    obtain ⟨r2, h1, h⟩ := obr_some h
    refine q_callVi (As := []) (na := 0) C S (oM0 cI cB ad) rfl (ct_X12_nodes l D cI cB cL ad u h1) mw_24 mw_23 mw_25 mw_5 mw_22 hdX12_nodes ⟨Nat.le_trans (Nat.le_of_ble_eq_true rfl) hR.1, Nat.le_trans (Nat.le_of_ble_eq_true rfl) hR.2⟩ rfl hsz ⟨Nat.zero_le _, Nat.zero_le _⟩ (Nat.le_of_ble_eq_true rfl) dX12_nodesWith_9 rfl (fun H locs S => ?_)
    refine lv_icmp_ge (tgt := 46) hx hb dX12_nodesWith_12 (by decide) (fun c3 => ?_) (fun c3 => ?_)
    · have h := cnd_t c3 h
      refine lv_iload hx hb dX12_nodesWith_46 (lv_at hl 4 rfl) ?_
      exact q_iret C S (rt_R h) dX12_nodesWith_48
    · have h := cnd_f c3 h
      refine lv_iload hx hb dX12_nodesWith_15 (lv_at hl 4 rfl) ?_
      refine lv_aload_n hx hb dX12_nodesWith_17 rfl (lv_at hl 0 rfl) ?_
      refine lv_iload hx hb dX12_nodesWith_18 (lv_at hl 5 rfl) ?_
      refine lv_iload_n hx hb dX12_nodesWith_20 rfl (lv_at hl 1 rfl) ?_
      refine lv_iload_n hx hb dX12_nodesWith_21 rfl (lv_at hl 2 rfl) ?_
      obtain ⟨r5, h4, h⟩ := obr_some h
      refine q_callVi (As := [.int x5, .int x1, .int x2]) (na := 3) C S (oM0 cI cB ad) rfl (ct_X12_ofPair l D cI cB cL ad x5 x1 x2 u h4) mw_126 mw_125 mw_127 mw_5 mw_124 hdX12_ofPair ⟨Nat.le_trans (Nat.le_of_ble_eq_true rfl) hR.1, Nat.le_trans (Nat.le_of_ble_eq_true rfl) hR.2⟩ rfl hsz ⟨Nat.zero_le _, Nat.zero_le _⟩ (Nat.le_of_ble_eq_true rfl) dX12_nodesWith_22 rfl (fun H locs S => ?_)
      refine lv_iload_n hx hb dX12_nodesWith_25 rfl (lv_at hl 3 rfl) ?_
      refine lv_icmp_ne (tgt := 36) hx hb dX12_nodesWith_26 (by decide) (fun c6 => ?_) (fun c6 => ?_)
      · have h := cnd_f c6 h
        refine lv_iconst (v := 0) hx hb dX12_nodesWith_36 (by decide) ?_
        exact wX12_nodesWith_37 C hR u ih x1 x2 x3 x5 0 x4 (lv_sub hl [0, 1, 2, 3, 5] rfl) S h
      · have h := cnd_t c6 h
        refine lv_iconst (v := 1) hx hb dX12_nodesWith_29 (by decide) ?_
        refine lv_iload hx hb dX12_nodesWith_30 (lv_at hl 5 rfl) ?_
        refine lv_ishl hx hb dX12_nodesWith_32 ?_
        refine lv_goto (tgt := 37) hx hb dX12_nodesWith_33 (by decide) ?_
        exact wX12_nodesWith_37 C hR u ih x1 x2 x3 x5 ((1 : Int32) <<< ((x5 &&& 31 : Int32))) x4 (lv_sub hl [0, 1, 2, 3, 5] rfl) S h
set_option maxRecDepth 10000 in
set_option maxHeartbeats 4000000 in
theorem wX12_nodesWith_0 (C : cx D (tyl cI cB cL) A RX12 cX12_nodesWith 6 (some .int) p s m args c meth) (hR : 3 ≤ R.frames ∧ 66 ≤ R.locals) {r : Int32} (u : Sg) (x1 : Int32) (x2 : Int32) (x3 : Int32) {H : Heap} {locs : List Loc} {ls : Array Slot} (hl : lv_has ls 6 [(0, .ref (ad 0)), (1, .int x1), (2, .int x2), (3, .int x3)]) (S : st D (wM cI cB ad) A s u H locs) (h : fX12_nodesWith_0 x1 x2 x3 u = some r) : W p l e R s m args below meth c H locs 0 0 (MQ below (qI D (tyl cI cB cL) (wM cI cB ad) A r u) args s 0 0 A) (F0 m 0 ls []) := by
  have hx := C.1
  have hb := C.2.1
  have hsz := hl.1
  unfold fX12_nodesWith_0 at h
  refine lv_iconst (v := 0) hx hb dX12_nodesWith_0 (by decide) ?_
  refine lv_istore (lv' := [(4, .int 0), (0, .ref (ad 0)), (1, .int x1), (2, .int x2), (3, .int x3)]) hx hb dX12_nodesWith_1 hl (by decide) rfl (fun ls hl => ?_)
  have hsz := hl.1
  refine lv_iconst (v := 0) hx hb dX12_nodesWith_3 (by decide) ?_
  refine lv_istore (lv' := [(5, .int 0), (4, .int 0), (0, .ref (ad 0)), (1, .int x1), (2, .int x2), (3, .int x3)]) hx hb dX12_nodesWith_4 hl (by decide) rfl (fun ls hl => ?_)
  have hsz := hl.1
  exact wX12_nodesWith_6 C hR u FU x1 x2 x3 0 0 H locs ls (lv_sub hl [2, 3, 4, 5, 1, 0] rfl) S h
set_option maxRecDepth 10000 in
set_option maxHeartbeats 4000000 in
theorem ct_X12_nodesWith (l : Launch) (D : va_G) (cI cB cL : ClassId) (ad : Nat → Nat) (x1 : Int32) (x2 : Int32) (x3 : Int32) (u : Sg) {r : Int32} (h : fX12_nodesWith x1 x2 x3 u = some r) : metI l D (tyl cI cB cL) yX12_nodesWith cX12_nodesWith 6 (some .int) 3 66 (wM cI cB ad) [.ref (ad 0), .int x1, .int x2, .int x3] u r u := by
  intro sz
  refine Met.ofW (cc := cX12_nodesWith) (maxL := 6) (ret := (some .int)) (by decide) rfl ?_
  intro p e s m args below meth c s₁ B hml hv
  obtain ⟨rfl, C, S⟩ := q_entry B hml hv
  have hl := lv_entry ([.ref (ad 0), .int x1, .int x2, .int x3]) (n := 6) (Nat.le_of_ble_eq_true rfl)
  rw [lg_entry_eq]
  generalize (lg_sl ([.ref (ad 0), .int x1, .int x2, .int x3]) ++ List.replicate (6 - (lg_sl ([.ref (ad 0), .int x1, .int x2, .int x3])).length) Slot.unset).toArray = ls at hl ⊢
  exact wX12_nodesWith_0 C ⟨Nat.le_refl _, Nat.le_refl _⟩ u x1 x2 x3 (lv_sub hl [0, 1, 2, 3] rfl) S h
noncomputable def fX12_message_33 (x1 : Int32) (x2 : Int32) (t0 : Int32) (u : Sg) : Option (Int32 × Sg) := obd (fX12_throwsIf t0 2 u) (fun r10 u11 => cnd (r10 = 0) (cnd (x2 = 0) (obr (fX12_ofMessage x1 0 u11) (fun r15 => some (r15, u11))) (cnd (x2 = 1) (obr (fX12_ofMessage x1 1 u11) (fun r18 => some (r18, u11))) (cnd (x2 = 2) (obr (fX12_ofMessage x1 2 u11) (fun r21 => some (r21, u11))) (cnd (x2 = 3) (obr (fX12_nodesWith x1 0 3 u11) (fun r24 => some (r24, u11))) (obr (fX12_nodesWith x1 5 1 u11) (fun r26 => some (r26, u11))))))) (some (0, u11)))
noncomputable def fX12_message_0 (x1 : Int32) (x2 : Int32) (u : Sg) : Option (Int32 × Sg) := bnd (s2 u 0 0 0) (fun u1 => obr (fX12_noMessage x1 u1) (fun r3 => obd (fX12_throwsIf r3 1 u1) (fun r5 u6 => cnd (r5 = 0) (cnd ((fX12_in x2 0 4) = 0) (fX12_message_33 x1 x2 1 u6) (fX12_message_33 x1 x2 0 u6)) (some (0, u6)))))
noncomputable def fX12_message (x1 : Int32) (x2 : Int32) (u : Sg) : Option (Int32 × Sg) := fX12_message_0 x1 x2 u
set_option maxRecDepth 10000 in
set_option maxHeartbeats 4000000 in
theorem wX12_message_33 (C : cx D (tyl cI cB cL) A RX12 cX12_message 3 (some .int) p s m args c meth) (hR : 4 ≤ R.frames ∧ 91 ≤ R.locals) {r : Int32} {σ' : Sg} (u : Sg) (x1 : Int32) (x2 : Int32) (t0 : Int32) {H : Heap} {locs : List Loc} {ls : Array Slot} (hl : lv_has ls 3 [(0, .ref (ad 0)), (1, .int x1), (2, .int x2)]) (S : st D (wM cI cB ad) A s u H locs) (h : fX12_message_33 x1 x2 t0 u = some (r, σ')) : W p l e R s m args below meth c H locs 0 0 (MQ below (qI D (tyl cI cB cL) (wM cI cB ad) A r σ') args s 0 0 A) (F0 m 33 ls [.int t0, .ref (ad 0)]) := by
  have hx := C.1
  have hb := C.2.1
  have hsz := hl.1
  unfold fX12_message_33 at h
  refine lv_iconst (v := 2) hx hb dX12_message_33 (by decide) ?_
  obtain ⟨r10, u11, h9, h⟩ := obd_some h
  refine q_callVi (As := [.int t0, .int 2]) (na := 2) C S (oM0 cI cB ad) rfl (ct_X12_throwsIf l D cI cB cL ad t0 2 u h9) mw_210 mw_209 mw_211 mw_5 mw_208 hdX12_throwsIf ⟨Nat.le_trans (Nat.le_of_ble_eq_true rfl) hR.1, Nat.le_trans (Nat.le_of_ble_eq_true rfl) hR.2⟩ rfl hsz ⟨Nat.zero_le _, Nat.zero_le _⟩ (Nat.le_of_ble_eq_true rfl) dX12_message_34 rfl (fun H locs S => ?_)
  refine lv_if_eq (tgt := 42) hx hb dX12_message_37 (by decide) (fun c12 => ?_) (fun c12 => ?_)
  · have h := cnd_t c12 h
    refine lv_iload_n hx hb dX12_message_42 rfl (lv_at hl 2 rfl) ?_
    by_cases c13 : x2 = 0
    · have h := cnd_t c13 h
      refine lv_tableIn (off := 29) (tgt := 72) hx hb dX12_message_43 (by rw [c13]; decide) (by rw [c13]; decide) (by rw [c13]; rfl) (by decide) ?_
      refine lv_aload_n hx hb dX12_message_72 rfl (lv_at hl 0 rfl) ?_
      refine lv_iload_n hx hb dX12_message_73 rfl (lv_at hl 1 rfl) ?_
      refine lv_iconst (v := 0) hx hb dX12_message_74 (by decide) ?_
      obtain ⟨r15, h14, h⟩ := obr_some h
      refine q_callVi (As := [.int x1, .int 0]) (na := 2) C S (oM0 cI cB ad) rfl (ct_X12_ofMessage l D cI cB cL ad x1 0 u11 h14) mw_43 mw_42 mw_44 mw_5 mw_41 hdX12_ofMessage ⟨Nat.le_trans (Nat.le_of_ble_eq_true rfl) hR.1, Nat.le_trans (Nat.le_of_ble_eq_true rfl) hR.2⟩ rfl hsz ⟨Nat.zero_le _, Nat.zero_le _⟩ (Nat.le_of_ble_eq_true rfl) dX12_message_75 rfl (fun H locs S => ?_)
      exact q_iret C S (rt_S h) dX12_message_78
    · have h := cnd_f c13 h
      by_cases c16 : x2 = 1
      · have h := cnd_t c16 h
        refine lv_tableIn (off := 36) (tgt := 79) hx hb dX12_message_43 (by rw [c16]; decide) (by rw [c16]; decide) (by rw [c16]; rfl) (by decide) ?_
        refine lv_aload_n hx hb dX12_message_79 rfl (lv_at hl 0 rfl) ?_
        refine lv_iload_n hx hb dX12_message_80 rfl (lv_at hl 1 rfl) ?_
        refine lv_iconst (v := 1) hx hb dX12_message_81 (by decide) ?_
        obtain ⟨r18, h17, h⟩ := obr_some h
        refine q_callVi (As := [.int x1, .int 1]) (na := 2) C S (oM0 cI cB ad) rfl (ct_X12_ofMessage l D cI cB cL ad x1 1 u11 h17) mw_43 mw_42 mw_44 mw_5 mw_41 hdX12_ofMessage ⟨Nat.le_trans (Nat.le_of_ble_eq_true rfl) hR.1, Nat.le_trans (Nat.le_of_ble_eq_true rfl) hR.2⟩ rfl hsz ⟨Nat.zero_le _, Nat.zero_le _⟩ (Nat.le_of_ble_eq_true rfl) dX12_message_82 rfl (fun H locs S => ?_)
        exact q_iret C S (rt_S h) dX12_message_85
      · have h := cnd_f c16 h
        by_cases c19 : x2 = 2
        · have h := cnd_t c19 h
          refine lv_tableIn (off := 43) (tgt := 86) hx hb dX12_message_43 (by rw [c19]; decide) (by rw [c19]; decide) (by rw [c19]; rfl) (by decide) ?_
          refine lv_aload_n hx hb dX12_message_86 rfl (lv_at hl 0 rfl) ?_
          refine lv_iload_n hx hb dX12_message_87 rfl (lv_at hl 1 rfl) ?_
          refine lv_iconst (v := 2) hx hb dX12_message_88 (by decide) ?_
          obtain ⟨r21, h20, h⟩ := obr_some h
          refine q_callVi (As := [.int x1, .int 2]) (na := 2) C S (oM0 cI cB ad) rfl (ct_X12_ofMessage l D cI cB cL ad x1 2 u11 h20) mw_43 mw_42 mw_44 mw_5 mw_41 hdX12_ofMessage ⟨Nat.le_trans (Nat.le_of_ble_eq_true rfl) hR.1, Nat.le_trans (Nat.le_of_ble_eq_true rfl) hR.2⟩ rfl hsz ⟨Nat.zero_le _, Nat.zero_le _⟩ (Nat.le_of_ble_eq_true rfl) dX12_message_89 rfl (fun H locs S => ?_)
          exact q_iret C S (rt_S h) dX12_message_92
        · have h := cnd_f c19 h
          by_cases c22 : x2 = 3
          · have h := cnd_t c22 h
            refine lv_tableIn (off := 50) (tgt := 93) hx hb dX12_message_43 (by rw [c22]; decide) (by rw [c22]; decide) (by rw [c22]; rfl) (by decide) ?_
            refine lv_aload_n hx hb dX12_message_93 rfl (lv_at hl 0 rfl) ?_
            refine lv_iload_n hx hb dX12_message_94 rfl (lv_at hl 1 rfl) ?_
            refine lv_iconst (v := 0) hx hb dX12_message_95 (by decide) ?_
            refine lv_iconst (v := 3) hx hb dX12_message_96 (by decide) ?_
            obtain ⟨r24, h23, h⟩ := obr_some h
            refine q_callVi (As := [.int x1, .int 0, .int 3]) (na := 3) C S (oM0 cI cB ad) rfl (ct_X12_nodesWith l D cI cB cL ad x1 0 3 u11 h23) mw_246 mw_245 mw_247 mw_5 mw_244 hdX12_nodesWith ⟨Nat.le_trans (Nat.le_of_ble_eq_true rfl) hR.1, Nat.le_trans (Nat.le_of_ble_eq_true rfl) hR.2⟩ rfl hsz ⟨Nat.zero_le _, Nat.zero_le _⟩ (Nat.le_of_ble_eq_true rfl) dX12_message_97 rfl (fun H locs S => ?_)
            exact q_iret C S (rt_S h) dX12_message_100
          · have h := cnd_f c22 h
            refine lv_tableOut (tgt := 101) hx hb dX12_message_43 (sw_out (0) 4 (fun k hk => by
              rcases (show k = 0 ∨ k = 1 ∨ k = 2 ∨ k = 3 by omega) with rfl | rfl | rfl | rfl
              · exact sw_ne 0 _ (by decide) c13
              · exact sw_ne 1 _ (by decide) c16
              · exact sw_ne 2 _ (by decide) c19
              · exact sw_ne 3 _ (by decide) c22)) (by decide) ?_
            refine lv_aload_n hx hb dX12_message_101 rfl (lv_at hl 0 rfl) ?_
            refine lv_iload_n hx hb dX12_message_102 rfl (lv_at hl 1 rfl) ?_
            refine lv_iconst (v := 5) hx hb dX12_message_103 (by decide) ?_
            refine lv_iconst (v := 1) hx hb dX12_message_104 (by decide) ?_
            obtain ⟨r26, h25, h⟩ := obr_some h
            refine q_callVi (As := [.int x1, .int 5, .int 1]) (na := 3) C S (oM0 cI cB ad) rfl (ct_X12_nodesWith l D cI cB cL ad x1 5 1 u11 h25) mw_246 mw_245 mw_247 mw_5 mw_244 hdX12_nodesWith ⟨Nat.le_trans (Nat.le_of_ble_eq_true rfl) hR.1, Nat.le_trans (Nat.le_of_ble_eq_true rfl) hR.2⟩ rfl hsz ⟨Nat.zero_le _, Nat.zero_le _⟩ (Nat.le_of_ble_eq_true rfl) dX12_message_105 rfl (fun H locs S => ?_)
            exact q_iret C S (rt_S h) dX12_message_108
  · have h := cnd_f c12 h
    refine lv_iconst (v := 0) hx hb dX12_message_40 (by decide) ?_
    exact q_iret C S (rt_S h) dX12_message_41
set_option maxRecDepth 10000 in
set_option maxHeartbeats 4000000 in
theorem wX12_message_0 (C : cx D (tyl cI cB cL) A RX12 cX12_message 3 (some .int) p s m args c meth) (hR : 4 ≤ R.frames ∧ 91 ≤ R.locals) {r : Int32} {σ' : Sg} (u : Sg) (x1 : Int32) (x2 : Int32) {H : Heap} {locs : List Loc} {ls : Array Slot} (hl : lv_has ls 3 [(0, .ref (ad 0)), (1, .int x1), (2, .int x2)]) (S : st D (wM cI cB ad) A s u H locs) (h : fX12_message_0 x1 x2 u = some (r, σ')) : W p l e R s m args below meth c H locs 0 0 (MQ below (qI D (tyl cI cB cL) (wM cI cB ad) A r σ') args s 0 0 A) (F0 m 0 ls []) := by
  have hx := C.1
  have hb := C.2.1
  have hsz := hl.1
  unfold fX12_message_0 at h
  refine lv_aload_n hx hb dX12_message_0 rfl (lv_at hl 0 rfl) ?_
  refine lv_iconst (v := 0) hx hb dX12_message_1 (by decide) ?_
  obtain ⟨u1, eu1⟩ : ∃ z : Sg, z = s2 u 0 0 0 := ⟨_, rfl⟩
  have h := bnd_of eu1 h
  refine q_put C S (oM0 cI cB ad) rfl iwX12 tyX12 tyX12_ok nmX12 0 (by decide) mw_11 rfl (iM0_0 cI cB ad) rfl rfl dX12_message_2 eu1 (fun H locs S => ?_)
  refine lv_aload_n hx hb dX12_message_5 rfl (lv_at hl 0 rfl) ?_
  refine lv_aload_n hx hb dX12_message_6 rfl (lv_at hl 0 rfl) ?_
  refine lv_iload_n hx hb dX12_message_7 rfl (lv_at hl 1 rfl) ?_
  obtain ⟨r3, h2, h⟩ := obr_some h
  refine q_callVi (As := [.int x1]) (na := 1) C S (oM0 cI cB ad) rfl (ct_X12_noMessage l D cI cB cL ad x1 u1 h2) mw_242 mw_241 mw_243 mw_5 mw_240 hdX12_noMessage ⟨Nat.le_trans (Nat.le_of_ble_eq_true rfl) hR.1, Nat.le_trans (Nat.le_of_ble_eq_true rfl) hR.2⟩ rfl hsz ⟨Nat.zero_le _, Nat.zero_le _⟩ (Nat.le_of_ble_eq_true rfl) dX12_message_8 rfl (fun H locs S => ?_)
  refine lv_iconst (v := 1) hx hb dX12_message_11 (by decide) ?_
  obtain ⟨r5, u6, h4, h⟩ := obd_some h
  refine q_callVi (As := [.int r3, .int 1]) (na := 2) C S (oM0 cI cB ad) rfl (ct_X12_throwsIf l D cI cB cL ad r3 1 u1 h4) mw_210 mw_209 mw_211 mw_5 mw_208 hdX12_throwsIf ⟨Nat.le_trans (Nat.le_of_ble_eq_true rfl) hR.1, Nat.le_trans (Nat.le_of_ble_eq_true rfl) hR.2⟩ rfl hsz ⟨Nat.zero_le _, Nat.zero_le _⟩ (Nat.le_of_ble_eq_true rfl) dX12_message_12 rfl (fun H locs S => ?_)
  refine lv_if_ne (tgt := 40) hx hb dX12_message_15 (by decide) (fun c7 => ?_) (fun c7 => ?_)
  · have h := cnd_f c7 h
    refine lv_iconst (v := 0) hx hb dX12_message_40 (by decide) ?_
    exact q_iret C S (rt_S h) dX12_message_41
  · have h := cnd_t c7 h
    refine lv_aload_n hx hb dX12_message_18 rfl (lv_at hl 0 rfl) ?_
    refine lv_iload_n hx hb dX12_message_19 rfl (lv_at hl 2 rfl) ?_
    refine lv_iconst (v := 0) hx hb dX12_message_20 (by decide) ?_
    refine lv_iconst (v := 4) hx hb dX12_message_21 (by decide) ?_
    refine q_callP (As := [.int x2, .int 0, .int 4]) (na := 3) C S (ct_X12_in l D cI cB cL x2 0 4) mw_28 mw_27 mw_5 mw_26 hdX12_in ⟨Nat.le_trans (Nat.le_of_ble_eq_true rfl) hR.1, Nat.le_trans (Nat.le_of_ble_eq_true rfl) hR.2⟩ rfl hsz ⟨Nat.zero_le _, Nat.zero_le _⟩ (Nat.le_of_ble_eq_true rfl) dX12_message_22 rfl (fun H locs S => ?_)
    refine lv_if_ne (tgt := 32) hx hb dX12_message_25 (by decide) (fun c8 => ?_) (fun c8 => ?_)
    · have h := cnd_f c8 h
      refine lv_iconst (v := 0) hx hb dX12_message_32 (by decide) ?_
      exact wX12_message_33 C hR u6 x1 x2 0 (lv_sub hl [0, 1, 2] rfl) S h
    · have h := cnd_t c8 h
      refine lv_iconst (v := 1) hx hb dX12_message_28 (by decide) ?_
      refine lv_goto (tgt := 33) hx hb dX12_message_29 (by decide) ?_
      exact wX12_message_33 C hR u6 x1 x2 1 (lv_sub hl [0, 1, 2] rfl) S h
set_option maxRecDepth 10000 in
set_option maxHeartbeats 4000000 in
theorem ct_X12_message (l : Launch) (D : va_G) (cI cB cL : ClassId) (ad : Nat → Nat) (x1 : Int32) (x2 : Int32) (u : Sg) {r : Int32} {σ' : Sg} (h : fX12_message x1 x2 u = some (r, σ')) : metI l D (tyl cI cB cL) yX12_message cX12_message 3 (some .int) 4 91 (wM cI cB ad) [.ref (ad 0), .int x1, .int x2] u r σ' := by
  intro sz
  refine Met.ofW (cc := cX12_message) (maxL := 3) (ret := (some .int)) (by decide) rfl ?_
  intro p e s m args below meth c s₁ B hml hv
  obtain ⟨rfl, C, S⟩ := q_entry B hml hv
  have hl := lv_entry ([.ref (ad 0), .int x1, .int x2]) (n := 3) (Nat.le_of_ble_eq_true rfl)
  rw [lg_entry_eq]
  generalize (lg_sl ([.ref (ad 0), .int x1, .int x2]) ++ List.replicate (3 - (lg_sl ([.ref (ad 0), .int x1, .int x2])).length) Slot.unset).toArray = ls at hl ⊢
  exact wX12_message_0 C ⟨Nat.le_refl _, Nat.le_refl _⟩ u x1 x2 (lv_sub hl [0, 1, 2] rfl) S h
noncomputable def fX12_noPair_27 (t0 : Int32) (u : Sg) : Option (Int32 × Sg) := obd (fX12_throwsIf t0 1 u) (fun r6 u7 => grd (isB r6) (some (r6, u7)))
noncomputable def fX12_noPair_22 (u : Sg) : Option (Int32 × Sg) := fX12_noPair_27 1 u
noncomputable def fX12_noPair_0 (x1 : Int32) (x2 : Int32) (u : Sg) : Option (Int32 × Sg) := bnd (s2 u 0 0 0) (fun u1 => obr (fX12_noNode x1 u1) (fun r3 => cnd (r3 = 0) (obr (fX12_noMessage x2 u1) (fun r10 => cnd (r10 = 0) (fX12_noPair_27 0 u1) (fX12_noPair_22 u1))) (fX12_noPair_22 u1)))
noncomputable def fX12_noPair (x1 : Int32) (x2 : Int32) (u : Sg) : Option (Int32 × Sg) := fX12_noPair_0 x1 x2 u
set_option maxRecDepth 10000 in
set_option maxHeartbeats 4000000 in
theorem wX12_noPair_27 (C : cx D (tyl cI cB cL) A RX12 cX12_noPair 3 (some .boolean) p s m args c meth) (hR : 2 ≤ R.frames ∧ 43 ≤ R.locals) {r : Int32} {σ' : Sg} (u : Sg) (t0 : Int32) {H : Heap} {locs : List Loc} {ls : Array Slot} (hl : lv_has ls 3 []) (S : st D (wM cI cB ad) A s u H locs) (h : fX12_noPair_27 t0 u = some (r, σ')) : W p l e R s m args below meth c H locs 0 0 (MQ below (qI D (tyl cI cB cL) (wM cI cB ad) A r σ') args s 0 0 A) (F0 m 27 ls [.int t0, .ref (ad 0)]) := by
  have hx := C.1
  have hb := C.2.1
  have hsz := hl.1
  unfold fX12_noPair_27 at h
  refine lv_iconst (v := 1) hx hb dX12_noPair_27 (by decide) ?_
  obtain ⟨r6, u7, h5, h⟩ := obd_some h
  refine q_callVi (As := [.int t0, .int 1]) (na := 2) C S (oM0 cI cB ad) rfl (ct_X12_throwsIf l D cI cB cL ad t0 1 u h5) mw_210 mw_209 mw_211 mw_5 mw_208 hdX12_throwsIf ⟨Nat.le_trans (Nat.le_of_ble_eq_true rfl) hR.1, Nat.le_trans (Nat.le_of_ble_eq_true rfl) hR.2⟩ rfl hsz ⟨Nat.zero_le _, Nat.zero_le _⟩ (Nat.le_of_ble_eq_true rfl) dX12_noPair_28 rfl (fun H locs S => ?_)
  obtain ⟨g8, h⟩ := grd_some h
  exact q_zret C S (isB_n g8) (rt_S h) dX12_noPair_31
set_option maxRecDepth 10000 in
set_option maxHeartbeats 4000000 in
theorem wX12_noPair_22 (C : cx D (tyl cI cB cL) A RX12 cX12_noPair 3 (some .boolean) p s m args c meth) (hR : 2 ≤ R.frames ∧ 43 ≤ R.locals) {r : Int32} {σ' : Sg} (u : Sg) {H : Heap} {locs : List Loc} {ls : Array Slot} (hl : lv_has ls 3 []) (S : st D (wM cI cB ad) A s u H locs) (h : fX12_noPair_22 u = some (r, σ')) : W p l e R s m args below meth c H locs 0 0 (MQ below (qI D (tyl cI cB cL) (wM cI cB ad) A r σ') args s 0 0 A) (F0 m 22 ls [.ref (ad 0)]) := by
  have hx := C.1
  have hb := C.2.1
  have hsz := hl.1
  unfold fX12_noPair_22 at h
  refine lv_iconst (v := 1) hx hb dX12_noPair_22 (by decide) ?_
  refine lv_goto (tgt := 27) hx hb dX12_noPair_23 (by decide) ?_
  exact wX12_noPair_27 C hR u 1 (lv_sub hl [] rfl) S h
set_option maxRecDepth 10000 in
set_option maxHeartbeats 4000000 in
theorem wX12_noPair_0 (C : cx D (tyl cI cB cL) A RX12 cX12_noPair 3 (some .boolean) p s m args c meth) (hR : 2 ≤ R.frames ∧ 43 ≤ R.locals) {r : Int32} {σ' : Sg} (u : Sg) (x1 : Int32) (x2 : Int32) {H : Heap} {locs : List Loc} {ls : Array Slot} (hl : lv_has ls 3 [(0, .ref (ad 0)), (1, .int x1), (2, .int x2)]) (S : st D (wM cI cB ad) A s u H locs) (h : fX12_noPair_0 x1 x2 u = some (r, σ')) : W p l e R s m args below meth c H locs 0 0 (MQ below (qI D (tyl cI cB cL) (wM cI cB ad) A r σ') args s 0 0 A) (F0 m 0 ls []) := by
  have hx := C.1
  have hb := C.2.1
  have hsz := hl.1
  unfold fX12_noPair_0 at h
  refine lv_aload_n hx hb dX12_noPair_0 rfl (lv_at hl 0 rfl) ?_
  refine lv_iconst (v := 0) hx hb dX12_noPair_1 (by decide) ?_
  obtain ⟨u1, eu1⟩ : ∃ z : Sg, z = s2 u 0 0 0 := ⟨_, rfl⟩
  have h := bnd_of eu1 h
  refine q_put C S (oM0 cI cB ad) rfl iwX12 tyX12 tyX12_ok nmX12 0 (by decide) mw_11 rfl (iM0_0 cI cB ad) rfl rfl dX12_noPair_2 eu1 (fun H locs S => ?_)
  refine lv_aload_n hx hb dX12_noPair_5 rfl (lv_at hl 0 rfl) ?_
  refine lv_aload_n hx hb dX12_noPair_6 rfl (lv_at hl 0 rfl) ?_
  refine lv_iload_n hx hb dX12_noPair_7 rfl (lv_at hl 1 rfl) ?_
  obtain ⟨r3, h2, h⟩ := obr_some h
  refine q_callVi (As := [.int x1]) (na := 1) C S (oM0 cI cB ad) rfl (ct_X12_noNode l D cI cB cL ad x1 u1 h2) mw_226 mw_225 mw_227 mw_5 mw_224 hdX12_noNode ⟨Nat.le_trans (Nat.le_of_ble_eq_true rfl) hR.1, Nat.le_trans (Nat.le_of_ble_eq_true rfl) hR.2⟩ rfl hsz ⟨Nat.zero_le _, Nat.zero_le _⟩ (Nat.le_of_ble_eq_true rfl) dX12_noPair_8 rfl (fun H locs S => ?_)
  refine lv_if_ne (tgt := 22) hx hb dX12_noPair_11 (by decide) (fun c4 => ?_) (fun c4 => ?_)
  · have h := cnd_f c4 h
    exact wX12_noPair_22 C hR u1 (lv_sub hl [] rfl) S h
  · have h := cnd_t c4 h
    refine lv_aload_n hx hb dX12_noPair_14 rfl (lv_at hl 0 rfl) ?_
    refine lv_iload_n hx hb dX12_noPair_15 rfl (lv_at hl 2 rfl) ?_
    obtain ⟨r10, h9, h⟩ := obr_some h
    refine q_callVi (As := [.int x2]) (na := 1) C S (oM0 cI cB ad) rfl (ct_X12_noMessage l D cI cB cL ad x2 u1 h9) mw_242 mw_241 mw_243 mw_5 mw_240 hdX12_noMessage ⟨Nat.le_trans (Nat.le_of_ble_eq_true rfl) hR.1, Nat.le_trans (Nat.le_of_ble_eq_true rfl) hR.2⟩ rfl hsz ⟨Nat.zero_le _, Nat.zero_le _⟩ (Nat.le_of_ble_eq_true rfl) dX12_noPair_16 rfl (fun H locs S => ?_)
    refine lv_if_eq (tgt := 26) hx hb dX12_noPair_19 (by decide) (fun c11 => ?_) (fun c11 => ?_)
    · have h := cnd_t c11 h
      refine lv_iconst (v := 0) hx hb dX12_noPair_26 (by decide) ?_
      exact wX12_noPair_27 C hR u1 0 (lv_sub hl [] rfl) S h
    · have h := cnd_f c11 h
      exact wX12_noPair_22 C hR u1 (lv_sub hl [] rfl) S h
set_option maxRecDepth 10000 in
set_option maxHeartbeats 4000000 in
theorem ct_X12_noPair (l : Launch) (D : va_G) (cI cB cL : ClassId) (ad : Nat → Nat) (x1 : Int32) (x2 : Int32) (u : Sg) {r : Int32} {σ' : Sg} (h : fX12_noPair x1 x2 u = some (r, σ')) : metI l D (tyl cI cB cL) yX12_noPair cX12_noPair 3 (some .boolean) 2 43 (wM cI cB ad) [.ref (ad 0), .int x1, .int x2] u r σ' := by
  intro sz
  refine Met.ofW (cc := cX12_noPair) (maxL := 3) (ret := (some .boolean)) (by decide) rfl ?_
  intro p e s m args below meth c s₁ B hml hv
  obtain ⟨rfl, C, S⟩ := q_entry B hml hv
  have hl := lv_entry ([.ref (ad 0), .int x1, .int x2]) (n := 3) (Nat.le_of_ble_eq_true rfl)
  rw [lg_entry_eq]
  generalize (lg_sl ([.ref (ad 0), .int x1, .int x2]) ++ List.replicate (3 - (lg_sl ([.ref (ad 0), .int x1, .int x2])).length) Slot.unset).toArray = ls at hl ⊢
  exact wX12_noPair_0 C ⟨Nat.le_refl _, Nat.le_refl _⟩ u x1 x2 (lv_sub hl [0, 1, 2] rfl) S h
noncomputable def fX12_has_49 (x1 : Int32) (x2 : Int32) (x3 : Int32) (u : Sg) : Option (Int32 × Sg) := cnd (x3 = 0) (obr (fX12_ofPair x1 x2 0 u) (fun r13 => some (r13, u))) (cnd (x3 = 1) (obr (fX12_ofPair x1 x2 1 u) (fun r16 => some (r16, u))) (cnd (x3 = 2) (obr (fX12_ofPair x1 x2 2 u) (fun r19 => some (r19, u))) (obr (fX12_ofPair x1 x2 3 u) (fun r21 => some (r21, u)))))
noncomputable def fX12_has_24 (x1 : Int32) (x2 : Int32) (x3 : Int32) (t0 : Int32) (u : Sg) : Option (Int32 × Sg) := obd (fX12_throwsIf t0 2 u) (fun r7 u8 => cnd (r7 = 0) (cnd (x3 ≤ 0) (fX12_has_49 x1 x2 x3 u8) (obr (fX12_ofPair x1 x2 0 u8) (fun r23 => cnd (r23 = 0) (some ((-1), u8)) (fX12_has_49 x1 x2 x3 u8)))) (some (0, u8)))
noncomputable def fX12_has_0 (x1 : Int32) (x2 : Int32) (x3 : Int32) (u : Sg) : Option (Int32 × Sg) := obd (fX12_noPair x1 x2 u) (fun r2 u3 => cnd (r2 = 0) (cnd ((fX12_in x3 0 3) = 0) (fX12_has_24 x1 x2 x3 1 u3) (fX12_has_24 x1 x2 x3 0 u3)) (some (0, u3)))
noncomputable def fX12_has (x1 : Int32) (x2 : Int32) (x3 : Int32) (u : Sg) : Option (Int32 × Sg) := fX12_has_0 x1 x2 x3 u
set_option maxRecDepth 10000 in
set_option maxHeartbeats 4000000 in
theorem wX12_has_49 (C : cx D (tyl cI cB cL) A RX12 cX12_has 4 (some .int) p s m args c meth) (hR : 3 ≤ R.frames ∧ 66 ≤ R.locals) {r : Int32} {σ' : Sg} (u : Sg) (x1 : Int32) (x2 : Int32) (x3 : Int32) {H : Heap} {locs : List Loc} {ls : Array Slot} (hl : lv_has ls 4 [(0, .ref (ad 0)), (1, .int x1), (2, .int x2), (3, .int x3)]) (S : st D (wM cI cB ad) A s u H locs) (h : fX12_has_49 x1 x2 x3 u = some (r, σ')) : W p l e R s m args below meth c H locs 0 0 (MQ below (qI D (tyl cI cB cL) (wM cI cB ad) A r σ') args s 0 0 A) (F0 m 49 ls []) := by
  have hx := C.1
  have hb := C.2.1
  have hsz := hl.1
  unfold fX12_has_49 at h
  refine lv_iload_n hx hb dX12_has_49 rfl (lv_at hl 3 rfl) ?_
  by_cases c11 : x3 = 0
  · have h := cnd_t c11 h
    refine lv_tableIn (off := 26) (tgt := 76) hx hb dX12_has_50 (by rw [c11]; decide) (by rw [c11]; decide) (by rw [c11]; rfl) (by decide) ?_
    refine lv_aload_n hx hb dX12_has_76 rfl (lv_at hl 0 rfl) ?_
    refine lv_iload_n hx hb dX12_has_77 rfl (lv_at hl 1 rfl) ?_
    refine lv_iload_n hx hb dX12_has_78 rfl (lv_at hl 2 rfl) ?_
    refine lv_iconst (v := 0) hx hb dX12_has_79 (by decide) ?_
    obtain ⟨r13, h12, h⟩ := obr_some h
    refine q_callVi (As := [.int x1, .int x2, .int 0]) (na := 3) C S (oM0 cI cB ad) rfl (ct_X12_ofPair l D cI cB cL ad x1 x2 0 u h12) mw_126 mw_125 mw_127 mw_5 mw_124 hdX12_ofPair ⟨Nat.le_trans (Nat.le_of_ble_eq_true rfl) hR.1, Nat.le_trans (Nat.le_of_ble_eq_true rfl) hR.2⟩ rfl hsz ⟨Nat.zero_le _, Nat.zero_le _⟩ (Nat.le_of_ble_eq_true rfl) dX12_has_80 rfl (fun H locs S => ?_)
    exact q_iret C S (rt_S h) dX12_has_83
  · have h := cnd_f c11 h
    by_cases c14 : x3 = 1
    · have h := cnd_t c14 h
      refine lv_tableIn (off := 34) (tgt := 84) hx hb dX12_has_50 (by rw [c14]; decide) (by rw [c14]; decide) (by rw [c14]; rfl) (by decide) ?_
      refine lv_aload_n hx hb dX12_has_84 rfl (lv_at hl 0 rfl) ?_
      refine lv_iload_n hx hb dX12_has_85 rfl (lv_at hl 1 rfl) ?_
      refine lv_iload_n hx hb dX12_has_86 rfl (lv_at hl 2 rfl) ?_
      refine lv_iconst (v := 1) hx hb dX12_has_87 (by decide) ?_
      obtain ⟨r16, h15, h⟩ := obr_some h
      refine q_callVi (As := [.int x1, .int x2, .int 1]) (na := 3) C S (oM0 cI cB ad) rfl (ct_X12_ofPair l D cI cB cL ad x1 x2 1 u h15) mw_126 mw_125 mw_127 mw_5 mw_124 hdX12_ofPair ⟨Nat.le_trans (Nat.le_of_ble_eq_true rfl) hR.1, Nat.le_trans (Nat.le_of_ble_eq_true rfl) hR.2⟩ rfl hsz ⟨Nat.zero_le _, Nat.zero_le _⟩ (Nat.le_of_ble_eq_true rfl) dX12_has_88 rfl (fun H locs S => ?_)
      exact q_iret C S (rt_S h) dX12_has_91
    · have h := cnd_f c14 h
      by_cases c17 : x3 = 2
      · have h := cnd_t c17 h
        refine lv_tableIn (off := 42) (tgt := 92) hx hb dX12_has_50 (by rw [c17]; decide) (by rw [c17]; decide) (by rw [c17]; rfl) (by decide) ?_
        refine lv_aload_n hx hb dX12_has_92 rfl (lv_at hl 0 rfl) ?_
        refine lv_iload_n hx hb dX12_has_93 rfl (lv_at hl 1 rfl) ?_
        refine lv_iload_n hx hb dX12_has_94 rfl (lv_at hl 2 rfl) ?_
        refine lv_iconst (v := 2) hx hb dX12_has_95 (by decide) ?_
        obtain ⟨r19, h18, h⟩ := obr_some h
        refine q_callVi (As := [.int x1, .int x2, .int 2]) (na := 3) C S (oM0 cI cB ad) rfl (ct_X12_ofPair l D cI cB cL ad x1 x2 2 u h18) mw_126 mw_125 mw_127 mw_5 mw_124 hdX12_ofPair ⟨Nat.le_trans (Nat.le_of_ble_eq_true rfl) hR.1, Nat.le_trans (Nat.le_of_ble_eq_true rfl) hR.2⟩ rfl hsz ⟨Nat.zero_le _, Nat.zero_le _⟩ (Nat.le_of_ble_eq_true rfl) dX12_has_96 rfl (fun H locs S => ?_)
        exact q_iret C S (rt_S h) dX12_has_99
      · have h := cnd_f c17 h
        refine lv_tableOut (tgt := 100) hx hb dX12_has_50 (sw_out (0) 3 (fun k hk => by
          rcases (show k = 0 ∨ k = 1 ∨ k = 2 by omega) with rfl | rfl | rfl
          · exact sw_ne 0 _ (by decide) c11
          · exact sw_ne 1 _ (by decide) c14
          · exact sw_ne 2 _ (by decide) c17)) (by decide) ?_
        refine lv_aload_n hx hb dX12_has_100 rfl (lv_at hl 0 rfl) ?_
        refine lv_iload_n hx hb dX12_has_101 rfl (lv_at hl 1 rfl) ?_
        refine lv_iload_n hx hb dX12_has_102 rfl (lv_at hl 2 rfl) ?_
        refine lv_iconst (v := 3) hx hb dX12_has_103 (by decide) ?_
        obtain ⟨r21, h20, h⟩ := obr_some h
        refine q_callVi (As := [.int x1, .int x2, .int 3]) (na := 3) C S (oM0 cI cB ad) rfl (ct_X12_ofPair l D cI cB cL ad x1 x2 3 u h20) mw_126 mw_125 mw_127 mw_5 mw_124 hdX12_ofPair ⟨Nat.le_trans (Nat.le_of_ble_eq_true rfl) hR.1, Nat.le_trans (Nat.le_of_ble_eq_true rfl) hR.2⟩ rfl hsz ⟨Nat.zero_le _, Nat.zero_le _⟩ (Nat.le_of_ble_eq_true rfl) dX12_has_104 rfl (fun H locs S => ?_)
        exact q_iret C S (rt_S h) dX12_has_107
set_option maxRecDepth 10000 in
set_option maxHeartbeats 4000000 in
theorem wX12_has_24 (C : cx D (tyl cI cB cL) A RX12 cX12_has 4 (some .int) p s m args c meth) (hR : 3 ≤ R.frames ∧ 66 ≤ R.locals) {r : Int32} {σ' : Sg} (u : Sg) (x1 : Int32) (x2 : Int32) (x3 : Int32) (t0 : Int32) {H : Heap} {locs : List Loc} {ls : Array Slot} (hl : lv_has ls 4 [(0, .ref (ad 0)), (1, .int x1), (2, .int x2), (3, .int x3)]) (S : st D (wM cI cB ad) A s u H locs) (h : fX12_has_24 x1 x2 x3 t0 u = some (r, σ')) : W p l e R s m args below meth c H locs 0 0 (MQ below (qI D (tyl cI cB cL) (wM cI cB ad) A r σ') args s 0 0 A) (F0 m 24 ls [.int t0, .ref (ad 0)]) := by
  have hx := C.1
  have hb := C.2.1
  have hsz := hl.1
  unfold fX12_has_24 at h
  refine lv_iconst (v := 2) hx hb dX12_has_24 (by decide) ?_
  obtain ⟨r7, u8, h6, h⟩ := obd_some h
  refine q_callVi (As := [.int t0, .int 2]) (na := 2) C S (oM0 cI cB ad) rfl (ct_X12_throwsIf l D cI cB cL ad t0 2 u h6) mw_210 mw_209 mw_211 mw_5 mw_208 hdX12_throwsIf ⟨Nat.le_trans (Nat.le_of_ble_eq_true rfl) hR.1, Nat.le_trans (Nat.le_of_ble_eq_true rfl) hR.2⟩ rfl hsz ⟨Nat.zero_le _, Nat.zero_le _⟩ (Nat.le_of_ble_eq_true rfl) dX12_has_25 rfl (fun H locs S => ?_)
  refine lv_if_eq (tgt := 33) hx hb dX12_has_28 (by decide) (fun c9 => ?_) (fun c9 => ?_)
  · have h := cnd_t c9 h
    refine lv_iload_n hx hb dX12_has_33 rfl (lv_at hl 3 rfl) ?_
    refine lv_if_le (tgt := 49) hx hb dX12_has_34 (by decide) (fun c10 => ?_) (fun c10 => ?_)
    · have h := cnd_t c10 h
      exact wX12_has_49 C hR u8 x1 x2 x3 (lv_sub hl [0, 1, 2, 3] rfl) S h
    · have h := cnd_f c10 h
      refine lv_aload_n hx hb dX12_has_37 rfl (lv_at hl 0 rfl) ?_
      refine lv_iload_n hx hb dX12_has_38 rfl (lv_at hl 1 rfl) ?_
      refine lv_iload_n hx hb dX12_has_39 rfl (lv_at hl 2 rfl) ?_
      refine lv_iconst (v := 0) hx hb dX12_has_40 (by decide) ?_
      obtain ⟨r23, h22, h⟩ := obr_some h
      refine q_callVi (As := [.int x1, .int x2, .int 0]) (na := 3) C S (oM0 cI cB ad) rfl (ct_X12_ofPair l D cI cB cL ad x1 x2 0 u8 h22) mw_126 mw_125 mw_127 mw_5 mw_124 hdX12_ofPair ⟨Nat.le_trans (Nat.le_of_ble_eq_true rfl) hR.1, Nat.le_trans (Nat.le_of_ble_eq_true rfl) hR.2⟩ rfl hsz ⟨Nat.zero_le _, Nat.zero_le _⟩ (Nat.le_of_ble_eq_true rfl) dX12_has_41 rfl (fun H locs S => ?_)
      refine lv_if_ne (tgt := 49) hx hb dX12_has_44 (by decide) (fun c24 => ?_) (fun c24 => ?_)
      · have h := cnd_f c24 h
        exact wX12_has_49 C hR u8 x1 x2 x3 (lv_sub hl [0, 1, 2, 3] rfl) S h
      · have h := cnd_t c24 h
        refine lv_iconst (v := (-1)) hx hb dX12_has_47 (by decide) ?_
        exact q_iret C S (rt_S h) dX12_has_48
  · have h := cnd_f c9 h
    refine lv_iconst (v := 0) hx hb dX12_has_31 (by decide) ?_
    exact q_iret C S (rt_S h) dX12_has_32
set_option maxRecDepth 10000 in
set_option maxHeartbeats 4000000 in
theorem wX12_has_0 (C : cx D (tyl cI cB cL) A RX12 cX12_has 4 (some .int) p s m args c meth) (hR : 3 ≤ R.frames ∧ 66 ≤ R.locals) {r : Int32} {σ' : Sg} (u : Sg) (x1 : Int32) (x2 : Int32) (x3 : Int32) {H : Heap} {locs : List Loc} {ls : Array Slot} (hl : lv_has ls 4 [(0, .ref (ad 0)), (1, .int x1), (2, .int x2), (3, .int x3)]) (S : st D (wM cI cB ad) A s u H locs) (h : fX12_has_0 x1 x2 x3 u = some (r, σ')) : W p l e R s m args below meth c H locs 0 0 (MQ below (qI D (tyl cI cB cL) (wM cI cB ad) A r σ') args s 0 0 A) (F0 m 0 ls []) := by
  have hx := C.1
  have hb := C.2.1
  have hsz := hl.1
  unfold fX12_has_0 at h
  refine lv_aload_n hx hb dX12_has_0 rfl (lv_at hl 0 rfl) ?_
  refine lv_iload_n hx hb dX12_has_1 rfl (lv_at hl 1 rfl) ?_
  refine lv_iload_n hx hb dX12_has_2 rfl (lv_at hl 2 rfl) ?_
  obtain ⟨r2, u3, h1, h⟩ := obd_some h
  refine q_callVi (As := [.int x1, .int x2]) (na := 2) C S (oM0 cI cB ad) rfl (ct_X12_noPair l D cI cB cL ad x1 x2 u h1) mw_250 mw_249 mw_251 mw_5 mw_248 hdX12_noPair ⟨Nat.le_trans (Nat.le_of_ble_eq_true rfl) hR.1, Nat.le_trans (Nat.le_of_ble_eq_true rfl) hR.2⟩ rfl hsz ⟨Nat.zero_le _, Nat.zero_le _⟩ (Nat.le_of_ble_eq_true rfl) dX12_has_3 rfl (fun H locs S => ?_)
  refine lv_if_ne (tgt := 31) hx hb dX12_has_6 (by decide) (fun c4 => ?_) (fun c4 => ?_)
  · have h := cnd_f c4 h
    refine lv_iconst (v := 0) hx hb dX12_has_31 (by decide) ?_
    exact q_iret C S (rt_S h) dX12_has_32
  · have h := cnd_t c4 h
    refine lv_aload_n hx hb dX12_has_9 rfl (lv_at hl 0 rfl) ?_
    refine lv_iload_n hx hb dX12_has_10 rfl (lv_at hl 3 rfl) ?_
    refine lv_iconst (v := 0) hx hb dX12_has_11 (by decide) ?_
    refine lv_iconst (v := 3) hx hb dX12_has_12 (by decide) ?_
    refine q_callP (As := [.int x3, .int 0, .int 3]) (na := 3) C S (ct_X12_in l D cI cB cL x3 0 3) mw_28 mw_27 mw_5 mw_26 hdX12_in ⟨Nat.le_trans (Nat.le_of_ble_eq_true rfl) hR.1, Nat.le_trans (Nat.le_of_ble_eq_true rfl) hR.2⟩ rfl hsz ⟨Nat.zero_le _, Nat.zero_le _⟩ (Nat.le_of_ble_eq_true rfl) dX12_has_13 rfl (fun H locs S => ?_)
    refine lv_if_ne (tgt := 23) hx hb dX12_has_16 (by decide) (fun c5 => ?_) (fun c5 => ?_)
    · have h := cnd_f c5 h
      refine lv_iconst (v := 0) hx hb dX12_has_23 (by decide) ?_
      exact wX12_has_24 C hR u3 x1 x2 x3 0 (lv_sub hl [0, 1, 2, 3] rfl) S h
    · have h := cnd_t c5 h
      refine lv_iconst (v := 1) hx hb dX12_has_19 (by decide) ?_
      refine lv_goto (tgt := 24) hx hb dX12_has_20 (by decide) ?_
      exact wX12_has_24 C hR u3 x1 x2 x3 1 (lv_sub hl [0, 1, 2, 3] rfl) S h
set_option maxRecDepth 10000 in
set_option maxHeartbeats 4000000 in
theorem ct_X12_has (l : Launch) (D : va_G) (cI cB cL : ClassId) (ad : Nat → Nat) (x1 : Int32) (x2 : Int32) (x3 : Int32) (u : Sg) {r : Int32} {σ' : Sg} (h : fX12_has x1 x2 x3 u = some (r, σ')) : metI l D (tyl cI cB cL) yX12_has cX12_has 4 (some .int) 3 66 (wM cI cB ad) [.ref (ad 0), .int x1, .int x2, .int x3] u r σ' := by
  intro sz
  refine Met.ofW (cc := cX12_has) (maxL := 4) (ret := (some .int)) (by decide) rfl ?_
  intro p e s m args below meth c s₁ B hml hv
  obtain ⟨rfl, C, S⟩ := q_entry B hml hv
  have hl := lv_entry ([.ref (ad 0), .int x1, .int x2, .int x3]) (n := 4) (Nat.le_of_ble_eq_true rfl)
  rw [lg_entry_eq]
  generalize (lg_sl ([.ref (ad 0), .int x1, .int x2, .int x3]) ++ List.replicate (4 - (lg_sl ([.ref (ad 0), .int x1, .int x2, .int x3])).length) Slot.unset).toArray = ls at hl ⊢
  exact wX12_has_0 C ⟨Nat.le_refl _, Nat.le_refl _⟩ u x1 x2 x3 (lv_sub hl [0, 1, 2, 3] rfl) S h
noncomputable def fX12_delivered_0 (x1 : Int32) (x2 : Int32) (u : Sg) : Option (Int32 × Sg) := bnd (s2 u 0 0 0) (fun u1 => obr (fX12_noNode x1 u1) (fun r3 => obd (fX12_throwsIf r3 1 u1) (fun r5 u6 => cnd (r5 = 0) (obr (fX12_of x1 4 u6) (fun r9 => cnd ((fX12_in x2 0 (r9 - 1)) = 0) (some ((-1), u6)) (obr (fX12_of x1 (5 + x2) u6) (fun r12 => some (r12, u6))))) (some (0, u6)))))
noncomputable def fX12_delivered (x1 : Int32) (x2 : Int32) (u : Sg) : Option (Int32 × Sg) := fX12_delivered_0 x1 x2 u
set_option maxRecDepth 10000 in
set_option maxHeartbeats 4000000 in
theorem wX12_delivered_0 (C : cx D (tyl cI cB cL) A RX12 cX12_delivered 3 (some .int) p s m args c meth) (hR : 2 ≤ R.frames ∧ 43 ≤ R.locals) {r : Int32} {σ' : Sg} (u : Sg) (x1 : Int32) (x2 : Int32) {H : Heap} {locs : List Loc} {ls : Array Slot} (hl : lv_has ls 3 [(0, .ref (ad 0)), (1, .int x1), (2, .int x2)]) (S : st D (wM cI cB ad) A s u H locs) (h : fX12_delivered_0 x1 x2 u = some (r, σ')) : W p l e R s m args below meth c H locs 0 0 (MQ below (qI D (tyl cI cB cL) (wM cI cB ad) A r σ') args s 0 0 A) (F0 m 0 ls []) := by
  have hx := C.1
  have hb := C.2.1
  have hsz := hl.1
  unfold fX12_delivered_0 at h
  refine lv_aload_n hx hb dX12_delivered_0 rfl (lv_at hl 0 rfl) ?_
  refine lv_iconst (v := 0) hx hb dX12_delivered_1 (by decide) ?_
  obtain ⟨u1, eu1⟩ : ∃ z : Sg, z = s2 u 0 0 0 := ⟨_, rfl⟩
  have h := bnd_of eu1 h
  refine q_put C S (oM0 cI cB ad) rfl iwX12 tyX12 tyX12_ok nmX12 0 (by decide) mw_11 rfl (iM0_0 cI cB ad) rfl rfl dX12_delivered_2 eu1 (fun H locs S => ?_)
  refine lv_aload_n hx hb dX12_delivered_5 rfl (lv_at hl 0 rfl) ?_
  refine lv_aload_n hx hb dX12_delivered_6 rfl (lv_at hl 0 rfl) ?_
  refine lv_iload_n hx hb dX12_delivered_7 rfl (lv_at hl 1 rfl) ?_
  obtain ⟨r3, h2, h⟩ := obr_some h
  refine q_callVi (As := [.int x1]) (na := 1) C S (oM0 cI cB ad) rfl (ct_X12_noNode l D cI cB cL ad x1 u1 h2) mw_226 mw_225 mw_227 mw_5 mw_224 hdX12_noNode ⟨Nat.le_trans (Nat.le_of_ble_eq_true rfl) hR.1, Nat.le_trans (Nat.le_of_ble_eq_true rfl) hR.2⟩ rfl hsz ⟨Nat.zero_le _, Nat.zero_le _⟩ (Nat.le_of_ble_eq_true rfl) dX12_delivered_8 rfl (fun H locs S => ?_)
  refine lv_iconst (v := 1) hx hb dX12_delivered_11 (by decide) ?_
  obtain ⟨r5, u6, h4, h⟩ := obd_some h
  refine q_callVi (As := [.int r3, .int 1]) (na := 2) C S (oM0 cI cB ad) rfl (ct_X12_throwsIf l D cI cB cL ad r3 1 u1 h4) mw_210 mw_209 mw_211 mw_5 mw_208 hdX12_throwsIf ⟨Nat.le_trans (Nat.le_of_ble_eq_true rfl) hR.1, Nat.le_trans (Nat.le_of_ble_eq_true rfl) hR.2⟩ rfl hsz ⟨Nat.zero_le _, Nat.zero_le _⟩ (Nat.le_of_ble_eq_true rfl) dX12_delivered_12 rfl (fun H locs S => ?_)
  refine lv_if_eq (tgt := 20) hx hb dX12_delivered_15 (by decide) (fun c7 => ?_) (fun c7 => ?_)
  · have h := cnd_t c7 h
    refine lv_iload_n hx hb dX12_delivered_20 rfl (lv_at hl 2 rfl) ?_
    refine lv_iconst (v := 0) hx hb dX12_delivered_21 (by decide) ?_
    refine lv_aload_n hx hb dX12_delivered_22 rfl (lv_at hl 0 rfl) ?_
    refine lv_iload_n hx hb dX12_delivered_23 rfl (lv_at hl 1 rfl) ?_
    refine lv_iconst (v := 4) hx hb dX12_delivered_24 (by decide) ?_
    obtain ⟨r9, h8, h⟩ := obr_some h
    refine q_callVi (As := [.int x1, .int 4]) (na := 2) C S (oM0 cI cB ad) rfl (ct_X12_of l D cI cB cL ad x1 4 u6 h8) mw_35 mw_34 mw_36 mw_5 mw_33 hdX12_of ⟨Nat.le_trans (Nat.le_of_ble_eq_true rfl) hR.1, Nat.le_trans (Nat.le_of_ble_eq_true rfl) hR.2⟩ rfl hsz ⟨Nat.zero_le _, Nat.zero_le _⟩ (Nat.le_of_ble_eq_true rfl) dX12_delivered_25 rfl (fun H locs S => ?_)
    refine lv_iconst (v := 1) hx hb dX12_delivered_28 (by decide) ?_
    refine lv_isub hx hb dX12_delivered_29 ?_
    refine q_callP (As := [.int x2, .int 0, .int (r9 - 1)]) (na := 3) C S (ct_X12_in l D cI cB cL x2 0 (r9 - 1)) mw_28 mw_27 mw_5 mw_26 hdX12_in ⟨Nat.le_trans (Nat.le_of_ble_eq_true rfl) hR.1, Nat.le_trans (Nat.le_of_ble_eq_true rfl) hR.2⟩ rfl hsz ⟨Nat.zero_le _, Nat.zero_le _⟩ (Nat.le_of_ble_eq_true rfl) dX12_delivered_30 rfl (fun H locs S => ?_)
    refine lv_if_eq (tgt := 47) hx hb dX12_delivered_33 (by decide) (fun c10 => ?_) (fun c10 => ?_)
    · have h := cnd_t c10 h
      refine lv_iconst (v := (-1)) hx hb dX12_delivered_47 (by decide) ?_
      exact q_iret C S (rt_S h) dX12_delivered_48
    · have h := cnd_f c10 h
      refine lv_aload_n hx hb dX12_delivered_36 rfl (lv_at hl 0 rfl) ?_
      refine lv_iload_n hx hb dX12_delivered_37 rfl (lv_at hl 1 rfl) ?_
      refine lv_iconst (v := 5) hx hb dX12_delivered_38 (by decide) ?_
      refine lv_iload_n hx hb dX12_delivered_39 rfl (lv_at hl 2 rfl) ?_
      refine lv_iadd hx hb dX12_delivered_40 ?_
      obtain ⟨r12, h11, h⟩ := obr_some h
      refine q_callVi (As := [.int x1, .int (5 + x2)]) (na := 2) C S (oM0 cI cB ad) rfl (ct_X12_of l D cI cB cL ad x1 (5 + x2) u6 h11) mw_35 mw_34 mw_36 mw_5 mw_33 hdX12_of ⟨Nat.le_trans (Nat.le_of_ble_eq_true rfl) hR.1, Nat.le_trans (Nat.le_of_ble_eq_true rfl) hR.2⟩ rfl hsz ⟨Nat.zero_le _, Nat.zero_le _⟩ (Nat.le_of_ble_eq_true rfl) dX12_delivered_41 rfl (fun H locs S => ?_)
      refine lv_goto (tgt := 48) hx hb dX12_delivered_44 (by decide) ?_
      exact q_iret C S (rt_S h) dX12_delivered_48
  · have h := cnd_f c7 h
    refine lv_iconst (v := 0) hx hb dX12_delivered_18 (by decide) ?_
    exact q_iret C S (rt_S h) dX12_delivered_19
set_option maxRecDepth 10000 in
set_option maxHeartbeats 4000000 in
theorem ct_X12_delivered (l : Launch) (D : va_G) (cI cB cL : ClassId) (ad : Nat → Nat) (x1 : Int32) (x2 : Int32) (u : Sg) {r : Int32} {σ' : Sg} (h : fX12_delivered x1 x2 u = some (r, σ')) : metI l D (tyl cI cB cL) yX12_delivered cX12_delivered 3 (some .int) 2 43 (wM cI cB ad) [.ref (ad 0), .int x1, .int x2] u r σ' := by
  intro sz
  refine Met.ofW (cc := cX12_delivered) (maxL := 3) (ret := (some .int)) (by decide) rfl ?_
  intro p e s m args below meth c s₁ B hml hv
  obtain ⟨rfl, C, S⟩ := q_entry B hml hv
  have hl := lv_entry ([.ref (ad 0), .int x1, .int x2]) (n := 3) (Nat.le_of_ble_eq_true rfl)
  rw [lg_entry_eq]
  generalize (lg_sl ([.ref (ad 0), .int x1, .int x2]) ++ List.replicate (3 - (lg_sl ([.ref (ad 0), .int x1, .int x2])).length) Slot.unset).toArray = ls at hl ⊢
  exact wX12_delivered_0 C ⟨Nat.le_refl _, Nat.le_refl _⟩ u x1 x2 (lv_sub hl [0, 1, 2] rfl) S h
noncomputable def fX12_noTwo_27 (t0 : Int32) (u : Sg) : Option (Int32 × Sg) := obd (fX12_throwsIf t0 1 u) (fun r6 u7 => grd (isB r6) (some (r6, u7)))
noncomputable def fX12_noTwo_22 (u : Sg) : Option (Int32 × Sg) := fX12_noTwo_27 1 u
noncomputable def fX12_noTwo_0 (x1 : Int32) (x2 : Int32) (u : Sg) : Option (Int32 × Sg) := bnd (s2 u 0 0 0) (fun u1 => obr (fX12_noNode x1 u1) (fun r3 => cnd (r3 = 0) (obr (fX12_noNode x2 u1) (fun r10 => cnd (r10 = 0) (fX12_noTwo_27 0 u1) (fX12_noTwo_22 u1))) (fX12_noTwo_22 u1)))
noncomputable def fX12_noTwo (x1 : Int32) (x2 : Int32) (u : Sg) : Option (Int32 × Sg) := fX12_noTwo_0 x1 x2 u
set_option maxRecDepth 10000 in
set_option maxHeartbeats 4000000 in
theorem wX12_noTwo_27 (C : cx D (tyl cI cB cL) A RX12 cX12_noTwo 3 (some .boolean) p s m args c meth) (hR : 2 ≤ R.frames ∧ 43 ≤ R.locals) {r : Int32} {σ' : Sg} (u : Sg) (t0 : Int32) {H : Heap} {locs : List Loc} {ls : Array Slot} (hl : lv_has ls 3 []) (S : st D (wM cI cB ad) A s u H locs) (h : fX12_noTwo_27 t0 u = some (r, σ')) : W p l e R s m args below meth c H locs 0 0 (MQ below (qI D (tyl cI cB cL) (wM cI cB ad) A r σ') args s 0 0 A) (F0 m 27 ls [.int t0, .ref (ad 0)]) := by
  have hx := C.1
  have hb := C.2.1
  have hsz := hl.1
  unfold fX12_noTwo_27 at h
  refine lv_iconst (v := 1) hx hb dX12_noTwo_27 (by decide) ?_
  obtain ⟨r6, u7, h5, h⟩ := obd_some h
  refine q_callVi (As := [.int t0, .int 1]) (na := 2) C S (oM0 cI cB ad) rfl (ct_X12_throwsIf l D cI cB cL ad t0 1 u h5) mw_210 mw_209 mw_211 mw_5 mw_208 hdX12_throwsIf ⟨Nat.le_trans (Nat.le_of_ble_eq_true rfl) hR.1, Nat.le_trans (Nat.le_of_ble_eq_true rfl) hR.2⟩ rfl hsz ⟨Nat.zero_le _, Nat.zero_le _⟩ (Nat.le_of_ble_eq_true rfl) dX12_noTwo_28 rfl (fun H locs S => ?_)
  obtain ⟨g8, h⟩ := grd_some h
  exact q_zret C S (isB_n g8) (rt_S h) dX12_noTwo_31
set_option maxRecDepth 10000 in
set_option maxHeartbeats 4000000 in
theorem wX12_noTwo_22 (C : cx D (tyl cI cB cL) A RX12 cX12_noTwo 3 (some .boolean) p s m args c meth) (hR : 2 ≤ R.frames ∧ 43 ≤ R.locals) {r : Int32} {σ' : Sg} (u : Sg) {H : Heap} {locs : List Loc} {ls : Array Slot} (hl : lv_has ls 3 []) (S : st D (wM cI cB ad) A s u H locs) (h : fX12_noTwo_22 u = some (r, σ')) : W p l e R s m args below meth c H locs 0 0 (MQ below (qI D (tyl cI cB cL) (wM cI cB ad) A r σ') args s 0 0 A) (F0 m 22 ls [.ref (ad 0)]) := by
  have hx := C.1
  have hb := C.2.1
  have hsz := hl.1
  unfold fX12_noTwo_22 at h
  refine lv_iconst (v := 1) hx hb dX12_noTwo_22 (by decide) ?_
  refine lv_goto (tgt := 27) hx hb dX12_noTwo_23 (by decide) ?_
  exact wX12_noTwo_27 C hR u 1 (lv_sub hl [] rfl) S h
set_option maxRecDepth 10000 in
set_option maxHeartbeats 4000000 in
theorem wX12_noTwo_0 (C : cx D (tyl cI cB cL) A RX12 cX12_noTwo 3 (some .boolean) p s m args c meth) (hR : 2 ≤ R.frames ∧ 43 ≤ R.locals) {r : Int32} {σ' : Sg} (u : Sg) (x1 : Int32) (x2 : Int32) {H : Heap} {locs : List Loc} {ls : Array Slot} (hl : lv_has ls 3 [(0, .ref (ad 0)), (1, .int x1), (2, .int x2)]) (S : st D (wM cI cB ad) A s u H locs) (h : fX12_noTwo_0 x1 x2 u = some (r, σ')) : W p l e R s m args below meth c H locs 0 0 (MQ below (qI D (tyl cI cB cL) (wM cI cB ad) A r σ') args s 0 0 A) (F0 m 0 ls []) := by
  have hx := C.1
  have hb := C.2.1
  have hsz := hl.1
  unfold fX12_noTwo_0 at h
  refine lv_aload_n hx hb dX12_noTwo_0 rfl (lv_at hl 0 rfl) ?_
  refine lv_iconst (v := 0) hx hb dX12_noTwo_1 (by decide) ?_
  obtain ⟨u1, eu1⟩ : ∃ z : Sg, z = s2 u 0 0 0 := ⟨_, rfl⟩
  have h := bnd_of eu1 h
  refine q_put C S (oM0 cI cB ad) rfl iwX12 tyX12 tyX12_ok nmX12 0 (by decide) mw_11 rfl (iM0_0 cI cB ad) rfl rfl dX12_noTwo_2 eu1 (fun H locs S => ?_)
  refine lv_aload_n hx hb dX12_noTwo_5 rfl (lv_at hl 0 rfl) ?_
  refine lv_aload_n hx hb dX12_noTwo_6 rfl (lv_at hl 0 rfl) ?_
  refine lv_iload_n hx hb dX12_noTwo_7 rfl (lv_at hl 1 rfl) ?_
  obtain ⟨r3, h2, h⟩ := obr_some h
  refine q_callVi (As := [.int x1]) (na := 1) C S (oM0 cI cB ad) rfl (ct_X12_noNode l D cI cB cL ad x1 u1 h2) mw_226 mw_225 mw_227 mw_5 mw_224 hdX12_noNode ⟨Nat.le_trans (Nat.le_of_ble_eq_true rfl) hR.1, Nat.le_trans (Nat.le_of_ble_eq_true rfl) hR.2⟩ rfl hsz ⟨Nat.zero_le _, Nat.zero_le _⟩ (Nat.le_of_ble_eq_true rfl) dX12_noTwo_8 rfl (fun H locs S => ?_)
  refine lv_if_ne (tgt := 22) hx hb dX12_noTwo_11 (by decide) (fun c4 => ?_) (fun c4 => ?_)
  · have h := cnd_f c4 h
    exact wX12_noTwo_22 C hR u1 (lv_sub hl [] rfl) S h
  · have h := cnd_t c4 h
    refine lv_aload_n hx hb dX12_noTwo_14 rfl (lv_at hl 0 rfl) ?_
    refine lv_iload_n hx hb dX12_noTwo_15 rfl (lv_at hl 2 rfl) ?_
    obtain ⟨r10, h9, h⟩ := obr_some h
    refine q_callVi (As := [.int x2]) (na := 1) C S (oM0 cI cB ad) rfl (ct_X12_noNode l D cI cB cL ad x2 u1 h9) mw_226 mw_225 mw_227 mw_5 mw_224 hdX12_noNode ⟨Nat.le_trans (Nat.le_of_ble_eq_true rfl) hR.1, Nat.le_trans (Nat.le_of_ble_eq_true rfl) hR.2⟩ rfl hsz ⟨Nat.zero_le _, Nat.zero_le _⟩ (Nat.le_of_ble_eq_true rfl) dX12_noTwo_16 rfl (fun H locs S => ?_)
    refine lv_if_eq (tgt := 26) hx hb dX12_noTwo_19 (by decide) (fun c11 => ?_) (fun c11 => ?_)
    · have h := cnd_t c11 h
      refine lv_iconst (v := 0) hx hb dX12_noTwo_26 (by decide) ?_
      exact wX12_noTwo_27 C hR u1 0 (lv_sub hl [] rfl) S h
    · have h := cnd_f c11 h
      exact wX12_noTwo_22 C hR u1 (lv_sub hl [] rfl) S h
set_option maxRecDepth 10000 in
set_option maxHeartbeats 4000000 in
theorem ct_X12_noTwo (l : Launch) (D : va_G) (cI cB cL : ClassId) (ad : Nat → Nat) (x1 : Int32) (x2 : Int32) (u : Sg) {r : Int32} {σ' : Sg} (h : fX12_noTwo x1 x2 u = some (r, σ')) : metI l D (tyl cI cB cL) yX12_noTwo cX12_noTwo 3 (some .boolean) 2 43 (wM cI cB ad) [.ref (ad 0), .int x1, .int x2] u r σ' := by
  intro sz
  refine Met.ofW (cc := cX12_noTwo) (maxL := 3) (ret := (some .boolean)) (by decide) rfl ?_
  intro p e s m args below meth c s₁ B hml hv
  obtain ⟨rfl, C, S⟩ := q_entry B hml hv
  have hl := lv_entry ([.ref (ad 0), .int x1, .int x2]) (n := 3) (Nat.le_of_ble_eq_true rfl)
  rw [lg_entry_eq]
  generalize (lg_sl ([.ref (ad 0), .int x1, .int x2]) ++ List.replicate (3 - (lg_sl ([.ref (ad 0), .int x1, .int x2])).length) Slot.unset).toArray = ls at hl ⊢
  exact wX12_noTwo_0 C ⟨Nat.le_refl _, Nat.le_refl _⟩ u x1 x2 (lv_sub hl [0, 1, 2] rfl) S h
noncomputable def fX12_channel_24 (x1 : Int32) (x2 : Int32) (x3 : Int32) (t0 : Int32) (u : Sg) : Option (Int32 × Sg) := obd (fX12_throwsIf t0 2 u) (fun r7 u8 => cnd (r7 = 0) (cnd (x3 = 0) (obr (fX12_ofChannel x1 x2 0 u8) (fun r12 => some (r12, u8))) (cnd (x3 = 1) (obr (fX12_ofChannel x1 x2 1 u8) (fun r15 => some (r15, u8))) (cnd (x3 = 2) (obr (fX12_ofChannel x1 x2 2 u8) (fun r18 => some (r18, u8))) (obr (fX12_ofChannel x1 x2 3 u8) (fun r20 => some (r20, u8)))))) (some (0, u8)))
noncomputable def fX12_channel_0 (x1 : Int32) (x2 : Int32) (x3 : Int32) (u : Sg) : Option (Int32 × Sg) := obd (fX12_noTwo x1 x2 u) (fun r2 u3 => cnd (r2 = 0) (cnd ((fX12_in x3 0 3) = 0) (fX12_channel_24 x1 x2 x3 1 u3) (fX12_channel_24 x1 x2 x3 0 u3)) (some (0, u3)))
noncomputable def fX12_channel (x1 : Int32) (x2 : Int32) (x3 : Int32) (u : Sg) : Option (Int32 × Sg) := fX12_channel_0 x1 x2 x3 u
set_option maxRecDepth 10000 in
set_option maxHeartbeats 4000000 in
theorem wX12_channel_24 (C : cx D (tyl cI cB cL) A RX12 cX12_channel 4 (some .int) p s m args c meth) (hR : 3 ≤ R.frames ∧ 65 ≤ R.locals) {r : Int32} {σ' : Sg} (u : Sg) (x1 : Int32) (x2 : Int32) (x3 : Int32) (t0 : Int32) {H : Heap} {locs : List Loc} {ls : Array Slot} (hl : lv_has ls 4 [(0, .ref (ad 0)), (1, .int x1), (2, .int x2), (3, .int x3)]) (S : st D (wM cI cB ad) A s u H locs) (h : fX12_channel_24 x1 x2 x3 t0 u = some (r, σ')) : W p l e R s m args below meth c H locs 0 0 (MQ below (qI D (tyl cI cB cL) (wM cI cB ad) A r σ') args s 0 0 A) (F0 m 24 ls [.int t0, .ref (ad 0)]) := by
  have hx := C.1
  have hb := C.2.1
  have hsz := hl.1
  unfold fX12_channel_24 at h
  refine lv_iconst (v := 2) hx hb dX12_channel_24 (by decide) ?_
  obtain ⟨r7, u8, h6, h⟩ := obd_some h
  refine q_callVi (As := [.int t0, .int 2]) (na := 2) C S (oM0 cI cB ad) rfl (ct_X12_throwsIf l D cI cB cL ad t0 2 u h6) mw_210 mw_209 mw_211 mw_5 mw_208 hdX12_throwsIf ⟨Nat.le_trans (Nat.le_of_ble_eq_true rfl) hR.1, Nat.le_trans (Nat.le_of_ble_eq_true rfl) hR.2⟩ rfl hsz ⟨Nat.zero_le _, Nat.zero_le _⟩ (Nat.le_of_ble_eq_true rfl) dX12_channel_25 rfl (fun H locs S => ?_)
  refine lv_if_eq (tgt := 33) hx hb dX12_channel_28 (by decide) (fun c9 => ?_) (fun c9 => ?_)
  · have h := cnd_t c9 h
    refine lv_iload_n hx hb dX12_channel_33 rfl (lv_at hl 3 rfl) ?_
    by_cases c10 : x3 = 0
    · have h := cnd_t c10 h
      refine lv_tableIn (off := 26) (tgt := 60) hx hb dX12_channel_34 (by rw [c10]; decide) (by rw [c10]; decide) (by rw [c10]; rfl) (by decide) ?_
      refine lv_aload_n hx hb dX12_channel_60 rfl (lv_at hl 0 rfl) ?_
      refine lv_iload_n hx hb dX12_channel_61 rfl (lv_at hl 1 rfl) ?_
      refine lv_iload_n hx hb dX12_channel_62 rfl (lv_at hl 2 rfl) ?_
      refine lv_iconst (v := 0) hx hb dX12_channel_63 (by decide) ?_
      obtain ⟨r12, h11, h⟩ := obr_some h
      refine q_callVi (As := [.int x1, .int x2, .int 0]) (na := 3) C S (oM0 cI cB ad) rfl (ct_X12_ofChannel l D cI cB cL ad x1 x2 0 u8 h11) mw_84 mw_83 mw_85 mw_5 mw_82 hdX12_ofChannel ⟨Nat.le_trans (Nat.le_of_ble_eq_true rfl) hR.1, Nat.le_trans (Nat.le_of_ble_eq_true rfl) hR.2⟩ rfl hsz ⟨Nat.zero_le _, Nat.zero_le _⟩ (Nat.le_of_ble_eq_true rfl) dX12_channel_64 rfl (fun H locs S => ?_)
      exact q_iret C S (rt_S h) dX12_channel_67
    · have h := cnd_f c10 h
      by_cases c13 : x3 = 1
      · have h := cnd_t c13 h
        refine lv_tableIn (off := 34) (tgt := 68) hx hb dX12_channel_34 (by rw [c13]; decide) (by rw [c13]; decide) (by rw [c13]; rfl) (by decide) ?_
        refine lv_aload_n hx hb dX12_channel_68 rfl (lv_at hl 0 rfl) ?_
        refine lv_iload_n hx hb dX12_channel_69 rfl (lv_at hl 1 rfl) ?_
        refine lv_iload_n hx hb dX12_channel_70 rfl (lv_at hl 2 rfl) ?_
        refine lv_iconst (v := 1) hx hb dX12_channel_71 (by decide) ?_
        obtain ⟨r15, h14, h⟩ := obr_some h
        refine q_callVi (As := [.int x1, .int x2, .int 1]) (na := 3) C S (oM0 cI cB ad) rfl (ct_X12_ofChannel l D cI cB cL ad x1 x2 1 u8 h14) mw_84 mw_83 mw_85 mw_5 mw_82 hdX12_ofChannel ⟨Nat.le_trans (Nat.le_of_ble_eq_true rfl) hR.1, Nat.le_trans (Nat.le_of_ble_eq_true rfl) hR.2⟩ rfl hsz ⟨Nat.zero_le _, Nat.zero_le _⟩ (Nat.le_of_ble_eq_true rfl) dX12_channel_72 rfl (fun H locs S => ?_)
        exact q_iret C S (rt_S h) dX12_channel_75
      · have h := cnd_f c13 h
        by_cases c16 : x3 = 2
        · have h := cnd_t c16 h
          refine lv_tableIn (off := 42) (tgt := 76) hx hb dX12_channel_34 (by rw [c16]; decide) (by rw [c16]; decide) (by rw [c16]; rfl) (by decide) ?_
          refine lv_aload_n hx hb dX12_channel_76 rfl (lv_at hl 0 rfl) ?_
          refine lv_iload_n hx hb dX12_channel_77 rfl (lv_at hl 1 rfl) ?_
          refine lv_iload_n hx hb dX12_channel_78 rfl (lv_at hl 2 rfl) ?_
          refine lv_iconst (v := 2) hx hb dX12_channel_79 (by decide) ?_
          obtain ⟨r18, h17, h⟩ := obr_some h
          refine q_callVi (As := [.int x1, .int x2, .int 2]) (na := 3) C S (oM0 cI cB ad) rfl (ct_X12_ofChannel l D cI cB cL ad x1 x2 2 u8 h17) mw_84 mw_83 mw_85 mw_5 mw_82 hdX12_ofChannel ⟨Nat.le_trans (Nat.le_of_ble_eq_true rfl) hR.1, Nat.le_trans (Nat.le_of_ble_eq_true rfl) hR.2⟩ rfl hsz ⟨Nat.zero_le _, Nat.zero_le _⟩ (Nat.le_of_ble_eq_true rfl) dX12_channel_80 rfl (fun H locs S => ?_)
          exact q_iret C S (rt_S h) dX12_channel_83
        · have h := cnd_f c16 h
          refine lv_tableOut (tgt := 84) hx hb dX12_channel_34 (sw_out (0) 3 (fun k hk => by
            rcases (show k = 0 ∨ k = 1 ∨ k = 2 by omega) with rfl | rfl | rfl
            · exact sw_ne 0 _ (by decide) c10
            · exact sw_ne 1 _ (by decide) c13
            · exact sw_ne 2 _ (by decide) c16)) (by decide) ?_
          refine lv_aload_n hx hb dX12_channel_84 rfl (lv_at hl 0 rfl) ?_
          refine lv_iload_n hx hb dX12_channel_85 rfl (lv_at hl 1 rfl) ?_
          refine lv_iload_n hx hb dX12_channel_86 rfl (lv_at hl 2 rfl) ?_
          refine lv_iconst (v := 3) hx hb dX12_channel_87 (by decide) ?_
          obtain ⟨r20, h19, h⟩ := obr_some h
          refine q_callVi (As := [.int x1, .int x2, .int 3]) (na := 3) C S (oM0 cI cB ad) rfl (ct_X12_ofChannel l D cI cB cL ad x1 x2 3 u8 h19) mw_84 mw_83 mw_85 mw_5 mw_82 hdX12_ofChannel ⟨Nat.le_trans (Nat.le_of_ble_eq_true rfl) hR.1, Nat.le_trans (Nat.le_of_ble_eq_true rfl) hR.2⟩ rfl hsz ⟨Nat.zero_le _, Nat.zero_le _⟩ (Nat.le_of_ble_eq_true rfl) dX12_channel_88 rfl (fun H locs S => ?_)
          exact q_iret C S (rt_S h) dX12_channel_91
  · have h := cnd_f c9 h
    refine lv_iconst (v := 0) hx hb dX12_channel_31 (by decide) ?_
    exact q_iret C S (rt_S h) dX12_channel_32
set_option maxRecDepth 10000 in
set_option maxHeartbeats 4000000 in
theorem wX12_channel_0 (C : cx D (tyl cI cB cL) A RX12 cX12_channel 4 (some .int) p s m args c meth) (hR : 3 ≤ R.frames ∧ 65 ≤ R.locals) {r : Int32} {σ' : Sg} (u : Sg) (x1 : Int32) (x2 : Int32) (x3 : Int32) {H : Heap} {locs : List Loc} {ls : Array Slot} (hl : lv_has ls 4 [(0, .ref (ad 0)), (1, .int x1), (2, .int x2), (3, .int x3)]) (S : st D (wM cI cB ad) A s u H locs) (h : fX12_channel_0 x1 x2 x3 u = some (r, σ')) : W p l e R s m args below meth c H locs 0 0 (MQ below (qI D (tyl cI cB cL) (wM cI cB ad) A r σ') args s 0 0 A) (F0 m 0 ls []) := by
  have hx := C.1
  have hb := C.2.1
  have hsz := hl.1
  unfold fX12_channel_0 at h
  refine lv_aload_n hx hb dX12_channel_0 rfl (lv_at hl 0 rfl) ?_
  refine lv_iload_n hx hb dX12_channel_1 rfl (lv_at hl 1 rfl) ?_
  refine lv_iload_n hx hb dX12_channel_2 rfl (lv_at hl 2 rfl) ?_
  obtain ⟨r2, u3, h1, h⟩ := obd_some h
  refine q_callVi (As := [.int x1, .int x2]) (na := 2) C S (oM0 cI cB ad) rfl (ct_X12_noTwo l D cI cB cL ad x1 x2 u h1) mw_254 mw_253 mw_255 mw_5 mw_252 hdX12_noTwo ⟨Nat.le_trans (Nat.le_of_ble_eq_true rfl) hR.1, Nat.le_trans (Nat.le_of_ble_eq_true rfl) hR.2⟩ rfl hsz ⟨Nat.zero_le _, Nat.zero_le _⟩ (Nat.le_of_ble_eq_true rfl) dX12_channel_3 rfl (fun H locs S => ?_)
  refine lv_if_ne (tgt := 31) hx hb dX12_channel_6 (by decide) (fun c4 => ?_) (fun c4 => ?_)
  · have h := cnd_f c4 h
    refine lv_iconst (v := 0) hx hb dX12_channel_31 (by decide) ?_
    exact q_iret C S (rt_S h) dX12_channel_32
  · have h := cnd_t c4 h
    refine lv_aload_n hx hb dX12_channel_9 rfl (lv_at hl 0 rfl) ?_
    refine lv_iload_n hx hb dX12_channel_10 rfl (lv_at hl 3 rfl) ?_
    refine lv_iconst (v := 0) hx hb dX12_channel_11 (by decide) ?_
    refine lv_iconst (v := 3) hx hb dX12_channel_12 (by decide) ?_
    refine q_callP (As := [.int x3, .int 0, .int 3]) (na := 3) C S (ct_X12_in l D cI cB cL x3 0 3) mw_28 mw_27 mw_5 mw_26 hdX12_in ⟨Nat.le_trans (Nat.le_of_ble_eq_true rfl) hR.1, Nat.le_trans (Nat.le_of_ble_eq_true rfl) hR.2⟩ rfl hsz ⟨Nat.zero_le _, Nat.zero_le _⟩ (Nat.le_of_ble_eq_true rfl) dX12_channel_13 rfl (fun H locs S => ?_)
    refine lv_if_ne (tgt := 23) hx hb dX12_channel_16 (by decide) (fun c5 => ?_) (fun c5 => ?_)
    · have h := cnd_f c5 h
      refine lv_iconst (v := 0) hx hb dX12_channel_23 (by decide) ?_
      exact wX12_channel_24 C hR u3 x1 x2 x3 0 (lv_sub hl [0, 1, 2, 3] rfl) S h
    · have h := cnd_t c5 h
      refine lv_iconst (v := 1) hx hb dX12_channel_19 (by decide) ?_
      refine lv_goto (tgt := 24) hx hb dX12_channel_20 (by decide) ?_
      exact wX12_channel_24 C hR u3 x1 x2 x3 1 (lv_sub hl [0, 1, 2, 3] rfl) S h
set_option maxRecDepth 10000 in
set_option maxHeartbeats 4000000 in
theorem ct_X12_channel (l : Launch) (D : va_G) (cI cB cL : ClassId) (ad : Nat → Nat) (x1 : Int32) (x2 : Int32) (x3 : Int32) (u : Sg) {r : Int32} {σ' : Sg} (h : fX12_channel x1 x2 x3 u = some (r, σ')) : metI l D (tyl cI cB cL) yX12_channel cX12_channel 4 (some .int) 3 65 (wM cI cB ad) [.ref (ad 0), .int x1, .int x2, .int x3] u r σ' := by
  intro sz
  refine Met.ofW (cc := cX12_channel) (maxL := 4) (ret := (some .int)) (by decide) rfl ?_
  intro p e s m args below meth c s₁ B hml hv
  obtain ⟨rfl, C, S⟩ := q_entry B hml hv
  have hl := lv_entry ([.ref (ad 0), .int x1, .int x2, .int x3]) (n := 4) (Nat.le_of_ble_eq_true rfl)
  rw [lg_entry_eq]
  generalize (lg_sl ([.ref (ad 0), .int x1, .int x2, .int x3]) ++ List.replicate (4 - (lg_sl ([.ref (ad 0), .int x1, .int x2, .int x3])).length) Slot.unset).toArray = ls at hl ⊢
  exact wX12_channel_0 C ⟨Nat.le_refl _, Nat.le_refl _⟩ u x1 x2 x3 (lv_sub hl [0, 1, 2, 3] rfl) S h
noncomputable def fX12_packet_55 (x1 : Int32) (x2 : Int32) (x3 : Int32) (x4 : Int32) (t0 : Int32) (u : Sg) : Option (Int32 × Sg) := obd (fX12_throwsIf t0 2 u) (fun r14 u15 => cnd (r14 = 0) (cnd (x4 = 0) (grd (vp_in (fX12_packetAt x1 x2 x3 0) 32243) (some ((u15 1 (((fX12_packetAt x1 x2 x3 0) : Int32).toNatClampNeg)), u15))) (cnd (x4 = 1) (grd (vp_in (fX12_packetAt x1 x2 x3 1) 32243) (some ((u15 1 (((fX12_packetAt x1 x2 x3 1) : Int32).toNatClampNeg)), u15))) (cnd (x4 = 2) (grd (vp_in (fX12_packetAt x1 x2 x3 2) 32243) (some ((u15 1 (((fX12_packetAt x1 x2 x3 2) : Int32).toNatClampNeg)), u15))) (cnd (x4 = 3) (grd (vp_in (fX12_packetAt x1 x2 x3 3) 32243) (some ((u15 1 (((fX12_packetAt x1 x2 x3 3) : Int32).toNatClampNeg)), u15))) (grd (vp_in (fX12_packetAt x1 x2 x3 4) 32243) (some ((u15 1 (((fX12_packetAt x1 x2 x3 4) : Int32).toNatClampNeg)), u15))))))) (some (0, u15)))
noncomputable def fX12_packet_32 (x1 : Int32) (x2 : Int32) (x3 : Int32) (x4 : Int32) (t0 : Int32) (u : Sg) : Option (Int32 × Sg) := obd (fX12_throwsIf t0 1 u) (fun r9 u10 => cnd (r9 = 0) (cnd ((fX12_in x4 0 4) = 0) (fX12_packet_55 x1 x2 x3 x4 1 u10) (fX12_packet_55 x1 x2 x3 x4 0 u10)) (some (0, u10)))
noncomputable def fX12_packet_0 (x1 : Int32) (x2 : Int32) (x3 : Int32) (x4 : Int32) (u : Sg) : Option (Int32 × Sg) := obd (fX12_noTwo x1 x2 u) (fun r2 u3 => cnd (r2 = 0) (obr (fX12_ofChannel x1 x2 2 u3) (fun r6 => cnd ((fX12_in x3 0 (r6 - 1)) = 0) (fX12_packet_32 x1 x2 x3 x4 1 u3) (fX12_packet_32 x1 x2 x3 x4 0 u3))) (some (0, u3)))
noncomputable def fX12_packet (x1 : Int32) (x2 : Int32) (x3 : Int32) (x4 : Int32) (u : Sg) : Option (Int32 × Sg) := fX12_packet_0 x1 x2 x3 x4 u
set_option maxRecDepth 10000 in
set_option maxHeartbeats 4000000 in
theorem wX12_packet_55 (C : cx D (tyl cI cB cL) A RX12 cX12_packet 5 (some .int) p s m args c meth) (hR : 3 ≤ R.frames ∧ 65 ≤ R.locals) {r : Int32} {σ' : Sg} (u : Sg) (x1 : Int32) (x2 : Int32) (x3 : Int32) (x4 : Int32) (t0 : Int32) {H : Heap} {locs : List Loc} {ls : Array Slot} (hl : lv_has ls 5 [(0, .ref (ad 0)), (1, .int x1), (2, .int x2), (3, .int x3), (4, .int x4)]) (S : st D (wM cI cB ad) A s u H locs) (h : fX12_packet_55 x1 x2 x3 x4 t0 u = some (r, σ')) : W p l e R s m args below meth c H locs 0 0 (MQ below (qI D (tyl cI cB cL) (wM cI cB ad) A r σ') args s 0 0 A) (F0 m 55 ls [.int t0, .ref (ad 0)]) := by
  have hx := C.1
  have hb := C.2.1
  have hsz := hl.1
  unfold fX12_packet_55 at h
  refine lv_iconst (v := 2) hx hb dX12_packet_55 (by decide) ?_
  obtain ⟨r14, u15, h13, h⟩ := obd_some h
  refine q_callVi (As := [.int t0, .int 2]) (na := 2) C S (oM0 cI cB ad) rfl (ct_X12_throwsIf l D cI cB cL ad t0 2 u h13) mw_210 mw_209 mw_211 mw_5 mw_208 hdX12_throwsIf ⟨Nat.le_trans (Nat.le_of_ble_eq_true rfl) hR.1, Nat.le_trans (Nat.le_of_ble_eq_true rfl) hR.2⟩ rfl hsz ⟨Nat.zero_le _, Nat.zero_le _⟩ (Nat.le_of_ble_eq_true rfl) dX12_packet_56 rfl (fun H locs S => ?_)
  refine lv_if_eq (tgt := 64) hx hb dX12_packet_59 (by decide) (fun c16 => ?_) (fun c16 => ?_)
  · have h := cnd_t c16 h
    refine lv_iload hx hb dX12_packet_64 (lv_at hl 4 rfl) ?_
    by_cases c17 : x4 = 0
    · have h := cnd_t c17 h
      refine lv_tableIn (off := 30) (tgt := 96) hx hb dX12_packet_66 (by rw [c17]; decide) (by rw [c17]; decide) (by rw [c17]; rfl) (by decide) ?_
      refine lv_aload_n hx hb dX12_packet_96 rfl (lv_at hl 0 rfl) ?_
      refine q_get (v := .ref (ad 1)) C S (oM0 cI cB ad) rfl iwX12 1 (by decide) mw_14 rfl dX12_packet_97 ?_
      refine lv_iload_n hx hb dX12_packet_100 rfl (lv_at hl 1 rfl) ?_
      refine lv_iload_n hx hb dX12_packet_101 rfl (lv_at hl 2 rfl) ?_
      refine lv_iload_n hx hb dX12_packet_102 rfl (lv_at hl 3 rfl) ?_
      refine lv_iconst (v := 0) hx hb dX12_packet_103 (by decide) ?_
      refine q_callP (As := [.int x1, .int x2, .int x3, .int 0]) (na := 4) C S (ct_X12_packetAt l D cI cB cL x1 x2 x3 0) mw_96 mw_95 mw_5 mw_94 hdX12_packetAt ⟨Nat.le_trans (Nat.le_of_ble_eq_true rfl) hR.1, Nat.le_trans (Nat.le_of_ble_eq_true rfl) hR.2⟩ rfl hsz ⟨Nat.zero_le _, Nat.zero_le _⟩ (Nat.le_of_ble_eq_true rfl) dX12_packet_104 rfl (fun H locs S => ?_)
      obtain ⟨g18, h⟩ := grd_some h
      refine q_iald C S (aM1 cI cB ad) 0 rfl g18 dX12_packet_107 (j := ((fX12_packetAt x1 x2 x3 0) : Int32).toNatClampNeg) rfl ?_
      exact q_iret C S (rt_S h) dX12_packet_108
    · have h := cnd_f c17 h
      by_cases c19 : x4 = 1
      · have h := cnd_t c19 h
        refine lv_tableIn (off := 43) (tgt := 109) hx hb dX12_packet_66 (by rw [c19]; decide) (by rw [c19]; decide) (by rw [c19]; rfl) (by decide) ?_
        refine lv_aload_n hx hb dX12_packet_109 rfl (lv_at hl 0 rfl) ?_
        refine q_get (v := .ref (ad 1)) C S (oM0 cI cB ad) rfl iwX12 1 (by decide) mw_14 rfl dX12_packet_110 ?_
        refine lv_iload_n hx hb dX12_packet_113 rfl (lv_at hl 1 rfl) ?_
        refine lv_iload_n hx hb dX12_packet_114 rfl (lv_at hl 2 rfl) ?_
        refine lv_iload_n hx hb dX12_packet_115 rfl (lv_at hl 3 rfl) ?_
        refine lv_iconst (v := 1) hx hb dX12_packet_116 (by decide) ?_
        refine q_callP (As := [.int x1, .int x2, .int x3, .int 1]) (na := 4) C S (ct_X12_packetAt l D cI cB cL x1 x2 x3 1) mw_96 mw_95 mw_5 mw_94 hdX12_packetAt ⟨Nat.le_trans (Nat.le_of_ble_eq_true rfl) hR.1, Nat.le_trans (Nat.le_of_ble_eq_true rfl) hR.2⟩ rfl hsz ⟨Nat.zero_le _, Nat.zero_le _⟩ (Nat.le_of_ble_eq_true rfl) dX12_packet_117 rfl (fun H locs S => ?_)
        obtain ⟨g20, h⟩ := grd_some h
        refine q_iald C S (aM1 cI cB ad) 0 rfl g20 dX12_packet_120 (j := ((fX12_packetAt x1 x2 x3 1) : Int32).toNatClampNeg) rfl ?_
        exact q_iret C S (rt_S h) dX12_packet_121
      · have h := cnd_f c19 h
        by_cases c21 : x4 = 2
        · have h := cnd_t c21 h
          refine lv_tableIn (off := 56) (tgt := 122) hx hb dX12_packet_66 (by rw [c21]; decide) (by rw [c21]; decide) (by rw [c21]; rfl) (by decide) ?_
          refine lv_aload_n hx hb dX12_packet_122 rfl (lv_at hl 0 rfl) ?_
          refine q_get (v := .ref (ad 1)) C S (oM0 cI cB ad) rfl iwX12 1 (by decide) mw_14 rfl dX12_packet_123 ?_
          refine lv_iload_n hx hb dX12_packet_126 rfl (lv_at hl 1 rfl) ?_
          refine lv_iload_n hx hb dX12_packet_127 rfl (lv_at hl 2 rfl) ?_
          refine lv_iload_n hx hb dX12_packet_128 rfl (lv_at hl 3 rfl) ?_
          refine lv_iconst (v := 2) hx hb dX12_packet_129 (by decide) ?_
          refine q_callP (As := [.int x1, .int x2, .int x3, .int 2]) (na := 4) C S (ct_X12_packetAt l D cI cB cL x1 x2 x3 2) mw_96 mw_95 mw_5 mw_94 hdX12_packetAt ⟨Nat.le_trans (Nat.le_of_ble_eq_true rfl) hR.1, Nat.le_trans (Nat.le_of_ble_eq_true rfl) hR.2⟩ rfl hsz ⟨Nat.zero_le _, Nat.zero_le _⟩ (Nat.le_of_ble_eq_true rfl) dX12_packet_130 rfl (fun H locs S => ?_)
          obtain ⟨g22, h⟩ := grd_some h
          refine q_iald C S (aM1 cI cB ad) 0 rfl g22 dX12_packet_133 (j := ((fX12_packetAt x1 x2 x3 2) : Int32).toNatClampNeg) rfl ?_
          exact q_iret C S (rt_S h) dX12_packet_134
        · have h := cnd_f c21 h
          by_cases c23 : x4 = 3
          · have h := cnd_t c23 h
            refine lv_tableIn (off := 69) (tgt := 135) hx hb dX12_packet_66 (by rw [c23]; decide) (by rw [c23]; decide) (by rw [c23]; rfl) (by decide) ?_
            refine lv_aload_n hx hb dX12_packet_135 rfl (lv_at hl 0 rfl) ?_
            refine q_get (v := .ref (ad 1)) C S (oM0 cI cB ad) rfl iwX12 1 (by decide) mw_14 rfl dX12_packet_136 ?_
            refine lv_iload_n hx hb dX12_packet_139 rfl (lv_at hl 1 rfl) ?_
            refine lv_iload_n hx hb dX12_packet_140 rfl (lv_at hl 2 rfl) ?_
            refine lv_iload_n hx hb dX12_packet_141 rfl (lv_at hl 3 rfl) ?_
            refine lv_iconst (v := 3) hx hb dX12_packet_142 (by decide) ?_
            refine q_callP (As := [.int x1, .int x2, .int x3, .int 3]) (na := 4) C S (ct_X12_packetAt l D cI cB cL x1 x2 x3 3) mw_96 mw_95 mw_5 mw_94 hdX12_packetAt ⟨Nat.le_trans (Nat.le_of_ble_eq_true rfl) hR.1, Nat.le_trans (Nat.le_of_ble_eq_true rfl) hR.2⟩ rfl hsz ⟨Nat.zero_le _, Nat.zero_le _⟩ (Nat.le_of_ble_eq_true rfl) dX12_packet_143 rfl (fun H locs S => ?_)
            obtain ⟨g24, h⟩ := grd_some h
            refine q_iald C S (aM1 cI cB ad) 0 rfl g24 dX12_packet_146 (j := ((fX12_packetAt x1 x2 x3 3) : Int32).toNatClampNeg) rfl ?_
            exact q_iret C S (rt_S h) dX12_packet_147
          · have h := cnd_f c23 h
            refine lv_tableOut (tgt := 148) hx hb dX12_packet_66 (sw_out (0) 4 (fun k hk => by
              rcases (show k = 0 ∨ k = 1 ∨ k = 2 ∨ k = 3 by omega) with rfl | rfl | rfl | rfl
              · exact sw_ne 0 _ (by decide) c17
              · exact sw_ne 1 _ (by decide) c19
              · exact sw_ne 2 _ (by decide) c21
              · exact sw_ne 3 _ (by decide) c23)) (by decide) ?_
            refine lv_aload_n hx hb dX12_packet_148 rfl (lv_at hl 0 rfl) ?_
            refine q_get (v := .ref (ad 1)) C S (oM0 cI cB ad) rfl iwX12 1 (by decide) mw_14 rfl dX12_packet_149 ?_
            refine lv_iload_n hx hb dX12_packet_152 rfl (lv_at hl 1 rfl) ?_
            refine lv_iload_n hx hb dX12_packet_153 rfl (lv_at hl 2 rfl) ?_
            refine lv_iload_n hx hb dX12_packet_154 rfl (lv_at hl 3 rfl) ?_
            refine lv_iconst (v := 4) hx hb dX12_packet_155 (by decide) ?_
            refine q_callP (As := [.int x1, .int x2, .int x3, .int 4]) (na := 4) C S (ct_X12_packetAt l D cI cB cL x1 x2 x3 4) mw_96 mw_95 mw_5 mw_94 hdX12_packetAt ⟨Nat.le_trans (Nat.le_of_ble_eq_true rfl) hR.1, Nat.le_trans (Nat.le_of_ble_eq_true rfl) hR.2⟩ rfl hsz ⟨Nat.zero_le _, Nat.zero_le _⟩ (Nat.le_of_ble_eq_true rfl) dX12_packet_156 rfl (fun H locs S => ?_)
            obtain ⟨g25, h⟩ := grd_some h
            refine q_iald C S (aM1 cI cB ad) 0 rfl g25 dX12_packet_159 (j := ((fX12_packetAt x1 x2 x3 4) : Int32).toNatClampNeg) rfl ?_
            exact q_iret C S (rt_S h) dX12_packet_160
  · have h := cnd_f c16 h
    refine lv_iconst (v := 0) hx hb dX12_packet_62 (by decide) ?_
    exact q_iret C S (rt_S h) dX12_packet_63
set_option maxRecDepth 10000 in
set_option maxHeartbeats 4000000 in
theorem wX12_packet_32 (C : cx D (tyl cI cB cL) A RX12 cX12_packet 5 (some .int) p s m args c meth) (hR : 3 ≤ R.frames ∧ 65 ≤ R.locals) {r : Int32} {σ' : Sg} (u : Sg) (x1 : Int32) (x2 : Int32) (x3 : Int32) (x4 : Int32) (t0 : Int32) {H : Heap} {locs : List Loc} {ls : Array Slot} (hl : lv_has ls 5 [(0, .ref (ad 0)), (1, .int x1), (2, .int x2), (3, .int x3), (4, .int x4)]) (S : st D (wM cI cB ad) A s u H locs) (h : fX12_packet_32 x1 x2 x3 x4 t0 u = some (r, σ')) : W p l e R s m args below meth c H locs 0 0 (MQ below (qI D (tyl cI cB cL) (wM cI cB ad) A r σ') args s 0 0 A) (F0 m 32 ls [.int t0, .ref (ad 0)]) := by
  have hx := C.1
  have hb := C.2.1
  have hsz := hl.1
  unfold fX12_packet_32 at h
  refine lv_iconst (v := 1) hx hb dX12_packet_32 (by decide) ?_
  obtain ⟨r9, u10, h8, h⟩ := obd_some h
  refine q_callVi (As := [.int t0, .int 1]) (na := 2) C S (oM0 cI cB ad) rfl (ct_X12_throwsIf l D cI cB cL ad t0 1 u h8) mw_210 mw_209 mw_211 mw_5 mw_208 hdX12_throwsIf ⟨Nat.le_trans (Nat.le_of_ble_eq_true rfl) hR.1, Nat.le_trans (Nat.le_of_ble_eq_true rfl) hR.2⟩ rfl hsz ⟨Nat.zero_le _, Nat.zero_le _⟩ (Nat.le_of_ble_eq_true rfl) dX12_packet_33 rfl (fun H locs S => ?_)
  refine lv_if_ne (tgt := 62) hx hb dX12_packet_36 (by decide) (fun c11 => ?_) (fun c11 => ?_)
  · have h := cnd_f c11 h
    refine lv_iconst (v := 0) hx hb dX12_packet_62 (by decide) ?_
    exact q_iret C S (rt_S h) dX12_packet_63
  · have h := cnd_t c11 h
    refine lv_aload_n hx hb dX12_packet_39 rfl (lv_at hl 0 rfl) ?_
    refine lv_iload hx hb dX12_packet_40 (lv_at hl 4 rfl) ?_
    refine lv_iconst (v := 0) hx hb dX12_packet_42 (by decide) ?_
    refine lv_iconst (v := 4) hx hb dX12_packet_43 (by decide) ?_
    refine q_callP (As := [.int x4, .int 0, .int 4]) (na := 3) C S (ct_X12_in l D cI cB cL x4 0 4) mw_28 mw_27 mw_5 mw_26 hdX12_in ⟨Nat.le_trans (Nat.le_of_ble_eq_true rfl) hR.1, Nat.le_trans (Nat.le_of_ble_eq_true rfl) hR.2⟩ rfl hsz ⟨Nat.zero_le _, Nat.zero_le _⟩ (Nat.le_of_ble_eq_true rfl) dX12_packet_44 rfl (fun H locs S => ?_)
    refine lv_if_ne (tgt := 54) hx hb dX12_packet_47 (by decide) (fun c12 => ?_) (fun c12 => ?_)
    · have h := cnd_f c12 h
      refine lv_iconst (v := 0) hx hb dX12_packet_54 (by decide) ?_
      exact wX12_packet_55 C hR u10 x1 x2 x3 x4 0 (lv_sub hl [0, 1, 2, 3, 4] rfl) S h
    · have h := cnd_t c12 h
      refine lv_iconst (v := 1) hx hb dX12_packet_50 (by decide) ?_
      refine lv_goto (tgt := 55) hx hb dX12_packet_51 (by decide) ?_
      exact wX12_packet_55 C hR u10 x1 x2 x3 x4 1 (lv_sub hl [0, 1, 2, 3, 4] rfl) S h
set_option maxRecDepth 10000 in
set_option maxHeartbeats 4000000 in
theorem wX12_packet_0 (C : cx D (tyl cI cB cL) A RX12 cX12_packet 5 (some .int) p s m args c meth) (hR : 3 ≤ R.frames ∧ 65 ≤ R.locals) {r : Int32} {σ' : Sg} (u : Sg) (x1 : Int32) (x2 : Int32) (x3 : Int32) (x4 : Int32) {H : Heap} {locs : List Loc} {ls : Array Slot} (hl : lv_has ls 5 [(0, .ref (ad 0)), (1, .int x1), (2, .int x2), (3, .int x3), (4, .int x4)]) (S : st D (wM cI cB ad) A s u H locs) (h : fX12_packet_0 x1 x2 x3 x4 u = some (r, σ')) : W p l e R s m args below meth c H locs 0 0 (MQ below (qI D (tyl cI cB cL) (wM cI cB ad) A r σ') args s 0 0 A) (F0 m 0 ls []) := by
  have hx := C.1
  have hb := C.2.1
  have hsz := hl.1
  unfold fX12_packet_0 at h
  refine lv_aload_n hx hb dX12_packet_0 rfl (lv_at hl 0 rfl) ?_
  refine lv_iload_n hx hb dX12_packet_1 rfl (lv_at hl 1 rfl) ?_
  refine lv_iload_n hx hb dX12_packet_2 rfl (lv_at hl 2 rfl) ?_
  obtain ⟨r2, u3, h1, h⟩ := obd_some h
  refine q_callVi (As := [.int x1, .int x2]) (na := 2) C S (oM0 cI cB ad) rfl (ct_X12_noTwo l D cI cB cL ad x1 x2 u h1) mw_254 mw_253 mw_255 mw_5 mw_252 hdX12_noTwo ⟨Nat.le_trans (Nat.le_of_ble_eq_true rfl) hR.1, Nat.le_trans (Nat.le_of_ble_eq_true rfl) hR.2⟩ rfl hsz ⟨Nat.zero_le _, Nat.zero_le _⟩ (Nat.le_of_ble_eq_true rfl) dX12_packet_3 rfl (fun H locs S => ?_)
  refine lv_if_ne (tgt := 62) hx hb dX12_packet_6 (by decide) (fun c4 => ?_) (fun c4 => ?_)
  · have h := cnd_f c4 h
    refine lv_iconst (v := 0) hx hb dX12_packet_62 (by decide) ?_
    exact q_iret C S (rt_S h) dX12_packet_63
  · have h := cnd_t c4 h
    refine lv_aload_n hx hb dX12_packet_9 rfl (lv_at hl 0 rfl) ?_
    refine lv_iload_n hx hb dX12_packet_10 rfl (lv_at hl 3 rfl) ?_
    refine lv_iconst (v := 0) hx hb dX12_packet_11 (by decide) ?_
    refine lv_aload_n hx hb dX12_packet_12 rfl (lv_at hl 0 rfl) ?_
    refine lv_iload_n hx hb dX12_packet_13 rfl (lv_at hl 1 rfl) ?_
    refine lv_iload_n hx hb dX12_packet_14 rfl (lv_at hl 2 rfl) ?_
    refine lv_iconst (v := 2) hx hb dX12_packet_15 (by decide) ?_
    obtain ⟨r6, h5, h⟩ := obr_some h
    refine q_callVi (As := [.int x1, .int x2, .int 2]) (na := 3) C S (oM0 cI cB ad) rfl (ct_X12_ofChannel l D cI cB cL ad x1 x2 2 u3 h5) mw_84 mw_83 mw_85 mw_5 mw_82 hdX12_ofChannel ⟨Nat.le_trans (Nat.le_of_ble_eq_true rfl) hR.1, Nat.le_trans (Nat.le_of_ble_eq_true rfl) hR.2⟩ rfl hsz ⟨Nat.zero_le _, Nat.zero_le _⟩ (Nat.le_of_ble_eq_true rfl) dX12_packet_16 rfl (fun H locs S => ?_)
    refine lv_iconst (v := 1) hx hb dX12_packet_19 (by decide) ?_
    refine lv_isub hx hb dX12_packet_20 ?_
    refine q_callP (As := [.int x3, .int 0, .int (r6 - 1)]) (na := 3) C S (ct_X12_in l D cI cB cL x3 0 (r6 - 1)) mw_28 mw_27 mw_5 mw_26 hdX12_in ⟨Nat.le_trans (Nat.le_of_ble_eq_true rfl) hR.1, Nat.le_trans (Nat.le_of_ble_eq_true rfl) hR.2⟩ rfl hsz ⟨Nat.zero_le _, Nat.zero_le _⟩ (Nat.le_of_ble_eq_true rfl) dX12_packet_21 rfl (fun H locs S => ?_)
    refine lv_if_ne (tgt := 31) hx hb dX12_packet_24 (by decide) (fun c7 => ?_) (fun c7 => ?_)
    · have h := cnd_f c7 h
      refine lv_iconst (v := 0) hx hb dX12_packet_31 (by decide) ?_
      exact wX12_packet_32 C hR u3 x1 x2 x3 x4 0 (lv_sub hl [0, 1, 2, 3, 4] rfl) S h
    · have h := cnd_t c7 h
      refine lv_iconst (v := 1) hx hb dX12_packet_27 (by decide) ?_
      refine lv_goto (tgt := 32) hx hb dX12_packet_28 (by decide) ?_
      exact wX12_packet_32 C hR u3 x1 x2 x3 x4 1 (lv_sub hl [0, 1, 2, 3, 4] rfl) S h
set_option maxRecDepth 10000 in
set_option maxHeartbeats 4000000 in
theorem ct_X12_packet (l : Launch) (D : va_G) (cI cB cL : ClassId) (ad : Nat → Nat) (x1 : Int32) (x2 : Int32) (x3 : Int32) (x4 : Int32) (u : Sg) {r : Int32} {σ' : Sg} (h : fX12_packet x1 x2 x3 x4 u = some (r, σ')) : metI l D (tyl cI cB cL) yX12_packet cX12_packet 5 (some .int) 3 65 (wM cI cB ad) [.ref (ad 0), .int x1, .int x2, .int x3, .int x4] u r σ' := by
  intro sz
  refine Met.ofW (cc := cX12_packet) (maxL := 5) (ret := (some .int)) (by decide) rfl ?_
  intro p e s m args below meth c s₁ B hml hv
  obtain ⟨rfl, C, S⟩ := q_entry B hml hv
  have hl := lv_entry ([.ref (ad 0), .int x1, .int x2, .int x3, .int x4]) (n := 5) (Nat.le_of_ble_eq_true rfl)
  rw [lg_entry_eq]
  generalize (lg_sl ([.ref (ad 0), .int x1, .int x2, .int x3, .int x4]) ++ List.replicate (5 - (lg_sl ([.ref (ad 0), .int x1, .int x2, .int x3, .int x4])).length) Slot.unset).toArray = ls at hl ⊢
  exact wX12_packet_0 C ⟨Nat.le_refl _, Nat.le_refl _⟩ u x1 x2 x3 x4 (lv_sub hl [0, 1, 2, 3, 4] rfl) S h
noncomputable def fX12_gather_47 (x1 : Int32) (x2 : Int32) (x3 : Int32) (t0 : Int32) (u : Sg) : Option (Int32 × Sg) := obd (fX12_throwsIf t0 3 u) (fun r14 u15 => cnd (r14 = 0) (cnd (x3 = 0) (obr (fX12_ofPair x1 x2 6 u15) (fun r19 => some (r19, u15))) (cnd (x3 = 1) (obr (fX12_ofPair x1 x2 7 u15) (fun r22 => some (r22, u15))) (cnd (x3 = 2) (obr (fX12_ofPair x1 x2 8 u15) (fun r25 => some (r25, u15))) (obr (fX12_ofPair x1 x2 9 u15) (fun r27 => some (r27, u15)))))) (some (0, u15)))
noncomputable def fX12_gather_25 (x1 : Int32) (x2 : Int32) (x3 : Int32) (t0 : Int32) (u : Sg) : Option (Int32 × Sg) := obd (fX12_throwsIf t0 2 u) (fun r9 u10 => cnd (r9 = 0) (cnd ((fX12_in x3 0 3) = 0) (fX12_gather_47 x1 x2 x3 1 u10) (fX12_gather_47 x1 x2 x3 0 u10)) (some (0, u10)))
noncomputable def fX12_gather_0 (x1 : Int32) (x2 : Int32) (x3 : Int32) (u : Sg) : Option (Int32 × Sg) := obd (fX12_noPair x1 x2 u) (fun r2 u3 => cnd (r2 = 0) (obr (fX12_ofPair x1 x2 5 u3) (fun r6 => cnd (r6 = 0) (fX12_gather_25 x1 x2 x3 1 u3) (fX12_gather_25 x1 x2 x3 0 u3))) (some (0, u3)))
noncomputable def fX12_gather (x1 : Int32) (x2 : Int32) (x3 : Int32) (u : Sg) : Option (Int32 × Sg) := fX12_gather_0 x1 x2 x3 u
set_option maxRecDepth 10000 in
set_option maxHeartbeats 4000000 in
theorem wX12_gather_47 (C : cx D (tyl cI cB cL) A RX12 cX12_gather 4 (some .int) p s m args c meth) (hR : 3 ≤ R.frames ∧ 66 ≤ R.locals) {r : Int32} {σ' : Sg} (u : Sg) (x1 : Int32) (x2 : Int32) (x3 : Int32) (t0 : Int32) {H : Heap} {locs : List Loc} {ls : Array Slot} (hl : lv_has ls 4 [(0, .ref (ad 0)), (1, .int x1), (2, .int x2), (3, .int x3)]) (S : st D (wM cI cB ad) A s u H locs) (h : fX12_gather_47 x1 x2 x3 t0 u = some (r, σ')) : W p l e R s m args below meth c H locs 0 0 (MQ below (qI D (tyl cI cB cL) (wM cI cB ad) A r σ') args s 0 0 A) (F0 m 47 ls [.int t0, .ref (ad 0)]) := by
  have hx := C.1
  have hb := C.2.1
  have hsz := hl.1
  unfold fX12_gather_47 at h
  refine lv_iconst (v := 3) hx hb dX12_gather_47 (by decide) ?_
  obtain ⟨r14, u15, h13, h⟩ := obd_some h
  refine q_callVi (As := [.int t0, .int 3]) (na := 2) C S (oM0 cI cB ad) rfl (ct_X12_throwsIf l D cI cB cL ad t0 3 u h13) mw_210 mw_209 mw_211 mw_5 mw_208 hdX12_throwsIf ⟨Nat.le_trans (Nat.le_of_ble_eq_true rfl) hR.1, Nat.le_trans (Nat.le_of_ble_eq_true rfl) hR.2⟩ rfl hsz ⟨Nat.zero_le _, Nat.zero_le _⟩ (Nat.le_of_ble_eq_true rfl) dX12_gather_48 rfl (fun H locs S => ?_)
  refine lv_if_eq (tgt := 56) hx hb dX12_gather_51 (by decide) (fun c16 => ?_) (fun c16 => ?_)
  · have h := cnd_t c16 h
    refine lv_iload_n hx hb dX12_gather_56 rfl (lv_at hl 3 rfl) ?_
    by_cases c17 : x3 = 0
    · have h := cnd_t c17 h
      refine lv_tableIn (off := 27) (tgt := 84) hx hb dX12_gather_57 (by rw [c17]; decide) (by rw [c17]; decide) (by rw [c17]; rfl) (by decide) ?_
      refine lv_aload_n hx hb dX12_gather_84 rfl (lv_at hl 0 rfl) ?_
      refine lv_iload_n hx hb dX12_gather_85 rfl (lv_at hl 1 rfl) ?_
      refine lv_iload_n hx hb dX12_gather_86 rfl (lv_at hl 2 rfl) ?_
      refine lv_bipush (v := 6) hx hb dX12_gather_87 (by decide) ?_
      obtain ⟨r19, h18, h⟩ := obr_some h
      refine q_callVi (As := [.int x1, .int x2, .int 6]) (na := 3) C S (oM0 cI cB ad) rfl (ct_X12_ofPair l D cI cB cL ad x1 x2 6 u15 h18) mw_126 mw_125 mw_127 mw_5 mw_124 hdX12_ofPair ⟨Nat.le_trans (Nat.le_of_ble_eq_true rfl) hR.1, Nat.le_trans (Nat.le_of_ble_eq_true rfl) hR.2⟩ rfl hsz ⟨Nat.zero_le _, Nat.zero_le _⟩ (Nat.le_of_ble_eq_true rfl) dX12_gather_89 rfl (fun H locs S => ?_)
      exact q_iret C S (rt_S h) dX12_gather_92
    · have h := cnd_f c17 h
      by_cases c20 : x3 = 1
      · have h := cnd_t c20 h
        refine lv_tableIn (off := 36) (tgt := 93) hx hb dX12_gather_57 (by rw [c20]; decide) (by rw [c20]; decide) (by rw [c20]; rfl) (by decide) ?_
        refine lv_aload_n hx hb dX12_gather_93 rfl (lv_at hl 0 rfl) ?_
        refine lv_iload_n hx hb dX12_gather_94 rfl (lv_at hl 1 rfl) ?_
        refine lv_iload_n hx hb dX12_gather_95 rfl (lv_at hl 2 rfl) ?_
        refine lv_bipush (v := 7) hx hb dX12_gather_96 (by decide) ?_
        obtain ⟨r22, h21, h⟩ := obr_some h
        refine q_callVi (As := [.int x1, .int x2, .int 7]) (na := 3) C S (oM0 cI cB ad) rfl (ct_X12_ofPair l D cI cB cL ad x1 x2 7 u15 h21) mw_126 mw_125 mw_127 mw_5 mw_124 hdX12_ofPair ⟨Nat.le_trans (Nat.le_of_ble_eq_true rfl) hR.1, Nat.le_trans (Nat.le_of_ble_eq_true rfl) hR.2⟩ rfl hsz ⟨Nat.zero_le _, Nat.zero_le _⟩ (Nat.le_of_ble_eq_true rfl) dX12_gather_98 rfl (fun H locs S => ?_)
        exact q_iret C S (rt_S h) dX12_gather_101
      · have h := cnd_f c20 h
        by_cases c23 : x3 = 2
        · have h := cnd_t c23 h
          refine lv_tableIn (off := 45) (tgt := 102) hx hb dX12_gather_57 (by rw [c23]; decide) (by rw [c23]; decide) (by rw [c23]; rfl) (by decide) ?_
          refine lv_aload_n hx hb dX12_gather_102 rfl (lv_at hl 0 rfl) ?_
          refine lv_iload_n hx hb dX12_gather_103 rfl (lv_at hl 1 rfl) ?_
          refine lv_iload_n hx hb dX12_gather_104 rfl (lv_at hl 2 rfl) ?_
          refine lv_bipush (v := 8) hx hb dX12_gather_105 (by decide) ?_
          obtain ⟨r25, h24, h⟩ := obr_some h
          refine q_callVi (As := [.int x1, .int x2, .int 8]) (na := 3) C S (oM0 cI cB ad) rfl (ct_X12_ofPair l D cI cB cL ad x1 x2 8 u15 h24) mw_126 mw_125 mw_127 mw_5 mw_124 hdX12_ofPair ⟨Nat.le_trans (Nat.le_of_ble_eq_true rfl) hR.1, Nat.le_trans (Nat.le_of_ble_eq_true rfl) hR.2⟩ rfl hsz ⟨Nat.zero_le _, Nat.zero_le _⟩ (Nat.le_of_ble_eq_true rfl) dX12_gather_107 rfl (fun H locs S => ?_)
          exact q_iret C S (rt_S h) dX12_gather_110
        · have h := cnd_f c23 h
          refine lv_tableOut (tgt := 111) hx hb dX12_gather_57 (sw_out (0) 3 (fun k hk => by
            rcases (show k = 0 ∨ k = 1 ∨ k = 2 by omega) with rfl | rfl | rfl
            · exact sw_ne 0 _ (by decide) c17
            · exact sw_ne 1 _ (by decide) c20
            · exact sw_ne 2 _ (by decide) c23)) (by decide) ?_
          refine lv_aload_n hx hb dX12_gather_111 rfl (lv_at hl 0 rfl) ?_
          refine lv_iload_n hx hb dX12_gather_112 rfl (lv_at hl 1 rfl) ?_
          refine lv_iload_n hx hb dX12_gather_113 rfl (lv_at hl 2 rfl) ?_
          refine lv_bipush (v := 9) hx hb dX12_gather_114 (by decide) ?_
          obtain ⟨r27, h26, h⟩ := obr_some h
          refine q_callVi (As := [.int x1, .int x2, .int 9]) (na := 3) C S (oM0 cI cB ad) rfl (ct_X12_ofPair l D cI cB cL ad x1 x2 9 u15 h26) mw_126 mw_125 mw_127 mw_5 mw_124 hdX12_ofPair ⟨Nat.le_trans (Nat.le_of_ble_eq_true rfl) hR.1, Nat.le_trans (Nat.le_of_ble_eq_true rfl) hR.2⟩ rfl hsz ⟨Nat.zero_le _, Nat.zero_le _⟩ (Nat.le_of_ble_eq_true rfl) dX12_gather_116 rfl (fun H locs S => ?_)
          exact q_iret C S (rt_S h) dX12_gather_119
  · have h := cnd_f c16 h
    refine lv_iconst (v := 0) hx hb dX12_gather_54 (by decide) ?_
    exact q_iret C S (rt_S h) dX12_gather_55
set_option maxRecDepth 10000 in
set_option maxHeartbeats 4000000 in
theorem wX12_gather_25 (C : cx D (tyl cI cB cL) A RX12 cX12_gather 4 (some .int) p s m args c meth) (hR : 3 ≤ R.frames ∧ 66 ≤ R.locals) {r : Int32} {σ' : Sg} (u : Sg) (x1 : Int32) (x2 : Int32) (x3 : Int32) (t0 : Int32) {H : Heap} {locs : List Loc} {ls : Array Slot} (hl : lv_has ls 4 [(0, .ref (ad 0)), (1, .int x1), (2, .int x2), (3, .int x3)]) (S : st D (wM cI cB ad) A s u H locs) (h : fX12_gather_25 x1 x2 x3 t0 u = some (r, σ')) : W p l e R s m args below meth c H locs 0 0 (MQ below (qI D (tyl cI cB cL) (wM cI cB ad) A r σ') args s 0 0 A) (F0 m 25 ls [.int t0, .ref (ad 0)]) := by
  have hx := C.1
  have hb := C.2.1
  have hsz := hl.1
  unfold fX12_gather_25 at h
  refine lv_iconst (v := 2) hx hb dX12_gather_25 (by decide) ?_
  obtain ⟨r9, u10, h8, h⟩ := obd_some h
  refine q_callVi (As := [.int t0, .int 2]) (na := 2) C S (oM0 cI cB ad) rfl (ct_X12_throwsIf l D cI cB cL ad t0 2 u h8) mw_210 mw_209 mw_211 mw_5 mw_208 hdX12_throwsIf ⟨Nat.le_trans (Nat.le_of_ble_eq_true rfl) hR.1, Nat.le_trans (Nat.le_of_ble_eq_true rfl) hR.2⟩ rfl hsz ⟨Nat.zero_le _, Nat.zero_le _⟩ (Nat.le_of_ble_eq_true rfl) dX12_gather_26 rfl (fun H locs S => ?_)
  refine lv_if_ne (tgt := 54) hx hb dX12_gather_29 (by decide) (fun c11 => ?_) (fun c11 => ?_)
  · have h := cnd_f c11 h
    refine lv_iconst (v := 0) hx hb dX12_gather_54 (by decide) ?_
    exact q_iret C S (rt_S h) dX12_gather_55
  · have h := cnd_t c11 h
    refine lv_aload_n hx hb dX12_gather_32 rfl (lv_at hl 0 rfl) ?_
    refine lv_iload_n hx hb dX12_gather_33 rfl (lv_at hl 3 rfl) ?_
    refine lv_iconst (v := 0) hx hb dX12_gather_34 (by decide) ?_
    refine lv_iconst (v := 3) hx hb dX12_gather_35 (by decide) ?_
    refine q_callP (As := [.int x3, .int 0, .int 3]) (na := 3) C S (ct_X12_in l D cI cB cL x3 0 3) mw_28 mw_27 mw_5 mw_26 hdX12_in ⟨Nat.le_trans (Nat.le_of_ble_eq_true rfl) hR.1, Nat.le_trans (Nat.le_of_ble_eq_true rfl) hR.2⟩ rfl hsz ⟨Nat.zero_le _, Nat.zero_le _⟩ (Nat.le_of_ble_eq_true rfl) dX12_gather_36 rfl (fun H locs S => ?_)
    refine lv_if_ne (tgt := 46) hx hb dX12_gather_39 (by decide) (fun c12 => ?_) (fun c12 => ?_)
    · have h := cnd_f c12 h
      refine lv_iconst (v := 0) hx hb dX12_gather_46 (by decide) ?_
      exact wX12_gather_47 C hR u10 x1 x2 x3 0 (lv_sub hl [0, 1, 2, 3] rfl) S h
    · have h := cnd_t c12 h
      refine lv_iconst (v := 1) hx hb dX12_gather_42 (by decide) ?_
      refine lv_goto (tgt := 47) hx hb dX12_gather_43 (by decide) ?_
      exact wX12_gather_47 C hR u10 x1 x2 x3 1 (lv_sub hl [0, 1, 2, 3] rfl) S h
set_option maxRecDepth 10000 in
set_option maxHeartbeats 4000000 in
theorem wX12_gather_0 (C : cx D (tyl cI cB cL) A RX12 cX12_gather 4 (some .int) p s m args c meth) (hR : 3 ≤ R.frames ∧ 66 ≤ R.locals) {r : Int32} {σ' : Sg} (u : Sg) (x1 : Int32) (x2 : Int32) (x3 : Int32) {H : Heap} {locs : List Loc} {ls : Array Slot} (hl : lv_has ls 4 [(0, .ref (ad 0)), (1, .int x1), (2, .int x2), (3, .int x3)]) (S : st D (wM cI cB ad) A s u H locs) (h : fX12_gather_0 x1 x2 x3 u = some (r, σ')) : W p l e R s m args below meth c H locs 0 0 (MQ below (qI D (tyl cI cB cL) (wM cI cB ad) A r σ') args s 0 0 A) (F0 m 0 ls []) := by
  have hx := C.1
  have hb := C.2.1
  have hsz := hl.1
  unfold fX12_gather_0 at h
  refine lv_aload_n hx hb dX12_gather_0 rfl (lv_at hl 0 rfl) ?_
  refine lv_iload_n hx hb dX12_gather_1 rfl (lv_at hl 1 rfl) ?_
  refine lv_iload_n hx hb dX12_gather_2 rfl (lv_at hl 2 rfl) ?_
  obtain ⟨r2, u3, h1, h⟩ := obd_some h
  refine q_callVi (As := [.int x1, .int x2]) (na := 2) C S (oM0 cI cB ad) rfl (ct_X12_noPair l D cI cB cL ad x1 x2 u h1) mw_250 mw_249 mw_251 mw_5 mw_248 hdX12_noPair ⟨Nat.le_trans (Nat.le_of_ble_eq_true rfl) hR.1, Nat.le_trans (Nat.le_of_ble_eq_true rfl) hR.2⟩ rfl hsz ⟨Nat.zero_le _, Nat.zero_le _⟩ (Nat.le_of_ble_eq_true rfl) dX12_gather_3 rfl (fun H locs S => ?_)
  refine lv_if_ne (tgt := 54) hx hb dX12_gather_6 (by decide) (fun c4 => ?_) (fun c4 => ?_)
  · have h := cnd_f c4 h
    refine lv_iconst (v := 0) hx hb dX12_gather_54 (by decide) ?_
    exact q_iret C S (rt_S h) dX12_gather_55
  · have h := cnd_t c4 h
    refine lv_aload_n hx hb dX12_gather_9 rfl (lv_at hl 0 rfl) ?_
    refine lv_aload_n hx hb dX12_gather_10 rfl (lv_at hl 0 rfl) ?_
    refine lv_iload_n hx hb dX12_gather_11 rfl (lv_at hl 1 rfl) ?_
    refine lv_iload_n hx hb dX12_gather_12 rfl (lv_at hl 2 rfl) ?_
    refine lv_iconst (v := 5) hx hb dX12_gather_13 (by decide) ?_
    obtain ⟨r6, h5, h⟩ := obr_some h
    refine q_callVi (As := [.int x1, .int x2, .int 5]) (na := 3) C S (oM0 cI cB ad) rfl (ct_X12_ofPair l D cI cB cL ad x1 x2 5 u3 h5) mw_126 mw_125 mw_127 mw_5 mw_124 hdX12_ofPair ⟨Nat.le_trans (Nat.le_of_ble_eq_true rfl) hR.1, Nat.le_trans (Nat.le_of_ble_eq_true rfl) hR.2⟩ rfl hsz ⟨Nat.zero_le _, Nat.zero_le _⟩ (Nat.le_of_ble_eq_true rfl) dX12_gather_14 rfl (fun H locs S => ?_)
    refine lv_if_ne (tgt := 24) hx hb dX12_gather_17 (by decide) (fun c7 => ?_) (fun c7 => ?_)
    · have h := cnd_f c7 h
      refine lv_iconst (v := 0) hx hb dX12_gather_24 (by decide) ?_
      exact wX12_gather_25 C hR u3 x1 x2 x3 0 (lv_sub hl [0, 1, 2, 3] rfl) S h
    · have h := cnd_t c7 h
      refine lv_iconst (v := 1) hx hb dX12_gather_20 (by decide) ?_
      refine lv_goto (tgt := 25) hx hb dX12_gather_21 (by decide) ?_
      exact wX12_gather_25 C hR u3 x1 x2 x3 1 (lv_sub hl [0, 1, 2, 3] rfl) S h
set_option maxRecDepth 10000 in
set_option maxHeartbeats 4000000 in
theorem ct_X12_gather (l : Launch) (D : va_G) (cI cB cL : ClassId) (ad : Nat → Nat) (x1 : Int32) (x2 : Int32) (x3 : Int32) (u : Sg) {r : Int32} {σ' : Sg} (h : fX12_gather x1 x2 x3 u = some (r, σ')) : metI l D (tyl cI cB cL) yX12_gather cX12_gather 4 (some .int) 3 66 (wM cI cB ad) [.ref (ad 0), .int x1, .int x2, .int x3] u r σ' := by
  intro sz
  refine Met.ofW (cc := cX12_gather) (maxL := 4) (ret := (some .int)) (by decide) rfl ?_
  intro p e s m args below meth c s₁ B hml hv
  obtain ⟨rfl, C, S⟩ := q_entry B hml hv
  have hl := lv_entry ([.ref (ad 0), .int x1, .int x2, .int x3]) (n := 4) (Nat.le_of_ble_eq_true rfl)
  rw [lg_entry_eq]
  generalize (lg_sl ([.ref (ad 0), .int x1, .int x2, .int x3]) ++ List.replicate (4 - (lg_sl ([.ref (ad 0), .int x1, .int x2, .int x3])).length) Slot.unset).toArray = ls at hl ⊢
  exact wX12_gather_0 C ⟨Nat.le_refl _, Nat.le_refl _⟩ u x1 x2 x3 (lv_sub hl [0, 1, 2, 3] rfl) S h
noncomputable def fX12_when_0 (x1 : Int32) (x2 : Int32) (u : Sg) : Option (Int32 × Sg) := obd (fX12_noPair x1 x2 u) (fun r2 u3 => cnd (r2 = 0) (obr (fX12_ofPair x1 x2 0 u3) (fun r6 => cnd (r6 = 3) (obr (fX12_ofPair x1 x2 4 u3) (fun r9 => some (r9, u3))) (some ((-1), u3)))) (some (0, u3)))
noncomputable def fX12_when (x1 : Int32) (x2 : Int32) (u : Sg) : Option (Int32 × Sg) := fX12_when_0 x1 x2 u
set_option maxRecDepth 10000 in
set_option maxHeartbeats 4000000 in
theorem wX12_when_0 (C : cx D (tyl cI cB cL) A RX12 cX12_when 3 (some .int) p s m args c meth) (hR : 3 ≤ R.frames ∧ 66 ≤ R.locals) {r : Int32} {σ' : Sg} (u : Sg) (x1 : Int32) (x2 : Int32) {H : Heap} {locs : List Loc} {ls : Array Slot} (hl : lv_has ls 3 [(0, .ref (ad 0)), (1, .int x1), (2, .int x2)]) (S : st D (wM cI cB ad) A s u H locs) (h : fX12_when_0 x1 x2 u = some (r, σ')) : W p l e R s m args below meth c H locs 0 0 (MQ below (qI D (tyl cI cB cL) (wM cI cB ad) A r σ') args s 0 0 A) (F0 m 0 ls []) := by
  have hx := C.1
  have hb := C.2.1
  have hsz := hl.1
  unfold fX12_when_0 at h
  refine lv_aload_n hx hb dX12_when_0 rfl (lv_at hl 0 rfl) ?_
  refine lv_iload_n hx hb dX12_when_1 rfl (lv_at hl 1 rfl) ?_
  refine lv_iload_n hx hb dX12_when_2 rfl (lv_at hl 2 rfl) ?_
  obtain ⟨r2, u3, h1, h⟩ := obd_some h
  refine q_callVi (As := [.int x1, .int x2]) (na := 2) C S (oM0 cI cB ad) rfl (ct_X12_noPair l D cI cB cL ad x1 x2 u h1) mw_250 mw_249 mw_251 mw_5 mw_248 hdX12_noPair ⟨Nat.le_trans (Nat.le_of_ble_eq_true rfl) hR.1, Nat.le_trans (Nat.le_of_ble_eq_true rfl) hR.2⟩ rfl hsz ⟨Nat.zero_le _, Nat.zero_le _⟩ (Nat.le_of_ble_eq_true rfl) dX12_when_3 rfl (fun H locs S => ?_)
  refine lv_if_eq (tgt := 11) hx hb dX12_when_6 (by decide) (fun c4 => ?_) (fun c4 => ?_)
  · have h := cnd_t c4 h
    refine lv_aload_n hx hb dX12_when_11 rfl (lv_at hl 0 rfl) ?_
    refine lv_iload_n hx hb dX12_when_12 rfl (lv_at hl 1 rfl) ?_
    refine lv_iload_n hx hb dX12_when_13 rfl (lv_at hl 2 rfl) ?_
    refine lv_iconst (v := 0) hx hb dX12_when_14 (by decide) ?_
    obtain ⟨r6, h5, h⟩ := obr_some h
    refine q_callVi (As := [.int x1, .int x2, .int 0]) (na := 3) C S (oM0 cI cB ad) rfl (ct_X12_ofPair l D cI cB cL ad x1 x2 0 u3 h5) mw_126 mw_125 mw_127 mw_5 mw_124 hdX12_ofPair ⟨Nat.le_trans (Nat.le_of_ble_eq_true rfl) hR.1, Nat.le_trans (Nat.le_of_ble_eq_true rfl) hR.2⟩ rfl hsz ⟨Nat.zero_le _, Nat.zero_le _⟩ (Nat.le_of_ble_eq_true rfl) dX12_when_15 rfl (fun H locs S => ?_)
    refine lv_iconst (v := 3) hx hb dX12_when_18 (by decide) ?_
    refine lv_icmp_ne (tgt := 32) hx hb dX12_when_19 (by decide) (fun c7 => ?_) (fun c7 => ?_)
    · have h := cnd_f c7 h
      refine lv_iconst (v := (-1)) hx hb dX12_when_32 (by decide) ?_
      exact q_iret C S (rt_S h) dX12_when_33
    · have h := cnd_t c7 h
      refine lv_aload_n hx hb dX12_when_22 rfl (lv_at hl 0 rfl) ?_
      refine lv_iload_n hx hb dX12_when_23 rfl (lv_at hl 1 rfl) ?_
      refine lv_iload_n hx hb dX12_when_24 rfl (lv_at hl 2 rfl) ?_
      refine lv_iconst (v := 4) hx hb dX12_when_25 (by decide) ?_
      obtain ⟨r9, h8, h⟩ := obr_some h
      refine q_callVi (As := [.int x1, .int x2, .int 4]) (na := 3) C S (oM0 cI cB ad) rfl (ct_X12_ofPair l D cI cB cL ad x1 x2 4 u3 h8) mw_126 mw_125 mw_127 mw_5 mw_124 hdX12_ofPair ⟨Nat.le_trans (Nat.le_of_ble_eq_true rfl) hR.1, Nat.le_trans (Nat.le_of_ble_eq_true rfl) hR.2⟩ rfl hsz ⟨Nat.zero_le _, Nat.zero_le _⟩ (Nat.le_of_ble_eq_true rfl) dX12_when_26 rfl (fun H locs S => ?_)
      refine lv_goto (tgt := 33) hx hb dX12_when_29 (by decide) ?_
      exact q_iret C S (rt_S h) dX12_when_33
  · have h := cnd_f c4 h
    refine lv_iconst (v := 0) hx hb dX12_when_9 (by decide) ?_
    exact q_iret C S (rt_S h) dX12_when_10
set_option maxRecDepth 10000 in
set_option maxHeartbeats 4000000 in
theorem ct_X12_when (l : Launch) (D : va_G) (cI cB cL : ClassId) (ad : Nat → Nat) (x1 : Int32) (x2 : Int32) (u : Sg) {r : Int32} {σ' : Sg} (h : fX12_when x1 x2 u = some (r, σ')) : metI l D (tyl cI cB cL) yX12_when cX12_when 3 (some .int) 3 66 (wM cI cB ad) [.ref (ad 0), .int x1, .int x2] u r σ' := by
  intro sz
  refine Met.ofW (cc := cX12_when) (maxL := 3) (ret := (some .int)) (by decide) rfl ?_
  intro p e s m args below meth c s₁ B hml hv
  obtain ⟨rfl, C, S⟩ := q_entry B hml hv
  have hl := lv_entry ([.ref (ad 0), .int x1, .int x2]) (n := 3) (Nat.le_of_ble_eq_true rfl)
  rw [lg_entry_eq]
  generalize (lg_sl ([.ref (ad 0), .int x1, .int x2]) ++ List.replicate (3 - (lg_sl ([.ref (ad 0), .int x1, .int x2])).length) Slot.unset).toArray = ls at hl ⊢
  exact wX12_when_0 C ⟨Nat.le_refl _, Nat.le_refl _⟩ u x1 x2 (lv_sub hl [0, 1, 2] rfl) S h
noncomputable def fX12_those_40 (u : Sg) : Option (Int32 × Sg) := some (0, u)
noncomputable def fX12_those_33 (x1 : Int32) (x2 : Int32) (t0 : Int32) (u : Sg) : Option (Int32 × Sg) := obd (fX12_throwsIf t0 2 u) (fun r10 u11 => cnd (r10 = 0) (obr (fX12_bitsWith x1 x2 u11) (fun r14 => some (r14, u11))) (fX12_those_40 u11))
noncomputable def fX12_those_0 (x1 : Int32) (x2 : Int32) (u : Sg) : Option (Int32 × Sg) := bnd (s2 u 0 0 0) (fun u1 => obr (fX12_noNode x1 u1) (fun r3 => obd (fX12_throwsIf r3 1 u1) (fun r5 u6 => cnd (r5 = 0) (cnd ((fX12_in x2 1 3) = 0) (fX12_those_33 x1 x2 1 u6) (fX12_those_33 x1 x2 0 u6)) (fX12_those_40 u6))))
noncomputable def fX12_those (x1 : Int32) (x2 : Int32) (u : Sg) : Option (Int32 × Sg) := fX12_those_0 x1 x2 u
set_option maxRecDepth 10000 in
set_option maxHeartbeats 4000000 in
theorem wX12_those_40 (C : cx D (tyl cI cB cL) A RX12 cX12_those 3 (some .int) p s m args c meth) (hR : 4 ≤ R.frames ∧ 90 ≤ R.locals) {r : Int32} {σ' : Sg} (u : Sg) {H : Heap} {locs : List Loc} {ls : Array Slot} (hl : lv_has ls 3 []) (S : st D (wM cI cB ad) A s u H locs) (h : fX12_those_40 u = some (r, σ')) : W p l e R s m args below meth c H locs 0 0 (MQ below (qI D (tyl cI cB cL) (wM cI cB ad) A r σ') args s 0 0 A) (F0 m 40 ls []) := by
  have hx := C.1
  have hb := C.2.1
  have hsz := hl.1
  unfold fX12_those_40 at h
  refine lv_iconst (v := 0) hx hb dX12_those_40 (by decide) ?_
  refine lv_goto (tgt := 50) hx hb dX12_those_41 (by decide) ?_
  exact q_iret C S (rt_S h) dX12_those_50
set_option maxRecDepth 10000 in
set_option maxHeartbeats 4000000 in
theorem wX12_those_33 (C : cx D (tyl cI cB cL) A RX12 cX12_those 3 (some .int) p s m args c meth) (hR : 4 ≤ R.frames ∧ 90 ≤ R.locals) {r : Int32} {σ' : Sg} (u : Sg) (x1 : Int32) (x2 : Int32) (t0 : Int32) {H : Heap} {locs : List Loc} {ls : Array Slot} (hl : lv_has ls 3 [(0, .ref (ad 0)), (1, .int x1), (2, .int x2)]) (S : st D (wM cI cB ad) A s u H locs) (h : fX12_those_33 x1 x2 t0 u = some (r, σ')) : W p l e R s m args below meth c H locs 0 0 (MQ below (qI D (tyl cI cB cL) (wM cI cB ad) A r σ') args s 0 0 A) (F0 m 33 ls [.int t0, .ref (ad 0)]) := by
  have hx := C.1
  have hb := C.2.1
  have hsz := hl.1
  unfold fX12_those_33 at h
  refine lv_iconst (v := 2) hx hb dX12_those_33 (by decide) ?_
  obtain ⟨r10, u11, h9, h⟩ := obd_some h
  refine q_callVi (As := [.int t0, .int 2]) (na := 2) C S (oM0 cI cB ad) rfl (ct_X12_throwsIf l D cI cB cL ad t0 2 u h9) mw_210 mw_209 mw_211 mw_5 mw_208 hdX12_throwsIf ⟨Nat.le_trans (Nat.le_of_ble_eq_true rfl) hR.1, Nat.le_trans (Nat.le_of_ble_eq_true rfl) hR.2⟩ rfl hsz ⟨Nat.zero_le _, Nat.zero_le _⟩ (Nat.le_of_ble_eq_true rfl) dX12_those_34 rfl (fun H locs S => ?_)
  refine lv_if_eq (tgt := 44) hx hb dX12_those_37 (by decide) (fun c12 => ?_) (fun c12 => ?_)
  · have h := cnd_t c12 h
    refine lv_aload_n hx hb dX12_those_44 rfl (lv_at hl 0 rfl) ?_
    refine lv_iload_n hx hb dX12_those_45 rfl (lv_at hl 1 rfl) ?_
    refine lv_iload_n hx hb dX12_those_46 rfl (lv_at hl 2 rfl) ?_
    obtain ⟨r14, h13, h⟩ := obr_some h
    refine q_callVi (As := [.int x1, .int x2]) (na := 2) C S (oM0 cI cB ad) rfl (ct_X12_bitsWith l D cI cB cL ad x1 x2 u11 h13) mw_234 mw_233 mw_235 mw_5 mw_232 hdX12_bitsWith ⟨Nat.le_trans (Nat.le_of_ble_eq_true rfl) hR.1, Nat.le_trans (Nat.le_of_ble_eq_true rfl) hR.2⟩ rfl hsz ⟨Nat.zero_le _, Nat.zero_le _⟩ (Nat.le_of_ble_eq_true rfl) dX12_those_47 rfl (fun H locs S => ?_)
    exact q_iret C S (rt_S h) dX12_those_50
  · have h := cnd_f c12 h
    exact wX12_those_40 C hR u11 (lv_sub hl [] rfl) S h
set_option maxRecDepth 10000 in
set_option maxHeartbeats 4000000 in
theorem wX12_those_0 (C : cx D (tyl cI cB cL) A RX12 cX12_those 3 (some .int) p s m args c meth) (hR : 4 ≤ R.frames ∧ 90 ≤ R.locals) {r : Int32} {σ' : Sg} (u : Sg) (x1 : Int32) (x2 : Int32) {H : Heap} {locs : List Loc} {ls : Array Slot} (hl : lv_has ls 3 [(0, .ref (ad 0)), (1, .int x1), (2, .int x2)]) (S : st D (wM cI cB ad) A s u H locs) (h : fX12_those_0 x1 x2 u = some (r, σ')) : W p l e R s m args below meth c H locs 0 0 (MQ below (qI D (tyl cI cB cL) (wM cI cB ad) A r σ') args s 0 0 A) (F0 m 0 ls []) := by
  have hx := C.1
  have hb := C.2.1
  have hsz := hl.1
  unfold fX12_those_0 at h
  refine lv_aload_n hx hb dX12_those_0 rfl (lv_at hl 0 rfl) ?_
  refine lv_iconst (v := 0) hx hb dX12_those_1 (by decide) ?_
  obtain ⟨u1, eu1⟩ : ∃ z : Sg, z = s2 u 0 0 0 := ⟨_, rfl⟩
  have h := bnd_of eu1 h
  refine q_put C S (oM0 cI cB ad) rfl iwX12 tyX12 tyX12_ok nmX12 0 (by decide) mw_11 rfl (iM0_0 cI cB ad) rfl rfl dX12_those_2 eu1 (fun H locs S => ?_)
  refine lv_aload_n hx hb dX12_those_5 rfl (lv_at hl 0 rfl) ?_
  refine lv_aload_n hx hb dX12_those_6 rfl (lv_at hl 0 rfl) ?_
  refine lv_iload_n hx hb dX12_those_7 rfl (lv_at hl 1 rfl) ?_
  obtain ⟨r3, h2, h⟩ := obr_some h
  refine q_callVi (As := [.int x1]) (na := 1) C S (oM0 cI cB ad) rfl (ct_X12_noNode l D cI cB cL ad x1 u1 h2) mw_226 mw_225 mw_227 mw_5 mw_224 hdX12_noNode ⟨Nat.le_trans (Nat.le_of_ble_eq_true rfl) hR.1, Nat.le_trans (Nat.le_of_ble_eq_true rfl) hR.2⟩ rfl hsz ⟨Nat.zero_le _, Nat.zero_le _⟩ (Nat.le_of_ble_eq_true rfl) dX12_those_8 rfl (fun H locs S => ?_)
  refine lv_iconst (v := 1) hx hb dX12_those_11 (by decide) ?_
  obtain ⟨r5, u6, h4, h⟩ := obd_some h
  refine q_callVi (As := [.int r3, .int 1]) (na := 2) C S (oM0 cI cB ad) rfl (ct_X12_throwsIf l D cI cB cL ad r3 1 u1 h4) mw_210 mw_209 mw_211 mw_5 mw_208 hdX12_throwsIf ⟨Nat.le_trans (Nat.le_of_ble_eq_true rfl) hR.1, Nat.le_trans (Nat.le_of_ble_eq_true rfl) hR.2⟩ rfl hsz ⟨Nat.zero_le _, Nat.zero_le _⟩ (Nat.le_of_ble_eq_true rfl) dX12_those_12 rfl (fun H locs S => ?_)
  refine lv_if_ne (tgt := 40) hx hb dX12_those_15 (by decide) (fun c7 => ?_) (fun c7 => ?_)
  · have h := cnd_f c7 h
    exact wX12_those_40 C hR u6 (lv_sub hl [] rfl) S h
  · have h := cnd_t c7 h
    refine lv_aload_n hx hb dX12_those_18 rfl (lv_at hl 0 rfl) ?_
    refine lv_iload_n hx hb dX12_those_19 rfl (lv_at hl 2 rfl) ?_
    refine lv_iconst (v := 1) hx hb dX12_those_20 (by decide) ?_
    refine lv_iconst (v := 3) hx hb dX12_those_21 (by decide) ?_
    refine q_callP (As := [.int x2, .int 1, .int 3]) (na := 3) C S (ct_X12_in l D cI cB cL x2 1 3) mw_28 mw_27 mw_5 mw_26 hdX12_in ⟨Nat.le_trans (Nat.le_of_ble_eq_true rfl) hR.1, Nat.le_trans (Nat.le_of_ble_eq_true rfl) hR.2⟩ rfl hsz ⟨Nat.zero_le _, Nat.zero_le _⟩ (Nat.le_of_ble_eq_true rfl) dX12_those_22 rfl (fun H locs S => ?_)
    refine lv_if_ne (tgt := 32) hx hb dX12_those_25 (by decide) (fun c8 => ?_) (fun c8 => ?_)
    · have h := cnd_f c8 h
      refine lv_iconst (v := 0) hx hb dX12_those_32 (by decide) ?_
      exact wX12_those_33 C hR u6 x1 x2 0 (lv_sub hl [0, 1, 2] rfl) S h
    · have h := cnd_t c8 h
      refine lv_iconst (v := 1) hx hb dX12_those_28 (by decide) ?_
      refine lv_goto (tgt := 33) hx hb dX12_those_29 (by decide) ?_
      exact wX12_those_33 C hR u6 x1 x2 1 (lv_sub hl [0, 1, 2] rfl) S h
set_option maxRecDepth 10000 in
set_option maxHeartbeats 4000000 in
theorem ct_X12_those (l : Launch) (D : va_G) (cI cB cL : ClassId) (ad : Nat → Nat) (x1 : Int32) (x2 : Int32) (u : Sg) {r : Int32} {σ' : Sg} (h : fX12_those x1 x2 u = some (r, σ')) : metI l D (tyl cI cB cL) yX12_those cX12_those 3 (some .int) 4 90 (wM cI cB ad) [.ref (ad 0), .int x1, .int x2] u r σ' := by
  intro sz
  refine Met.ofW (cc := cX12_those) (maxL := 3) (ret := (some .int)) (by decide) rfl ?_
  intro p e s m args below meth c s₁ B hml hv
  obtain ⟨rfl, C, S⟩ := q_entry B hml hv
  have hl := lv_entry ([.ref (ad 0), .int x1, .int x2]) (n := 3) (Nat.le_of_ble_eq_true rfl)
  rw [lg_entry_eq]
  generalize (lg_sl ([.ref (ad 0), .int x1, .int x2]) ++ List.replicate (3 - (lg_sl ([.ref (ad 0), .int x1, .int x2])).length) Slot.unset).toArray = ls at hl ⊢
  exact wX12_those_0 C ⟨Nat.le_refl _, Nat.le_refl _⟩ u x1 x2 (lv_sub hl [0, 1, 2] rfl) S h
noncomputable def fX12_event_50 (x1 : Int32) (x2 : Int32) (t0 : Int32) (u : Sg) : Option (Int32 × Sg) := obd (fX12_throwsIf t0 2 u) (fun r9 u10 => cnd (r9 = 0) (grd (vp_in ((1587 + (4 * x1)) + x2) 32243) (some ((u10 1 ((((1587 + (4 * x1)) + x2) : Int32).toNatClampNeg)), u10))) (some (0, u10)))
noncomputable def fX12_event_28 (x1 : Int32) (x2 : Int32) (t0 : Int32) (u : Sg) : Option (Int32 × Sg) := obd (fX12_throwsIf t0 1 u) (fun r4 u5 => cnd (r4 = 0) (cnd ((fX12_in x2 0 3) = 0) (fX12_event_50 x1 x2 1 u5) (fX12_event_50 x1 x2 0 u5)) (some (0, u5)))
noncomputable def fX12_event_0 (x1 : Int32) (x2 : Int32) (u : Sg) : Option (Int32 × Sg) := bnd (s2 u 0 0 0) (fun u1 => cnd ((fX12_in x1 0 ((u1 1 7) - 1)) = 0) (fX12_event_28 x1 x2 1 u1) (fX12_event_28 x1 x2 0 u1))
noncomputable def fX12_event (x1 : Int32) (x2 : Int32) (u : Sg) : Option (Int32 × Sg) := fX12_event_0 x1 x2 u
set_option maxRecDepth 10000 in
set_option maxHeartbeats 4000000 in
theorem wX12_event_50 (C : cx D (tyl cI cB cL) A RX12 cX12_event 3 (some .int) p s m args c meth) (hR : 1 ≤ R.frames ∧ 22 ≤ R.locals) {r : Int32} {σ' : Sg} (u : Sg) (x1 : Int32) (x2 : Int32) (t0 : Int32) {H : Heap} {locs : List Loc} {ls : Array Slot} (hl : lv_has ls 3 [(0, .ref (ad 0)), (1, .int x1), (2, .int x2)]) (S : st D (wM cI cB ad) A s u H locs) (h : fX12_event_50 x1 x2 t0 u = some (r, σ')) : W p l e R s m args below meth c H locs 0 0 (MQ below (qI D (tyl cI cB cL) (wM cI cB ad) A r σ') args s 0 0 A) (F0 m 50 ls [.int t0, .ref (ad 0)]) := by
  have hx := C.1
  have hb := C.2.1
  have hsz := hl.1
  unfold fX12_event_50 at h
  refine lv_iconst (v := 2) hx hb dX12_event_50 (by decide) ?_
  obtain ⟨r9, u10, h8, h⟩ := obd_some h
  refine q_callVi (As := [.int t0, .int 2]) (na := 2) C S (oM0 cI cB ad) rfl (ct_X12_throwsIf l D cI cB cL ad t0 2 u h8) mw_210 mw_209 mw_211 mw_5 mw_208 hdX12_throwsIf ⟨Nat.le_trans (Nat.le_of_ble_eq_true rfl) hR.1, Nat.le_trans (Nat.le_of_ble_eq_true rfl) hR.2⟩ rfl hsz ⟨Nat.zero_le _, Nat.zero_le _⟩ (Nat.le_of_ble_eq_true rfl) dX12_event_51 rfl (fun H locs S => ?_)
  refine lv_if_eq (tgt := 59) hx hb dX12_event_54 (by decide) (fun c11 => ?_) (fun c11 => ?_)
  · have h := cnd_t c11 h
    refine lv_aload_n hx hb dX12_event_59 rfl (lv_at hl 0 rfl) ?_
    refine q_get (v := .ref (ad 1)) C S (oM0 cI cB ad) rfl iwX12 1 (by decide) mw_14 rfl dX12_event_60 ?_
    refine lv_sipush (v := 1587) hx hb dX12_event_63 (by decide) ?_
    refine lv_iconst (v := 4) hx hb dX12_event_66 (by decide) ?_
    refine lv_iload_n hx hb dX12_event_67 rfl (lv_at hl 1 rfl) ?_
    refine lv_imul hx hb dX12_event_68 ?_
    refine lv_iadd hx hb dX12_event_69 ?_
    refine lv_iload_n hx hb dX12_event_70 rfl (lv_at hl 2 rfl) ?_
    refine lv_iadd hx hb dX12_event_71 ?_
    obtain ⟨g12, h⟩ := grd_some h
    refine q_iald C S (aM1 cI cB ad) 0 rfl g12 dX12_event_72 (j := (((1587 + (4 * x1)) + x2) : Int32).toNatClampNeg) rfl ?_
    exact q_iret C S (rt_S h) dX12_event_73
  · have h := cnd_f c11 h
    refine lv_iconst (v := 0) hx hb dX12_event_57 (by decide) ?_
    exact q_iret C S (rt_S h) dX12_event_58
set_option maxRecDepth 10000 in
set_option maxHeartbeats 4000000 in
theorem wX12_event_28 (C : cx D (tyl cI cB cL) A RX12 cX12_event 3 (some .int) p s m args c meth) (hR : 1 ≤ R.frames ∧ 22 ≤ R.locals) {r : Int32} {σ' : Sg} (u : Sg) (x1 : Int32) (x2 : Int32) (t0 : Int32) {H : Heap} {locs : List Loc} {ls : Array Slot} (hl : lv_has ls 3 [(0, .ref (ad 0)), (1, .int x1), (2, .int x2)]) (S : st D (wM cI cB ad) A s u H locs) (h : fX12_event_28 x1 x2 t0 u = some (r, σ')) : W p l e R s m args below meth c H locs 0 0 (MQ below (qI D (tyl cI cB cL) (wM cI cB ad) A r σ') args s 0 0 A) (F0 m 28 ls [.int t0, .ref (ad 0)]) := by
  have hx := C.1
  have hb := C.2.1
  have hsz := hl.1
  unfold fX12_event_28 at h
  refine lv_iconst (v := 1) hx hb dX12_event_28 (by decide) ?_
  obtain ⟨r4, u5, h3, h⟩ := obd_some h
  refine q_callVi (As := [.int t0, .int 1]) (na := 2) C S (oM0 cI cB ad) rfl (ct_X12_throwsIf l D cI cB cL ad t0 1 u h3) mw_210 mw_209 mw_211 mw_5 mw_208 hdX12_throwsIf ⟨Nat.le_trans (Nat.le_of_ble_eq_true rfl) hR.1, Nat.le_trans (Nat.le_of_ble_eq_true rfl) hR.2⟩ rfl hsz ⟨Nat.zero_le _, Nat.zero_le _⟩ (Nat.le_of_ble_eq_true rfl) dX12_event_29 rfl (fun H locs S => ?_)
  refine lv_if_ne (tgt := 57) hx hb dX12_event_32 (by decide) (fun c6 => ?_) (fun c6 => ?_)
  · have h := cnd_f c6 h
    refine lv_iconst (v := 0) hx hb dX12_event_57 (by decide) ?_
    exact q_iret C S (rt_S h) dX12_event_58
  · have h := cnd_t c6 h
    refine lv_aload_n hx hb dX12_event_35 rfl (lv_at hl 0 rfl) ?_
    refine lv_iload_n hx hb dX12_event_36 rfl (lv_at hl 2 rfl) ?_
    refine lv_iconst (v := 0) hx hb dX12_event_37 (by decide) ?_
    refine lv_iconst (v := 3) hx hb dX12_event_38 (by decide) ?_
    refine q_callP (As := [.int x2, .int 0, .int 3]) (na := 3) C S (ct_X12_in l D cI cB cL x2 0 3) mw_28 mw_27 mw_5 mw_26 hdX12_in ⟨Nat.le_trans (Nat.le_of_ble_eq_true rfl) hR.1, Nat.le_trans (Nat.le_of_ble_eq_true rfl) hR.2⟩ rfl hsz ⟨Nat.zero_le _, Nat.zero_le _⟩ (Nat.le_of_ble_eq_true rfl) dX12_event_39 rfl (fun H locs S => ?_)
    refine lv_if_ne (tgt := 49) hx hb dX12_event_42 (by decide) (fun c7 => ?_) (fun c7 => ?_)
    · have h := cnd_f c7 h
      refine lv_iconst (v := 0) hx hb dX12_event_49 (by decide) ?_
      exact wX12_event_50 C hR u5 x1 x2 0 (lv_sub hl [0, 1, 2] rfl) S h
    · have h := cnd_t c7 h
      refine lv_iconst (v := 1) hx hb dX12_event_45 (by decide) ?_
      refine lv_goto (tgt := 50) hx hb dX12_event_46 (by decide) ?_
      exact wX12_event_50 C hR u5 x1 x2 1 (lv_sub hl [0, 1, 2] rfl) S h
set_option maxRecDepth 10000 in
set_option maxHeartbeats 4000000 in
theorem wX12_event_0 (C : cx D (tyl cI cB cL) A RX12 cX12_event 3 (some .int) p s m args c meth) (hR : 1 ≤ R.frames ∧ 22 ≤ R.locals) {r : Int32} {σ' : Sg} (u : Sg) (x1 : Int32) (x2 : Int32) {H : Heap} {locs : List Loc} {ls : Array Slot} (hl : lv_has ls 3 [(0, .ref (ad 0)), (1, .int x1), (2, .int x2)]) (S : st D (wM cI cB ad) A s u H locs) (h : fX12_event_0 x1 x2 u = some (r, σ')) : W p l e R s m args below meth c H locs 0 0 (MQ below (qI D (tyl cI cB cL) (wM cI cB ad) A r σ') args s 0 0 A) (F0 m 0 ls []) := by
  have hx := C.1
  have hb := C.2.1
  have hsz := hl.1
  unfold fX12_event_0 at h
  refine lv_aload_n hx hb dX12_event_0 rfl (lv_at hl 0 rfl) ?_
  refine lv_iconst (v := 0) hx hb dX12_event_1 (by decide) ?_
  obtain ⟨u1, eu1⟩ : ∃ z : Sg, z = s2 u 0 0 0 := ⟨_, rfl⟩
  have h := bnd_of eu1 h
  refine q_put C S (oM0 cI cB ad) rfl iwX12 tyX12 tyX12_ok nmX12 0 (by decide) mw_11 rfl (iM0_0 cI cB ad) rfl rfl dX12_event_2 eu1 (fun H locs S => ?_)
  refine lv_aload_n hx hb dX12_event_5 rfl (lv_at hl 0 rfl) ?_
  refine lv_iload_n hx hb dX12_event_6 rfl (lv_at hl 1 rfl) ?_
  refine lv_iconst (v := 0) hx hb dX12_event_7 (by decide) ?_
  refine lv_aload_n hx hb dX12_event_8 rfl (lv_at hl 0 rfl) ?_
  refine q_get (v := .ref (ad 1)) C S (oM0 cI cB ad) rfl iwX12 1 (by decide) mw_14 rfl dX12_event_9 ?_
  refine lv_bipush (v := 7) hx hb dX12_event_12 (by decide) ?_
  refine q_iald C S (aM1 cI cB ad) 0 rfl (show vp_in 7 32243 by unfold vp_in; decide) dX12_event_14 (j := 7) (by decide) ?_
  refine lv_iconst (v := 1) hx hb dX12_event_15 (by decide) ?_
  refine lv_isub hx hb dX12_event_16 ?_
  refine q_callP (As := [.int x1, .int 0, .int ((u1 1 7) - 1)]) (na := 3) C S (ct_X12_in l D cI cB cL x1 0 ((u1 1 7) - 1)) mw_28 mw_27 mw_5 mw_26 hdX12_in ⟨Nat.le_trans (Nat.le_of_ble_eq_true rfl) hR.1, Nat.le_trans (Nat.le_of_ble_eq_true rfl) hR.2⟩ rfl hsz ⟨Nat.zero_le _, Nat.zero_le _⟩ (Nat.le_of_ble_eq_true rfl) dX12_event_17 rfl (fun H locs S => ?_)
  refine lv_if_ne (tgt := 27) hx hb dX12_event_20 (by decide) (fun c2 => ?_) (fun c2 => ?_)
  · have h := cnd_f c2 h
    refine lv_iconst (v := 0) hx hb dX12_event_27 (by decide) ?_
    exact wX12_event_28 C hR u1 x1 x2 0 (lv_sub hl [0, 1, 2] rfl) S h
  · have h := cnd_t c2 h
    refine lv_iconst (v := 1) hx hb dX12_event_23 (by decide) ?_
    refine lv_goto (tgt := 28) hx hb dX12_event_24 (by decide) ?_
    exact wX12_event_28 C hR u1 x1 x2 1 (lv_sub hl [0, 1, 2] rfl) S h
set_option maxRecDepth 10000 in
set_option maxHeartbeats 4000000 in
theorem ct_X12_event (l : Launch) (D : va_G) (cI cB cL : ClassId) (ad : Nat → Nat) (x1 : Int32) (x2 : Int32) (u : Sg) {r : Int32} {σ' : Sg} (h : fX12_event x1 x2 u = some (r, σ')) : metI l D (tyl cI cB cL) yX12_event cX12_event 3 (some .int) 1 22 (wM cI cB ad) [.ref (ad 0), .int x1, .int x2] u r σ' := by
  intro sz
  refine Met.ofW (cc := cX12_event) (maxL := 3) (ret := (some .int)) (by decide) rfl ?_
  intro p e s m args below meth c s₁ B hml hv
  obtain ⟨rfl, C, S⟩ := q_entry B hml hv
  have hl := lv_entry ([.ref (ad 0), .int x1, .int x2]) (n := 3) (Nat.le_of_ble_eq_true rfl)
  rw [lg_entry_eq]
  generalize (lg_sl ([.ref (ad 0), .int x1, .int x2]) ++ List.replicate (3 - (lg_sl ([.ref (ad 0), .int x1, .int x2])).length) Slot.unset).toArray = ls at hl ⊢
  exact wX12_event_0 C ⟨Nat.le_refl _, Nat.le_refl _⟩ u x1 x2 (lv_sub hl [0, 1, 2] rfl) S h
noncomputable def fX12_log_20 (x1 : Int32) (x2 : Int32) (t0 : Int32) (u : Sg) : Option (Int32 × Sg) := obd (fX12_throwsIf t0 1 u) (fun r4 u5 => cnd (r4 = 0) (cnd ((fX12_in x1 0 ((u5 1 9) - 1)) = 0) (some ((-1), u5)) (grd (vp_in ((1619 + (4 * x1)) + x2) 32243) (some ((u5 1 ((((1619 + (4 * x1)) + x2) : Int32).toNatClampNeg)), u5)))) (some (0, u5)))
noncomputable def fX12_log_0 (x1 : Int32) (x2 : Int32) (u : Sg) : Option (Int32 × Sg) := bnd (s2 u 0 0 0) (fun u1 => cnd ((fX12_in x2 0 3) = 0) (fX12_log_20 x1 x2 1 u1) (fX12_log_20 x1 x2 0 u1))
noncomputable def fX12_log (x1 : Int32) (x2 : Int32) (u : Sg) : Option (Int32 × Sg) := fX12_log_0 x1 x2 u
set_option maxRecDepth 10000 in
set_option maxHeartbeats 4000000 in
theorem wX12_log_20 (C : cx D (tyl cI cB cL) A RX12 cX12_log 3 (some .int) p s m args c meth) (hR : 1 ≤ R.frames ∧ 22 ≤ R.locals) {r : Int32} {σ' : Sg} (u : Sg) (x1 : Int32) (x2 : Int32) (t0 : Int32) {H : Heap} {locs : List Loc} {ls : Array Slot} (hl : lv_has ls 3 [(0, .ref (ad 0)), (1, .int x1), (2, .int x2)]) (S : st D (wM cI cB ad) A s u H locs) (h : fX12_log_20 x1 x2 t0 u = some (r, σ')) : W p l e R s m args below meth c H locs 0 0 (MQ below (qI D (tyl cI cB cL) (wM cI cB ad) A r σ') args s 0 0 A) (F0 m 20 ls [.int t0, .ref (ad 0)]) := by
  have hx := C.1
  have hb := C.2.1
  have hsz := hl.1
  unfold fX12_log_20 at h
  refine lv_iconst (v := 1) hx hb dX12_log_20 (by decide) ?_
  obtain ⟨r4, u5, h3, h⟩ := obd_some h
  refine q_callVi (As := [.int t0, .int 1]) (na := 2) C S (oM0 cI cB ad) rfl (ct_X12_throwsIf l D cI cB cL ad t0 1 u h3) mw_210 mw_209 mw_211 mw_5 mw_208 hdX12_throwsIf ⟨Nat.le_trans (Nat.le_of_ble_eq_true rfl) hR.1, Nat.le_trans (Nat.le_of_ble_eq_true rfl) hR.2⟩ rfl hsz ⟨Nat.zero_le _, Nat.zero_le _⟩ (Nat.le_of_ble_eq_true rfl) dX12_log_21 rfl (fun H locs S => ?_)
  refine lv_if_eq (tgt := 29) hx hb dX12_log_24 (by decide) (fun c6 => ?_) (fun c6 => ?_)
  · have h := cnd_t c6 h
    refine lv_iload_n hx hb dX12_log_29 rfl (lv_at hl 1 rfl) ?_
    refine lv_iconst (v := 0) hx hb dX12_log_30 (by decide) ?_
    refine lv_aload_n hx hb dX12_log_31 rfl (lv_at hl 0 rfl) ?_
    refine q_get (v := .ref (ad 1)) C S (oM0 cI cB ad) rfl iwX12 1 (by decide) mw_14 rfl dX12_log_32 ?_
    refine lv_bipush (v := 9) hx hb dX12_log_35 (by decide) ?_
    refine q_iald C S (aM1 cI cB ad) 0 rfl (show vp_in 9 32243 by unfold vp_in; decide) dX12_log_37 (j := 9) (by decide) ?_
    refine lv_iconst (v := 1) hx hb dX12_log_38 (by decide) ?_
    refine lv_isub hx hb dX12_log_39 ?_
    refine q_callP (As := [.int x1, .int 0, .int ((u5 1 9) - 1)]) (na := 3) C S (ct_X12_in l D cI cB cL x1 0 ((u5 1 9) - 1)) mw_28 mw_27 mw_5 mw_26 hdX12_in ⟨Nat.le_trans (Nat.le_of_ble_eq_true rfl) hR.1, Nat.le_trans (Nat.le_of_ble_eq_true rfl) hR.2⟩ rfl hsz ⟨Nat.zero_le _, Nat.zero_le _⟩ (Nat.le_of_ble_eq_true rfl) dX12_log_40 rfl (fun H locs S => ?_)
    refine lv_if_eq (tgt := 63) hx hb dX12_log_43 (by decide) (fun c7 => ?_) (fun c7 => ?_)
    · have h := cnd_t c7 h
      refine lv_iconst (v := (-1)) hx hb dX12_log_63 (by decide) ?_
      exact q_iret C S (rt_S h) dX12_log_64
    · have h := cnd_f c7 h
      refine lv_aload_n hx hb dX12_log_46 rfl (lv_at hl 0 rfl) ?_
      refine q_get (v := .ref (ad 1)) C S (oM0 cI cB ad) rfl iwX12 1 (by decide) mw_14 rfl dX12_log_47 ?_
      refine lv_sipush (v := 1619) hx hb dX12_log_50 (by decide) ?_
      refine lv_iconst (v := 4) hx hb dX12_log_53 (by decide) ?_
      refine lv_iload_n hx hb dX12_log_54 rfl (lv_at hl 1 rfl) ?_
      refine lv_imul hx hb dX12_log_55 ?_
      refine lv_iadd hx hb dX12_log_56 ?_
      refine lv_iload_n hx hb dX12_log_57 rfl (lv_at hl 2 rfl) ?_
      refine lv_iadd hx hb dX12_log_58 ?_
      obtain ⟨g8, h⟩ := grd_some h
      refine q_iald C S (aM1 cI cB ad) 0 rfl g8 dX12_log_59 (j := (((1619 + (4 * x1)) + x2) : Int32).toNatClampNeg) rfl ?_
      refine lv_goto (tgt := 64) hx hb dX12_log_60 (by decide) ?_
      exact q_iret C S (rt_S h) dX12_log_64
  · have h := cnd_f c6 h
    refine lv_iconst (v := 0) hx hb dX12_log_27 (by decide) ?_
    exact q_iret C S (rt_S h) dX12_log_28
set_option maxRecDepth 10000 in
set_option maxHeartbeats 4000000 in
theorem wX12_log_0 (C : cx D (tyl cI cB cL) A RX12 cX12_log 3 (some .int) p s m args c meth) (hR : 1 ≤ R.frames ∧ 22 ≤ R.locals) {r : Int32} {σ' : Sg} (u : Sg) (x1 : Int32) (x2 : Int32) {H : Heap} {locs : List Loc} {ls : Array Slot} (hl : lv_has ls 3 [(0, .ref (ad 0)), (1, .int x1), (2, .int x2)]) (S : st D (wM cI cB ad) A s u H locs) (h : fX12_log_0 x1 x2 u = some (r, σ')) : W p l e R s m args below meth c H locs 0 0 (MQ below (qI D (tyl cI cB cL) (wM cI cB ad) A r σ') args s 0 0 A) (F0 m 0 ls []) := by
  have hx := C.1
  have hb := C.2.1
  have hsz := hl.1
  unfold fX12_log_0 at h
  refine lv_aload_n hx hb dX12_log_0 rfl (lv_at hl 0 rfl) ?_
  refine lv_iconst (v := 0) hx hb dX12_log_1 (by decide) ?_
  obtain ⟨u1, eu1⟩ : ∃ z : Sg, z = s2 u 0 0 0 := ⟨_, rfl⟩
  have h := bnd_of eu1 h
  refine q_put C S (oM0 cI cB ad) rfl iwX12 tyX12 tyX12_ok nmX12 0 (by decide) mw_11 rfl (iM0_0 cI cB ad) rfl rfl dX12_log_2 eu1 (fun H locs S => ?_)
  refine lv_aload_n hx hb dX12_log_5 rfl (lv_at hl 0 rfl) ?_
  refine lv_iload_n hx hb dX12_log_6 rfl (lv_at hl 2 rfl) ?_
  refine lv_iconst (v := 0) hx hb dX12_log_7 (by decide) ?_
  refine lv_iconst (v := 3) hx hb dX12_log_8 (by decide) ?_
  refine q_callP (As := [.int x2, .int 0, .int 3]) (na := 3) C S (ct_X12_in l D cI cB cL x2 0 3) mw_28 mw_27 mw_5 mw_26 hdX12_in ⟨Nat.le_trans (Nat.le_of_ble_eq_true rfl) hR.1, Nat.le_trans (Nat.le_of_ble_eq_true rfl) hR.2⟩ rfl hsz ⟨Nat.zero_le _, Nat.zero_le _⟩ (Nat.le_of_ble_eq_true rfl) dX12_log_9 rfl (fun H locs S => ?_)
  refine lv_if_ne (tgt := 19) hx hb dX12_log_12 (by decide) (fun c2 => ?_) (fun c2 => ?_)
  · have h := cnd_f c2 h
    refine lv_iconst (v := 0) hx hb dX12_log_19 (by decide) ?_
    exact wX12_log_20 C hR u1 x1 x2 0 (lv_sub hl [0, 1, 2] rfl) S h
  · have h := cnd_t c2 h
    refine lv_iconst (v := 1) hx hb dX12_log_15 (by decide) ?_
    refine lv_goto (tgt := 20) hx hb dX12_log_16 (by decide) ?_
    exact wX12_log_20 C hR u1 x1 x2 1 (lv_sub hl [0, 1, 2] rfl) S h
set_option maxRecDepth 10000 in
set_option maxHeartbeats 4000000 in
theorem ct_X12_log (l : Launch) (D : va_G) (cI cB cL : ClassId) (ad : Nat → Nat) (x1 : Int32) (x2 : Int32) (u : Sg) {r : Int32} {σ' : Sg} (h : fX12_log x1 x2 u = some (r, σ')) : metI l D (tyl cI cB cL) yX12_log cX12_log 3 (some .int) 1 22 (wM cI cB ad) [.ref (ad 0), .int x1, .int x2] u r σ' := by
  intro sz
  refine Met.ofW (cc := cX12_log) (maxL := 3) (ret := (some .int)) (by decide) rfl ?_
  intro p e s m args below meth c s₁ B hml hv
  obtain ⟨rfl, C, S⟩ := q_entry B hml hv
  have hl := lv_entry ([.ref (ad 0), .int x1, .int x2]) (n := 3) (Nat.le_of_ble_eq_true rfl)
  rw [lg_entry_eq]
  generalize (lg_sl ([.ref (ad 0), .int x1, .int x2]) ++ List.replicate (3 - (lg_sl ([.ref (ad 0), .int x1, .int x2])).length) Slot.unset).toArray = ls at hl ⊢
  exact wX12_log_0 C ⟨Nat.le_refl _, Nat.le_refl _⟩ u x1 x2 (lv_sub hl [0, 1, 2] rfl) S h
noncomputable def fX12_seed_0 (x1 : Int32) (u : Sg) : Option (Int32 × Sg) := bnd (s2 u 0 0 0) (fun u1 => bnd (u1 1 8) (fun v2 => bnd (s2 u1 1 8 x1) (fun u3 => some (v2, u3))))
noncomputable def fX12_seed (x1 : Int32) (u : Sg) : Option (Int32 × Sg) := fX12_seed_0 x1 u
set_option maxRecDepth 10000 in
set_option maxHeartbeats 4000000 in
theorem wX12_seed_0 (C : cx D (tyl cI cB cL) A RX12 cX12_seed 3 (some .int) p s m args c meth) (hR : 0 ≤ R.frames ∧ 0 ≤ R.locals) {r : Int32} {σ' : Sg} (u : Sg) (x1 : Int32) {H : Heap} {locs : List Loc} {ls : Array Slot} (hl : lv_has ls 3 [(0, .ref (ad 0)), (1, .int x1)]) (S : st D (wM cI cB ad) A s u H locs) (h : fX12_seed_0 x1 u = some (r, σ')) : W p l e R s m args below meth c H locs 0 0 (MQ below (qI D (tyl cI cB cL) (wM cI cB ad) A r σ') args s 0 0 A) (F0 m 0 ls []) := by
  have hx := C.1
  have hb := C.2.1
  have hsz := hl.1
  unfold fX12_seed_0 at h
  refine lv_aload_n hx hb dX12_seed_0 rfl (lv_at hl 0 rfl) ?_
  refine lv_iconst (v := 0) hx hb dX12_seed_1 (by decide) ?_
  obtain ⟨u1, eu1⟩ : ∃ z : Sg, z = s2 u 0 0 0 := ⟨_, rfl⟩
  have h := bnd_of eu1 h
  refine q_put C S (oM0 cI cB ad) rfl iwX12 tyX12 tyX12_ok nmX12 0 (by decide) mw_11 rfl (iM0_0 cI cB ad) rfl rfl dX12_seed_2 eu1 (fun H locs S => ?_)
  refine lv_aload_n hx hb dX12_seed_5 rfl (lv_at hl 0 rfl) ?_
  refine q_get (v := .ref (ad 1)) C S (oM0 cI cB ad) rfl iwX12 1 (by decide) mw_14 rfl dX12_seed_6 ?_
  refine lv_bipush (v := 8) hx hb dX12_seed_9 (by decide) ?_
  refine q_iald C S (aM1 cI cB ad) 0 rfl (show vp_in 8 32243 by unfold vp_in; decide) dX12_seed_11 (j := 8) (by decide) ?_
  refine lv_topi (fun v2 ev2 => ?_)
  have h := bnd_of ev2 h
  refine lv_istore_n (lv' := [(2, .int v2), (0, .ref (ad 0)), (1, .int x1)]) hx hb dX12_seed_12 rfl hl (by decide) rfl (fun ls hl => ?_)
  have hsz := hl.1
  refine lv_aload_n hx hb dX12_seed_13 rfl (lv_at hl 1 rfl) ?_
  refine q_get (v := .ref (ad 1)) C S (oM0 cI cB ad) rfl iwX12 1 (by decide) mw_14 rfl dX12_seed_14 ?_
  refine lv_bipush (v := 8) hx hb dX12_seed_17 (by decide) ?_
  refine lv_iload_n hx hb dX12_seed_19 rfl (lv_at hl 2 rfl) ?_
  obtain ⟨u3, eu3⟩ : ∃ z : Sg, z = s2 u1 1 8 x1 := ⟨_, rfl⟩
  have h := bnd_of eu3 h
  refine q_iast C S (aM1 cI cB ad) 0 rfl (show vp_in 8 32243 by unfold vp_in; decide) dX12_seed_20 (j := 8) (by decide) eu3 (fun H locs S => ?_)
  refine lv_iload_n hx hb dX12_seed_21 rfl (lv_at hl 0 rfl) ?_
  exact q_iret C S (rt_S h) dX12_seed_22
set_option maxRecDepth 10000 in
set_option maxHeartbeats 4000000 in
theorem ct_X12_seed (l : Launch) (D : va_G) (cI cB cL : ClassId) (ad : Nat → Nat) (x1 : Int32) (u : Sg) {r : Int32} {σ' : Sg} (h : fX12_seed x1 u = some (r, σ')) : metI l D (tyl cI cB cL) yX12_seed cX12_seed 3 (some .int) 0 0 (wM cI cB ad) [.ref (ad 0), .int x1] u r σ' := by
  intro sz
  refine Met.ofW (cc := cX12_seed) (maxL := 3) (ret := (some .int)) (by decide) rfl ?_
  intro p e s m args below meth c s₁ B hml hv
  obtain ⟨rfl, C, S⟩ := q_entry B hml hv
  have hl := lv_entry ([.ref (ad 0), .int x1]) (n := 3) (Nat.le_of_ble_eq_true rfl)
  rw [lg_entry_eq]
  generalize (lg_sl ([.ref (ad 0), .int x1]) ++ List.replicate (3 - (lg_sl ([.ref (ad 0), .int x1])).length) Slot.unset).toArray = ls at hl ⊢
  exact wX12_seed_0 C ⟨Nat.le_refl _, Nat.le_refl _⟩ u x1 (lv_sub hl [0, 1] rfl) S h
end S_14_m04
