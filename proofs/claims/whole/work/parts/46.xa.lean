theorem mw_759 : Cond.fieldLink RX11 10 "LeastPending" "tape" "LLeastPending$Tape;" ∈ gw := gw_t2 138 rfl rfl
theorem mw_760 : Cond.fieldLink RX11 53 "LeastPending$Tape" "length" "I" ∈ gw := gw_t1 47 rfl rfl
theorem mw_761 : Cond.code yX10_add cX10_add 3 none ∈ gw := gw_t2 170 rfl rfl
theorem mw_762 : Cond.initialized RX10 ∈ gw := gw_t1 2 rfl rfl
theorem mw_763 : Cond.methodLink RX11 56 yX10_add ∈ gw := gw_t2 167 rfl rfl
theorem mw_764 : Cond.instanceMethod yX10_add ∈ gw := gw_t2 168 rfl rfl
theorem mw_765 : Cond.selects RX10 yX10_add yX10_add ∈ gw := gw_t2 169 rfl rfl
theorem mw_766 : Cond.fieldLink RX11 49 "LeastPending" "wrongByte" "I" ∈ gw := gw_t2 145 rfl rfl
theorem mw_767 : Cond.fieldLink RX11 35 "LeastPending" "now" "LLeastPending$Net;" ∈ gw := gw_t2 142 rfl rfl
theorem mw_768 : Cond.fieldLink RX11 374 "LeastPending$Net" "nodeCount" "I" ∈ gw := gw_t2 50 rfl rfl
theorem mw_769 : Cond.fieldLink RX11 377 "LeastPending$Net" "groupCount" "I" ∈ gw := gw_t2 54 rfl rfl
theorem mw_770 : Cond.code yX11_needGroup cX11_needGroup 2 none ∈ gw := gw_t4 100 rfl rfl
theorem mw_771 : Cond.methodLink RX11 124 yX11_needGroup ∈ gw := gw_t4 97 rfl rfl
theorem mw_772 : Cond.instanceMethod yX11_needGroup ∈ gw := gw_t4 99 rfl rfl
theorem mw_773 : Cond.selects RX11 yX11_needGroup yX11_needGroup ∈ gw := gw_pv (n := 8) (List.mem_of_getElem? (i := 14) rfl)
theorem mw_774 : Cond.fieldLink RX11 127 "LeastPending$Net" "groups" "[I" ∈ gw := gw_t2 74 rfl rfl
theorem mw_775 : Cond.fieldLink RX11 133 "LeastPending$Net" "mail" "LLeastPending$Mail;" ∈ gw := gw_t2 86 rfl rfl
theorem mw_776 : Cond.fieldLink RX11 319 "LeastPending$Mail" "total" "I" ∈ gw := gw_t1 150 rfl rfl
theorem mw_777 : Cond.code yX11_needNode cX11_needNode 2 none ∈ gw := gw_t4 41 rfl rfl
theorem mw_778 : Cond.methodLink RX11 83 yX11_needNode ∈ gw := gw_t4 38 rfl rfl
theorem mw_779 : Cond.instanceMethod yX11_needNode ∈ gw := gw_t4 40 rfl rfl
theorem mw_780 : Cond.selects RX11 yX11_needNode yX11_needNode ∈ gw := gw_pv (n := 8) (List.mem_of_getElem? (i := 13) rfl)
theorem mw_781 : Cond.fieldLink RX11 104 "LeastPending$Net" "holdings" "LLeastPending$Holdings;" ∈ gw := gw_t2 90 rfl rfl
theorem mw_782 : Cond.fieldLink RX11 108 "LeastPending$Holdings" "handedOut" "[I" ∈ gw := gw_t1 204 rfl rfl
theorem mw_783 : Cond.fieldLink RX11 181 "LeastPending$Holdings" "order" "[I" ∈ gw := gw_t1 201 rfl rfl
theorem mw_784 : Cond.methodLink RX11 163 yX11_spotOf ∈ gw := gw_t4 134 rfl rfl
theorem mw_785 : Cond.methodLink RX11 86 yX7_isUp ∈ gw := gw_t4 58 rfl rfl
theorem mw_786 : Cond.methodLink RX11 260 yX7_goDown ∈ gw := gw_t5 147 rfl rfl
theorem mw_787 : Cond.methodLink RX11 183 yX11_channelOf ∈ gw := gw_t4 155 rfl rfl
theorem mw_788 : Cond.fieldLink RX11 186 "LeastPending$Net" "channels" "LLeastPending$Channels;" ∈ gw := gw_t2 83 rfl rfl
theorem mw_789 : Cond.fieldLink RX11 195 "LeastPending$Channels" "held" "[I" ∈ gw := gw_t1 109 rfl rfl
theorem mw_790 : Cond.code yX11_needMessage cX11_needMessage 2 none ∈ gw := gw_t4 112 rfl rfl
theorem mw_791 : Cond.methodLink RX11 130 yX11_needMessage ∈ gw := gw_t4 109 rfl rfl
theorem mw_792 : Cond.instanceMethod yX11_needMessage ∈ gw := gw_t4 111 rfl rfl
theorem mw_793 : Cond.selects RX11 yX11_needMessage yX11_needMessage ∈ gw := gw_pv (n := 8) (List.mem_of_getElem? (i := 15) rfl)
theorem mw_794 : Cond.methodLink RX11 276 yX0_blockOf ∈ gw := gw_t5 184 rfl rfl
theorem mw_795 : Cond.methodLink RX11 280 yX0_waitsOf ∈ gw := gw_t5 195 rfl rfl
theorem mw_796 : Cond.code yX11_needTwo cX11_needTwo 2 none ∈ gw := gw_t5 209 rfl rfl
theorem mw_797 : Cond.methodLink RX11 283 yX11_needTwo ∈ gw := gw_t5 207 rfl rfl
theorem mw_798 : Cond.static yX11_needTwo ∈ gw := gw_t5 208 rfl rfl
theorem mw_799 : Cond.fieldLink RX11 28 "LeastPending" "order" "LLeastPending$Order;" ∈ gw := gw_t2 140 rfl rfl
theorem mw_800 : Cond.code yX8_read cX8_read 6 none ∈ gw := gw_t2 186 rfl rfl
theorem mw_801 : Cond.methodLink RX11 287 yX8_read ∈ gw := gw_t2 183 rfl rfl
theorem mw_802 : Cond.instanceMethod yX8_read ∈ gw := gw_t2 184 rfl rfl
theorem mw_803 : Cond.selects RX8 yX8_read yX8_read ∈ gw := gw_t2 185 rfl rfl
theorem mw_804 : Cond.methodLink RX11 290 yX8_isAhead ∈ gw := gw_t5 211 rfl rfl
theorem hdX8_read : yX8_read.cls = RX8 ∧ yX8_read.cls ≠ "java/lang/invoke/MethodHandle" ∧ yX8_read.cls ≠ "java/lang/invoke/VarHandle" ∧ (parseMethodDescriptor yX8_read.desc).map (fun d => d.parameters.length) = some 1 := by decide +kernel
theorem hdX10_add : yX10_add.cls = RX10 ∧ yX10_add.cls ≠ "java/lang/invoke/MethodHandle" ∧ yX10_add.cls ≠ "java/lang/invoke/VarHandle" ∧ (parseMethodDescriptor yX10_add.desc).map (fun d => d.parameters.length) = some 1 := by decide +kernel
theorem hdX11_needGroup : yX11_needGroup.cls = RX11 ∧ yX11_needGroup.cls ≠ "java/lang/invoke/MethodHandle" ∧ yX11_needGroup.cls ≠ "java/lang/invoke/VarHandle" ∧ (parseMethodDescriptor yX11_needGroup.desc).map (fun d => d.parameters.length) = some 1 := by decide +kernel
theorem hdX11_needMessage : yX11_needMessage.cls = RX11 ∧ yX11_needMessage.cls ≠ "java/lang/invoke/MethodHandle" ∧ yX11_needMessage.cls ≠ "java/lang/invoke/VarHandle" ∧ (parseMethodDescriptor yX11_needMessage.desc).map (fun d => d.parameters.length) = some 1 := by decide +kernel
theorem hdX11_needNode : yX11_needNode.cls = RX11 ∧ yX11_needNode.cls ≠ "java/lang/invoke/MethodHandle" ∧ yX11_needNode.cls ≠ "java/lang/invoke/VarHandle" ∧ (parseMethodDescriptor yX11_needNode.desc).map (fun d => d.parameters.length) = some 1 := by decide +kernel
theorem hdX11_needTwo : yX11_needTwo.cls ≠ "java/lang/invoke/MethodHandle" ∧ yX11_needTwo.cls ≠ "java/lang/invoke/VarHandle" ∧ (parseMethodDescriptor yX11_needTwo.desc).map (fun d => d.parameters.length) = some 2 := by decide +kernel
theorem dX11_feed_0 : decode cX11_feed 0 = .ok (.aload_n 0, 1) := by decide +kernel
theorem dX11_feed_1 : decode cX11_feed 1 = .ok (.getfield 10, 3) := by decide +kernel
theorem dX11_feed_4 : decode cX11_feed 4 = .ok (.getfield 53, 3) := by decide +kernel
theorem dX11_feed_7 : decode cX11_feed 7 = .ok (.bipush 20, 2) := by decide +kernel
theorem dX11_feed_9 : decode cX11_feed 9 = .ok (.iadd, 1) := by decide +kernel
theorem dX11_feed_10 : decode cX11_feed 10 = .ok (.sipush 400, 3) := by decide +kernel
theorem dX11_feed_13 : decode cX11_feed 13 = .ok (.if_icmp .le 5, 3) := by decide +kernel
theorem dX11_feed_16 : decode cX11_feed 16 = .ok (.iconst (-1), 1) := by decide +kernel
theorem dX11_feed_17 : decode cX11_feed 17 = .ok (.ireturn, 1) := by decide +kernel
theorem dX11_feed_18 : decode cX11_feed 18 = .ok (.aload_n 0, 1) := by decide +kernel
theorem dX11_feed_19 : decode cX11_feed 19 = .ok (.getfield 10, 3) := by decide +kernel
theorem dX11_feed_22 : decode cX11_feed 22 = .ok (.iload_n 1, 1) := by decide +kernel
theorem dX11_feed_23 : decode cX11_feed 23 = .ok (.invokevirtual 56, 3) := by decide +kernel
theorem dX11_feed_26 : decode cX11_feed 26 = .ok (.aload_n 0, 1) := by decide +kernel
theorem dX11_feed_27 : decode cX11_feed 27 = .ok (.getfield 10, 3) := by decide +kernel
theorem dX11_feed_30 : decode cX11_feed 30 = .ok (.iload_n 2, 1) := by decide +kernel
theorem dX11_feed_31 : decode cX11_feed 31 = .ok (.invokevirtual 56, 3) := by decide +kernel
theorem dX11_feed_34 : decode cX11_feed 34 = .ok (.aload_n 0, 1) := by decide +kernel
theorem dX11_feed_35 : decode cX11_feed 35 = .ok (.getfield 10, 3) := by decide +kernel
theorem dX11_feed_38 : decode cX11_feed 38 = .ok (.iload_n 3, 1) := by decide +kernel
theorem dX11_feed_39 : decode cX11_feed 39 = .ok (.invokevirtual 56, 3) := by decide +kernel
theorem dX11_feed_42 : decode cX11_feed 42 = .ok (.aload_n 0, 1) := by decide +kernel
theorem dX11_feed_43 : decode cX11_feed 43 = .ok (.getfield 10, 3) := by decide +kernel
theorem dX11_feed_46 : decode cX11_feed 46 = .ok (.iload 4, 2) := by decide +kernel
theorem dX11_feed_48 : decode cX11_feed 48 = .ok (.invokevirtual 56, 3) := by decide +kernel
theorem dX11_feed_51 : decode cX11_feed 51 = .ok (.aload_n 0, 1) := by decide +kernel
theorem dX11_feed_52 : decode cX11_feed 52 = .ok (.getfield 10, 3) := by decide +kernel
theorem dX11_feed_55 : decode cX11_feed 55 = .ok (.iload 5, 2) := by decide +kernel
theorem dX11_feed_57 : decode cX11_feed 57 = .ok (.invokevirtual 56, 3) := by decide +kernel
theorem dX11_feed_60 : decode cX11_feed 60 = .ok (.aload_n 0, 1) := by decide +kernel
theorem dX11_feed_61 : decode cX11_feed 61 = .ok (.getfield 10, 3) := by decide +kernel
theorem dX11_feed_64 : decode cX11_feed 64 = .ok (.getfield 53, 3) := by decide +kernel
theorem dX11_feed_67 : decode cX11_feed 67 = .ok (.ireturn, 1) := by decide +kernel
theorem dX11_end_0 : decode cX11_end 0 = .ok (.iload_n 1, 1) := by decide +kernel
theorem dX11_end_1 : decode cX11_end 1 = .ok (.ifCond .lt 14, 3) := by decide +kernel
theorem dX11_end_4 : decode cX11_end 4 = .ok (.iload_n 1, 1) := by decide +kernel
theorem dX11_end_5 : decode cX11_end 5 = .ok (.aload_n 0, 1) := by decide +kernel
theorem dX11_end_6 : decode cX11_end 6 = .ok (.getfield 10, 3) := by decide +kernel
theorem dX11_end_9 : decode cX11_end 9 = .ok (.getfield 53, 3) := by decide +kernel
theorem dX11_end_12 : decode cX11_end 12 = .ok (.if_icmp .le 5, 3) := by decide +kernel
theorem dX11_end_15 : decode cX11_end 15 = .ok (.iconst 0, 1) := by decide +kernel
theorem dX11_end_16 : decode cX11_end 16 = .ok (.ireturn, 1) := by decide +kernel
theorem dX11_end_17 : decode cX11_end 17 = .ok (.aload_n 0, 1) := by decide +kernel
theorem dX11_end_18 : decode cX11_end 18 = .ok (.getfield 10, 3) := by decide +kernel
theorem dX11_end_21 : decode cX11_end 21 = .ok (.iload_n 1, 1) := by decide +kernel
theorem dX11_end_22 : decode cX11_end 22 = .ok (.putfield 53, 3) := by decide +kernel
theorem dX11_end_25 : decode cX11_end 25 = .ok (.iconst 1, 1) := by decide +kernel
theorem dX11_end_26 : decode cX11_end 26 = .ok (.ireturn, 1) := by decide +kernel
theorem dX11_fault_0 : decode cX11_fault 0 = .ok (.aload_n 0, 1) := by decide +kernel
theorem dX11_fault_1 : decode cX11_fault 1 = .ok (.getfield 49, 3) := by decide +kernel
theorem dX11_fault_4 : decode cX11_fault 4 = .ok (.ireturn, 1) := by decide +kernel
theorem dX11_needNode_0 : decode cX11_needNode 0 = .ok (.iload_n 1, 1) := by decide +kernel
theorem dX11_needNode_1 : decode cX11_needNode 1 = .ok (.ifCond .lt 14, 3) := by decide +kernel
theorem dX11_needNode_4 : decode cX11_needNode 4 = .ok (.iload_n 1, 1) := by decide +kernel
theorem dX11_needNode_5 : decode cX11_needNode 5 = .ok (.aload_n 0, 1) := by decide +kernel
theorem dX11_needNode_6 : decode cX11_needNode 6 = .ok (.getfield 35, 3) := by decide +kernel
theorem dX11_needNode_9 : decode cX11_needNode 9 = .ok (.getfield 374, 3) := by decide +kernel
theorem dX11_needNode_12 : decode cX11_needNode 12 = .ok (.if_icmp .lt 14, 3) := by decide +kernel
theorem dX11_needNode_15 : decode cX11_needNode 15 = .ok (.new 206, 3) := by decide +kernel
theorem dX11_needNode_18 : decode cX11_needNode 18 = .ok (.dup, 1) := by decide +kernel
theorem dX11_needNode_19 : decode cX11_needNode 19 = .ok (.ldc_w 392, 3) := by decide +kernel
theorem dX11_needNode_22 : decode cX11_needNode 22 = .ok (.invokespecial 210, 3) := by decide +kernel
theorem dX11_needNode_25 : decode cX11_needNode 25 = .ok (.athrow, 1) := by decide +kernel
theorem dX11_needNode_26 : decode cX11_needNode 26 = .ok (.return_, 1) := by decide +kernel
theorem dX11_needGroup_0 : decode cX11_needGroup 0 = .ok (.iload_n 1, 1) := by decide +kernel
theorem dX11_needGroup_1 : decode cX11_needGroup 1 = .ok (.ifCond .lt 14, 3) := by decide +kernel
theorem dX11_needGroup_4 : decode cX11_needGroup 4 = .ok (.iload_n 1, 1) := by decide +kernel
theorem dX11_needGroup_5 : decode cX11_needGroup 5 = .ok (.aload_n 0, 1) := by decide +kernel
theorem dX11_needGroup_6 : decode cX11_needGroup 6 = .ok (.getfield 35, 3) := by decide +kernel
theorem dX11_needGroup_9 : decode cX11_needGroup 9 = .ok (.getfield 377, 3) := by decide +kernel
theorem dX11_needGroup_12 : decode cX11_needGroup 12 = .ok (.if_icmp .lt 14, 3) := by decide +kernel
theorem dX11_needGroup_15 : decode cX11_needGroup 15 = .ok (.new 206, 3) := by decide +kernel
theorem dX11_needGroup_18 : decode cX11_needGroup 18 = .ok (.dup, 1) := by decide +kernel
theorem dX11_needGroup_19 : decode cX11_needGroup 19 = .ok (.ldc_w 394, 3) := by decide +kernel
theorem dX11_needGroup_22 : decode cX11_needGroup 22 = .ok (.invokespecial 210, 3) := by decide +kernel
theorem dX11_needGroup_25 : decode cX11_needGroup 25 = .ok (.athrow, 1) := by decide +kernel
theorem dX11_needGroup_26 : decode cX11_needGroup 26 = .ok (.return_, 1) := by decide +kernel
theorem dX11_group_0 : decode cX11_group 0 = .ok (.aload_n 0, 1) := by decide +kernel
theorem dX11_group_1 : decode cX11_group 1 = .ok (.iload_n 1, 1) := by decide +kernel
theorem dX11_group_2 : decode cX11_group 2 = .ok (.invokevirtual 124, 3) := by decide +kernel
theorem dX11_group_5 : decode cX11_group 5 = .ok (.aload_n 0, 1) := by decide +kernel
theorem dX11_group_6 : decode cX11_group 6 = .ok (.getfield 35, 3) := by decide +kernel
theorem dX11_group_9 : decode cX11_group 9 = .ok (.getfield 127, 3) := by decide +kernel
theorem dX11_group_12 : decode cX11_group 12 = .ok (.iload_n 1, 1) := by decide +kernel
theorem dX11_group_13 : decode cX11_group 13 = .ok (.iaload, 1) := by decide +kernel
theorem dX11_group_14 : decode cX11_group 14 = .ok (.ireturn, 1) := by decide +kernel
theorem dX11_needMessage_0 : decode cX11_needMessage 0 = .ok (.iload_n 1, 1) := by decide +kernel
theorem dX11_needMessage_1 : decode cX11_needMessage 1 = .ok (.ifCond .lt 17, 3) := by decide +kernel
theorem dX11_needMessage_4 : decode cX11_needMessage 4 = .ok (.iload_n 1, 1) := by decide +kernel
theorem dX11_needMessage_5 : decode cX11_needMessage 5 = .ok (.aload_n 0, 1) := by decide +kernel
theorem dX11_needMessage_6 : decode cX11_needMessage 6 = .ok (.getfield 35, 3) := by decide +kernel
theorem dX11_needMessage_9 : decode cX11_needMessage 9 = .ok (.getfield 133, 3) := by decide +kernel
theorem dX11_needMessage_12 : decode cX11_needMessage 12 = .ok (.getfield 319, 3) := by decide +kernel
theorem dX11_needMessage_15 : decode cX11_needMessage 15 = .ok (.if_icmp .lt 14, 3) := by decide +kernel
theorem dX11_needMessage_18 : decode cX11_needMessage 18 = .ok (.new 206, 3) := by decide +kernel
theorem dX11_needMessage_21 : decode cX11_needMessage 21 = .ok (.dup, 1) := by decide +kernel
theorem dX11_needMessage_22 : decode cX11_needMessage 22 = .ok (.ldc_w 396, 3) := by decide +kernel
theorem dX11_needMessage_25 : decode cX11_needMessage 25 = .ok (.invokespecial 210, 3) := by decide +kernel
theorem dX11_needMessage_28 : decode cX11_needMessage 28 = .ok (.athrow, 1) := by decide +kernel
theorem dX11_needMessage_29 : decode cX11_needMessage 29 = .ok (.return_, 1) := by decide +kernel
theorem dX11_delivered_0 : decode cX11_delivered 0 = .ok (.aload_n 0, 1) := by decide +kernel
theorem dX11_delivered_1 : decode cX11_delivered 1 = .ok (.iload_n 1, 1) := by decide +kernel
theorem dX11_delivered_2 : decode cX11_delivered 2 = .ok (.invokevirtual 83, 3) := by decide +kernel
theorem dX11_delivered_5 : decode cX11_delivered 5 = .ok (.iload_n 2, 1) := by decide +kernel
theorem dX11_delivered_6 : decode cX11_delivered 6 = .ok (.ifCond .lt 19, 3) := by decide +kernel
theorem dX11_delivered_9 : decode cX11_delivered 9 = .ok (.iload_n 2, 1) := by decide +kernel
theorem dX11_delivered_10 : decode cX11_delivered 10 = .ok (.aload_n 0, 1) := by decide +kernel
theorem dX11_delivered_11 : decode cX11_delivered 11 = .ok (.getfield 35, 3) := by decide +kernel
theorem dX11_delivered_14 : decode cX11_delivered 14 = .ok (.getfield 104, 3) := by decide +kernel
theorem dX11_delivered_17 : decode cX11_delivered 17 = .ok (.getfield 108, 3) := by decide +kernel
theorem dX11_delivered_20 : decode cX11_delivered 20 = .ok (.iload_n 1, 1) := by decide +kernel
theorem dX11_delivered_21 : decode cX11_delivered 21 = .ok (.iaload, 1) := by decide +kernel
theorem dX11_delivered_22 : decode cX11_delivered 22 = .ok (.if_icmp .lt 5, 3) := by decide +kernel
theorem dX11_delivered_25 : decode cX11_delivered 25 = .ok (.iconst (-1), 1) := by decide +kernel
theorem dX11_delivered_26 : decode cX11_delivered 26 = .ok (.ireturn, 1) := by decide +kernel
theorem dX11_delivered_27 : decode cX11_delivered 27 = .ok (.aload_n 0, 1) := by decide +kernel
theorem dX11_delivered_28 : decode cX11_delivered 28 = .ok (.getfield 35, 3) := by decide +kernel
theorem dX11_delivered_31 : decode cX11_delivered 31 = .ok (.getfield 104, 3) := by decide +kernel
theorem dX11_delivered_34 : decode cX11_delivered 34 = .ok (.getfield 181, 3) := by decide +kernel
theorem dX11_delivered_37 : decode cX11_delivered 37 = .ok (.iload_n 1, 1) := by decide +kernel
theorem dX11_delivered_38 : decode cX11_delivered 38 = .ok (.iload_n 2, 1) := by decide +kernel
theorem dX11_delivered_39 : decode cX11_delivered 39 = .ok (.invokestatic 163, 3) := by decide +kernel
theorem dX11_delivered_42 : decode cX11_delivered 42 = .ok (.iaload, 1) := by decide +kernel
theorem dX11_delivered_43 : decode cX11_delivered 43 = .ok (.ireturn, 1) := by decide +kernel
theorem dX11_crash_0 : decode cX11_crash 0 = .ok (.aload_n 0, 1) := by decide +kernel
theorem dX11_crash_1 : decode cX11_crash 1 = .ok (.iload_n 1, 1) := by decide +kernel
theorem dX11_crash_2 : decode cX11_crash 2 = .ok (.invokevirtual 83, 3) := by decide +kernel
theorem dX11_crash_5 : decode cX11_crash 5 = .ok (.aload_n 0, 1) := by decide +kernel
theorem dX11_crash_6 : decode cX11_crash 6 = .ok (.getfield 35, 3) := by decide +kernel
theorem dX11_crash_9 : decode cX11_crash 9 = .ok (.iload_n 1, 1) := by decide +kernel
theorem dX11_crash_10 : decode cX11_crash 10 = .ok (.invokevirtual 86, 3) := by decide +kernel
theorem dX11_crash_13 : decode cX11_crash 13 = .ok (.ifCond .ne 14, 3) := by decide +kernel
theorem dX11_crash_16 : decode cX11_crash 16 = .ok (.new 228, 3) := by decide +kernel
theorem dX11_crash_19 : decode cX11_crash 19 = .ok (.dup, 1) := by decide +kernel
theorem dX11_crash_20 : decode cX11_crash 20 = .ok (.ldc_w 258, 3) := by decide +kernel
theorem dX11_crash_23 : decode cX11_crash 23 = .ok (.invokespecial 232, 3) := by decide +kernel
theorem dX11_crash_26 : decode cX11_crash 26 = .ok (.athrow, 1) := by decide +kernel
theorem dX11_crash_27 : decode cX11_crash 27 = .ok (.aload_n 0, 1) := by decide +kernel
theorem dX11_crash_28 : decode cX11_crash 28 = .ok (.getfield 35, 3) := by decide +kernel
theorem dX11_crash_31 : decode cX11_crash 31 = .ok (.iload_n 1, 1) := by decide +kernel
theorem dX11_crash_32 : decode cX11_crash 32 = .ok (.invokevirtual 260, 3) := by decide +kernel
theorem dX11_crash_35 : decode cX11_crash 35 = .ok (.return_, 1) := by decide +kernel
theorem dX11_hold_0 : decode cX11_hold 0 = .ok (.aload_n 0, 1) := by decide +kernel
theorem dX11_hold_1 : decode cX11_hold 1 = .ok (.iload_n 1, 1) := by decide +kernel
theorem dX11_hold_2 : decode cX11_hold 2 = .ok (.invokevirtual 83, 3) := by decide +kernel
theorem dX11_hold_5 : decode cX11_hold 5 = .ok (.aload_n 0, 1) := by decide +kernel
theorem dX11_hold_6 : decode cX11_hold 6 = .ok (.iload_n 2, 1) := by decide +kernel
theorem dX11_hold_7 : decode cX11_hold 7 = .ok (.invokevirtual 83, 3) := by decide +kernel
theorem dX11_hold_10 : decode cX11_hold 10 = .ok (.iload_n 1, 1) := by decide +kernel
theorem dX11_hold_11 : decode cX11_hold 11 = .ok (.iload_n 2, 1) := by decide +kernel
theorem dX11_hold_12 : decode cX11_hold 12 = .ok (.invokestatic 183, 3) := by decide +kernel
theorem dX11_hold_15 : decode cX11_hold 15 = .ok (.istore 4, 2) := by decide +kernel
theorem dX11_hold_17 : decode cX11_hold 17 = .ok (.iload_n 3, 1) := by decide +kernel
theorem dX11_hold_18 : decode cX11_hold 18 = .ok (.ifCond .eq 7, 3) := by decide +kernel
theorem dX11_hold_21 : decode cX11_hold 21 = .ok (.iconst 1, 1) := by decide +kernel
theorem dX11_hold_22 : decode cX11_hold 22 = .ok (.goto 4, 3) := by decide +kernel
theorem dX11_hold_25 : decode cX11_hold 25 = .ok (.iconst 0, 1) := by decide +kernel
theorem dX11_hold_26 : decode cX11_hold 26 = .ok (.istore 5, 2) := by decide +kernel
theorem dX11_hold_28 : decode cX11_hold 28 = .ok (.aload_n 0, 1) := by decide +kernel
theorem dX11_hold_29 : decode cX11_hold 29 = .ok (.getfield 35, 3) := by decide +kernel
theorem dX11_hold_32 : decode cX11_hold 32 = .ok (.getfield 186, 3) := by decide +kernel
theorem dX11_hold_35 : decode cX11_hold 35 = .ok (.getfield 195, 3) := by decide +kernel
theorem dX11_hold_38 : decode cX11_hold 38 = .ok (.iload 4, 2) := by decide +kernel
theorem dX11_hold_40 : decode cX11_hold 40 = .ok (.iaload, 1) := by decide +kernel
theorem dX11_hold_41 : decode cX11_hold 41 = .ok (.iload 5, 2) := by decide +kernel
theorem dX11_hold_43 : decode cX11_hold 43 = .ok (.if_icmp .eq 7, 3) := by decide +kernel
theorem dX11_hold_46 : decode cX11_hold 46 = .ok (.iconst 1, 1) := by decide +kernel
theorem dX11_hold_47 : decode cX11_hold 47 = .ok (.goto 4, 3) := by decide +kernel
theorem dX11_hold_50 : decode cX11_hold 50 = .ok (.iconst 0, 1) := by decide +kernel
theorem dX11_hold_51 : decode cX11_hold 51 = .ok (.istore 6, 2) := by decide +kernel
theorem dX11_hold_53 : decode cX11_hold 53 = .ok (.aload_n 0, 1) := by decide +kernel
theorem dX11_hold_54 : decode cX11_hold 54 = .ok (.getfield 35, 3) := by decide +kernel
theorem dX11_hold_57 : decode cX11_hold 57 = .ok (.getfield 186, 3) := by decide +kernel
theorem dX11_hold_60 : decode cX11_hold 60 = .ok (.getfield 195, 3) := by decide +kernel
theorem dX11_hold_63 : decode cX11_hold 63 = .ok (.iload 4, 2) := by decide +kernel
theorem dX11_hold_65 : decode cX11_hold 65 = .ok (.iload 5, 2) := by decide +kernel
theorem dX11_hold_67 : decode cX11_hold 67 = .ok (.iastore, 1) := by decide +kernel
theorem dX11_hold_68 : decode cX11_hold 68 = .ok (.iload 6, 2) := by decide +kernel
theorem dX11_hold_70 : decode cX11_hold 70 = .ok (.ireturn, 1) := by decide +kernel
theorem dX11_block_0 : decode cX11_block 0 = .ok (.aload_n 0, 1) := by decide +kernel
theorem dX11_block_1 : decode cX11_block 1 = .ok (.iload_n 1, 1) := by decide +kernel
theorem dX11_block_2 : decode cX11_block 2 = .ok (.invokevirtual 83, 3) := by decide +kernel
theorem dX11_block_5 : decode cX11_block 5 = .ok (.aload_n 0, 1) := by decide +kernel
theorem dX11_block_6 : decode cX11_block 6 = .ok (.iload_n 2, 1) := by decide +kernel
theorem dX11_block_7 : decode cX11_block 7 = .ok (.invokevirtual 130, 3) := by decide +kernel
theorem dX11_block_10 : decode cX11_block 10 = .ok (.aload_n 0, 1) := by decide +kernel
theorem dX11_block_11 : decode cX11_block 11 = .ok (.getfield 35, 3) := by decide +kernel
theorem dX11_block_14 : decode cX11_block 14 = .ok (.iload_n 1, 1) := by decide +kernel
theorem dX11_block_15 : decode cX11_block 15 = .ok (.iload_n 2, 1) := by decide +kernel
theorem dX11_block_16 : decode cX11_block 16 = .ok (.invokestatic 276, 3) := by decide +kernel
theorem dX11_block_19 : decode cX11_block 19 = .ok (.ireturn, 1) := by decide +kernel
theorem dX11_waits_0 : decode cX11_waits 0 = .ok (.aload_n 0, 1) := by decide +kernel
theorem dX11_waits_1 : decode cX11_waits 1 = .ok (.iload_n 1, 1) := by decide +kernel
theorem dX11_waits_2 : decode cX11_waits 2 = .ok (.invokevirtual 130, 3) := by decide +kernel
theorem dX11_waits_5 : decode cX11_waits 5 = .ok (.aload_n 0, 1) := by decide +kernel
theorem dX11_waits_6 : decode cX11_waits 6 = .ok (.getfield 35, 3) := by decide +kernel
theorem dX11_waits_9 : decode cX11_waits 9 = .ok (.iload_n 1, 1) := by decide +kernel
theorem dX11_waits_10 : decode cX11_waits 10 = .ok (.invokestatic 280, 3) := by decide +kernel
theorem dX11_waits_13 : decode cX11_waits 13 = .ok (.ireturn, 1) := by decide +kernel
theorem dX11_needTwo_0 : decode cX11_needTwo 0 = .ok (.iload_n 0, 1) := by decide +kernel
theorem dX11_needTwo_1 : decode cX11_needTwo 1 = .ok (.iload_n 1, 1) := by decide +kernel
theorem dX11_needTwo_2 : decode cX11_needTwo 2 = .ok (.if_icmp .ne 14, 3) := by decide +kernel
theorem dX11_needTwo_5 : decode cX11_needTwo 5 = .ok (.new 68, 3) := by decide +kernel
theorem dX11_needTwo_8 : decode cX11_needTwo 8 = .ok (.dup, 1) := by decide +kernel
theorem dX11_needTwo_9 : decode cX11_needTwo 9 = .ok (.ldc_w 398, 3) := by decide +kernel
theorem dX11_needTwo_12 : decode cX11_needTwo 12 = .ok (.invokespecial 72, 3) := by decide +kernel
theorem dX11_needTwo_15 : decode cX11_needTwo 15 = .ok (.athrow, 1) := by decide +kernel
theorem dX11_needTwo_16 : decode cX11_needTwo 16 = .ok (.return_, 1) := by decide +kernel
theorem dX11_ahead_0 : decode cX11_ahead 0 = .ok (.aload_n 0, 1) := by decide +kernel
theorem dX11_ahead_1 : decode cX11_ahead 1 = .ok (.iload_n 1, 1) := by decide +kernel
theorem dX11_ahead_2 : decode cX11_ahead 2 = .ok (.invokevirtual 130, 3) := by decide +kernel
theorem dX11_ahead_5 : decode cX11_ahead 5 = .ok (.aload_n 0, 1) := by decide +kernel
theorem dX11_ahead_6 : decode cX11_ahead 6 = .ok (.iload_n 2, 1) := by decide +kernel
theorem dX11_ahead_7 : decode cX11_ahead 7 = .ok (.invokevirtual 130, 3) := by decide +kernel
theorem dX11_ahead_10 : decode cX11_ahead 10 = .ok (.iload_n 1, 1) := by decide +kernel
theorem dX11_ahead_11 : decode cX11_ahead 11 = .ok (.iload_n 2, 1) := by decide +kernel
theorem dX11_ahead_12 : decode cX11_ahead 12 = .ok (.invokestatic 283, 3) := by decide +kernel
theorem dX11_ahead_15 : decode cX11_ahead 15 = .ok (.aload_n 0, 1) := by decide +kernel
theorem dX11_ahead_16 : decode cX11_ahead 16 = .ok (.getfield 28, 3) := by decide +kernel
theorem dX11_ahead_19 : decode cX11_ahead 19 = .ok (.aload_n 0, 1) := by decide +kernel
theorem dX11_ahead_20 : decode cX11_ahead 20 = .ok (.getfield 35, 3) := by decide +kernel
theorem dX11_ahead_23 : decode cX11_ahead 23 = .ok (.invokevirtual 287, 3) := by decide +kernel
theorem dX11_ahead_26 : decode cX11_ahead 26 = .ok (.aload_n 0, 1) := by decide +kernel
theorem dX11_ahead_27 : decode cX11_ahead 27 = .ok (.getfield 28, 3) := by decide +kernel
theorem dX11_ahead_30 : decode cX11_ahead 30 = .ok (.iload_n 1, 1) := by decide +kernel
theorem dX11_ahead_31 : decode cX11_ahead 31 = .ok (.iload_n 2, 1) := by decide +kernel
theorem dX11_ahead_32 : decode cX11_ahead 32 = .ok (.invokevirtual 290, 3) := by decide +kernel
theorem dX11_ahead_35 : decode cX11_ahead 35 = .ok (.ireturn, 1) := by decide +kernel
section S_46_xa
variable {p : Program} {l : Launch} {e : Env} {R : Room} {s : State} {m : MethodId} {args : Array Value} {below : List Frame} {meth : Method} {c : Code} {A : Nat → Prop} {D : va_G} {cI cB cL : ClassId} {ad : Nat → Nat} {ka kv : Nat → Nat} {fv : Value} {tr kt pa pl : Nat}
noncomputable def fX11_feed_0 (x1 : Int32) (x2 : Int32) (x3 : Int32) (x4 : Int32) (x5 : Int32) (u : Sg) : Option (Xr × Sg) := cnd (((u 37 1) + 20) ≤ 400) (obr (fX10_add x1 (sbTQ u)) (fun u3 => bnd (ubTQ u u3) (fun u4 => obr (fX10_add x2 (sbTQ u4)) (fun u6 => bnd (ubTQ u4 u6) (fun u7 => obr (fX10_add x3 (sbTQ u7)) (fun u9 => bnd (ubTQ u7 u9) (fun u10 => obr (fX10_add x4 (sbTQ u10)) (fun u12 => bnd (ubTQ u10 u12) (fun u13 => obr (fX10_add x5 (sbTQ u13)) (fun u15 => bnd (ubTQ u13 u15) (fun u16 => some (.inl (u16 37 1), u16)))))))))))) (some (.inl (-1), u))
noncomputable def fX11_feed (x1 : Int32) (x2 : Int32) (x3 : Int32) (x4 : Int32) (x5 : Int32) (u : Sg) : Option (Xr × Sg) := fX11_feed_0 x1 x2 x3 x4 x5 u
set_option maxRecDepth 10000 in
set_option maxHeartbeats 4000000 in
theorem wX11_feed_0 (C : cx D (tyl cI cB cL) A RX11 cX11_feed 6 (some .int) p s m args c meth) (Kx : kx ka kv fv A s s.heap) (Xc : ∀ x ∈ c.exceptionTable.toList, False) (hfl : l.stackTraces = false) (hR : 1 ≤ R.frames ∧ 22 ≤ R.locals) {z : Xr × Sg} (hC : R.cells = 0 ∧ R.slots = 6 * 0) (u : Sg) (x1 : Int32) (x2 : Int32) (x3 : Int32) (x4 : Int32) (x5 : Int32) {H : Heap} {locs : List Loc} {ls : Array Slot} (hl : lv_has ls 6 [(0, .ref (ad 36)), (1, .int x1), (2, .int x2), (3, .int x3), (4, .int x4), (5, .int x5)]) (S : st D (wT cI cB ad tr kt pa pl) A s u H locs) (h : fX11_feed_0 x1 x2 x3 x4 x5 u = some z) : W p l e R s m args below meth c H locs 0 0 (vx_MQ below (qXI D (tyl cI cB cL) (wT cI cB ad tr kt pa pl) A z) (xX D (tyl cI cB cL) (wT cI cB ad tr kt pa pl) A z) args s 0 (6 * 0) A) (F0 m 0 ls []) := by
  have hx := C.1
  have hb := C.2.1
  have hsz := hl.1
  unfold fX11_feed_0 at h
  refine lv_aload_n hx hb dX11_feed_0 rfl (lv_at hl 0 rfl) ?_
  refine q_get (v := .ref (ad 37)) C S (oT36 cI cB ad tr kt pa pl) rfl iwX11 0 (by decide) mw_759 rfl dX11_feed_1 ?_
  refine q_get (v := .int (u 37 1)) C S (oT37 cI cB ad tr kt pa pl) rfl iwX10 1 (by decide) mw_760 rfl dX11_feed_4 ?_
  refine lv_bipush (v := 20) hx hb dX11_feed_7 (by decide) ?_
  refine lv_iadd hx hb dX11_feed_9 ?_
  refine lv_sipush (v := 400) hx hb dX11_feed_10 (by decide) ?_
  refine lv_icmp_le (tgt := 18) hx hb dX11_feed_13 (by decide) (fun c1 => ?_) (fun c1 => ?_)
  · have h := cnd_t c1 h
    refine lv_aload_n hx hb dX11_feed_18 rfl (lv_at hl 0 rfl) ?_
    refine q_get (v := .ref (ad 37)) C S (oT36 cI cB ad tr kt pa pl) rfl iwX11 0 (by decide) mw_759 rfl dX11_feed_19 ?_
    refine lv_iload_n hx hb dX11_feed_22 rfl (lv_at hl 1 rfl) ?_
    obtain ⟨u3, h2, h⟩ := obr_some h
    obtain ⟨u4, eu4⟩ : ∃ z : Sg, z = ubTQ u u3 := ⟨_, rfl⟩
    have h := bnd_of eu4 h
    refine s_callVv (spl_TQ cI cB ad tr kt pa pl) (As := [.int x1]) (na := 1) (pa := pa) (pl := pl) C S (oQ0 cB (adTQ ad)) rfl (ct_X10_add l D cI cB cL (adTQ ad) x1 (sbTQ u) h2) mw_763 mw_764 mw_765 mw_762 mw_761 hdX10_add ⟨Nat.le_trans (Nat.le_of_ble_eq_true rfl) hR.1, Nat.le_trans (Nat.le_of_ble_eq_true rfl) hR.2⟩ rfl hsz (capX hC (Nat.le_of_ble_eq_true rfl) (Nat.le_of_ble_eq_true rfl)) (Nat.le_of_ble_eq_true rfl) dX11_feed_23 rfl (fun H locs S => ?_)
    rw [← eu4] at S
    refine lv_aload_n hx hb dX11_feed_26 rfl (lv_at hl 0 rfl) ?_
    refine q_get (v := .ref (ad 37)) C S (oT36 cI cB ad tr kt pa pl) rfl iwX11 0 (by decide) mw_759 rfl dX11_feed_27 ?_
    refine lv_iload_n hx hb dX11_feed_30 rfl (lv_at hl 2 rfl) ?_
    obtain ⟨u6, h5, h⟩ := obr_some h
    obtain ⟨u7, eu7⟩ : ∃ z : Sg, z = ubTQ u4 u6 := ⟨_, rfl⟩
    have h := bnd_of eu7 h
    refine s_callVv (spl_TQ cI cB ad tr kt pa pl) (As := [.int x2]) (na := 1) (pa := pa) (pl := pl) C S (oQ0 cB (adTQ ad)) rfl (ct_X10_add l D cI cB cL (adTQ ad) x2 (sbTQ u4) h5) mw_763 mw_764 mw_765 mw_762 mw_761 hdX10_add ⟨Nat.le_trans (Nat.le_of_ble_eq_true rfl) hR.1, Nat.le_trans (Nat.le_of_ble_eq_true rfl) hR.2⟩ rfl hsz (capX hC (Nat.le_of_ble_eq_true rfl) (Nat.le_of_ble_eq_true rfl)) (Nat.le_of_ble_eq_true rfl) dX11_feed_31 rfl (fun H locs S => ?_)
    rw [← eu7] at S
    refine lv_aload_n hx hb dX11_feed_34 rfl (lv_at hl 0 rfl) ?_
    refine q_get (v := .ref (ad 37)) C S (oT36 cI cB ad tr kt pa pl) rfl iwX11 0 (by decide) mw_759 rfl dX11_feed_35 ?_
    refine lv_iload_n hx hb dX11_feed_38 rfl (lv_at hl 3 rfl) ?_
    obtain ⟨u9, h8, h⟩ := obr_some h
    obtain ⟨u10, eu10⟩ : ∃ z : Sg, z = ubTQ u7 u9 := ⟨_, rfl⟩
    have h := bnd_of eu10 h
    refine s_callVv (spl_TQ cI cB ad tr kt pa pl) (As := [.int x3]) (na := 1) (pa := pa) (pl := pl) C S (oQ0 cB (adTQ ad)) rfl (ct_X10_add l D cI cB cL (adTQ ad) x3 (sbTQ u7) h8) mw_763 mw_764 mw_765 mw_762 mw_761 hdX10_add ⟨Nat.le_trans (Nat.le_of_ble_eq_true rfl) hR.1, Nat.le_trans (Nat.le_of_ble_eq_true rfl) hR.2⟩ rfl hsz (capX hC (Nat.le_of_ble_eq_true rfl) (Nat.le_of_ble_eq_true rfl)) (Nat.le_of_ble_eq_true rfl) dX11_feed_39 rfl (fun H locs S => ?_)
    rw [← eu10] at S
    refine lv_aload_n hx hb dX11_feed_42 rfl (lv_at hl 0 rfl) ?_
    refine q_get (v := .ref (ad 37)) C S (oT36 cI cB ad tr kt pa pl) rfl iwX11 0 (by decide) mw_759 rfl dX11_feed_43 ?_
    refine lv_iload hx hb dX11_feed_46 (lv_at hl 4 rfl) ?_
    obtain ⟨u12, h11, h⟩ := obr_some h
    obtain ⟨u13, eu13⟩ : ∃ z : Sg, z = ubTQ u10 u12 := ⟨_, rfl⟩
    have h := bnd_of eu13 h
    refine s_callVv (spl_TQ cI cB ad tr kt pa pl) (As := [.int x4]) (na := 1) (pa := pa) (pl := pl) C S (oQ0 cB (adTQ ad)) rfl (ct_X10_add l D cI cB cL (adTQ ad) x4 (sbTQ u10) h11) mw_763 mw_764 mw_765 mw_762 mw_761 hdX10_add ⟨Nat.le_trans (Nat.le_of_ble_eq_true rfl) hR.1, Nat.le_trans (Nat.le_of_ble_eq_true rfl) hR.2⟩ rfl hsz (capX hC (Nat.le_of_ble_eq_true rfl) (Nat.le_of_ble_eq_true rfl)) (Nat.le_of_ble_eq_true rfl) dX11_feed_48 rfl (fun H locs S => ?_)
    rw [← eu13] at S
    refine lv_aload_n hx hb dX11_feed_51 rfl (lv_at hl 0 rfl) ?_
    refine q_get (v := .ref (ad 37)) C S (oT36 cI cB ad tr kt pa pl) rfl iwX11 0 (by decide) mw_759 rfl dX11_feed_52 ?_
    refine lv_iload hx hb dX11_feed_55 (lv_at hl 5 rfl) ?_
    obtain ⟨u15, h14, h⟩ := obr_some h
    obtain ⟨u16, eu16⟩ : ∃ z : Sg, z = ubTQ u13 u15 := ⟨_, rfl⟩
    have h := bnd_of eu16 h
    refine s_callVv (spl_TQ cI cB ad tr kt pa pl) (As := [.int x5]) (na := 1) (pa := pa) (pl := pl) C S (oQ0 cB (adTQ ad)) rfl (ct_X10_add l D cI cB cL (adTQ ad) x5 (sbTQ u13) h14) mw_763 mw_764 mw_765 mw_762 mw_761 hdX10_add ⟨Nat.le_trans (Nat.le_of_ble_eq_true rfl) hR.1, Nat.le_trans (Nat.le_of_ble_eq_true rfl) hR.2⟩ rfl hsz (capX hC (Nat.le_of_ble_eq_true rfl) (Nat.le_of_ble_eq_true rfl)) (Nat.le_of_ble_eq_true rfl) dX11_feed_57 rfl (fun H locs S => ?_)
    rw [← eu16] at S
    refine lv_aload_n hx hb dX11_feed_60 rfl (lv_at hl 0 rfl) ?_
    refine q_get (v := .ref (ad 37)) C S (oT36 cI cB ad tr kt pa pl) rfl iwX11 0 (by decide) mw_759 rfl dX11_feed_61 ?_
    refine q_get (v := .int (u16 37 1)) C S (oT37 cI cB ad tr kt pa pl) rfl iwX10 1 (by decide) mw_760 rfl dX11_feed_64 ?_
    exact x_iret C S h ⟨Nat.le_of_ble_eq_true rfl, Nat.le_of_ble_eq_true rfl⟩ dX11_feed_67
  · have h := cnd_f c1 h
    refine lv_iconst (v := (-1)) hx hb dX11_feed_16 (by decide) ?_
    exact x_iret C S h ⟨Nat.le_of_ble_eq_true rfl, Nat.le_of_ble_eq_true rfl⟩ dX11_feed_17
set_option maxRecDepth 10000 in
set_option maxHeartbeats 4000000 in
theorem ct_X11_feed (l : Launch) (hfl : l.stackTraces = false) (D : va_G) (cI cB cL : ClassId) (ka kv : Nat → Nat) (fv : Value) (ad : Nat → Nat) (tr kt pa pl : Nat) (x1 : Int32) (x2 : Int32) (x3 : Int32) (x4 : Int32) (x5 : Int32) (u : Sg) {z : Xr × Sg} (h : fX11_feed x1 x2 x3 x4 x5 u = some z) : metXI l D (tyl cI cB cL) ka kv fv yX11_feed cX11_feed 6 (some .int) 1 22 0 (wT cI cB ad tr kt pa pl) [.ref (ad 36), .int x1, .int x2, .int x3, .int x4, .int x5] u z := by
  intro sz
  refine vx_ofW (cc := cX11_feed) (maxL := 6) (ret := (some .int)) (by decide) rfl ?_
  intro p e s m args below meth c s₁ B hml Xc hv
  obtain ⟨rfl, C, S, Kx⟩ := q_entryK B hml hv
  have hl := lv_entry ([.ref (ad 36), .int x1, .int x2, .int x3, .int x4, .int x5]) (n := 6) (Nat.le_of_ble_eq_true rfl)
  rw [lg_entry_eq]
  generalize (lg_sl ([.ref (ad 36), .int x1, .int x2, .int x3, .int x4, .int x5]) ++ List.replicate (6 - (lg_sl ([.ref (ad 36), .int x1, .int x2, .int x3, .int x4, .int x5])).length) Slot.unset).toArray = ls at hl ⊢
  exact wX11_feed_0 C Kx Xc hfl ⟨Nat.le_refl _, Nat.le_refl _⟩ ⟨rfl, rfl⟩ u x1 x2 x3 x4 x5 (lv_sub hl [0, 1, 2, 3, 4, 5] rfl) S h
noncomputable def fX11_end_0 (x1 : Int32) (u : Sg) : Option (Xr × Sg) := cnd (x1 < 0) (some (.inl 0, u)) (cnd (x1 ≤ (u 37 1)) (bnd (s2 u 37 1 x1) (fun u3 => some (.inl 1, u3))) (some (.inl 0, u)))
noncomputable def fX11_end (x1 : Int32) (u : Sg) : Option (Xr × Sg) := fX11_end_0 x1 u
set_option maxRecDepth 10000 in
set_option maxHeartbeats 4000000 in
theorem wX11_end_0 (C : cx D (tyl cI cB cL) A RX11 cX11_end 2 (some .boolean) p s m args c meth) (Kx : kx ka kv fv A s s.heap) (Xc : ∀ x ∈ c.exceptionTable.toList, False) (hfl : l.stackTraces = false) (hR : 0 ≤ R.frames ∧ 0 ≤ R.locals) {z : Xr × Sg} (hC : R.cells = 0 ∧ R.slots = 6 * 0) (u : Sg) (x1 : Int32) {H : Heap} {locs : List Loc} {ls : Array Slot} (hl : lv_has ls 2 [(0, .ref (ad 36)), (1, .int x1)]) (S : st D (wT cI cB ad tr kt pa pl) A s u H locs) (h : fX11_end_0 x1 u = some z) : W p l e R s m args below meth c H locs 0 0 (vx_MQ below (qXI D (tyl cI cB cL) (wT cI cB ad tr kt pa pl) A z) (xX D (tyl cI cB cL) (wT cI cB ad tr kt pa pl) A z) args s 0 (6 * 0) A) (F0 m 0 ls []) := by
  have hx := C.1
  have hb := C.2.1
  have hsz := hl.1
  unfold fX11_end_0 at h
  refine lv_iload_n hx hb dX11_end_0 rfl (lv_at hl 1 rfl) ?_
  refine lv_if_lt (tgt := 15) hx hb dX11_end_1 (by decide) (fun c1 => ?_) (fun c1 => ?_)
  · have h := cnd_t c1 h
    refine lv_iconst (v := 0) hx hb dX11_end_15 (by decide) ?_
    exact x_zret C S rfl h ⟨Nat.le_of_ble_eq_true rfl, Nat.le_of_ble_eq_true rfl⟩ dX11_end_16
  · have h := cnd_f c1 h
    refine lv_iload_n hx hb dX11_end_4 rfl (lv_at hl 1 rfl) ?_
    refine lv_aload_n hx hb dX11_end_5 rfl (lv_at hl 0 rfl) ?_
    refine q_get (v := .ref (ad 37)) C S (oT36 cI cB ad tr kt pa pl) rfl iwX11 0 (by decide) mw_759 rfl dX11_end_6 ?_
    refine q_get (v := .int (u 37 1)) C S (oT37 cI cB ad tr kt pa pl) rfl iwX10 1 (by decide) mw_760 rfl dX11_end_9 ?_
    refine lv_icmp_le (tgt := 17) hx hb dX11_end_12 (by decide) (fun c2 => ?_) (fun c2 => ?_)
    · have h := cnd_t c2 h
      refine lv_aload_n hx hb dX11_end_17 rfl (lv_at hl 0 rfl) ?_
      refine q_get (v := .ref (ad 37)) C S (oT36 cI cB ad tr kt pa pl) rfl iwX11 0 (by decide) mw_759 rfl dX11_end_18 ?_
      refine lv_iload_n hx hb dX11_end_21 rfl (lv_at hl 1 rfl) ?_
      obtain ⟨u3, eu3⟩ : ∃ z : Sg, z = s2 u 37 1 x1 := ⟨_, rfl⟩
      have h := bnd_of eu3 h
      refine q_put C S (oT37 cI cB ad tr kt pa pl) rfl iwX10 tyX10 tyX10_ok nmX10 1 (by decide) mw_760 rfl (iT37_1 cI cB ad tr kt pa pl) rfl rfl dX11_end_22 eu3 (fun H locs S => ?_)
      refine lv_iconst (v := 1) hx hb dX11_end_25 (by decide) ?_
      exact x_zret C S rfl h ⟨Nat.le_of_ble_eq_true rfl, Nat.le_of_ble_eq_true rfl⟩ dX11_end_26
    · have h := cnd_f c2 h
      refine lv_iconst (v := 0) hx hb dX11_end_15 (by decide) ?_
      exact x_zret C S rfl h ⟨Nat.le_of_ble_eq_true rfl, Nat.le_of_ble_eq_true rfl⟩ dX11_end_16
set_option maxRecDepth 10000 in
set_option maxHeartbeats 4000000 in
theorem ct_X11_end (l : Launch) (hfl : l.stackTraces = false) (D : va_G) (cI cB cL : ClassId) (ka kv : Nat → Nat) (fv : Value) (ad : Nat → Nat) (tr kt pa pl : Nat) (x1 : Int32) (u : Sg) {z : Xr × Sg} (h : fX11_end x1 u = some z) : metXI l D (tyl cI cB cL) ka kv fv yX11_end cX11_end 2 (some .boolean) 0 0 0 (wT cI cB ad tr kt pa pl) [.ref (ad 36), .int x1] u z := by
  intro sz
  refine vx_ofW (cc := cX11_end) (maxL := 2) (ret := (some .boolean)) (by decide) rfl ?_
  intro p e s m args below meth c s₁ B hml Xc hv
  obtain ⟨rfl, C, S, Kx⟩ := q_entryK B hml hv
  have hl := lv_entry ([.ref (ad 36), .int x1]) (n := 2) (Nat.le_of_ble_eq_true rfl)
  rw [lg_entry_eq]
  generalize (lg_sl ([.ref (ad 36), .int x1]) ++ List.replicate (2 - (lg_sl ([.ref (ad 36), .int x1])).length) Slot.unset).toArray = ls at hl ⊢
  exact wX11_end_0 C Kx Xc hfl ⟨Nat.le_refl _, Nat.le_refl _⟩ ⟨rfl, rfl⟩ u x1 (lv_sub hl [0, 1] rfl) S h
noncomputable def fX11_fault_0 (u : Sg) : Option (Xr × Sg) := some (.inl (u 36 7), u)
noncomputable def fX11_fault (u : Sg) : Option (Xr × Sg) := fX11_fault_0 u
set_option maxRecDepth 10000 in
set_option maxHeartbeats 4000000 in
theorem wX11_fault_0 (C : cx D (tyl cI cB cL) A RX11 cX11_fault 1 (some .int) p s m args c meth) (Kx : kx ka kv fv A s s.heap) (Xc : ∀ x ∈ c.exceptionTable.toList, False) (hfl : l.stackTraces = false) (hR : 0 ≤ R.frames ∧ 0 ≤ R.locals) {z : Xr × Sg} (hC : R.cells = 0 ∧ R.slots = 6 * 0) (u : Sg) {H : Heap} {locs : List Loc} {ls : Array Slot} (hl : lv_has ls 1 [(0, .ref (ad 36))]) (S : st D (wT cI cB ad tr kt pa pl) A s u H locs) (h : fX11_fault_0 u = some z) : W p l e R s m args below meth c H locs 0 0 (vx_MQ below (qXI D (tyl cI cB cL) (wT cI cB ad tr kt pa pl) A z) (xX D (tyl cI cB cL) (wT cI cB ad tr kt pa pl) A z) args s 0 (6 * 0) A) (F0 m 0 ls []) := by
  have hx := C.1
  have hb := C.2.1
  have hsz := hl.1
  unfold fX11_fault_0 at h
  refine lv_aload_n hx hb dX11_fault_0 rfl (lv_at hl 0 rfl) ?_
  refine q_get (v := .int (u 36 7)) C S (oT36 cI cB ad tr kt pa pl) rfl iwX11 7 (by decide) mw_766 rfl dX11_fault_1 ?_
  exact x_iret C S h ⟨Nat.le_of_ble_eq_true rfl, Nat.le_of_ble_eq_true rfl⟩ dX11_fault_4
set_option maxRecDepth 10000 in
set_option maxHeartbeats 4000000 in
theorem ct_X11_fault (l : Launch) (hfl : l.stackTraces = false) (D : va_G) (cI cB cL : ClassId) (ka kv : Nat → Nat) (fv : Value) (ad : Nat → Nat) (tr kt pa pl : Nat) (u : Sg) {z : Xr × Sg} (h : fX11_fault u = some z) : metXI l D (tyl cI cB cL) ka kv fv yX11_fault cX11_fault 1 (some .int) 0 0 0 (wT cI cB ad tr kt pa pl) [.ref (ad 36)] u z := by
  intro sz
  refine vx_ofW (cc := cX11_fault) (maxL := 1) (ret := (some .int)) (by decide) rfl ?_
  intro p e s m args below meth c s₁ B hml Xc hv
  obtain ⟨rfl, C, S, Kx⟩ := q_entryK B hml hv
  have hl := lv_entry ([.ref (ad 36)]) (n := 1) (Nat.le_of_ble_eq_true rfl)
  rw [lg_entry_eq]
  generalize (lg_sl ([.ref (ad 36)]) ++ List.replicate (1 - (lg_sl ([.ref (ad 36)])).length) Slot.unset).toArray = ls at hl ⊢
  exact wX11_fault_0 C Kx Xc hfl ⟨Nat.le_refl _, Nat.le_refl _⟩ ⟨rfl, rfl⟩ u (lv_sub hl [0] rfl) S h
noncomputable def fX11_needNode_15 (u : Sg) : Option (Xr × Sg) := some (.inr 0, u)
noncomputable def fX11_needNode_0 (x1 : Int32) (u : Sg) : Option (Xr × Sg) := cnd (x1 < 0) (fX11_needNode_15 u) (cnd (x1 < (u 0 0)) (some (.inl 0, u)) (fX11_needNode_15 u))
noncomputable def fX11_needNode (x1 : Int32) (u : Sg) : Option (Xr × Sg) := fX11_needNode_0 x1 u
set_option maxRecDepth 10000 in
set_option maxHeartbeats 4000000 in
theorem wX11_needNode_15 (C : cx D (tyl cI cB cL) A RX11 cX11_needNode 2 none p s m args c meth) (Kx : kx ka kv fv A s s.heap) (Xc : ∀ x ∈ c.exceptionTable.toList, False) (hfl : l.stackTraces = false) (hR : 6 ≤ R.frames ∧ 90 ≤ R.locals) {z : Xr × Sg} (hC : R.cells = 1 ∧ R.slots = 6 * 1) (u : Sg) {H : Heap} {locs : List Loc} {ls : Array Slot} (hl : lv_has ls 2 []) (S : st D (wT cI cB ad tr kt pa pl) A s u H locs) (h : fX11_needNode_15 u = some z) : W p l e R s m args below meth c H locs 0 (6 * 0) (vx_MQ below (qXV D (tyl cI cB cL) (wT cI cB ad tr kt pa pl) A z) (xX D (tyl cI cB cL) (wT cI cB ad tr kt pa pl) A z) args s 1 (6 * 1) A) (F0 m 15 ls []) := by
  have hx := C.1
  have hb := C.2.1
  have hsz := hl.1
  unfold fX11_needNode_15 at h
  exact x_throwW C Kx Xc hfl S 0 (by decide +kernel) xat_0 xag_0 xao_0 xcl_0 xin_0 (kst_10 Kx) hsz dX11_needNode_15 dX11_needNode_18 dX11_needNode_19 dX11_needNode_22 dX11_needNode_25 ⟨Nat.le_trans (Nat.le_of_ble_eq_true rfl) hR.1, Nat.le_trans (Nat.le_of_ble_eq_true rfl) hR.2⟩ (Nat.le_of_ble_eq_true rfl) (capX hC (Nat.le_of_ble_eq_true rfl) (Nat.le_of_ble_eq_true rfl)) ⟨Nat.le_of_ble_eq_true rfl, Nat.le_of_ble_eq_true rfl⟩ h
set_option maxRecDepth 10000 in
set_option maxHeartbeats 4000000 in
theorem wX11_needNode_0 (C : cx D (tyl cI cB cL) A RX11 cX11_needNode 2 none p s m args c meth) (Kx : kx ka kv fv A s s.heap) (Xc : ∀ x ∈ c.exceptionTable.toList, False) (hfl : l.stackTraces = false) (hR : 6 ≤ R.frames ∧ 90 ≤ R.locals) {z : Xr × Sg} (hC : R.cells = 1 ∧ R.slots = 6 * 1) (u : Sg) (x1 : Int32) {H : Heap} {locs : List Loc} {ls : Array Slot} (hl : lv_has ls 2 [(0, .ref (ad 36)), (1, .int x1)]) (S : st D (wT cI cB ad tr kt pa pl) A s u H locs) (h : fX11_needNode_0 x1 u = some z) : W p l e R s m args below meth c H locs 0 0 (vx_MQ below (qXV D (tyl cI cB cL) (wT cI cB ad tr kt pa pl) A z) (xX D (tyl cI cB cL) (wT cI cB ad tr kt pa pl) A z) args s 1 (6 * 1) A) (F0 m 0 ls []) := by
  have hx := C.1
  have hb := C.2.1
  have hsz := hl.1
  unfold fX11_needNode_0 at h
  refine lv_iload_n hx hb dX11_needNode_0 rfl (lv_at hl 1 rfl) ?_
  refine lv_if_lt (tgt := 15) hx hb dX11_needNode_1 (by decide) (fun c1 => ?_) (fun c1 => ?_)
  · have h := cnd_t c1 h
    refine W.widen (k := 0) (n := (6 * 0)) (Nat.le_of_ble_eq_true rfl) (Nat.le_of_ble_eq_true rfl) ?_
    exact wX11_needNode_15 C Kx Xc hfl hR hC u (lv_sub hl [] rfl) S h
  · have h := cnd_f c1 h
    refine lv_iload_n hx hb dX11_needNode_4 rfl (lv_at hl 1 rfl) ?_
    refine lv_aload_n hx hb dX11_needNode_5 rfl (lv_at hl 0 rfl) ?_
    refine q_get (v := .ref (ad 0)) C S (oT36 cI cB ad tr kt pa pl) rfl iwX11 4 (by decide) mw_767 rfl dX11_needNode_6 ?_
    refine q_get (v := .int (u 0 0)) C S (oT0 cI cB ad tr kt pa pl) rfl iwX7 0 (by decide) mw_768 rfl dX11_needNode_9 ?_
    refine lv_icmp_lt (tgt := 26) hx hb dX11_needNode_12 (by decide) (fun c2 => ?_) (fun c2 => ?_)
    · have h := cnd_t c2 h
      exact x_vret C S h ⟨Nat.le_of_ble_eq_true rfl, Nat.le_of_ble_eq_true rfl⟩ dX11_needNode_26
    · have h := cnd_f c2 h
      refine W.widen (k := 0) (n := (6 * 0)) (Nat.le_of_ble_eq_true rfl) (Nat.le_of_ble_eq_true rfl) ?_
      exact wX11_needNode_15 C Kx Xc hfl hR hC u (lv_sub hl [] rfl) S h
set_option maxRecDepth 10000 in
set_option maxHeartbeats 4000000 in
theorem ct_X11_needNode (l : Launch) (hfl : l.stackTraces = false) (D : va_G) (cI cB cL : ClassId) (ka kv : Nat → Nat) (fv : Value) (ad : Nat → Nat) (tr kt pa pl : Nat) (x1 : Int32) (u : Sg) {z : Xr × Sg} (h : fX11_needNode x1 u = some z) : metXV l D (tyl cI cB cL) ka kv fv yX11_needNode cX11_needNode 2 6 90 1 (wT cI cB ad tr kt pa pl) [.ref (ad 36), .int x1] u z := by
  intro sz
  refine vx_ofW (cc := cX11_needNode) (maxL := 2) (ret := none) (by decide) rfl ?_
  intro p e s m args below meth c s₁ B hml Xc hv
  obtain ⟨rfl, C, S, Kx⟩ := q_entryK B hml hv
  have hl := lv_entry ([.ref (ad 36), .int x1]) (n := 2) (Nat.le_of_ble_eq_true rfl)
  rw [lg_entry_eq]
  generalize (lg_sl ([.ref (ad 36), .int x1]) ++ List.replicate (2 - (lg_sl ([.ref (ad 36), .int x1])).length) Slot.unset).toArray = ls at hl ⊢
  exact wX11_needNode_0 C Kx Xc hfl ⟨Nat.le_refl _, Nat.le_refl _⟩ ⟨rfl, rfl⟩ u x1 (lv_sub hl [0, 1] rfl) S h
noncomputable def fX11_needGroup_15 (u : Sg) : Option (Xr × Sg) := some (.inr 0, u)
noncomputable def fX11_needGroup_0 (x1 : Int32) (u : Sg) : Option (Xr × Sg) := cnd (x1 < 0) (fX11_needGroup_15 u) (cnd (x1 < (u 0 1)) (some (.inl 0, u)) (fX11_needGroup_15 u))
noncomputable def fX11_needGroup (x1 : Int32) (u : Sg) : Option (Xr × Sg) := fX11_needGroup_0 x1 u
set_option maxRecDepth 10000 in
set_option maxHeartbeats 4000000 in
theorem wX11_needGroup_15 (C : cx D (tyl cI cB cL) A RX11 cX11_needGroup 2 none p s m args c meth) (Kx : kx ka kv fv A s s.heap) (Xc : ∀ x ∈ c.exceptionTable.toList, False) (hfl : l.stackTraces = false) (hR : 6 ≤ R.frames ∧ 90 ≤ R.locals) {z : Xr × Sg} (hC : R.cells = 1 ∧ R.slots = 6 * 1) (u : Sg) {H : Heap} {locs : List Loc} {ls : Array Slot} (hl : lv_has ls 2 []) (S : st D (wT cI cB ad tr kt pa pl) A s u H locs) (h : fX11_needGroup_15 u = some z) : W p l e R s m args below meth c H locs 0 (6 * 0) (vx_MQ below (qXV D (tyl cI cB cL) (wT cI cB ad tr kt pa pl) A z) (xX D (tyl cI cB cL) (wT cI cB ad tr kt pa pl) A z) args s 1 (6 * 1) A) (F0 m 15 ls []) := by
  have hx := C.1
  have hb := C.2.1
  have hsz := hl.1
  unfold fX11_needGroup_15 at h
  exact x_throwW C Kx Xc hfl S 0 (by decide +kernel) xat_0 xag_0 xao_0 xcl_0 xin_0 (kst_12 Kx) hsz dX11_needGroup_15 dX11_needGroup_18 dX11_needGroup_19 dX11_needGroup_22 dX11_needGroup_25 ⟨Nat.le_trans (Nat.le_of_ble_eq_true rfl) hR.1, Nat.le_trans (Nat.le_of_ble_eq_true rfl) hR.2⟩ (Nat.le_of_ble_eq_true rfl) (capX hC (Nat.le_of_ble_eq_true rfl) (Nat.le_of_ble_eq_true rfl)) ⟨Nat.le_of_ble_eq_true rfl, Nat.le_of_ble_eq_true rfl⟩ h
set_option maxRecDepth 10000 in
set_option maxHeartbeats 4000000 in
theorem wX11_needGroup_0 (C : cx D (tyl cI cB cL) A RX11 cX11_needGroup 2 none p s m args c meth) (Kx : kx ka kv fv A s s.heap) (Xc : ∀ x ∈ c.exceptionTable.toList, False) (hfl : l.stackTraces = false) (hR : 6 ≤ R.frames ∧ 90 ≤ R.locals) {z : Xr × Sg} (hC : R.cells = 1 ∧ R.slots = 6 * 1) (u : Sg) (x1 : Int32) {H : Heap} {locs : List Loc} {ls : Array Slot} (hl : lv_has ls 2 [(0, .ref (ad 36)), (1, .int x1)]) (S : st D (wT cI cB ad tr kt pa pl) A s u H locs) (h : fX11_needGroup_0 x1 u = some z) : W p l e R s m args below meth c H locs 0 0 (vx_MQ below (qXV D (tyl cI cB cL) (wT cI cB ad tr kt pa pl) A z) (xX D (tyl cI cB cL) (wT cI cB ad tr kt pa pl) A z) args s 1 (6 * 1) A) (F0 m 0 ls []) := by
  have hx := C.1
  have hb := C.2.1
  have hsz := hl.1
  unfold fX11_needGroup_0 at h
  refine lv_iload_n hx hb dX11_needGroup_0 rfl (lv_at hl 1 rfl) ?_
  refine lv_if_lt (tgt := 15) hx hb dX11_needGroup_1 (by decide) (fun c1 => ?_) (fun c1 => ?_)
  · have h := cnd_t c1 h
    refine W.widen (k := 0) (n := (6 * 0)) (Nat.le_of_ble_eq_true rfl) (Nat.le_of_ble_eq_true rfl) ?_
    exact wX11_needGroup_15 C Kx Xc hfl hR hC u (lv_sub hl [] rfl) S h
  · have h := cnd_f c1 h
    refine lv_iload_n hx hb dX11_needGroup_4 rfl (lv_at hl 1 rfl) ?_
    refine lv_aload_n hx hb dX11_needGroup_5 rfl (lv_at hl 0 rfl) ?_
    refine q_get (v := .ref (ad 0)) C S (oT36 cI cB ad tr kt pa pl) rfl iwX11 4 (by decide) mw_767 rfl dX11_needGroup_6 ?_
    refine q_get (v := .int (u 0 1)) C S (oT0 cI cB ad tr kt pa pl) rfl iwX7 1 (by decide) mw_769 rfl dX11_needGroup_9 ?_
    refine lv_icmp_lt (tgt := 26) hx hb dX11_needGroup_12 (by decide) (fun c2 => ?_) (fun c2 => ?_)
    · have h := cnd_t c2 h
      exact x_vret C S h ⟨Nat.le_of_ble_eq_true rfl, Nat.le_of_ble_eq_true rfl⟩ dX11_needGroup_26
    · have h := cnd_f c2 h
      refine W.widen (k := 0) (n := (6 * 0)) (Nat.le_of_ble_eq_true rfl) (Nat.le_of_ble_eq_true rfl) ?_
      exact wX11_needGroup_15 C Kx Xc hfl hR hC u (lv_sub hl [] rfl) S h
set_option maxRecDepth 10000 in
set_option maxHeartbeats 4000000 in
theorem ct_X11_needGroup (l : Launch) (hfl : l.stackTraces = false) (D : va_G) (cI cB cL : ClassId) (ka kv : Nat → Nat) (fv : Value) (ad : Nat → Nat) (tr kt pa pl : Nat) (x1 : Int32) (u : Sg) {z : Xr × Sg} (h : fX11_needGroup x1 u = some z) : metXV l D (tyl cI cB cL) ka kv fv yX11_needGroup cX11_needGroup 2 6 90 1 (wT cI cB ad tr kt pa pl) [.ref (ad 36), .int x1] u z := by
  intro sz
  refine vx_ofW (cc := cX11_needGroup) (maxL := 2) (ret := none) (by decide) rfl ?_
  intro p e s m args below meth c s₁ B hml Xc hv
  obtain ⟨rfl, C, S, Kx⟩ := q_entryK B hml hv
  have hl := lv_entry ([.ref (ad 36), .int x1]) (n := 2) (Nat.le_of_ble_eq_true rfl)
  rw [lg_entry_eq]
  generalize (lg_sl ([.ref (ad 36), .int x1]) ++ List.replicate (2 - (lg_sl ([.ref (ad 36), .int x1])).length) Slot.unset).toArray = ls at hl ⊢
  exact wX11_needGroup_0 C Kx Xc hfl ⟨Nat.le_refl _, Nat.le_refl _⟩ ⟨rfl, rfl⟩ u x1 (lv_sub hl [0, 1] rfl) S h
noncomputable def fX11_group_0 (x1 : Int32) (u : Sg) : Option (Xr × Sg) := obx (fX11_needGroup x1 u) (fun u4 => grd (vp_in x1 6) (some (.inl (u4 1 ((x1 : Int32).toNatClampNeg)), u4)))
noncomputable def fX11_group (x1 : Int32) (u : Sg) : Option (Xr × Sg) := fX11_group_0 x1 u
set_option maxRecDepth 10000 in
set_option maxHeartbeats 4000000 in
theorem wX11_group_0 (C : cx D (tyl cI cB cL) A RX11 cX11_group 2 (some .int) p s m args c meth) (Kx : kx ka kv fv A s s.heap) (Xc : ∀ x ∈ c.exceptionTable.toList, False) (hfl : l.stackTraces = false) (hR : 7 ≤ R.frames ∧ 111 ≤ R.locals) {z : Xr × Sg} (hC : R.cells = 1 ∧ R.slots = 6 * 1) (u : Sg) (x1 : Int32) {H : Heap} {locs : List Loc} {ls : Array Slot} (hl : lv_has ls 2 [(0, .ref (ad 36)), (1, .int x1)]) (S : st D (wT cI cB ad tr kt pa pl) A s u H locs) (h : fX11_group_0 x1 u = some z) : W p l e R s m args below meth c H locs 0 0 (vx_MQ below (qXI D (tyl cI cB cL) (wT cI cB ad tr kt pa pl) A z) (xX D (tyl cI cB cL) (wT cI cB ad tr kt pa pl) A z) args s 1 (6 * 1) A) (F0 m 0 ls []) := by
  have hx := C.1
  have hb := C.2.1
  have hsz := hl.1
  unfold fX11_group_0 at h
  refine lv_aload_n hx hb dX11_group_0 rfl (lv_at hl 0 rfl) ?_
  refine lv_iload_n hx hb dX11_group_1 rfl (lv_at hl 1 rfl) ?_
  obtain ⟨z1, h2, h3⟩ := obx_some h
  refine x_callVv (As := [.int x1]) (na := 1) C Kx Xc S (oT36 cI cB ad tr kt pa pl) rfl (ct_X11_needGroup l hfl D cI cB cL ka kv fv ad tr kt pa pl x1 u h2) h3 mw_771 mw_772 mw_773 mw_321 mw_770 hdX11_needGroup ⟨Nat.le_trans (Nat.le_of_ble_eq_true rfl) hR.1, Nat.le_trans (Nat.le_of_ble_eq_true rfl) hR.2⟩ rfl hsz (capX hC (Nat.le_of_ble_eq_true rfl) (Nat.le_of_ble_eq_true rfl)) ⟨Nat.le_of_ble_eq_true rfl, Nat.le_of_ble_eq_true rfl⟩ (Nat.le_of_ble_eq_true rfl) dX11_group_2 rfl (fun u4 H locs h S => ?_)
  refine lv_aload_n hx hb dX11_group_5 rfl (lv_at hl 0 rfl) ?_
  refine q_get (v := .ref (ad 0)) C S (oT36 cI cB ad tr kt pa pl) rfl iwX11 4 (by decide) mw_767 rfl dX11_group_6 ?_
  refine q_get (v := .ref (ad 1)) C S (oT0 cI cB ad tr kt pa pl) rfl iwX7 9 (by decide) mw_774 rfl dX11_group_9 ?_
  refine lv_iload_n hx hb dX11_group_12 rfl (lv_at hl 1 rfl) ?_
  obtain ⟨g5, h⟩ := grd_some h
  refine q_iald C S (aT1 cI cB ad tr kt pa pl) 0 rfl g5 dX11_group_13 (j := (x1 : Int32).toNatClampNeg) rfl ?_
  exact x_iret C S h ⟨Nat.le_of_ble_eq_true rfl, Nat.le_of_ble_eq_true rfl⟩ dX11_group_14
set_option maxRecDepth 10000 in
set_option maxHeartbeats 4000000 in
theorem ct_X11_group (l : Launch) (hfl : l.stackTraces = false) (D : va_G) (cI cB cL : ClassId) (ka kv : Nat → Nat) (fv : Value) (ad : Nat → Nat) (tr kt pa pl : Nat) (x1 : Int32) (u : Sg) {z : Xr × Sg} (h : fX11_group x1 u = some z) : metXI l D (tyl cI cB cL) ka kv fv yX11_group cX11_group 2 (some .int) 7 111 1 (wT cI cB ad tr kt pa pl) [.ref (ad 36), .int x1] u z := by
  intro sz
  refine vx_ofW (cc := cX11_group) (maxL := 2) (ret := (some .int)) (by decide) rfl ?_
  intro p e s m args below meth c s₁ B hml Xc hv
  obtain ⟨rfl, C, S, Kx⟩ := q_entryK B hml hv
  have hl := lv_entry ([.ref (ad 36), .int x1]) (n := 2) (Nat.le_of_ble_eq_true rfl)
  rw [lg_entry_eq]
  generalize (lg_sl ([.ref (ad 36), .int x1]) ++ List.replicate (2 - (lg_sl ([.ref (ad 36), .int x1])).length) Slot.unset).toArray = ls at hl ⊢
  exact wX11_group_0 C Kx Xc hfl ⟨Nat.le_refl _, Nat.le_refl _⟩ ⟨rfl, rfl⟩ u x1 (lv_sub hl [0, 1] rfl) S h
noncomputable def fX11_needMessage_18 (u : Sg) : Option (Xr × Sg) := some (.inr 0, u)
noncomputable def fX11_needMessage_0 (x1 : Int32) (u : Sg) : Option (Xr × Sg) := cnd (x1 < 0) (fX11_needMessage_18 u) (cnd (x1 < (u 13 0)) (some (.inl 0, u)) (fX11_needMessage_18 u))
noncomputable def fX11_needMessage (x1 : Int32) (u : Sg) : Option (Xr × Sg) := fX11_needMessage_0 x1 u
set_option maxRecDepth 10000 in
set_option maxHeartbeats 4000000 in
theorem wX11_needMessage_18 (C : cx D (tyl cI cB cL) A RX11 cX11_needMessage 2 none p s m args c meth) (Kx : kx ka kv fv A s s.heap) (Xc : ∀ x ∈ c.exceptionTable.toList, False) (hfl : l.stackTraces = false) (hR : 6 ≤ R.frames ∧ 90 ≤ R.locals) {z : Xr × Sg} (hC : R.cells = 1 ∧ R.slots = 6 * 1) (u : Sg) {H : Heap} {locs : List Loc} {ls : Array Slot} (hl : lv_has ls 2 []) (S : st D (wT cI cB ad tr kt pa pl) A s u H locs) (h : fX11_needMessage_18 u = some z) : W p l e R s m args below meth c H locs 0 (6 * 0) (vx_MQ below (qXV D (tyl cI cB cL) (wT cI cB ad tr kt pa pl) A z) (xX D (tyl cI cB cL) (wT cI cB ad tr kt pa pl) A z) args s 1 (6 * 1) A) (F0 m 18 ls []) := by
  have hx := C.1
  have hb := C.2.1
  have hsz := hl.1
  unfold fX11_needMessage_18 at h
  exact x_throwW C Kx Xc hfl S 0 (by decide +kernel) xat_0 xag_0 xao_0 xcl_0 xin_0 (kst_13 Kx) hsz dX11_needMessage_18 dX11_needMessage_21 dX11_needMessage_22 dX11_needMessage_25 dX11_needMessage_28 ⟨Nat.le_trans (Nat.le_of_ble_eq_true rfl) hR.1, Nat.le_trans (Nat.le_of_ble_eq_true rfl) hR.2⟩ (Nat.le_of_ble_eq_true rfl) (capX hC (Nat.le_of_ble_eq_true rfl) (Nat.le_of_ble_eq_true rfl)) ⟨Nat.le_of_ble_eq_true rfl, Nat.le_of_ble_eq_true rfl⟩ h
set_option maxRecDepth 10000 in
set_option maxHeartbeats 4000000 in
theorem wX11_needMessage_0 (C : cx D (tyl cI cB cL) A RX11 cX11_needMessage 2 none p s m args c meth) (Kx : kx ka kv fv A s s.heap) (Xc : ∀ x ∈ c.exceptionTable.toList, False) (hfl : l.stackTraces = false) (hR : 6 ≤ R.frames ∧ 90 ≤ R.locals) {z : Xr × Sg} (hC : R.cells = 1 ∧ R.slots = 6 * 1) (u : Sg) (x1 : Int32) {H : Heap} {locs : List Loc} {ls : Array Slot} (hl : lv_has ls 2 [(0, .ref (ad 36)), (1, .int x1)]) (S : st D (wT cI cB ad tr kt pa pl) A s u H locs) (h : fX11_needMessage_0 x1 u = some z) : W p l e R s m args below meth c H locs 0 0 (vx_MQ below (qXV D (tyl cI cB cL) (wT cI cB ad tr kt pa pl) A z) (xX D (tyl cI cB cL) (wT cI cB ad tr kt pa pl) A z) args s 1 (6 * 1) A) (F0 m 0 ls []) := by
  have hx := C.1
  have hb := C.2.1
  have hsz := hl.1
  unfold fX11_needMessage_0 at h
  refine lv_iload_n hx hb dX11_needMessage_0 rfl (lv_at hl 1 rfl) ?_
  refine lv_if_lt (tgt := 18) hx hb dX11_needMessage_1 (by decide) (fun c1 => ?_) (fun c1 => ?_)
  · have h := cnd_t c1 h
    refine W.widen (k := 0) (n := (6 * 0)) (Nat.le_of_ble_eq_true rfl) (Nat.le_of_ble_eq_true rfl) ?_
    exact wX11_needMessage_18 C Kx Xc hfl hR hC u (lv_sub hl [] rfl) S h
  · have h := cnd_f c1 h
    refine lv_iload_n hx hb dX11_needMessage_4 rfl (lv_at hl 1 rfl) ?_
    refine lv_aload_n hx hb dX11_needMessage_5 rfl (lv_at hl 0 rfl) ?_
    refine q_get (v := .ref (ad 0)) C S (oT36 cI cB ad tr kt pa pl) rfl iwX11 4 (by decide) mw_767 rfl dX11_needMessage_6 ?_
    refine q_get (v := .ref (ad 13)) C S (oT0 cI cB ad tr kt pa pl) rfl iwX7 14 (by decide) mw_775 rfl dX11_needMessage_9 ?_
    refine q_get (v := .int (u 13 0)) C S (oT13 cI cB ad tr kt pa pl) rfl iwX6 0 (by decide) mw_776 rfl dX11_needMessage_12 ?_
    refine lv_icmp_lt (tgt := 29) hx hb dX11_needMessage_15 (by decide) (fun c2 => ?_) (fun c2 => ?_)
    · have h := cnd_t c2 h
      exact x_vret C S h ⟨Nat.le_of_ble_eq_true rfl, Nat.le_of_ble_eq_true rfl⟩ dX11_needMessage_29
    · have h := cnd_f c2 h
      refine W.widen (k := 0) (n := (6 * 0)) (Nat.le_of_ble_eq_true rfl) (Nat.le_of_ble_eq_true rfl) ?_
      exact wX11_needMessage_18 C Kx Xc hfl hR hC u (lv_sub hl [] rfl) S h
set_option maxRecDepth 10000 in
set_option maxHeartbeats 4000000 in
theorem ct_X11_needMessage (l : Launch) (hfl : l.stackTraces = false) (D : va_G) (cI cB cL : ClassId) (ka kv : Nat → Nat) (fv : Value) (ad : Nat → Nat) (tr kt pa pl : Nat) (x1 : Int32) (u : Sg) {z : Xr × Sg} (h : fX11_needMessage x1 u = some z) : metXV l D (tyl cI cB cL) ka kv fv yX11_needMessage cX11_needMessage 2 6 90 1 (wT cI cB ad tr kt pa pl) [.ref (ad 36), .int x1] u z := by
  intro sz
  refine vx_ofW (cc := cX11_needMessage) (maxL := 2) (ret := none) (by decide) rfl ?_
  intro p e s m args below meth c s₁ B hml Xc hv
  obtain ⟨rfl, C, S, Kx⟩ := q_entryK B hml hv
  have hl := lv_entry ([.ref (ad 36), .int x1]) (n := 2) (Nat.le_of_ble_eq_true rfl)
  rw [lg_entry_eq]
  generalize (lg_sl ([.ref (ad 36), .int x1]) ++ List.replicate (2 - (lg_sl ([.ref (ad 36), .int x1])).length) Slot.unset).toArray = ls at hl ⊢
  exact wX11_needMessage_0 C Kx Xc hfl ⟨Nat.le_refl _, Nat.le_refl _⟩ ⟨rfl, rfl⟩ u x1 (lv_sub hl [0, 1] rfl) S h
noncomputable def fX11_delivered_0 (x1 : Int32) (x2 : Int32) (u : Sg) : Option (Xr × Sg) := obx (fX11_needNode x1 u) (fun u4 => cnd (x2 < 0) (some (.inl (-1), u4)) (grd (vp_in x1 6) (cnd (x2 < (u4 25 ((x1 : Int32).toNatClampNeg))) (grd (vp_in (fX11_spotOf x1 x2) 120) (some (.inl (u4 24 (((fX11_spotOf x1 x2) : Int32).toNatClampNeg)), u4))) (some (.inl (-1), u4)))))
noncomputable def fX11_delivered (x1 : Int32) (x2 : Int32) (u : Sg) : Option (Xr × Sg) := fX11_delivered_0 x1 x2 u
set_option maxRecDepth 10000 in
set_option maxHeartbeats 4000000 in
theorem wX11_delivered_0 (C : cx D (tyl cI cB cL) A RX11 cX11_delivered 3 (some .int) p s m args c meth) (Kx : kx ka kv fv A s s.heap) (Xc : ∀ x ∈ c.exceptionTable.toList, False) (hfl : l.stackTraces = false) (hR : 7 ≤ R.frames ∧ 111 ≤ R.locals) {z : Xr × Sg} (hC : R.cells = 1 ∧ R.slots = 6 * 1) (u : Sg) (x1 : Int32) (x2 : Int32) {H : Heap} {locs : List Loc} {ls : Array Slot} (hl : lv_has ls 3 [(0, .ref (ad 36)), (1, .int x1), (2, .int x2)]) (S : st D (wT cI cB ad tr kt pa pl) A s u H locs) (h : fX11_delivered_0 x1 x2 u = some z) : W p l e R s m args below meth c H locs 0 0 (vx_MQ below (qXI D (tyl cI cB cL) (wT cI cB ad tr kt pa pl) A z) (xX D (tyl cI cB cL) (wT cI cB ad tr kt pa pl) A z) args s 1 (6 * 1) A) (F0 m 0 ls []) := by
  have hx := C.1
  have hb := C.2.1
  have hsz := hl.1
  unfold fX11_delivered_0 at h
  refine lv_aload_n hx hb dX11_delivered_0 rfl (lv_at hl 0 rfl) ?_
  refine lv_iload_n hx hb dX11_delivered_1 rfl (lv_at hl 1 rfl) ?_
  obtain ⟨z1, h2, h3⟩ := obx_some h
  refine x_callVv (As := [.int x1]) (na := 1) C Kx Xc S (oT36 cI cB ad tr kt pa pl) rfl (ct_X11_needNode l hfl D cI cB cL ka kv fv ad tr kt pa pl x1 u h2) h3 mw_778 mw_779 mw_780 mw_321 mw_777 hdX11_needNode ⟨Nat.le_trans (Nat.le_of_ble_eq_true rfl) hR.1, Nat.le_trans (Nat.le_of_ble_eq_true rfl) hR.2⟩ rfl hsz (capX hC (Nat.le_of_ble_eq_true rfl) (Nat.le_of_ble_eq_true rfl)) ⟨Nat.le_of_ble_eq_true rfl, Nat.le_of_ble_eq_true rfl⟩ (Nat.le_of_ble_eq_true rfl) dX11_delivered_2 rfl (fun u4 H locs h S => ?_)
  refine lv_iload_n hx hb dX11_delivered_5 rfl (lv_at hl 2 rfl) ?_
  refine lv_if_lt (tgt := 25) hx hb dX11_delivered_6 (by decide) (fun c5 => ?_) (fun c5 => ?_)
  · have h := cnd_t c5 h
    refine lv_iconst (v := (-1)) hx hb dX11_delivered_25 (by decide) ?_
    exact x_iret C S h ⟨Nat.le_of_ble_eq_true rfl, Nat.le_of_ble_eq_true rfl⟩ dX11_delivered_26
  · have h := cnd_f c5 h
    refine lv_iload_n hx hb dX11_delivered_9 rfl (lv_at hl 2 rfl) ?_
    refine lv_aload_n hx hb dX11_delivered_10 rfl (lv_at hl 0 rfl) ?_
    refine q_get (v := .ref (ad 0)) C S (oT36 cI cB ad tr kt pa pl) rfl iwX11 4 (by decide) mw_767 rfl dX11_delivered_11 ?_
    refine q_get (v := .ref (ad 19)) C S (oT0 cI cB ad tr kt pa pl) rfl iwX7 15 (by decide) mw_781 rfl dX11_delivered_14 ?_
    refine q_get (v := .ref (ad 25)) C S (oT19 cI cB ad tr kt pa pl) rfl iwX4 5 (by decide) mw_782 rfl dX11_delivered_17 ?_
    refine lv_iload_n hx hb dX11_delivered_20 rfl (lv_at hl 1 rfl) ?_
    obtain ⟨g6, h⟩ := grd_some h
    refine q_iald C S (aT25 cI cB ad tr kt pa pl) 0 rfl g6 dX11_delivered_21 (j := (x1 : Int32).toNatClampNeg) rfl ?_
    refine lv_icmp_lt (tgt := 27) hx hb dX11_delivered_22 (by decide) (fun c7 => ?_) (fun c7 => ?_)
    · have h := cnd_t c7 h
      refine lv_aload_n hx hb dX11_delivered_27 rfl (lv_at hl 0 rfl) ?_
      refine q_get (v := .ref (ad 0)) C S (oT36 cI cB ad tr kt pa pl) rfl iwX11 4 (by decide) mw_767 rfl dX11_delivered_28 ?_
      refine q_get (v := .ref (ad 19)) C S (oT0 cI cB ad tr kt pa pl) rfl iwX7 15 (by decide) mw_781 rfl dX11_delivered_31 ?_
      refine q_get (v := .ref (ad 24)) C S (oT19 cI cB ad tr kt pa pl) rfl iwX4 4 (by decide) mw_783 rfl dX11_delivered_34 ?_
      refine lv_iload_n hx hb dX11_delivered_37 rfl (lv_at hl 1 rfl) ?_
      refine lv_iload_n hx hb dX11_delivered_38 rfl (lv_at hl 2 rfl) ?_
      refine q_callP (As := [.int x1, .int x2]) (na := 2) C S (ct_X11_spotOf l D cI cB cL x1 x2) mw_784 mw_322 mw_321 mw_320 hdX11_spotOf ⟨Nat.le_trans (Nat.le_of_ble_eq_true rfl) hR.1, Nat.le_trans (Nat.le_of_ble_eq_true rfl) hR.2⟩ rfl hsz (capX hC (Nat.le_of_ble_eq_true rfl) (Nat.le_of_ble_eq_true rfl)) (Nat.le_of_ble_eq_true rfl) dX11_delivered_39 rfl (fun H locs S => ?_)
      obtain ⟨g8, h⟩ := grd_some h
      refine q_iald C S (aT24 cI cB ad tr kt pa pl) 0 rfl g8 dX11_delivered_42 (j := ((fX11_spotOf x1 x2) : Int32).toNatClampNeg) rfl ?_
      exact x_iret C S h ⟨Nat.le_of_ble_eq_true rfl, Nat.le_of_ble_eq_true rfl⟩ dX11_delivered_43
    · have h := cnd_f c7 h
      refine lv_iconst (v := (-1)) hx hb dX11_delivered_25 (by decide) ?_
      exact x_iret C S h ⟨Nat.le_of_ble_eq_true rfl, Nat.le_of_ble_eq_true rfl⟩ dX11_delivered_26
set_option maxRecDepth 10000 in
set_option maxHeartbeats 4000000 in
theorem ct_X11_delivered (l : Launch) (hfl : l.stackTraces = false) (D : va_G) (cI cB cL : ClassId) (ka kv : Nat → Nat) (fv : Value) (ad : Nat → Nat) (tr kt pa pl : Nat) (x1 : Int32) (x2 : Int32) (u : Sg) {z : Xr × Sg} (h : fX11_delivered x1 x2 u = some z) : metXI l D (tyl cI cB cL) ka kv fv yX11_delivered cX11_delivered 3 (some .int) 7 111 1 (wT cI cB ad tr kt pa pl) [.ref (ad 36), .int x1, .int x2] u z := by
  intro sz
  refine vx_ofW (cc := cX11_delivered) (maxL := 3) (ret := (some .int)) (by decide) rfl ?_
  intro p e s m args below meth c s₁ B hml Xc hv
  obtain ⟨rfl, C, S, Kx⟩ := q_entryK B hml hv
  have hl := lv_entry ([.ref (ad 36), .int x1, .int x2]) (n := 3) (Nat.le_of_ble_eq_true rfl)
  rw [lg_entry_eq]
  generalize (lg_sl ([.ref (ad 36), .int x1, .int x2]) ++ List.replicate (3 - (lg_sl ([.ref (ad 36), .int x1, .int x2])).length) Slot.unset).toArray = ls at hl ⊢
  exact wX11_delivered_0 C Kx Xc hfl ⟨Nat.le_refl _, Nat.le_refl _⟩ ⟨rfl, rfl⟩ u x1 x2 (lv_sub hl [0, 1, 2] rfl) S h
noncomputable def fX11_crash_0 (x1 : Int32) (u : Sg) : Option (Xr × Sg) := obx (fX11_needNode x1 u) (fun u4 => obr (fX7_isUp x1 (sbTN u4)) (fun r6 => cnd (r6 = 0) (some (.inr 2, u4)) (obr (fX7_goDown x1 (sbTN u4)) (fun u9 => bnd (ubTN u4 u9) (fun u10 => some (.inl 0, u10))))))
noncomputable def fX11_crash (x1 : Int32) (u : Sg) : Option (Xr × Sg) := fX11_crash_0 x1 u
set_option maxRecDepth 10000 in
set_option maxHeartbeats 4000000 in
theorem wX11_crash_0 (C : cx D (tyl cI cB cL) A RX11 cX11_crash 2 none p s m args c meth) (Kx : kx ka kv fv A s s.heap) (Xc : ∀ x ∈ c.exceptionTable.toList, False) (hfl : l.stackTraces = false) (hR : 7 ≤ R.frames ∧ 111 ≤ R.locals) {z : Xr × Sg} (hC : R.cells = 2 ∧ R.slots = 6 * 2) (u : Sg) (x1 : Int32) {H : Heap} {locs : List Loc} {ls : Array Slot} (hl : lv_has ls 2 [(0, .ref (ad 36)), (1, .int x1)]) (S : st D (wT cI cB ad tr kt pa pl) A s u H locs) (h : fX11_crash_0 x1 u = some z) : W p l e R s m args below meth c H locs 0 0 (vx_MQ below (qXV D (tyl cI cB cL) (wT cI cB ad tr kt pa pl) A z) (xX D (tyl cI cB cL) (wT cI cB ad tr kt pa pl) A z) args s 2 (6 * 2) A) (F0 m 0 ls []) := by
  have hx := C.1
  have hb := C.2.1
  have hsz := hl.1
  unfold fX11_crash_0 at h
  refine lv_aload_n hx hb dX11_crash_0 rfl (lv_at hl 0 rfl) ?_
  refine lv_iload_n hx hb dX11_crash_1 rfl (lv_at hl 1 rfl) ?_
  obtain ⟨z1, h2, h3⟩ := obx_some h
  refine x_callVv (As := [.int x1]) (na := 1) C Kx Xc S (oT36 cI cB ad tr kt pa pl) rfl (ct_X11_needNode l hfl D cI cB cL ka kv fv ad tr kt pa pl x1 u h2) h3 mw_778 mw_779 mw_780 mw_321 mw_777 hdX11_needNode ⟨Nat.le_trans (Nat.le_of_ble_eq_true rfl) hR.1, Nat.le_trans (Nat.le_of_ble_eq_true rfl) hR.2⟩ rfl hsz (capX hC (Nat.le_of_ble_eq_true rfl) (Nat.le_of_ble_eq_true rfl)) ⟨Nat.le_of_ble_eq_true rfl, Nat.le_of_ble_eq_true rfl⟩ (Nat.le_of_ble_eq_true rfl) dX11_crash_2 rfl (fun u4 H locs h S => ?_)
  refine lv_aload_n hx hb dX11_crash_5 rfl (lv_at hl 0 rfl) ?_
  refine q_get (v := .ref (ad 0)) C S (oT36 cI cB ad tr kt pa pl) rfl iwX11 4 (by decide) mw_767 rfl dX11_crash_6 ?_
  refine lv_iload_n hx hb dX11_crash_9 rfl (lv_at hl 1 rfl) ?_
  obtain ⟨r6, h5, h⟩ := obr_some h
  refine s_callViR (spl_TN cI cB ad tr kt) (As := [.int x1]) (na := 1) C S (oN0 cI (adTN ad) pa pl) rfl (ct_X7_isUp l D cI cB cL (adTN ad) pa pl x1 (sbTN u4) h5) mw_785 mw_342 mw_344 mw_341 mw_340 hdX7_isUp ⟨Nat.le_trans (Nat.le_of_ble_eq_true rfl) hR.1, Nat.le_trans (Nat.le_of_ble_eq_true rfl) hR.2⟩ rfl hsz (capX hC (Nat.le_of_ble_eq_true rfl) (Nat.le_of_ble_eq_true rfl)) (Nat.le_of_ble_eq_true rfl) dX11_crash_10 rfl (fun H locs S => ?_)
  refine lv_if_ne (tgt := 27) hx hb dX11_crash_13 (by decide) (fun c7 => ?_) (fun c7 => ?_)
  · have h := cnd_f c7 h
    refine lv_aload_n hx hb dX11_crash_27 rfl (lv_at hl 0 rfl) ?_
    refine q_get (v := .ref (ad 0)) C S (oT36 cI cB ad tr kt pa pl) rfl iwX11 4 (by decide) mw_767 rfl dX11_crash_28 ?_
    refine lv_iload_n hx hb dX11_crash_31 rfl (lv_at hl 1 rfl) ?_
    obtain ⟨u9, h8, h⟩ := obr_some h
    obtain ⟨u10, eu10⟩ : ∃ z : Sg, z = ubTN u4 u9 := ⟨_, rfl⟩
    have h := bnd_of eu10 h
    refine s_callVv (spl_TN cI cB ad tr kt) (As := [.int x1]) (na := 1) C S (oN0 cI (adTN ad) pa pl) rfl (ct_X7_goDown l D cI cB cL (adTN ad) pa pl x1 (sbTN u4) h8) mw_786 mw_594 mw_596 mw_341 mw_593 hdX7_goDown ⟨Nat.le_trans (Nat.le_of_ble_eq_true rfl) hR.1, Nat.le_trans (Nat.le_of_ble_eq_true rfl) hR.2⟩ rfl hsz (capX hC (Nat.le_of_ble_eq_true rfl) (Nat.le_of_ble_eq_true rfl)) (Nat.le_of_ble_eq_true rfl) dX11_crash_32 rfl (fun H locs S => ?_)
    rw [← eu10] at S
    exact x_vret C S h ⟨Nat.le_of_ble_eq_true rfl, Nat.le_of_ble_eq_true rfl⟩ dX11_crash_35
  · have h := cnd_t c7 h
    exact x_throwW C Kx Xc hfl S 2 (by decide +kernel) xat_2 xag_2 xao_2 xcl_2 xin_2 (kst_23 Kx) hsz dX11_crash_16 dX11_crash_19 dX11_crash_20 dX11_crash_23 dX11_crash_26 ⟨Nat.le_trans (Nat.le_of_ble_eq_true rfl) hR.1, Nat.le_trans (Nat.le_of_ble_eq_true rfl) hR.2⟩ (Nat.le_of_ble_eq_true rfl) (capX hC (Nat.le_of_ble_eq_true rfl) (Nat.le_of_ble_eq_true rfl)) ⟨Nat.le_of_ble_eq_true rfl, Nat.le_of_ble_eq_true rfl⟩ h
set_option maxRecDepth 10000 in
set_option maxHeartbeats 4000000 in
theorem ct_X11_crash (l : Launch) (hfl : l.stackTraces = false) (D : va_G) (cI cB cL : ClassId) (ka kv : Nat → Nat) (fv : Value) (ad : Nat → Nat) (tr kt pa pl : Nat) (x1 : Int32) (u : Sg) {z : Xr × Sg} (h : fX11_crash x1 u = some z) : metXV l D (tyl cI cB cL) ka kv fv yX11_crash cX11_crash 2 7 111 2 (wT cI cB ad tr kt pa pl) [.ref (ad 36), .int x1] u z := by
  intro sz
  refine vx_ofW (cc := cX11_crash) (maxL := 2) (ret := none) (by decide) rfl ?_
  intro p e s m args below meth c s₁ B hml Xc hv
  obtain ⟨rfl, C, S, Kx⟩ := q_entryK B hml hv
  have hl := lv_entry ([.ref (ad 36), .int x1]) (n := 2) (Nat.le_of_ble_eq_true rfl)
  rw [lg_entry_eq]
  generalize (lg_sl ([.ref (ad 36), .int x1]) ++ List.replicate (2 - (lg_sl ([.ref (ad 36), .int x1])).length) Slot.unset).toArray = ls at hl ⊢
  exact wX11_crash_0 C Kx Xc hfl ⟨Nat.le_refl _, Nat.le_refl _⟩ ⟨rfl, rfl⟩ u x1 (lv_sub hl [0, 1] rfl) S h
noncomputable def fX11_hold_51 (x4 : Int32) (x5 : Int32) (t0 : Int32) (u : Sg) : Option (Xr × Sg) := grd (vp_in x4 36) (bnd (s2 u 7 ((x4 : Int32).toNatClampNeg) x5) (fun u14 => grd (isB t0) (some (.inl t0, u14))))
noncomputable def fX11_hold_26 (x4 : Int32) (t0 : Int32) (u : Sg) : Option (Xr × Sg) := grd (vp_in x4 36) (cnd ((u 7 ((x4 : Int32).toNatClampNeg)) = t0) (fX11_hold_51 x4 t0 0 u) (fX11_hold_51 x4 t0 1 u))
noncomputable def fX11_hold_0 (x1 : Int32) (x2 : Int32) (x3 : Int32) (u : Sg) : Option (Xr × Sg) := obx (fX11_needNode x1 u) (fun u4 => obx (fX11_needNode x2 u4) (fun u8 => bnd (fX11_channelOf x1 x2) (fun v9 => cnd (x3 = 0) (fX11_hold_26 v9 0 u8) (fX11_hold_26 v9 1 u8))))
noncomputable def fX11_hold (x1 : Int32) (x2 : Int32) (x3 : Int32) (u : Sg) : Option (Xr × Sg) := fX11_hold_0 x1 x2 x3 u
set_option maxRecDepth 10000 in
set_option maxHeartbeats 4000000 in
theorem wX11_hold_51 (C : cx D (tyl cI cB cL) A RX11 cX11_hold 7 (some .boolean) p s m args c meth) (Kx : kx ka kv fv A s s.heap) (Xc : ∀ x ∈ c.exceptionTable.toList, False) (hfl : l.stackTraces = false) (hR : 7 ≤ R.frames ∧ 111 ≤ R.locals) {z : Xr × Sg} (hC : R.cells = 2 ∧ R.slots = 6 * 2) (u : Sg) (x4 : Int32) (x5 : Int32) (t0 : Int32) {H : Heap} {locs : List Loc} {ls : Array Slot} (hl : lv_has ls 7 [(0, .ref (ad 36)), (4, .int x4), (5, .int x5)]) (S : st D (wT cI cB ad tr kt pa pl) A s u H locs) (h : fX11_hold_51 x4 x5 t0 u = some z) : W p l e R s m args below meth c H locs 2 (6 * 2) (vx_MQ below (qXI D (tyl cI cB cL) (wT cI cB ad tr kt pa pl) A z) (xX D (tyl cI cB cL) (wT cI cB ad tr kt pa pl) A z) args s 2 (6 * 2) A) (F0 m 51 ls [.int t0]) := by
  have hx := C.1
  have hb := C.2.1
  have hsz := hl.1
  unfold fX11_hold_51 at h
  refine lv_istore (lv' := [(6, .int t0), (0, .ref (ad 36)), (4, .int x4), (5, .int x5)]) hx hb dX11_hold_51 hl (by decide) rfl (fun ls hl => ?_)
  have hsz := hl.1
  refine lv_aload_n hx hb dX11_hold_53 rfl (lv_at hl 1 rfl) ?_
  refine q_get (v := .ref (ad 0)) C S (oT36 cI cB ad tr kt pa pl) rfl iwX11 4 (by decide) mw_767 rfl dX11_hold_54 ?_
  refine q_get (v := .ref (ad 5)) C S (oT0 cI cB ad tr kt pa pl) rfl iwX7 13 (by decide) mw_788 rfl dX11_hold_57 ?_
  refine q_get (v := .ref (ad 7)) C S (oT5 cI cB ad tr kt pa pl) rfl iwX1 1 (by decide) mw_789 rfl dX11_hold_60 ?_
  refine lv_iload hx hb dX11_hold_63 (lv_at hl 2 rfl) ?_
  refine lv_iload hx hb dX11_hold_65 (lv_at hl 3 rfl) ?_
  obtain ⟨g13, h⟩ := grd_some h
  obtain ⟨u14, eu14⟩ : ∃ z : Sg, z = s2 u 7 ((x4 : Int32).toNatClampNeg) x5 := ⟨_, rfl⟩
  have h := bnd_of eu14 h
  refine q_iast C S (aT7 cI cB ad tr kt pa pl) 0 rfl g13 dX11_hold_67 (j := (x4 : Int32).toNatClampNeg) rfl eu14 (fun H locs S => ?_)
  refine lv_iload hx hb dX11_hold_68 (lv_at hl 0 rfl) ?_
  obtain ⟨g15, h⟩ := grd_some h
  exact x_zret C S (isB_n g15) h ⟨Nat.le_of_ble_eq_true rfl, Nat.le_of_ble_eq_true rfl⟩ dX11_hold_70
set_option maxRecDepth 10000 in
set_option maxHeartbeats 4000000 in
theorem wX11_hold_26 (C : cx D (tyl cI cB cL) A RX11 cX11_hold 7 (some .boolean) p s m args c meth) (Kx : kx ka kv fv A s s.heap) (Xc : ∀ x ∈ c.exceptionTable.toList, False) (hfl : l.stackTraces = false) (hR : 7 ≤ R.frames ∧ 111 ≤ R.locals) {z : Xr × Sg} (hC : R.cells = 2 ∧ R.slots = 6 * 2) (u : Sg) (x4 : Int32) (t0 : Int32) {H : Heap} {locs : List Loc} {ls : Array Slot} (hl : lv_has ls 7 [(0, .ref (ad 36)), (4, .int x4)]) (S : st D (wT cI cB ad tr kt pa pl) A s u H locs) (h : fX11_hold_26 x4 t0 u = some z) : W p l e R s m args below meth c H locs 2 (6 * 2) (vx_MQ below (qXI D (tyl cI cB cL) (wT cI cB ad tr kt pa pl) A z) (xX D (tyl cI cB cL) (wT cI cB ad tr kt pa pl) A z) args s 2 (6 * 2) A) (F0 m 26 ls [.int t0]) := by
  have hx := C.1
  have hb := C.2.1
  have hsz := hl.1
  unfold fX11_hold_26 at h
  refine lv_istore (lv' := [(5, .int t0), (0, .ref (ad 36)), (4, .int x4)]) hx hb dX11_hold_26 hl (by decide) rfl (fun ls hl => ?_)
  have hsz := hl.1
  refine lv_aload_n hx hb dX11_hold_28 rfl (lv_at hl 1 rfl) ?_
  refine q_get (v := .ref (ad 0)) C S (oT36 cI cB ad tr kt pa pl) rfl iwX11 4 (by decide) mw_767 rfl dX11_hold_29 ?_
  refine q_get (v := .ref (ad 5)) C S (oT0 cI cB ad tr kt pa pl) rfl iwX7 13 (by decide) mw_788 rfl dX11_hold_32 ?_
  refine q_get (v := .ref (ad 7)) C S (oT5 cI cB ad tr kt pa pl) rfl iwX1 1 (by decide) mw_789 rfl dX11_hold_35 ?_
  refine lv_iload hx hb dX11_hold_38 (lv_at hl 2 rfl) ?_
  obtain ⟨g11, h⟩ := grd_some h
  refine q_iald C S (aT7 cI cB ad tr kt pa pl) 0 rfl g11 dX11_hold_40 (j := (x4 : Int32).toNatClampNeg) rfl ?_
  refine lv_iload hx hb dX11_hold_41 (lv_at hl 0 rfl) ?_
  refine lv_icmp_eq (tgt := 50) hx hb dX11_hold_43 (by decide) (fun c12 => ?_) (fun c12 => ?_)
  · have h := cnd_t c12 h
    refine lv_iconst (v := 0) hx hb dX11_hold_50 (by decide) ?_
    exact wX11_hold_51 C Kx Xc hfl hR hC u x4 t0 0 (lv_sub hl [1, 2, 0] rfl) S h
  · have h := cnd_f c12 h
    refine lv_iconst (v := 1) hx hb dX11_hold_46 (by decide) ?_
    refine lv_goto (tgt := 51) hx hb dX11_hold_47 (by decide) ?_
    exact wX11_hold_51 C Kx Xc hfl hR hC u x4 t0 1 (lv_sub hl [1, 2, 0] rfl) S h
set_option maxRecDepth 10000 in
set_option maxHeartbeats 4000000 in
theorem wX11_hold_0 (C : cx D (tyl cI cB cL) A RX11 cX11_hold 7 (some .boolean) p s m args c meth) (Kx : kx ka kv fv A s s.heap) (Xc : ∀ x ∈ c.exceptionTable.toList, False) (hfl : l.stackTraces = false) (hR : 7 ≤ R.frames ∧ 111 ≤ R.locals) {z : Xr × Sg} (hC : R.cells = 2 ∧ R.slots = 6 * 2) (u : Sg) (x1 : Int32) (x2 : Int32) (x3 : Int32) {H : Heap} {locs : List Loc} {ls : Array Slot} (hl : lv_has ls 7 [(0, .ref (ad 36)), (1, .int x1), (2, .int x2), (3, .int x3)]) (S : st D (wT cI cB ad tr kt pa pl) A s u H locs) (h : fX11_hold_0 x1 x2 x3 u = some z) : W p l e R s m args below meth c H locs 0 0 (vx_MQ below (qXI D (tyl cI cB cL) (wT cI cB ad tr kt pa pl) A z) (xX D (tyl cI cB cL) (wT cI cB ad tr kt pa pl) A z) args s 2 (6 * 2) A) (F0 m 0 ls []) := by
  have hx := C.1
  have hb := C.2.1
  have hsz := hl.1
  unfold fX11_hold_0 at h
  refine lv_aload_n hx hb dX11_hold_0 rfl (lv_at hl 0 rfl) ?_
  refine lv_iload_n hx hb dX11_hold_1 rfl (lv_at hl 1 rfl) ?_
  obtain ⟨z1, h2, h3⟩ := obx_some h
  refine x_callVv (As := [.int x1]) (na := 1) C Kx Xc S (oT36 cI cB ad tr kt pa pl) rfl (ct_X11_needNode l hfl D cI cB cL ka kv fv ad tr kt pa pl x1 u h2) h3 mw_778 mw_779 mw_780 mw_321 mw_777 hdX11_needNode ⟨Nat.le_trans (Nat.le_of_ble_eq_true rfl) hR.1, Nat.le_trans (Nat.le_of_ble_eq_true rfl) hR.2⟩ rfl hsz (capX hC (Nat.le_of_ble_eq_true rfl) (Nat.le_of_ble_eq_true rfl)) ⟨Nat.le_of_ble_eq_true rfl, Nat.le_of_ble_eq_true rfl⟩ (Nat.le_of_ble_eq_true rfl) dX11_hold_2 rfl (fun u4 H locs h S => ?_)
  refine lv_aload_n hx hb dX11_hold_5 rfl (lv_at hl 0 rfl) ?_
  refine lv_iload_n hx hb dX11_hold_6 rfl (lv_at hl 2 rfl) ?_
  obtain ⟨z5, h6, h7⟩ := obx_some h
  refine x_callVv (As := [.int x2]) (na := 1) C Kx Xc S (oT36 cI cB ad tr kt pa pl) rfl (ct_X11_needNode l hfl D cI cB cL ka kv fv ad tr kt pa pl x2 u4 h6) h7 mw_778 mw_779 mw_780 mw_321 mw_777 hdX11_needNode ⟨Nat.le_trans (Nat.le_of_ble_eq_true rfl) hR.1, Nat.le_trans (Nat.le_of_ble_eq_true rfl) hR.2⟩ rfl hsz (capX hC (Nat.le_of_ble_eq_true rfl) (Nat.le_of_ble_eq_true rfl)) ⟨Nat.le_of_ble_eq_true rfl, Nat.le_of_ble_eq_true rfl⟩ (Nat.le_of_ble_eq_true rfl) dX11_hold_7 rfl (fun u8 H locs h S => ?_)
  refine lv_iload_n hx hb dX11_hold_10 rfl (lv_at hl 1 rfl) ?_
  refine lv_iload_n hx hb dX11_hold_11 rfl (lv_at hl 2 rfl) ?_
  refine q_callP (As := [.int x1, .int x2]) (na := 2) C S (ct_X11_channelOf l D cI cB cL x1 x2) mw_787 mw_406 mw_321 mw_405 hdX11_channelOf ⟨Nat.le_trans (Nat.le_of_ble_eq_true rfl) hR.1, Nat.le_trans (Nat.le_of_ble_eq_true rfl) hR.2⟩ rfl hsz (capX hC (Nat.le_of_ble_eq_true rfl) (Nat.le_of_ble_eq_true rfl)) (Nat.le_of_ble_eq_true rfl) dX11_hold_12 rfl (fun H locs S => ?_)
  refine lv_topi (fun v9 ev9 => ?_)
  have h := bnd_of ev9 h
  refine lv_istore (lv' := [(4, .int v9), (0, .ref (ad 36)), (1, .int x1), (2, .int x2), (3, .int x3)]) hx hb dX11_hold_15 hl (by decide) rfl (fun ls hl => ?_)
  have hsz := hl.1
  refine lv_iload_n hx hb dX11_hold_17 rfl (lv_at hl 4 rfl) ?_
  refine lv_if_eq (tgt := 25) hx hb dX11_hold_18 (by decide) (fun c10 => ?_) (fun c10 => ?_)
  · have h := cnd_t c10 h
    refine lv_iconst (v := 0) hx hb dX11_hold_25 (by decide) ?_
    refine W.widen (k := 2) (n := (6 * 2)) (Nat.le_of_ble_eq_true rfl) (Nat.le_of_ble_eq_true rfl) ?_
    exact wX11_hold_26 C Kx Xc hfl hR hC u8 v9 0 (lv_sub hl [1, 0] rfl) S h
  · have h := cnd_f c10 h
    refine lv_iconst (v := 1) hx hb dX11_hold_21 (by decide) ?_
    refine lv_goto (tgt := 26) hx hb dX11_hold_22 (by decide) ?_
    refine W.widen (k := 2) (n := (6 * 2)) (Nat.le_of_ble_eq_true rfl) (Nat.le_of_ble_eq_true rfl) ?_
    exact wX11_hold_26 C Kx Xc hfl hR hC u8 v9 1 (lv_sub hl [1, 0] rfl) S h
set_option maxRecDepth 10000 in
set_option maxHeartbeats 4000000 in
theorem ct_X11_hold (l : Launch) (hfl : l.stackTraces = false) (D : va_G) (cI cB cL : ClassId) (ka kv : Nat → Nat) (fv : Value) (ad : Nat → Nat) (tr kt pa pl : Nat) (x1 : Int32) (x2 : Int32) (x3 : Int32) (u : Sg) {z : Xr × Sg} (h : fX11_hold x1 x2 x3 u = some z) : metXI l D (tyl cI cB cL) ka kv fv yX11_hold cX11_hold 7 (some .boolean) 7 111 2 (wT cI cB ad tr kt pa pl) [.ref (ad 36), .int x1, .int x2, .int x3] u z := by
  intro sz
  refine vx_ofW (cc := cX11_hold) (maxL := 7) (ret := (some .boolean)) (by decide) rfl ?_
  intro p e s m args below meth c s₁ B hml Xc hv
  obtain ⟨rfl, C, S, Kx⟩ := q_entryK B hml hv
  have hl := lv_entry ([.ref (ad 36), .int x1, .int x2, .int x3]) (n := 7) (Nat.le_of_ble_eq_true rfl)
  rw [lg_entry_eq]
  generalize (lg_sl ([.ref (ad 36), .int x1, .int x2, .int x3]) ++ List.replicate (7 - (lg_sl ([.ref (ad 36), .int x1, .int x2, .int x3])).length) Slot.unset).toArray = ls at hl ⊢
  exact wX11_hold_0 C Kx Xc hfl ⟨Nat.le_refl _, Nat.le_refl _⟩ ⟨rfl, rfl⟩ u x1 x2 x3 (lv_sub hl [0, 1, 2, 3] rfl) S h
noncomputable def fX11_block_0 (x1 : Int32) (x2 : Int32) (u : Sg) : Option (Xr × Sg) := obx (fX11_needNode x1 u) (fun u4 => obx (fX11_needMessage x2 u4) (fun u8 => obr (fX0_blockOf x1 x2 (sbTN u8)) (fun r10 => some (.inl r10, u8))))
noncomputable def fX11_block (x1 : Int32) (x2 : Int32) (u : Sg) : Option (Xr × Sg) := fX11_block_0 x1 x2 u
set_option maxRecDepth 10000 in
set_option maxHeartbeats 4000000 in
theorem wX11_block_0 (C : cx D (tyl cI cB cL) A RX11 cX11_block 3 (some .int) p s m args c meth) (Kx : kx ka kv fv A s s.heap) (Xc : ∀ x ∈ c.exceptionTable.toList, False) (hfl : l.stackTraces = false) (hR : 7 ≤ R.frames ∧ 111 ≤ R.locals) {z : Xr × Sg} (hC : R.cells = 2 ∧ R.slots = 6 * 2) (u : Sg) (x1 : Int32) (x2 : Int32) {H : Heap} {locs : List Loc} {ls : Array Slot} (hl : lv_has ls 3 [(0, .ref (ad 36)), (1, .int x1), (2, .int x2)]) (S : st D (wT cI cB ad tr kt pa pl) A s u H locs) (h : fX11_block_0 x1 x2 u = some z) : W p l e R s m args below meth c H locs 0 0 (vx_MQ below (qXI D (tyl cI cB cL) (wT cI cB ad tr kt pa pl) A z) (xX D (tyl cI cB cL) (wT cI cB ad tr kt pa pl) A z) args s 2 (6 * 2) A) (F0 m 0 ls []) := by
  have hx := C.1
  have hb := C.2.1
  have hsz := hl.1
  unfold fX11_block_0 at h
  refine lv_aload_n hx hb dX11_block_0 rfl (lv_at hl 0 rfl) ?_
  refine lv_iload_n hx hb dX11_block_1 rfl (lv_at hl 1 rfl) ?_
  obtain ⟨z1, h2, h3⟩ := obx_some h
  refine x_callVv (As := [.int x1]) (na := 1) C Kx Xc S (oT36 cI cB ad tr kt pa pl) rfl (ct_X11_needNode l hfl D cI cB cL ka kv fv ad tr kt pa pl x1 u h2) h3 mw_778 mw_779 mw_780 mw_321 mw_777 hdX11_needNode ⟨Nat.le_trans (Nat.le_of_ble_eq_true rfl) hR.1, Nat.le_trans (Nat.le_of_ble_eq_true rfl) hR.2⟩ rfl hsz (capX hC (Nat.le_of_ble_eq_true rfl) (Nat.le_of_ble_eq_true rfl)) ⟨Nat.le_of_ble_eq_true rfl, Nat.le_of_ble_eq_true rfl⟩ (Nat.le_of_ble_eq_true rfl) dX11_block_2 rfl (fun u4 H locs h S => ?_)
  refine lv_aload_n hx hb dX11_block_5 rfl (lv_at hl 0 rfl) ?_
  refine lv_iload_n hx hb dX11_block_6 rfl (lv_at hl 2 rfl) ?_
  obtain ⟨z5, h6, h7⟩ := obx_some h
  refine x_callVv (As := [.int x2]) (na := 1) C Kx Xc S (oT36 cI cB ad tr kt pa pl) rfl (ct_X11_needMessage l hfl D cI cB cL ka kv fv ad tr kt pa pl x2 u4 h6) h7 mw_791 mw_792 mw_793 mw_321 mw_790 hdX11_needMessage ⟨Nat.le_trans (Nat.le_of_ble_eq_true rfl) hR.1, Nat.le_trans (Nat.le_of_ble_eq_true rfl) hR.2⟩ rfl hsz (capX hC (Nat.le_of_ble_eq_true rfl) (Nat.le_of_ble_eq_true rfl)) ⟨Nat.le_of_ble_eq_true rfl, Nat.le_of_ble_eq_true rfl⟩ (Nat.le_of_ble_eq_true rfl) dX11_block_7 rfl (fun u8 H locs h S => ?_)
  refine lv_aload_n hx hb dX11_block_10 rfl (lv_at hl 0 rfl) ?_
  refine q_get (v := .ref (ad 0)) C S (oT36 cI cB ad tr kt pa pl) rfl iwX11 4 (by decide) mw_767 rfl dX11_block_11 ?_
  refine lv_iload_n hx hb dX11_block_14 rfl (lv_at hl 1 rfl) ?_
  refine lv_iload_n hx hb dX11_block_15 rfl (lv_at hl 2 rfl) ?_
  obtain ⟨r10, h9, h⟩ := obr_some h
  refine s_callSiR (spl_TN cI cB ad tr kt) (As := [.ref (adTN ad 0), .int x1, .int x2]) (na := 3) C S (ct_X0_blockOf l D cI cB cL (adTN ad) pa pl x1 x2 (sbTN u8) h9) mw_794 mw_363 mw_362 mw_361 hdX0_blockOf ⟨Nat.le_trans (Nat.le_of_ble_eq_true rfl) hR.1, Nat.le_trans (Nat.le_of_ble_eq_true rfl) hR.2⟩ rfl hsz (capX hC (Nat.le_of_ble_eq_true rfl) (Nat.le_of_ble_eq_true rfl)) (Nat.le_of_ble_eq_true rfl) dX11_block_16 rfl (fun H locs S => ?_)
  exact x_iret C S h ⟨Nat.le_of_ble_eq_true rfl, Nat.le_of_ble_eq_true rfl⟩ dX11_block_19
set_option maxRecDepth 10000 in
set_option maxHeartbeats 4000000 in
theorem ct_X11_block (l : Launch) (hfl : l.stackTraces = false) (D : va_G) (cI cB cL : ClassId) (ka kv : Nat → Nat) (fv : Value) (ad : Nat → Nat) (tr kt pa pl : Nat) (x1 : Int32) (x2 : Int32) (u : Sg) {z : Xr × Sg} (h : fX11_block x1 x2 u = some z) : metXI l D (tyl cI cB cL) ka kv fv yX11_block cX11_block 3 (some .int) 7 111 2 (wT cI cB ad tr kt pa pl) [.ref (ad 36), .int x1, .int x2] u z := by
  intro sz
  refine vx_ofW (cc := cX11_block) (maxL := 3) (ret := (some .int)) (by decide) rfl ?_
  intro p e s m args below meth c s₁ B hml Xc hv
  obtain ⟨rfl, C, S, Kx⟩ := q_entryK B hml hv
  have hl := lv_entry ([.ref (ad 36), .int x1, .int x2]) (n := 3) (Nat.le_of_ble_eq_true rfl)
  rw [lg_entry_eq]
  generalize (lg_sl ([.ref (ad 36), .int x1, .int x2]) ++ List.replicate (3 - (lg_sl ([.ref (ad 36), .int x1, .int x2])).length) Slot.unset).toArray = ls at hl ⊢
  exact wX11_block_0 C Kx Xc hfl ⟨Nat.le_refl _, Nat.le_refl _⟩ ⟨rfl, rfl⟩ u x1 x2 (lv_sub hl [0, 1, 2] rfl) S h
noncomputable def fX11_waits_0 (x1 : Int32) (u : Sg) : Option (Xr × Sg) := obx (fX11_needMessage x1 u) (fun u4 => obr (fX0_waitsOf x1 (sbTN u4)) (fun r6 => some (.inl r6, u4)))
noncomputable def fX11_waits (x1 : Int32) (u : Sg) : Option (Xr × Sg) := fX11_waits_0 x1 u
set_option maxRecDepth 10000 in
set_option maxHeartbeats 4000000 in
theorem wX11_waits_0 (C : cx D (tyl cI cB cL) A RX11 cX11_waits 2 (some .int) p s m args c meth) (Kx : kx ka kv fv A s s.heap) (Xc : ∀ x ∈ c.exceptionTable.toList, False) (hfl : l.stackTraces = false) (hR : 7 ≤ R.frames ∧ 111 ≤ R.locals) {z : Xr × Sg} (hC : R.cells = 1 ∧ R.slots = 6 * 1) (u : Sg) (x1 : Int32) {H : Heap} {locs : List Loc} {ls : Array Slot} (hl : lv_has ls 2 [(0, .ref (ad 36)), (1, .int x1)]) (S : st D (wT cI cB ad tr kt pa pl) A s u H locs) (h : fX11_waits_0 x1 u = some z) : W p l e R s m args below meth c H locs 0 0 (vx_MQ below (qXI D (tyl cI cB cL) (wT cI cB ad tr kt pa pl) A z) (xX D (tyl cI cB cL) (wT cI cB ad tr kt pa pl) A z) args s 1 (6 * 1) A) (F0 m 0 ls []) := by
  have hx := C.1
  have hb := C.2.1
  have hsz := hl.1
  unfold fX11_waits_0 at h
  refine lv_aload_n hx hb dX11_waits_0 rfl (lv_at hl 0 rfl) ?_
  refine lv_iload_n hx hb dX11_waits_1 rfl (lv_at hl 1 rfl) ?_
  obtain ⟨z1, h2, h3⟩ := obx_some h
  refine x_callVv (As := [.int x1]) (na := 1) C Kx Xc S (oT36 cI cB ad tr kt pa pl) rfl (ct_X11_needMessage l hfl D cI cB cL ka kv fv ad tr kt pa pl x1 u h2) h3 mw_791 mw_792 mw_793 mw_321 mw_790 hdX11_needMessage ⟨Nat.le_trans (Nat.le_of_ble_eq_true rfl) hR.1, Nat.le_trans (Nat.le_of_ble_eq_true rfl) hR.2⟩ rfl hsz (capX hC (Nat.le_of_ble_eq_true rfl) (Nat.le_of_ble_eq_true rfl)) ⟨Nat.le_of_ble_eq_true rfl, Nat.le_of_ble_eq_true rfl⟩ (Nat.le_of_ble_eq_true rfl) dX11_waits_2 rfl (fun u4 H locs h S => ?_)
  refine lv_aload_n hx hb dX11_waits_5 rfl (lv_at hl 0 rfl) ?_
  refine q_get (v := .ref (ad 0)) C S (oT36 cI cB ad tr kt pa pl) rfl iwX11 4 (by decide) mw_767 rfl dX11_waits_6 ?_
  refine lv_iload_n hx hb dX11_waits_9 rfl (lv_at hl 1 rfl) ?_
  obtain ⟨r6, h5, h⟩ := obr_some h
  refine s_callSiR (spl_TN cI cB ad tr kt) (As := [.ref (adTN ad 0), .int x1]) (na := 2) C S (ct_X0_waitsOf l D cI cB cL (adTN ad) pa pl x1 (sbTN u4) h5) mw_795 mw_366 mw_362 mw_365 hdX0_waitsOf ⟨Nat.le_trans (Nat.le_of_ble_eq_true rfl) hR.1, Nat.le_trans (Nat.le_of_ble_eq_true rfl) hR.2⟩ rfl hsz (capX hC (Nat.le_of_ble_eq_true rfl) (Nat.le_of_ble_eq_true rfl)) (Nat.le_of_ble_eq_true rfl) dX11_waits_10 rfl (fun H locs S => ?_)
  exact x_iret C S h ⟨Nat.le_of_ble_eq_true rfl, Nat.le_of_ble_eq_true rfl⟩ dX11_waits_13
set_option maxRecDepth 10000 in
set_option maxHeartbeats 4000000 in
theorem ct_X11_waits (l : Launch) (hfl : l.stackTraces = false) (D : va_G) (cI cB cL : ClassId) (ka kv : Nat → Nat) (fv : Value) (ad : Nat → Nat) (tr kt pa pl : Nat) (x1 : Int32) (u : Sg) {z : Xr × Sg} (h : fX11_waits x1 u = some z) : metXI l D (tyl cI cB cL) ka kv fv yX11_waits cX11_waits 2 (some .int) 7 111 1 (wT cI cB ad tr kt pa pl) [.ref (ad 36), .int x1] u z := by
  intro sz
  refine vx_ofW (cc := cX11_waits) (maxL := 2) (ret := (some .int)) (by decide) rfl ?_
  intro p e s m args below meth c s₁ B hml Xc hv
  obtain ⟨rfl, C, S, Kx⟩ := q_entryK B hml hv
  have hl := lv_entry ([.ref (ad 36), .int x1]) (n := 2) (Nat.le_of_ble_eq_true rfl)
  rw [lg_entry_eq]
  generalize (lg_sl ([.ref (ad 36), .int x1]) ++ List.replicate (2 - (lg_sl ([.ref (ad 36), .int x1])).length) Slot.unset).toArray = ls at hl ⊢
  exact wX11_waits_0 C Kx Xc hfl ⟨Nat.le_refl _, Nat.le_refl _⟩ ⟨rfl, rfl⟩ u x1 (lv_sub hl [0, 1] rfl) S h
noncomputable def fX11_needTwo_0 (x0 : Int32) (x1 : Int32) (u : Sg) : Option (Xr × Sg) := cnd (x0 = x1) (some (.inr 3, u)) (some (.inl 0, u))
noncomputable def fX11_needTwo (x0 : Int32) (x1 : Int32) (u : Sg) : Option (Xr × Sg) := fX11_needTwo_0 x0 x1 u
set_option maxRecDepth 10000 in
set_option maxHeartbeats 4000000 in
theorem wX11_needTwo_0 (C : cx D (tyl cI cB cL) A RX11 cX11_needTwo 2 none p s m args c meth) (Kx : kx ka kv fv A s s.heap) (Xc : ∀ x ∈ c.exceptionTable.toList, False) (hfl : l.stackTraces = false) (hR : 6 ≤ R.frames ∧ 90 ≤ R.locals) {z : Xr × Sg} (hC : R.cells = 1 ∧ R.slots = 6 * 1) (u : Sg) (x0 : Int32) (x1 : Int32) {H : Heap} {locs : List Loc} {ls : Array Slot} (hl : lv_has ls 2 [(0, .int x0), (1, .int x1)]) (S : st D (wT cI cB ad tr kt pa pl) A s u H locs) (h : fX11_needTwo_0 x0 x1 u = some z) : W p l e R s m args below meth c H locs 0 0 (vx_MQ below (qXV D (tyl cI cB cL) (wT cI cB ad tr kt pa pl) A z) (xX D (tyl cI cB cL) (wT cI cB ad tr kt pa pl) A z) args s 1 (6 * 1) A) (F0 m 0 ls []) := by
  have hx := C.1
  have hb := C.2.1
  have hsz := hl.1
  unfold fX11_needTwo_0 at h
  refine lv_iload_n hx hb dX11_needTwo_0 rfl (lv_at hl 0 rfl) ?_
  refine lv_iload_n hx hb dX11_needTwo_1 rfl (lv_at hl 1 rfl) ?_
  refine lv_icmp_ne (tgt := 16) hx hb dX11_needTwo_2 (by decide) (fun c1 => ?_) (fun c1 => ?_)
  · have h := cnd_f c1 h
    exact x_vret C S h ⟨Nat.le_of_ble_eq_true rfl, Nat.le_of_ble_eq_true rfl⟩ dX11_needTwo_16
  · have h := cnd_t c1 h
    exact x_throwW C Kx Xc hfl S 3 (by decide +kernel) xat_3 xag_3 xao_3 xcl_3 xin_3 (kst_24 Kx) hsz dX11_needTwo_5 dX11_needTwo_8 dX11_needTwo_9 dX11_needTwo_12 dX11_needTwo_15 ⟨Nat.le_trans (Nat.le_of_ble_eq_true rfl) hR.1, Nat.le_trans (Nat.le_of_ble_eq_true rfl) hR.2⟩ (Nat.le_of_ble_eq_true rfl) (capX hC (Nat.le_of_ble_eq_true rfl) (Nat.le_of_ble_eq_true rfl)) ⟨Nat.le_of_ble_eq_true rfl, Nat.le_of_ble_eq_true rfl⟩ h
set_option maxRecDepth 10000 in
set_option maxHeartbeats 4000000 in
theorem ct_X11_needTwo (l : Launch) (hfl : l.stackTraces = false) (D : va_G) (cI cB cL : ClassId) (ka kv : Nat → Nat) (fv : Value) (ad : Nat → Nat) (tr kt pa pl : Nat) (x0 : Int32) (x1 : Int32) (u : Sg) {z : Xr × Sg} (h : fX11_needTwo x0 x1 u = some z) : metXV l D (tyl cI cB cL) ka kv fv yX11_needTwo cX11_needTwo 2 6 90 1 (wT cI cB ad tr kt pa pl) [.int x0, .int x1] u z := by
  intro sz
  refine vx_ofW (cc := cX11_needTwo) (maxL := 2) (ret := none) (by decide) rfl ?_
  intro p e s m args below meth c s₁ B hml Xc hv
  obtain ⟨rfl, C, S, Kx⟩ := q_entryK B hml hv
  have hl := lv_entry ([.int x0, .int x1]) (n := 2) (Nat.le_of_ble_eq_true rfl)
  rw [lg_entry_eq]
  generalize (lg_sl ([.int x0, .int x1]) ++ List.replicate (2 - (lg_sl ([.int x0, .int x1])).length) Slot.unset).toArray = ls at hl ⊢
  exact wX11_needTwo_0 C Kx Xc hfl ⟨Nat.le_refl _, Nat.le_refl _⟩ ⟨rfl, rfl⟩ u x0 x1 (lv_sub hl [0, 1] rfl) S h
noncomputable def fX11_ahead_0 (x1 : Int32) (x2 : Int32) (u : Sg) : Option (Xr × Sg) := obx (fX11_needMessage x1 u) (fun u4 => obx (fX11_needMessage x2 u4) (fun u8 => obx (fX11_needTwo x1 x2 u8) (fun u12 => obr (fX8_read (sbTO u12)) (fun u14 => bnd (ubTO u12 u14) (fun u15 => obr (fX8_isAhead x1 x2 (sbTO u15)) (fun r17 => grd (isB r17) (some (.inl r17, u15))))))))
noncomputable def fX11_ahead (x1 : Int32) (x2 : Int32) (u : Sg) : Option (Xr × Sg) := fX11_ahead_0 x1 x2 u
set_option maxRecDepth 10000 in
set_option maxHeartbeats 4000000 in
theorem wX11_ahead_0 (C : cx D (tyl cI cB cL) A RX11 cX11_ahead 3 (some .boolean) p s m args c meth) (Kx : kx ka kv fv A s s.heap) (Xc : ∀ x ∈ c.exceptionTable.toList, False) (hfl : l.stackTraces = false) (hR : 7 ≤ R.frames ∧ 111 ≤ R.locals) {z : Xr × Sg} (hC : R.cells = 3 ∧ R.slots = 6 * 3) (u : Sg) (x1 : Int32) (x2 : Int32) {H : Heap} {locs : List Loc} {ls : Array Slot} (hl : lv_has ls 3 [(0, .ref (ad 36)), (1, .int x1), (2, .int x2)]) (S : st D (wT cI cB ad tr kt pa pl) A s u H locs) (h : fX11_ahead_0 x1 x2 u = some z) : W p l e R s m args below meth c H locs 0 0 (vx_MQ below (qXI D (tyl cI cB cL) (wT cI cB ad tr kt pa pl) A z) (xX D (tyl cI cB cL) (wT cI cB ad tr kt pa pl) A z) args s 3 (6 * 3) A) (F0 m 0 ls []) := by
  have hx := C.1
  have hb := C.2.1
  have hsz := hl.1
  unfold fX11_ahead_0 at h
  refine lv_aload_n hx hb dX11_ahead_0 rfl (lv_at hl 0 rfl) ?_
  refine lv_iload_n hx hb dX11_ahead_1 rfl (lv_at hl 1 rfl) ?_
  obtain ⟨z1, h2, h3⟩ := obx_some h
  refine x_callVv (As := [.int x1]) (na := 1) C Kx Xc S (oT36 cI cB ad tr kt pa pl) rfl (ct_X11_needMessage l hfl D cI cB cL ka kv fv ad tr kt pa pl x1 u h2) h3 mw_791 mw_792 mw_793 mw_321 mw_790 hdX11_needMessage ⟨Nat.le_trans (Nat.le_of_ble_eq_true rfl) hR.1, Nat.le_trans (Nat.le_of_ble_eq_true rfl) hR.2⟩ rfl hsz (capX hC (Nat.le_of_ble_eq_true rfl) (Nat.le_of_ble_eq_true rfl)) ⟨Nat.le_of_ble_eq_true rfl, Nat.le_of_ble_eq_true rfl⟩ (Nat.le_of_ble_eq_true rfl) dX11_ahead_2 rfl (fun u4 H locs h S => ?_)
  refine lv_aload_n hx hb dX11_ahead_5 rfl (lv_at hl 0 rfl) ?_
  refine lv_iload_n hx hb dX11_ahead_6 rfl (lv_at hl 2 rfl) ?_
  obtain ⟨z5, h6, h7⟩ := obx_some h
  refine x_callVv (As := [.int x2]) (na := 1) C Kx Xc S (oT36 cI cB ad tr kt pa pl) rfl (ct_X11_needMessage l hfl D cI cB cL ka kv fv ad tr kt pa pl x2 u4 h6) h7 mw_791 mw_792 mw_793 mw_321 mw_790 hdX11_needMessage ⟨Nat.le_trans (Nat.le_of_ble_eq_true rfl) hR.1, Nat.le_trans (Nat.le_of_ble_eq_true rfl) hR.2⟩ rfl hsz (capX hC (Nat.le_of_ble_eq_true rfl) (Nat.le_of_ble_eq_true rfl)) ⟨Nat.le_of_ble_eq_true rfl, Nat.le_of_ble_eq_true rfl⟩ (Nat.le_of_ble_eq_true rfl) dX11_ahead_7 rfl (fun u8 H locs h S => ?_)
  refine lv_iload_n hx hb dX11_ahead_10 rfl (lv_at hl 1 rfl) ?_
  refine lv_iload_n hx hb dX11_ahead_11 rfl (lv_at hl 2 rfl) ?_
  obtain ⟨z9, h10, h11⟩ := obx_some h
  refine x_callSv (As := [.int x1, .int x2]) (na := 2) C Kx Xc S (ct_X11_needTwo l hfl D cI cB cL ka kv fv ad tr kt pa pl x1 x2 u8 h10) h11 mw_797 mw_798 mw_321 mw_796 hdX11_needTwo ⟨Nat.le_trans (Nat.le_of_ble_eq_true rfl) hR.1, Nat.le_trans (Nat.le_of_ble_eq_true rfl) hR.2⟩ rfl hsz (capX hC (Nat.le_of_ble_eq_true rfl) (Nat.le_of_ble_eq_true rfl)) ⟨Nat.le_of_ble_eq_true rfl, Nat.le_of_ble_eq_true rfl⟩ (Nat.le_of_ble_eq_true rfl) dX11_ahead_12 rfl (fun u12 H locs h S => ?_)
  refine lv_aload_n hx hb dX11_ahead_15 rfl (lv_at hl 0 rfl) ?_
  refine q_get (v := .ref (ad 40)) C S (oT36 cI cB ad tr kt pa pl) rfl iwX11 2 (by decide) mw_799 rfl dX11_ahead_16 ?_
  refine lv_aload_n hx hb dX11_ahead_19 rfl (lv_at hl 0 rfl) ?_
  refine q_get (v := .ref (ad 0)) C S (oT36 cI cB ad tr kt pa pl) rfl iwX11 4 (by decide) mw_767 rfl dX11_ahead_20 ?_
  obtain ⟨u14, h13, h⟩ := obr_some h
  obtain ⟨u15, eu15⟩ : ∃ z : Sg, z = ubTO u12 u14 := ⟨_, rfl⟩
  have h := bnd_of eu15 h
  refine s_callVv (spl_TO cI cB ad tr kt) (As := [.ref (adTO ad 0)]) (na := 1) C S (oO36 cI (adTO ad) pa pl) rfl (ct_X8_read l D cI cB cL (adTO ad) pa pl (sbTO u12) h13) mw_801 mw_802 mw_803 mw_647 mw_800 hdX8_read ⟨Nat.le_trans (Nat.le_of_ble_eq_true rfl) hR.1, Nat.le_trans (Nat.le_of_ble_eq_true rfl) hR.2⟩ rfl hsz (capX hC (Nat.le_of_ble_eq_true rfl) (Nat.le_of_ble_eq_true rfl)) (Nat.le_of_ble_eq_true rfl) dX11_ahead_23 rfl (fun H locs S => ?_)
  rw [← eu15] at S
  refine lv_aload_n hx hb dX11_ahead_26 rfl (lv_at hl 0 rfl) ?_
  refine q_get (v := .ref (ad 40)) C S (oT36 cI cB ad tr kt pa pl) rfl iwX11 2 (by decide) mw_799 rfl dX11_ahead_27 ?_
  refine lv_iload_n hx hb dX11_ahead_30 rfl (lv_at hl 1 rfl) ?_
  refine lv_iload_n hx hb dX11_ahead_31 rfl (lv_at hl 2 rfl) ?_
  obtain ⟨r17, h16, h⟩ := obr_some h
  refine s_callViR (spl_TO cI cB ad tr kt) (As := [.int x1, .int x2]) (na := 2) C S (oO36 cI (adTO ad) pa pl) rfl (ct_X8_isAhead l D cI cB cL (adTO ad) pa pl x1 x2 (sbTO u15) h16) mw_804 mw_648 mw_650 mw_647 mw_646 hdX8_isAhead ⟨Nat.le_trans (Nat.le_of_ble_eq_true rfl) hR.1, Nat.le_trans (Nat.le_of_ble_eq_true rfl) hR.2⟩ rfl hsz (capX hC (Nat.le_of_ble_eq_true rfl) (Nat.le_of_ble_eq_true rfl)) (Nat.le_of_ble_eq_true rfl) dX11_ahead_32 rfl (fun H locs S => ?_)
  obtain ⟨g18, h⟩ := grd_some h
  exact x_zret C S (isB_n g18) h ⟨Nat.le_of_ble_eq_true rfl, Nat.le_of_ble_eq_true rfl⟩ dX11_ahead_35
set_option maxRecDepth 10000 in
set_option maxHeartbeats 4000000 in
theorem ct_X11_ahead (l : Launch) (hfl : l.stackTraces = false) (D : va_G) (cI cB cL : ClassId) (ka kv : Nat → Nat) (fv : Value) (ad : Nat → Nat) (tr kt pa pl : Nat) (x1 : Int32) (x2 : Int32) (u : Sg) {z : Xr × Sg} (h : fX11_ahead x1 x2 u = some z) : metXI l D (tyl cI cB cL) ka kv fv yX11_ahead cX11_ahead 3 (some .boolean) 7 111 3 (wT cI cB ad tr kt pa pl) [.ref (ad 36), .int x1, .int x2] u z := by
  intro sz
  refine vx_ofW (cc := cX11_ahead) (maxL := 3) (ret := (some .boolean)) (by decide) rfl ?_
  intro p e s m args below meth c s₁ B hml Xc hv
  obtain ⟨rfl, C, S, Kx⟩ := q_entryK B hml hv
  have hl := lv_entry ([.ref (ad 36), .int x1, .int x2]) (n := 3) (Nat.le_of_ble_eq_true rfl)
  rw [lg_entry_eq]
  generalize (lg_sl ([.ref (ad 36), .int x1, .int x2]) ++ List.replicate (3 - (lg_sl ([.ref (ad 36), .int x1, .int x2])).length) Slot.unset).toArray = ls at hl ⊢
  exact wX11_ahead_0 C Kx Xc hfl ⟨Nat.le_refl _, Nat.le_refl _⟩ ⟨rfl, rfl⟩ u x1 x2 (lv_sub hl [0, 1, 2] rfl) S h
end S_46_xa
