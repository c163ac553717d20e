theorem mw_720 : Cond.methodLink RX9 132 yJ0_length_8abf5 ∈ gw := gw_t3 97 rfl rfl
theorem mw_721 : Cond.methodLink RX9 137 yJ0_charAt_5068e ∈ gw := gw_t3 107 rfl rfl
theorem mw_722 : Cond.fieldLink RX9 112 "LeastPending$Net" "events" "LLeastPending$Events;" ∈ gw := gw_t2 95 rfl rfl
theorem mw_723 : Cond.fieldLink RX9 116 "LeastPending$Events" "waiting" "I" ∈ gw := gw_t2 8 rfl rfl
theorem mw_724 : Cond.fieldLink RX9 121 "LeastPending$Net" "tick" "I" ∈ gw := gw_t2 58 rfl rfl
theorem mw_725 : Cond.code yX9_skipWord cX9_skipWord 1 none ∈ gw := gw_t3 91 rfl rfl
theorem mw_726 : Cond.instanceMethod yX9_skipWord ∈ gw := gw_t3 90 rfl rfl
theorem mw_727 : Cond.methodLink RX9 41 yX9_skipWord ∈ gw := gw_t3 88 rfl rfl
theorem mw_728 : Cond.selects RX9 yX9_skipWord yX9_skipWord ∈ gw := gw_pv (n := 4) (List.mem_of_getElem? (i := 4) rfl)
theorem mw_729 : Cond.code yX9_isWord cX9_isWord 4 (some .boolean) ∈ gw := gw_t3 96 rfl rfl
theorem mw_730 : Cond.instanceMethod yX9_isWord ∈ gw := gw_t3 95 rfl rfl
theorem mw_731 : Cond.methodLink RX9 46 yX9_isWord ∈ gw := gw_t3 93 rfl rfl
theorem mw_732 : Cond.selects RX9 yX9_isWord yX9_isWord ∈ gw := gw_pv (n := 4) (List.mem_of_getElem? (i := 5) rfl)
theorem mw_733 : Cond.code yX2_add cX2_add 4 none ∈ gw := gw_t3 183 rfl rfl
theorem mw_734 : Cond.instanceMethod yX2_add ∈ gw := gw_t3 181 rfl rfl
theorem mw_735 : Cond.methodLink RX9 128 yX2_add ∈ gw := gw_t3 180 rfl rfl
theorem mw_736 : Cond.selects RX2 yX2_add yX2_add ∈ gw := gw_t3 182 rfl rfl
theorem mw_737 : Cond.code yX9_tellEvent cX9_tellEvent 8 none ∈ gw := gw_t3 177 rfl rfl
theorem mw_738 : Cond.instanceMethod yX9_tellEvent ∈ gw := gw_t3 176 rfl rfl
theorem mw_739 : Cond.methodLink RX9 80 yX9_tellEvent ∈ gw := gw_t3 174 rfl rfl
theorem mw_740 : Cond.selects RX9 yX9_tellEvent yX9_tellEvent ∈ gw := gw_pv (n := 4) (List.mem_of_getElem? (i := 11) rfl)
theorem mw_741 : Cond.fieldLink RX9 77 "LeastPending$Net" "notice" "I" ∈ gw := gw_t2 64 rfl rfl
theorem mw_742 : Cond.fieldLink RX9 71 "LeastPending$Net" "jitter" "I" ∈ gw := gw_t2 61 rfl rfl
theorem mw_743 : Cond.code yX9_tellDelay cX9_tellDelay 5 none ∈ gw := gw_t3 167 rfl rfl
theorem mw_744 : Cond.instanceMethod yX9_tellDelay ∈ gw := gw_t3 166 rfl rfl
theorem mw_745 : Cond.methodLink RX9 61 yX9_tellDelay ∈ gw := gw_t3 164 rfl rfl
theorem mw_746 : Cond.selects RX9 yX9_tellDelay yX9_tellDelay ∈ gw := gw_pv (n := 4) (List.mem_of_getElem? (i := 10) rfl)
theorem mw_747 : Cond.code yX9_tellGroup cX9_tellGroup 7 none ∈ gw := gw_t3 161 rfl rfl
theorem mw_748 : Cond.instanceMethod yX9_tellGroup ∈ gw := gw_t3 160 rfl rfl
theorem mw_749 : Cond.methodLink RX9 56 yX9_tellGroup ∈ gw := gw_t3 158 rfl rfl
theorem mw_750 : Cond.selects RX9 yX9_tellGroup yX9_tellGroup ∈ gw := gw_pv (n := 4) (List.mem_of_getElem? (i := 9) rfl)
theorem mw_751 : Cond.code yX9_tellNodes cX9_tellNodes 5 none ∈ gw := gw_t3 148 rfl rfl
theorem mw_752 : Cond.instanceMethod yX9_tellNodes ∈ gw := gw_t3 147 rfl rfl
theorem mw_753 : Cond.methodLink RX9 50 yX9_tellNodes ∈ gw := gw_t3 145 rfl rfl
theorem mw_754 : Cond.selects RX9 yX9_tellNodes yX9_tellNodes ∈ gw := gw_pv (n := 4) (List.mem_of_getElem? (i := 6) rfl)
theorem mw_755 : Cond.code yX9_tellLine cX9_tellLine 4 none ∈ gw := gw_t3 87 rfl rfl
theorem mw_756 : Cond.instanceMethod yX9_tellLine ∈ gw := gw_t3 86 rfl rfl
theorem mw_757 : Cond.methodLink RX9 33 yX9_tellLine ∈ gw := gw_t3 84 rfl rfl
theorem mw_758 : Cond.selects RX9 yX9_tellLine yX9_tellLine ∈ gw := gw_pv (n := 4) (List.mem_of_getElem? (i := 3) rfl)
theorem hdX2_add : yX2_add.cls = RX2 ∧ yX2_add.cls ≠ "java/lang/invoke/MethodHandle" ∧ yX2_add.cls ≠ "java/lang/invoke/VarHandle" ∧ (parseMethodDescriptor yX2_add.desc).map (fun d => d.parameters.length) = some 3 := by decide +kernel
theorem hdX9_isWord : yX9_isWord.cls = RX9 ∧ yX9_isWord.cls ≠ "java/lang/invoke/MethodHandle" ∧ yX9_isWord.cls ≠ "java/lang/invoke/VarHandle" ∧ (parseMethodDescriptor yX9_isWord.desc).map (fun d => d.parameters.length) = some 2 := by decide +kernel
theorem hdX9_skipWord : yX9_skipWord.cls = RX9 ∧ yX9_skipWord.cls ≠ "java/lang/invoke/MethodHandle" ∧ yX9_skipWord.cls ≠ "java/lang/invoke/VarHandle" ∧ (parseMethodDescriptor yX9_skipWord.desc).map (fun d => d.parameters.length) = some 0 := by decide +kernel
theorem hdX9_tellDelay : yX9_tellDelay.cls = RX9 ∧ yX9_tellDelay.cls ≠ "java/lang/invoke/MethodHandle" ∧ yX9_tellDelay.cls ≠ "java/lang/invoke/VarHandle" ∧ (parseMethodDescriptor yX9_tellDelay.desc).map (fun d => d.parameters.length) = some 1 := by decide +kernel
theorem hdX9_tellEvent : yX9_tellEvent.cls = RX9 ∧ yX9_tellEvent.cls ≠ "java/lang/invoke/MethodHandle" ∧ yX9_tellEvent.cls ≠ "java/lang/invoke/VarHandle" ∧ (parseMethodDescriptor yX9_tellEvent.desc).map (fun d => d.parameters.length) = some 2 := by decide +kernel
theorem hdX9_tellGroup : yX9_tellGroup.cls = RX9 ∧ yX9_tellGroup.cls ≠ "java/lang/invoke/MethodHandle" ∧ yX9_tellGroup.cls ≠ "java/lang/invoke/VarHandle" ∧ (parseMethodDescriptor yX9_tellGroup.desc).map (fun d => d.parameters.length) = some 2 := by decide +kernel
theorem hdX9_tellLine : yX9_tellLine.cls = RX9 ∧ yX9_tellLine.cls ≠ "java/lang/invoke/MethodHandle" ∧ yX9_tellLine.cls ≠ "java/lang/invoke/VarHandle" ∧ (parseMethodDescriptor yX9_tellLine.desc).map (fun d => d.parameters.length) = some 2 := by decide +kernel
theorem hdX9_tellNodes : yX9_tellNodes.cls = RX9 ∧ yX9_tellNodes.cls ≠ "java/lang/invoke/MethodHandle" ∧ yX9_tellNodes.cls ≠ "java/lang/invoke/VarHandle" ∧ (parseMethodDescriptor yX9_tellNodes.desc).map (fun d => d.parameters.length) = some 3 := by decide +kernel
theorem dX9_isWord_0 : decode cX9_isWord 0 = .ok (.aload_n 0, 1) := by decide +kernel
theorem dX9_isWord_1 : decode cX9_isWord 1 = .ok (.getfield 15, 3) := by decide +kernel
theorem dX9_isWord_4 : decode cX9_isWord 4 = .ok (.iload_n 1, 1) := by decide +kernel
theorem dX9_isWord_5 : decode cX9_isWord 5 = .ok (.isub, 1) := by decide +kernel
theorem dX9_isWord_6 : decode cX9_isWord 6 = .ok (.aload_n 2, 1) := by decide +kernel
theorem dX9_isWord_7 : decode cX9_isWord 7 = .ok (.invokevirtual 132, 3) := by decide +kernel
theorem dX9_isWord_10 : decode cX9_isWord 10 = .ok (.if_icmp .eq 5, 3) := by decide +kernel
theorem dX9_isWord_13 : decode cX9_isWord 13 = .ok (.iconst 0, 1) := by decide +kernel
theorem dX9_isWord_14 : decode cX9_isWord 14 = .ok (.ireturn, 1) := by decide +kernel
theorem dX9_isWord_15 : decode cX9_isWord 15 = .ok (.iconst 0, 1) := by decide +kernel
theorem dX9_isWord_16 : decode cX9_isWord 16 = .ok (.istore_n 3, 1) := by decide +kernel
theorem dX9_isWord_17 : decode cX9_isWord 17 = .ok (.iload_n 3, 1) := by decide +kernel
theorem dX9_isWord_18 : decode cX9_isWord 18 = .ok (.aload_n 2, 1) := by decide +kernel
theorem dX9_isWord_19 : decode cX9_isWord 19 = .ok (.invokevirtual 132, 3) := by decide +kernel
theorem dX9_isWord_22 : decode cX9_isWord 22 = .ok (.if_icmp .ge 30, 3) := by decide +kernel
theorem dX9_isWord_25 : decode cX9_isWord 25 = .ok (.aload_n 0, 1) := by decide +kernel
theorem dX9_isWord_26 : decode cX9_isWord 26 = .ok (.getfield 9, 3) := by decide +kernel
theorem dX9_isWord_29 : decode cX9_isWord 29 = .ok (.getfield 37, 3) := by decide +kernel
theorem dX9_isWord_32 : decode cX9_isWord 32 = .ok (.iload_n 1, 1) := by decide +kernel
theorem dX9_isWord_33 : decode cX9_isWord 33 = .ok (.iload_n 3, 1) := by decide +kernel
theorem dX9_isWord_34 : decode cX9_isWord 34 = .ok (.iadd, 1) := by decide +kernel
theorem dX9_isWord_35 : decode cX9_isWord 35 = .ok (.baload, 1) := by decide +kernel
theorem dX9_isWord_36 : decode cX9_isWord 36 = .ok (.aload_n 2, 1) := by decide +kernel
theorem dX9_isWord_37 : decode cX9_isWord 37 = .ok (.iload_n 3, 1) := by decide +kernel
theorem dX9_isWord_38 : decode cX9_isWord 38 = .ok (.invokevirtual 137, 3) := by decide +kernel
theorem dX9_isWord_41 : decode cX9_isWord 41 = .ok (.if_icmp .eq 5, 3) := by decide +kernel
theorem dX9_isWord_44 : decode cX9_isWord 44 = .ok (.iconst 0, 1) := by decide +kernel
theorem dX9_isWord_45 : decode cX9_isWord 45 = .ok (.ireturn, 1) := by decide +kernel
theorem dX9_isWord_46 : decode cX9_isWord 46 = .ok (.iinc 3 1, 3) := by decide +kernel
theorem dX9_isWord_49 : decode cX9_isWord 49 = .ok (.goto (-32), 3) := by decide +kernel
theorem dX9_isWord_52 : decode cX9_isWord 52 = .ok (.iconst 1, 1) := by decide +kernel
theorem dX9_isWord_53 : decode cX9_isWord 53 = .ok (.ireturn, 1) := by decide +kernel
theorem dX9_tellEvent_0 : decode cX9_tellEvent 0 = .ok (.aload_n 1, 1) := by decide +kernel
theorem dX9_tellEvent_1 : decode cX9_tellEvent 1 = .ok (.getfield 112, 3) := by decide +kernel
theorem dX9_tellEvent_4 : decode cX9_tellEvent 4 = .ok (.getfield 116, 3) := by decide +kernel
theorem dX9_tellEvent_7 : decode cX9_tellEvent 7 = .ok (.bipush 8, 2) := by decide +kernel
theorem dX9_tellEvent_9 : decode cX9_tellEvent 9 = .ok (.if_icmp .lt 9, 3) := by decide +kernel
theorem dX9_tellEvent_12 : decode cX9_tellEvent 12 = .ok (.aload_n 0, 1) := by decide +kernel
theorem dX9_tellEvent_13 : decode cX9_tellEvent 13 = .ok (.iload_n 2, 1) := by decide +kernel
theorem dX9_tellEvent_14 : decode cX9_tellEvent 14 = .ok (.putfield 19, 3) := by decide +kernel
theorem dX9_tellEvent_17 : decode cX9_tellEvent 17 = .ok (.return_, 1) := by decide +kernel
theorem dX9_tellEvent_18 : decode cX9_tellEvent 18 = .ok (.aload_n 0, 1) := by decide +kernel
theorem dX9_tellEvent_19 : decode cX9_tellEvent 19 = .ok (.aload_n 1, 1) := by decide +kernel
theorem dX9_tellEvent_20 : decode cX9_tellEvent 20 = .ok (.getfield 121, 3) := by decide +kernel
theorem dX9_tellEvent_23 : decode cX9_tellEvent 23 = .ok (.sipush 999, 3) := by decide +kernel
theorem dX9_tellEvent_26 : decode cX9_tellEvent 26 = .ok (.invokevirtual 67, 3) := by decide +kernel
theorem dX9_tellEvent_29 : decode cX9_tellEvent 29 = .ok (.istore_n 3, 1) := by decide +kernel
theorem dX9_tellEvent_30 : decode cX9_tellEvent 30 = .ok (.iload_n 3, 1) := by decide +kernel
theorem dX9_tellEvent_31 : decode cX9_tellEvent 31 = .ok (.iconst (-1), 1) := by decide +kernel
theorem dX9_tellEvent_32 : decode cX9_tellEvent 32 = .ok (.if_icmp .ne 4, 3) := by decide +kernel
theorem dX9_tellEvent_35 : decode cX9_tellEvent 35 = .ok (.return_, 1) := by decide +kernel
theorem dX9_tellEvent_36 : decode cX9_tellEvent 36 = .ok (.aload_n 0, 1) := by decide +kernel
theorem dX9_tellEvent_37 : decode cX9_tellEvent 37 = .ok (.invokevirtual 25, 3) := by decide +kernel
theorem dX9_tellEvent_40 : decode cX9_tellEvent 40 = .ok (.aload_n 0, 1) := by decide +kernel
theorem dX9_tellEvent_41 : decode cX9_tellEvent 41 = .ok (.getfield 15, 3) := by decide +kernel
theorem dX9_tellEvent_44 : decode cX9_tellEvent 44 = .ok (.istore 4, 2) := by decide +kernel
theorem dX9_tellEvent_46 : decode cX9_tellEvent 46 = .ok (.aload_n 0, 1) := by decide +kernel
theorem dX9_tellEvent_47 : decode cX9_tellEvent 47 = .ok (.invokevirtual 41, 3) := by decide +kernel
theorem dX9_tellEvent_50 : decode cX9_tellEvent 50 = .ok (.aload_n 0, 1) := by decide +kernel
theorem dX9_tellEvent_51 : decode cX9_tellEvent 51 = .ok (.iload 4, 2) := by decide +kernel
theorem dX9_tellEvent_53 : decode cX9_tellEvent 53 = .ok (.ldc 124, 2) := by decide +kernel
theorem dX9_tellEvent_55 : decode cX9_tellEvent 55 = .ok (.invokevirtual 46, 3) := by decide +kernel
theorem dX9_tellEvent_58 : decode cX9_tellEvent 58 = .ok (.istore 5, 2) := by decide +kernel
theorem dX9_tellEvent_60 : decode cX9_tellEvent 60 = .ok (.iload 5, 2) := by decide +kernel
theorem dX9_tellEvent_62 : decode cX9_tellEvent 62 = .ok (.ifCond .ne 21, 3) := by decide +kernel
theorem dX9_tellEvent_65 : decode cX9_tellEvent 65 = .ok (.aload_n 0, 1) := by decide +kernel
theorem dX9_tellEvent_66 : decode cX9_tellEvent 66 = .ok (.iload 4, 2) := by decide +kernel
theorem dX9_tellEvent_68 : decode cX9_tellEvent 68 = .ok (.ldc 126, 2) := by decide +kernel
theorem dX9_tellEvent_70 : decode cX9_tellEvent 70 = .ok (.invokevirtual 46, 3) := by decide +kernel
theorem dX9_tellEvent_73 : decode cX9_tellEvent 73 = .ok (.ifCond .ne 10, 3) := by decide +kernel
theorem dX9_tellEvent_76 : decode cX9_tellEvent 76 = .ok (.aload_n 0, 1) := by decide +kernel
theorem dX9_tellEvent_77 : decode cX9_tellEvent 77 = .ok (.iload 4, 2) := by decide +kernel
theorem dX9_tellEvent_79 : decode cX9_tellEvent 79 = .ok (.putfield 19, 3) := by decide +kernel
theorem dX9_tellEvent_82 : decode cX9_tellEvent 82 = .ok (.return_, 1) := by decide +kernel
theorem dX9_tellEvent_83 : decode cX9_tellEvent 83 = .ok (.aload_n 0, 1) := by decide +kernel
theorem dX9_tellEvent_84 : decode cX9_tellEvent 84 = .ok (.iconst 0, 1) := by decide +kernel
theorem dX9_tellEvent_85 : decode cX9_tellEvent 85 = .ok (.aload_n 1, 1) := by decide +kernel
theorem dX9_tellEvent_86 : decode cX9_tellEvent 86 = .ok (.getfield 83, 3) := by decide +kernel
theorem dX9_tellEvent_89 : decode cX9_tellEvent 89 = .ok (.iconst 1, 1) := by decide +kernel
theorem dX9_tellEvent_90 : decode cX9_tellEvent 90 = .ok (.isub, 1) := by decide +kernel
theorem dX9_tellEvent_91 : decode cX9_tellEvent 91 = .ok (.invokevirtual 67, 3) := by decide +kernel
theorem dX9_tellEvent_94 : decode cX9_tellEvent 94 = .ok (.istore 6, 2) := by decide +kernel
theorem dX9_tellEvent_96 : decode cX9_tellEvent 96 = .ok (.iload 5, 2) := by decide +kernel
theorem dX9_tellEvent_98 : decode cX9_tellEvent 98 = .ok (.ifCond .eq 17, 3) := by decide +kernel
theorem dX9_tellEvent_101 : decode cX9_tellEvent 101 = .ok (.aload_n 0, 1) := by decide +kernel
theorem dX9_tellEvent_102 : decode cX9_tellEvent 102 = .ok (.iconst 0, 1) := by decide +kernel
theorem dX9_tellEvent_103 : decode cX9_tellEvent 103 = .ok (.aload_n 1, 1) := by decide +kernel
theorem dX9_tellEvent_104 : decode cX9_tellEvent 104 = .ok (.getfield 86, 3) := by decide +kernel
theorem dX9_tellEvent_107 : decode cX9_tellEvent 107 = .ok (.iconst 1, 1) := by decide +kernel
theorem dX9_tellEvent_108 : decode cX9_tellEvent 108 = .ok (.isub, 1) := by decide +kernel
theorem dX9_tellEvent_109 : decode cX9_tellEvent 109 = .ok (.invokevirtual 67, 3) := by decide +kernel
theorem dX9_tellEvent_112 : decode cX9_tellEvent 112 = .ok (.goto 4, 3) := by decide +kernel
theorem dX9_tellEvent_115 : decode cX9_tellEvent 115 = .ok (.iconst (-1), 1) := by decide +kernel
theorem dX9_tellEvent_116 : decode cX9_tellEvent 116 = .ok (.istore 7, 2) := by decide +kernel
theorem dX9_tellEvent_118 : decode cX9_tellEvent 118 = .ok (.aload_n 0, 1) := by decide +kernel
theorem dX9_tellEvent_119 : decode cX9_tellEvent 119 = .ok (.getfield 19, 3) := by decide +kernel
theorem dX9_tellEvent_122 : decode cX9_tellEvent 122 = .ok (.iconst (-1), 1) := by decide +kernel
theorem dX9_tellEvent_123 : decode cX9_tellEvent 123 = .ok (.if_icmp .ne 15, 3) := by decide +kernel
theorem dX9_tellEvent_126 : decode cX9_tellEvent 126 = .ok (.aload_n 1, 1) := by decide +kernel
theorem dX9_tellEvent_127 : decode cX9_tellEvent 127 = .ok (.getfield 112, 3) := by decide +kernel
theorem dX9_tellEvent_130 : decode cX9_tellEvent 130 = .ok (.iload_n 3, 1) := by decide +kernel
theorem dX9_tellEvent_131 : decode cX9_tellEvent 131 = .ok (.iload 6, 2) := by decide +kernel
theorem dX9_tellEvent_133 : decode cX9_tellEvent 133 = .ok (.iload 7, 2) := by decide +kernel
theorem dX9_tellEvent_135 : decode cX9_tellEvent 135 = .ok (.invokevirtual 128, 3) := by decide +kernel
theorem dX9_tellEvent_138 : decode cX9_tellEvent 138 = .ok (.return_, 1) := by decide +kernel
theorem dX9_tellLine_0 : decode cX9_tellLine 0 = .ok (.aload_n 0, 1) := by decide +kernel
theorem dX9_tellLine_1 : decode cX9_tellLine 1 = .ok (.getfield 15, 3) := by decide +kernel
theorem dX9_tellLine_4 : decode cX9_tellLine 4 = .ok (.istore_n 3, 1) := by decide +kernel
theorem dX9_tellLine_5 : decode cX9_tellLine 5 = .ok (.aload_n 0, 1) := by decide +kernel
theorem dX9_tellLine_6 : decode cX9_tellLine 6 = .ok (.invokevirtual 41, 3) := by decide +kernel
theorem dX9_tellLine_9 : decode cX9_tellLine 9 = .ok (.iload_n 2, 1) := by decide +kernel
theorem dX9_tellLine_10 : decode cX9_tellLine 10 = .ok (.bipush 14, 2) := by decide +kernel
theorem dX9_tellLine_12 : decode cX9_tellLine 12 = .ok (.if_icmp .lt 11, 3) := by decide +kernel
theorem dX9_tellLine_15 : decode cX9_tellLine 15 = .ok (.aload_n 0, 1) := by decide +kernel
theorem dX9_tellLine_16 : decode cX9_tellLine 16 = .ok (.iload_n 3, 1) := by decide +kernel
theorem dX9_tellLine_17 : decode cX9_tellLine 17 = .ok (.putfield 19, 3) := by decide +kernel
theorem dX9_tellLine_20 : decode cX9_tellLine 20 = .ok (.goto 131, 3) := by decide +kernel
theorem dX9_tellLine_23 : decode cX9_tellLine 23 = .ok (.aload_n 0, 1) := by decide +kernel
theorem dX9_tellLine_24 : decode cX9_tellLine 24 = .ok (.iload_n 3, 1) := by decide +kernel
theorem dX9_tellLine_25 : decode cX9_tellLine 25 = .ok (.ldc 44, 2) := by decide +kernel
theorem dX9_tellLine_27 : decode cX9_tellLine 27 = .ok (.invokevirtual 46, 3) := by decide +kernel
theorem dX9_tellLine_30 : decode cX9_tellLine 30 = .ok (.ifCond .eq 13, 3) := by decide +kernel
theorem dX9_tellLine_33 : decode cX9_tellLine 33 = .ok (.aload_n 0, 1) := by decide +kernel
theorem dX9_tellLine_34 : decode cX9_tellLine 34 = .ok (.aload_n 1, 1) := by decide +kernel
theorem dX9_tellLine_35 : decode cX9_tellLine 35 = .ok (.iload_n 3, 1) := by decide +kernel
theorem dX9_tellLine_36 : decode cX9_tellLine 36 = .ok (.iload_n 2, 1) := by decide +kernel
theorem dX9_tellLine_37 : decode cX9_tellLine 37 = .ok (.invokevirtual 50, 3) := by decide +kernel
theorem dX9_tellLine_40 : decode cX9_tellLine 40 = .ok (.goto 111, 3) := by decide +kernel
theorem dX9_tellLine_43 : decode cX9_tellLine 43 = .ok (.aload_n 0, 1) := by decide +kernel
theorem dX9_tellLine_44 : decode cX9_tellLine 44 = .ok (.iload_n 3, 1) := by decide +kernel
theorem dX9_tellLine_45 : decode cX9_tellLine 45 = .ok (.ldc 54, 2) := by decide +kernel
theorem dX9_tellLine_47 : decode cX9_tellLine 47 = .ok (.invokevirtual 46, 3) := by decide +kernel
theorem dX9_tellLine_50 : decode cX9_tellLine 50 = .ok (.ifCond .eq 12, 3) := by decide +kernel
theorem dX9_tellLine_53 : decode cX9_tellLine 53 = .ok (.aload_n 0, 1) := by decide +kernel
theorem dX9_tellLine_54 : decode cX9_tellLine 54 = .ok (.aload_n 1, 1) := by decide +kernel
theorem dX9_tellLine_55 : decode cX9_tellLine 55 = .ok (.iload_n 3, 1) := by decide +kernel
theorem dX9_tellLine_56 : decode cX9_tellLine 56 = .ok (.invokevirtual 56, 3) := by decide +kernel
theorem dX9_tellLine_59 : decode cX9_tellLine 59 = .ok (.goto 92, 3) := by decide +kernel
theorem dX9_tellLine_62 : decode cX9_tellLine 62 = .ok (.aload_n 0, 1) := by decide +kernel
theorem dX9_tellLine_63 : decode cX9_tellLine 63 = .ok (.iload_n 3, 1) := by decide +kernel
theorem dX9_tellLine_64 : decode cX9_tellLine 64 = .ok (.ldc 59, 2) := by decide +kernel
theorem dX9_tellLine_66 : decode cX9_tellLine 66 = .ok (.invokevirtual 46, 3) := by decide +kernel
theorem dX9_tellLine_69 : decode cX9_tellLine 69 = .ok (.ifCond .eq 11, 3) := by decide +kernel
theorem dX9_tellLine_72 : decode cX9_tellLine 72 = .ok (.aload_n 0, 1) := by decide +kernel
theorem dX9_tellLine_73 : decode cX9_tellLine 73 = .ok (.aload_n 1, 1) := by decide +kernel
theorem dX9_tellLine_74 : decode cX9_tellLine 74 = .ok (.invokevirtual 61, 3) := by decide +kernel
theorem dX9_tellLine_77 : decode cX9_tellLine 77 = .ok (.goto 74, 3) := by decide +kernel
theorem dX9_tellLine_80 : decode cX9_tellLine 80 = .ok (.aload_n 0, 1) := by decide +kernel
theorem dX9_tellLine_81 : decode cX9_tellLine 81 = .ok (.iload_n 3, 1) := by decide +kernel
theorem dX9_tellLine_82 : decode cX9_tellLine 82 = .ok (.ldc 65, 2) := by decide +kernel
theorem dX9_tellLine_84 : decode cX9_tellLine 84 = .ok (.invokevirtual 46, 3) := by decide +kernel
theorem dX9_tellLine_87 : decode cX9_tellLine 87 = .ok (.ifCond .eq 16, 3) := by decide +kernel
theorem dX9_tellLine_90 : decode cX9_tellLine 90 = .ok (.aload_n 1, 1) := by decide +kernel
theorem dX9_tellLine_91 : decode cX9_tellLine 91 = .ok (.aload_n 0, 1) := by decide +kernel
theorem dX9_tellLine_92 : decode cX9_tellLine 92 = .ok (.iconst 0, 1) := by decide +kernel
theorem dX9_tellLine_93 : decode cX9_tellLine 93 = .ok (.iconst 5, 1) := by decide +kernel
theorem dX9_tellLine_94 : decode cX9_tellLine 94 = .ok (.invokevirtual 67, 3) := by decide +kernel
theorem dX9_tellLine_97 : decode cX9_tellLine 97 = .ok (.putfield 71, 3) := by decide +kernel
theorem dX9_tellLine_100 : decode cX9_tellLine 100 = .ok (.goto 51, 3) := by decide +kernel
theorem dX9_tellLine_103 : decode cX9_tellLine 103 = .ok (.aload_n 0, 1) := by decide +kernel
theorem dX9_tellLine_104 : decode cX9_tellLine 104 = .ok (.iload_n 3, 1) := by decide +kernel
theorem dX9_tellLine_105 : decode cX9_tellLine 105 = .ok (.ldc 75, 2) := by decide +kernel
theorem dX9_tellLine_107 : decode cX9_tellLine 107 = .ok (.invokevirtual 46, 3) := by decide +kernel
theorem dX9_tellLine_110 : decode cX9_tellLine 110 = .ok (.ifCond .eq 17, 3) := by decide +kernel
theorem dX9_tellLine_113 : decode cX9_tellLine 113 = .ok (.aload_n 1, 1) := by decide +kernel
theorem dX9_tellLine_114 : decode cX9_tellLine 114 = .ok (.aload_n 0, 1) := by decide +kernel
theorem dX9_tellLine_115 : decode cX9_tellLine 115 = .ok (.iconst 0, 1) := by decide +kernel
theorem dX9_tellLine_116 : decode cX9_tellLine 116 = .ok (.bipush 20, 2) := by decide +kernel
theorem dX9_tellLine_118 : decode cX9_tellLine 118 = .ok (.invokevirtual 67, 3) := by decide +kernel
theorem dX9_tellLine_121 : decode cX9_tellLine 121 = .ok (.putfield 77, 3) := by decide +kernel
theorem dX9_tellLine_124 : decode cX9_tellLine 124 = .ok (.goto 27, 3) := by decide +kernel
theorem dX9_tellLine_127 : decode cX9_tellLine 127 = .ok (.aload_n 0, 1) := by decide +kernel
theorem dX9_tellLine_128 : decode cX9_tellLine 128 = .ok (.iload_n 3, 1) := by decide +kernel
theorem dX9_tellLine_129 : decode cX9_tellLine 129 = .ok (.ldc 79, 2) := by decide +kernel
theorem dX9_tellLine_131 : decode cX9_tellLine 131 = .ok (.invokevirtual 46, 3) := by decide +kernel
theorem dX9_tellLine_134 : decode cX9_tellLine 134 = .ok (.ifCond .eq 12, 3) := by decide +kernel
theorem dX9_tellLine_137 : decode cX9_tellLine 137 = .ok (.aload_n 0, 1) := by decide +kernel
theorem dX9_tellLine_138 : decode cX9_tellLine 138 = .ok (.aload_n 1, 1) := by decide +kernel
theorem dX9_tellLine_139 : decode cX9_tellLine 139 = .ok (.iload_n 3, 1) := by decide +kernel
theorem dX9_tellLine_140 : decode cX9_tellLine 140 = .ok (.invokevirtual 80, 3) := by decide +kernel
theorem dX9_tellLine_143 : decode cX9_tellLine 143 = .ok (.goto 8, 3) := by decide +kernel
theorem dX9_tellLine_146 : decode cX9_tellLine 146 = .ok (.aload_n 0, 1) := by decide +kernel
theorem dX9_tellLine_147 : decode cX9_tellLine 147 = .ok (.iload_n 3, 1) := by decide +kernel
theorem dX9_tellLine_148 : decode cX9_tellLine 148 = .ok (.putfield 19, 3) := by decide +kernel
theorem dX9_tellLine_151 : decode cX9_tellLine 151 = .ok (.return_, 1) := by decide +kernel
theorem dX9_tell_0 : decode cX9_tell 0 = .ok (.aload_n 0, 1) := by decide +kernel
theorem dX9_tell_1 : decode cX9_tell 1 = .ok (.iconst 0, 1) := by decide +kernel
theorem dX9_tell_2 : decode cX9_tell 2 = .ok (.putfield 15, 3) := by decide +kernel
theorem dX9_tell_5 : decode cX9_tell 5 = .ok (.aload_n 0, 1) := by decide +kernel
theorem dX9_tell_6 : decode cX9_tell 6 = .ok (.iconst (-1), 1) := by decide +kernel
theorem dX9_tell_7 : decode cX9_tell 7 = .ok (.putfield 19, 3) := by decide +kernel
theorem dX9_tell_10 : decode cX9_tell 10 = .ok (.aload_n 0, 1) := by decide +kernel
theorem dX9_tell_11 : decode cX9_tell 11 = .ok (.invokevirtual 25, 3) := by decide +kernel
theorem dX9_tell_14 : decode cX9_tell 14 = .ok (.aload_n 0, 1) := by decide +kernel
theorem dX9_tell_15 : decode cX9_tell 15 = .ok (.getfield 15, 3) := by decide +kernel
theorem dX9_tell_18 : decode cX9_tell 18 = .ok (.aload_n 0, 1) := by decide +kernel
theorem dX9_tell_19 : decode cX9_tell 19 = .ok (.getfield 9, 3) := by decide +kernel
theorem dX9_tell_22 : decode cX9_tell 22 = .ok (.getfield 28, 3) := by decide +kernel
theorem dX9_tell_25 : decode cX9_tell 25 = .ok (.if_icmp .lt 5, 3) := by decide +kernel
theorem dX9_tell_28 : decode cX9_tell 28 = .ok (.iconst (-1), 1) := by decide +kernel
theorem dX9_tell_29 : decode cX9_tell 29 = .ok (.ireturn, 1) := by decide +kernel
theorem dX9_tell_30 : decode cX9_tell 30 = .ok (.iconst 0, 1) := by decide +kernel
theorem dX9_tell_31 : decode cX9_tell 31 = .ok (.istore_n 2, 1) := by decide +kernel
theorem dX9_tell_32 : decode cX9_tell 32 = .ok (.iload_n 2, 1) := by decide +kernel
theorem dX9_tell_33 : decode cX9_tell 33 = .ok (.bipush 14, 2) := by decide +kernel
theorem dX9_tell_35 : decode cX9_tell 35 = .ok (.if_icmp .gt 84, 3) := by decide +kernel
theorem dX9_tell_38 : decode cX9_tell 38 = .ok (.aload_n 0, 1) := by decide +kernel
theorem dX9_tell_39 : decode cX9_tell 39 = .ok (.invokevirtual 25, 3) := by decide +kernel
theorem dX9_tell_42 : decode cX9_tell 42 = .ok (.aload_n 0, 1) := by decide +kernel
theorem dX9_tell_43 : decode cX9_tell 43 = .ok (.aload_n 1, 1) := by decide +kernel
theorem dX9_tell_44 : decode cX9_tell 44 = .ok (.iload_n 2, 1) := by decide +kernel
theorem dX9_tell_45 : decode cX9_tell 45 = .ok (.invokevirtual 33, 3) := by decide +kernel
theorem dX9_tell_48 : decode cX9_tell 48 = .ok (.aload_n 0, 1) := by decide +kernel
theorem dX9_tell_49 : decode cX9_tell 49 = .ok (.getfield 19, 3) := by decide +kernel
theorem dX9_tell_52 : decode cX9_tell 52 = .ok (.iconst (-1), 1) := by decide +kernel
theorem dX9_tell_53 : decode cX9_tell 53 = .ok (.if_icmp .eq 8, 3) := by decide +kernel
theorem dX9_tell_56 : decode cX9_tell 56 = .ok (.aload_n 0, 1) := by decide +kernel
theorem dX9_tell_57 : decode cX9_tell 57 = .ok (.getfield 19, 3) := by decide +kernel
theorem dX9_tell_60 : decode cX9_tell 60 = .ok (.ireturn, 1) := by decide +kernel
theorem dX9_tell_61 : decode cX9_tell 61 = .ok (.aload_n 0, 1) := by decide +kernel
theorem dX9_tell_62 : decode cX9_tell 62 = .ok (.invokevirtual 25, 3) := by decide +kernel
theorem dX9_tell_65 : decode cX9_tell 65 = .ok (.aload_n 0, 1) := by decide +kernel
theorem dX9_tell_66 : decode cX9_tell 66 = .ok (.getfield 15, 3) := by decide +kernel
theorem dX9_tell_69 : decode cX9_tell 69 = .ok (.aload_n 0, 1) := by decide +kernel
theorem dX9_tell_70 : decode cX9_tell 70 = .ok (.getfield 9, 3) := by decide +kernel
theorem dX9_tell_73 : decode cX9_tell 73 = .ok (.getfield 28, 3) := by decide +kernel
theorem dX9_tell_76 : decode cX9_tell 76 = .ok (.if_icmp .lt 5, 3) := by decide +kernel
theorem dX9_tell_79 : decode cX9_tell 79 = .ok (.iconst (-1), 1) := by decide +kernel
theorem dX9_tell_80 : decode cX9_tell 80 = .ok (.ireturn, 1) := by decide +kernel
theorem dX9_tell_81 : decode cX9_tell 81 = .ok (.aload_n 0, 1) := by decide +kernel
theorem dX9_tell_82 : decode cX9_tell 82 = .ok (.getfield 9, 3) := by decide +kernel
theorem dX9_tell_85 : decode cX9_tell 85 = .ok (.getfield 37, 3) := by decide +kernel
theorem dX9_tell_88 : decode cX9_tell 88 = .ok (.aload_n 0, 1) := by decide +kernel
theorem dX9_tell_89 : decode cX9_tell 89 = .ok (.getfield 15, 3) := by decide +kernel
theorem dX9_tell_92 : decode cX9_tell 92 = .ok (.baload, 1) := by decide +kernel
theorem dX9_tell_93 : decode cX9_tell 93 = .ok (.bipush 59, 2) := by decide +kernel
theorem dX9_tell_95 : decode cX9_tell 95 = .ok (.if_icmp .eq 8, 3) := by decide +kernel
theorem dX9_tell_98 : decode cX9_tell 98 = .ok (.aload_n 0, 1) := by decide +kernel
theorem dX9_tell_99 : decode cX9_tell 99 = .ok (.getfield 15, 3) := by decide +kernel
theorem dX9_tell_102 : decode cX9_tell 102 = .ok (.ireturn, 1) := by decide +kernel
theorem dX9_tell_103 : decode cX9_tell 103 = .ok (.aload_n 0, 1) := by decide +kernel
theorem dX9_tell_104 : decode cX9_tell 104 = .ok (.dup, 1) := by decide +kernel
theorem dX9_tell_105 : decode cX9_tell 105 = .ok (.getfield 15, 3) := by decide +kernel
theorem dX9_tell_108 : decode cX9_tell 108 = .ok (.iconst 1, 1) := by decide +kernel
theorem dX9_tell_109 : decode cX9_tell 109 = .ok (.iadd, 1) := by decide +kernel
theorem dX9_tell_110 : decode cX9_tell 110 = .ok (.putfield 15, 3) := by decide +kernel
theorem dX9_tell_113 : decode cX9_tell 113 = .ok (.iinc 2 1, 3) := by decide +kernel
theorem dX9_tell_116 : decode cX9_tell 116 = .ok (.goto (-84), 3) := by decide +kernel
theorem dX9_tell_119 : decode cX9_tell 119 = .ok (.aload_n 0, 1) := by decide +kernel
theorem dX9_tell_120 : decode cX9_tell 120 = .ok (.getfield 15, 3) := by decide +kernel
theorem dX9_tell_123 : decode cX9_tell 123 = .ok (.ireturn, 1) := by decide +kernel
section S_43_rk
variable {p : Program} {l : Launch} {e : Env} {R : Room} {s : State} {m : MethodId} {args : Array Value} {below : List Frame} {meth : Method} {c : Code} {A : Nat → Prop} {D : va_G} {cI cB cL : ClassId} {ad : Nat → Nat} {ka kv : Nat → Nat} {fv : Value} {pa pl : Nat}
noncomputable def fX9_isWord_17 (w : Nat) (u : Sg) : Nat → Int32 → Int32 → Option Int32
  | 0, _, _ => none
  | n + 1, x1, x3 => cnd ((lenW w) ≤ x3) (some 1) (grd (vp_in (x1 + x3) 400) (grd (vp_in x3 (wrd w).length) (cnd ((u 38 (((x1 + x3) : Int32).toNatClampNeg)) = (chW w x3)) (bnd (x3 + 1) (fun v6 => fX9_isWord_17 w u n x1 v6)) (some 0))))
noncomputable def fX9_isWord_0 (w : Nat) (x1 : Int32) (u : Sg) : Option Int32 := cnd (((u 36 1) - x1) = (lenW w)) (fX9_isWord_17 w u FU x1 0) (some 0)
noncomputable def fX9_isWord (w : Nat) (x1 : Int32) (u : Sg) : Option Int32 := fX9_isWord_0 w x1 u
set_option maxRecDepth 10000 in
set_option maxHeartbeats 4000000 in
theorem wX9_isWord_17 (C : cx D (tyl cI cB cL) A RX9 cX9_isWord 4 (some .boolean) p s m args c meth) (Kx : kx ka kv fv A s s.heap) (w : Nat) (hw : w < 8) (hR : 4 ≤ R.frames ∧ 85 ≤ R.locals) {r : Int32} (u : Sg) : ∀ (n : Nat) (x1 : Int32) (x3 : Int32) (H : Heap) (locs : List Loc) (ls : Array Slot), lv_has ls 4 [(0, .ref (ad 36)), (1, .int x1), (2, .ref (ka w)), (3, .int x3)] → st D (wR cI cB ad pa pl) A s u H locs → fX9_isWord_17 w u n x1 x3 = some r → W p l e R s m args below meth c H locs 0 0 (MQ below (qI D (tyl cI cB cL) (wR cI cB ad pa pl) A r u) args s 0 0 A) (F0 m 17 ls []) := by
  have hx := C.1
  have hb := C.2.1
  intro n
  induction n with
  | zero =>
    intro x1 x3 H locs ls hl S h
    cases h
  | succ n ih =>
    intro x1 x3 H locs ls hl S h
    rw [fX9_isWord_17] at h
    have hsz := hl.1
    refine lv_iload_n hx hb dX9_isWord_17 rfl (lv_at hl 3 rfl) ?_
    refine lv_aload_n hx hb dX9_isWord_18 rfl (lv_at hl 2 rfl) ?_
    refine q_callW (As := []) (na := 0) C Kx S hw (ct_length l D cI cB cL ka kv fv w hw) mw_720 ks_i_length ks_s_length ks_n_S ks_c_length (by decide +kernel) ⟨Nat.le_trans (Nat.le_of_ble_eq_true rfl) hR.1, Nat.le_trans (Nat.le_of_ble_eq_true rfl) hR.2⟩ rfl hsz ⟨Nat.zero_le _, Nat.zero_le _⟩ (Nat.le_of_ble_eq_true rfl) dX9_isWord_19 rfl (fun H locs S => ?_)
    refine lv_icmp_ge (tgt := 52) hx hb dX9_isWord_22 (by decide) (fun c2 => ?_) (fun c2 => ?_)
    · have h := cnd_t c2 h
      refine lv_iconst (v := 1) hx hb dX9_isWord_52 (by decide) ?_
      exact q_zret C S rfl (rt_R h) dX9_isWord_53
    · have h := cnd_f c2 h
      refine lv_aload_n hx hb dX9_isWord_25 rfl (lv_at hl 0 rfl) ?_
      refine q_get (v := .ref (ad 37)) C S (oR36 cI cB ad pa pl) rfl iwX9 0 (by decide) mw_662 rfl dX9_isWord_26 ?_
      refine q_get (v := .ref (ad 38)) C S (oR37 cI cB ad pa pl) rfl iwX10 0 (by decide) mw_664 rfl dX9_isWord_29 ?_
      refine lv_iload_n hx hb dX9_isWord_32 rfl (lv_at hl 1 rfl) ?_
      refine lv_iload_n hx hb dX9_isWord_33 rfl (lv_at hl 3 rfl) ?_
      refine lv_iadd hx hb dX9_isWord_34 ?_
      obtain ⟨g3, h⟩ := grd_some h
      refine q_bald C S (aR38 cI cB ad pa pl) 1 rfl g3 dX9_isWord_35 (j := ((x1 + x3) : Int32).toNatClampNeg) rfl ?_
      refine lv_aload_n hx hb dX9_isWord_36 rfl (lv_at hl 2 rfl) ?_
      refine lv_iload_n hx hb dX9_isWord_37 rfl (lv_at hl 3 rfl) ?_
      obtain ⟨g4, h⟩ := grd_some h
      refine q_callW (As := [.int x3]) (na := 1) C Kx S hw (ct_charAt l D cI cB cL ka kv fv w hw x3 g4) mw_721 ks_i_charAt ks_s_charAt ks_n_S ks_c_charAt (by decide +kernel) ⟨Nat.le_trans (Nat.le_of_ble_eq_true rfl) hR.1, Nat.le_trans (Nat.le_of_ble_eq_true rfl) hR.2⟩ rfl hsz ⟨Nat.zero_le _, Nat.zero_le _⟩ (Nat.le_of_ble_eq_true rfl) dX9_isWord_38 rfl (fun H locs S => ?_)
      refine lv_icmp_eq (tgt := 46) hx hb dX9_isWord_41 (by decide) (fun c5 => ?_) (fun c5 => ?_)
      · have h := cnd_t c5 h
        obtain ⟨v6, ev6⟩ : ∃ y : Int32, y = x3 + 1 := ⟨_, rfl⟩
        have h := bnd_of ev6 h
        refine lv_iinc (v := v6) (lv' := [(3, .int v6), (0, .ref (ad 36)), (1, .int x1), (2, .ref (ka w))]) hx hb dX9_isWord_46 hl (k := 3) rfl (by rw [ev6]; rfl) (by decide) rfl (fun ls hl => ?_)
        have hsz := hl.1
        refine lv_goto (tgt := 17) hx hb dX9_isWord_49 (by decide) ?_
        exact ih x1 v6 H locs ls (lv_sub hl [1, 2, 3, 0] rfl) S h
      · have h := cnd_f c5 h
        refine lv_iconst (v := 0) hx hb dX9_isWord_44 (by decide) ?_
        exact q_zret C S rfl (rt_R h) dX9_isWord_45
set_option maxRecDepth 10000 in
set_option maxHeartbeats 4000000 in
theorem wX9_isWord_0 (C : cx D (tyl cI cB cL) A RX9 cX9_isWord 4 (some .boolean) p s m args c meth) (Kx : kx ka kv fv A s s.heap) (w : Nat) (hw : w < 8) (hR : 4 ≤ R.frames ∧ 85 ≤ R.locals) {r : Int32} (u : Sg) (x1 : Int32) {H : Heap} {locs : List Loc} {ls : Array Slot} (hl : lv_has ls 4 [(0, .ref (ad 36)), (1, .int x1), (2, .ref (ka w))]) (S : st D (wR cI cB ad pa pl) A s u H locs) (h : fX9_isWord_0 w x1 u = some r) : W p l e R s m args below meth c H locs 0 0 (MQ below (qI D (tyl cI cB cL) (wR cI cB ad pa pl) A r u) args s 0 0 A) (F0 m 0 ls []) := by
  have hx := C.1
  have hb := C.2.1
  have hsz := hl.1
  unfold fX9_isWord_0 at h
  refine lv_aload_n hx hb dX9_isWord_0 rfl (lv_at hl 0 rfl) ?_
  refine q_get (v := .int (u 36 1)) C S (oR36 cI cB ad pa pl) rfl iwX9 1 (by decide) mw_661 rfl dX9_isWord_1 ?_
  refine lv_iload_n hx hb dX9_isWord_4 rfl (lv_at hl 1 rfl) ?_
  refine lv_isub hx hb dX9_isWord_5 ?_
  refine lv_aload_n hx hb dX9_isWord_6 rfl (lv_at hl 2 rfl) ?_
  refine q_callW (As := []) (na := 0) C Kx S hw (ct_length l D cI cB cL ka kv fv w hw) mw_720 ks_i_length ks_s_length ks_n_S ks_c_length (by decide +kernel) ⟨Nat.le_trans (Nat.le_of_ble_eq_true rfl) hR.1, Nat.le_trans (Nat.le_of_ble_eq_true rfl) hR.2⟩ rfl hsz ⟨Nat.zero_le _, Nat.zero_le _⟩ (Nat.le_of_ble_eq_true rfl) dX9_isWord_7 rfl (fun H locs S => ?_)
  refine lv_icmp_eq (tgt := 15) hx hb dX9_isWord_10 (by decide) (fun c1 => ?_) (fun c1 => ?_)
  · have h := cnd_t c1 h
    refine lv_iconst (v := 0) hx hb dX9_isWord_15 (by decide) ?_
    refine lv_istore_n (lv' := [(3, .int 0), (0, .ref (ad 36)), (1, .int x1), (2, .ref (ka w))]) hx hb dX9_isWord_16 rfl hl (by decide) rfl (fun ls hl => ?_)
    have hsz := hl.1
    exact wX9_isWord_17 C Kx w hw hR u FU x1 0 H locs ls (lv_sub hl [1, 2, 3, 0] rfl) S h
  · have h := cnd_f c1 h
    refine lv_iconst (v := 0) hx hb dX9_isWord_13 (by decide) ?_
    exact q_zret C S rfl (rt_R h) dX9_isWord_14
set_option maxRecDepth 10000 in
set_option maxHeartbeats 4000000 in
theorem ct_X9_isWord (l : Launch) (D : va_G) (cI cB cL : ClassId) (ka kv : Nat → Nat) (fv : Value) (ad : Nat → Nat) (pa pl : Nat) (w : Nat) (hw : w < 8) (x1 : Int32) (u : Sg) {r : Int32} (h : fX9_isWord w x1 u = some r) : metIK l D (tyl cI cB cL) ka kv fv yX9_isWord cX9_isWord 4 (some .boolean) 4 85 (wR cI cB ad pa pl) [.ref (ad 36), .int x1, .ref (ka w)] u r u := by
  intro sz
  refine Met.ofW (cc := cX9_isWord) (maxL := 4) (ret := (some .boolean)) (by decide) rfl ?_
  intro p e s m args below meth c s₁ B hml hv
  obtain ⟨rfl, C, S, Kx⟩ := q_entryK B hml hv
  have hl := lv_entry ([.ref (ad 36), .int x1, .ref (ka w)]) (n := 4) (Nat.le_of_ble_eq_true rfl)
  rw [lg_entry_eq]
  generalize (lg_sl ([.ref (ad 36), .int x1, .ref (ka w)]) ++ List.replicate (4 - (lg_sl ([.ref (ad 36), .int x1, .ref (ka w)])).length) Slot.unset).toArray = ls at hl ⊢
  exact wX9_isWord_0 C Kx w hw ⟨Nat.le_refl _, Nat.le_refl _⟩ u x1 (lv_sub hl [0, 1, 2] rfl) S h
noncomputable def fX9_tellEvent_116 (x3 : Int32) (x6 : Int32) (t0 : Int32) (u : Sg) : Option Sg := cnd ((u 36 2) = (-1)) (obr (fX2_add x3 x6 t0 u) (fun u20 => bnd (ub36 u u20) (fun u21 => some u21))) (some u)
noncomputable def fX9_tellEvent_83 (x3 : Int32) (x5 : Int32) (u : Sg) : Option Sg := obd (fX9_readNumber 0 ((u 0 0) - 1) u) (fun r15 u16 => cnd (x5 = 0) (fX9_tellEvent_116 x3 r15 (-1) u16) (obd (fX9_readNumber 0 ((u16 0 1) - 1) u16) (fun r23 u24 => fX9_tellEvent_116 x3 r15 r23 u24)))
noncomputable def fX9_tellEvent_0 (x2 : Int32) (u : Sg) : Option Sg := cnd ((u 30 0) < 8) (obd (fX9_readNumber (u 0 3) 999 u) (fun r3 u4 => cnd (r3 = (-1)) (some u4) (obr (fX9_skipBlanks u4) (fun u7 => bnd (u7 36 1) (fun v8 => obr (fX9_skipWord u7) (fun u10 => obr (fX9_isWord 6 v8 u10) (fun r12 => cnd (r12 = 0) (obr (fX9_isWord 7 v8 u10) (fun r26 => cnd (r26 = 0) (bnd (s2 u10 36 2 v8) (fun u28 => some u28)) (fX9_tellEvent_83 r3 r12 u10))) (fX9_tellEvent_83 r3 r12 u10)))))))) (bnd (s2 u 36 2 x2) (fun u29 => some u29))
noncomputable def fX9_tellEvent (x2 : Int32) (u : Sg) : Option Sg := fX9_tellEvent_0 x2 u
set_option maxRecDepth 10000 in
set_option maxHeartbeats 4000000 in
theorem wX9_tellEvent_116 (C : cx D (tyl cI cB cL) A RX9 cX9_tellEvent 8 none p s m args c meth) (Kx : kx ka kv fv A s s.heap) (hR : 5 ≤ R.frames ∧ 108 ≤ R.locals) {σ' : Sg} (u : Sg) (x3 : Int32) (x6 : Int32) (t0 : Int32) {H : Heap} {locs : List Loc} {ls : Array Slot} (hl : lv_has ls 8 [(0, .ref (ad 36)), (1, .ref (ad 0)), (3, .int x3), (6, .int x6)]) (S : st D (wR cI cB ad pa pl) A s u H locs) (h : fX9_tellEvent_116 x3 x6 t0 u = some σ') : W p l e R s m args below meth c H locs 0 0 (MQ below (qV D (tyl cI cB cL) (wR cI cB ad pa pl) A σ') args s 0 0 A) (F0 m 116 ls [.int t0]) := by
  have hx := C.1
  have hb := C.2.1
  have hsz := hl.1
  unfold fX9_tellEvent_116 at h
  refine lv_istore (lv' := [(7, .int t0), (0, .ref (ad 36)), (1, .ref (ad 0)), (3, .int x3), (6, .int x6)]) hx hb dX9_tellEvent_116 hl (by decide) rfl (fun ls hl => ?_)
  have hsz := hl.1
  refine lv_aload_n hx hb dX9_tellEvent_118 rfl (lv_at hl 1 rfl) ?_
  refine q_get (v := .int (u 36 2)) C S (oR36 cI cB ad pa pl) rfl iwX9 2 (by decide) mw_665 rfl dX9_tellEvent_119 ?_
  refine lv_iconst (v := (-1)) hx hb dX9_tellEvent_122 (by decide) ?_
  refine lv_icmp_ne (tgt := 138) hx hb dX9_tellEvent_123 (by decide) (fun c18 => ?_) (fun c18 => ?_)
  · have h := cnd_f c18 h
    exact q_vret C S (Option.some.inj h) dX9_tellEvent_138
  · have h := cnd_t c18 h
    refine lv_aload_n hx hb dX9_tellEvent_126 rfl (lv_at hl 2 rfl) ?_
    refine q_get (v := .ref (ad 30)) C S (oR0 cI cB ad pa pl) rfl iwX7 17 (by decide) mw_722 rfl dX9_tellEvent_127 ?_
    refine lv_iload_n hx hb dX9_tellEvent_130 rfl (lv_at hl 3 rfl) ?_
    refine lv_iload hx hb dX9_tellEvent_131 (lv_at hl 4 rfl) ?_
    refine lv_iload hx hb dX9_tellEvent_133 (lv_at hl 0 rfl) ?_
    obtain ⟨u20, h19, h⟩ := obr_some h
    obtain ⟨u21, eu21⟩ : ∃ z : Sg, z = ub36 u u20 := ⟨_, rfl⟩
    have h := bnd_of eu21 h
    refine s_callVv (spl_RN cI cB ad) (As := [.int x3, .int x6, .int t0]) (na := 3) C S (oN30 cI ad pa pl) rfl (ct_X2_add l D cI cB cL ad pa pl x3 x6 t0 u h19) mw_735 mw_734 mw_736 mw_579 mw_733 hdX2_add ⟨Nat.le_trans (Nat.le_of_ble_eq_true rfl) hR.1, Nat.le_trans (Nat.le_of_ble_eq_true rfl) hR.2⟩ rfl hsz ⟨Nat.zero_le _, Nat.zero_le _⟩ (Nat.le_of_ble_eq_true rfl) dX9_tellEvent_135 rfl (fun H locs S => ?_)
    rw [← eu21] at S
    exact q_vret C S (Option.some.inj h) dX9_tellEvent_138
set_option maxRecDepth 10000 in
set_option maxHeartbeats 4000000 in
theorem wX9_tellEvent_83 (C : cx D (tyl cI cB cL) A RX9 cX9_tellEvent 8 none p s m args c meth) (Kx : kx ka kv fv A s s.heap) (hR : 5 ≤ R.frames ∧ 108 ≤ R.locals) {σ' : Sg} (u : Sg) (x3 : Int32) (x5 : Int32) {H : Heap} {locs : List Loc} {ls : Array Slot} (hl : lv_has ls 8 [(0, .ref (ad 36)), (1, .ref (ad 0)), (3, .int x3), (5, .int x5)]) (S : st D (wR cI cB ad pa pl) A s u H locs) (h : fX9_tellEvent_83 x3 x5 u = some σ') : W p l e R s m args below meth c H locs 0 0 (MQ below (qV D (tyl cI cB cL) (wR cI cB ad pa pl) A σ') args s 0 0 A) (F0 m 83 ls []) := by
  have hx := C.1
  have hb := C.2.1
  have hsz := hl.1
  unfold fX9_tellEvent_83 at h
  refine lv_aload_n hx hb dX9_tellEvent_83 rfl (lv_at hl 0 rfl) ?_
  refine lv_iconst (v := 0) hx hb dX9_tellEvent_84 (by decide) ?_
  refine lv_aload_n hx hb dX9_tellEvent_85 rfl (lv_at hl 1 rfl) ?_
  refine q_get (v := .int (u 0 0)) C S (oR0 cI cB ad pa pl) rfl iwX7 0 (by decide) mw_676 rfl dX9_tellEvent_86 ?_
  refine lv_iconst (v := 1) hx hb dX9_tellEvent_89 (by decide) ?_
  refine lv_isub hx hb dX9_tellEvent_90 ?_
  obtain ⟨r15, u16, h14, h⟩ := obd_some h
  refine q_callVi (As := [.int 0, .int ((u 0 0) - 1)]) (na := 2) C S (oR36 cI cB ad pa pl) rfl (ct_X9_readNumber l D cI cB cL ad pa pl 0 ((u 0 0) - 1) u h14) mw_679 mw_678 mw_680 mw_667 mw_677 hdX9_readNumber ⟨Nat.le_trans (Nat.le_of_ble_eq_true rfl) hR.1, Nat.le_trans (Nat.le_of_ble_eq_true rfl) hR.2⟩ rfl hsz ⟨Nat.zero_le _, Nat.zero_le _⟩ (Nat.le_of_ble_eq_true rfl) dX9_tellEvent_91 rfl (fun H locs S => ?_)
  refine lv_istore (lv' := [(6, .int r15), (0, .ref (ad 36)), (1, .ref (ad 0)), (3, .int x3), (5, .int x5)]) hx hb dX9_tellEvent_94 hl (by decide) rfl (fun ls hl => ?_)
  have hsz := hl.1
  refine lv_iload hx hb dX9_tellEvent_96 (lv_at hl 4 rfl) ?_
  refine lv_if_eq (tgt := 115) hx hb dX9_tellEvent_98 (by decide) (fun c17 => ?_) (fun c17 => ?_)
  · have h := cnd_t c17 h
    refine lv_iconst (v := (-1)) hx hb dX9_tellEvent_115 (by decide) ?_
    exact wX9_tellEvent_116 C Kx hR u16 x3 r15 (-1) (lv_sub hl [1, 2, 3, 0] rfl) S h
  · have h := cnd_f c17 h
    refine lv_aload_n hx hb dX9_tellEvent_101 rfl (lv_at hl 1 rfl) ?_
    refine lv_iconst (v := 0) hx hb dX9_tellEvent_102 (by decide) ?_
    refine lv_aload_n hx hb dX9_tellEvent_103 rfl (lv_at hl 2 rfl) ?_
    refine q_get (v := .int (u16 0 1)) C S (oR0 cI cB ad pa pl) rfl iwX7 1 (by decide) mw_681 rfl dX9_tellEvent_104 ?_
    refine lv_iconst (v := 1) hx hb dX9_tellEvent_107 (by decide) ?_
    refine lv_isub hx hb dX9_tellEvent_108 ?_
    obtain ⟨r23, u24, h22, h⟩ := obd_some h
    refine q_callVi (As := [.int 0, .int ((u16 0 1) - 1)]) (na := 2) C S (oR36 cI cB ad pa pl) rfl (ct_X9_readNumber l D cI cB cL ad pa pl 0 ((u16 0 1) - 1) u16 h22) mw_679 mw_678 mw_680 mw_667 mw_677 hdX9_readNumber ⟨Nat.le_trans (Nat.le_of_ble_eq_true rfl) hR.1, Nat.le_trans (Nat.le_of_ble_eq_true rfl) hR.2⟩ rfl hsz ⟨Nat.zero_le _, Nat.zero_le _⟩ (Nat.le_of_ble_eq_true rfl) dX9_tellEvent_109 rfl (fun H locs S => ?_)
    refine lv_goto (tgt := 116) hx hb dX9_tellEvent_112 (by decide) ?_
    exact wX9_tellEvent_116 C Kx hR u24 x3 r15 r23 (lv_sub hl [1, 2, 3, 0] rfl) S h
set_option maxRecDepth 10000 in
set_option maxHeartbeats 4000000 in
theorem wX9_tellEvent_0 (C : cx D (tyl cI cB cL) A RX9 cX9_tellEvent 8 none p s m args c meth) (Kx : kx ka kv fv A s s.heap) (hR : 5 ≤ R.frames ∧ 108 ≤ R.locals) {σ' : Sg} (u : Sg) (x2 : Int32) {H : Heap} {locs : List Loc} {ls : Array Slot} (hl : lv_has ls 8 [(0, .ref (ad 36)), (1, .ref (ad 0)), (2, .int x2)]) (S : st D (wR cI cB ad pa pl) A s u H locs) (h : fX9_tellEvent_0 x2 u = some σ') : W p l e R s m args below meth c H locs 0 0 (MQ below (qV D (tyl cI cB cL) (wR cI cB ad pa pl) A σ') args s 0 0 A) (F0 m 0 ls []) := by
  have hx := C.1
  have hb := C.2.1
  have hsz := hl.1
  unfold fX9_tellEvent_0 at h
  refine lv_aload_n hx hb dX9_tellEvent_0 rfl (lv_at hl 1 rfl) ?_
  refine q_get (v := .ref (ad 30)) C S (oR0 cI cB ad pa pl) rfl iwX7 17 (by decide) mw_722 rfl dX9_tellEvent_1 ?_
  refine q_get (v := .int (u 30 0)) C S (oR30 cI cB ad pa pl) rfl iwX2 0 (by decide) mw_723 rfl dX9_tellEvent_4 ?_
  refine lv_bipush (v := 8) hx hb dX9_tellEvent_7 (by decide) ?_
  refine lv_icmp_lt (tgt := 18) hx hb dX9_tellEvent_9 (by decide) (fun c1 => ?_) (fun c1 => ?_)
  · have h := cnd_t c1 h
    refine lv_aload_n hx hb dX9_tellEvent_18 rfl (lv_at hl 0 rfl) ?_
    refine lv_aload_n hx hb dX9_tellEvent_19 rfl (lv_at hl 1 rfl) ?_
    refine q_get (v := .int (u 0 3)) C S (oR0 cI cB ad pa pl) rfl iwX7 3 (by decide) mw_724 rfl dX9_tellEvent_20 ?_
    refine lv_sipush (v := 999) hx hb dX9_tellEvent_23 (by decide) ?_
    obtain ⟨r3, u4, h2, h⟩ := obd_some h
    refine q_callVi (As := [.int (u 0 3), .int 999]) (na := 2) C S (oR36 cI cB ad pa pl) rfl (ct_X9_readNumber l D cI cB cL ad pa pl (u 0 3) 999 u h2) mw_679 mw_678 mw_680 mw_667 mw_677 hdX9_readNumber ⟨Nat.le_trans (Nat.le_of_ble_eq_true rfl) hR.1, Nat.le_trans (Nat.le_of_ble_eq_true rfl) hR.2⟩ rfl hsz ⟨Nat.zero_le _, Nat.zero_le _⟩ (Nat.le_of_ble_eq_true rfl) dX9_tellEvent_26 rfl (fun H locs S => ?_)
    refine lv_istore_n (lv' := [(3, .int r3), (0, .ref (ad 36)), (1, .ref (ad 0)), (2, .int x2)]) hx hb dX9_tellEvent_29 rfl hl (by decide) rfl (fun ls hl => ?_)
    have hsz := hl.1
    refine lv_iload_n hx hb dX9_tellEvent_30 rfl (lv_at hl 0 rfl) ?_
    refine lv_iconst (v := (-1)) hx hb dX9_tellEvent_31 (by decide) ?_
    refine lv_icmp_ne (tgt := 36) hx hb dX9_tellEvent_32 (by decide) (fun c5 => ?_) (fun c5 => ?_)
    · have h := cnd_f c5 h
      refine lv_aload_n hx hb dX9_tellEvent_36 rfl (lv_at hl 1 rfl) ?_
      obtain ⟨u7, h6, h⟩ := obr_some h
      refine q_callVv (As := []) (na := 0) C S (oR36 cI cB ad pa pl) rfl (ct_X9_skipBlanks l D cI cB cL ad pa pl u4 h6) mw_669 mw_668 mw_670 mw_667 mw_666 hdX9_skipBlanks ⟨Nat.le_trans (Nat.le_of_ble_eq_true rfl) hR.1, Nat.le_trans (Nat.le_of_ble_eq_true rfl) hR.2⟩ rfl hsz ⟨Nat.zero_le _, Nat.zero_le _⟩ (Nat.le_of_ble_eq_true rfl) dX9_tellEvent_37 rfl (fun H locs S => ?_)
      refine lv_aload_n hx hb dX9_tellEvent_40 rfl (lv_at hl 1 rfl) ?_
      refine q_get (v := .int (u7 36 1)) C S (oR36 cI cB ad pa pl) rfl iwX9 1 (by decide) mw_661 rfl dX9_tellEvent_41 ?_
      refine lv_topi (fun v8 ev8 => ?_)
      have h := bnd_of ev8 h
      refine lv_istore (lv' := [(4, .int v8), (3, .int r3), (0, .ref (ad 36)), (1, .ref (ad 0)), (2, .int x2)]) hx hb dX9_tellEvent_44 hl (by decide) rfl (fun ls hl => ?_)
      have hsz := hl.1
      refine lv_aload_n hx hb dX9_tellEvent_46 rfl (lv_at hl 2 rfl) ?_
      obtain ⟨u10, h9, h⟩ := obr_some h
      refine q_callVv (As := []) (na := 0) C S (oR36 cI cB ad pa pl) rfl (ct_X9_skipWord l D cI cB cL ad pa pl u7 h9) mw_727 mw_726 mw_728 mw_667 mw_725 hdX9_skipWord ⟨Nat.le_trans (Nat.le_of_ble_eq_true rfl) hR.1, Nat.le_trans (Nat.le_of_ble_eq_true rfl) hR.2⟩ rfl hsz ⟨Nat.zero_le _, Nat.zero_le _⟩ (Nat.le_of_ble_eq_true rfl) dX9_tellEvent_47 rfl (fun H locs S => ?_)
      refine lv_aload_n hx hb dX9_tellEvent_50 rfl (lv_at hl 2 rfl) ?_
      refine lv_iload hx hb dX9_tellEvent_51 (lv_at hl 0 rfl) ?_
      refine va_ldcS hx hb C.2.2.2.1 (kst_6 Kx) dX9_tellEvent_53 ?_
      obtain ⟨r12, h11, h⟩ := obr_some h
      refine q_callViK (As := [.int v8, .ref (ka 6)]) (na := 2) C Kx S (oR36 cI cB ad pa pl) rfl (ct_X9_isWord l D cI cB cL ka kv fv ad pa pl 6 (by decide) v8 u10 h11) mw_731 mw_730 mw_732 mw_667 mw_729 hdX9_isWord ⟨Nat.le_trans (Nat.le_of_ble_eq_true rfl) hR.1, Nat.le_trans (Nat.le_of_ble_eq_true rfl) hR.2⟩ rfl hsz ⟨Nat.zero_le _, Nat.zero_le _⟩ (Nat.le_of_ble_eq_true rfl) dX9_tellEvent_55 rfl (fun H locs S => ?_)
      refine lv_istore (lv' := [(5, .int r12), (4, .int v8), (3, .int r3), (0, .ref (ad 36)), (1, .ref (ad 0)), (2, .int x2)]) hx hb dX9_tellEvent_58 hl (by decide) rfl (fun ls hl => ?_)
      have hsz := hl.1
      refine lv_iload hx hb dX9_tellEvent_60 (lv_at hl 0 rfl) ?_
      refine lv_if_ne (tgt := 83) hx hb dX9_tellEvent_62 (by decide) (fun c13 => ?_) (fun c13 => ?_)
      · have h := cnd_f c13 h
        exact wX9_tellEvent_83 C Kx hR u10 r3 r12 (lv_sub hl [3, 4, 2, 0] rfl) S h
      · have h := cnd_t c13 h
        refine lv_aload_n hx hb dX9_tellEvent_65 rfl (lv_at hl 3 rfl) ?_
        refine lv_iload hx hb dX9_tellEvent_66 (lv_at hl 1 rfl) ?_
        refine va_ldcS hx hb C.2.2.2.1 (kst_7 Kx) dX9_tellEvent_68 ?_
        obtain ⟨r26, h25, h⟩ := obr_some h
        refine q_callViK (As := [.int v8, .ref (ka 7)]) (na := 2) C Kx S (oR36 cI cB ad pa pl) rfl (ct_X9_isWord l D cI cB cL ka kv fv ad pa pl 7 (by decide) v8 u10 h25) mw_731 mw_730 mw_732 mw_667 mw_729 hdX9_isWord ⟨Nat.le_trans (Nat.le_of_ble_eq_true rfl) hR.1, Nat.le_trans (Nat.le_of_ble_eq_true rfl) hR.2⟩ rfl hsz ⟨Nat.zero_le _, Nat.zero_le _⟩ (Nat.le_of_ble_eq_true rfl) dX9_tellEvent_70 rfl (fun H locs S => ?_)
        refine lv_if_ne (tgt := 83) hx hb dX9_tellEvent_73 (by decide) (fun c27 => ?_) (fun c27 => ?_)
        · have h := cnd_f c27 h
          exact wX9_tellEvent_83 C Kx hR u10 r3 r12 (lv_sub hl [3, 4, 2, 0] rfl) S h
        · have h := cnd_t c27 h
          refine lv_aload_n hx hb dX9_tellEvent_76 rfl (lv_at hl 3 rfl) ?_
          refine lv_iload hx hb dX9_tellEvent_77 (lv_at hl 1 rfl) ?_
          obtain ⟨u28, eu28⟩ : ∃ z : Sg, z = s2 u10 36 2 v8 := ⟨_, rfl⟩
          have h := bnd_of eu28 h
          refine q_put C S (oR36 cI cB ad pa pl) rfl iwX9 tyX9 tyX9_ok nmX9 2 (by decide) mw_665 rfl (iR36_2 cI cB ad pa pl) rfl rfl dX9_tellEvent_79 eu28 (fun H locs S => ?_)
          exact q_vret C S (Option.some.inj h) dX9_tellEvent_82
    · have h := cnd_t c5 h
      exact q_vret C S (Option.some.inj h) dX9_tellEvent_35
  · have h := cnd_f c1 h
    refine lv_aload_n hx hb dX9_tellEvent_12 rfl (lv_at hl 0 rfl) ?_
    refine lv_iload_n hx hb dX9_tellEvent_13 rfl (lv_at hl 2 rfl) ?_
    obtain ⟨u29, eu29⟩ : ∃ z : Sg, z = s2 u 36 2 x2 := ⟨_, rfl⟩
    have h := bnd_of eu29 h
    refine q_put C S (oR36 cI cB ad pa pl) rfl iwX9 tyX9 tyX9_ok nmX9 2 (by decide) mw_665 rfl (iR36_2 cI cB ad pa pl) rfl rfl dX9_tellEvent_14 eu29 (fun H locs S => ?_)
    exact q_vret C S (Option.some.inj h) dX9_tellEvent_17
set_option maxRecDepth 10000 in
set_option maxHeartbeats 4000000 in
theorem ct_X9_tellEvent (l : Launch) (D : va_G) (cI cB cL : ClassId) (ka kv : Nat → Nat) (fv : Value) (ad : Nat → Nat) (pa pl : Nat) (x2 : Int32) (u : Sg) {σ' : Sg} (h : fX9_tellEvent x2 u = some σ') : metVK l D (tyl cI cB cL) ka kv fv yX9_tellEvent cX9_tellEvent 8 5 108 (wR cI cB ad pa pl) [.ref (ad 36), .ref (ad 0), .int x2] u σ' := by
  intro sz
  refine Met.ofW (cc := cX9_tellEvent) (maxL := 8) (ret := none) (by decide) rfl ?_
  intro p e s m args below meth c s₁ B hml hv
  obtain ⟨rfl, C, S, Kx⟩ := q_entryK B hml hv
  have hl := lv_entry ([.ref (ad 36), .ref (ad 0), .int x2]) (n := 8) (Nat.le_of_ble_eq_true rfl)
  rw [lg_entry_eq]
  generalize (lg_sl ([.ref (ad 36), .ref (ad 0), .int x2]) ++ List.replicate (8 - (lg_sl ([.ref (ad 36), .ref (ad 0), .int x2])).length) Slot.unset).toArray = ls at hl ⊢
  exact wX9_tellEvent_0 C Kx ⟨Nat.le_refl _, Nat.le_refl _⟩ u x2 (lv_sub hl [0, 1, 2] rfl) S h
noncomputable def fX9_tellLine_0 (x2 : Int32) (u : Sg) : Option Sg := bnd (u 36 1) (fun v1 => obr (fX9_skipWord u) (fun u3 => cnd (x2 < 14) (obr (fX9_isWord 0 v1 u3) (fun r6 => cnd (r6 = 0) (obr (fX9_isWord 1 v1 u3) (fun r9 => cnd (r9 = 0) (obr (fX9_isWord 2 v1 u3) (fun r12 => cnd (r12 = 0) (obr (fX9_isWord 3 v1 u3) (fun r15 => cnd (r15 = 0) (obr (fX9_isWord 4 v1 u3) (fun r18 => cnd (r18 = 0) (obr (fX9_isWord 5 v1 u3) (fun r21 => cnd (r21 = 0) (bnd (s2 u3 36 2 v1) (fun u23 => some u23)) (obr (fX9_tellEvent v1 u3) (fun u25 => some u25)))) (obd (fX9_readNumber 0 20 u3) (fun r27 u28 => bnd (s2 u28 0 5 r27) (fun u29 => some u29))))) (obd (fX9_readNumber 0 5 u3) (fun r31 u32 => bnd (s2 u32 0 4 r31) (fun u33 => some u33))))) (obr (fX9_tellDelay u3) (fun u35 => some u35)))) (obr (fX9_tellGroup v1 u3) (fun u37 => some u37)))) (obr (fX9_tellNodes v1 x2 u3) (fun u39 => some u39)))) (bnd (s2 u3 36 2 v1) (fun u40 => some u40))))
noncomputable def fX9_tellLine (x2 : Int32) (u : Sg) : Option Sg := fX9_tellLine_0 x2 u
set_option maxRecDepth 10000 in
set_option maxHeartbeats 4000000 in
theorem wX9_tellLine_0 (C : cx D (tyl cI cB cL) A RX9 cX9_tellLine 4 none p s m args c meth) (Kx : kx ka kv fv A s s.heap) (hR : 6 ≤ R.frames ∧ 135 ≤ R.locals) {σ' : Sg} (u : Sg) (x2 : Int32) {H : Heap} {locs : List Loc} {ls : Array Slot} (hl : lv_has ls 4 [(0, .ref (ad 36)), (1, .ref (ad 0)), (2, .int x2)]) (S : st D (wR cI cB ad pa pl) A s u H locs) (h : fX9_tellLine_0 x2 u = some σ') : W p l e R s m args below meth c H locs 0 0 (MQ below (qV D (tyl cI cB cL) (wR cI cB ad pa pl) A σ') args s 0 0 A) (F0 m 0 ls []) := by
  have hx := C.1
  have hb := C.2.1
  have hsz := hl.1
  unfold fX9_tellLine_0 at h
  refine lv_aload_n hx hb dX9_tellLine_0 rfl (lv_at hl 0 rfl) ?_
  refine q_get (v := .int (u 36 1)) C S (oR36 cI cB ad pa pl) rfl iwX9 1 (by decide) mw_661 rfl dX9_tellLine_1 ?_
  refine lv_topi (fun v1 ev1 => ?_)
  have h := bnd_of ev1 h
  refine lv_istore_n (lv' := [(3, .int v1), (0, .ref (ad 36)), (1, .ref (ad 0)), (2, .int x2)]) hx hb dX9_tellLine_4 rfl hl (by decide) rfl (fun ls hl => ?_)
  have hsz := hl.1
  refine lv_aload_n hx hb dX9_tellLine_5 rfl (lv_at hl 1 rfl) ?_
  obtain ⟨u3, h2, h⟩ := obr_some h
  refine q_callVv (As := []) (na := 0) C S (oR36 cI cB ad pa pl) rfl (ct_X9_skipWord l D cI cB cL ad pa pl u h2) mw_727 mw_726 mw_728 mw_667 mw_725 hdX9_skipWord ⟨Nat.le_trans (Nat.le_of_ble_eq_true rfl) hR.1, Nat.le_trans (Nat.le_of_ble_eq_true rfl) hR.2⟩ rfl hsz ⟨Nat.zero_le _, Nat.zero_le _⟩ (Nat.le_of_ble_eq_true rfl) dX9_tellLine_6 rfl (fun H locs S => ?_)
  refine lv_iload_n hx hb dX9_tellLine_9 rfl (lv_at hl 3 rfl) ?_
  refine lv_bipush (v := 14) hx hb dX9_tellLine_10 (by decide) ?_
  refine lv_icmp_lt (tgt := 23) hx hb dX9_tellLine_12 (by decide) (fun c4 => ?_) (fun c4 => ?_)
  · have h := cnd_t c4 h
    refine lv_aload_n hx hb dX9_tellLine_23 rfl (lv_at hl 1 rfl) ?_
    refine lv_iload_n hx hb dX9_tellLine_24 rfl (lv_at hl 0 rfl) ?_
    refine va_ldcS hx hb C.2.2.2.1 (kst_0 Kx) dX9_tellLine_25 ?_
    obtain ⟨r6, h5, h⟩ := obr_some h
    refine q_callViK (As := [.int v1, .ref (ka 0)]) (na := 2) C Kx S (oR36 cI cB ad pa pl) rfl (ct_X9_isWord l D cI cB cL ka kv fv ad pa pl 0 (by decide) v1 u3 h5) mw_731 mw_730 mw_732 mw_667 mw_729 hdX9_isWord ⟨Nat.le_trans (Nat.le_of_ble_eq_true rfl) hR.1, Nat.le_trans (Nat.le_of_ble_eq_true rfl) hR.2⟩ rfl hsz ⟨Nat.zero_le _, Nat.zero_le _⟩ (Nat.le_of_ble_eq_true rfl) dX9_tellLine_27 rfl (fun H locs S => ?_)
    refine lv_if_eq (tgt := 43) hx hb dX9_tellLine_30 (by decide) (fun c7 => ?_) (fun c7 => ?_)
    · have h := cnd_t c7 h
      refine lv_aload_n hx hb dX9_tellLine_43 rfl (lv_at hl 1 rfl) ?_
      refine lv_iload_n hx hb dX9_tellLine_44 rfl (lv_at hl 0 rfl) ?_
      refine va_ldcS hx hb C.2.2.2.1 (kst_1 Kx) dX9_tellLine_45 ?_
      obtain ⟨r9, h8, h⟩ := obr_some h
      refine q_callViK (As := [.int v1, .ref (ka 1)]) (na := 2) C Kx S (oR36 cI cB ad pa pl) rfl (ct_X9_isWord l D cI cB cL ka kv fv ad pa pl 1 (by decide) v1 u3 h8) mw_731 mw_730 mw_732 mw_667 mw_729 hdX9_isWord ⟨Nat.le_trans (Nat.le_of_ble_eq_true rfl) hR.1, Nat.le_trans (Nat.le_of_ble_eq_true rfl) hR.2⟩ rfl hsz ⟨Nat.zero_le _, Nat.zero_le _⟩ (Nat.le_of_ble_eq_true rfl) dX9_tellLine_47 rfl (fun H locs S => ?_)
      refine lv_if_eq (tgt := 62) hx hb dX9_tellLine_50 (by decide) (fun c10 => ?_) (fun c10 => ?_)
      · have h := cnd_t c10 h
        refine lv_aload_n hx hb dX9_tellLine_62 rfl (lv_at hl 1 rfl) ?_
        refine lv_iload_n hx hb dX9_tellLine_63 rfl (lv_at hl 0 rfl) ?_
        refine va_ldcS hx hb C.2.2.2.1 (kst_2 Kx) dX9_tellLine_64 ?_
        obtain ⟨r12, h11, h⟩ := obr_some h
        refine q_callViK (As := [.int v1, .ref (ka 2)]) (na := 2) C Kx S (oR36 cI cB ad pa pl) rfl (ct_X9_isWord l D cI cB cL ka kv fv ad pa pl 2 (by decide) v1 u3 h11) mw_731 mw_730 mw_732 mw_667 mw_729 hdX9_isWord ⟨Nat.le_trans (Nat.le_of_ble_eq_true rfl) hR.1, Nat.le_trans (Nat.le_of_ble_eq_true rfl) hR.2⟩ rfl hsz ⟨Nat.zero_le _, Nat.zero_le _⟩ (Nat.le_of_ble_eq_true rfl) dX9_tellLine_66 rfl (fun H locs S => ?_)
        refine lv_if_eq (tgt := 80) hx hb dX9_tellLine_69 (by decide) (fun c13 => ?_) (fun c13 => ?_)
        · have h := cnd_t c13 h
          refine lv_aload_n hx hb dX9_tellLine_80 rfl (lv_at hl 1 rfl) ?_
          refine lv_iload_n hx hb dX9_tellLine_81 rfl (lv_at hl 0 rfl) ?_
          refine va_ldcS hx hb C.2.2.2.1 (kst_3 Kx) dX9_tellLine_82 ?_
          obtain ⟨r15, h14, h⟩ := obr_some h
          refine q_callViK (As := [.int v1, .ref (ka 3)]) (na := 2) C Kx S (oR36 cI cB ad pa pl) rfl (ct_X9_isWord l D cI cB cL ka kv fv ad pa pl 3 (by decide) v1 u3 h14) mw_731 mw_730 mw_732 mw_667 mw_729 hdX9_isWord ⟨Nat.le_trans (Nat.le_of_ble_eq_true rfl) hR.1, Nat.le_trans (Nat.le_of_ble_eq_true rfl) hR.2⟩ rfl hsz ⟨Nat.zero_le _, Nat.zero_le _⟩ (Nat.le_of_ble_eq_true rfl) dX9_tellLine_84 rfl (fun H locs S => ?_)
          refine lv_if_eq (tgt := 103) hx hb dX9_tellLine_87 (by decide) (fun c16 => ?_) (fun c16 => ?_)
          · have h := cnd_t c16 h
            refine lv_aload_n hx hb dX9_tellLine_103 rfl (lv_at hl 1 rfl) ?_
            refine lv_iload_n hx hb dX9_tellLine_104 rfl (lv_at hl 0 rfl) ?_
            refine va_ldcS hx hb C.2.2.2.1 (kst_4 Kx) dX9_tellLine_105 ?_
            obtain ⟨r18, h17, h⟩ := obr_some h
            refine q_callViK (As := [.int v1, .ref (ka 4)]) (na := 2) C Kx S (oR36 cI cB ad pa pl) rfl (ct_X9_isWord l D cI cB cL ka kv fv ad pa pl 4 (by decide) v1 u3 h17) mw_731 mw_730 mw_732 mw_667 mw_729 hdX9_isWord ⟨Nat.le_trans (Nat.le_of_ble_eq_true rfl) hR.1, Nat.le_trans (Nat.le_of_ble_eq_true rfl) hR.2⟩ rfl hsz ⟨Nat.zero_le _, Nat.zero_le _⟩ (Nat.le_of_ble_eq_true rfl) dX9_tellLine_107 rfl (fun H locs S => ?_)
            refine lv_if_eq (tgt := 127) hx hb dX9_tellLine_110 (by decide) (fun c19 => ?_) (fun c19 => ?_)
            · have h := cnd_t c19 h
              refine lv_aload_n hx hb dX9_tellLine_127 rfl (lv_at hl 1 rfl) ?_
              refine lv_iload_n hx hb dX9_tellLine_128 rfl (lv_at hl 0 rfl) ?_
              refine va_ldcS hx hb C.2.2.2.1 (kst_5 Kx) dX9_tellLine_129 ?_
              obtain ⟨r21, h20, h⟩ := obr_some h
              refine q_callViK (As := [.int v1, .ref (ka 5)]) (na := 2) C Kx S (oR36 cI cB ad pa pl) rfl (ct_X9_isWord l D cI cB cL ka kv fv ad pa pl 5 (by decide) v1 u3 h20) mw_731 mw_730 mw_732 mw_667 mw_729 hdX9_isWord ⟨Nat.le_trans (Nat.le_of_ble_eq_true rfl) hR.1, Nat.le_trans (Nat.le_of_ble_eq_true rfl) hR.2⟩ rfl hsz ⟨Nat.zero_le _, Nat.zero_le _⟩ (Nat.le_of_ble_eq_true rfl) dX9_tellLine_131 rfl (fun H locs S => ?_)
              refine lv_if_eq (tgt := 146) hx hb dX9_tellLine_134 (by decide) (fun c22 => ?_) (fun c22 => ?_)
              · have h := cnd_t c22 h
                refine lv_aload_n hx hb dX9_tellLine_146 rfl (lv_at hl 1 rfl) ?_
                refine lv_iload_n hx hb dX9_tellLine_147 rfl (lv_at hl 0 rfl) ?_
                obtain ⟨u23, eu23⟩ : ∃ z : Sg, z = s2 u3 36 2 v1 := ⟨_, rfl⟩
                have h := bnd_of eu23 h
                refine q_put C S (oR36 cI cB ad pa pl) rfl iwX9 tyX9 tyX9_ok nmX9 2 (by decide) mw_665 rfl (iR36_2 cI cB ad pa pl) rfl rfl dX9_tellLine_148 eu23 (fun H locs S => ?_)
                exact q_vret C S (Option.some.inj h) dX9_tellLine_151
              · have h := cnd_f c22 h
                refine lv_aload_n hx hb dX9_tellLine_137 rfl (lv_at hl 1 rfl) ?_
                refine lv_aload_n hx hb dX9_tellLine_138 rfl (lv_at hl 2 rfl) ?_
                refine lv_iload_n hx hb dX9_tellLine_139 rfl (lv_at hl 0 rfl) ?_
                obtain ⟨u25, h24, h⟩ := obr_some h
                refine q_callVvK (As := [.ref (ad 0), .int v1]) (na := 2) C Kx S (oR36 cI cB ad pa pl) rfl (ct_X9_tellEvent l D cI cB cL ka kv fv ad pa pl v1 u3 h24) mw_739 mw_738 mw_740 mw_667 mw_737 hdX9_tellEvent ⟨Nat.le_trans (Nat.le_of_ble_eq_true rfl) hR.1, Nat.le_trans (Nat.le_of_ble_eq_true rfl) hR.2⟩ rfl hsz ⟨Nat.zero_le _, Nat.zero_le _⟩ (Nat.le_of_ble_eq_true rfl) dX9_tellLine_140 rfl (fun H locs S => ?_)
                refine lv_goto (tgt := 151) hx hb dX9_tellLine_143 (by decide) ?_
                exact q_vret C S (Option.some.inj h) dX9_tellLine_151
            · have h := cnd_f c19 h
              refine lv_aload_n hx hb dX9_tellLine_113 rfl (lv_at hl 2 rfl) ?_
              refine lv_aload_n hx hb dX9_tellLine_114 rfl (lv_at hl 1 rfl) ?_
              refine lv_iconst (v := 0) hx hb dX9_tellLine_115 (by decide) ?_
              refine lv_bipush (v := 20) hx hb dX9_tellLine_116 (by decide) ?_
              obtain ⟨r27, u28, h26, h⟩ := obd_some h
              refine q_callVi (As := [.int 0, .int 20]) (na := 2) C S (oR36 cI cB ad pa pl) rfl (ct_X9_readNumber l D cI cB cL ad pa pl 0 20 u3 h26) mw_679 mw_678 mw_680 mw_667 mw_677 hdX9_readNumber ⟨Nat.le_trans (Nat.le_of_ble_eq_true rfl) hR.1, Nat.le_trans (Nat.le_of_ble_eq_true rfl) hR.2⟩ rfl hsz ⟨Nat.zero_le _, Nat.zero_le _⟩ (Nat.le_of_ble_eq_true rfl) dX9_tellLine_118 rfl (fun H locs S => ?_)
              obtain ⟨u29, eu29⟩ : ∃ z : Sg, z = s2 u28 0 5 r27 := ⟨_, rfl⟩
              have h := bnd_of eu29 h
              refine q_put C S (oR0 cI cB ad pa pl) rfl iwX7 tyX7 tyX7_ok nmX7 5 (by decide) mw_741 rfl (iR0_5 cI cB ad pa pl) rfl rfl dX9_tellLine_121 eu29 (fun H locs S => ?_)
              refine lv_goto (tgt := 151) hx hb dX9_tellLine_124 (by decide) ?_
              exact q_vret C S (Option.some.inj h) dX9_tellLine_151
          · have h := cnd_f c16 h
            refine lv_aload_n hx hb dX9_tellLine_90 rfl (lv_at hl 2 rfl) ?_
            refine lv_aload_n hx hb dX9_tellLine_91 rfl (lv_at hl 1 rfl) ?_
            refine lv_iconst (v := 0) hx hb dX9_tellLine_92 (by decide) ?_
            refine lv_iconst (v := 5) hx hb dX9_tellLine_93 (by decide) ?_
            obtain ⟨r31, u32, h30, h⟩ := obd_some h
            refine q_callVi (As := [.int 0, .int 5]) (na := 2) C S (oR36 cI cB ad pa pl) rfl (ct_X9_readNumber l D cI cB cL ad pa pl 0 5 u3 h30) mw_679 mw_678 mw_680 mw_667 mw_677 hdX9_readNumber ⟨Nat.le_trans (Nat.le_of_ble_eq_true rfl) hR.1, Nat.le_trans (Nat.le_of_ble_eq_true rfl) hR.2⟩ rfl hsz ⟨Nat.zero_le _, Nat.zero_le _⟩ (Nat.le_of_ble_eq_true rfl) dX9_tellLine_94 rfl (fun H locs S => ?_)
            obtain ⟨u33, eu33⟩ : ∃ z : Sg, z = s2 u32 0 4 r31 := ⟨_, rfl⟩
            have h := bnd_of eu33 h
            refine q_put C S (oR0 cI cB ad pa pl) rfl iwX7 tyX7 tyX7_ok nmX7 4 (by decide) mw_742 rfl (iR0_4 cI cB ad pa pl) rfl rfl dX9_tellLine_97 eu33 (fun H locs S => ?_)
            refine lv_goto (tgt := 151) hx hb dX9_tellLine_100 (by decide) ?_
            exact q_vret C S (Option.some.inj h) dX9_tellLine_151
        · have h := cnd_f c13 h
          refine lv_aload_n hx hb dX9_tellLine_72 rfl (lv_at hl 1 rfl) ?_
          refine lv_aload_n hx hb dX9_tellLine_73 rfl (lv_at hl 2 rfl) ?_
          obtain ⟨u35, h34, h⟩ := obr_some h
          refine q_callVv (As := [.ref (ad 0)]) (na := 1) C S (oR36 cI cB ad pa pl) rfl (ct_X9_tellDelay l D cI cB cL ad pa pl u3 h34) mw_745 mw_744 mw_746 mw_667 mw_743 hdX9_tellDelay ⟨Nat.le_trans (Nat.le_of_ble_eq_true rfl) hR.1, Nat.le_trans (Nat.le_of_ble_eq_true rfl) hR.2⟩ rfl hsz ⟨Nat.zero_le _, Nat.zero_le _⟩ (Nat.le_of_ble_eq_true rfl) dX9_tellLine_74 rfl (fun H locs S => ?_)
          refine lv_goto (tgt := 151) hx hb dX9_tellLine_77 (by decide) ?_
          exact q_vret C S (Option.some.inj h) dX9_tellLine_151
      · have h := cnd_f c10 h
        refine lv_aload_n hx hb dX9_tellLine_53 rfl (lv_at hl 1 rfl) ?_
        refine lv_aload_n hx hb dX9_tellLine_54 rfl (lv_at hl 2 rfl) ?_
        refine lv_iload_n hx hb dX9_tellLine_55 rfl (lv_at hl 0 rfl) ?_
        obtain ⟨u37, h36, h⟩ := obr_some h
        refine q_callVv (As := [.ref (ad 0), .int v1]) (na := 2) C S (oR36 cI cB ad pa pl) rfl (ct_X9_tellGroup l D cI cB cL ad pa pl v1 u3 h36) mw_749 mw_748 mw_750 mw_667 mw_747 hdX9_tellGroup ⟨Nat.le_trans (Nat.le_of_ble_eq_true rfl) hR.1, Nat.le_trans (Nat.le_of_ble_eq_true rfl) hR.2⟩ rfl hsz ⟨Nat.zero_le _, Nat.zero_le _⟩ (Nat.le_of_ble_eq_true rfl) dX9_tellLine_56 rfl (fun H locs S => ?_)
        refine lv_goto (tgt := 151) hx hb dX9_tellLine_59 (by decide) ?_
        exact q_vret C S (Option.some.inj h) dX9_tellLine_151
    · have h := cnd_f c7 h
      refine lv_aload_n hx hb dX9_tellLine_33 rfl (lv_at hl 1 rfl) ?_
      refine lv_aload_n hx hb dX9_tellLine_34 rfl (lv_at hl 2 rfl) ?_
      refine lv_iload_n hx hb dX9_tellLine_35 rfl (lv_at hl 0 rfl) ?_
      refine lv_iload_n hx hb dX9_tellLine_36 rfl (lv_at hl 3 rfl) ?_
      obtain ⟨u39, h38, h⟩ := obr_some h
      refine q_callVv (As := [.ref (ad 0), .int v1, .int x2]) (na := 3) C S (oR36 cI cB ad pa pl) rfl (ct_X9_tellNodes l D cI cB cL ad pa pl v1 x2 u3 h38) mw_753 mw_752 mw_754 mw_667 mw_751 hdX9_tellNodes ⟨Nat.le_trans (Nat.le_of_ble_eq_true rfl) hR.1, Nat.le_trans (Nat.le_of_ble_eq_true rfl) hR.2⟩ rfl hsz ⟨Nat.zero_le _, Nat.zero_le _⟩ (Nat.le_of_ble_eq_true rfl) dX9_tellLine_37 rfl (fun H locs S => ?_)
      refine lv_goto (tgt := 151) hx hb dX9_tellLine_40 (by decide) ?_
      exact q_vret C S (Option.some.inj h) dX9_tellLine_151
  · have h := cnd_f c4 h
    refine lv_aload_n hx hb dX9_tellLine_15 rfl (lv_at hl 1 rfl) ?_
    refine lv_iload_n hx hb dX9_tellLine_16 rfl (lv_at hl 0 rfl) ?_
    obtain ⟨u40, eu40⟩ : ∃ z : Sg, z = s2 u3 36 2 v1 := ⟨_, rfl⟩
    have h := bnd_of eu40 h
    refine q_put C S (oR36 cI cB ad pa pl) rfl iwX9 tyX9 tyX9_ok nmX9 2 (by decide) mw_665 rfl (iR36_2 cI cB ad pa pl) rfl rfl dX9_tellLine_17 eu40 (fun H locs S => ?_)
    refine lv_goto (tgt := 151) hx hb dX9_tellLine_20 (by decide) ?_
    exact q_vret C S (Option.some.inj h) dX9_tellLine_151
set_option maxRecDepth 10000 in
set_option maxHeartbeats 4000000 in
theorem ct_X9_tellLine (l : Launch) (D : va_G) (cI cB cL : ClassId) (ka kv : Nat → Nat) (fv : Value) (ad : Nat → Nat) (pa pl : Nat) (x2 : Int32) (u : Sg) {σ' : Sg} (h : fX9_tellLine x2 u = some σ') : metVK l D (tyl cI cB cL) ka kv fv yX9_tellLine cX9_tellLine 4 6 135 (wR cI cB ad pa pl) [.ref (ad 36), .ref (ad 0), .int x2] u σ' := by
  intro sz
  refine Met.ofW (cc := cX9_tellLine) (maxL := 4) (ret := none) (by decide) rfl ?_
  intro p e s m args below meth c s₁ B hml hv
  obtain ⟨rfl, C, S, Kx⟩ := q_entryK B hml hv
  have hl := lv_entry ([.ref (ad 36), .ref (ad 0), .int x2]) (n := 4) (Nat.le_of_ble_eq_true rfl)
  rw [lg_entry_eq]
  generalize (lg_sl ([.ref (ad 36), .ref (ad 0), .int x2]) ++ List.replicate (4 - (lg_sl ([.ref (ad 36), .ref (ad 0), .int x2])).length) Slot.unset).toArray = ls at hl ⊢
  exact wX9_tellLine_0 C Kx ⟨Nat.le_refl _, Nat.le_refl _⟩ u x2 (lv_sub hl [0, 1, 2] rfl) S h
noncomputable def fX9_tell_32 : Nat → Int32 → Sg → Option (Int32 × Sg)
  | 0, _, _ => none
  | n + 1, x2, u => cnd (14 < x2) (some ((u 36 1), u)) (obr (fX9_skipBlanks u) (fun u8 => obr (fX9_tellLine x2 u8) (fun u10 => cnd ((u10 36 2) = (-1)) (obr (fX9_skipBlanks u10) (fun u13 => cnd ((u13 36 1) < (u13 37 1)) (grd (vp_in (u13 36 1) 400) (cnd ((u13 38 (((u13 36 1) : Int32).toNatClampNeg)) = 59) (bnd (s2 u13 36 1 ((u13 36 1) + 1)) (fun u17 => bnd (x2 + 1) (fun v18 => fX9_tell_32 n v18 u17))) (some ((u13 36 1), u13)))) (some ((-1), u13)))) (some ((u10 36 2), u10)))))
noncomputable def fX9_tell_0 (u : Sg) : Option (Int32 × Sg) := bnd (s2 u 36 1 0) (fun u1 => bnd (s2 u1 36 2 (-1)) (fun u2 => obr (fX9_skipBlanks u2) (fun u4 => cnd ((u4 36 1) < (u4 37 1)) (fX9_tell_32 FU 0 u4) (some ((-1), u4)))))
noncomputable def fX9_tell (u : Sg) : Option (Int32 × Sg) := fX9_tell_0 u
set_option maxRecDepth 10000 in
set_option maxHeartbeats 4000000 in
theorem wX9_tell_32 (C : cx D (tyl cI cB cL) A RX9 cX9_tell 3 (some .int) p s m args c meth) (Kx : kx ka kv fv A s s.heap) (hR : 7 ≤ R.frames ∧ 158 ≤ R.locals) {r : Int32} {σ' : Sg} : ∀ (n : Nat) (x2 : Int32) (u : Sg) (H : Heap) (locs : List Loc) (ls : Array Slot), lv_has ls 3 [(0, .ref (ad 36)), (1, .ref (ad 0)), (2, .int x2)] → st D (wR cI cB ad pa pl) A s u H locs → fX9_tell_32 n x2 u = some (r, σ') → W p l e R s m args below meth c H locs 0 0 (MQ below (qI D (tyl cI cB cL) (wR cI cB ad pa pl) A r σ') args s 0 0 A) (F0 m 32 ls []) := by
  have hx := C.1
  have hb := C.2.1
  intro n
  induction n with
  | zero =>
    intro x2 u H locs ls hl S h
    cases h
  | succ n ih =>
    intro x2 u H locs ls hl S h
    rw [fX9_tell_32] at h
    have hsz := hl.1
    refine lv_iload_n hx hb dX9_tell_32 rfl (lv_at hl 2 rfl) ?_
    refine lv_bipush (v := 14) hx hb dX9_tell_33 (by decide) ?_
    refine lv_icmp_gt (tgt := 119) hx hb dX9_tell_35 (by decide) (fun c6 => ?_) (fun c6 => ?_)
    · have h := cnd_t c6 h
      refine lv_aload_n hx hb dX9_tell_119 rfl (lv_at hl 0 rfl) ?_
      refine q_get (v := .int (u 36 1)) C S (oR36 cI cB ad pa pl) rfl iwX9 1 (by decide) mw_661 rfl dX9_tell_120 ?_
      exact q_iret C S (rt_S h) dX9_tell_123
    · have h := cnd_f c6 h
      refine lv_aload_n hx hb dX9_tell_38 rfl (lv_at hl 0 rfl) ?_
      obtain ⟨u8, h7, h⟩ := obr_some h
      refine q_callVv (As := []) (na := 0) C S (oR36 cI cB ad pa pl) rfl (ct_X9_skipBlanks l D cI cB cL ad pa pl u h7) mw_669 mw_668 mw_670 mw_667 mw_666 hdX9_skipBlanks ⟨Nat.le_trans (Nat.le_of_ble_eq_true rfl) hR.1, Nat.le_trans (Nat.le_of_ble_eq_true rfl) hR.2⟩ rfl hsz ⟨Nat.zero_le _, Nat.zero_le _⟩ (Nat.le_of_ble_eq_true rfl) dX9_tell_39 rfl (fun H locs S => ?_)
      refine lv_aload_n hx hb dX9_tell_42 rfl (lv_at hl 0 rfl) ?_
      refine lv_aload_n hx hb dX9_tell_43 rfl (lv_at hl 1 rfl) ?_
      refine lv_iload_n hx hb dX9_tell_44 rfl (lv_at hl 2 rfl) ?_
      obtain ⟨u10, h9, h⟩ := obr_some h
      refine q_callVvK (As := [.ref (ad 0), .int x2]) (na := 2) C Kx S (oR36 cI cB ad pa pl) rfl (ct_X9_tellLine l D cI cB cL ka kv fv ad pa pl x2 u8 h9) mw_757 mw_756 mw_758 mw_667 mw_755 hdX9_tellLine ⟨Nat.le_trans (Nat.le_of_ble_eq_true rfl) hR.1, Nat.le_trans (Nat.le_of_ble_eq_true rfl) hR.2⟩ rfl hsz ⟨Nat.zero_le _, Nat.zero_le _⟩ (Nat.le_of_ble_eq_true rfl) dX9_tell_45 rfl (fun H locs S => ?_)
      refine lv_aload_n hx hb dX9_tell_48 rfl (lv_at hl 0 rfl) ?_
      refine q_get (v := .int (u10 36 2)) C S (oR36 cI cB ad pa pl) rfl iwX9 2 (by decide) mw_665 rfl dX9_tell_49 ?_
      refine lv_iconst (v := (-1)) hx hb dX9_tell_52 (by decide) ?_
      refine lv_icmp_eq (tgt := 61) hx hb dX9_tell_53 (by decide) (fun c11 => ?_) (fun c11 => ?_)
      · have h := cnd_t c11 h
        refine lv_aload_n hx hb dX9_tell_61 rfl (lv_at hl 0 rfl) ?_
        obtain ⟨u13, h12, h⟩ := obr_some h
        refine q_callVv (As := []) (na := 0) C S (oR36 cI cB ad pa pl) rfl (ct_X9_skipBlanks l D cI cB cL ad pa pl u10 h12) mw_669 mw_668 mw_670 mw_667 mw_666 hdX9_skipBlanks ⟨Nat.le_trans (Nat.le_of_ble_eq_true rfl) hR.1, Nat.le_trans (Nat.le_of_ble_eq_true rfl) hR.2⟩ rfl hsz ⟨Nat.zero_le _, Nat.zero_le _⟩ (Nat.le_of_ble_eq_true rfl) dX9_tell_62 rfl (fun H locs S => ?_)
        refine lv_aload_n hx hb dX9_tell_65 rfl (lv_at hl 0 rfl) ?_
        refine q_get (v := .int (u13 36 1)) C S (oR36 cI cB ad pa pl) rfl iwX9 1 (by decide) mw_661 rfl dX9_tell_66 ?_
        refine lv_aload_n hx hb dX9_tell_69 rfl (lv_at hl 0 rfl) ?_
        refine q_get (v := .ref (ad 37)) C S (oR36 cI cB ad pa pl) rfl iwX9 0 (by decide) mw_662 rfl dX9_tell_70 ?_
        refine q_get (v := .int (u13 37 1)) C S (oR37 cI cB ad pa pl) rfl iwX10 1 (by decide) mw_663 rfl dX9_tell_73 ?_
        refine lv_icmp_lt (tgt := 81) hx hb dX9_tell_76 (by decide) (fun c14 => ?_) (fun c14 => ?_)
        · have h := cnd_t c14 h
          refine lv_aload_n hx hb dX9_tell_81 rfl (lv_at hl 0 rfl) ?_
          refine q_get (v := .ref (ad 37)) C S (oR36 cI cB ad pa pl) rfl iwX9 0 (by decide) mw_662 rfl dX9_tell_82 ?_
          refine q_get (v := .ref (ad 38)) C S (oR37 cI cB ad pa pl) rfl iwX10 0 (by decide) mw_664 rfl dX9_tell_85 ?_
          refine lv_aload_n hx hb dX9_tell_88 rfl (lv_at hl 0 rfl) ?_
          refine q_get (v := .int (u13 36 1)) C S (oR36 cI cB ad pa pl) rfl iwX9 1 (by decide) mw_661 rfl dX9_tell_89 ?_
          obtain ⟨g15, h⟩ := grd_some h
          refine q_bald C S (aR38 cI cB ad pa pl) 1 rfl g15 dX9_tell_92 (j := ((u13 36 1) : Int32).toNatClampNeg) rfl ?_
          refine lv_bipush (v := 59) hx hb dX9_tell_93 (by decide) ?_
          refine lv_icmp_eq (tgt := 103) hx hb dX9_tell_95 (by decide) (fun c16 => ?_) (fun c16 => ?_)
          · have h := cnd_t c16 h
            refine lv_aload_n hx hb dX9_tell_103 rfl (lv_at hl 0 rfl) ?_
            refine lv_dup hx hb dX9_tell_104 rfl ?_
            refine q_get (v := .int (u13 36 1)) C S (oR36 cI cB ad pa pl) rfl iwX9 1 (by decide) mw_661 rfl dX9_tell_105 ?_
            refine lv_iconst (v := 1) hx hb dX9_tell_108 (by decide) ?_
            refine lv_iadd hx hb dX9_tell_109 ?_
            obtain ⟨u17, eu17⟩ : ∃ z : Sg, z = s2 u13 36 1 ((u13 36 1) + 1) := ⟨_, rfl⟩
            have h := bnd_of eu17 h
            refine q_put C S (oR36 cI cB ad pa pl) rfl iwX9 tyX9 tyX9_ok nmX9 1 (by decide) mw_661 rfl (iR36_1 cI cB ad pa pl) rfl rfl dX9_tell_110 eu17 (fun H locs S => ?_)
            obtain ⟨v18, ev18⟩ : ∃ y : Int32, y = x2 + 1 := ⟨_, rfl⟩
            have h := bnd_of ev18 h
            refine lv_iinc (v := v18) (lv' := [(2, .int v18), (0, .ref (ad 36)), (1, .ref (ad 0))]) hx hb dX9_tell_113 hl (k := 2) rfl (by rw [ev18]; rfl) (by decide) rfl (fun ls hl => ?_)
            have hsz := hl.1
            refine lv_goto (tgt := 32) hx hb dX9_tell_116 (by decide) ?_
            exact ih v18 u17 H locs ls (lv_sub hl [1, 2, 0] rfl) S h
          · have h := cnd_f c16 h
            refine lv_aload_n hx hb dX9_tell_98 rfl (lv_at hl 0 rfl) ?_
            refine q_get (v := .int (u13 36 1)) C S (oR36 cI cB ad pa pl) rfl iwX9 1 (by decide) mw_661 rfl dX9_tell_99 ?_
            exact q_iret C S (rt_S h) dX9_tell_102
        · have h := cnd_f c14 h
          refine lv_iconst (v := (-1)) hx hb dX9_tell_79 (by decide) ?_
          exact q_iret C S (rt_S h) dX9_tell_80
      · have h := cnd_f c11 h
        refine lv_aload_n hx hb dX9_tell_56 rfl (lv_at hl 0 rfl) ?_
        refine q_get (v := .int (u10 36 2)) C S (oR36 cI cB ad pa pl) rfl iwX9 2 (by decide) mw_665 rfl dX9_tell_57 ?_
        exact q_iret C S (rt_S h) dX9_tell_60
set_option maxRecDepth 10000 in
set_option maxHeartbeats 4000000 in
theorem wX9_tell_0 (C : cx D (tyl cI cB cL) A RX9 cX9_tell 3 (some .int) p s m args c meth) (Kx : kx ka kv fv A s s.heap) (hR : 7 ≤ R.frames ∧ 158 ≤ R.locals) {r : Int32} {σ' : Sg} (u : Sg) {H : Heap} {locs : List Loc} {ls : Array Slot} (hl : lv_has ls 3 [(0, .ref (ad 36)), (1, .ref (ad 0))]) (S : st D (wR cI cB ad pa pl) A s u H locs) (h : fX9_tell_0 u = some (r, σ')) : W p l e R s m args below meth c H locs 0 0 (MQ below (qI D (tyl cI cB cL) (wR cI cB ad pa pl) A r σ') args s 0 0 A) (F0 m 0 ls []) := by
  have hx := C.1
  have hb := C.2.1
  have hsz := hl.1
  unfold fX9_tell_0 at h
  refine lv_aload_n hx hb dX9_tell_0 rfl (lv_at hl 0 rfl) ?_
  refine lv_iconst (v := 0) hx hb dX9_tell_1 (by decide) ?_
  obtain ⟨u1, eu1⟩ : ∃ z : Sg, z = s2 u 36 1 0 := ⟨_, rfl⟩
  have h := bnd_of eu1 h
  refine q_put C S (oR36 cI cB ad pa pl) rfl iwX9 tyX9 tyX9_ok nmX9 1 (by decide) mw_661 rfl (iR36_1 cI cB ad pa pl) rfl rfl dX9_tell_2 eu1 (fun H locs S => ?_)
  refine lv_aload_n hx hb dX9_tell_5 rfl (lv_at hl 0 rfl) ?_
  refine lv_iconst (v := (-1)) hx hb dX9_tell_6 (by decide) ?_
  obtain ⟨u2, eu2⟩ : ∃ z : Sg, z = s2 u1 36 2 (-1) := ⟨_, rfl⟩
  have h := bnd_of eu2 h
  refine q_put C S (oR36 cI cB ad pa pl) rfl iwX9 tyX9 tyX9_ok nmX9 2 (by decide) mw_665 rfl (iR36_2 cI cB ad pa pl) rfl rfl dX9_tell_7 eu2 (fun H locs S => ?_)
  refine lv_aload_n hx hb dX9_tell_10 rfl (lv_at hl 0 rfl) ?_
  obtain ⟨u4, h3, h⟩ := obr_some h
  refine q_callVv (As := []) (na := 0) C S (oR36 cI cB ad pa pl) rfl (ct_X9_skipBlanks l D cI cB cL ad pa pl u2 h3) mw_669 mw_668 mw_670 mw_667 mw_666 hdX9_skipBlanks ⟨Nat.le_trans (Nat.le_of_ble_eq_true rfl) hR.1, Nat.le_trans (Nat.le_of_ble_eq_true rfl) hR.2⟩ rfl hsz ⟨Nat.zero_le _, Nat.zero_le _⟩ (Nat.le_of_ble_eq_true rfl) dX9_tell_11 rfl (fun H locs S => ?_)
  refine lv_aload_n hx hb dX9_tell_14 rfl (lv_at hl 0 rfl) ?_
  refine q_get (v := .int (u4 36 1)) C S (oR36 cI cB ad pa pl) rfl iwX9 1 (by decide) mw_661 rfl dX9_tell_15 ?_
  refine lv_aload_n hx hb dX9_tell_18 rfl (lv_at hl 0 rfl) ?_
  refine q_get (v := .ref (ad 37)) C S (oR36 cI cB ad pa pl) rfl iwX9 0 (by decide) mw_662 rfl dX9_tell_19 ?_
  refine q_get (v := .int (u4 37 1)) C S (oR37 cI cB ad pa pl) rfl iwX10 1 (by decide) mw_663 rfl dX9_tell_22 ?_
  refine lv_icmp_lt (tgt := 30) hx hb dX9_tell_25 (by decide) (fun c5 => ?_) (fun c5 => ?_)
  · have h := cnd_t c5 h
    refine lv_iconst (v := 0) hx hb dX9_tell_30 (by decide) ?_
    refine lv_istore_n (lv' := [(2, .int 0), (0, .ref (ad 36)), (1, .ref (ad 0))]) hx hb dX9_tell_31 rfl hl (by decide) rfl (fun ls hl => ?_)
    have hsz := hl.1
    exact wX9_tell_32 C Kx hR FU 0 u4 H locs ls (lv_sub hl [1, 2, 0] rfl) S h
  · have h := cnd_f c5 h
    refine lv_iconst (v := (-1)) hx hb dX9_tell_28 (by decide) ?_
    exact q_iret C S (rt_S h) dX9_tell_29
set_option maxRecDepth 10000 in
set_option maxHeartbeats 4000000 in
theorem ct_X9_tell (l : Launch) (D : va_G) (cI cB cL : ClassId) (ka kv : Nat → Nat) (fv : Value) (ad : Nat → Nat) (pa pl : Nat) (u : Sg) {r : Int32} {σ' : Sg} (h : fX9_tell u = some (r, σ')) : metIK l D (tyl cI cB cL) ka kv fv yX9_tell cX9_tell 3 (some .int) 7 158 (wR cI cB ad pa pl) [.ref (ad 36), .ref (ad 0)] u r σ' := by
  intro sz
  refine Met.ofW (cc := cX9_tell) (maxL := 3) (ret := (some .int)) (by decide) rfl ?_
  intro p e s m args below meth c s₁ B hml hv
  obtain ⟨rfl, C, S, Kx⟩ := q_entryK B hml hv
  have hl := lv_entry ([.ref (ad 36), .ref (ad 0)]) (n := 3) (Nat.le_of_ble_eq_true rfl)
  rw [lg_entry_eq]
  generalize (lg_sl ([.ref (ad 36), .ref (ad 0)]) ++ List.replicate (3 - (lg_sl ([.ref (ad 36), .ref (ad 0)])).length) Slot.unset).toArray = ls at hl ⊢
  exact wX9_tell_0 C Kx ⟨Nat.le_refl _, Nat.le_refl _⟩ u (lv_sub hl [0, 1] rfl) S h
end S_43_rk
