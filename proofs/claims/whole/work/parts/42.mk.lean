theorem mw_685 : Cond.methodLink RX12 109 yJ0_length_8abf5 ∈ gw := gw_t6 223 rfl rfl
theorem mw_686 : Cond.methodLink RX12 114 yJ0_charAt_5068e ∈ gw := gw_t6 224 rfl rfl
theorem mw_687 : Cond.code yX12_letters cX12_letters 1 none ∈ gw := gw_t6 213 rfl rfl
theorem mw_688 : Cond.instanceMethod yX12_letters ∈ gw := gw_t6 212 rfl rfl
theorem mw_689 : Cond.methodLink RX12 136 yX12_letters ∈ gw := gw_t6 210 rfl rfl
theorem mw_690 : Cond.selects RX12 yX12_letters yX12_letters ∈ gw := gw_pv (n := 18) (List.mem_of_getElem? (i := 31) rfl)
theorem mw_691 : Cond.code yX12_isWord cX12_isWord 4 (some .boolean) ∈ gw := gw_t6 222 rfl rfl
theorem mw_692 : Cond.instanceMethod yX12_isWord ∈ gw := gw_t6 221 rfl rfl
theorem mw_693 : Cond.methodLink RX12 141 yX12_isWord ∈ gw := gw_t6 219 rfl rfl
theorem mw_694 : Cond.selects RX12 yX12_isWord yX12_isWord ∈ gw := gw_pv (n := 18) (List.mem_of_getElem? (i := 33) rfl)
theorem mw_695 : Cond.code yX12_readEvent cX12_readEvent 4 (some .boolean) ∈ gw := gw_t7 27 rfl rfl
theorem mw_696 : Cond.instanceMethod yX12_readEvent ∈ gw := gw_t7 26 rfl rfl
theorem mw_697 : Cond.methodLink RX12 167 yX12_readEvent ∈ gw := gw_t7 24 rfl rfl
theorem mw_698 : Cond.selects RX12 yX12_readEvent yX12_readEvent ∈ gw := gw_pv (n := 18) (List.mem_of_getElem? (i := 41) rfl)
theorem mw_699 : Cond.code yX12_readDelay cX12_readDelay 3 (some .boolean) ∈ gw := gw_t7 16 rfl rfl
theorem mw_700 : Cond.instanceMethod yX12_readDelay ∈ gw := gw_t7 15 rfl rfl
theorem mw_701 : Cond.methodLink RX12 158 yX12_readDelay ∈ gw := gw_t7 13 rfl rfl
theorem mw_702 : Cond.selects RX12 yX12_readDelay yX12_readDelay ∈ gw := gw_pv (n := 18) (List.mem_of_getElem? (i := 39) rfl)
theorem mw_703 : Cond.code yX12_readGroup cX12_readGroup 3 (some .boolean) ∈ gw := gw_t7 4 rfl rfl
theorem mw_704 : Cond.instanceMethod yX12_readGroup ∈ gw := gw_t7 3 rfl rfl
theorem mw_705 : Cond.methodLink RX12 153 yX12_readGroup ∈ gw := gw_t7 1 rfl rfl
theorem mw_706 : Cond.selects RX12 yX12_readGroup yX12_readGroup ∈ gw := gw_pv (n := 18) (List.mem_of_getElem? (i := 37) rfl)
theorem mw_707 : Cond.code yX12_readNodes cX12_readNodes 3 (some .boolean) ∈ gw := gw_t6 228 rfl rfl
theorem mw_708 : Cond.instanceMethod yX12_readNodes ∈ gw := gw_t6 227 rfl rfl
theorem mw_709 : Cond.methodLink RX12 148 yX12_readNodes ∈ gw := gw_t6 225 rfl rfl
theorem mw_710 : Cond.selects RX12 yX12_readNodes yX12_readNodes ∈ gw := gw_pv (n := 18) (List.mem_of_getElem? (i := 34) rfl)
theorem mw_711 : Cond.code yX12_readLine cX12_readLine 1 (some .boolean) ∈ gw := gw_t6 217 rfl rfl
theorem mw_712 : Cond.instanceMethod yX12_readLine ∈ gw := gw_t6 216 rfl rfl
theorem mw_713 : Cond.methodLink RX12 170 yX12_readLine ∈ gw := gw_t6 214 rfl rfl
theorem mw_714 : Cond.selects RX12 yX12_readLine yX12_readLine ∈ gw := gw_pv (n := 18) (List.mem_of_getElem? (i := 32) rfl)
theorem mw_715 : Cond.code yX12_readNet cX12_readNet 2 (some .boolean) ∈ gw := gw_t6 201 rfl rfl
theorem mw_716 : Cond.instanceMethod yX12_readNet ∈ gw := gw_t6 200 rfl rfl
theorem mw_717 : Cond.methodLink RX12 173 yX12_readNet ∈ gw := gw_t6 198 rfl rfl
theorem mw_718 : Cond.selects RX12 yX12_readNet yX12_readNet ∈ gw := gw_pv (n := 18) (List.mem_of_getElem? (i := 28) rfl)
theorem mw_719 : Cond.fieldLink RX12 20 "LeastPendingModel" "earlier" "[I" ∈ gw := gw_t6 122 rfl rfl
theorem hdX12_isWord : yX12_isWord.cls = RX12 ∧ yX12_isWord.cls ≠ "java/lang/invoke/MethodHandle" ∧ yX12_isWord.cls ≠ "java/lang/invoke/VarHandle" ∧ (parseMethodDescriptor yX12_isWord.desc).map (fun d => d.parameters.length) = some 1 := by decide +kernel
theorem hdX12_letters : yX12_letters.cls = RX12 ∧ yX12_letters.cls ≠ "java/lang/invoke/MethodHandle" ∧ yX12_letters.cls ≠ "java/lang/invoke/VarHandle" ∧ (parseMethodDescriptor yX12_letters.desc).map (fun d => d.parameters.length) = some 0 := by decide +kernel
theorem hdX12_readDelay : yX12_readDelay.cls = RX12 ∧ yX12_readDelay.cls ≠ "java/lang/invoke/MethodHandle" ∧ yX12_readDelay.cls ≠ "java/lang/invoke/VarHandle" ∧ (parseMethodDescriptor yX12_readDelay.desc).map (fun d => d.parameters.length) = some 0 := by decide +kernel
theorem hdX12_readEvent : yX12_readEvent.cls = RX12 ∧ yX12_readEvent.cls ≠ "java/lang/invoke/MethodHandle" ∧ yX12_readEvent.cls ≠ "java/lang/invoke/VarHandle" ∧ (parseMethodDescriptor yX12_readEvent.desc).map (fun d => d.parameters.length) = some 0 := by decide +kernel
theorem hdX12_readGroup : yX12_readGroup.cls = RX12 ∧ yX12_readGroup.cls ≠ "java/lang/invoke/MethodHandle" ∧ yX12_readGroup.cls ≠ "java/lang/invoke/VarHandle" ∧ (parseMethodDescriptor yX12_readGroup.desc).map (fun d => d.parameters.length) = some 0 := by decide +kernel
theorem hdX12_readLine : yX12_readLine.cls = RX12 ∧ yX12_readLine.cls ≠ "java/lang/invoke/MethodHandle" ∧ yX12_readLine.cls ≠ "java/lang/invoke/VarHandle" ∧ (parseMethodDescriptor yX12_readLine.desc).map (fun d => d.parameters.length) = some 0 := by decide +kernel
theorem hdX12_readNet : yX12_readNet.cls = RX12 ∧ yX12_readNet.cls ≠ "java/lang/invoke/MethodHandle" ∧ yX12_readNet.cls ≠ "java/lang/invoke/VarHandle" ∧ (parseMethodDescriptor yX12_readNet.desc).map (fun d => d.parameters.length) = some 0 := by decide +kernel
theorem hdX12_readNodes : yX12_readNodes.cls = RX12 ∧ yX12_readNodes.cls ≠ "java/lang/invoke/MethodHandle" ∧ yX12_readNodes.cls ≠ "java/lang/invoke/VarHandle" ∧ (parseMethodDescriptor yX12_readNodes.desc).map (fun d => d.parameters.length) = some 0 := by decide +kernel
theorem dX12_isWord_0 : decode cX12_isWord 0 = .ok (.aload_n 0, 1) := by decide +kernel
theorem dX12_isWord_1 : decode cX12_isWord 1 = .ok (.getfield 94, 3) := by decide +kernel
theorem dX12_isWord_4 : decode cX12_isWord 4 = .ok (.aload_n 0, 1) := by decide +kernel
theorem dX12_isWord_5 : decode cX12_isWord 5 = .ok (.getfield 103, 3) := by decide +kernel
theorem dX12_isWord_8 : decode cX12_isWord 8 = .ok (.isub, 1) := by decide +kernel
theorem dX12_isWord_9 : decode cX12_isWord 9 = .ok (.aload_n 1, 1) := by decide +kernel
theorem dX12_isWord_10 : decode cX12_isWord 10 = .ok (.invokevirtual 109, 3) := by decide +kernel
theorem dX12_isWord_13 : decode cX12_isWord 13 = .ok (.if_icmp .ne 7, 3) := by decide +kernel
theorem dX12_isWord_16 : decode cX12_isWord 16 = .ok (.iconst 1, 1) := by decide +kernel
theorem dX12_isWord_17 : decode cX12_isWord 17 = .ok (.goto 4, 3) := by decide +kernel
theorem dX12_isWord_20 : decode cX12_isWord 20 = .ok (.iconst 0, 1) := by decide +kernel
theorem dX12_isWord_21 : decode cX12_isWord 21 = .ok (.istore_n 2, 1) := by decide +kernel
theorem dX12_isWord_22 : decode cX12_isWord 22 = .ok (.iconst 0, 1) := by decide +kernel
theorem dX12_isWord_23 : decode cX12_isWord 23 = .ok (.istore_n 3, 1) := by decide +kernel
theorem dX12_isWord_24 : decode cX12_isWord 24 = .ok (.iload_n 2, 1) := by decide +kernel
theorem dX12_isWord_25 : decode cX12_isWord 25 = .ok (.ifCond .eq 42, 3) := by decide +kernel
theorem dX12_isWord_28 : decode cX12_isWord 28 = .ok (.iload_n 3, 1) := by decide +kernel
theorem dX12_isWord_29 : decode cX12_isWord 29 = .ok (.aload_n 1, 1) := by decide +kernel
theorem dX12_isWord_30 : decode cX12_isWord 30 = .ok (.invokevirtual 109, 3) := by decide +kernel
theorem dX12_isWord_33 : decode cX12_isWord 33 = .ok (.if_icmp .ge 34, 3) := by decide +kernel
theorem dX12_isWord_36 : decode cX12_isWord 36 = .ok (.aload_n 0, 1) := by decide +kernel
theorem dX12_isWord_37 : decode cX12_isWord 37 = .ok (.getfield 26, 3) := by decide +kernel
theorem dX12_isWord_40 : decode cX12_isWord 40 = .ok (.aload_n 0, 1) := by decide +kernel
theorem dX12_isWord_41 : decode cX12_isWord 41 = .ok (.getfield 103, 3) := by decide +kernel
theorem dX12_isWord_44 : decode cX12_isWord 44 = .ok (.iload_n 3, 1) := by decide +kernel
theorem dX12_isWord_45 : decode cX12_isWord 45 = .ok (.iadd, 1) := by decide +kernel
theorem dX12_isWord_46 : decode cX12_isWord 46 = .ok (.baload, 1) := by decide +kernel
theorem dX12_isWord_47 : decode cX12_isWord 47 = .ok (.aload_n 1, 1) := by decide +kernel
theorem dX12_isWord_48 : decode cX12_isWord 48 = .ok (.iload_n 3, 1) := by decide +kernel
theorem dX12_isWord_49 : decode cX12_isWord 49 = .ok (.invokevirtual 114, 3) := by decide +kernel
theorem dX12_isWord_52 : decode cX12_isWord 52 = .ok (.if_icmp .ne 7, 3) := by decide +kernel
theorem dX12_isWord_55 : decode cX12_isWord 55 = .ok (.iconst 1, 1) := by decide +kernel
theorem dX12_isWord_56 : decode cX12_isWord 56 = .ok (.goto 4, 3) := by decide +kernel
theorem dX12_isWord_59 : decode cX12_isWord 59 = .ok (.iconst 0, 1) := by decide +kernel
theorem dX12_isWord_60 : decode cX12_isWord 60 = .ok (.istore_n 2, 1) := by decide +kernel
theorem dX12_isWord_61 : decode cX12_isWord 61 = .ok (.iinc 3 1, 3) := by decide +kernel
theorem dX12_isWord_64 : decode cX12_isWord 64 = .ok (.goto (-40), 3) := by decide +kernel
theorem dX12_isWord_67 : decode cX12_isWord 67 = .ok (.iload_n 2, 1) := by decide +kernel
theorem dX12_isWord_68 : decode cX12_isWord 68 = .ok (.ireturn, 1) := by decide +kernel
theorem dX12_readEvent_0 : decode cX12_readEvent 0 = .ok (.aload_n 0, 1) := by decide +kernel
theorem dX12_readEvent_1 : decode cX12_readEvent 1 = .ok (.getfield 13, 3) := by decide +kernel
theorem dX12_readEvent_4 : decode cX12_readEvent 4 = .ok (.bipush 7, 2) := by decide +kernel
theorem dX12_readEvent_6 : decode cX12_readEvent 6 = .ok (.iaload, 1) := by decide +kernel
theorem dX12_readEvent_7 : decode cX12_readEvent 7 = .ok (.istore_n 1, 1) := by decide +kernel
theorem dX12_readEvent_8 : decode cX12_readEvent 8 = .ok (.iload_n 1, 1) := by decide +kernel
theorem dX12_readEvent_9 : decode cX12_readEvent 9 = .ok (.bipush 8, 2) := by decide +kernel
theorem dX12_readEvent_11 : decode cX12_readEvent 11 = .ok (.if_icmp .ne 5, 3) := by decide +kernel
theorem dX12_readEvent_14 : decode cX12_readEvent 14 = .ok (.iconst 0, 1) := by decide +kernel
theorem dX12_readEvent_15 : decode cX12_readEvent 15 = .ok (.ireturn, 1) := by decide +kernel
theorem dX12_readEvent_16 : decode cX12_readEvent 16 = .ok (.sipush 1587, 3) := by decide +kernel
theorem dX12_readEvent_19 : decode cX12_readEvent 19 = .ok (.iconst 4, 1) := by decide +kernel
theorem dX12_readEvent_20 : decode cX12_readEvent 20 = .ok (.iload_n 1, 1) := by decide +kernel
theorem dX12_readEvent_21 : decode cX12_readEvent 21 = .ok (.imul, 1) := by decide +kernel
theorem dX12_readEvent_22 : decode cX12_readEvent 22 = .ok (.iadd, 1) := by decide +kernel
theorem dX12_readEvent_23 : decode cX12_readEvent 23 = .ok (.istore_n 2, 1) := by decide +kernel
theorem dX12_readEvent_24 : decode cX12_readEvent 24 = .ok (.aload_n 0, 1) := by decide +kernel
theorem dX12_readEvent_25 : decode cX12_readEvent 25 = .ok (.iload_n 2, 1) := by decide +kernel
theorem dX12_readEvent_26 : decode cX12_readEvent 26 = .ok (.iconst 0, 1) := by decide +kernel
theorem dX12_readEvent_27 : decode cX12_readEvent 27 = .ok (.iadd, 1) := by decide +kernel
theorem dX12_readEvent_28 : decode cX12_readEvent 28 = .ok (.aload_n 0, 1) := by decide +kernel
theorem dX12_readEvent_29 : decode cX12_readEvent 29 = .ok (.getfield 13, 3) := by decide +kernel
theorem dX12_readEvent_32 : decode cX12_readEvent 32 = .ok (.iconst 4, 1) := by decide +kernel
theorem dX12_readEvent_33 : decode cX12_readEvent 33 = .ok (.iaload, 1) := by decide +kernel
theorem dX12_readEvent_34 : decode cX12_readEvent 34 = .ok (.sipush 1000, 3) := by decide +kernel
theorem dX12_readEvent_37 : decode cX12_readEvent 37 = .ok (.invokestatic 131, 3) := by decide +kernel
theorem dX12_readEvent_40 : decode cX12_readEvent 40 = .ok (.sipush 999, 3) := by decide +kernel
theorem dX12_readEvent_43 : decode cX12_readEvent 43 = .ok (.invokevirtual 128, 3) := by decide +kernel
theorem dX12_readEvent_46 : decode cX12_readEvent 46 = .ok (.ifCond .ne 5, 3) := by decide +kernel
theorem dX12_readEvent_49 : decode cX12_readEvent 49 = .ok (.iconst 0, 1) := by decide +kernel
theorem dX12_readEvent_50 : decode cX12_readEvent 50 = .ok (.ireturn, 1) := by decide +kernel
theorem dX12_readEvent_51 : decode cX12_readEvent 51 = .ok (.aload_n 0, 1) := by decide +kernel
theorem dX12_readEvent_52 : decode cX12_readEvent 52 = .ok (.invokevirtual 136, 3) := by decide +kernel
theorem dX12_readEvent_55 : decode cX12_readEvent 55 = .ok (.aload_n 0, 1) := by decide +kernel
theorem dX12_readEvent_56 : decode cX12_readEvent 56 = .ok (.ldc 139, 2) := by decide +kernel
theorem dX12_readEvent_58 : decode cX12_readEvent 58 = .ok (.invokevirtual 141, 3) := by decide +kernel
theorem dX12_readEvent_61 : decode cX12_readEvent 61 = .ok (.istore_n 3, 1) := by decide +kernel
theorem dX12_readEvent_62 : decode cX12_readEvent 62 = .ok (.iload_n 3, 1) := by decide +kernel
theorem dX12_readEvent_63 : decode cX12_readEvent 63 = .ok (.ifCond .ne 14, 3) := by decide +kernel
theorem dX12_readEvent_66 : decode cX12_readEvent 66 = .ok (.aload_n 0, 1) := by decide +kernel
theorem dX12_readEvent_67 : decode cX12_readEvent 67 = .ok (.ldc 145, 2) := by decide +kernel
theorem dX12_readEvent_69 : decode cX12_readEvent 69 = .ok (.invokevirtual 141, 3) := by decide +kernel
theorem dX12_readEvent_72 : decode cX12_readEvent 72 = .ok (.ifCond .ne 5, 3) := by decide +kernel
theorem dX12_readEvent_75 : decode cX12_readEvent 75 = .ok (.iconst 0, 1) := by decide +kernel
theorem dX12_readEvent_76 : decode cX12_readEvent 76 = .ok (.ireturn, 1) := by decide +kernel
theorem dX12_readEvent_77 : decode cX12_readEvent 77 = .ok (.aload_n 0, 1) := by decide +kernel
theorem dX12_readEvent_78 : decode cX12_readEvent 78 = .ok (.getfield 13, 3) := by decide +kernel
theorem dX12_readEvent_81 : decode cX12_readEvent 81 = .ok (.iload_n 2, 1) := by decide +kernel
theorem dX12_readEvent_82 : decode cX12_readEvent 82 = .ok (.iconst 1, 1) := by decide +kernel
theorem dX12_readEvent_83 : decode cX12_readEvent 83 = .ok (.iadd, 1) := by decide +kernel
theorem dX12_readEvent_84 : decode cX12_readEvent 84 = .ok (.iload_n 3, 1) := by decide +kernel
theorem dX12_readEvent_85 : decode cX12_readEvent 85 = .ok (.ifCond .eq 7, 3) := by decide +kernel
theorem dX12_readEvent_88 : decode cX12_readEvent 88 = .ok (.iconst 0, 1) := by decide +kernel
theorem dX12_readEvent_89 : decode cX12_readEvent 89 = .ok (.goto 4, 3) := by decide +kernel
theorem dX12_readEvent_92 : decode cX12_readEvent 92 = .ok (.iconst 1, 1) := by decide +kernel
theorem dX12_readEvent_93 : decode cX12_readEvent 93 = .ok (.iastore, 1) := by decide +kernel
theorem dX12_readEvent_94 : decode cX12_readEvent 94 = .ok (.aload_n 0, 1) := by decide +kernel
theorem dX12_readEvent_95 : decode cX12_readEvent 95 = .ok (.getfield 13, 3) := by decide +kernel
theorem dX12_readEvent_98 : decode cX12_readEvent 98 = .ok (.iload_n 2, 1) := by decide +kernel
theorem dX12_readEvent_99 : decode cX12_readEvent 99 = .ok (.iconst 3, 1) := by decide +kernel
theorem dX12_readEvent_100 : decode cX12_readEvent 100 = .ok (.iadd, 1) := by decide +kernel
theorem dX12_readEvent_101 : decode cX12_readEvent 101 = .ok (.iconst (-1), 1) := by decide +kernel
theorem dX12_readEvent_102 : decode cX12_readEvent 102 = .ok (.iastore, 1) := by decide +kernel
theorem dX12_readEvent_103 : decode cX12_readEvent 103 = .ok (.aload_n 0, 1) := by decide +kernel
theorem dX12_readEvent_104 : decode cX12_readEvent 104 = .ok (.iload_n 2, 1) := by decide +kernel
theorem dX12_readEvent_105 : decode cX12_readEvent 105 = .ok (.iconst 2, 1) := by decide +kernel
theorem dX12_readEvent_106 : decode cX12_readEvent 106 = .ok (.iadd, 1) := by decide +kernel
theorem dX12_readEvent_107 : decode cX12_readEvent 107 = .ok (.iconst 0, 1) := by decide +kernel
theorem dX12_readEvent_108 : decode cX12_readEvent 108 = .ok (.aload_n 0, 1) := by decide +kernel
theorem dX12_readEvent_109 : decode cX12_readEvent 109 = .ok (.invokevirtual 66, 3) := by decide +kernel
theorem dX12_readEvent_112 : decode cX12_readEvent 112 = .ok (.iconst 1, 1) := by decide +kernel
theorem dX12_readEvent_113 : decode cX12_readEvent 113 = .ok (.isub, 1) := by decide +kernel
theorem dX12_readEvent_114 : decode cX12_readEvent 114 = .ok (.invokevirtual 128, 3) := by decide +kernel
theorem dX12_readEvent_117 : decode cX12_readEvent 117 = .ok (.ifCond .eq 26, 3) := by decide +kernel
theorem dX12_readEvent_120 : decode cX12_readEvent 120 = .ok (.iload_n 3, 1) := by decide +kernel
theorem dX12_readEvent_121 : decode cX12_readEvent 121 = .ok (.ifCond .eq 24, 3) := by decide +kernel
theorem dX12_readEvent_124 : decode cX12_readEvent 124 = .ok (.aload_n 0, 1) := by decide +kernel
theorem dX12_readEvent_125 : decode cX12_readEvent 125 = .ok (.iload_n 2, 1) := by decide +kernel
theorem dX12_readEvent_126 : decode cX12_readEvent 126 = .ok (.iconst 3, 1) := by decide +kernel
theorem dX12_readEvent_127 : decode cX12_readEvent 127 = .ok (.iadd, 1) := by decide +kernel
theorem dX12_readEvent_128 : decode cX12_readEvent 128 = .ok (.iconst 0, 1) := by decide +kernel
theorem dX12_readEvent_129 : decode cX12_readEvent 129 = .ok (.aload_n 0, 1) := by decide +kernel
theorem dX12_readEvent_130 : decode cX12_readEvent 130 = .ok (.getfield 13, 3) := by decide +kernel
theorem dX12_readEvent_133 : decode cX12_readEvent 133 = .ok (.iconst 1, 1) := by decide +kernel
theorem dX12_readEvent_134 : decode cX12_readEvent 134 = .ok (.iaload, 1) := by decide +kernel
theorem dX12_readEvent_135 : decode cX12_readEvent 135 = .ok (.iconst 1, 1) := by decide +kernel
theorem dX12_readEvent_136 : decode cX12_readEvent 136 = .ok (.isub, 1) := by decide +kernel
theorem dX12_readEvent_137 : decode cX12_readEvent 137 = .ok (.invokevirtual 128, 3) := by decide +kernel
theorem dX12_readEvent_140 : decode cX12_readEvent 140 = .ok (.ifCond .ne 5, 3) := by decide +kernel
theorem dX12_readEvent_143 : decode cX12_readEvent 143 = .ok (.iconst 0, 1) := by decide +kernel
theorem dX12_readEvent_144 : decode cX12_readEvent 144 = .ok (.ireturn, 1) := by decide +kernel
theorem dX12_readEvent_145 : decode cX12_readEvent 145 = .ok (.aload_n 0, 1) := by decide +kernel
theorem dX12_readEvent_146 : decode cX12_readEvent 146 = .ok (.getfield 13, 3) := by decide +kernel
theorem dX12_readEvent_149 : decode cX12_readEvent 149 = .ok (.bipush 7, 2) := by decide +kernel
theorem dX12_readEvent_151 : decode cX12_readEvent 151 = .ok (.dup2, 1) := by decide +kernel
theorem dX12_readEvent_152 : decode cX12_readEvent 152 = .ok (.iaload, 1) := by decide +kernel
theorem dX12_readEvent_153 : decode cX12_readEvent 153 = .ok (.iconst 1, 1) := by decide +kernel
theorem dX12_readEvent_154 : decode cX12_readEvent 154 = .ok (.iadd, 1) := by decide +kernel
theorem dX12_readEvent_155 : decode cX12_readEvent 155 = .ok (.iastore, 1) := by decide +kernel
theorem dX12_readEvent_156 : decode cX12_readEvent 156 = .ok (.iconst 1, 1) := by decide +kernel
theorem dX12_readEvent_157 : decode cX12_readEvent 157 = .ok (.ireturn, 1) := by decide +kernel
theorem dX12_readLine_0 : decode cX12_readLine 0 = .ok (.aload_n 0, 1) := by decide +kernel
theorem dX12_readLine_1 : decode cX12_readLine 1 = .ok (.ldc 147, 2) := by decide +kernel
theorem dX12_readLine_3 : decode cX12_readLine 3 = .ok (.invokevirtual 141, 3) := by decide +kernel
theorem dX12_readLine_6 : decode cX12_readLine 6 = .ok (.ifCond .eq 8, 3) := by decide +kernel
theorem dX12_readLine_9 : decode cX12_readLine 9 = .ok (.aload_n 0, 1) := by decide +kernel
theorem dX12_readLine_10 : decode cX12_readLine 10 = .ok (.invokevirtual 148, 3) := by decide +kernel
theorem dX12_readLine_13 : decode cX12_readLine 13 = .ok (.ireturn, 1) := by decide +kernel
theorem dX12_readLine_14 : decode cX12_readLine 14 = .ok (.aload_n 0, 1) := by decide +kernel
theorem dX12_readLine_15 : decode cX12_readLine 15 = .ok (.ldc 151, 2) := by decide +kernel
theorem dX12_readLine_17 : decode cX12_readLine 17 = .ok (.invokevirtual 141, 3) := by decide +kernel
theorem dX12_readLine_20 : decode cX12_readLine 20 = .ok (.ifCond .eq 8, 3) := by decide +kernel
theorem dX12_readLine_23 : decode cX12_readLine 23 = .ok (.aload_n 0, 1) := by decide +kernel
theorem dX12_readLine_24 : decode cX12_readLine 24 = .ok (.invokevirtual 153, 3) := by decide +kernel
theorem dX12_readLine_27 : decode cX12_readLine 27 = .ok (.ireturn, 1) := by decide +kernel
theorem dX12_readLine_28 : decode cX12_readLine 28 = .ok (.aload_n 0, 1) := by decide +kernel
theorem dX12_readLine_29 : decode cX12_readLine 29 = .ok (.ldc 156, 2) := by decide +kernel
theorem dX12_readLine_31 : decode cX12_readLine 31 = .ok (.invokevirtual 141, 3) := by decide +kernel
theorem dX12_readLine_34 : decode cX12_readLine 34 = .ok (.ifCond .eq 8, 3) := by decide +kernel
theorem dX12_readLine_37 : decode cX12_readLine 37 = .ok (.aload_n 0, 1) := by decide +kernel
theorem dX12_readLine_38 : decode cX12_readLine 38 = .ok (.invokevirtual 158, 3) := by decide +kernel
theorem dX12_readLine_41 : decode cX12_readLine 41 = .ok (.ireturn, 1) := by decide +kernel
theorem dX12_readLine_42 : decode cX12_readLine 42 = .ok (.aload_n 0, 1) := by decide +kernel
theorem dX12_readLine_43 : decode cX12_readLine 43 = .ok (.ldc 161, 2) := by decide +kernel
theorem dX12_readLine_45 : decode cX12_readLine 45 = .ok (.invokevirtual 141, 3) := by decide +kernel
theorem dX12_readLine_48 : decode cX12_readLine 48 = .ok (.ifCond .eq 11, 3) := by decide +kernel
theorem dX12_readLine_51 : decode cX12_readLine 51 = .ok (.aload_n 0, 1) := by decide +kernel
theorem dX12_readLine_52 : decode cX12_readLine 52 = .ok (.iconst 5, 1) := by decide +kernel
theorem dX12_readLine_53 : decode cX12_readLine 53 = .ok (.iconst 0, 1) := by decide +kernel
theorem dX12_readLine_54 : decode cX12_readLine 54 = .ok (.iconst 5, 1) := by decide +kernel
theorem dX12_readLine_55 : decode cX12_readLine 55 = .ok (.invokevirtual 128, 3) := by decide +kernel
theorem dX12_readLine_58 : decode cX12_readLine 58 = .ok (.ireturn, 1) := by decide +kernel
theorem dX12_readLine_59 : decode cX12_readLine 59 = .ok (.aload_n 0, 1) := by decide +kernel
theorem dX12_readLine_60 : decode cX12_readLine 60 = .ok (.ldc 163, 2) := by decide +kernel
theorem dX12_readLine_62 : decode cX12_readLine 62 = .ok (.invokevirtual 141, 3) := by decide +kernel
theorem dX12_readLine_65 : decode cX12_readLine 65 = .ok (.ifCond .eq 13, 3) := by decide +kernel
theorem dX12_readLine_68 : decode cX12_readLine 68 = .ok (.aload_n 0, 1) := by decide +kernel
theorem dX12_readLine_69 : decode cX12_readLine 69 = .ok (.bipush 6, 2) := by decide +kernel
theorem dX12_readLine_71 : decode cX12_readLine 71 = .ok (.iconst 0, 1) := by decide +kernel
theorem dX12_readLine_72 : decode cX12_readLine 72 = .ok (.bipush 20, 2) := by decide +kernel
theorem dX12_readLine_74 : decode cX12_readLine 74 = .ok (.invokevirtual 128, 3) := by decide +kernel
theorem dX12_readLine_77 : decode cX12_readLine 77 = .ok (.ireturn, 1) := by decide +kernel
theorem dX12_readLine_78 : decode cX12_readLine 78 = .ok (.aload_n 0, 1) := by decide +kernel
theorem dX12_readLine_79 : decode cX12_readLine 79 = .ok (.ldc 165, 2) := by decide +kernel
theorem dX12_readLine_81 : decode cX12_readLine 81 = .ok (.invokevirtual 141, 3) := by decide +kernel
theorem dX12_readLine_84 : decode cX12_readLine 84 = .ok (.ifCond .eq 14, 3) := by decide +kernel
theorem dX12_readLine_87 : decode cX12_readLine 87 = .ok (.aload_n 0, 1) := by decide +kernel
theorem dX12_readLine_88 : decode cX12_readLine 88 = .ok (.invokevirtual 167, 3) := by decide +kernel
theorem dX12_readLine_91 : decode cX12_readLine 91 = .ok (.ifCond .eq 7, 3) := by decide +kernel
theorem dX12_readLine_94 : decode cX12_readLine 94 = .ok (.iconst 1, 1) := by decide +kernel
theorem dX12_readLine_95 : decode cX12_readLine 95 = .ok (.goto 4, 3) := by decide +kernel
theorem dX12_readLine_98 : decode cX12_readLine 98 = .ok (.iconst 0, 1) := by decide +kernel
theorem dX12_readLine_99 : decode cX12_readLine 99 = .ok (.ireturn, 1) := by decide +kernel
theorem dX12_readNet_0 : decode cX12_readNet 0 = .ok (.aload_n 0, 1) := by decide +kernel
theorem dX12_readNet_1 : decode cX12_readNet 1 = .ok (.invokevirtual 106, 3) := by decide +kernel
theorem dX12_readNet_4 : decode cX12_readNet 4 = .ok (.aload_n 0, 1) := by decide +kernel
theorem dX12_readNet_5 : decode cX12_readNet 5 = .ok (.getfield 94, 3) := by decide +kernel
theorem dX12_readNet_8 : decode cX12_readNet 8 = .ok (.aload_n 0, 1) := by decide +kernel
theorem dX12_readNet_9 : decode cX12_readNet 9 = .ok (.getfield 97, 3) := by decide +kernel
theorem dX12_readNet_12 : decode cX12_readNet 12 = .ok (.if_icmp .ne 5, 3) := by decide +kernel
theorem dX12_readNet_15 : decode cX12_readNet 15 = .ok (.iconst 1, 1) := by decide +kernel
theorem dX12_readNet_16 : decode cX12_readNet 16 = .ok (.ireturn, 1) := by decide +kernel
theorem dX12_readNet_17 : decode cX12_readNet 17 = .ok (.iconst 0, 1) := by decide +kernel
theorem dX12_readNet_18 : decode cX12_readNet 18 = .ok (.istore_n 1, 1) := by decide +kernel
theorem dX12_readNet_19 : decode cX12_readNet 19 = .ok (.aload_n 0, 1) := by decide +kernel
theorem dX12_readNet_20 : decode cX12_readNet 20 = .ok (.invokevirtual 136, 3) := by decide +kernel
theorem dX12_readNet_23 : decode cX12_readNet 23 = .ok (.aload_n 0, 1) := by decide +kernel
theorem dX12_readNet_24 : decode cX12_readNet 24 = .ok (.iload_n 1, 1) := by decide +kernel
theorem dX12_readNet_25 : decode cX12_readNet 25 = .ok (.putfield 121, 3) := by decide +kernel
theorem dX12_readNet_28 : decode cX12_readNet 28 = .ok (.iload_n 1, 1) := by decide +kernel
theorem dX12_readNet_29 : decode cX12_readNet 29 = .ok (.bipush 14, 2) := by decide +kernel
theorem dX12_readNet_31 : decode cX12_readNet 31 = .ok (.if_icmp .eq 10, 3) := by decide +kernel
theorem dX12_readNet_34 : decode cX12_readNet 34 = .ok (.aload_n 0, 1) := by decide +kernel
theorem dX12_readNet_35 : decode cX12_readNet 35 = .ok (.invokevirtual 170, 3) := by decide +kernel
theorem dX12_readNet_38 : decode cX12_readNet 38 = .ok (.ifCond .ne 5, 3) := by decide +kernel
theorem dX12_readNet_41 : decode cX12_readNet 41 = .ok (.iconst 0, 1) := by decide +kernel
theorem dX12_readNet_42 : decode cX12_readNet 42 = .ok (.ireturn, 1) := by decide +kernel
theorem dX12_readNet_43 : decode cX12_readNet 43 = .ok (.aload_n 0, 1) := by decide +kernel
theorem dX12_readNet_44 : decode cX12_readNet 44 = .ok (.invokevirtual 106, 3) := by decide +kernel
theorem dX12_readNet_47 : decode cX12_readNet 47 = .ok (.aload_n 0, 1) := by decide +kernel
theorem dX12_readNet_48 : decode cX12_readNet 48 = .ok (.getfield 94, 3) := by decide +kernel
theorem dX12_readNet_51 : decode cX12_readNet 51 = .ok (.aload_n 0, 1) := by decide +kernel
theorem dX12_readNet_52 : decode cX12_readNet 52 = .ok (.getfield 97, 3) := by decide +kernel
theorem dX12_readNet_55 : decode cX12_readNet 55 = .ok (.if_icmp .ne 5, 3) := by decide +kernel
theorem dX12_readNet_58 : decode cX12_readNet 58 = .ok (.iconst 1, 1) := by decide +kernel
theorem dX12_readNet_59 : decode cX12_readNet 59 = .ok (.ireturn, 1) := by decide +kernel
theorem dX12_readNet_60 : decode cX12_readNet 60 = .ok (.aload_n 0, 1) := by decide +kernel
theorem dX12_readNet_61 : decode cX12_readNet 61 = .ok (.bipush 59, 2) := by decide +kernel
theorem dX12_readNet_63 : decode cX12_readNet 63 = .ok (.bipush 59, 2) := by decide +kernel
theorem dX12_readNet_65 : decode cX12_readNet 65 = .ok (.invokevirtual 100, 3) := by decide +kernel
theorem dX12_readNet_68 : decode cX12_readNet 68 = .ok (.ifCond .ne 5, 3) := by decide +kernel
theorem dX12_readNet_71 : decode cX12_readNet 71 = .ok (.iconst 0, 1) := by decide +kernel
theorem dX12_readNet_72 : decode cX12_readNet 72 = .ok (.ireturn, 1) := by decide +kernel
theorem dX12_readNet_73 : decode cX12_readNet 73 = .ok (.aload_n 0, 1) := by decide +kernel
theorem dX12_readNet_74 : decode cX12_readNet 74 = .ok (.dup, 1) := by decide +kernel
theorem dX12_readNet_75 : decode cX12_readNet 75 = .ok (.getfield 94, 3) := by decide +kernel
theorem dX12_readNet_78 : decode cX12_readNet 78 = .ok (.iconst 1, 1) := by decide +kernel
theorem dX12_readNet_79 : decode cX12_readNet 79 = .ok (.iadd, 1) := by decide +kernel
theorem dX12_readNet_80 : decode cX12_readNet 80 = .ok (.putfield 94, 3) := by decide +kernel
theorem dX12_readNet_83 : decode cX12_readNet 83 = .ok (.iinc 1 1, 3) := by decide +kernel
theorem dX12_readNet_86 : decode cX12_readNet 86 = .ok (.goto (-67), 3) := by decide +kernel
theorem dX12_net_0 : decode cX12_net 0 = .ok (.aload_n 0, 1) := by decide +kernel
theorem dX12_net_1 : decode cX12_net 1 = .ok (.iconst 0, 1) := by decide +kernel
theorem dX12_net_2 : decode cX12_net 2 = .ok (.putfield 3, 3) := by decide +kernel
theorem dX12_net_5 : decode cX12_net 5 = .ok (.aload_n 0, 1) := by decide +kernel
theorem dX12_net_6 : decode cX12_net 6 = .ok (.aload_n 0, 1) := by decide +kernel
theorem dX12_net_7 : decode cX12_net 7 = .ok (.getfield 91, 3) := by decide +kernel
theorem dX12_net_10 : decode cX12_net 10 = .ok (.putfield 97, 3) := by decide +kernel
theorem dX12_net_13 : decode cX12_net 13 = .ok (.aload_n 0, 1) := by decide +kernel
theorem dX12_net_14 : decode cX12_net 14 = .ok (.iconst 0, 1) := by decide +kernel
theorem dX12_net_15 : decode cX12_net 15 = .ok (.putfield 91, 3) := by decide +kernel
theorem dX12_net_18 : decode cX12_net 18 = .ok (.aload_n 0, 1) := by decide +kernel
theorem dX12_net_19 : decode cX12_net 19 = .ok (.iconst 0, 1) := by decide +kernel
theorem dX12_net_20 : decode cX12_net 20 = .ok (.putfield 94, 3) := by decide +kernel
theorem dX12_net_23 : decode cX12_net 23 = .ok (.iconst 0, 1) := by decide +kernel
theorem dX12_net_24 : decode cX12_net 24 = .ok (.istore_n 1, 1) := by decide +kernel
theorem dX12_net_25 : decode cX12_net 25 = .ok (.iload_n 1, 1) := by decide +kernel
theorem dX12_net_26 : decode cX12_net 26 = .ok (.sipush 32243, 3) := by decide +kernel
theorem dX12_net_29 : decode cX12_net 29 = .ok (.if_icmp .ge 21, 3) := by decide +kernel
theorem dX12_net_32 : decode cX12_net 32 = .ok (.aload_n 0, 1) := by decide +kernel
theorem dX12_net_33 : decode cX12_net 33 = .ok (.getfield 20, 3) := by decide +kernel
theorem dX12_net_36 : decode cX12_net 36 = .ok (.iload_n 1, 1) := by decide +kernel
theorem dX12_net_37 : decode cX12_net 37 = .ok (.aload_n 0, 1) := by decide +kernel
theorem dX12_net_38 : decode cX12_net 38 = .ok (.getfield 13, 3) := by decide +kernel
theorem dX12_net_41 : decode cX12_net 41 = .ok (.iload_n 1, 1) := by decide +kernel
theorem dX12_net_42 : decode cX12_net 42 = .ok (.iaload, 1) := by decide +kernel
theorem dX12_net_43 : decode cX12_net 43 = .ok (.iastore, 1) := by decide +kernel
theorem dX12_net_44 : decode cX12_net 44 = .ok (.iinc 1 1, 3) := by decide +kernel
theorem dX12_net_47 : decode cX12_net 47 = .ok (.goto (-22), 3) := by decide +kernel
theorem dX12_net_50 : decode cX12_net 50 = .ok (.aload_n 0, 1) := by decide +kernel
theorem dX12_net_51 : decode cX12_net 51 = .ok (.invokevirtual 173, 3) := by decide +kernel
theorem dX12_net_54 : decode cX12_net 54 = .ok (.istore_n 1, 1) := by decide +kernel
theorem dX12_net_55 : decode cX12_net 55 = .ok (.aload_n 0, 1) := by decide +kernel
theorem dX12_net_56 : decode cX12_net 56 = .ok (.iload_n 1, 1) := by decide +kernel
theorem dX12_net_57 : decode cX12_net 57 = .ok (.ifCond .eq 7, 3) := by decide +kernel
theorem dX12_net_60 : decode cX12_net 60 = .ok (.iconst (-1), 1) := by decide +kernel
theorem dX12_net_61 : decode cX12_net 61 = .ok (.goto 7, 3) := by decide +kernel
theorem dX12_net_64 : decode cX12_net 64 = .ok (.aload_n 0, 1) := by decide +kernel
theorem dX12_net_65 : decode cX12_net 65 = .ok (.getfield 103, 3) := by decide +kernel
theorem dX12_net_68 : decode cX12_net 68 = .ok (.putfield 30, 3) := by decide +kernel
theorem dX12_net_71 : decode cX12_net 71 = .ok (.aload_n 0, 1) := by decide +kernel
theorem dX12_net_72 : decode cX12_net 72 = .ok (.iload_n 1, 1) := by decide +kernel
theorem dX12_net_73 : decode cX12_net 73 = .ok (.ifCond .ne 7, 3) := by decide +kernel
theorem dX12_net_76 : decode cX12_net 76 = .ok (.iconst 1, 1) := by decide +kernel
theorem dX12_net_77 : decode cX12_net 77 = .ok (.goto 4, 3) := by decide +kernel
theorem dX12_net_80 : decode cX12_net 80 = .ok (.iconst 0, 1) := by decide +kernel
theorem dX12_net_81 : decode cX12_net 81 = .ok (.iconst 1, 1) := by decide +kernel
theorem dX12_net_82 : decode cX12_net 82 = .ok (.invokevirtual 176, 3) := by decide +kernel
theorem dX12_net_85 : decode cX12_net 85 = .ok (.ifCond .ne 27, 3) := by decide +kernel
theorem dX12_net_88 : decode cX12_net 88 = .ok (.aload_n 0, 1) := by decide +kernel
theorem dX12_net_89 : decode cX12_net 89 = .ok (.aload_n 0, 1) := by decide +kernel
theorem dX12_net_90 : decode cX12_net 90 = .ok (.getfield 13, 3) := by decide +kernel
theorem dX12_net_93 : decode cX12_net 93 = .ok (.iconst 2, 1) := by decide +kernel
theorem dX12_net_94 : decode cX12_net 94 = .ok (.iaload, 1) := by decide +kernel
theorem dX12_net_95 : decode cX12_net 95 = .ok (.bipush 12, 2) := by decide +kernel
theorem dX12_net_97 : decode cX12_net 97 = .ok (.if_icmp .ne 7, 3) := by decide +kernel
theorem dX12_net_100 : decode cX12_net 100 = .ok (.iconst 1, 1) := by decide +kernel
theorem dX12_net_101 : decode cX12_net 101 = .ok (.goto 4, 3) := by decide +kernel
theorem dX12_net_104 : decode cX12_net 104 = .ok (.iconst 0, 1) := by decide +kernel
theorem dX12_net_105 : decode cX12_net 105 = .ok (.iconst 2, 1) := by decide +kernel
theorem dX12_net_106 : decode cX12_net 106 = .ok (.invokevirtual 176, 3) := by decide +kernel
theorem dX12_net_109 : decode cX12_net 109 = .ok (.ifCond .eq 32, 3) := by decide +kernel
theorem dX12_net_112 : decode cX12_net 112 = .ok (.iconst 0, 1) := by decide +kernel
theorem dX12_net_113 : decode cX12_net 113 = .ok (.istore_n 2, 1) := by decide +kernel
theorem dX12_net_114 : decode cX12_net 114 = .ok (.iload_n 2, 1) := by decide +kernel
theorem dX12_net_115 : decode cX12_net 115 = .ok (.sipush 32243, 3) := by decide +kernel
theorem dX12_net_118 : decode cX12_net 118 = .ok (.if_icmp .ge 21, 3) := by decide +kernel
theorem dX12_net_121 : decode cX12_net 121 = .ok (.aload_n 0, 1) := by decide +kernel
theorem dX12_net_122 : decode cX12_net 122 = .ok (.getfield 13, 3) := by decide +kernel
theorem dX12_net_125 : decode cX12_net 125 = .ok (.iload_n 2, 1) := by decide +kernel
theorem dX12_net_126 : decode cX12_net 126 = .ok (.aload_n 0, 1) := by decide +kernel
theorem dX12_net_127 : decode cX12_net 127 = .ok (.getfield 20, 3) := by decide +kernel
theorem dX12_net_130 : decode cX12_net 130 = .ok (.iload_n 2, 1) := by decide +kernel
theorem dX12_net_131 : decode cX12_net 131 = .ok (.iaload, 1) := by decide +kernel
theorem dX12_net_132 : decode cX12_net 132 = .ok (.iastore, 1) := by decide +kernel
theorem dX12_net_133 : decode cX12_net 133 = .ok (.iinc 2 1, 3) := by decide +kernel
theorem dX12_net_136 : decode cX12_net 136 = .ok (.goto (-22), 3) := by decide +kernel
theorem dX12_net_139 : decode cX12_net 139 = .ok (.iconst 0, 1) := by decide +kernel
theorem dX12_net_140 : decode cX12_net 140 = .ok (.ireturn, 1) := by decide +kernel
theorem dX12_net_141 : decode cX12_net 141 = .ok (.aload_n 0, 1) := by decide +kernel
theorem dX12_net_142 : decode cX12_net 142 = .ok (.getfield 13, 3) := by decide +kernel
theorem dX12_net_145 : decode cX12_net 145 = .ok (.iconst 2, 1) := by decide +kernel
theorem dX12_net_146 : decode cX12_net 146 = .ok (.dup2, 1) := by decide +kernel
theorem dX12_net_147 : decode cX12_net 147 = .ok (.iaload, 1) := by decide +kernel
theorem dX12_net_148 : decode cX12_net 148 = .ok (.iconst 1, 1) := by decide +kernel
theorem dX12_net_149 : decode cX12_net 149 = .ok (.iadd, 1) := by decide +kernel
theorem dX12_net_150 : decode cX12_net 150 = .ok (.iastore, 1) := by decide +kernel
theorem dX12_net_151 : decode cX12_net 151 = .ok (.aload_n 0, 1) := by decide +kernel
theorem dX12_net_152 : decode cX12_net 152 = .ok (.getfield 13, 3) := by decide +kernel
theorem dX12_net_155 : decode cX12_net 155 = .ok (.iconst 2, 1) := by decide +kernel
theorem dX12_net_156 : decode cX12_net 156 = .ok (.iaload, 1) := by decide +kernel
theorem dX12_net_157 : decode cX12_net 157 = .ok (.ireturn, 1) := by decide +kernel
section S_42_mk
variable {p : Program} {l : Launch} {e : Env} {R : Room} {s : State} {m : MethodId} {args : Array Value} {below : List Frame} {meth : Method} {c : Code} {A : Nat → Prop} {D : va_G} {cI cB cL : ClassId} {ad : Nat → Nat} {ka kv : Nat → Nat} {fv : Value} {pa pl : Nat}
noncomputable def fX12_isWord_60 (w : Nat) (K24 : Int32 → Int32 → Option Int32) (x3 : Int32) (t0 : Int32) (u : Sg) : Option Int32 := bnd (x3 + 1) (fun v9 => K24 t0 v9)
noncomputable def fX12_isWord_24 (w : Nat) (u : Sg) : Nat → Int32 → Int32 → Option Int32
  | 0, _, _ => none
  | n + 1, x2, x3 => cnd (x2 = 0) (grd (isB x2) (some x2)) (cnd ((lenW w) ≤ x3) (grd (isB x2) (some x2)) (grd (vp_in ((u 0 10) + x3) 400) (grd (vp_in x3 (wrd w).length) (cnd ((u 5 ((((u 0 10) + x3) : Int32).toNatClampNeg)) = (chW w x3)) (fX12_isWord_60 w (fun a0 a1 => fX12_isWord_24 w u n a0 a1) x3 1 u) (fX12_isWord_60 w (fun a0 a1 => fX12_isWord_24 w u n a0 a1) x3 0 u)))))
noncomputable def fX12_isWord_21 (w : Nat) (t0 : Int32) (u : Sg) : Option Int32 := fX12_isWord_24 w u FU t0 0
noncomputable def fX12_isWord_0 (w : Nat) (u : Sg) : Option Int32 := cnd (((u 0 8) - (u 0 10)) = (lenW w)) (fX12_isWord_21 w 1 u) (fX12_isWord_21 w 0 u)
noncomputable def fX12_isWord (w : Nat) (u : Sg) : Option Int32 := fX12_isWord_0 w u
set_option maxRecDepth 10000 in
set_option maxHeartbeats 4000000 in
theorem wX12_isWord_60 (C : cx D (tyl cI cB cL) A RX12 cX12_isWord 4 (some .boolean) p s m args c meth) (Kx : kx ka kv fv A s s.heap) (w : Nat) (hw : w < 8) (hR : 4 ≤ R.frames ∧ 85 ≤ R.locals) {r : Int32} (u : Sg) {K24 : Int32 → Int32 → Option Int32} (hK24 : ∀ (y2 : Int32) (y3 : Int32) (H : Heap) (locs : List Loc) (ls : Array Slot), lv_has ls 4 [(0, .ref (ad 0)), (1, .ref (ka w)), (2, .int y2), (3, .int y3)] → st D (wM cI cB ad) A s u H locs → K24 y2 y3 = some r → W p l e R s m args below meth c H locs 0 0 (MQ below (qI D (tyl cI cB cL) (wM cI cB ad) A r u) args s 0 0 A) (F0 m 24 ls [])) (x3 : Int32) (t0 : Int32) {H : Heap} {locs : List Loc} {ls : Array Slot} (hl : lv_has ls 4 [(0, .ref (ad 0)), (1, .ref (ka w)), (3, .int x3)]) (S : st D (wM cI cB ad) A s u H locs) (h : fX12_isWord_60 w K24 x3 t0 u = some r) : W p l e R s m args below meth c H locs 0 0 (MQ below (qI D (tyl cI cB cL) (wM cI cB ad) A r u) args s 0 0 A) (F0 m 60 ls [.int t0]) := by
  have hx := C.1
  have hb := C.2.1
  have hsz := hl.1
  unfold fX12_isWord_60 at h
  refine lv_istore_n (lv' := [(2, .int t0), (0, .ref (ad 0)), (1, .ref (ka w)), (3, .int x3)]) hx hb dX12_isWord_60 rfl hl (by decide) rfl (fun ls hl => ?_)
  have hsz := hl.1
  obtain ⟨v9, ev9⟩ : ∃ y : Int32, y = x3 + 1 := ⟨_, rfl⟩
  have h := bnd_of ev9 h
  refine lv_iinc (v := v9) (lv' := [(3, .int v9), (2, .int t0), (0, .ref (ad 0)), (1, .ref (ka w))]) hx hb dX12_isWord_61 hl (k := 3) rfl (by rw [ev9]; rfl) (by decide) rfl (fun ls hl => ?_)
  have hsz := hl.1
  refine lv_goto (tgt := 24) hx hb dX12_isWord_64 (by decide) ?_
  exact hK24 t0 v9 H locs ls (lv_sub hl [2, 3, 1, 0] rfl) S h
set_option maxRecDepth 10000 in
set_option maxHeartbeats 4000000 in
theorem wX12_isWord_24 (C : cx D (tyl cI cB cL) A RX12 cX12_isWord 4 (some .boolean) p s m args c meth) (Kx : kx ka kv fv A s s.heap) (w : Nat) (hw : w < 8) (hR : 4 ≤ R.frames ∧ 85 ≤ R.locals) {r : Int32} (u : Sg) : ∀ (n : Nat) (x2 : Int32) (x3 : Int32) (H : Heap) (locs : List Loc) (ls : Array Slot), lv_has ls 4 [(0, .ref (ad 0)), (1, .ref (ka w)), (2, .int x2), (3, .int x3)] → st D (wM cI cB ad) A s u H locs → fX12_isWord_24 w u n x2 x3 = some r → W p l e R s m args below meth c H locs 0 0 (MQ below (qI D (tyl cI cB cL) (wM cI cB ad) A r u) args s 0 0 A) (F0 m 24 ls []) := by
  have hx := C.1
  have hb := C.2.1
  intro n
  induction n with
  | zero =>
    intro x2 x3 H locs ls hl S h
    cases h
  | succ n ih =>
    intro x2 x3 H locs ls hl S h
    rw [fX12_isWord_24] at h
    have hsz := hl.1
    refine lv_iload_n hx hb dX12_isWord_24 rfl (lv_at hl 2 rfl) ?_
    refine lv_if_eq (tgt := 67) hx hb dX12_isWord_25 (by decide) (fun c2 => ?_) (fun c2 => ?_)
    · have h := cnd_t c2 h
      refine lv_iload_n hx hb dX12_isWord_67 rfl (lv_at hl 2 rfl) ?_
      obtain ⟨g3, h⟩ := grd_some h
      exact q_zret C S (isB_n g3) (rt_R h) dX12_isWord_68
    · have h := cnd_f c2 h
      refine lv_iload_n hx hb dX12_isWord_28 rfl (lv_at hl 3 rfl) ?_
      refine lv_aload_n hx hb dX12_isWord_29 rfl (lv_at hl 1 rfl) ?_
      refine q_callW (As := []) (na := 0) C Kx S hw (ct_length l D cI cB cL ka kv fv w hw) mw_685 ks_i_length ks_s_length ks_n_S ks_c_length (by decide +kernel) ⟨Nat.le_trans (Nat.le_of_ble_eq_true rfl) hR.1, Nat.le_trans (Nat.le_of_ble_eq_true rfl) hR.2⟩ rfl hsz ⟨Nat.zero_le _, Nat.zero_le _⟩ (Nat.le_of_ble_eq_true rfl) dX12_isWord_30 rfl (fun H locs S => ?_)
      refine lv_icmp_ge (tgt := 67) hx hb dX12_isWord_33 (by decide) (fun c4 => ?_) (fun c4 => ?_)
      · have h := cnd_t c4 h
        refine lv_iload_n hx hb dX12_isWord_67 rfl (lv_at hl 2 rfl) ?_
        obtain ⟨g5, h⟩ := grd_some h
        exact q_zret C S (isB_n g5) (rt_R h) dX12_isWord_68
      · have h := cnd_f c4 h
        refine lv_aload_n hx hb dX12_isWord_36 rfl (lv_at hl 0 rfl) ?_
        refine q_get (v := .ref (ad 5)) C S (oM0 cI cB ad) rfl iwX12 6 (by decide) mw_50 rfl dX12_isWord_37 ?_
        refine lv_aload_n hx hb dX12_isWord_40 rfl (lv_at hl 0 rfl) ?_
        refine q_get (v := .int (u 0 10)) C S (oM0 cI cB ad) rfl iwX12 10 (by decide) mw_57 rfl dX12_isWord_41 ?_
        refine lv_iload_n hx hb dX12_isWord_44 rfl (lv_at hl 3 rfl) ?_
        refine lv_iadd hx hb dX12_isWord_45 ?_
        obtain ⟨g6, h⟩ := grd_some h
        refine q_bald C S (aM5 cI cB ad) 1 rfl g6 dX12_isWord_46 (j := (((u 0 10) + x3) : Int32).toNatClampNeg) rfl ?_
        refine lv_aload_n hx hb dX12_isWord_47 rfl (lv_at hl 1 rfl) ?_
        refine lv_iload_n hx hb dX12_isWord_48 rfl (lv_at hl 3 rfl) ?_
        obtain ⟨g7, h⟩ := grd_some h
        refine q_callW (As := [.int x3]) (na := 1) C Kx S hw (ct_charAt l D cI cB cL ka kv fv w hw x3 g7) mw_686 ks_i_charAt ks_s_charAt ks_n_S ks_c_charAt (by decide +kernel) ⟨Nat.le_trans (Nat.le_of_ble_eq_true rfl) hR.1, Nat.le_trans (Nat.le_of_ble_eq_true rfl) hR.2⟩ rfl hsz ⟨Nat.zero_le _, Nat.zero_le _⟩ (Nat.le_of_ble_eq_true rfl) dX12_isWord_49 rfl (fun H locs S => ?_)
        refine lv_icmp_ne (tgt := 59) hx hb dX12_isWord_52 (by decide) (fun c8 => ?_) (fun c8 => ?_)
        · have h := cnd_f c8 h
          refine lv_iconst (v := 0) hx hb dX12_isWord_59 (by decide) ?_
          exact wX12_isWord_60 C Kx w hw hR u ih x3 0 (lv_sub hl [0, 1, 3] rfl) S h
        · have h := cnd_t c8 h
          refine lv_iconst (v := 1) hx hb dX12_isWord_55 (by decide) ?_
          refine lv_goto (tgt := 60) hx hb dX12_isWord_56 (by decide) ?_
          exact wX12_isWord_60 C Kx w hw hR u ih x3 1 (lv_sub hl [0, 1, 3] rfl) S h
set_option maxRecDepth 10000 in
set_option maxHeartbeats 4000000 in
theorem wX12_isWord_21 (C : cx D (tyl cI cB cL) A RX12 cX12_isWord 4 (some .boolean) p s m args c meth) (Kx : kx ka kv fv A s s.heap) (w : Nat) (hw : w < 8) (hR : 4 ≤ R.frames ∧ 85 ≤ R.locals) {r : Int32} (u : Sg) (t0 : Int32) {H : Heap} {locs : List Loc} {ls : Array Slot} (hl : lv_has ls 4 [(0, .ref (ad 0)), (1, .ref (ka w))]) (S : st D (wM cI cB ad) A s u H locs) (h : fX12_isWord_21 w t0 u = some r) : W p l e R s m args below meth c H locs 0 0 (MQ below (qI D (tyl cI cB cL) (wM cI cB ad) A r u) args s 0 0 A) (F0 m 21 ls [.int t0]) := by
  have hx := C.1
  have hb := C.2.1
  have hsz := hl.1
  unfold fX12_isWord_21 at h
  refine lv_istore_n (lv' := [(2, .int t0), (0, .ref (ad 0)), (1, .ref (ka w))]) hx hb dX12_isWord_21 rfl hl (by decide) rfl (fun ls hl => ?_)
  have hsz := hl.1
  refine lv_iconst (v := 0) hx hb dX12_isWord_22 (by decide) ?_
  refine lv_istore_n (lv' := [(3, .int 0), (2, .int t0), (0, .ref (ad 0)), (1, .ref (ka w))]) hx hb dX12_isWord_23 rfl hl (by decide) rfl (fun ls hl => ?_)
  have hsz := hl.1
  exact wX12_isWord_24 C Kx w hw hR u FU t0 0 H locs ls (lv_sub hl [2, 3, 1, 0] rfl) S h
set_option maxRecDepth 10000 in
set_option maxHeartbeats 4000000 in
theorem wX12_isWord_0 (C : cx D (tyl cI cB cL) A RX12 cX12_isWord 4 (some .boolean) p s m args c meth) (Kx : kx ka kv fv A s s.heap) (w : Nat) (hw : w < 8) (hR : 4 ≤ R.frames ∧ 85 ≤ R.locals) {r : Int32} (u : Sg) {H : Heap} {locs : List Loc} {ls : Array Slot} (hl : lv_has ls 4 [(0, .ref (ad 0)), (1, .ref (ka w))]) (S : st D (wM cI cB ad) A s u H locs) (h : fX12_isWord_0 w u = some r) : W p l e R s m args below meth c H locs 0 0 (MQ below (qI D (tyl cI cB cL) (wM cI cB ad) A r u) args s 0 0 A) (F0 m 0 ls []) := by
  have hx := C.1
  have hb := C.2.1
  have hsz := hl.1
  unfold fX12_isWord_0 at h
  refine lv_aload_n hx hb dX12_isWord_0 rfl (lv_at hl 0 rfl) ?_
  refine q_get (v := .int (u 0 8)) C S (oM0 cI cB ad) rfl iwX12 8 (by decide) mw_51 rfl dX12_isWord_1 ?_
  refine lv_aload_n hx hb dX12_isWord_4 rfl (lv_at hl 0 rfl) ?_
  refine q_get (v := .int (u 0 10)) C S (oM0 cI cB ad) rfl iwX12 10 (by decide) mw_57 rfl dX12_isWord_5 ?_
  refine lv_isub hx hb dX12_isWord_8 ?_
  refine lv_aload_n hx hb dX12_isWord_9 rfl (lv_at hl 1 rfl) ?_
  refine q_callW (As := []) (na := 0) C Kx S hw (ct_length l D cI cB cL ka kv fv w hw) mw_685 ks_i_length ks_s_length ks_n_S ks_c_length (by decide +kernel) ⟨Nat.le_trans (Nat.le_of_ble_eq_true rfl) hR.1, Nat.le_trans (Nat.le_of_ble_eq_true rfl) hR.2⟩ rfl hsz ⟨Nat.zero_le _, Nat.zero_le _⟩ (Nat.le_of_ble_eq_true rfl) dX12_isWord_10 rfl (fun H locs S => ?_)
  refine lv_icmp_ne (tgt := 20) hx hb dX12_isWord_13 (by decide) (fun c1 => ?_) (fun c1 => ?_)
  · have h := cnd_f c1 h
    refine lv_iconst (v := 0) hx hb dX12_isWord_20 (by decide) ?_
    exact wX12_isWord_21 C Kx w hw hR u 0 (lv_sub hl [0, 1] rfl) S h
  · have h := cnd_t c1 h
    refine lv_iconst (v := 1) hx hb dX12_isWord_16 (by decide) ?_
    refine lv_goto (tgt := 21) hx hb dX12_isWord_17 (by decide) ?_
    exact wX12_isWord_21 C Kx w hw hR u 1 (lv_sub hl [0, 1] rfl) S h
set_option maxRecDepth 10000 in
set_option maxHeartbeats 4000000 in
theorem ct_X12_isWord (l : Launch) (D : va_G) (cI cB cL : ClassId) (ka kv : Nat → Nat) (fv : Value) (ad : Nat → Nat) (w : Nat) (hw : w < 8) (u : Sg) {r : Int32} (h : fX12_isWord w u = some r) : metIK l D (tyl cI cB cL) ka kv fv yX12_isWord cX12_isWord 4 (some .boolean) 4 85 (wM cI cB ad) [.ref (ad 0), .ref (ka w)] u r u := by
  intro sz
  refine Met.ofW (cc := cX12_isWord) (maxL := 4) (ret := (some .boolean)) (by decide) rfl ?_
  intro p e s m args below meth c s₁ B hml hv
  obtain ⟨rfl, C, S, Kx⟩ := q_entryK B hml hv
  have hl := lv_entry ([.ref (ad 0), .ref (ka w)]) (n := 4) (Nat.le_of_ble_eq_true rfl)
  rw [lg_entry_eq]
  generalize (lg_sl ([.ref (ad 0), .ref (ka w)]) ++ List.replicate (4 - (lg_sl ([.ref (ad 0), .ref (ka w)])).length) Slot.unset).toArray = ls at hl ⊢
  exact wX12_isWord_0 C Kx w hw ⟨Nat.le_refl _, Nat.le_refl _⟩ u (lv_sub hl [0, 1] rfl) S h
noncomputable def fX12_readEvent_145 (u : Sg) : Option (Int32 × Sg) := bnd (s2 u 1 7 ((u 1 7) + 1)) (fun u25 => some (1, u25))
noncomputable def fX12_readEvent_93 (x2 : Int32) (x3 : Int32) (t0 : Int32) (t1 : Int32) (u : Sg) : Option (Int32 × Sg) := grd (vp_in t1 32243) (bnd (s2 u 1 ((t1 : Int32).toNatClampNeg) t0) (fun u15 => grd (vp_in (x2 + 3) 32243) (bnd (s2 u15 1 (((x2 + 3) : Int32).toNatClampNeg) (-1)) (fun u17 => obr (fX12_nodes u17) (fun r19 => obd (fX12_readTo (x2 + 2) 0 (r19 - 1) u17) (fun r21 u22 => cnd (r21 = 0) (some (0, u22)) (cnd (x3 = 0) (fX12_readEvent_145 u22) (obd (fX12_readTo (x2 + 3) 0 ((u22 1 1) - 1) u22) (fun r27 u28 => cnd (r27 = 0) (some (0, u28)) (fX12_readEvent_145 u28))))))))))
noncomputable def fX12_readEvent_77 (x2 : Int32) (x3 : Int32) (u : Sg) : Option (Int32 × Sg) := cnd (x3 = 0) (fX12_readEvent_93 x2 x3 1 (x2 + 1) u) (fX12_readEvent_93 x2 x3 0 (x2 + 1) u)
noncomputable def fX12_readEvent_0 (u : Sg) : Option (Int32 × Sg) := bnd (u 1 7) (fun v1 => cnd (v1 = 8) (some (0, u)) (bnd (1587 + (4 * v1)) (fun v3 => obd (fX12_readTo (v3 + 0) (if 1000 < (u 1 4) then 1000 else (u 1 4)) 999 u) (fun r5 u6 => cnd (r5 = 0) (some (0, u6)) (obr (fX12_letters u6) (fun u9 => obr (fX12_isWord 6 u9) (fun r11 => cnd (r11 = 0) (obr (fX12_isWord 7 u9) (fun r31 => cnd (r31 = 0) (some (0, u9)) (fX12_readEvent_77 v3 r11 u9))) (fX12_readEvent_77 v3 r11 u9))))))))
noncomputable def fX12_readEvent (u : Sg) : Option (Int32 × Sg) := fX12_readEvent_0 u
set_option maxRecDepth 10000 in
set_option maxHeartbeats 4000000 in
theorem wX12_readEvent_145 (C : cx D (tyl cI cB cL) A RX12 cX12_readEvent 4 (some .boolean) p s m args c meth) (Kx : kx ka kv fv A s s.heap) (hR : 5 ≤ R.frames ∧ 108 ≤ R.locals) {r : Int32} {σ' : Sg} (u : Sg) {H : Heap} {locs : List Loc} {ls : Array Slot} (hl : lv_has ls 4 [(0, .ref (ad 0))]) (S : st D (wM cI cB ad) A s u H locs) (h : fX12_readEvent_145 u = some (r, σ')) : W p l e R s m args below meth c H locs 0 0 (MQ below (qI D (tyl cI cB cL) (wM cI cB ad) A r σ') args s 0 0 A) (F0 m 145 ls []) := by
  have hx := C.1
  have hb := C.2.1
  have hsz := hl.1
  unfold fX12_readEvent_145 at h
  refine lv_aload_n hx hb dX12_readEvent_145 rfl (lv_at hl 0 rfl) ?_
  refine q_get (v := .ref (ad 1)) C S (oM0 cI cB ad) rfl iwX12 1 (by decide) mw_14 rfl dX12_readEvent_146 ?_
  refine lv_bipush (v := 7) hx hb dX12_readEvent_149 (by decide) ?_
  refine lv_dup2_11 hx hb dX12_readEvent_151 rfl rfl ?_
  refine q_iald C S (aM1 cI cB ad) 0 rfl (show vp_in 7 32243 by unfold vp_in; decide) dX12_readEvent_152 (j := 7) (by decide) ?_
  refine lv_iconst (v := 1) hx hb dX12_readEvent_153 (by decide) ?_
  refine lv_iadd hx hb dX12_readEvent_154 ?_
  obtain ⟨u25, eu25⟩ : ∃ z : Sg, z = s2 u 1 7 ((u 1 7) + 1) := ⟨_, rfl⟩
  have h := bnd_of eu25 h
  refine q_iast C S (aM1 cI cB ad) 0 rfl (show vp_in 7 32243 by unfold vp_in; decide) dX12_readEvent_155 (j := 7) (by decide) eu25 (fun H locs S => ?_)
  refine lv_iconst (v := 1) hx hb dX12_readEvent_156 (by decide) ?_
  exact q_zret C S rfl (rt_S h) dX12_readEvent_157
set_option maxRecDepth 10000 in
set_option maxHeartbeats 4000000 in
theorem wX12_readEvent_93 (C : cx D (tyl cI cB cL) A RX12 cX12_readEvent 4 (some .boolean) p s m args c meth) (Kx : kx ka kv fv A s s.heap) (hR : 5 ≤ R.frames ∧ 108 ≤ R.locals) {r : Int32} {σ' : Sg} (u : Sg) (x2 : Int32) (x3 : Int32) (t0 : Int32) (t1 : Int32) {H : Heap} {locs : List Loc} {ls : Array Slot} (hl : lv_has ls 4 [(0, .ref (ad 0)), (2, .int x2), (3, .int x3)]) (S : st D (wM cI cB ad) A s u H locs) (h : fX12_readEvent_93 x2 x3 t0 t1 u = some (r, σ')) : W p l e R s m args below meth c H locs 0 0 (MQ below (qI D (tyl cI cB cL) (wM cI cB ad) A r σ') args s 0 0 A) (F0 m 93 ls [.int t0, .int t1, .ref (ad 1)]) := by
  have hx := C.1
  have hb := C.2.1
  have hsz := hl.1
  unfold fX12_readEvent_93 at h
  obtain ⟨g14, h⟩ := grd_some h
  obtain ⟨u15, eu15⟩ : ∃ z : Sg, z = s2 u 1 ((t1 : Int32).toNatClampNeg) t0 := ⟨_, rfl⟩
  have h := bnd_of eu15 h
  refine q_iast C S (aM1 cI cB ad) 0 rfl g14 dX12_readEvent_93 (j := (t1 : Int32).toNatClampNeg) rfl eu15 (fun H locs S => ?_)
  refine lv_aload_n hx hb dX12_readEvent_94 rfl (lv_at hl 0 rfl) ?_
  refine q_get (v := .ref (ad 1)) C S (oM0 cI cB ad) rfl iwX12 1 (by decide) mw_14 rfl dX12_readEvent_95 ?_
  refine lv_iload_n hx hb dX12_readEvent_98 rfl (lv_at hl 1 rfl) ?_
  refine lv_iconst (v := 3) hx hb dX12_readEvent_99 (by decide) ?_
  refine lv_iadd hx hb dX12_readEvent_100 ?_
  refine lv_iconst (v := (-1)) hx hb dX12_readEvent_101 (by decide) ?_
  obtain ⟨g16, h⟩ := grd_some h
  obtain ⟨u17, eu17⟩ : ∃ z : Sg, z = s2 u15 1 (((x2 + 3) : Int32).toNatClampNeg) (-1) := ⟨_, rfl⟩
  have h := bnd_of eu17 h
  refine q_iast C S (aM1 cI cB ad) 0 rfl g16 dX12_readEvent_102 (j := ((x2 + 3) : Int32).toNatClampNeg) rfl eu17 (fun H locs S => ?_)
  refine lv_aload_n hx hb dX12_readEvent_103 rfl (lv_at hl 0 rfl) ?_
  refine lv_iload_n hx hb dX12_readEvent_104 rfl (lv_at hl 1 rfl) ?_
  refine lv_iconst (v := 2) hx hb dX12_readEvent_105 (by decide) ?_
  refine lv_iadd hx hb dX12_readEvent_106 ?_
  refine lv_iconst (v := 0) hx hb dX12_readEvent_107 (by decide) ?_
  refine lv_aload_n hx hb dX12_readEvent_108 rfl (lv_at hl 0 rfl) ?_
  obtain ⟨r19, h18, h⟩ := obr_some h
  refine q_callVi (As := []) (na := 0) C S (oM0 cI cB ad) rfl (ct_X12_nodes l D cI cB cL ad u17 h18) mw_24 mw_23 mw_25 mw_5 mw_22 hdX12_nodes ⟨Nat.le_trans (Nat.le_of_ble_eq_true rfl) hR.1, Nat.le_trans (Nat.le_of_ble_eq_true rfl) hR.2⟩ rfl hsz ⟨Nat.zero_le _, Nat.zero_le _⟩ (Nat.le_of_ble_eq_true rfl) dX12_readEvent_109 rfl (fun H locs S => ?_)
  refine lv_iconst (v := 1) hx hb dX12_readEvent_112 (by decide) ?_
  refine lv_isub hx hb dX12_readEvent_113 ?_
  obtain ⟨r21, u22, h20, h⟩ := obd_some h
  refine q_callVi (As := [.int (x2 + 2), .int 0, .int (r19 - 1)]) (na := 3) C S (oM0 cI cB ad) rfl (ct_X12_readTo l D cI cB cL ad (x2 + 2) 0 (r19 - 1) u17 h20) mw_74 mw_73 mw_75 mw_5 mw_72 hdX12_readTo ⟨Nat.le_trans (Nat.le_of_ble_eq_true rfl) hR.1, Nat.le_trans (Nat.le_of_ble_eq_true rfl) hR.2⟩ rfl hsz ⟨Nat.zero_le _, Nat.zero_le _⟩ (Nat.le_of_ble_eq_true rfl) dX12_readEvent_114 rfl (fun H locs S => ?_)
  refine lv_if_eq (tgt := 143) hx hb dX12_readEvent_117 (by decide) (fun c23 => ?_) (fun c23 => ?_)
  · have h := cnd_t c23 h
    refine lv_iconst (v := 0) hx hb dX12_readEvent_143 (by decide) ?_
    exact q_zret C S rfl (rt_S h) dX12_readEvent_144
  · have h := cnd_f c23 h
    refine lv_iload_n hx hb dX12_readEvent_120 rfl (lv_at hl 2 rfl) ?_
    refine lv_if_eq (tgt := 145) hx hb dX12_readEvent_121 (by decide) (fun c24 => ?_) (fun c24 => ?_)
    · have h := cnd_t c24 h
      exact wX12_readEvent_145 C Kx hR u22 (lv_sub hl [0] rfl) S h
    · have h := cnd_f c24 h
      refine lv_aload_n hx hb dX12_readEvent_124 rfl (lv_at hl 0 rfl) ?_
      refine lv_iload_n hx hb dX12_readEvent_125 rfl (lv_at hl 1 rfl) ?_
      refine lv_iconst (v := 3) hx hb dX12_readEvent_126 (by decide) ?_
      refine lv_iadd hx hb dX12_readEvent_127 ?_
      refine lv_iconst (v := 0) hx hb dX12_readEvent_128 (by decide) ?_
      refine lv_aload_n hx hb dX12_readEvent_129 rfl (lv_at hl 0 rfl) ?_
      refine q_get (v := .ref (ad 1)) C S (oM0 cI cB ad) rfl iwX12 1 (by decide) mw_14 rfl dX12_readEvent_130 ?_
      refine lv_iconst (v := 1) hx hb dX12_readEvent_133 (by decide) ?_
      refine q_iald C S (aM1 cI cB ad) 0 rfl (show vp_in 1 32243 by unfold vp_in; decide) dX12_readEvent_134 (j := 1) (by decide) ?_
      refine lv_iconst (v := 1) hx hb dX12_readEvent_135 (by decide) ?_
      refine lv_isub hx hb dX12_readEvent_136 ?_
      obtain ⟨r27, u28, h26, h⟩ := obd_some h
      refine q_callVi (As := [.int (x2 + 3), .int 0, .int ((u22 1 1) - 1)]) (na := 3) C S (oM0 cI cB ad) rfl (ct_X12_readTo l D cI cB cL ad (x2 + 3) 0 ((u22 1 1) - 1) u22 h26) mw_74 mw_73 mw_75 mw_5 mw_72 hdX12_readTo ⟨Nat.le_trans (Nat.le_of_ble_eq_true rfl) hR.1, Nat.le_trans (Nat.le_of_ble_eq_true rfl) hR.2⟩ rfl hsz ⟨Nat.zero_le _, Nat.zero_le _⟩ (Nat.le_of_ble_eq_true rfl) dX12_readEvent_137 rfl (fun H locs S => ?_)
      refine lv_if_ne (tgt := 145) hx hb dX12_readEvent_140 (by decide) (fun c29 => ?_) (fun c29 => ?_)
      · have h := cnd_f c29 h
        exact wX12_readEvent_145 C Kx hR u28 (lv_sub hl [0] rfl) S h
      · have h := cnd_t c29 h
        refine lv_iconst (v := 0) hx hb dX12_readEvent_143 (by decide) ?_
        exact q_zret C S rfl (rt_S h) dX12_readEvent_144
set_option maxRecDepth 10000 in
set_option maxHeartbeats 4000000 in
theorem wX12_readEvent_77 (C : cx D (tyl cI cB cL) A RX12 cX12_readEvent 4 (some .boolean) p s m args c meth) (Kx : kx ka kv fv A s s.heap) (hR : 5 ≤ R.frames ∧ 108 ≤ R.locals) {r : Int32} {σ' : Sg} (u : Sg) (x2 : Int32) (x3 : Int32) {H : Heap} {locs : List Loc} {ls : Array Slot} (hl : lv_has ls 4 [(0, .ref (ad 0)), (2, .int x2), (3, .int x3)]) (S : st D (wM cI cB ad) A s u H locs) (h : fX12_readEvent_77 x2 x3 u = some (r, σ')) : W p l e R s m args below meth c H locs 0 0 (MQ below (qI D (tyl cI cB cL) (wM cI cB ad) A r σ') args s 0 0 A) (F0 m 77 ls []) := by
  have hx := C.1
  have hb := C.2.1
  have hsz := hl.1
  unfold fX12_readEvent_77 at h
  refine lv_aload_n hx hb dX12_readEvent_77 rfl (lv_at hl 0 rfl) ?_
  refine q_get (v := .ref (ad 1)) C S (oM0 cI cB ad) rfl iwX12 1 (by decide) mw_14 rfl dX12_readEvent_78 ?_
  refine lv_iload_n hx hb dX12_readEvent_81 rfl (lv_at hl 1 rfl) ?_
  refine lv_iconst (v := 1) hx hb dX12_readEvent_82 (by decide) ?_
  refine lv_iadd hx hb dX12_readEvent_83 ?_
  refine lv_iload_n hx hb dX12_readEvent_84 rfl (lv_at hl 2 rfl) ?_
  refine lv_if_eq (tgt := 92) hx hb dX12_readEvent_85 (by decide) (fun c13 => ?_) (fun c13 => ?_)
  · have h := cnd_t c13 h
    refine lv_iconst (v := 1) hx hb dX12_readEvent_92 (by decide) ?_
    exact wX12_readEvent_93 C Kx hR u x2 x3 1 (x2 + 1) (lv_sub hl [0, 1, 2] rfl) S h
  · have h := cnd_f c13 h
    refine lv_iconst (v := 0) hx hb dX12_readEvent_88 (by decide) ?_
    refine lv_goto (tgt := 93) hx hb dX12_readEvent_89 (by decide) ?_
    exact wX12_readEvent_93 C Kx hR u x2 x3 0 (x2 + 1) (lv_sub hl [0, 1, 2] rfl) S h
set_option maxRecDepth 10000 in
set_option maxHeartbeats 4000000 in
theorem wX12_readEvent_0 (C : cx D (tyl cI cB cL) A RX12 cX12_readEvent 4 (some .boolean) p s m args c meth) (Kx : kx ka kv fv A s s.heap) (hR : 5 ≤ R.frames ∧ 108 ≤ R.locals) {r : Int32} {σ' : Sg} (u : Sg) {H : Heap} {locs : List Loc} {ls : Array Slot} (hl : lv_has ls 4 [(0, .ref (ad 0))]) (S : st D (wM cI cB ad) A s u H locs) (h : fX12_readEvent_0 u = some (r, σ')) : W p l e R s m args below meth c H locs 0 0 (MQ below (qI D (tyl cI cB cL) (wM cI cB ad) A r σ') args s 0 0 A) (F0 m 0 ls []) := by
  have hx := C.1
  have hb := C.2.1
  have hsz := hl.1
  unfold fX12_readEvent_0 at h
  refine lv_aload_n hx hb dX12_readEvent_0 rfl (lv_at hl 0 rfl) ?_
  refine q_get (v := .ref (ad 1)) C S (oM0 cI cB ad) rfl iwX12 1 (by decide) mw_14 rfl dX12_readEvent_1 ?_
  refine lv_bipush (v := 7) hx hb dX12_readEvent_4 (by decide) ?_
  refine q_iald C S (aM1 cI cB ad) 0 rfl (show vp_in 7 32243 by unfold vp_in; decide) dX12_readEvent_6 (j := 7) (by decide) ?_
  refine lv_topi (fun v1 ev1 => ?_)
  have h := bnd_of ev1 h
  refine lv_istore_n (lv' := [(1, .int v1), (0, .ref (ad 0))]) hx hb dX12_readEvent_7 rfl hl (by decide) rfl (fun ls hl => ?_)
  have hsz := hl.1
  refine lv_iload_n hx hb dX12_readEvent_8 rfl (lv_at hl 0 rfl) ?_
  refine lv_bipush (v := 8) hx hb dX12_readEvent_9 (by decide) ?_
  refine lv_icmp_ne (tgt := 16) hx hb dX12_readEvent_11 (by decide) (fun c2 => ?_) (fun c2 => ?_)
  · have h := cnd_f c2 h
    refine lv_sipush (v := 1587) hx hb dX12_readEvent_16 (by decide) ?_
    refine lv_iconst (v := 4) hx hb dX12_readEvent_19 (by decide) ?_
    refine lv_iload_n hx hb dX12_readEvent_20 rfl (lv_at hl 0 rfl) ?_
    refine lv_imul hx hb dX12_readEvent_21 ?_
    refine lv_iadd hx hb dX12_readEvent_22 ?_
    refine lv_topi (fun v3 ev3 => ?_)
    have h := bnd_of ev3 h
    refine lv_istore_n (lv' := [(2, .int v3), (1, .int v1), (0, .ref (ad 0))]) hx hb dX12_readEvent_23 rfl hl (by decide) rfl (fun ls hl => ?_)
    have hsz := hl.1
    refine lv_aload_n hx hb dX12_readEvent_24 rfl (lv_at hl 2 rfl) ?_
    refine lv_iload_n hx hb dX12_readEvent_25 rfl (lv_at hl 0 rfl) ?_
    refine lv_iconst (v := 0) hx hb dX12_readEvent_26 (by decide) ?_
    refine lv_iadd hx hb dX12_readEvent_27 ?_
    refine lv_aload_n hx hb dX12_readEvent_28 rfl (lv_at hl 2 rfl) ?_
    refine q_get (v := .ref (ad 1)) C S (oM0 cI cB ad) rfl iwX12 1 (by decide) mw_14 rfl dX12_readEvent_29 ?_
    refine lv_iconst (v := 4) hx hb dX12_readEvent_32 (by decide) ?_
    refine q_iald C S (aM1 cI cB ad) 0 rfl (show vp_in 4 32243 by unfold vp_in; decide) dX12_readEvent_33 (j := 4) (by decide) ?_
    refine lv_sipush (v := 1000) hx hb dX12_readEvent_34 (by decide) ?_
    refine q_mmin C mw_105 mw_106 mw_92 mw_107 ⟨Nat.le_trans (Nat.le_of_ble_eq_true rfl) hR.1, Nat.le_trans (Nat.le_of_ble_eq_true rfl) hR.2⟩ hsz ⟨Nat.zero_le _, Nat.zero_le _⟩ (Nat.le_of_ble_eq_true rfl) dX12_readEvent_37 ?_
    refine lv_sipush (v := 999) hx hb dX12_readEvent_40 (by decide) ?_
    obtain ⟨r5, u6, h4, h⟩ := obd_some h
    refine q_callVi (As := [.int (v3 + 0), .int (if 1000 < (u 1 4) then 1000 else (u 1 4)), .int 999]) (na := 3) C S (oM0 cI cB ad) rfl (ct_X12_readTo l D cI cB cL ad (v3 + 0) (if 1000 < (u 1 4) then 1000 else (u 1 4)) 999 u h4) mw_74 mw_73 mw_75 mw_5 mw_72 hdX12_readTo ⟨Nat.le_trans (Nat.le_of_ble_eq_true rfl) hR.1, Nat.le_trans (Nat.le_of_ble_eq_true rfl) hR.2⟩ rfl hsz ⟨Nat.zero_le _, Nat.zero_le _⟩ (Nat.le_of_ble_eq_true rfl) dX12_readEvent_43 rfl (fun H locs S => ?_)
    refine lv_if_ne (tgt := 51) hx hb dX12_readEvent_46 (by decide) (fun c7 => ?_) (fun c7 => ?_)
    · have h := cnd_f c7 h
      refine lv_aload_n hx hb dX12_readEvent_51 rfl (lv_at hl 2 rfl) ?_
      obtain ⟨u9, h8, h⟩ := obr_some h
      refine q_callVv (As := []) (na := 0) C S (oM0 cI cB ad) rfl (ct_X12_letters l D cI cB cL ad u6 h8) mw_689 mw_688 mw_690 mw_5 mw_687 hdX12_letters ⟨Nat.le_trans (Nat.le_of_ble_eq_true rfl) hR.1, Nat.le_trans (Nat.le_of_ble_eq_true rfl) hR.2⟩ rfl hsz ⟨Nat.zero_le _, Nat.zero_le _⟩ (Nat.le_of_ble_eq_true rfl) dX12_readEvent_52 rfl (fun H locs S => ?_)
      refine lv_aload_n hx hb dX12_readEvent_55 rfl (lv_at hl 2 rfl) ?_
      refine va_ldcS hx hb C.2.2.2.1 (kst_33 Kx) dX12_readEvent_56 ?_
      obtain ⟨r11, h10, h⟩ := obr_some h
      refine q_callViK (As := [.ref (ka 6)]) (na := 1) C Kx S (oM0 cI cB ad) rfl (ct_X12_isWord l D cI cB cL ka kv fv ad 6 (by decide) u9 h10) mw_693 mw_692 mw_694 mw_5 mw_691 hdX12_isWord ⟨Nat.le_trans (Nat.le_of_ble_eq_true rfl) hR.1, Nat.le_trans (Nat.le_of_ble_eq_true rfl) hR.2⟩ rfl hsz ⟨Nat.zero_le _, Nat.zero_le _⟩ (Nat.le_of_ble_eq_true rfl) dX12_readEvent_58 rfl (fun H locs S => ?_)
      refine lv_istore_n (lv' := [(3, .int r11), (2, .int v3), (1, .int v1), (0, .ref (ad 0))]) hx hb dX12_readEvent_61 rfl hl (by decide) rfl (fun ls hl => ?_)
      have hsz := hl.1
      refine lv_iload_n hx hb dX12_readEvent_62 rfl (lv_at hl 0 rfl) ?_
      refine lv_if_ne (tgt := 77) hx hb dX12_readEvent_63 (by decide) (fun c12 => ?_) (fun c12 => ?_)
      · have h := cnd_f c12 h
        exact wX12_readEvent_77 C Kx hR u9 v3 r11 (lv_sub hl [3, 1, 0] rfl) S h
      · have h := cnd_t c12 h
        refine lv_aload_n hx hb dX12_readEvent_66 rfl (lv_at hl 3 rfl) ?_
        refine va_ldcS hx hb C.2.2.2.1 (kst_34 Kx) dX12_readEvent_67 ?_
        obtain ⟨r31, h30, h⟩ := obr_some h
        refine q_callViK (As := [.ref (ka 7)]) (na := 1) C Kx S (oM0 cI cB ad) rfl (ct_X12_isWord l D cI cB cL ka kv fv ad 7 (by decide) u9 h30) mw_693 mw_692 mw_694 mw_5 mw_691 hdX12_isWord ⟨Nat.le_trans (Nat.le_of_ble_eq_true rfl) hR.1, Nat.le_trans (Nat.le_of_ble_eq_true rfl) hR.2⟩ rfl hsz ⟨Nat.zero_le _, Nat.zero_le _⟩ (Nat.le_of_ble_eq_true rfl) dX12_readEvent_69 rfl (fun H locs S => ?_)
        refine lv_if_ne (tgt := 77) hx hb dX12_readEvent_72 (by decide) (fun c32 => ?_) (fun c32 => ?_)
        · have h := cnd_f c32 h
          exact wX12_readEvent_77 C Kx hR u9 v3 r11 (lv_sub hl [3, 1, 0] rfl) S h
        · have h := cnd_t c32 h
          refine lv_iconst (v := 0) hx hb dX12_readEvent_75 (by decide) ?_
          exact q_zret C S rfl (rt_S h) dX12_readEvent_76
    · have h := cnd_t c7 h
      refine lv_iconst (v := 0) hx hb dX12_readEvent_49 (by decide) ?_
      exact q_zret C S rfl (rt_S h) dX12_readEvent_50
  · have h := cnd_t c2 h
    refine lv_iconst (v := 0) hx hb dX12_readEvent_14 (by decide) ?_
    exact q_zret C S rfl (rt_S h) dX12_readEvent_15
set_option maxRecDepth 10000 in
set_option maxHeartbeats 4000000 in
theorem ct_X12_readEvent (l : Launch) (D : va_G) (cI cB cL : ClassId) (ka kv : Nat → Nat) (fv : Value) (ad : Nat → Nat) (u : Sg) {r : Int32} {σ' : Sg} (h : fX12_readEvent u = some (r, σ')) : metIK l D (tyl cI cB cL) ka kv fv yX12_readEvent cX12_readEvent 4 (some .boolean) 5 108 (wM cI cB ad) [.ref (ad 0)] u r σ' := by
  intro sz
  refine Met.ofW (cc := cX12_readEvent) (maxL := 4) (ret := (some .boolean)) (by decide) rfl ?_
  intro p e s m args below meth c s₁ B hml hv
  obtain ⟨rfl, C, S, Kx⟩ := q_entryK B hml hv
  have hl := lv_entry ([.ref (ad 0)]) (n := 4) (Nat.le_of_ble_eq_true rfl)
  rw [lg_entry_eq]
  generalize (lg_sl ([.ref (ad 0)]) ++ List.replicate (4 - (lg_sl ([.ref (ad 0)])).length) Slot.unset).toArray = ls at hl ⊢
  exact wX12_readEvent_0 C Kx ⟨Nat.le_refl _, Nat.le_refl _⟩ u (lv_sub hl [0] rfl) S h
noncomputable def fX12_readLine_0 (u : Sg) : Option (Int32 × Sg) := obr (fX12_isWord 0 u) (fun r2 => cnd (r2 = 0) (obr (fX12_isWord 1 u) (fun r5 => cnd (r5 = 0) (obr (fX12_isWord 2 u) (fun r8 => cnd (r8 = 0) (obr (fX12_isWord 3 u) (fun r11 => cnd (r11 = 0) (obr (fX12_isWord 4 u) (fun r14 => cnd (r14 = 0) (obr (fX12_isWord 5 u) (fun r17 => cnd (r17 = 0) (some (0, u)) (obd (fX12_readEvent u) (fun r20 u21 => cnd (r20 = 0) (some (0, u21)) (some (1, u21)))))) (obd (fX12_readTo 6 0 20 u) (fun r24 u25 => grd (isB r24) (some (r24, u25)))))) (obd (fX12_readTo 5 0 5 u) (fun r28 u29 => grd (isB r28) (some (r28, u29)))))) (obd (fX12_readDelay u) (fun r32 u33 => grd (isB r32) (some (r32, u33)))))) (obd (fX12_readGroup u) (fun r36 u37 => grd (isB r36) (some (r36, u37)))))) (obd (fX12_readNodes u) (fun r40 u41 => grd (isB r40) (some (r40, u41)))))
noncomputable def fX12_readLine (u : Sg) : Option (Int32 × Sg) := fX12_readLine_0 u
set_option maxRecDepth 10000 in
set_option maxHeartbeats 4000000 in
theorem wX12_readLine_0 (C : cx D (tyl cI cB cL) A RX12 cX12_readLine 1 (some .boolean) p s m args c meth) (Kx : kx ka kv fv A s s.heap) (hR : 6 ≤ R.frames ∧ 131 ≤ R.locals) {r : Int32} {σ' : Sg} (u : Sg) {H : Heap} {locs : List Loc} {ls : Array Slot} (hl : lv_has ls 1 [(0, .ref (ad 0))]) (S : st D (wM cI cB ad) A s u H locs) (h : fX12_readLine_0 u = some (r, σ')) : W p l e R s m args below meth c H locs 0 0 (MQ below (qI D (tyl cI cB cL) (wM cI cB ad) A r σ') args s 0 0 A) (F0 m 0 ls []) := by
  have hx := C.1
  have hb := C.2.1
  have hsz := hl.1
  unfold fX12_readLine_0 at h
  refine lv_aload_n hx hb dX12_readLine_0 rfl (lv_at hl 0 rfl) ?_
  refine va_ldcS hx hb C.2.2.2.1 (kst_27 Kx) dX12_readLine_1 ?_
  obtain ⟨r2, h1, h⟩ := obr_some h
  refine q_callViK (As := [.ref (ka 0)]) (na := 1) C Kx S (oM0 cI cB ad) rfl (ct_X12_isWord l D cI cB cL ka kv fv ad 0 (by decide) u h1) mw_693 mw_692 mw_694 mw_5 mw_691 hdX12_isWord ⟨Nat.le_trans (Nat.le_of_ble_eq_true rfl) hR.1, Nat.le_trans (Nat.le_of_ble_eq_true rfl) hR.2⟩ rfl hsz ⟨Nat.zero_le _, Nat.zero_le _⟩ (Nat.le_of_ble_eq_true rfl) dX12_readLine_3 rfl (fun H locs S => ?_)
  refine lv_if_eq (tgt := 14) hx hb dX12_readLine_6 (by decide) (fun c3 => ?_) (fun c3 => ?_)
  · have h := cnd_t c3 h
    refine lv_aload_n hx hb dX12_readLine_14 rfl (lv_at hl 0 rfl) ?_
    refine va_ldcS hx hb C.2.2.2.1 (kst_28 Kx) dX12_readLine_15 ?_
    obtain ⟨r5, h4, h⟩ := obr_some h
    refine q_callViK (As := [.ref (ka 1)]) (na := 1) C Kx S (oM0 cI cB ad) rfl (ct_X12_isWord l D cI cB cL ka kv fv ad 1 (by decide) u h4) mw_693 mw_692 mw_694 mw_5 mw_691 hdX12_isWord ⟨Nat.le_trans (Nat.le_of_ble_eq_true rfl) hR.1, Nat.le_trans (Nat.le_of_ble_eq_true rfl) hR.2⟩ rfl hsz ⟨Nat.zero_le _, Nat.zero_le _⟩ (Nat.le_of_ble_eq_true rfl) dX12_readLine_17 rfl (fun H locs S => ?_)
    refine lv_if_eq (tgt := 28) hx hb dX12_readLine_20 (by decide) (fun c6 => ?_) (fun c6 => ?_)
    · have h := cnd_t c6 h
      refine lv_aload_n hx hb dX12_readLine_28 rfl (lv_at hl 0 rfl) ?_
      refine va_ldcS hx hb C.2.2.2.1 (kst_29 Kx) dX12_readLine_29 ?_
      obtain ⟨r8, h7, h⟩ := obr_some h
      refine q_callViK (As := [.ref (ka 2)]) (na := 1) C Kx S (oM0 cI cB ad) rfl (ct_X12_isWord l D cI cB cL ka kv fv ad 2 (by decide) u h7) mw_693 mw_692 mw_694 mw_5 mw_691 hdX12_isWord ⟨Nat.le_trans (Nat.le_of_ble_eq_true rfl) hR.1, Nat.le_trans (Nat.le_of_ble_eq_true rfl) hR.2⟩ rfl hsz ⟨Nat.zero_le _, Nat.zero_le _⟩ (Nat.le_of_ble_eq_true rfl) dX12_readLine_31 rfl (fun H locs S => ?_)
      refine lv_if_eq (tgt := 42) hx hb dX12_readLine_34 (by decide) (fun c9 => ?_) (fun c9 => ?_)
      · have h := cnd_t c9 h
        refine lv_aload_n hx hb dX12_readLine_42 rfl (lv_at hl 0 rfl) ?_
        refine va_ldcS hx hb C.2.2.2.1 (kst_30 Kx) dX12_readLine_43 ?_
        obtain ⟨r11, h10, h⟩ := obr_some h
        refine q_callViK (As := [.ref (ka 3)]) (na := 1) C Kx S (oM0 cI cB ad) rfl (ct_X12_isWord l D cI cB cL ka kv fv ad 3 (by decide) u h10) mw_693 mw_692 mw_694 mw_5 mw_691 hdX12_isWord ⟨Nat.le_trans (Nat.le_of_ble_eq_true rfl) hR.1, Nat.le_trans (Nat.le_of_ble_eq_true rfl) hR.2⟩ rfl hsz ⟨Nat.zero_le _, Nat.zero_le _⟩ (Nat.le_of_ble_eq_true rfl) dX12_readLine_45 rfl (fun H locs S => ?_)
        refine lv_if_eq (tgt := 59) hx hb dX12_readLine_48 (by decide) (fun c12 => ?_) (fun c12 => ?_)
        · have h := cnd_t c12 h
          refine lv_aload_n hx hb dX12_readLine_59 rfl (lv_at hl 0 rfl) ?_
          refine va_ldcS hx hb C.2.2.2.1 (kst_31 Kx) dX12_readLine_60 ?_
          obtain ⟨r14, h13, h⟩ := obr_some h
          refine q_callViK (As := [.ref (ka 4)]) (na := 1) C Kx S (oM0 cI cB ad) rfl (ct_X12_isWord l D cI cB cL ka kv fv ad 4 (by decide) u h13) mw_693 mw_692 mw_694 mw_5 mw_691 hdX12_isWord ⟨Nat.le_trans (Nat.le_of_ble_eq_true rfl) hR.1, Nat.le_trans (Nat.le_of_ble_eq_true rfl) hR.2⟩ rfl hsz ⟨Nat.zero_le _, Nat.zero_le _⟩ (Nat.le_of_ble_eq_true rfl) dX12_readLine_62 rfl (fun H locs S => ?_)
          refine lv_if_eq (tgt := 78) hx hb dX12_readLine_65 (by decide) (fun c15 => ?_) (fun c15 => ?_)
          · have h := cnd_t c15 h
            refine lv_aload_n hx hb dX12_readLine_78 rfl (lv_at hl 0 rfl) ?_
            refine va_ldcS hx hb C.2.2.2.1 (kst_32 Kx) dX12_readLine_79 ?_
            obtain ⟨r17, h16, h⟩ := obr_some h
            refine q_callViK (As := [.ref (ka 5)]) (na := 1) C Kx S (oM0 cI cB ad) rfl (ct_X12_isWord l D cI cB cL ka kv fv ad 5 (by decide) u h16) mw_693 mw_692 mw_694 mw_5 mw_691 hdX12_isWord ⟨Nat.le_trans (Nat.le_of_ble_eq_true rfl) hR.1, Nat.le_trans (Nat.le_of_ble_eq_true rfl) hR.2⟩ rfl hsz ⟨Nat.zero_le _, Nat.zero_le _⟩ (Nat.le_of_ble_eq_true rfl) dX12_readLine_81 rfl (fun H locs S => ?_)
            refine lv_if_eq (tgt := 98) hx hb dX12_readLine_84 (by decide) (fun c18 => ?_) (fun c18 => ?_)
            · have h := cnd_t c18 h
              refine lv_iconst (v := 0) hx hb dX12_readLine_98 (by decide) ?_
              exact q_zret C S rfl (rt_S h) dX12_readLine_99
            · have h := cnd_f c18 h
              refine lv_aload_n hx hb dX12_readLine_87 rfl (lv_at hl 0 rfl) ?_
              obtain ⟨r20, u21, h19, h⟩ := obd_some h
              refine q_callViK (As := []) (na := 0) C Kx S (oM0 cI cB ad) rfl (ct_X12_readEvent l D cI cB cL ka kv fv ad u h19) mw_697 mw_696 mw_698 mw_5 mw_695 hdX12_readEvent ⟨Nat.le_trans (Nat.le_of_ble_eq_true rfl) hR.1, Nat.le_trans (Nat.le_of_ble_eq_true rfl) hR.2⟩ rfl hsz ⟨Nat.zero_le _, Nat.zero_le _⟩ (Nat.le_of_ble_eq_true rfl) dX12_readLine_88 rfl (fun H locs S => ?_)
              refine lv_if_eq (tgt := 98) hx hb dX12_readLine_91 (by decide) (fun c22 => ?_) (fun c22 => ?_)
              · have h := cnd_t c22 h
                refine lv_iconst (v := 0) hx hb dX12_readLine_98 (by decide) ?_
                exact q_zret C S rfl (rt_S h) dX12_readLine_99
              · have h := cnd_f c22 h
                refine lv_iconst (v := 1) hx hb dX12_readLine_94 (by decide) ?_
                refine lv_goto (tgt := 99) hx hb dX12_readLine_95 (by decide) ?_
                exact q_zret C S rfl (rt_S h) dX12_readLine_99
          · have h := cnd_f c15 h
            refine lv_aload_n hx hb dX12_readLine_68 rfl (lv_at hl 0 rfl) ?_
            refine lv_bipush (v := 6) hx hb dX12_readLine_69 (by decide) ?_
            refine lv_iconst (v := 0) hx hb dX12_readLine_71 (by decide) ?_
            refine lv_bipush (v := 20) hx hb dX12_readLine_72 (by decide) ?_
            obtain ⟨r24, u25, h23, h⟩ := obd_some h
            refine q_callVi (As := [.int 6, .int 0, .int 20]) (na := 3) C S (oM0 cI cB ad) rfl (ct_X12_readTo l D cI cB cL ad 6 0 20 u h23) mw_74 mw_73 mw_75 mw_5 mw_72 hdX12_readTo ⟨Nat.le_trans (Nat.le_of_ble_eq_true rfl) hR.1, Nat.le_trans (Nat.le_of_ble_eq_true rfl) hR.2⟩ rfl hsz ⟨Nat.zero_le _, Nat.zero_le _⟩ (Nat.le_of_ble_eq_true rfl) dX12_readLine_74 rfl (fun H locs S => ?_)
            obtain ⟨g26, h⟩ := grd_some h
            exact q_zret C S (isB_n g26) (rt_S h) dX12_readLine_77
        · have h := cnd_f c12 h
          refine lv_aload_n hx hb dX12_readLine_51 rfl (lv_at hl 0 rfl) ?_
          refine lv_iconst (v := 5) hx hb dX12_readLine_52 (by decide) ?_
          refine lv_iconst (v := 0) hx hb dX12_readLine_53 (by decide) ?_
          refine lv_iconst (v := 5) hx hb dX12_readLine_54 (by decide) ?_
          obtain ⟨r28, u29, h27, h⟩ := obd_some h
          refine q_callVi (As := [.int 5, .int 0, .int 5]) (na := 3) C S (oM0 cI cB ad) rfl (ct_X12_readTo l D cI cB cL ad 5 0 5 u h27) mw_74 mw_73 mw_75 mw_5 mw_72 hdX12_readTo ⟨Nat.le_trans (Nat.le_of_ble_eq_true rfl) hR.1, Nat.le_trans (Nat.le_of_ble_eq_true rfl) hR.2⟩ rfl hsz ⟨Nat.zero_le _, Nat.zero_le _⟩ (Nat.le_of_ble_eq_true rfl) dX12_readLine_55 rfl (fun H locs S => ?_)
          obtain ⟨g30, h⟩ := grd_some h
          exact q_zret C S (isB_n g30) (rt_S h) dX12_readLine_58
      · have h := cnd_f c9 h
        refine lv_aload_n hx hb dX12_readLine_37 rfl (lv_at hl 0 rfl) ?_
        obtain ⟨r32, u33, h31, h⟩ := obd_some h
        refine q_callVi (As := []) (na := 0) C S (oM0 cI cB ad) rfl (ct_X12_readDelay l D cI cB cL ad u h31) mw_701 mw_700 mw_702 mw_5 mw_699 hdX12_readDelay ⟨Nat.le_trans (Nat.le_of_ble_eq_true rfl) hR.1, Nat.le_trans (Nat.le_of_ble_eq_true rfl) hR.2⟩ rfl hsz ⟨Nat.zero_le _, Nat.zero_le _⟩ (Nat.le_of_ble_eq_true rfl) dX12_readLine_38 rfl (fun H locs S => ?_)
        obtain ⟨g34, h⟩ := grd_some h
        exact q_zret C S (isB_n g34) (rt_S h) dX12_readLine_41
    · have h := cnd_f c6 h
      refine lv_aload_n hx hb dX12_readLine_23 rfl (lv_at hl 0 rfl) ?_
      obtain ⟨r36, u37, h35, h⟩ := obd_some h
      refine q_callVi (As := []) (na := 0) C S (oM0 cI cB ad) rfl (ct_X12_readGroup l D cI cB cL ad u h35) mw_705 mw_704 mw_706 mw_5 mw_703 hdX12_readGroup ⟨Nat.le_trans (Nat.le_of_ble_eq_true rfl) hR.1, Nat.le_trans (Nat.le_of_ble_eq_true rfl) hR.2⟩ rfl hsz ⟨Nat.zero_le _, Nat.zero_le _⟩ (Nat.le_of_ble_eq_true rfl) dX12_readLine_24 rfl (fun H locs S => ?_)
      obtain ⟨g38, h⟩ := grd_some h
      exact q_zret C S (isB_n g38) (rt_S h) dX12_readLine_27
  · have h := cnd_f c3 h
    refine lv_aload_n hx hb dX12_readLine_9 rfl (lv_at hl 0 rfl) ?_
    obtain ⟨r40, u41, h39, h⟩ := obd_some h
    refine q_callVi (As := []) (na := 0) C S (oM0 cI cB ad) rfl (ct_X12_readNodes l D cI cB cL ad u h39) mw_709 mw_708 mw_710 mw_5 mw_707 hdX12_readNodes ⟨Nat.le_trans (Nat.le_of_ble_eq_true rfl) hR.1, Nat.le_trans (Nat.le_of_ble_eq_true rfl) hR.2⟩ rfl hsz ⟨Nat.zero_le _, Nat.zero_le _⟩ (Nat.le_of_ble_eq_true rfl) dX12_readLine_10 rfl (fun H locs S => ?_)
    obtain ⟨g42, h⟩ := grd_some h
    exact q_zret C S (isB_n g42) (rt_S h) dX12_readLine_13
set_option maxRecDepth 10000 in
set_option maxHeartbeats 4000000 in
theorem ct_X12_readLine (l : Launch) (D : va_G) (cI cB cL : ClassId) (ka kv : Nat → Nat) (fv : Value) (ad : Nat → Nat) (u : Sg) {r : Int32} {σ' : Sg} (h : fX12_readLine u = some (r, σ')) : metIK l D (tyl cI cB cL) ka kv fv yX12_readLine cX12_readLine 1 (some .boolean) 6 131 (wM cI cB ad) [.ref (ad 0)] u r σ' := by
  intro sz
  refine Met.ofW (cc := cX12_readLine) (maxL := 1) (ret := (some .boolean)) (by decide) rfl ?_
  intro p e s m args below meth c s₁ B hml hv
  obtain ⟨rfl, C, S, Kx⟩ := q_entryK B hml hv
  have hl := lv_entry ([.ref (ad 0)]) (n := 1) (Nat.le_of_ble_eq_true rfl)
  rw [lg_entry_eq]
  generalize (lg_sl ([.ref (ad 0)]) ++ List.replicate (1 - (lg_sl ([.ref (ad 0)])).length) Slot.unset).toArray = ls at hl ⊢
  exact wX12_readLine_0 C Kx ⟨Nat.le_refl _, Nat.le_refl _⟩ u (lv_sub hl [0] rfl) S h
noncomputable def fX12_readNet_19 : Nat → Int32 → Sg → Option (Int32 × Sg)
  | 0, _, _ => none
  | n + 1, x1, u => obr (fX12_letters u) (fun u5 => bnd (s2 u5 0 13 x1) (fun u6 => cnd (x1 = 14) (some (0, u6)) (obd (fX12_readLine u6) (fun r9 u10 => cnd (r9 = 0) (some (0, u10)) (obr (fX12_blanks u10) (fun u13 => cnd ((u13 0 8) = (u13 0 9)) (some (1, u13)) (obr (fX12_isAt 59 59 u13) (fun r16 => cnd (r16 = 0) (some (0, u13)) (bnd (s2 u13 0 8 ((u13 0 8) + 1)) (fun u18 => bnd (x1 + 1) (fun v19 => fX12_readNet_19 n v19 u18)))))))))))
noncomputable def fX12_readNet_0 (u : Sg) : Option (Int32 × Sg) := obr (fX12_blanks u) (fun u2 => cnd ((u2 0 8) = (u2 0 9)) (some (1, u2)) (fX12_readNet_19 FU 0 u2))
noncomputable def fX12_readNet (u : Sg) : Option (Int32 × Sg) := fX12_readNet_0 u
set_option maxRecDepth 10000 in
set_option maxHeartbeats 4000000 in
theorem wX12_readNet_19 (C : cx D (tyl cI cB cL) A RX12 cX12_readNet 2 (some .boolean) p s m args c meth) (Kx : kx ka kv fv A s s.heap) (hR : 7 ≤ R.frames ∧ 151 ≤ R.locals) {r : Int32} {σ' : Sg} : ∀ (n : Nat) (x1 : Int32) (u : Sg) (H : Heap) (locs : List Loc) (ls : Array Slot), lv_has ls 2 [(0, .ref (ad 0)), (1, .int x1)] → st D (wM cI cB ad) A s u H locs → fX12_readNet_19 n x1 u = some (r, σ') → W p l e R s m args below meth c H locs 0 0 (MQ below (qI D (tyl cI cB cL) (wM cI cB ad) A r σ') args s 0 0 A) (F0 m 19 ls []) := by
  have hx := C.1
  have hb := C.2.1
  intro n
  induction n with
  | zero =>
    intro x1 u H locs ls hl S h
    cases h
  | succ n ih =>
    intro x1 u H locs ls hl S h
    rw [fX12_readNet_19] at h
    have hsz := hl.1
    refine lv_aload_n hx hb dX12_readNet_19 rfl (lv_at hl 0 rfl) ?_
    obtain ⟨u5, h4, h⟩ := obr_some h
    refine q_callVv (As := []) (na := 0) C S (oM0 cI cB ad) rfl (ct_X12_letters l D cI cB cL ad u h4) mw_689 mw_688 mw_690 mw_5 mw_687 hdX12_letters ⟨Nat.le_trans (Nat.le_of_ble_eq_true rfl) hR.1, Nat.le_trans (Nat.le_of_ble_eq_true rfl) hR.2⟩ rfl hsz ⟨Nat.zero_le _, Nat.zero_le _⟩ (Nat.le_of_ble_eq_true rfl) dX12_readNet_20 rfl (fun H locs S => ?_)
    refine lv_aload_n hx hb dX12_readNet_23 rfl (lv_at hl 0 rfl) ?_
    refine lv_iload_n hx hb dX12_readNet_24 rfl (lv_at hl 1 rfl) ?_
    obtain ⟨u6, eu6⟩ : ∃ z : Sg, z = s2 u5 0 13 x1 := ⟨_, rfl⟩
    have h := bnd_of eu6 h
    refine q_put C S (oM0 cI cB ad) rfl iwX12 tyX12 tyX12_ok nmX12 13 (by decide) mw_67 rfl (iM0_13 cI cB ad) rfl rfl dX12_readNet_25 eu6 (fun H locs S => ?_)
    refine lv_iload_n hx hb dX12_readNet_28 rfl (lv_at hl 1 rfl) ?_
    refine lv_bipush (v := 14) hx hb dX12_readNet_29 (by decide) ?_
    refine lv_icmp_eq (tgt := 41) hx hb dX12_readNet_31 (by decide) (fun c7 => ?_) (fun c7 => ?_)
    · have h := cnd_t c7 h
      refine lv_iconst (v := 0) hx hb dX12_readNet_41 (by decide) ?_
      exact q_zret C S rfl (rt_S h) dX12_readNet_42
    · have h := cnd_f c7 h
      refine lv_aload_n hx hb dX12_readNet_34 rfl (lv_at hl 0 rfl) ?_
      obtain ⟨r9, u10, h8, h⟩ := obd_some h
      refine q_callViK (As := []) (na := 0) C Kx S (oM0 cI cB ad) rfl (ct_X12_readLine l D cI cB cL ka kv fv ad u6 h8) mw_713 mw_712 mw_714 mw_5 mw_711 hdX12_readLine ⟨Nat.le_trans (Nat.le_of_ble_eq_true rfl) hR.1, Nat.le_trans (Nat.le_of_ble_eq_true rfl) hR.2⟩ rfl hsz ⟨Nat.zero_le _, Nat.zero_le _⟩ (Nat.le_of_ble_eq_true rfl) dX12_readNet_35 rfl (fun H locs S => ?_)
      refine lv_if_ne (tgt := 43) hx hb dX12_readNet_38 (by decide) (fun c11 => ?_) (fun c11 => ?_)
      · have h := cnd_f c11 h
        refine lv_aload_n hx hb dX12_readNet_43 rfl (lv_at hl 0 rfl) ?_
        obtain ⟨u13, h12, h⟩ := obr_some h
        refine q_callVv (As := []) (na := 0) C S (oM0 cI cB ad) rfl (ct_X12_blanks l D cI cB cL ad u10 h12) mw_60 mw_59 mw_61 mw_5 mw_58 hdX12_blanks ⟨Nat.le_trans (Nat.le_of_ble_eq_true rfl) hR.1, Nat.le_trans (Nat.le_of_ble_eq_true rfl) hR.2⟩ rfl hsz ⟨Nat.zero_le _, Nat.zero_le _⟩ (Nat.le_of_ble_eq_true rfl) dX12_readNet_44 rfl (fun H locs S => ?_)
        refine lv_aload_n hx hb dX12_readNet_47 rfl (lv_at hl 0 rfl) ?_
        refine q_get (v := .int (u13 0 8)) C S (oM0 cI cB ad) rfl iwX12 8 (by decide) mw_51 rfl dX12_readNet_48 ?_
        refine lv_aload_n hx hb dX12_readNet_51 rfl (lv_at hl 0 rfl) ?_
        refine q_get (v := .int (u13 0 9)) C S (oM0 cI cB ad) rfl iwX12 9 (by decide) mw_52 rfl dX12_readNet_52 ?_
        refine lv_icmp_ne (tgt := 60) hx hb dX12_readNet_55 (by decide) (fun c14 => ?_) (fun c14 => ?_)
        · have h := cnd_f c14 h
          refine lv_aload_n hx hb dX12_readNet_60 rfl (lv_at hl 0 rfl) ?_
          refine lv_bipush (v := 59) hx hb dX12_readNet_61 (by decide) ?_
          refine lv_bipush (v := 59) hx hb dX12_readNet_63 (by decide) ?_
          obtain ⟨r16, h15, h⟩ := obr_some h
          refine q_callVi (As := [.int 59, .int 59]) (na := 2) C S (oM0 cI cB ad) rfl (ct_X12_isAt l D cI cB cL ad 59 59 u13 h15) mw_55 mw_54 mw_56 mw_5 mw_53 hdX12_isAt ⟨Nat.le_trans (Nat.le_of_ble_eq_true rfl) hR.1, Nat.le_trans (Nat.le_of_ble_eq_true rfl) hR.2⟩ rfl hsz ⟨Nat.zero_le _, Nat.zero_le _⟩ (Nat.le_of_ble_eq_true rfl) dX12_readNet_65 rfl (fun H locs S => ?_)
          refine lv_if_ne (tgt := 73) hx hb dX12_readNet_68 (by decide) (fun c17 => ?_) (fun c17 => ?_)
          · have h := cnd_f c17 h
            refine lv_aload_n hx hb dX12_readNet_73 rfl (lv_at hl 0 rfl) ?_
            refine lv_dup hx hb dX12_readNet_74 rfl ?_
            refine q_get (v := .int (u13 0 8)) C S (oM0 cI cB ad) rfl iwX12 8 (by decide) mw_51 rfl dX12_readNet_75 ?_
            refine lv_iconst (v := 1) hx hb dX12_readNet_78 (by decide) ?_
            refine lv_iadd hx hb dX12_readNet_79 ?_
            obtain ⟨u18, eu18⟩ : ∃ z : Sg, z = s2 u13 0 8 ((u13 0 8) + 1) := ⟨_, rfl⟩
            have h := bnd_of eu18 h
            refine q_put C S (oM0 cI cB ad) rfl iwX12 tyX12 tyX12_ok nmX12 8 (by decide) mw_51 rfl (iM0_8 cI cB ad) rfl rfl dX12_readNet_80 eu18 (fun H locs S => ?_)
            obtain ⟨v19, ev19⟩ : ∃ y : Int32, y = x1 + 1 := ⟨_, rfl⟩
            have h := bnd_of ev19 h
            refine lv_iinc (v := v19) (lv' := [(1, .int v19), (0, .ref (ad 0))]) hx hb dX12_readNet_83 hl (k := 1) rfl (by rw [ev19]; rfl) (by decide) rfl (fun ls hl => ?_)
            have hsz := hl.1
            refine lv_goto (tgt := 19) hx hb dX12_readNet_86 (by decide) ?_
            exact ih v19 u18 H locs ls (lv_sub hl [1, 0] rfl) S h
          · have h := cnd_t c17 h
            refine lv_iconst (v := 0) hx hb dX12_readNet_71 (by decide) ?_
            exact q_zret C S rfl (rt_S h) dX12_readNet_72
        · have h := cnd_t c14 h
          refine lv_iconst (v := 1) hx hb dX12_readNet_58 (by decide) ?_
          exact q_zret C S rfl (rt_S h) dX12_readNet_59
      · have h := cnd_t c11 h
        refine lv_iconst (v := 0) hx hb dX12_readNet_41 (by decide) ?_
        exact q_zret C S rfl (rt_S h) dX12_readNet_42
set_option maxRecDepth 10000 in
set_option maxHeartbeats 4000000 in
theorem wX12_readNet_0 (C : cx D (tyl cI cB cL) A RX12 cX12_readNet 2 (some .boolean) p s m args c meth) (Kx : kx ka kv fv A s s.heap) (hR : 7 ≤ R.frames ∧ 151 ≤ R.locals) {r : Int32} {σ' : Sg} (u : Sg) {H : Heap} {locs : List Loc} {ls : Array Slot} (hl : lv_has ls 2 [(0, .ref (ad 0))]) (S : st D (wM cI cB ad) A s u H locs) (h : fX12_readNet_0 u = some (r, σ')) : W p l e R s m args below meth c H locs 0 0 (MQ below (qI D (tyl cI cB cL) (wM cI cB ad) A r σ') args s 0 0 A) (F0 m 0 ls []) := by
  have hx := C.1
  have hb := C.2.1
  have hsz := hl.1
  unfold fX12_readNet_0 at h
  refine lv_aload_n hx hb dX12_readNet_0 rfl (lv_at hl 0 rfl) ?_
  obtain ⟨u2, h1, h⟩ := obr_some h
  refine q_callVv (As := []) (na := 0) C S (oM0 cI cB ad) rfl (ct_X12_blanks l D cI cB cL ad u h1) mw_60 mw_59 mw_61 mw_5 mw_58 hdX12_blanks ⟨Nat.le_trans (Nat.le_of_ble_eq_true rfl) hR.1, Nat.le_trans (Nat.le_of_ble_eq_true rfl) hR.2⟩ rfl hsz ⟨Nat.zero_le _, Nat.zero_le _⟩ (Nat.le_of_ble_eq_true rfl) dX12_readNet_1 rfl (fun H locs S => ?_)
  refine lv_aload_n hx hb dX12_readNet_4 rfl (lv_at hl 0 rfl) ?_
  refine q_get (v := .int (u2 0 8)) C S (oM0 cI cB ad) rfl iwX12 8 (by decide) mw_51 rfl dX12_readNet_5 ?_
  refine lv_aload_n hx hb dX12_readNet_8 rfl (lv_at hl 0 rfl) ?_
  refine q_get (v := .int (u2 0 9)) C S (oM0 cI cB ad) rfl iwX12 9 (by decide) mw_52 rfl dX12_readNet_9 ?_
  refine lv_icmp_ne (tgt := 17) hx hb dX12_readNet_12 (by decide) (fun c3 => ?_) (fun c3 => ?_)
  · have h := cnd_f c3 h
    refine lv_iconst (v := 0) hx hb dX12_readNet_17 (by decide) ?_
    refine lv_istore_n (lv' := [(1, .int 0), (0, .ref (ad 0))]) hx hb dX12_readNet_18 rfl hl (by decide) rfl (fun ls hl => ?_)
    have hsz := hl.1
    exact wX12_readNet_19 C Kx hR FU 0 u2 H locs ls (lv_sub hl [1, 0] rfl) S h
  · have h := cnd_t c3 h
    refine lv_iconst (v := 1) hx hb dX12_readNet_15 (by decide) ?_
    exact q_zret C S rfl (rt_S h) dX12_readNet_16
set_option maxRecDepth 10000 in
set_option maxHeartbeats 4000000 in
theorem ct_X12_readNet (l : Launch) (D : va_G) (cI cB cL : ClassId) (ka kv : Nat → Nat) (fv : Value) (ad : Nat → Nat) (u : Sg) {r : Int32} {σ' : Sg} (h : fX12_readNet u = some (r, σ')) : metIK l D (tyl cI cB cL) ka kv fv yX12_readNet cX12_readNet 2 (some .boolean) 7 151 (wM cI cB ad) [.ref (ad 0)] u r σ' := by
  intro sz
  refine Met.ofW (cc := cX12_readNet) (maxL := 2) (ret := (some .boolean)) (by decide) rfl ?_
  intro p e s m args below meth c s₁ B hml hv
  obtain ⟨rfl, C, S, Kx⟩ := q_entryK B hml hv
  have hl := lv_entry ([.ref (ad 0)]) (n := 2) (Nat.le_of_ble_eq_true rfl)
  rw [lg_entry_eq]
  generalize (lg_sl ([.ref (ad 0)]) ++ List.replicate (2 - (lg_sl ([.ref (ad 0)])).length) Slot.unset).toArray = ls at hl ⊢
  exact wX12_readNet_0 C Kx ⟨Nat.le_refl _, Nat.le_refl _⟩ u (lv_sub hl [0] rfl) S h
noncomputable def fX12_net_114 : Nat → Int32 → Sg → Option (Int32 × Sg)
  | 0, _, _ => none
  | n + 1, x2, u => cnd (32243 ≤ x2) (some (0, u)) (grd (vp_in x2 32243) (grd (vp_in x2 32243) (bnd (s2 u 1 ((x2 : Int32).toNatClampNeg) (u 3 ((x2 : Int32).toNatClampNeg))) (fun u19 => bnd (x2 + 1) (fun v20 => fX12_net_114 n v20 u19)))))
noncomputable def fX12_net_112 (u : Sg) : Option (Int32 × Sg) := fX12_net_114 FU 0 u
noncomputable def fX12_net_105 (t0 : Int32) (u : Sg) : Option (Int32 × Sg) := obd (fX12_throwsIf t0 2 u) (fun r23 u24 => cnd (r23 = 0) (bnd (s2 u24 1 2 ((u24 1 2) + 1)) (fun u26 => some ((u26 1 2), u26))) (fX12_net_112 u24))
noncomputable def fX12_net_81 (t0 : Int32) (u : Sg) : Option (Int32 × Sg) := obd (fX12_throwsIf t0 1 u) (fun r13 u14 => cnd (r13 = 0) (cnd ((u14 1 2) = 12) (fX12_net_105 1 u14) (fX12_net_105 0 u14)) (fX12_net_112 u14))
noncomputable def fX12_net_68 (x1 : Int32) (t0 : Int32) (u : Sg) : Option (Int32 × Sg) := bnd (s2 u 0 11 t0) (fun u10 => cnd (x1 = 0) (fX12_net_81 1 u10) (fX12_net_81 0 u10))
noncomputable def fX12_net_25 : Nat → Int32 → Sg → Option (Int32 × Sg)
  | 0, _, _ => none
  | n + 1, x1, u => cnd (32243 ≤ x1) (obd (fX12_readNet u) (fun r7 u8 => cnd (r7 = 0) (fX12_net_68 r7 (u8 0 10) u8) (fX12_net_68 r7 (-1) u8))) (grd (vp_in x1 32243) (grd (vp_in x1 32243) (bnd (s2 u 3 ((x1 : Int32).toNatClampNeg) (u 1 ((x1 : Int32).toNatClampNeg))) (fun u29 => bnd (x1 + 1) (fun v30 => fX12_net_25 n v30 u29)))))
noncomputable def fX12_net_0 (u : Sg) : Option (Int32 × Sg) := bnd (s2 u 0 0 0) (fun u1 => bnd (s2 u1 0 9 (u1 0 7)) (fun u2 => bnd (s2 u2 0 7 0) (fun u3 => bnd (s2 u3 0 8 0) (fun u4 => fX12_net_25 FU 0 u4))))
noncomputable def fX12_net (u : Sg) : Option (Int32 × Sg) := fX12_net_0 u
set_option maxRecDepth 10000 in
set_option maxHeartbeats 4000000 in
theorem wX12_net_114 (C : cx D (tyl cI cB cL) A RX12 cX12_net 3 (some .int) p s m args c meth) (Kx : kx ka kv fv A s s.heap) (hR : 8 ≤ R.frames ∧ 172 ≤ R.locals) {r : Int32} {σ' : Sg} : ∀ (n : Nat) (x2 : Int32) (u : Sg) (H : Heap) (locs : List Loc) (ls : Array Slot), lv_has ls 3 [(0, .ref (ad 0)), (2, .int x2)] → st D (wM cI cB ad) A s u H locs → fX12_net_114 n x2 u = some (r, σ') → W p l e R s m args below meth c H locs 0 0 (MQ below (qI D (tyl cI cB cL) (wM cI cB ad) A r σ') args s 0 0 A) (F0 m 114 ls []) := by
  have hx := C.1
  have hb := C.2.1
  intro n
  induction n with
  | zero =>
    intro x2 u H locs ls hl S h
    cases h
  | succ n ih =>
    intro x2 u H locs ls hl S h
    rw [fX12_net_114] at h
    have hsz := hl.1
    refine lv_iload_n hx hb dX12_net_114 rfl (lv_at hl 1 rfl) ?_
    refine lv_sipush (v := 32243) hx hb dX12_net_115 (by decide) ?_
    refine lv_icmp_ge (tgt := 139) hx hb dX12_net_118 (by decide) (fun c16 => ?_) (fun c16 => ?_)
    · have h := cnd_t c16 h
      refine lv_iconst (v := 0) hx hb dX12_net_139 (by decide) ?_
      exact q_iret C S (rt_S h) dX12_net_140
    · have h := cnd_f c16 h
      refine lv_aload_n hx hb dX12_net_121 rfl (lv_at hl 0 rfl) ?_
      refine q_get (v := .ref (ad 1)) C S (oM0 cI cB ad) rfl iwX12 1 (by decide) mw_14 rfl dX12_net_122 ?_
      refine lv_iload_n hx hb dX12_net_125 rfl (lv_at hl 1 rfl) ?_
      refine lv_aload_n hx hb dX12_net_126 rfl (lv_at hl 0 rfl) ?_
      refine q_get (v := .ref (ad 3)) C S (oM0 cI cB ad) rfl iwX12 3 (by decide) mw_719 rfl dX12_net_127 ?_
      refine lv_iload_n hx hb dX12_net_130 rfl (lv_at hl 1 rfl) ?_
      obtain ⟨g17, h⟩ := grd_some h
      refine q_iald C S (aM3 cI cB ad) 0 rfl g17 dX12_net_131 (j := (x2 : Int32).toNatClampNeg) rfl ?_
      obtain ⟨g18, h⟩ := grd_some h
      obtain ⟨u19, eu19⟩ : ∃ z : Sg, z = s2 u 1 ((x2 : Int32).toNatClampNeg) (u 3 ((x2 : Int32).toNatClampNeg)) := ⟨_, rfl⟩
      have h := bnd_of eu19 h
      refine q_iast C S (aM1 cI cB ad) 0 rfl g18 dX12_net_132 (j := (x2 : Int32).toNatClampNeg) rfl eu19 (fun H locs S => ?_)
      obtain ⟨v20, ev20⟩ : ∃ y : Int32, y = x2 + 1 := ⟨_, rfl⟩
      have h := bnd_of ev20 h
      refine lv_iinc (v := v20) (lv' := [(2, .int v20), (0, .ref (ad 0))]) hx hb dX12_net_133 hl (k := 1) rfl (by rw [ev20]; rfl) (by decide) rfl (fun ls hl => ?_)
      have hsz := hl.1
      refine lv_goto (tgt := 114) hx hb dX12_net_136 (by decide) ?_
      exact ih v20 u19 H locs ls (lv_sub hl [1, 0] rfl) S h
set_option maxRecDepth 10000 in
set_option maxHeartbeats 4000000 in
theorem wX12_net_112 (C : cx D (tyl cI cB cL) A RX12 cX12_net 3 (some .int) p s m args c meth) (Kx : kx ka kv fv A s s.heap) (hR : 8 ≤ R.frames ∧ 172 ≤ R.locals) {r : Int32} {σ' : Sg} (u : Sg) {H : Heap} {locs : List Loc} {ls : Array Slot} (hl : lv_has ls 3 [(0, .ref (ad 0))]) (S : st D (wM cI cB ad) A s u H locs) (h : fX12_net_112 u = some (r, σ')) : W p l e R s m args below meth c H locs 0 0 (MQ below (qI D (tyl cI cB cL) (wM cI cB ad) A r σ') args s 0 0 A) (F0 m 112 ls []) := by
  have hx := C.1
  have hb := C.2.1
  have hsz := hl.1
  unfold fX12_net_112 at h
  refine lv_iconst (v := 0) hx hb dX12_net_112 (by decide) ?_
  refine lv_istore_n (lv' := [(2, .int 0), (0, .ref (ad 0))]) hx hb dX12_net_113 rfl hl (by decide) rfl (fun ls hl => ?_)
  have hsz := hl.1
  exact wX12_net_114 C Kx hR FU 0 u H locs ls (lv_sub hl [1, 0] rfl) S h
set_option maxRecDepth 10000 in
set_option maxHeartbeats 4000000 in
theorem wX12_net_105 (C : cx D (tyl cI cB cL) A RX12 cX12_net 3 (some .int) p s m args c meth) (Kx : kx ka kv fv A s s.heap) (hR : 8 ≤ R.frames ∧ 172 ≤ R.locals) {r : Int32} {σ' : Sg} (u : Sg) (t0 : Int32) {H : Heap} {locs : List Loc} {ls : Array Slot} (hl : lv_has ls 3 [(0, .ref (ad 0))]) (S : st D (wM cI cB ad) A s u H locs) (h : fX12_net_105 t0 u = some (r, σ')) : W p l e R s m args below meth c H locs 0 0 (MQ below (qI D (tyl cI cB cL) (wM cI cB ad) A r σ') args s 0 0 A) (F0 m 105 ls [.int t0, .ref (ad 0)]) := by
  have hx := C.1
  have hb := C.2.1
  have hsz := hl.1
  unfold fX12_net_105 at h
  refine lv_iconst (v := 2) hx hb dX12_net_105 (by decide) ?_
  obtain ⟨r23, u24, h22, h⟩ := obd_some h
  refine q_callVi (As := [.int t0, .int 2]) (na := 2) C S (oM0 cI cB ad) rfl (ct_X12_throwsIf l D cI cB cL ad t0 2 u h22) mw_210 mw_209 mw_211 mw_5 mw_208 hdX12_throwsIf ⟨Nat.le_trans (Nat.le_of_ble_eq_true rfl) hR.1, Nat.le_trans (Nat.le_of_ble_eq_true rfl) hR.2⟩ rfl hsz ⟨Nat.zero_le _, Nat.zero_le _⟩ (Nat.le_of_ble_eq_true rfl) dX12_net_106 rfl (fun H locs S => ?_)
  refine lv_if_eq (tgt := 141) hx hb dX12_net_109 (by decide) (fun c25 => ?_) (fun c25 => ?_)
  · have h := cnd_t c25 h
    refine lv_aload_n hx hb dX12_net_141 rfl (lv_at hl 0 rfl) ?_
    refine q_get (v := .ref (ad 1)) C S (oM0 cI cB ad) rfl iwX12 1 (by decide) mw_14 rfl dX12_net_142 ?_
    refine lv_iconst (v := 2) hx hb dX12_net_145 (by decide) ?_
    refine lv_dup2_11 hx hb dX12_net_146 rfl rfl ?_
    refine q_iald C S (aM1 cI cB ad) 0 rfl (show vp_in 2 32243 by unfold vp_in; decide) dX12_net_147 (j := 2) (by decide) ?_
    refine lv_iconst (v := 1) hx hb dX12_net_148 (by decide) ?_
    refine lv_iadd hx hb dX12_net_149 ?_
    obtain ⟨u26, eu26⟩ : ∃ z : Sg, z = s2 u24 1 2 ((u24 1 2) + 1) := ⟨_, rfl⟩
    have h := bnd_of eu26 h
    refine q_iast C S (aM1 cI cB ad) 0 rfl (show vp_in 2 32243 by unfold vp_in; decide) dX12_net_150 (j := 2) (by decide) eu26 (fun H locs S => ?_)
    refine lv_aload_n hx hb dX12_net_151 rfl (lv_at hl 0 rfl) ?_
    refine q_get (v := .ref (ad 1)) C S (oM0 cI cB ad) rfl iwX12 1 (by decide) mw_14 rfl dX12_net_152 ?_
    refine lv_iconst (v := 2) hx hb dX12_net_155 (by decide) ?_
    refine q_iald C S (aM1 cI cB ad) 0 rfl (show vp_in 2 32243 by unfold vp_in; decide) dX12_net_156 (j := 2) (by decide) ?_
    exact q_iret C S (rt_S h) dX12_net_157
  · have h := cnd_f c25 h
    exact wX12_net_112 C Kx hR u24 (lv_sub hl [0] rfl) S h
set_option maxRecDepth 10000 in
set_option maxHeartbeats 4000000 in
theorem wX12_net_81 (C : cx D (tyl cI cB cL) A RX12 cX12_net 3 (some .int) p s m args c meth) (Kx : kx ka kv fv A s s.heap) (hR : 8 ≤ R.frames ∧ 172 ≤ R.locals) {r : Int32} {σ' : Sg} (u : Sg) (t0 : Int32) {H : Heap} {locs : List Loc} {ls : Array Slot} (hl : lv_has ls 3 [(0, .ref (ad 0))]) (S : st D (wM cI cB ad) A s u H locs) (h : fX12_net_81 t0 u = some (r, σ')) : W p l e R s m args below meth c H locs 0 0 (MQ below (qI D (tyl cI cB cL) (wM cI cB ad) A r σ') args s 0 0 A) (F0 m 81 ls [.int t0, .ref (ad 0)]) := by
  have hx := C.1
  have hb := C.2.1
  have hsz := hl.1
  unfold fX12_net_81 at h
  refine lv_iconst (v := 1) hx hb dX12_net_81 (by decide) ?_
  obtain ⟨r13, u14, h12, h⟩ := obd_some h
  refine q_callVi (As := [.int t0, .int 1]) (na := 2) C S (oM0 cI cB ad) rfl (ct_X12_throwsIf l D cI cB cL ad t0 1 u h12) mw_210 mw_209 mw_211 mw_5 mw_208 hdX12_throwsIf ⟨Nat.le_trans (Nat.le_of_ble_eq_true rfl) hR.1, Nat.le_trans (Nat.le_of_ble_eq_true rfl) hR.2⟩ rfl hsz ⟨Nat.zero_le _, Nat.zero_le _⟩ (Nat.le_of_ble_eq_true rfl) dX12_net_82 rfl (fun H locs S => ?_)
  refine lv_if_ne (tgt := 112) hx hb dX12_net_85 (by decide) (fun c15 => ?_) (fun c15 => ?_)
  · have h := cnd_f c15 h
    exact wX12_net_112 C Kx hR u14 (lv_sub hl [0] rfl) S h
  · have h := cnd_t c15 h
    refine lv_aload_n hx hb dX12_net_88 rfl (lv_at hl 0 rfl) ?_
    refine lv_aload_n hx hb dX12_net_89 rfl (lv_at hl 0 rfl) ?_
    refine q_get (v := .ref (ad 1)) C S (oM0 cI cB ad) rfl iwX12 1 (by decide) mw_14 rfl dX12_net_90 ?_
    refine lv_iconst (v := 2) hx hb dX12_net_93 (by decide) ?_
    refine q_iald C S (aM1 cI cB ad) 0 rfl (show vp_in 2 32243 by unfold vp_in; decide) dX12_net_94 (j := 2) (by decide) ?_
    refine lv_bipush (v := 12) hx hb dX12_net_95 (by decide) ?_
    refine lv_icmp_ne (tgt := 104) hx hb dX12_net_97 (by decide) (fun c21 => ?_) (fun c21 => ?_)
    · have h := cnd_f c21 h
      refine lv_iconst (v := 0) hx hb dX12_net_104 (by decide) ?_
      exact wX12_net_105 C Kx hR u14 0 (lv_sub hl [0] rfl) S h
    · have h := cnd_t c21 h
      refine lv_iconst (v := 1) hx hb dX12_net_100 (by decide) ?_
      refine lv_goto (tgt := 105) hx hb dX12_net_101 (by decide) ?_
      exact wX12_net_105 C Kx hR u14 1 (lv_sub hl [0] rfl) S h
set_option maxRecDepth 10000 in
set_option maxHeartbeats 4000000 in
theorem wX12_net_68 (C : cx D (tyl cI cB cL) A RX12 cX12_net 3 (some .int) p s m args c meth) (Kx : kx ka kv fv A s s.heap) (hR : 8 ≤ R.frames ∧ 172 ≤ R.locals) {r : Int32} {σ' : Sg} (u : Sg) (x1 : Int32) (t0 : Int32) {H : Heap} {locs : List Loc} {ls : Array Slot} (hl : lv_has ls 3 [(0, .ref (ad 0)), (1, .int x1)]) (S : st D (wM cI cB ad) A s u H locs) (h : fX12_net_68 x1 t0 u = some (r, σ')) : W p l e R s m args below meth c H locs 0 0 (MQ below (qI D (tyl cI cB cL) (wM cI cB ad) A r σ') args s 0 0 A) (F0 m 68 ls [.int t0, .ref (ad 0)]) := by
  have hx := C.1
  have hb := C.2.1
  have hsz := hl.1
  unfold fX12_net_68 at h
  obtain ⟨u10, eu10⟩ : ∃ z : Sg, z = s2 u 0 11 t0 := ⟨_, rfl⟩
  have h := bnd_of eu10 h
  refine q_put C S (oM0 cI cB ad) rfl iwX12 tyX12 tyX12_ok nmX12 11 (by decide) mw_66 rfl (iM0_11 cI cB ad) rfl rfl dX12_net_68 eu10 (fun H locs S => ?_)
  refine lv_aload_n hx hb dX12_net_71 rfl (lv_at hl 0 rfl) ?_
  refine lv_iload_n hx hb dX12_net_72 rfl (lv_at hl 1 rfl) ?_
  refine lv_if_ne (tgt := 80) hx hb dX12_net_73 (by decide) (fun c11 => ?_) (fun c11 => ?_)
  · have h := cnd_f c11 h
    refine lv_iconst (v := 0) hx hb dX12_net_80 (by decide) ?_
    exact wX12_net_81 C Kx hR u10 0 (lv_sub hl [0] rfl) S h
  · have h := cnd_t c11 h
    refine lv_iconst (v := 1) hx hb dX12_net_76 (by decide) ?_
    refine lv_goto (tgt := 81) hx hb dX12_net_77 (by decide) ?_
    exact wX12_net_81 C Kx hR u10 1 (lv_sub hl [0] rfl) S h
set_option maxRecDepth 10000 in
set_option maxHeartbeats 4000000 in
theorem wX12_net_25 (C : cx D (tyl cI cB cL) A RX12 cX12_net 3 (some .int) p s m args c meth) (Kx : kx ka kv fv A s s.heap) (hR : 8 ≤ R.frames ∧ 172 ≤ R.locals) {r : Int32} {σ' : Sg} : ∀ (n : Nat) (x1 : Int32) (u : Sg) (H : Heap) (locs : List Loc) (ls : Array Slot), lv_has ls 3 [(0, .ref (ad 0)), (1, .int x1)] → st D (wM cI cB ad) A s u H locs → fX12_net_25 n x1 u = some (r, σ') → W p l e R s m args below meth c H locs 0 0 (MQ below (qI D (tyl cI cB cL) (wM cI cB ad) A r σ') args s 0 0 A) (F0 m 25 ls []) := by
  have hx := C.1
  have hb := C.2.1
  intro n
  induction n with
  | zero =>
    intro x1 u H locs ls hl S h
    cases h
  | succ n ih =>
    intro x1 u H locs ls hl S h
    rw [fX12_net_25] at h
    have hsz := hl.1
    refine lv_iload_n hx hb dX12_net_25 rfl (lv_at hl 1 rfl) ?_
    refine lv_sipush (v := 32243) hx hb dX12_net_26 (by decide) ?_
    refine lv_icmp_ge (tgt := 50) hx hb dX12_net_29 (by decide) (fun c5 => ?_) (fun c5 => ?_)
    · have h := cnd_t c5 h
      refine lv_aload_n hx hb dX12_net_50 rfl (lv_at hl 0 rfl) ?_
      obtain ⟨r7, u8, h6, h⟩ := obd_some h
      refine q_callViK (As := []) (na := 0) C Kx S (oM0 cI cB ad) rfl (ct_X12_readNet l D cI cB cL ka kv fv ad u h6) mw_717 mw_716 mw_718 mw_5 mw_715 hdX12_readNet ⟨Nat.le_trans (Nat.le_of_ble_eq_true rfl) hR.1, Nat.le_trans (Nat.le_of_ble_eq_true rfl) hR.2⟩ rfl hsz ⟨Nat.zero_le _, Nat.zero_le _⟩ (Nat.le_of_ble_eq_true rfl) dX12_net_51 rfl (fun H locs S => ?_)
      refine lv_istore_n (lv' := [(1, .int r7), (0, .ref (ad 0))]) hx hb dX12_net_54 rfl hl (by decide) rfl (fun ls hl => ?_)
      have hsz := hl.1
      refine lv_aload_n hx hb dX12_net_55 rfl (lv_at hl 1 rfl) ?_
      refine lv_iload_n hx hb dX12_net_56 rfl (lv_at hl 0 rfl) ?_
      refine lv_if_eq (tgt := 64) hx hb dX12_net_57 (by decide) (fun c9 => ?_) (fun c9 => ?_)
      · have h := cnd_t c9 h
        refine lv_aload_n hx hb dX12_net_64 rfl (lv_at hl 1 rfl) ?_
        refine q_get (v := .int (u8 0 10)) C S (oM0 cI cB ad) rfl iwX12 10 (by decide) mw_57 rfl dX12_net_65 ?_
        exact wX12_net_68 C Kx hR u8 r7 (u8 0 10) (lv_sub hl [1, 0] rfl) S h
      · have h := cnd_f c9 h
        refine lv_iconst (v := (-1)) hx hb dX12_net_60 (by decide) ?_
        refine lv_goto (tgt := 68) hx hb dX12_net_61 (by decide) ?_
        exact wX12_net_68 C Kx hR u8 r7 (-1) (lv_sub hl [1, 0] rfl) S h
    · have h := cnd_f c5 h
      refine lv_aload_n hx hb dX12_net_32 rfl (lv_at hl 0 rfl) ?_
      refine q_get (v := .ref (ad 3)) C S (oM0 cI cB ad) rfl iwX12 3 (by decide) mw_719 rfl dX12_net_33 ?_
      refine lv_iload_n hx hb dX12_net_36 rfl (lv_at hl 1 rfl) ?_
      refine lv_aload_n hx hb dX12_net_37 rfl (lv_at hl 0 rfl) ?_
      refine q_get (v := .ref (ad 1)) C S (oM0 cI cB ad) rfl iwX12 1 (by decide) mw_14 rfl dX12_net_38 ?_
      refine lv_iload_n hx hb dX12_net_41 rfl (lv_at hl 1 rfl) ?_
      obtain ⟨g27, h⟩ := grd_some h
      refine q_iald C S (aM1 cI cB ad) 0 rfl g27 dX12_net_42 (j := (x1 : Int32).toNatClampNeg) rfl ?_
      obtain ⟨g28, h⟩ := grd_some h
      obtain ⟨u29, eu29⟩ : ∃ z : Sg, z = s2 u 3 ((x1 : Int32).toNatClampNeg) (u 1 ((x1 : Int32).toNatClampNeg)) := ⟨_, rfl⟩
      have h := bnd_of eu29 h
      refine q_iast C S (aM3 cI cB ad) 0 rfl g28 dX12_net_43 (j := (x1 : Int32).toNatClampNeg) rfl eu29 (fun H locs S => ?_)
      obtain ⟨v30, ev30⟩ : ∃ y : Int32, y = x1 + 1 := ⟨_, rfl⟩
      have h := bnd_of ev30 h
      refine lv_iinc (v := v30) (lv' := [(1, .int v30), (0, .ref (ad 0))]) hx hb dX12_net_44 hl (k := 1) rfl (by rw [ev30]; rfl) (by decide) rfl (fun ls hl => ?_)
      have hsz := hl.1
      refine lv_goto (tgt := 25) hx hb dX12_net_47 (by decide) ?_
      exact ih v30 u29 H locs ls (lv_sub hl [1, 0] rfl) S h
set_option maxRecDepth 10000 in
set_option maxHeartbeats 4000000 in
theorem wX12_net_0 (C : cx D (tyl cI cB cL) A RX12 cX12_net 3 (some .int) p s m args c meth) (Kx : kx ka kv fv A s s.heap) (hR : 8 ≤ R.frames ∧ 172 ≤ R.locals) {r : Int32} {σ' : Sg} (u : Sg) {H : Heap} {locs : List Loc} {ls : Array Slot} (hl : lv_has ls 3 [(0, .ref (ad 0))]) (S : st D (wM cI cB ad) A s u H locs) (h : fX12_net_0 u = some (r, σ')) : W p l e R s m args below meth c H locs 0 0 (MQ below (qI D (tyl cI cB cL) (wM cI cB ad) A r σ') args s 0 0 A) (F0 m 0 ls []) := by
  have hx := C.1
  have hb := C.2.1
  have hsz := hl.1
  unfold fX12_net_0 at h
  refine lv_aload_n hx hb dX12_net_0 rfl (lv_at hl 0 rfl) ?_
  refine lv_iconst (v := 0) hx hb dX12_net_1 (by decide) ?_
  obtain ⟨u1, eu1⟩ : ∃ z : Sg, z = s2 u 0 0 0 := ⟨_, rfl⟩
  have h := bnd_of eu1 h
  refine q_put C S (oM0 cI cB ad) rfl iwX12 tyX12 tyX12_ok nmX12 0 (by decide) mw_11 rfl (iM0_0 cI cB ad) rfl rfl dX12_net_2 eu1 (fun H locs S => ?_)
  refine lv_aload_n hx hb dX12_net_5 rfl (lv_at hl 0 rfl) ?_
  refine lv_aload_n hx hb dX12_net_6 rfl (lv_at hl 0 rfl) ?_
  refine q_get (v := .int (u1 0 7)) C S (oM0 cI cB ad) rfl iwX12 7 (by decide) mw_48 rfl dX12_net_7 ?_
  obtain ⟨u2, eu2⟩ : ∃ z : Sg, z = s2 u1 0 9 (u1 0 7) := ⟨_, rfl⟩
  have h := bnd_of eu2 h
  refine q_put C S (oM0 cI cB ad) rfl iwX12 tyX12 tyX12_ok nmX12 9 (by decide) mw_52 rfl (iM0_9 cI cB ad) rfl rfl dX12_net_10 eu2 (fun H locs S => ?_)
  refine lv_aload_n hx hb dX12_net_13 rfl (lv_at hl 0 rfl) ?_
  refine lv_iconst (v := 0) hx hb dX12_net_14 (by decide) ?_
  obtain ⟨u3, eu3⟩ : ∃ z : Sg, z = s2 u2 0 7 0 := ⟨_, rfl⟩
  have h := bnd_of eu3 h
  refine q_put C S (oM0 cI cB ad) rfl iwX12 tyX12 tyX12_ok nmX12 7 (by decide) mw_48 rfl (iM0_7 cI cB ad) rfl rfl dX12_net_15 eu3 (fun H locs S => ?_)
  refine lv_aload_n hx hb dX12_net_18 rfl (lv_at hl 0 rfl) ?_
  refine lv_iconst (v := 0) hx hb dX12_net_19 (by decide) ?_
  obtain ⟨u4, eu4⟩ : ∃ z : Sg, z = s2 u3 0 8 0 := ⟨_, rfl⟩
  have h := bnd_of eu4 h
  refine q_put C S (oM0 cI cB ad) rfl iwX12 tyX12 tyX12_ok nmX12 8 (by decide) mw_51 rfl (iM0_8 cI cB ad) rfl rfl dX12_net_20 eu4 (fun H locs S => ?_)
  refine lv_iconst (v := 0) hx hb dX12_net_23 (by decide) ?_
  refine lv_istore_n (lv' := [(1, .int 0), (0, .ref (ad 0))]) hx hb dX12_net_24 rfl hl (by decide) rfl (fun ls hl => ?_)
  have hsz := hl.1
  exact wX12_net_25 C Kx hR FU 0 u4 H locs ls (lv_sub hl [1, 0] rfl) S h
set_option maxRecDepth 10000 in
set_option maxHeartbeats 4000000 in
theorem ct_X12_net (l : Launch) (D : va_G) (cI cB cL : ClassId) (ka kv : Nat → Nat) (fv : Value) (ad : Nat → Nat) (u : Sg) {r : Int32} {σ' : Sg} (h : fX12_net u = some (r, σ')) : metIK l D (tyl cI cB cL) ka kv fv yX12_net cX12_net 3 (some .int) 8 172 (wM cI cB ad) [.ref (ad 0)] u r σ' := by
  intro sz
  refine Met.ofW (cc := cX12_net) (maxL := 3) (ret := (some .int)) (by decide) rfl ?_
  intro p e s m args below meth c s₁ B hml hv
  obtain ⟨rfl, C, S, Kx⟩ := q_entryK B hml hv
  have hl := lv_entry ([.ref (ad 0)]) (n := 3) (Nat.le_of_ble_eq_true rfl)
  rw [lg_entry_eq]
  generalize (lg_sl ([.ref (ad 0)]) ++ List.replicate (3 - (lg_sl ([.ref (ad 0)])).length) Slot.unset).toArray = ls at hl ⊢
  exact wX12_net_0 C Kx ⟨Nat.le_refl _, Nat.le_refl _⟩ u (lv_sub hl [0] rfl) S h
end S_42_mk
