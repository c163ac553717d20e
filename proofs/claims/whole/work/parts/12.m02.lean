theorem mw_78 : Cond.code yX12_isNoticed cX12_isNoticed 2 (some .boolean) ∈ gw := gw_t7 111 rfl rfl
theorem mw_79 : Cond.instanceMethod yX12_isNoticed ∈ gw := gw_t7 110 rfl rfl
theorem mw_80 : Cond.methodLink RX12 181 yX12_isNoticed ∈ gw := gw_t7 108 rfl rfl
theorem mw_81 : Cond.selects RX12 yX12_isNoticed yX12_isNoticed ∈ gw := gw_pv (n := 18) (List.mem_of_getElem? (i := 58) rfl)
theorem mw_82 : Cond.code yX12_ofChannel cX12_ofChannel 4 (some .int) ∈ gw := gw_t7 115 rfl rfl
theorem mw_83 : Cond.instanceMethod yX12_ofChannel ∈ gw := gw_t7 114 rfl rfl
theorem mw_84 : Cond.methodLink RX12 184 yX12_ofChannel ∈ gw := gw_t7 112 rfl rfl
theorem mw_85 : Cond.selects RX12 yX12_ofChannel yX12_ofChannel ∈ gw := gw_pv (n := 18) (List.mem_of_getElem? (i := 59) rfl)
theorem mw_86 : Cond.code yX12_jitter cX12_jitter 1 (some .int) ∈ gw := gw_t7 119 rfl rfl
theorem mw_87 : Cond.instanceMethod yX12_jitter ∈ gw := gw_t7 118 rfl rfl
theorem mw_88 : Cond.methodLink RX12 187 yX12_jitter ∈ gw := gw_t7 116 rfl rfl
theorem mw_89 : Cond.selects RX12 yX12_jitter yX12_jitter ∈ gw := gw_pv (n := 18) (List.mem_of_getElem? (i := 60) rfl)
theorem mw_90 : Cond.methodLink RX12 189 Lib.Math.max.name ∈ gw := gw_t7 121 rfl rfl
theorem mw_91 : Cond.static Lib.Math.max.name ∈ gw := gw_t2 231 rfl rfl
theorem mw_92 : Cond.initialized "java/lang/Math" ∈ gw := gw_t1 14 rfl rfl
theorem mw_93 : Cond.code Lib.Math.max.name Lib.Math.max.code 2 (some .int) ∈ gw := gw_t2 232 rfl rfl
theorem mw_94 : Cond.code yX12_packetAt cX12_packetAt 4 (some .int) ∈ gw := gw_t7 124 rfl rfl
theorem mw_95 : Cond.static yX12_packetAt ∈ gw := gw_t7 123 rfl rfl
theorem mw_96 : Cond.methodLink RX12 192 yX12_packetAt ∈ gw := gw_t7 122 rfl rfl
theorem mw_97 : Cond.code yX12_isTo cX12_isTo 3 (some .boolean) ∈ gw := gw_t7 99 rfl rfl
theorem mw_98 : Cond.instanceMethod yX12_isTo ∈ gw := gw_t7 98 rfl rfl
theorem mw_99 : Cond.methodLink RX12 196 yX12_isTo ∈ gw := gw_t7 96 rfl rfl
theorem mw_100 : Cond.selects RX12 yX12_isTo yX12_isTo ∈ gw := gw_pv (n := 18) (List.mem_of_getElem? (i := 55) rfl)
theorem mw_101 : Cond.code yX12_puts cX12_puts 10 none ∈ gw := gw_t7 107 rfl rfl
theorem mw_102 : Cond.instanceMethod yX12_puts ∈ gw := gw_t7 106 rfl rfl
theorem mw_103 : Cond.methodLink RX12 199 yX12_puts ∈ gw := gw_t7 104 rfl rfl
theorem mw_104 : Cond.selects RX12 yX12_puts yX12_puts ∈ gw := gw_pv (n := 18) (List.mem_of_getElem? (i := 57) rfl)
theorem mw_105 : Cond.methodLink RX12 131 Lib.Math.min.name ∈ gw := gw_t7 28 rfl rfl
theorem mw_106 : Cond.static Lib.Math.min.name ∈ gw := gw_t3 19 rfl rfl
theorem mw_107 : Cond.code Lib.Math.min.name Lib.Math.min.code 2 (some .int) ∈ gw := gw_t3 20 rfl rfl
theorem mw_108 : Cond.code yX12_lays cX12_lays 5 none ∈ gw := gw_t7 84 rfl rfl
theorem mw_109 : Cond.instanceMethod yX12_lays ∈ gw := gw_t7 83 rfl rfl
theorem mw_110 : Cond.methodLink RX12 203 yX12_lays ∈ gw := gw_t7 81 rfl rfl
theorem mw_111 : Cond.selects RX12 yX12_lays yX12_lays ∈ gw := gw_pv (n := 18) (List.mem_of_getElem? (i := 52) rfl)
theorem mw_112 : Cond.code yX12_isTold cX12_isTold 5 none ∈ gw := gw_t7 69 rfl rfl
theorem mw_113 : Cond.instanceMethod yX12_isTold ∈ gw := gw_t7 68 rfl rfl
theorem mw_114 : Cond.methodLink RX12 207 yX12_isTold ∈ gw := gw_t7 66 rfl rfl
theorem mw_115 : Cond.selects RX12 yX12_isTold yX12_isTold ∈ gw := gw_pv (n := 18) (List.mem_of_getElem? (i := 49) rfl)
theorem mw_116 : Cond.code yX12_gathers cX12_gathers 4 none ∈ gw := gw_t7 91 rfl rfl
theorem mw_117 : Cond.instanceMethod yX12_gathers ∈ gw := gw_t7 90 rfl rfl
theorem mw_118 : Cond.methodLink RX12 211 yX12_gathers ∈ gw := gw_t7 88 rfl rfl
theorem mw_119 : Cond.selects RX12 yX12_gathers yX12_gathers ∈ gw := gw_pv (n := 18) (List.mem_of_getElem? (i := 53) rfl)
theorem mw_120 : Cond.code yX12_putsAll cX12_putsAll 7 none ∈ gw := gw_t7 95 rfl rfl
theorem mw_121 : Cond.instanceMethod yX12_putsAll ∈ gw := gw_t7 94 rfl rfl
theorem mw_122 : Cond.methodLink RX12 215 yX12_putsAll ∈ gw := gw_t7 92 rfl rfl
theorem mw_123 : Cond.selects RX12 yX12_putsAll yX12_putsAll ∈ gw := gw_pv (n := 18) (List.mem_of_getElem? (i := 54) rfl)
theorem mw_124 : Cond.code yX12_ofPair cX12_ofPair 4 (some .int) ∈ gw := gw_t7 140 rfl rfl
theorem mw_125 : Cond.instanceMethod yX12_ofPair ∈ gw := gw_t7 139 rfl rfl
theorem mw_126 : Cond.methodLink RX12 219 yX12_ofPair ∈ gw := gw_t7 137 rfl rfl
theorem mw_127 : Cond.selects RX12 yX12_ofPair yX12_ofPair ∈ gw := gw_pv (n := 18) (List.mem_of_getElem? (i := 64) rfl)
theorem mw_128 : Cond.code yX12_proposes cX12_proposes 4 none ∈ gw := gw_t7 144 rfl rfl
theorem mw_129 : Cond.instanceMethod yX12_proposes ∈ gw := gw_t7 143 rfl rfl
theorem mw_130 : Cond.methodLink RX12 222 yX12_proposes ∈ gw := gw_t7 141 rfl rfl
theorem mw_131 : Cond.selects RX12 yX12_proposes yX12_proposes ∈ gw := gw_pv (n := 18) (List.mem_of_getElem? (i := 65) rfl)
theorem mw_132 : Cond.code yX12_isLess cX12_isLess 4 (some .boolean) ∈ gw := gw_t7 155 rfl rfl
theorem mw_133 : Cond.static yX12_isLess ∈ gw := gw_t7 154 rfl rfl
theorem mw_134 : Cond.methodLink RX12 225 yX12_isLess ∈ gw := gw_t7 153 rfl rfl
theorem mw_135 : Cond.code yX12_goesUp cX12_goesUp 6 none ∈ gw := gw_t7 152 rfl rfl
theorem mw_136 : Cond.instanceMethod yX12_goesUp ∈ gw := gw_t7 151 rfl rfl
theorem mw_137 : Cond.methodLink RX12 229 yX12_goesUp ∈ gw := gw_t7 149 rfl rfl
theorem mw_138 : Cond.selects RX12 yX12_goesUp yX12_goesUp ∈ gw := gw_pv (n := 18) (List.mem_of_getElem? (i := 67) rfl)
theorem mw_139 : Cond.fieldLink RX12 40 "LeastPendingModel" "out" "[I" ∈ gw := gw_t6 134 rfl rfl
theorem mw_140 : Cond.code yX12_hearsRequest cX12_hearsRequest 4 none ∈ gw := gw_t7 136 rfl rfl
theorem mw_141 : Cond.instanceMethod yX12_hearsRequest ∈ gw := gw_t7 135 rfl rfl
theorem mw_142 : Cond.methodLink RX12 232 yX12_hearsRequest ∈ gw := gw_t7 133 rfl rfl
theorem mw_143 : Cond.selects RX12 yX12_hearsRequest yX12_hearsRequest ∈ gw := gw_pv (n := 18) (List.mem_of_getElem? (i := 63) rfl)
theorem mw_144 : Cond.code yX12_hearsStamp cX12_hearsStamp 7 none ∈ gw := gw_t7 148 rfl rfl
theorem mw_145 : Cond.instanceMethod yX12_hearsStamp ∈ gw := gw_t7 147 rfl rfl
theorem mw_146 : Cond.methodLink RX12 235 yX12_hearsStamp ∈ gw := gw_t7 145 rfl rfl
theorem mw_147 : Cond.selects RX12 yX12_hearsStamp yX12_hearsStamp ∈ gw := gw_pv (n := 18) (List.mem_of_getElem? (i := 66) rfl)
theorem mw_148 : Cond.code yX12_hearsFinal cX12_hearsFinal 7 none ∈ gw := gw_t7 159 rfl rfl
theorem mw_149 : Cond.instanceMethod yX12_hearsFinal ∈ gw := gw_t7 158 rfl rfl
theorem mw_150 : Cond.methodLink RX12 239 yX12_hearsFinal ∈ gw := gw_t7 156 rfl rfl
theorem mw_151 : Cond.selects RX12 yX12_hearsFinal yX12_hearsFinal ∈ gw := gw_pv (n := 18) (List.mem_of_getElem? (i := 68) rfl)
theorem mw_152 : Cond.code yX12_hearsTake cX12_hearsTake 4 none ∈ gw := gw_t7 163 rfl rfl
theorem mw_153 : Cond.instanceMethod yX12_hearsTake ∈ gw := gw_t7 162 rfl rfl
theorem mw_154 : Cond.methodLink RX12 242 yX12_hearsTake ∈ gw := gw_t7 160 rfl rfl
theorem mw_155 : Cond.selects RX12 yX12_hearsTake yX12_hearsTake ∈ gw := gw_pv (n := 18) (List.mem_of_getElem? (i := 69) rfl)
theorem mw_156 : Cond.code yX12_hears cX12_hears 6 none ∈ gw := gw_t7 132 rfl rfl
theorem mw_157 : Cond.instanceMethod yX12_hears ∈ gw := gw_t7 131 rfl rfl
theorem mw_158 : Cond.methodLink RX12 245 yX12_hears ∈ gw := gw_t7 129 rfl rfl
theorem mw_159 : Cond.selects RX12 yX12_hears yX12_hears ∈ gw := gw_pv (n := 18) (List.mem_of_getElem? (i := 62) rfl)
theorem hdX12_gathers : yX12_gathers.cls = RX12 ∧ yX12_gathers.cls ≠ "java/lang/invoke/MethodHandle" ∧ yX12_gathers.cls ≠ "java/lang/invoke/VarHandle" ∧ (parseMethodDescriptor yX12_gathers.desc).map (fun d => d.parameters.length) = some 2 := by decide +kernel
theorem hdX12_goesUp : yX12_goesUp.cls = RX12 ∧ yX12_goesUp.cls ≠ "java/lang/invoke/MethodHandle" ∧ yX12_goesUp.cls ≠ "java/lang/invoke/VarHandle" ∧ (parseMethodDescriptor yX12_goesUp.desc).map (fun d => d.parameters.length) = some 5 := by decide +kernel
theorem hdX12_hears : yX12_hears.cls = RX12 ∧ yX12_hears.cls ≠ "java/lang/invoke/MethodHandle" ∧ yX12_hears.cls ≠ "java/lang/invoke/VarHandle" ∧ (parseMethodDescriptor yX12_hears.desc).map (fun d => d.parameters.length) = some 2 := by decide +kernel
theorem hdX12_hearsFinal : yX12_hearsFinal.cls = RX12 ∧ yX12_hearsFinal.cls ≠ "java/lang/invoke/MethodHandle" ∧ yX12_hearsFinal.cls ≠ "java/lang/invoke/VarHandle" ∧ (parseMethodDescriptor yX12_hearsFinal.desc).map (fun d => d.parameters.length) = some 5 := by decide +kernel
theorem hdX12_hearsRequest : yX12_hearsRequest.cls = RX12 ∧ yX12_hearsRequest.cls ≠ "java/lang/invoke/MethodHandle" ∧ yX12_hearsRequest.cls ≠ "java/lang/invoke/VarHandle" ∧ (parseMethodDescriptor yX12_hearsRequest.desc).map (fun d => d.parameters.length) = some 3 := by decide +kernel
theorem hdX12_hearsStamp : yX12_hearsStamp.cls = RX12 ∧ yX12_hearsStamp.cls ≠ "java/lang/invoke/MethodHandle" ∧ yX12_hearsStamp.cls ≠ "java/lang/invoke/VarHandle" ∧ (parseMethodDescriptor yX12_hearsStamp.desc).map (fun d => d.parameters.length) = some 6 := by decide +kernel
theorem hdX12_hearsTake : yX12_hearsTake.cls = RX12 ∧ yX12_hearsTake.cls ≠ "java/lang/invoke/MethodHandle" ∧ yX12_hearsTake.cls ≠ "java/lang/invoke/VarHandle" ∧ (parseMethodDescriptor yX12_hearsTake.desc).map (fun d => d.parameters.length) = some 3 := by decide +kernel
theorem hdX12_isLess : yX12_isLess.cls ≠ "java/lang/invoke/MethodHandle" ∧ yX12_isLess.cls ≠ "java/lang/invoke/VarHandle" ∧ (parseMethodDescriptor yX12_isLess.desc).map (fun d => d.parameters.length) = some 4 := by decide +kernel
theorem hdX12_isNoticed : yX12_isNoticed.cls = RX12 ∧ yX12_isNoticed.cls ≠ "java/lang/invoke/MethodHandle" ∧ yX12_isNoticed.cls ≠ "java/lang/invoke/VarHandle" ∧ (parseMethodDescriptor yX12_isNoticed.desc).map (fun d => d.parameters.length) = some 1 := by decide +kernel
theorem hdX12_isTo : yX12_isTo.cls = RX12 ∧ yX12_isTo.cls ≠ "java/lang/invoke/MethodHandle" ∧ yX12_isTo.cls ≠ "java/lang/invoke/VarHandle" ∧ (parseMethodDescriptor yX12_isTo.desc).map (fun d => d.parameters.length) = some 2 := by decide +kernel
theorem hdX12_isTold : yX12_isTold.cls = RX12 ∧ yX12_isTold.cls ≠ "java/lang/invoke/MethodHandle" ∧ yX12_isTold.cls ≠ "java/lang/invoke/VarHandle" ∧ (parseMethodDescriptor yX12_isTold.desc).map (fun d => d.parameters.length) = some 3 := by decide +kernel
theorem hdX12_jitter : yX12_jitter.cls = RX12 ∧ yX12_jitter.cls ≠ "java/lang/invoke/MethodHandle" ∧ yX12_jitter.cls ≠ "java/lang/invoke/VarHandle" ∧ (parseMethodDescriptor yX12_jitter.desc).map (fun d => d.parameters.length) = some 0 := by decide +kernel
theorem hdX12_lays : yX12_lays.cls = RX12 ∧ yX12_lays.cls ≠ "java/lang/invoke/MethodHandle" ∧ yX12_lays.cls ≠ "java/lang/invoke/VarHandle" ∧ (parseMethodDescriptor yX12_lays.desc).map (fun d => d.parameters.length) = some 4 := by decide +kernel
theorem hdX12_ofChannel : yX12_ofChannel.cls = RX12 ∧ yX12_ofChannel.cls ≠ "java/lang/invoke/MethodHandle" ∧ yX12_ofChannel.cls ≠ "java/lang/invoke/VarHandle" ∧ (parseMethodDescriptor yX12_ofChannel.desc).map (fun d => d.parameters.length) = some 3 := by decide +kernel
theorem hdX12_ofPair : yX12_ofPair.cls = RX12 ∧ yX12_ofPair.cls ≠ "java/lang/invoke/MethodHandle" ∧ yX12_ofPair.cls ≠ "java/lang/invoke/VarHandle" ∧ (parseMethodDescriptor yX12_ofPair.desc).map (fun d => d.parameters.length) = some 3 := by decide +kernel
theorem hdX12_packetAt : yX12_packetAt.cls ≠ "java/lang/invoke/MethodHandle" ∧ yX12_packetAt.cls ≠ "java/lang/invoke/VarHandle" ∧ (parseMethodDescriptor yX12_packetAt.desc).map (fun d => d.parameters.length) = some 4 := by decide +kernel
theorem hdX12_proposes : yX12_proposes.cls = RX12 ∧ yX12_proposes.cls ≠ "java/lang/invoke/MethodHandle" ∧ yX12_proposes.cls ≠ "java/lang/invoke/VarHandle" ∧ (parseMethodDescriptor yX12_proposes.desc).map (fun d => d.parameters.length) = some 3 := by decide +kernel
theorem hdX12_puts : yX12_puts.cls = RX12 ∧ yX12_puts.cls ≠ "java/lang/invoke/MethodHandle" ∧ yX12_puts.cls ≠ "java/lang/invoke/VarHandle" ∧ (parseMethodDescriptor yX12_puts.desc).map (fun d => d.parameters.length) = some 7 := by decide +kernel
theorem hdX12_putsAll : yX12_putsAll.cls = RX12 ∧ yX12_putsAll.cls ≠ "java/lang/invoke/MethodHandle" ∧ yX12_putsAll.cls ≠ "java/lang/invoke/VarHandle" ∧ (parseMethodDescriptor yX12_putsAll.desc).map (fun d => d.parameters.length) = some 5 := by decide +kernel
theorem dX12_puts_0 : decode cX12_puts 0 = .ok (.aload_n 0, 1) := by decide +kernel
theorem dX12_puts_1 : decode cX12_puts 1 = .ok (.iload_n 2, 1) := by decide +kernel
theorem dX12_puts_2 : decode cX12_puts 2 = .ok (.invokevirtual 181, 3) := by decide +kernel
theorem dX12_puts_5 : decode cX12_puts 5 = .ok (.ifCond .eq 4, 3) := by decide +kernel
theorem dX12_puts_8 : decode cX12_puts 8 = .ok (.return_, 1) := by decide +kernel
theorem dX12_puts_9 : decode cX12_puts 9 = .ok (.aload_n 0, 1) := by decide +kernel
theorem dX12_puts_10 : decode cX12_puts 10 = .ok (.iload_n 1, 1) := by decide +kernel
theorem dX12_puts_11 : decode cX12_puts 11 = .ok (.iload_n 2, 1) := by decide +kernel
theorem dX12_puts_12 : decode cX12_puts 12 = .ok (.iconst 3, 1) := by decide +kernel
theorem dX12_puts_13 : decode cX12_puts 13 = .ok (.invokevirtual 184, 3) := by decide +kernel
theorem dX12_puts_16 : decode cX12_puts 16 = .ok (.aload_n 0, 1) := by decide +kernel
theorem dX12_puts_17 : decode cX12_puts 17 = .ok (.getfield 13, 3) := by decide +kernel
theorem dX12_puts_20 : decode cX12_puts 20 = .ok (.iconst 4, 1) := by decide +kernel
theorem dX12_puts_21 : decode cX12_puts 21 = .ok (.iaload, 1) := by decide +kernel
theorem dX12_puts_22 : decode cX12_puts 22 = .ok (.aload_n 0, 1) := by decide +kernel
theorem dX12_puts_23 : decode cX12_puts 23 = .ok (.iload_n 1, 1) := by decide +kernel
theorem dX12_puts_24 : decode cX12_puts 24 = .ok (.iload_n 2, 1) := by decide +kernel
theorem dX12_puts_25 : decode cX12_puts 25 = .ok (.iconst 0, 1) := by decide +kernel
theorem dX12_puts_26 : decode cX12_puts 26 = .ok (.invokevirtual 184, 3) := by decide +kernel
theorem dX12_puts_29 : decode cX12_puts 29 = .ok (.iadd, 1) := by decide +kernel
theorem dX12_puts_30 : decode cX12_puts 30 = .ok (.aload_n 0, 1) := by decide +kernel
theorem dX12_puts_31 : decode cX12_puts 31 = .ok (.invokevirtual 187, 3) := by decide +kernel
theorem dX12_puts_34 : decode cX12_puts 34 = .ok (.iadd, 1) := by decide +kernel
theorem dX12_puts_35 : decode cX12_puts 35 = .ok (.invokestatic 189, 3) := by decide +kernel
theorem dX12_puts_38 : decode cX12_puts 38 = .ok (.istore 8, 2) := by decide +kernel
theorem dX12_puts_40 : decode cX12_puts 40 = .ok (.aload_n 0, 1) := by decide +kernel
theorem dX12_puts_41 : decode cX12_puts 41 = .ok (.iload_n 1, 1) := by decide +kernel
theorem dX12_puts_42 : decode cX12_puts 42 = .ok (.iload_n 2, 1) := by decide +kernel
theorem dX12_puts_43 : decode cX12_puts 43 = .ok (.iconst 2, 1) := by decide +kernel
theorem dX12_puts_44 : decode cX12_puts 44 = .ok (.invokevirtual 184, 3) := by decide +kernel
theorem dX12_puts_47 : decode cX12_puts 47 = .ok (.istore 9, 2) := by decide +kernel
theorem dX12_puts_49 : decode cX12_puts 49 = .ok (.aload_n 0, 1) := by decide +kernel
theorem dX12_puts_50 : decode cX12_puts 50 = .ok (.getfield 13, 3) := by decide +kernel
theorem dX12_puts_53 : decode cX12_puts 53 = .ok (.iload_n 1, 1) := by decide +kernel
theorem dX12_puts_54 : decode cX12_puts 54 = .ok (.iload_n 2, 1) := by decide +kernel
theorem dX12_puts_55 : decode cX12_puts 55 = .ok (.iconst 3, 1) := by decide +kernel
theorem dX12_puts_56 : decode cX12_puts 56 = .ok (.invokestatic 49, 3) := by decide +kernel
theorem dX12_puts_59 : decode cX12_puts 59 = .ok (.iload 8, 2) := by decide +kernel
theorem dX12_puts_61 : decode cX12_puts 61 = .ok (.iastore, 1) := by decide +kernel
theorem dX12_puts_62 : decode cX12_puts 62 = .ok (.aload_n 0, 1) := by decide +kernel
theorem dX12_puts_63 : decode cX12_puts 63 = .ok (.getfield 13, 3) := by decide +kernel
theorem dX12_puts_66 : decode cX12_puts 66 = .ok (.iload_n 1, 1) := by decide +kernel
theorem dX12_puts_67 : decode cX12_puts 67 = .ok (.iload_n 2, 1) := by decide +kernel
theorem dX12_puts_68 : decode cX12_puts 68 = .ok (.iload 9, 2) := by decide +kernel
theorem dX12_puts_70 : decode cX12_puts 70 = .ok (.iconst 0, 1) := by decide +kernel
theorem dX12_puts_71 : decode cX12_puts 71 = .ok (.invokestatic 192, 3) := by decide +kernel
theorem dX12_puts_74 : decode cX12_puts 74 = .ok (.iload 8, 2) := by decide +kernel
theorem dX12_puts_76 : decode cX12_puts 76 = .ok (.iastore, 1) := by decide +kernel
theorem dX12_puts_77 : decode cX12_puts 77 = .ok (.aload_n 0, 1) := by decide +kernel
theorem dX12_puts_78 : decode cX12_puts 78 = .ok (.getfield 13, 3) := by decide +kernel
theorem dX12_puts_81 : decode cX12_puts 81 = .ok (.iload_n 1, 1) := by decide +kernel
theorem dX12_puts_82 : decode cX12_puts 82 = .ok (.iload_n 2, 1) := by decide +kernel
theorem dX12_puts_83 : decode cX12_puts 83 = .ok (.iload 9, 2) := by decide +kernel
theorem dX12_puts_85 : decode cX12_puts 85 = .ok (.iconst 1, 1) := by decide +kernel
theorem dX12_puts_86 : decode cX12_puts 86 = .ok (.invokestatic 192, 3) := by decide +kernel
theorem dX12_puts_89 : decode cX12_puts 89 = .ok (.iload_n 3, 1) := by decide +kernel
theorem dX12_puts_90 : decode cX12_puts 90 = .ok (.iastore, 1) := by decide +kernel
theorem dX12_puts_91 : decode cX12_puts 91 = .ok (.aload_n 0, 1) := by decide +kernel
theorem dX12_puts_92 : decode cX12_puts 92 = .ok (.getfield 13, 3) := by decide +kernel
theorem dX12_puts_95 : decode cX12_puts 95 = .ok (.iload_n 1, 1) := by decide +kernel
theorem dX12_puts_96 : decode cX12_puts 96 = .ok (.iload_n 2, 1) := by decide +kernel
theorem dX12_puts_97 : decode cX12_puts 97 = .ok (.iload 9, 2) := by decide +kernel
theorem dX12_puts_99 : decode cX12_puts 99 = .ok (.iconst 2, 1) := by decide +kernel
theorem dX12_puts_100 : decode cX12_puts 100 = .ok (.invokestatic 192, 3) := by decide +kernel
theorem dX12_puts_103 : decode cX12_puts 103 = .ok (.iload 4, 2) := by decide +kernel
theorem dX12_puts_105 : decode cX12_puts 105 = .ok (.iastore, 1) := by decide +kernel
theorem dX12_puts_106 : decode cX12_puts 106 = .ok (.aload_n 0, 1) := by decide +kernel
theorem dX12_puts_107 : decode cX12_puts 107 = .ok (.getfield 13, 3) := by decide +kernel
theorem dX12_puts_110 : decode cX12_puts 110 = .ok (.iload_n 1, 1) := by decide +kernel
theorem dX12_puts_111 : decode cX12_puts 111 = .ok (.iload_n 2, 1) := by decide +kernel
theorem dX12_puts_112 : decode cX12_puts 112 = .ok (.iload 9, 2) := by decide +kernel
theorem dX12_puts_114 : decode cX12_puts 114 = .ok (.iconst 3, 1) := by decide +kernel
theorem dX12_puts_115 : decode cX12_puts 115 = .ok (.invokestatic 192, 3) := by decide +kernel
theorem dX12_puts_118 : decode cX12_puts 118 = .ok (.iload 5, 2) := by decide +kernel
theorem dX12_puts_120 : decode cX12_puts 120 = .ok (.iastore, 1) := by decide +kernel
theorem dX12_puts_121 : decode cX12_puts 121 = .ok (.aload_n 0, 1) := by decide +kernel
theorem dX12_puts_122 : decode cX12_puts 122 = .ok (.getfield 13, 3) := by decide +kernel
theorem dX12_puts_125 : decode cX12_puts 125 = .ok (.iload_n 1, 1) := by decide +kernel
theorem dX12_puts_126 : decode cX12_puts 126 = .ok (.iload_n 2, 1) := by decide +kernel
theorem dX12_puts_127 : decode cX12_puts 127 = .ok (.iload 9, 2) := by decide +kernel
theorem dX12_puts_129 : decode cX12_puts 129 = .ok (.iconst 4, 1) := by decide +kernel
theorem dX12_puts_130 : decode cX12_puts 130 = .ok (.invokestatic 192, 3) := by decide +kernel
theorem dX12_puts_133 : decode cX12_puts 133 = .ok (.iload 6, 2) := by decide +kernel
theorem dX12_puts_135 : decode cX12_puts 135 = .ok (.iastore, 1) := by decide +kernel
theorem dX12_puts_136 : decode cX12_puts 136 = .ok (.aload_n 0, 1) := by decide +kernel
theorem dX12_puts_137 : decode cX12_puts 137 = .ok (.getfield 13, 3) := by decide +kernel
theorem dX12_puts_140 : decode cX12_puts 140 = .ok (.iload_n 1, 1) := by decide +kernel
theorem dX12_puts_141 : decode cX12_puts 141 = .ok (.iload_n 2, 1) := by decide +kernel
theorem dX12_puts_142 : decode cX12_puts 142 = .ok (.iload 9, 2) := by decide +kernel
theorem dX12_puts_144 : decode cX12_puts 144 = .ok (.iconst 5, 1) := by decide +kernel
theorem dX12_puts_145 : decode cX12_puts 145 = .ok (.invokestatic 192, 3) := by decide +kernel
theorem dX12_puts_148 : decode cX12_puts 148 = .ok (.iload 7, 2) := by decide +kernel
theorem dX12_puts_150 : decode cX12_puts 150 = .ok (.ifCond .eq 7, 3) := by decide +kernel
theorem dX12_puts_153 : decode cX12_puts 153 = .ok (.iconst 1, 1) := by decide +kernel
theorem dX12_puts_154 : decode cX12_puts 154 = .ok (.goto 4, 3) := by decide +kernel
theorem dX12_puts_157 : decode cX12_puts 157 = .ok (.iconst 0, 1) := by decide +kernel
theorem dX12_puts_158 : decode cX12_puts 158 = .ok (.iastore, 1) := by decide +kernel
theorem dX12_puts_159 : decode cX12_puts 159 = .ok (.aload_n 0, 1) := by decide +kernel
theorem dX12_puts_160 : decode cX12_puts 160 = .ok (.getfield 13, 3) := by decide +kernel
theorem dX12_puts_163 : decode cX12_puts 163 = .ok (.iload_n 1, 1) := by decide +kernel
theorem dX12_puts_164 : decode cX12_puts 164 = .ok (.iload_n 2, 1) := by decide +kernel
theorem dX12_puts_165 : decode cX12_puts 165 = .ok (.iconst 2, 1) := by decide +kernel
theorem dX12_puts_166 : decode cX12_puts 166 = .ok (.invokestatic 49, 3) := by decide +kernel
theorem dX12_puts_169 : decode cX12_puts 169 = .ok (.iload 9, 2) := by decide +kernel
theorem dX12_puts_171 : decode cX12_puts 171 = .ok (.iconst 1, 1) := by decide +kernel
theorem dX12_puts_172 : decode cX12_puts 172 = .ok (.iadd, 1) := by decide +kernel
theorem dX12_puts_173 : decode cX12_puts 173 = .ok (.iastore, 1) := by decide +kernel
theorem dX12_puts_174 : decode cX12_puts 174 = .ok (.aload_n 0, 1) := by decide +kernel
theorem dX12_puts_175 : decode cX12_puts 175 = .ok (.getfield 13, 3) := by decide +kernel
theorem dX12_puts_178 : decode cX12_puts 178 = .ok (.iload 4, 2) := by decide +kernel
theorem dX12_puts_180 : decode cX12_puts 180 = .ok (.iconst 2, 1) := by decide +kernel
theorem dX12_puts_181 : decode cX12_puts 181 = .ok (.invokestatic 63, 3) := by decide +kernel
theorem dX12_puts_184 : decode cX12_puts 184 = .ok (.dup2, 1) := by decide +kernel
theorem dX12_puts_185 : decode cX12_puts 185 = .ok (.iaload, 1) := by decide +kernel
theorem dX12_puts_186 : decode cX12_puts 186 = .ok (.iconst 1, 1) := by decide +kernel
theorem dX12_puts_187 : decode cX12_puts 187 = .ok (.iadd, 1) := by decide +kernel
theorem dX12_puts_188 : decode cX12_puts 188 = .ok (.iastore, 1) := by decide +kernel
theorem dX12_puts_189 : decode cX12_puts 189 = .ok (.aload_n 0, 1) := by decide +kernel
theorem dX12_puts_190 : decode cX12_puts 190 = .ok (.getfield 13, 3) := by decide +kernel
theorem dX12_puts_193 : decode cX12_puts 193 = .ok (.iload 4, 2) := by decide +kernel
theorem dX12_puts_195 : decode cX12_puts 195 = .ok (.iconst 4, 1) := by decide +kernel
theorem dX12_puts_196 : decode cX12_puts 196 = .ok (.invokestatic 63, 3) := by decide +kernel
theorem dX12_puts_199 : decode cX12_puts 199 = .ok (.dup2, 1) := by decide +kernel
theorem dX12_puts_200 : decode cX12_puts 200 = .ok (.iaload, 1) := by decide +kernel
theorem dX12_puts_201 : decode cX12_puts 201 = .ok (.iconst 1, 1) := by decide +kernel
theorem dX12_puts_202 : decode cX12_puts 202 = .ok (.iload_n 1, 1) := by decide +kernel
theorem dX12_puts_203 : decode cX12_puts 203 = .ok (.ishl, 1) := by decide +kernel
theorem dX12_puts_204 : decode cX12_puts 204 = .ok (.ior, 1) := by decide +kernel
theorem dX12_puts_205 : decode cX12_puts 205 = .ok (.iastore, 1) := by decide +kernel
theorem dX12_puts_206 : decode cX12_puts 206 = .ok (.aload_n 0, 1) := by decide +kernel
theorem dX12_puts_207 : decode cX12_puts 207 = .ok (.getfield 13, 3) := by decide +kernel
theorem dX12_puts_210 : decode cX12_puts 210 = .ok (.iload_n 1, 1) := by decide +kernel
theorem dX12_puts_211 : decode cX12_puts 211 = .ok (.iconst 3, 1) := by decide +kernel
theorem dX12_puts_212 : decode cX12_puts 212 = .ok (.invokestatic 56, 3) := by decide +kernel
theorem dX12_puts_215 : decode cX12_puts 215 = .ok (.dup2, 1) := by decide +kernel
theorem dX12_puts_216 : decode cX12_puts 216 = .ok (.iaload, 1) := by decide +kernel
theorem dX12_puts_217 : decode cX12_puts 217 = .ok (.iconst 1, 1) := by decide +kernel
theorem dX12_puts_218 : decode cX12_puts 218 = .ok (.iadd, 1) := by decide +kernel
theorem dX12_puts_219 : decode cX12_puts 219 = .ok (.iastore, 1) := by decide +kernel
theorem dX12_puts_220 : decode cX12_puts 220 = .ok (.return_, 1) := by decide +kernel
theorem dX12_putsAll_0 : decode cX12_putsAll 0 = .ok (.iconst 0, 1) := by decide +kernel
theorem dX12_putsAll_1 : decode cX12_putsAll 1 = .ok (.istore 6, 2) := by decide +kernel
theorem dX12_putsAll_3 : decode cX12_putsAll 3 = .ok (.iload 6, 2) := by decide +kernel
theorem dX12_putsAll_5 : decode cX12_putsAll 5 = .ok (.aload_n 0, 1) := by decide +kernel
theorem dX12_putsAll_6 : decode cX12_putsAll 6 = .ok (.invokevirtual 66, 3) := by decide +kernel
theorem dX12_putsAll_9 : decode cX12_putsAll 9 = .ok (.if_icmp .ge 33, 3) := by decide +kernel
theorem dX12_putsAll_12 : decode cX12_putsAll 12 = .ok (.aload_n 0, 1) := by decide +kernel
theorem dX12_putsAll_13 : decode cX12_putsAll 13 = .ok (.iload_n 3, 1) := by decide +kernel
theorem dX12_putsAll_14 : decode cX12_putsAll 14 = .ok (.iload 6, 2) := by decide +kernel
theorem dX12_putsAll_16 : decode cX12_putsAll 16 = .ok (.invokevirtual 196, 3) := by decide +kernel
theorem dX12_putsAll_19 : decode cX12_putsAll 19 = .ok (.ifCond .eq 17, 3) := by decide +kernel
theorem dX12_putsAll_22 : decode cX12_putsAll 22 = .ok (.aload_n 0, 1) := by decide +kernel
theorem dX12_putsAll_23 : decode cX12_putsAll 23 = .ok (.iload_n 1, 1) := by decide +kernel
theorem dX12_putsAll_24 : decode cX12_putsAll 24 = .ok (.iload 6, 2) := by decide +kernel
theorem dX12_putsAll_26 : decode cX12_putsAll 26 = .ok (.iload_n 2, 1) := by decide +kernel
theorem dX12_putsAll_27 : decode cX12_putsAll 27 = .ok (.iload_n 3, 1) := by decide +kernel
theorem dX12_putsAll_28 : decode cX12_putsAll 28 = .ok (.iload 4, 2) := by decide +kernel
theorem dX12_putsAll_30 : decode cX12_putsAll 30 = .ok (.iload 5, 2) := by decide +kernel
theorem dX12_putsAll_32 : decode cX12_putsAll 32 = .ok (.iconst 0, 1) := by decide +kernel
theorem dX12_putsAll_33 : decode cX12_putsAll 33 = .ok (.invokevirtual 199, 3) := by decide +kernel
theorem dX12_putsAll_36 : decode cX12_putsAll 36 = .ok (.iinc 6 1, 3) := by decide +kernel
theorem dX12_putsAll_39 : decode cX12_putsAll 39 = .ok (.goto (-36), 3) := by decide +kernel
theorem dX12_putsAll_42 : decode cX12_putsAll 42 = .ok (.return_, 1) := by decide +kernel
theorem dX12_isTold_0 : decode cX12_isTold 0 = .ok (.sipush 239, 3) := by decide +kernel
theorem dX12_isTold_3 : decode cX12_isTold 3 = .ok (.istore 4, 2) := by decide +kernel
theorem dX12_isTold_5 : decode cX12_isTold 5 = .ok (.iload 4, 2) := by decide +kernel
theorem dX12_isTold_7 : decode cX12_isTold 7 = .ok (.iconst 4, 1) := by decide +kernel
theorem dX12_isTold_8 : decode cX12_isTold 8 = .ok (.if_icmp .lt 33, 3) := by decide +kernel
theorem dX12_isTold_11 : decode cX12_isTold 11 = .ok (.aload_n 0, 1) := by decide +kernel
theorem dX12_isTold_12 : decode cX12_isTold 12 = .ok (.getfield 13, 3) := by decide +kernel
theorem dX12_isTold_15 : decode cX12_isTold 15 = .ok (.sipush 1619, 3) := by decide +kernel
theorem dX12_isTold_18 : decode cX12_isTold 18 = .ok (.iload 4, 2) := by decide +kernel
theorem dX12_isTold_20 : decode cX12_isTold 20 = .ok (.iadd, 1) := by decide +kernel
theorem dX12_isTold_21 : decode cX12_isTold 21 = .ok (.aload_n 0, 1) := by decide +kernel
theorem dX12_isTold_22 : decode cX12_isTold 22 = .ok (.getfield 13, 3) := by decide +kernel
theorem dX12_isTold_25 : decode cX12_isTold 25 = .ok (.sipush 1619, 3) := by decide +kernel
theorem dX12_isTold_28 : decode cX12_isTold 28 = .ok (.iload 4, 2) := by decide +kernel
theorem dX12_isTold_30 : decode cX12_isTold 30 = .ok (.iadd, 1) := by decide +kernel
theorem dX12_isTold_31 : decode cX12_isTold 31 = .ok (.iconst 4, 1) := by decide +kernel
theorem dX12_isTold_32 : decode cX12_isTold 32 = .ok (.isub, 1) := by decide +kernel
theorem dX12_isTold_33 : decode cX12_isTold 33 = .ok (.iaload, 1) := by decide +kernel
theorem dX12_isTold_34 : decode cX12_isTold 34 = .ok (.iastore, 1) := by decide +kernel
theorem dX12_isTold_35 : decode cX12_isTold 35 = .ok (.iinc 4 (-1), 3) := by decide +kernel
theorem dX12_isTold_38 : decode cX12_isTold 38 = .ok (.goto (-33), 3) := by decide +kernel
theorem dX12_isTold_41 : decode cX12_isTold 41 = .ok (.aload_n 0, 1) := by decide +kernel
theorem dX12_isTold_42 : decode cX12_isTold 42 = .ok (.getfield 13, 3) := by decide +kernel
theorem dX12_isTold_45 : decode cX12_isTold 45 = .ok (.sipush 1619, 3) := by decide +kernel
theorem dX12_isTold_48 : decode cX12_isTold 48 = .ok (.aload_n 0, 1) := by decide +kernel
theorem dX12_isTold_49 : decode cX12_isTold 49 = .ok (.getfield 13, 3) := by decide +kernel
theorem dX12_isTold_52 : decode cX12_isTold 52 = .ok (.iconst 4, 1) := by decide +kernel
theorem dX12_isTold_53 : decode cX12_isTold 53 = .ok (.iaload, 1) := by decide +kernel
theorem dX12_isTold_54 : decode cX12_isTold 54 = .ok (.iastore, 1) := by decide +kernel
theorem dX12_isTold_55 : decode cX12_isTold 55 = .ok (.aload_n 0, 1) := by decide +kernel
theorem dX12_isTold_56 : decode cX12_isTold 56 = .ok (.getfield 13, 3) := by decide +kernel
theorem dX12_isTold_59 : decode cX12_isTold 59 = .ok (.sipush 1620, 3) := by decide +kernel
theorem dX12_isTold_62 : decode cX12_isTold 62 = .ok (.iload_n 1, 1) := by decide +kernel
theorem dX12_isTold_63 : decode cX12_isTold 63 = .ok (.iastore, 1) := by decide +kernel
theorem dX12_isTold_64 : decode cX12_isTold 64 = .ok (.aload_n 0, 1) := by decide +kernel
theorem dX12_isTold_65 : decode cX12_isTold 65 = .ok (.getfield 13, 3) := by decide +kernel
theorem dX12_isTold_68 : decode cX12_isTold 68 = .ok (.sipush 1621, 3) := by decide +kernel
theorem dX12_isTold_71 : decode cX12_isTold 71 = .ok (.iload_n 2, 1) := by decide +kernel
theorem dX12_isTold_72 : decode cX12_isTold 72 = .ok (.iastore, 1) := by decide +kernel
theorem dX12_isTold_73 : decode cX12_isTold 73 = .ok (.aload_n 0, 1) := by decide +kernel
theorem dX12_isTold_74 : decode cX12_isTold 74 = .ok (.getfield 13, 3) := by decide +kernel
theorem dX12_isTold_77 : decode cX12_isTold 77 = .ok (.sipush 1622, 3) := by decide +kernel
theorem dX12_isTold_80 : decode cX12_isTold 80 = .ok (.iload_n 3, 1) := by decide +kernel
theorem dX12_isTold_81 : decode cX12_isTold 81 = .ok (.iastore, 1) := by decide +kernel
theorem dX12_isTold_82 : decode cX12_isTold 82 = .ok (.aload_n 0, 1) := by decide +kernel
theorem dX12_isTold_83 : decode cX12_isTold 83 = .ok (.getfield 13, 3) := by decide +kernel
theorem dX12_isTold_86 : decode cX12_isTold 86 = .ok (.bipush 9, 2) := by decide +kernel
theorem dX12_isTold_88 : decode cX12_isTold 88 = .ok (.bipush 60, 2) := by decide +kernel
theorem dX12_isTold_90 : decode cX12_isTold 90 = .ok (.aload_n 0, 1) := by decide +kernel
theorem dX12_isTold_91 : decode cX12_isTold 91 = .ok (.getfield 13, 3) := by decide +kernel
theorem dX12_isTold_94 : decode cX12_isTold 94 = .ok (.bipush 9, 2) := by decide +kernel
theorem dX12_isTold_96 : decode cX12_isTold 96 = .ok (.iaload, 1) := by decide +kernel
theorem dX12_isTold_97 : decode cX12_isTold 97 = .ok (.iconst 1, 1) := by decide +kernel
theorem dX12_isTold_98 : decode cX12_isTold 98 = .ok (.iadd, 1) := by decide +kernel
theorem dX12_isTold_99 : decode cX12_isTold 99 = .ok (.invokestatic 131, 3) := by decide +kernel
theorem dX12_isTold_102 : decode cX12_isTold 102 = .ok (.iastore, 1) := by decide +kernel
theorem dX12_isTold_103 : decode cX12_isTold 103 = .ok (.return_, 1) := by decide +kernel
theorem dX12_gathers_0 : decode cX12_gathers 0 = .ok (.aload_n 0, 1) := by decide +kernel
theorem dX12_gathers_1 : decode cX12_gathers 1 = .ok (.iload_n 1, 1) := by decide +kernel
theorem dX12_gathers_2 : decode cX12_gathers 2 = .ok (.iload_n 2, 1) := by decide +kernel
theorem dX12_gathers_3 : decode cX12_gathers 3 = .ok (.iconst 5, 1) := by decide +kernel
theorem dX12_gathers_4 : decode cX12_gathers 4 = .ok (.iconst 1, 1) := by decide +kernel
theorem dX12_gathers_5 : decode cX12_gathers 5 = .ok (.invokevirtual 203, 3) := by decide +kernel
theorem dX12_gathers_8 : decode cX12_gathers 8 = .ok (.aload_n 0, 1) := by decide +kernel
theorem dX12_gathers_9 : decode cX12_gathers 9 = .ok (.iload_n 1, 1) := by decide +kernel
theorem dX12_gathers_10 : decode cX12_gathers 10 = .ok (.iload_n 2, 1) := by decide +kernel
theorem dX12_gathers_11 : decode cX12_gathers 11 = .ok (.bipush 6, 2) := by decide +kernel
theorem dX12_gathers_13 : decode cX12_gathers 13 = .ok (.iconst 0, 1) := by decide +kernel
theorem dX12_gathers_14 : decode cX12_gathers 14 = .ok (.invokevirtual 203, 3) := by decide +kernel
theorem dX12_gathers_17 : decode cX12_gathers 17 = .ok (.bipush 7, 2) := by decide +kernel
theorem dX12_gathers_19 : decode cX12_gathers 19 = .ok (.istore_n 3, 1) := by decide +kernel
theorem dX12_gathers_20 : decode cX12_gathers 20 = .ok (.iload_n 3, 1) := by decide +kernel
theorem dX12_gathers_21 : decode cX12_gathers 21 = .ok (.bipush 10, 2) := by decide +kernel
theorem dX12_gathers_23 : decode cX12_gathers 23 = .ok (.if_icmp .gt 17, 3) := by decide +kernel
theorem dX12_gathers_26 : decode cX12_gathers 26 = .ok (.aload_n 0, 1) := by decide +kernel
theorem dX12_gathers_27 : decode cX12_gathers 27 = .ok (.iload_n 1, 1) := by decide +kernel
theorem dX12_gathers_28 : decode cX12_gathers 28 = .ok (.iload_n 2, 1) := by decide +kernel
theorem dX12_gathers_29 : decode cX12_gathers 29 = .ok (.iload_n 3, 1) := by decide +kernel
theorem dX12_gathers_30 : decode cX12_gathers 30 = .ok (.iconst (-1), 1) := by decide +kernel
theorem dX12_gathers_31 : decode cX12_gathers 31 = .ok (.invokevirtual 203, 3) := by decide +kernel
theorem dX12_gathers_34 : decode cX12_gathers 34 = .ok (.iinc 3 1, 3) := by decide +kernel
theorem dX12_gathers_37 : decode cX12_gathers 37 = .ok (.goto (-17), 3) := by decide +kernel
theorem dX12_gathers_40 : decode cX12_gathers 40 = .ok (.return_, 1) := by decide +kernel
theorem dX12_isSent_0 : decode cX12_isSent 0 = .ok (.aload_n 0, 1) := by decide +kernel
theorem dX12_isSent_1 : decode cX12_isSent 1 = .ok (.invokevirtual 74, 3) := by decide +kernel
theorem dX12_isSent_4 : decode cX12_isSent 4 = .ok (.istore_n 3, 1) := by decide +kernel
theorem dX12_isSent_5 : decode cX12_isSent 5 = .ok (.aload_n 0, 1) := by decide +kernel
theorem dX12_isSent_6 : decode cX12_isSent 6 = .ok (.getfield 13, 3) := by decide +kernel
theorem dX12_isSent_9 : decode cX12_isSent 9 = .ok (.iconst 3, 1) := by decide +kernel
theorem dX12_isSent_10 : decode cX12_isSent 10 = .ok (.dup2, 1) := by decide +kernel
theorem dX12_isSent_11 : decode cX12_isSent 11 = .ok (.iaload, 1) := by decide +kernel
theorem dX12_isSent_12 : decode cX12_isSent 12 = .ok (.iconst 1, 1) := by decide +kernel
theorem dX12_isSent_13 : decode cX12_isSent 13 = .ok (.iadd, 1) := by decide +kernel
theorem dX12_isSent_14 : decode cX12_isSent 14 = .ok (.iastore, 1) := by decide +kernel
theorem dX12_isSent_15 : decode cX12_isSent 15 = .ok (.aload_n 0, 1) := by decide +kernel
theorem dX12_isSent_16 : decode cX12_isSent 16 = .ok (.getfield 13, 3) := by decide +kernel
theorem dX12_isSent_19 : decode cX12_isSent 19 = .ok (.iload_n 3, 1) := by decide +kernel
theorem dX12_isSent_20 : decode cX12_isSent 20 = .ok (.iconst 0, 1) := by decide +kernel
theorem dX12_isSent_21 : decode cX12_isSent 21 = .ok (.invokestatic 63, 3) := by decide +kernel
theorem dX12_isSent_24 : decode cX12_isSent 24 = .ok (.iload_n 1, 1) := by decide +kernel
theorem dX12_isSent_25 : decode cX12_isSent 25 = .ok (.iastore, 1) := by decide +kernel
theorem dX12_isSent_26 : decode cX12_isSent 26 = .ok (.aload_n 0, 1) := by decide +kernel
theorem dX12_isSent_27 : decode cX12_isSent 27 = .ok (.getfield 13, 3) := by decide +kernel
theorem dX12_isSent_30 : decode cX12_isSent 30 = .ok (.iload_n 3, 1) := by decide +kernel
theorem dX12_isSent_31 : decode cX12_isSent 31 = .ok (.iconst 1, 1) := by decide +kernel
theorem dX12_isSent_32 : decode cX12_isSent 32 = .ok (.invokestatic 63, 3) := by decide +kernel
theorem dX12_isSent_35 : decode cX12_isSent 35 = .ok (.aload_n 0, 1) := by decide +kernel
theorem dX12_isSent_36 : decode cX12_isSent 36 = .ok (.getfield 13, 3) := by decide +kernel
theorem dX12_isSent_39 : decode cX12_isSent 39 = .ok (.bipush 11, 2) := by decide +kernel
theorem dX12_isSent_41 : decode cX12_isSent 41 = .ok (.iload_n 2, 1) := by decide +kernel
theorem dX12_isSent_42 : decode cX12_isSent 42 = .ok (.iadd, 1) := by decide +kernel
theorem dX12_isSent_43 : decode cX12_isSent 43 = .ok (.iaload, 1) := by decide +kernel
theorem dX12_isSent_44 : decode cX12_isSent 44 = .ok (.iastore, 1) := by decide +kernel
theorem dX12_isSent_45 : decode cX12_isSent 45 = .ok (.aload_n 0, 1) := by decide +kernel
theorem dX12_isSent_46 : decode cX12_isSent 46 = .ok (.getfield 13, 3) := by decide +kernel
theorem dX12_isSent_49 : decode cX12_isSent 49 = .ok (.iload_n 3, 1) := by decide +kernel
theorem dX12_isSent_50 : decode cX12_isSent 50 = .ok (.iconst 3, 1) := by decide +kernel
theorem dX12_isSent_51 : decode cX12_isSent 51 = .ok (.invokestatic 63, 3) := by decide +kernel
theorem dX12_isSent_54 : decode cX12_isSent 54 = .ok (.aload_n 0, 1) := by decide +kernel
theorem dX12_isSent_55 : decode cX12_isSent 55 = .ok (.getfield 13, 3) := by decide +kernel
theorem dX12_isSent_58 : decode cX12_isSent 58 = .ok (.iconst 4, 1) := by decide +kernel
theorem dX12_isSent_59 : decode cX12_isSent 59 = .ok (.iaload, 1) := by decide +kernel
theorem dX12_isSent_60 : decode cX12_isSent 60 = .ok (.iastore, 1) := by decide +kernel
theorem dX12_isSent_61 : decode cX12_isSent 61 = .ok (.iconst 0, 1) := by decide +kernel
theorem dX12_isSent_62 : decode cX12_isSent 62 = .ok (.istore 4, 2) := by decide +kernel
theorem dX12_isSent_64 : decode cX12_isSent 64 = .ok (.iload 4, 2) := by decide +kernel
theorem dX12_isSent_66 : decode cX12_isSent 66 = .ok (.bipush 6, 2) := by decide +kernel
theorem dX12_isSent_68 : decode cX12_isSent 68 = .ok (.if_icmp .ge 18, 3) := by decide +kernel
theorem dX12_isSent_71 : decode cX12_isSent 71 = .ok (.aload_n 0, 1) := by decide +kernel
theorem dX12_isSent_72 : decode cX12_isSent 72 = .ok (.iload 4, 2) := by decide +kernel
theorem dX12_isSent_74 : decode cX12_isSent 74 = .ok (.iload_n 3, 1) := by decide +kernel
theorem dX12_isSent_75 : decode cX12_isSent 75 = .ok (.iconst 4, 1) := by decide +kernel
theorem dX12_isSent_76 : decode cX12_isSent 76 = .ok (.iconst (-1), 1) := by decide +kernel
theorem dX12_isSent_77 : decode cX12_isSent 77 = .ok (.invokevirtual 203, 3) := by decide +kernel
theorem dX12_isSent_80 : decode cX12_isSent 80 = .ok (.iinc 4 1, 3) := by decide +kernel
theorem dX12_isSent_83 : decode cX12_isSent 83 = .ok (.goto (-19), 3) := by decide +kernel
theorem dX12_isSent_86 : decode cX12_isSent 86 = .ok (.aload_n 0, 1) := by decide +kernel
theorem dX12_isSent_87 : decode cX12_isSent 87 = .ok (.iload_n 1, 1) := by decide +kernel
theorem dX12_isSent_88 : decode cX12_isSent 88 = .ok (.iconst 0, 1) := by decide +kernel
theorem dX12_isSent_89 : decode cX12_isSent 89 = .ok (.iload_n 3, 1) := by decide +kernel
theorem dX12_isSent_90 : decode cX12_isSent 90 = .ok (.invokevirtual 207, 3) := by decide +kernel
theorem dX12_isSent_93 : decode cX12_isSent 93 = .ok (.aload_n 0, 1) := by decide +kernel
theorem dX12_isSent_94 : decode cX12_isSent 94 = .ok (.iload_n 1, 1) := by decide +kernel
theorem dX12_isSent_95 : decode cX12_isSent 95 = .ok (.iload_n 3, 1) := by decide +kernel
theorem dX12_isSent_96 : decode cX12_isSent 96 = .ok (.invokevirtual 211, 3) := by decide +kernel
theorem dX12_isSent_99 : decode cX12_isSent 99 = .ok (.aload_n 0, 1) := by decide +kernel
theorem dX12_isSent_100 : decode cX12_isSent 100 = .ok (.iload_n 1, 1) := by decide +kernel
theorem dX12_isSent_101 : decode cX12_isSent 101 = .ok (.iconst 0, 1) := by decide +kernel
theorem dX12_isSent_102 : decode cX12_isSent 102 = .ok (.iload_n 3, 1) := by decide +kernel
theorem dX12_isSent_103 : decode cX12_isSent 103 = .ok (.iconst (-1), 1) := by decide +kernel
theorem dX12_isSent_104 : decode cX12_isSent 104 = .ok (.iconst (-1), 1) := by decide +kernel
theorem dX12_isSent_105 : decode cX12_isSent 105 = .ok (.invokevirtual 215, 3) := by decide +kernel
theorem dX12_isSent_108 : decode cX12_isSent 108 = .ok (.iload_n 3, 1) := by decide +kernel
theorem dX12_isSent_109 : decode cX12_isSent 109 = .ok (.ireturn, 1) := by decide +kernel
theorem dX12_isDown_0 : decode cX12_isDown 0 = .ok (.aload_n 0, 1) := by decide +kernel
theorem dX12_isDown_1 : decode cX12_isDown 1 = .ok (.getfield 13, 3) := by decide +kernel
theorem dX12_isDown_4 : decode cX12_isDown 4 = .ok (.iload_n 1, 1) := by decide +kernel
theorem dX12_isDown_5 : decode cX12_isDown 5 = .ok (.iconst 0, 1) := by decide +kernel
theorem dX12_isDown_6 : decode cX12_isDown 6 = .ok (.invokestatic 56, 3) := by decide +kernel
theorem dX12_isDown_9 : decode cX12_isDown 9 = .ok (.iconst 0, 1) := by decide +kernel
theorem dX12_isDown_10 : decode cX12_isDown 10 = .ok (.iastore, 1) := by decide +kernel
theorem dX12_isDown_11 : decode cX12_isDown 11 = .ok (.aload_n 0, 1) := by decide +kernel
theorem dX12_isDown_12 : decode cX12_isDown 12 = .ok (.getfield 13, 3) := by decide +kernel
theorem dX12_isDown_15 : decode cX12_isDown 15 = .ok (.iload_n 1, 1) := by decide +kernel
theorem dX12_isDown_16 : decode cX12_isDown 16 = .ok (.iconst 1, 1) := by decide +kernel
theorem dX12_isDown_17 : decode cX12_isDown 17 = .ok (.invokestatic 56, 3) := by decide +kernel
theorem dX12_isDown_20 : decode cX12_isDown 20 = .ok (.aload_n 0, 1) := by decide +kernel
theorem dX12_isDown_21 : decode cX12_isDown 21 = .ok (.getfield 13, 3) := by decide +kernel
theorem dX12_isDown_24 : decode cX12_isDown 24 = .ok (.iconst 4, 1) := by decide +kernel
theorem dX12_isDown_25 : decode cX12_isDown 25 = .ok (.iaload, 1) := by decide +kernel
theorem dX12_isDown_26 : decode cX12_isDown 26 = .ok (.iastore, 1) := by decide +kernel
theorem dX12_isDown_27 : decode cX12_isDown 27 = .ok (.return_, 1) := by decide +kernel
theorem dX12_proposes_0 : decode cX12_proposes 0 = .ok (.aload_n 0, 1) := by decide +kernel
theorem dX12_proposes_1 : decode cX12_proposes 1 = .ok (.getfield 13, 3) := by decide +kernel
theorem dX12_proposes_4 : decode cX12_proposes 4 = .ok (.iload_n 1, 1) := by decide +kernel
theorem dX12_proposes_5 : decode cX12_proposes 5 = .ok (.iconst 2, 1) := by decide +kernel
theorem dX12_proposes_6 : decode cX12_proposes 6 = .ok (.invokestatic 56, 3) := by decide +kernel
theorem dX12_proposes_9 : decode cX12_proposes 9 = .ok (.dup2, 1) := by decide +kernel
theorem dX12_proposes_10 : decode cX12_proposes 10 = .ok (.iaload, 1) := by decide +kernel
theorem dX12_proposes_11 : decode cX12_proposes 11 = .ok (.iconst 1, 1) := by decide +kernel
theorem dX12_proposes_12 : decode cX12_proposes 12 = .ok (.iadd, 1) := by decide +kernel
theorem dX12_proposes_13 : decode cX12_proposes 13 = .ok (.iastore, 1) := by decide +kernel
theorem dX12_proposes_14 : decode cX12_proposes 14 = .ok (.aload_n 0, 1) := by decide +kernel
theorem dX12_proposes_15 : decode cX12_proposes 15 = .ok (.iload_n 1, 1) := by decide +kernel
theorem dX12_proposes_16 : decode cX12_proposes 16 = .ok (.iload_n 2, 1) := by decide +kernel
theorem dX12_proposes_17 : decode cX12_proposes 17 = .ok (.iconst 0, 1) := by decide +kernel
theorem dX12_proposes_18 : decode cX12_proposes 18 = .ok (.iconst 1, 1) := by decide +kernel
theorem dX12_proposes_19 : decode cX12_proposes 19 = .ok (.invokevirtual 203, 3) := by decide +kernel
theorem dX12_proposes_22 : decode cX12_proposes 22 = .ok (.aload_n 0, 1) := by decide +kernel
theorem dX12_proposes_23 : decode cX12_proposes 23 = .ok (.iload_n 1, 1) := by decide +kernel
theorem dX12_proposes_24 : decode cX12_proposes 24 = .ok (.iload_n 2, 1) := by decide +kernel
theorem dX12_proposes_25 : decode cX12_proposes 25 = .ok (.iconst 1, 1) := by decide +kernel
theorem dX12_proposes_26 : decode cX12_proposes 26 = .ok (.aload_n 0, 1) := by decide +kernel
theorem dX12_proposes_27 : decode cX12_proposes 27 = .ok (.iload_n 1, 1) := by decide +kernel
theorem dX12_proposes_28 : decode cX12_proposes 28 = .ok (.iconst 2, 1) := by decide +kernel
theorem dX12_proposes_29 : decode cX12_proposes 29 = .ok (.invokevirtual 77, 3) := by decide +kernel
theorem dX12_proposes_32 : decode cX12_proposes 32 = .ok (.invokevirtual 203, 3) := by decide +kernel
theorem dX12_proposes_35 : decode cX12_proposes 35 = .ok (.aload_n 0, 1) := by decide +kernel
theorem dX12_proposes_36 : decode cX12_proposes 36 = .ok (.iload_n 1, 1) := by decide +kernel
theorem dX12_proposes_37 : decode cX12_proposes 37 = .ok (.iload_n 2, 1) := by decide +kernel
theorem dX12_proposes_38 : decode cX12_proposes 38 = .ok (.iconst 2, 1) := by decide +kernel
theorem dX12_proposes_39 : decode cX12_proposes 39 = .ok (.iload_n 1, 1) := by decide +kernel
theorem dX12_proposes_40 : decode cX12_proposes 40 = .ok (.invokevirtual 203, 3) := by decide +kernel
theorem dX12_proposes_43 : decode cX12_proposes 43 = .ok (.aload_n 0, 1) := by decide +kernel
theorem dX12_proposes_44 : decode cX12_proposes 44 = .ok (.iload_n 1, 1) := by decide +kernel
theorem dX12_proposes_45 : decode cX12_proposes 45 = .ok (.iload_n 2, 1) := by decide +kernel
theorem dX12_proposes_46 : decode cX12_proposes 46 = .ok (.iconst 3, 1) := by decide +kernel
theorem dX12_proposes_47 : decode cX12_proposes 47 = .ok (.iload_n 3, 1) := by decide +kernel
theorem dX12_proposes_48 : decode cX12_proposes 48 = .ok (.invokevirtual 203, 3) := by decide +kernel
theorem dX12_proposes_51 : decode cX12_proposes 51 = .ok (.return_, 1) := by decide +kernel
theorem dX12_hearsRequest_0 : decode cX12_hearsRequest 0 = .ok (.aload_n 0, 1) := by decide +kernel
theorem dX12_hearsRequest_1 : decode cX12_hearsRequest 1 = .ok (.iload_n 1, 1) := by decide +kernel
theorem dX12_hearsRequest_2 : decode cX12_hearsRequest 2 = .ok (.iload_n 3, 1) := by decide +kernel
theorem dX12_hearsRequest_3 : decode cX12_hearsRequest 3 = .ok (.iconst 0, 1) := by decide +kernel
theorem dX12_hearsRequest_4 : decode cX12_hearsRequest 4 = .ok (.invokevirtual 219, 3) := by decide +kernel
theorem dX12_hearsRequest_7 : decode cX12_hearsRequest 7 = .ok (.ifCond .eq 4, 3) := by decide +kernel
theorem dX12_hearsRequest_10 : decode cX12_hearsRequest 10 = .ok (.return_, 1) := by decide +kernel
theorem dX12_hearsRequest_11 : decode cX12_hearsRequest 11 = .ok (.aload_n 0, 1) := by decide +kernel
theorem dX12_hearsRequest_12 : decode cX12_hearsRequest 12 = .ok (.iload_n 1, 1) := by decide +kernel
theorem dX12_hearsRequest_13 : decode cX12_hearsRequest 13 = .ok (.iload_n 3, 1) := by decide +kernel
theorem dX12_hearsRequest_14 : decode cX12_hearsRequest 14 = .ok (.iload_n 2, 1) := by decide +kernel
theorem dX12_hearsRequest_15 : decode cX12_hearsRequest 15 = .ok (.invokevirtual 222, 3) := by decide +kernel
theorem dX12_hearsRequest_18 : decode cX12_hearsRequest 18 = .ok (.aload_n 0, 1) := by decide +kernel
theorem dX12_hearsRequest_19 : decode cX12_hearsRequest 19 = .ok (.iload_n 1, 1) := by decide +kernel
theorem dX12_hearsRequest_20 : decode cX12_hearsRequest 20 = .ok (.iload_n 2, 1) := by decide +kernel
theorem dX12_hearsRequest_21 : decode cX12_hearsRequest 21 = .ok (.iconst 1, 1) := by decide +kernel
theorem dX12_hearsRequest_22 : decode cX12_hearsRequest 22 = .ok (.iload_n 3, 1) := by decide +kernel
theorem dX12_hearsRequest_23 : decode cX12_hearsRequest 23 = .ok (.aload_n 0, 1) := by decide +kernel
theorem dX12_hearsRequest_24 : decode cX12_hearsRequest 24 = .ok (.iload_n 1, 1) := by decide +kernel
theorem dX12_hearsRequest_25 : decode cX12_hearsRequest 25 = .ok (.iload_n 3, 1) := by decide +kernel
theorem dX12_hearsRequest_26 : decode cX12_hearsRequest 26 = .ok (.iconst 1, 1) := by decide +kernel
theorem dX12_hearsRequest_27 : decode cX12_hearsRequest 27 = .ok (.invokevirtual 219, 3) := by decide +kernel
theorem dX12_hearsRequest_30 : decode cX12_hearsRequest 30 = .ok (.iload_n 1, 1) := by decide +kernel
theorem dX12_hearsRequest_31 : decode cX12_hearsRequest 31 = .ok (.iconst 0, 1) := by decide +kernel
theorem dX12_hearsRequest_32 : decode cX12_hearsRequest 32 = .ok (.invokevirtual 199, 3) := by decide +kernel
theorem dX12_hearsRequest_35 : decode cX12_hearsRequest 35 = .ok (.return_, 1) := by decide +kernel
theorem dX12_goesUp_0 : decode cX12_goesUp 0 = .ok (.aload_n 0, 1) := by decide +kernel
theorem dX12_goesUp_1 : decode cX12_goesUp 1 = .ok (.iload_n 1, 1) := by decide +kernel
theorem dX12_goesUp_2 : decode cX12_goesUp 2 = .ok (.iload_n 2, 1) := by decide +kernel
theorem dX12_goesUp_3 : decode cX12_goesUp 3 = .ok (.iload_n 3, 1) := by decide +kernel
theorem dX12_goesUp_4 : decode cX12_goesUp 4 = .ok (.invokevirtual 219, 3) := by decide +kernel
theorem dX12_goesUp_7 : decode cX12_goesUp 7 = .ok (.aload_n 0, 1) := by decide +kernel
theorem dX12_goesUp_8 : decode cX12_goesUp 8 = .ok (.iload_n 1, 1) := by decide +kernel
theorem dX12_goesUp_9 : decode cX12_goesUp 9 = .ok (.iload_n 2, 1) := by decide +kernel
theorem dX12_goesUp_10 : decode cX12_goesUp 10 = .ok (.iload_n 3, 1) := by decide +kernel
theorem dX12_goesUp_11 : decode cX12_goesUp 11 = .ok (.iconst 1, 1) := by decide +kernel
theorem dX12_goesUp_12 : decode cX12_goesUp 12 = .ok (.iadd, 1) := by decide +kernel
theorem dX12_goesUp_13 : decode cX12_goesUp 13 = .ok (.invokevirtual 219, 3) := by decide +kernel
theorem dX12_goesUp_16 : decode cX12_goesUp 16 = .ok (.iload 4, 2) := by decide +kernel
theorem dX12_goesUp_18 : decode cX12_goesUp 18 = .ok (.iload 5, 2) := by decide +kernel
theorem dX12_goesUp_20 : decode cX12_goesUp 20 = .ok (.invokestatic 225, 3) := by decide +kernel
theorem dX12_goesUp_23 : decode cX12_goesUp 23 = .ok (.ifCond .ne 4, 3) := by decide +kernel
theorem dX12_goesUp_26 : decode cX12_goesUp 26 = .ok (.return_, 1) := by decide +kernel
theorem dX12_goesUp_27 : decode cX12_goesUp 27 = .ok (.aload_n 0, 1) := by decide +kernel
theorem dX12_goesUp_28 : decode cX12_goesUp 28 = .ok (.iload_n 1, 1) := by decide +kernel
theorem dX12_goesUp_29 : decode cX12_goesUp 29 = .ok (.iload_n 2, 1) := by decide +kernel
theorem dX12_goesUp_30 : decode cX12_goesUp 30 = .ok (.iload_n 3, 1) := by decide +kernel
theorem dX12_goesUp_31 : decode cX12_goesUp 31 = .ok (.iload 4, 2) := by decide +kernel
theorem dX12_goesUp_33 : decode cX12_goesUp 33 = .ok (.invokevirtual 203, 3) := by decide +kernel
theorem dX12_goesUp_36 : decode cX12_goesUp 36 = .ok (.aload_n 0, 1) := by decide +kernel
theorem dX12_goesUp_37 : decode cX12_goesUp 37 = .ok (.iload_n 1, 1) := by decide +kernel
theorem dX12_goesUp_38 : decode cX12_goesUp 38 = .ok (.iload_n 2, 1) := by decide +kernel
theorem dX12_goesUp_39 : decode cX12_goesUp 39 = .ok (.iload_n 3, 1) := by decide +kernel
theorem dX12_goesUp_40 : decode cX12_goesUp 40 = .ok (.iconst 1, 1) := by decide +kernel
theorem dX12_goesUp_41 : decode cX12_goesUp 41 = .ok (.iadd, 1) := by decide +kernel
theorem dX12_goesUp_42 : decode cX12_goesUp 42 = .ok (.iload 5, 2) := by decide +kernel
theorem dX12_goesUp_44 : decode cX12_goesUp 44 = .ok (.invokevirtual 203, 3) := by decide +kernel
theorem dX12_goesUp_47 : decode cX12_goesUp 47 = .ok (.return_, 1) := by decide +kernel
theorem dX12_hearsStamp_0 : decode cX12_hearsStamp 0 = .ok (.aload_n 0, 1) := by decide +kernel
theorem dX12_hearsStamp_1 : decode cX12_hearsStamp 1 = .ok (.iload_n 1, 1) := by decide +kernel
theorem dX12_hearsStamp_2 : decode cX12_hearsStamp 2 = .ok (.iload_n 3, 1) := by decide +kernel
theorem dX12_hearsStamp_3 : decode cX12_hearsStamp 3 = .ok (.iconst 5, 1) := by decide +kernel
theorem dX12_hearsStamp_4 : decode cX12_hearsStamp 4 = .ok (.invokevirtual 219, 3) := by decide +kernel
theorem dX12_hearsStamp_7 : decode cX12_hearsStamp 7 = .ok (.ifCond .ne 4, 3) := by decide +kernel
theorem dX12_hearsStamp_10 : decode cX12_hearsStamp 10 = .ok (.return_, 1) := by decide +kernel
theorem dX12_hearsStamp_11 : decode cX12_hearsStamp 11 = .ok (.aload_n 0, 1) := by decide +kernel
theorem dX12_hearsStamp_12 : decode cX12_hearsStamp 12 = .ok (.iload_n 1, 1) := by decide +kernel
theorem dX12_hearsStamp_13 : decode cX12_hearsStamp 13 = .ok (.iload_n 3, 1) := by decide +kernel
theorem dX12_hearsStamp_14 : decode cX12_hearsStamp 14 = .ok (.bipush 6, 2) := by decide +kernel
theorem dX12_hearsStamp_16 : decode cX12_hearsStamp 16 = .ok (.aload_n 0, 1) := by decide +kernel
theorem dX12_hearsStamp_17 : decode cX12_hearsStamp 17 = .ok (.iload_n 1, 1) := by decide +kernel
theorem dX12_hearsStamp_18 : decode cX12_hearsStamp 18 = .ok (.iload_n 3, 1) := by decide +kernel
theorem dX12_hearsStamp_19 : decode cX12_hearsStamp 19 = .ok (.bipush 6, 2) := by decide +kernel
theorem dX12_hearsStamp_21 : decode cX12_hearsStamp 21 = .ok (.invokevirtual 219, 3) := by decide +kernel
theorem dX12_hearsStamp_24 : decode cX12_hearsStamp 24 = .ok (.iconst 1, 1) := by decide +kernel
theorem dX12_hearsStamp_25 : decode cX12_hearsStamp 25 = .ok (.iload_n 2, 1) := by decide +kernel
theorem dX12_hearsStamp_26 : decode cX12_hearsStamp 26 = .ok (.ishl, 1) := by decide +kernel
theorem dX12_hearsStamp_27 : decode cX12_hearsStamp 27 = .ok (.ior, 1) := by decide +kernel
theorem dX12_hearsStamp_28 : decode cX12_hearsStamp 28 = .ok (.invokevirtual 203, 3) := by decide +kernel
theorem dX12_hearsStamp_31 : decode cX12_hearsStamp 31 = .ok (.aload_n 0, 1) := by decide +kernel
theorem dX12_hearsStamp_32 : decode cX12_hearsStamp 32 = .ok (.iload_n 1, 1) := by decide +kernel
theorem dX12_hearsStamp_33 : decode cX12_hearsStamp 33 = .ok (.iload_n 3, 1) := by decide +kernel
theorem dX12_hearsStamp_34 : decode cX12_hearsStamp 34 = .ok (.bipush 7, 2) := by decide +kernel
theorem dX12_hearsStamp_36 : decode cX12_hearsStamp 36 = .ok (.iload 4, 2) := by decide +kernel
theorem dX12_hearsStamp_38 : decode cX12_hearsStamp 38 = .ok (.iload 5, 2) := by decide +kernel
theorem dX12_hearsStamp_40 : decode cX12_hearsStamp 40 = .ok (.invokevirtual 229, 3) := by decide +kernel
theorem dX12_hearsStamp_43 : decode cX12_hearsStamp 43 = .ok (.iload 6, 2) := by decide +kernel
theorem dX12_hearsStamp_45 : decode cX12_hearsStamp 45 = .ok (.ifCond .eq 15, 3) := by decide +kernel
theorem dX12_hearsStamp_48 : decode cX12_hearsStamp 48 = .ok (.aload_n 0, 1) := by decide +kernel
theorem dX12_hearsStamp_49 : decode cX12_hearsStamp 49 = .ok (.iload_n 1, 1) := by decide +kernel
theorem dX12_hearsStamp_50 : decode cX12_hearsStamp 50 = .ok (.iload_n 3, 1) := by decide +kernel
theorem dX12_hearsStamp_51 : decode cX12_hearsStamp 51 = .ok (.bipush 9, 2) := by decide +kernel
theorem dX12_hearsStamp_53 : decode cX12_hearsStamp 53 = .ok (.iload 4, 2) := by decide +kernel
theorem dX12_hearsStamp_55 : decode cX12_hearsStamp 55 = .ok (.iload 5, 2) := by decide +kernel
theorem dX12_hearsStamp_57 : decode cX12_hearsStamp 57 = .ok (.invokevirtual 229, 3) := by decide +kernel
theorem dX12_hearsStamp_60 : decode cX12_hearsStamp 60 = .ok (.return_, 1) := by decide +kernel
theorem dX12_hearsFinal_0 : decode cX12_hearsFinal 0 = .ok (.aload_n 0, 1) := by decide +kernel
theorem dX12_hearsFinal_1 : decode cX12_hearsFinal 1 = .ok (.getfield 13, 3) := by decide +kernel
theorem dX12_hearsFinal_4 : decode cX12_hearsFinal 4 = .ok (.iload_n 1, 1) := by decide +kernel
theorem dX12_hearsFinal_5 : decode cX12_hearsFinal 5 = .ok (.iconst 2, 1) := by decide +kernel
theorem dX12_hearsFinal_6 : decode cX12_hearsFinal 6 = .ok (.invokestatic 56, 3) := by decide +kernel
theorem dX12_hearsFinal_9 : decode cX12_hearsFinal 9 = .ok (.aload_n 0, 1) := by decide +kernel
theorem dX12_hearsFinal_10 : decode cX12_hearsFinal 10 = .ok (.iload_n 1, 1) := by decide +kernel
theorem dX12_hearsFinal_11 : decode cX12_hearsFinal 11 = .ok (.iconst 2, 1) := by decide +kernel
theorem dX12_hearsFinal_12 : decode cX12_hearsFinal 12 = .ok (.invokevirtual 77, 3) := by decide +kernel
theorem dX12_hearsFinal_15 : decode cX12_hearsFinal 15 = .ok (.iload 4, 2) := by decide +kernel
theorem dX12_hearsFinal_17 : decode cX12_hearsFinal 17 = .ok (.invokestatic 189, 3) := by decide +kernel
theorem dX12_hearsFinal_20 : decode cX12_hearsFinal 20 = .ok (.iastore, 1) := by decide +kernel
theorem dX12_hearsFinal_21 : decode cX12_hearsFinal 21 = .ok (.aload_n 0, 1) := by decide +kernel
theorem dX12_hearsFinal_22 : decode cX12_hearsFinal 22 = .ok (.iload_n 1, 1) := by decide +kernel
theorem dX12_hearsFinal_23 : decode cX12_hearsFinal 23 = .ok (.iload_n 3, 1) := by decide +kernel
theorem dX12_hearsFinal_24 : decode cX12_hearsFinal 24 = .ok (.iconst 0, 1) := by decide +kernel
theorem dX12_hearsFinal_25 : decode cX12_hearsFinal 25 = .ok (.invokevirtual 219, 3) := by decide +kernel
theorem dX12_hearsFinal_28 : decode cX12_hearsFinal 28 = .ok (.istore 6, 2) := by decide +kernel
theorem dX12_hearsFinal_30 : decode cX12_hearsFinal 30 = .ok (.iload 6, 2) := by decide +kernel
theorem dX12_hearsFinal_32 : decode cX12_hearsFinal 32 = .ok (.iconst 2, 1) := by decide +kernel
theorem dX12_hearsFinal_33 : decode cX12_hearsFinal 33 = .ok (.if_icmp .ge 20, 3) := by decide +kernel
theorem dX12_hearsFinal_36 : decode cX12_hearsFinal 36 = .ok (.iload 6, 2) := by decide +kernel
theorem dX12_hearsFinal_38 : decode cX12_hearsFinal 38 = .ok (.iconst 1, 1) := by decide +kernel
theorem dX12_hearsFinal_39 : decode cX12_hearsFinal 39 = .ok (.if_icmp .ne 15, 3) := by decide +kernel
theorem dX12_hearsFinal_42 : decode cX12_hearsFinal 42 = .ok (.aload_n 0, 1) := by decide +kernel
theorem dX12_hearsFinal_43 : decode cX12_hearsFinal 43 = .ok (.iload_n 1, 1) := by decide +kernel
theorem dX12_hearsFinal_44 : decode cX12_hearsFinal 44 = .ok (.iload_n 3, 1) := by decide +kernel
theorem dX12_hearsFinal_45 : decode cX12_hearsFinal 45 = .ok (.iconst 3, 1) := by decide +kernel
theorem dX12_hearsFinal_46 : decode cX12_hearsFinal 46 = .ok (.invokevirtual 219, 3) := by decide +kernel
theorem dX12_hearsFinal_49 : decode cX12_hearsFinal 49 = .ok (.iload_n 2, 1) := by decide +kernel
theorem dX12_hearsFinal_50 : decode cX12_hearsFinal 50 = .ok (.if_icmp .eq 4, 3) := by decide +kernel
theorem dX12_hearsFinal_53 : decode cX12_hearsFinal 53 = .ok (.return_, 1) := by decide +kernel
theorem dX12_hearsFinal_54 : decode cX12_hearsFinal 54 = .ok (.aload_n 0, 1) := by decide +kernel
theorem dX12_hearsFinal_55 : decode cX12_hearsFinal 55 = .ok (.iload_n 1, 1) := by decide +kernel
theorem dX12_hearsFinal_56 : decode cX12_hearsFinal 56 = .ok (.iload_n 3, 1) := by decide +kernel
theorem dX12_hearsFinal_57 : decode cX12_hearsFinal 57 = .ok (.iconst 0, 1) := by decide +kernel
theorem dX12_hearsFinal_58 : decode cX12_hearsFinal 58 = .ok (.iconst 2, 1) := by decide +kernel
theorem dX12_hearsFinal_59 : decode cX12_hearsFinal 59 = .ok (.invokevirtual 203, 3) := by decide +kernel
theorem dX12_hearsFinal_62 : decode cX12_hearsFinal 62 = .ok (.aload_n 0, 1) := by decide +kernel
theorem dX12_hearsFinal_63 : decode cX12_hearsFinal 63 = .ok (.iload_n 1, 1) := by decide +kernel
theorem dX12_hearsFinal_64 : decode cX12_hearsFinal 64 = .ok (.iload_n 3, 1) := by decide +kernel
theorem dX12_hearsFinal_65 : decode cX12_hearsFinal 65 = .ok (.iconst 1, 1) := by decide +kernel
theorem dX12_hearsFinal_66 : decode cX12_hearsFinal 66 = .ok (.iload 4, 2) := by decide +kernel
theorem dX12_hearsFinal_68 : decode cX12_hearsFinal 68 = .ok (.invokevirtual 203, 3) := by decide +kernel
theorem dX12_hearsFinal_71 : decode cX12_hearsFinal 71 = .ok (.aload_n 0, 1) := by decide +kernel
theorem dX12_hearsFinal_72 : decode cX12_hearsFinal 72 = .ok (.iload_n 1, 1) := by decide +kernel
theorem dX12_hearsFinal_73 : decode cX12_hearsFinal 73 = .ok (.iload_n 3, 1) := by decide +kernel
theorem dX12_hearsFinal_74 : decode cX12_hearsFinal 74 = .ok (.iconst 2, 1) := by decide +kernel
theorem dX12_hearsFinal_75 : decode cX12_hearsFinal 75 = .ok (.iload 5, 2) := by decide +kernel
theorem dX12_hearsFinal_77 : decode cX12_hearsFinal 77 = .ok (.invokevirtual 203, 3) := by decide +kernel
theorem dX12_hearsFinal_80 : decode cX12_hearsFinal 80 = .ok (.iload 6, 2) := by decide +kernel
theorem dX12_hearsFinal_82 : decode cX12_hearsFinal 82 = .ok (.ifCond .ne 11, 3) := by decide +kernel
theorem dX12_hearsFinal_85 : decode cX12_hearsFinal 85 = .ok (.aload_n 0, 1) := by decide +kernel
theorem dX12_hearsFinal_86 : decode cX12_hearsFinal 86 = .ok (.iload_n 1, 1) := by decide +kernel
theorem dX12_hearsFinal_87 : decode cX12_hearsFinal 87 = .ok (.iload_n 3, 1) := by decide +kernel
theorem dX12_hearsFinal_88 : decode cX12_hearsFinal 88 = .ok (.iconst 3, 1) := by decide +kernel
theorem dX12_hearsFinal_89 : decode cX12_hearsFinal 89 = .ok (.iload_n 2, 1) := by decide +kernel
theorem dX12_hearsFinal_90 : decode cX12_hearsFinal 90 = .ok (.invokevirtual 203, 3) := by decide +kernel
theorem dX12_hearsFinal_93 : decode cX12_hearsFinal 93 = .ok (.return_, 1) := by decide +kernel
theorem dX12_hearsTake_0 : decode cX12_hearsTake 0 = .ok (.aload_n 0, 1) := by decide +kernel
theorem dX12_hearsTake_1 : decode cX12_hearsTake 1 = .ok (.iload_n 1, 1) := by decide +kernel
theorem dX12_hearsTake_2 : decode cX12_hearsTake 2 = .ok (.iload_n 3, 1) := by decide +kernel
theorem dX12_hearsTake_3 : decode cX12_hearsTake 3 = .ok (.iconst 0, 1) := by decide +kernel
theorem dX12_hearsTake_4 : decode cX12_hearsTake 4 = .ok (.invokevirtual 219, 3) := by decide +kernel
theorem dX12_hearsTake_7 : decode cX12_hearsTake 7 = .ok (.ifCond .ne 10, 3) := by decide +kernel
theorem dX12_hearsTake_10 : decode cX12_hearsTake 10 = .ok (.aload_n 0, 1) := by decide +kernel
theorem dX12_hearsTake_11 : decode cX12_hearsTake 11 = .ok (.iload_n 1, 1) := by decide +kernel
theorem dX12_hearsTake_12 : decode cX12_hearsTake 12 = .ok (.iload_n 3, 1) := by decide +kernel
theorem dX12_hearsTake_13 : decode cX12_hearsTake 13 = .ok (.iload_n 2, 1) := by decide +kernel
theorem dX12_hearsTake_14 : decode cX12_hearsTake 14 = .ok (.invokevirtual 222, 3) := by decide +kernel
theorem dX12_hearsTake_17 : decode cX12_hearsTake 17 = .ok (.aload_n 0, 1) := by decide +kernel
theorem dX12_hearsTake_18 : decode cX12_hearsTake 18 = .ok (.iload_n 1, 1) := by decide +kernel
theorem dX12_hearsTake_19 : decode cX12_hearsTake 19 = .ok (.iload_n 3, 1) := by decide +kernel
theorem dX12_hearsTake_20 : decode cX12_hearsTake 20 = .ok (.iconst 3, 1) := by decide +kernel
theorem dX12_hearsTake_21 : decode cX12_hearsTake 21 = .ok (.iload_n 2, 1) := by decide +kernel
theorem dX12_hearsTake_22 : decode cX12_hearsTake 22 = .ok (.invokevirtual 203, 3) := by decide +kernel
theorem dX12_hearsTake_25 : decode cX12_hearsTake 25 = .ok (.aload_n 0, 1) := by decide +kernel
theorem dX12_hearsTake_26 : decode cX12_hearsTake 26 = .ok (.iload_n 1, 1) := by decide +kernel
theorem dX12_hearsTake_27 : decode cX12_hearsTake 27 = .ok (.iload_n 2, 1) := by decide +kernel
theorem dX12_hearsTake_28 : decode cX12_hearsTake 28 = .ok (.iconst 4, 1) := by decide +kernel
theorem dX12_hearsTake_29 : decode cX12_hearsTake 29 = .ok (.iload_n 3, 1) := by decide +kernel
theorem dX12_hearsTake_30 : decode cX12_hearsTake 30 = .ok (.aload_n 0, 1) := by decide +kernel
theorem dX12_hearsTake_31 : decode cX12_hearsTake 31 = .ok (.iload_n 1, 1) := by decide +kernel
theorem dX12_hearsTake_32 : decode cX12_hearsTake 32 = .ok (.iload_n 3, 1) := by decide +kernel
theorem dX12_hearsTake_33 : decode cX12_hearsTake 33 = .ok (.iconst 1, 1) := by decide +kernel
theorem dX12_hearsTake_34 : decode cX12_hearsTake 34 = .ok (.invokevirtual 219, 3) := by decide +kernel
theorem dX12_hearsTake_37 : decode cX12_hearsTake 37 = .ok (.aload_n 0, 1) := by decide +kernel
theorem dX12_hearsTake_38 : decode cX12_hearsTake 38 = .ok (.iload_n 1, 1) := by decide +kernel
theorem dX12_hearsTake_39 : decode cX12_hearsTake 39 = .ok (.iload_n 3, 1) := by decide +kernel
theorem dX12_hearsTake_40 : decode cX12_hearsTake 40 = .ok (.iconst 2, 1) := by decide +kernel
theorem dX12_hearsTake_41 : decode cX12_hearsTake 41 = .ok (.invokevirtual 219, 3) := by decide +kernel
theorem dX12_hearsTake_44 : decode cX12_hearsTake 44 = .ok (.aload_n 0, 1) := by decide +kernel
theorem dX12_hearsTake_45 : decode cX12_hearsTake 45 = .ok (.iload_n 1, 1) := by decide +kernel
theorem dX12_hearsTake_46 : decode cX12_hearsTake 46 = .ok (.iload_n 3, 1) := by decide +kernel
theorem dX12_hearsTake_47 : decode cX12_hearsTake 47 = .ok (.iconst 0, 1) := by decide +kernel
theorem dX12_hearsTake_48 : decode cX12_hearsTake 48 = .ok (.invokevirtual 219, 3) := by decide +kernel
theorem dX12_hearsTake_51 : decode cX12_hearsTake 51 = .ok (.iconst 2, 1) := by decide +kernel
theorem dX12_hearsTake_52 : decode cX12_hearsTake 52 = .ok (.if_icmp .lt 7, 3) := by decide +kernel
theorem dX12_hearsTake_55 : decode cX12_hearsTake 55 = .ok (.iconst 1, 1) := by decide +kernel
theorem dX12_hearsTake_56 : decode cX12_hearsTake 56 = .ok (.goto 4, 3) := by decide +kernel
theorem dX12_hearsTake_59 : decode cX12_hearsTake 59 = .ok (.iconst 0, 1) := by decide +kernel
theorem dX12_hearsTake_60 : decode cX12_hearsTake 60 = .ok (.invokevirtual 199, 3) := by decide +kernel
theorem dX12_hearsTake_63 : decode cX12_hearsTake 63 = .ok (.return_, 1) := by decide +kernel
theorem dX12_hears_0 : decode cX12_hears 0 = .ok (.aload_n 0, 1) := by decide +kernel
theorem dX12_hears_1 : decode cX12_hears 1 = .ok (.getfield 40, 3) := by decide +kernel
theorem dX12_hears_4 : decode cX12_hears 4 = .ok (.iconst 2, 1) := by decide +kernel
theorem dX12_hears_5 : decode cX12_hears 5 = .ok (.iaload, 1) := by decide +kernel
theorem dX12_hears_6 : decode cX12_hears 6 = .ok (.istore_n 3, 1) := by decide +kernel
theorem dX12_hears_7 : decode cX12_hears 7 = .ok (.aload_n 0, 1) := by decide +kernel
theorem dX12_hears_8 : decode cX12_hears 8 = .ok (.getfield 40, 3) := by decide +kernel
theorem dX12_hears_11 : decode cX12_hears 11 = .ok (.iconst 3, 1) := by decide +kernel
theorem dX12_hears_12 : decode cX12_hears 12 = .ok (.iaload, 1) := by decide +kernel
theorem dX12_hears_13 : decode cX12_hears 13 = .ok (.istore 4, 2) := by decide +kernel
theorem dX12_hears_15 : decode cX12_hears 15 = .ok (.aload_n 0, 1) := by decide +kernel
theorem dX12_hears_16 : decode cX12_hears 16 = .ok (.getfield 40, 3) := by decide +kernel
theorem dX12_hears_19 : decode cX12_hears 19 = .ok (.iconst 4, 1) := by decide +kernel
theorem dX12_hears_20 : decode cX12_hears 20 = .ok (.iaload, 1) := by decide +kernel
theorem dX12_hears_21 : decode cX12_hears 21 = .ok (.istore 5, 2) := by decide +kernel
theorem dX12_hears_23 : decode cX12_hears 23 = .ok (.aload_n 0, 1) := by decide +kernel
theorem dX12_hears_24 : decode cX12_hears 24 = .ok (.getfield 40, 3) := by decide +kernel
theorem dX12_hears_27 : decode cX12_hears 27 = .ok (.iconst 1, 1) := by decide +kernel
theorem dX12_hears_28 : decode cX12_hears 28 = .ok (.iaload, 1) := by decide +kernel
theorem dX12_hears_29 : decode cX12_hears 29 = .ok (.tableswitch 80 0 3 #[31, 41, 56, 70], 31) := by decide +kernel
theorem dX12_hears_60 : decode cX12_hears 60 = .ok (.aload_n 0, 1) := by decide +kernel
theorem dX12_hears_61 : decode cX12_hears 61 = .ok (.iload_n 2, 1) := by decide +kernel
theorem dX12_hears_62 : decode cX12_hears 62 = .ok (.iload_n 1, 1) := by decide +kernel
theorem dX12_hears_63 : decode cX12_hears 63 = .ok (.iload_n 3, 1) := by decide +kernel
theorem dX12_hears_64 : decode cX12_hears 64 = .ok (.invokevirtual 232, 3) := by decide +kernel
theorem dX12_hears_67 : decode cX12_hears 67 = .ok (.goto 68, 3) := by decide +kernel
theorem dX12_hears_70 : decode cX12_hears 70 = .ok (.aload_n 0, 1) := by decide +kernel
theorem dX12_hears_71 : decode cX12_hears 71 = .ok (.iload_n 2, 1) := by decide +kernel
theorem dX12_hears_72 : decode cX12_hears 72 = .ok (.iload_n 1, 1) := by decide +kernel
theorem dX12_hears_73 : decode cX12_hears 73 = .ok (.iload_n 3, 1) := by decide +kernel
theorem dX12_hears_74 : decode cX12_hears 74 = .ok (.iload 4, 2) := by decide +kernel
theorem dX12_hears_76 : decode cX12_hears 76 = .ok (.iload 5, 2) := by decide +kernel
theorem dX12_hears_78 : decode cX12_hears 78 = .ok (.iconst 0, 1) := by decide +kernel
theorem dX12_hears_79 : decode cX12_hears 79 = .ok (.invokevirtual 235, 3) := by decide +kernel
theorem dX12_hears_82 : decode cX12_hears 82 = .ok (.goto 53, 3) := by decide +kernel
theorem dX12_hears_85 : decode cX12_hears 85 = .ok (.aload_n 0, 1) := by decide +kernel
theorem dX12_hears_86 : decode cX12_hears 86 = .ok (.iload_n 2, 1) := by decide +kernel
theorem dX12_hears_87 : decode cX12_hears 87 = .ok (.iload_n 1, 1) := by decide +kernel
theorem dX12_hears_88 : decode cX12_hears 88 = .ok (.iload_n 3, 1) := by decide +kernel
theorem dX12_hears_89 : decode cX12_hears 89 = .ok (.iload 4, 2) := by decide +kernel
theorem dX12_hears_91 : decode cX12_hears 91 = .ok (.iload 5, 2) := by decide +kernel
theorem dX12_hears_93 : decode cX12_hears 93 = .ok (.invokevirtual 239, 3) := by decide +kernel
theorem dX12_hears_96 : decode cX12_hears 96 = .ok (.goto 39, 3) := by decide +kernel
theorem dX12_hears_99 : decode cX12_hears 99 = .ok (.aload_n 0, 1) := by decide +kernel
theorem dX12_hears_100 : decode cX12_hears 100 = .ok (.iload_n 2, 1) := by decide +kernel
theorem dX12_hears_101 : decode cX12_hears 101 = .ok (.iload_n 1, 1) := by decide +kernel
theorem dX12_hears_102 : decode cX12_hears 102 = .ok (.iload_n 3, 1) := by decide +kernel
theorem dX12_hears_103 : decode cX12_hears 103 = .ok (.invokevirtual 242, 3) := by decide +kernel
theorem dX12_hears_106 : decode cX12_hears 106 = .ok (.goto 29, 3) := by decide +kernel
theorem dX12_hears_109 : decode cX12_hears 109 = .ok (.aload_n 0, 1) := by decide +kernel
theorem dX12_hears_110 : decode cX12_hears 110 = .ok (.iload_n 2, 1) := by decide +kernel
theorem dX12_hears_111 : decode cX12_hears 111 = .ok (.iload_n 1, 1) := by decide +kernel
theorem dX12_hears_112 : decode cX12_hears 112 = .ok (.iload_n 3, 1) := by decide +kernel
theorem dX12_hears_113 : decode cX12_hears 113 = .ok (.iload 4, 2) := by decide +kernel
theorem dX12_hears_115 : decode cX12_hears 115 = .ok (.iload 5, 2) := by decide +kernel
theorem dX12_hears_117 : decode cX12_hears 117 = .ok (.aload_n 0, 1) := by decide +kernel
theorem dX12_hears_118 : decode cX12_hears 118 = .ok (.getfield 40, 3) := by decide +kernel
theorem dX12_hears_121 : decode cX12_hears 121 = .ok (.iconst 5, 1) := by decide +kernel
theorem dX12_hears_122 : decode cX12_hears 122 = .ok (.iaload, 1) := by decide +kernel
theorem dX12_hears_123 : decode cX12_hears 123 = .ok (.iconst 1, 1) := by decide +kernel
theorem dX12_hears_124 : decode cX12_hears 124 = .ok (.if_icmp .ne 7, 3) := by decide +kernel
theorem dX12_hears_127 : decode cX12_hears 127 = .ok (.iconst 1, 1) := by decide +kernel
theorem dX12_hears_128 : decode cX12_hears 128 = .ok (.goto 4, 3) := by decide +kernel
theorem dX12_hears_131 : decode cX12_hears 131 = .ok (.iconst 0, 1) := by decide +kernel
theorem dX12_hears_132 : decode cX12_hears 132 = .ok (.invokevirtual 235, 3) := by decide +kernel
theorem dX12_hears_135 : decode cX12_hears 135 = .ok (.return_, 1) := by decide +kernel
theorem dX12_hearsAll_0 : decode cX12_hearsAll 0 = .ok (.aload_n 0, 1) := by decide +kernel
theorem dX12_hearsAll_1 : decode cX12_hearsAll 1 = .ok (.iload_n 1, 1) := by decide +kernel
theorem dX12_hearsAll_2 : decode cX12_hearsAll 2 = .ok (.iload_n 2, 1) := by decide +kernel
theorem dX12_hearsAll_3 : decode cX12_hearsAll 3 = .ok (.iconst 2, 1) := by decide +kernel
theorem dX12_hearsAll_4 : decode cX12_hearsAll 4 = .ok (.invokevirtual 184, 3) := by decide +kernel
theorem dX12_hearsAll_7 : decode cX12_hearsAll 7 = .ok (.ifCond .le 139, 3) := by decide +kernel
theorem dX12_hearsAll_10 : decode cX12_hearsAll 10 = .ok (.aload_n 0, 1) := by decide +kernel
theorem dX12_hearsAll_11 : decode cX12_hearsAll 11 = .ok (.getfield 13, 3) := by decide +kernel
theorem dX12_hearsAll_14 : decode cX12_hearsAll 14 = .ok (.iload_n 1, 1) := by decide +kernel
theorem dX12_hearsAll_15 : decode cX12_hearsAll 15 = .ok (.iload_n 2, 1) := by decide +kernel
theorem dX12_hearsAll_16 : decode cX12_hearsAll 16 = .ok (.iconst 0, 1) := by decide +kernel
theorem dX12_hearsAll_17 : decode cX12_hearsAll 17 = .ok (.iconst 0, 1) := by decide +kernel
theorem dX12_hearsAll_18 : decode cX12_hearsAll 18 = .ok (.invokestatic 192, 3) := by decide +kernel
theorem dX12_hearsAll_21 : decode cX12_hearsAll 21 = .ok (.iaload, 1) := by decide +kernel
theorem dX12_hearsAll_22 : decode cX12_hearsAll 22 = .ok (.aload_n 0, 1) := by decide +kernel
theorem dX12_hearsAll_23 : decode cX12_hearsAll 23 = .ok (.getfield 13, 3) := by decide +kernel
theorem dX12_hearsAll_26 : decode cX12_hearsAll 26 = .ok (.iconst 4, 1) := by decide +kernel
theorem dX12_hearsAll_27 : decode cX12_hearsAll 27 = .ok (.iaload, 1) := by decide +kernel
theorem dX12_hearsAll_28 : decode cX12_hearsAll 28 = .ok (.if_icmp .gt 118, 3) := by decide +kernel
theorem dX12_hearsAll_31 : decode cX12_hearsAll 31 = .ok (.iload_n 1, 1) := by decide +kernel
theorem dX12_hearsAll_32 : decode cX12_hearsAll 32 = .ok (.iload_n 2, 1) := by decide +kernel
theorem dX12_hearsAll_33 : decode cX12_hearsAll 33 = .ok (.iconst 0, 1) := by decide +kernel
theorem dX12_hearsAll_34 : decode cX12_hearsAll 34 = .ok (.iconst 0, 1) := by decide +kernel
theorem dX12_hearsAll_35 : decode cX12_hearsAll 35 = .ok (.invokestatic 192, 3) := by decide +kernel
theorem dX12_hearsAll_38 : decode cX12_hearsAll 38 = .ok (.istore_n 3, 1) := by decide +kernel
theorem dX12_hearsAll_39 : decode cX12_hearsAll 39 = .ok (.bipush 6, 2) := by decide +kernel
theorem dX12_hearsAll_41 : decode cX12_hearsAll 41 = .ok (.aload_n 0, 1) := by decide +kernel
theorem dX12_hearsAll_42 : decode cX12_hearsAll 42 = .ok (.iload_n 1, 1) := by decide +kernel
theorem dX12_hearsAll_43 : decode cX12_hearsAll 43 = .ok (.iload_n 2, 1) := by decide +kernel
theorem dX12_hearsAll_44 : decode cX12_hearsAll 44 = .ok (.iconst 2, 1) := by decide +kernel
theorem dX12_hearsAll_45 : decode cX12_hearsAll 45 = .ok (.invokevirtual 184, 3) := by decide +kernel
theorem dX12_hearsAll_48 : decode cX12_hearsAll 48 = .ok (.iconst 1, 1) := by decide +kernel
theorem dX12_hearsAll_49 : decode cX12_hearsAll 49 = .ok (.isub, 1) := by decide +kernel
theorem dX12_hearsAll_50 : decode cX12_hearsAll 50 = .ok (.imul, 1) := by decide +kernel
theorem dX12_hearsAll_51 : decode cX12_hearsAll 51 = .ok (.istore 4, 2) := by decide +kernel
theorem dX12_hearsAll_53 : decode cX12_hearsAll 53 = .ok (.iconst 0, 1) := by decide +kernel
theorem dX12_hearsAll_54 : decode cX12_hearsAll 54 = .ok (.istore 5, 2) := by decide +kernel
theorem dX12_hearsAll_56 : decode cX12_hearsAll 56 = .ok (.iload 5, 2) := by decide +kernel
theorem dX12_hearsAll_58 : decode cX12_hearsAll 58 = .ok (.bipush 6, 2) := by decide +kernel
theorem dX12_hearsAll_60 : decode cX12_hearsAll 60 = .ok (.if_icmp .ge 25, 3) := by decide +kernel
theorem dX12_hearsAll_63 : decode cX12_hearsAll 63 = .ok (.aload_n 0, 1) := by decide +kernel
theorem dX12_hearsAll_64 : decode cX12_hearsAll 64 = .ok (.getfield 40, 3) := by decide +kernel
theorem dX12_hearsAll_67 : decode cX12_hearsAll 67 = .ok (.iload 5, 2) := by decide +kernel
theorem dX12_hearsAll_69 : decode cX12_hearsAll 69 = .ok (.aload_n 0, 1) := by decide +kernel
theorem dX12_hearsAll_70 : decode cX12_hearsAll 70 = .ok (.getfield 13, 3) := by decide +kernel
theorem dX12_hearsAll_73 : decode cX12_hearsAll 73 = .ok (.iload_n 3, 1) := by decide +kernel
theorem dX12_hearsAll_74 : decode cX12_hearsAll 74 = .ok (.iload 5, 2) := by decide +kernel
theorem dX12_hearsAll_76 : decode cX12_hearsAll 76 = .ok (.iadd, 1) := by decide +kernel
theorem dX12_hearsAll_77 : decode cX12_hearsAll 77 = .ok (.iaload, 1) := by decide +kernel
theorem dX12_hearsAll_78 : decode cX12_hearsAll 78 = .ok (.iastore, 1) := by decide +kernel
theorem dX12_hearsAll_79 : decode cX12_hearsAll 79 = .ok (.iinc 5 1, 3) := by decide +kernel
theorem dX12_hearsAll_82 : decode cX12_hearsAll 82 = .ok (.goto (-26), 3) := by decide +kernel
theorem dX12_hearsAll_85 : decode cX12_hearsAll 85 = .ok (.iconst 0, 1) := by decide +kernel
theorem dX12_hearsAll_86 : decode cX12_hearsAll 86 = .ok (.istore 5, 2) := by decide +kernel
theorem dX12_hearsAll_88 : decode cX12_hearsAll 88 = .ok (.iload 5, 2) := by decide +kernel
theorem dX12_hearsAll_90 : decode cX12_hearsAll 90 = .ok (.iload 4, 2) := by decide +kernel
theorem dX12_hearsAll_92 : decode cX12_hearsAll 92 = .ok (.if_icmp .ge 30, 3) := by decide +kernel
theorem dX12_hearsAll_95 : decode cX12_hearsAll 95 = .ok (.aload_n 0, 1) := by decide +kernel
theorem dX12_hearsAll_96 : decode cX12_hearsAll 96 = .ok (.getfield 13, 3) := by decide +kernel
theorem dX12_hearsAll_99 : decode cX12_hearsAll 99 = .ok (.iload_n 3, 1) := by decide +kernel
theorem dX12_hearsAll_100 : decode cX12_hearsAll 100 = .ok (.iload 5, 2) := by decide +kernel
theorem dX12_hearsAll_102 : decode cX12_hearsAll 102 = .ok (.iadd, 1) := by decide +kernel
theorem dX12_hearsAll_103 : decode cX12_hearsAll 103 = .ok (.aload_n 0, 1) := by decide +kernel
theorem dX12_hearsAll_104 : decode cX12_hearsAll 104 = .ok (.getfield 13, 3) := by decide +kernel
theorem dX12_hearsAll_107 : decode cX12_hearsAll 107 = .ok (.iload_n 3, 1) := by decide +kernel
theorem dX12_hearsAll_108 : decode cX12_hearsAll 108 = .ok (.iload 5, 2) := by decide +kernel
theorem dX12_hearsAll_110 : decode cX12_hearsAll 110 = .ok (.iadd, 1) := by decide +kernel
theorem dX12_hearsAll_111 : decode cX12_hearsAll 111 = .ok (.bipush 6, 2) := by decide +kernel
theorem dX12_hearsAll_113 : decode cX12_hearsAll 113 = .ok (.iadd, 1) := by decide +kernel
theorem dX12_hearsAll_114 : decode cX12_hearsAll 114 = .ok (.iaload, 1) := by decide +kernel
theorem dX12_hearsAll_115 : decode cX12_hearsAll 115 = .ok (.iastore, 1) := by decide +kernel
theorem dX12_hearsAll_116 : decode cX12_hearsAll 116 = .ok (.iinc 5 1, 3) := by decide +kernel
theorem dX12_hearsAll_119 : decode cX12_hearsAll 119 = .ok (.goto (-31), 3) := by decide +kernel
theorem dX12_hearsAll_122 : decode cX12_hearsAll 122 = .ok (.aload_n 0, 1) := by decide +kernel
theorem dX12_hearsAll_123 : decode cX12_hearsAll 123 = .ok (.getfield 13, 3) := by decide +kernel
theorem dX12_hearsAll_126 : decode cX12_hearsAll 126 = .ok (.iload_n 1, 1) := by decide +kernel
theorem dX12_hearsAll_127 : decode cX12_hearsAll 127 = .ok (.iload_n 2, 1) := by decide +kernel
theorem dX12_hearsAll_128 : decode cX12_hearsAll 128 = .ok (.iconst 2, 1) := by decide +kernel
theorem dX12_hearsAll_129 : decode cX12_hearsAll 129 = .ok (.invokestatic 49, 3) := by decide +kernel
theorem dX12_hearsAll_132 : decode cX12_hearsAll 132 = .ok (.dup2, 1) := by decide +kernel
theorem dX12_hearsAll_133 : decode cX12_hearsAll 133 = .ok (.iaload, 1) := by decide +kernel
theorem dX12_hearsAll_134 : decode cX12_hearsAll 134 = .ok (.iconst 1, 1) := by decide +kernel
theorem dX12_hearsAll_135 : decode cX12_hearsAll 135 = .ok (.isub, 1) := by decide +kernel
theorem dX12_hearsAll_136 : decode cX12_hearsAll 136 = .ok (.iastore, 1) := by decide +kernel
theorem dX12_hearsAll_137 : decode cX12_hearsAll 137 = .ok (.aload_n 0, 1) := by decide +kernel
theorem dX12_hearsAll_138 : decode cX12_hearsAll 138 = .ok (.iload_n 1, 1) := by decide +kernel
theorem dX12_hearsAll_139 : decode cX12_hearsAll 139 = .ok (.iload_n 2, 1) := by decide +kernel
theorem dX12_hearsAll_140 : decode cX12_hearsAll 140 = .ok (.invokevirtual 245, 3) := by decide +kernel
theorem dX12_hearsAll_143 : decode cX12_hearsAll 143 = .ok (.goto (-143), 3) := by decide +kernel
theorem dX12_hearsAll_146 : decode cX12_hearsAll 146 = .ok (.return_, 1) := by decide +kernel
theorem dX12_isFull_0 : decode cX12_isFull 0 = .ok (.iconst 1, 1) := by decide +kernel
theorem dX12_isFull_1 : decode cX12_isFull 1 = .ok (.istore_n 3, 1) := by decide +kernel
theorem dX12_isFull_2 : decode cX12_isFull 2 = .ok (.iconst 0, 1) := by decide +kernel
theorem dX12_isFull_3 : decode cX12_isFull 3 = .ok (.istore 4, 2) := by decide +kernel
theorem dX12_isFull_5 : decode cX12_isFull 5 = .ok (.iload 4, 2) := by decide +kernel
theorem dX12_isFull_7 : decode cX12_isFull 7 = .ok (.aload_n 0, 1) := by decide +kernel
theorem dX12_isFull_8 : decode cX12_isFull 8 = .ok (.invokevirtual 66, 3) := by decide +kernel
theorem dX12_isFull_11 : decode cX12_isFull 11 = .ok (.if_icmp .ge 54, 3) := by decide +kernel
theorem dX12_isFull_14 : decode cX12_isFull 14 = .ok (.iload_n 3, 1) := by decide +kernel
theorem dX12_isFull_15 : decode cX12_isFull 15 = .ok (.ifCond .eq 42, 3) := by decide +kernel
theorem dX12_isFull_18 : decode cX12_isFull 18 = .ok (.aload_n 0, 1) := by decide +kernel
theorem dX12_isFull_19 : decode cX12_isFull 19 = .ok (.iload_n 2, 1) := by decide +kernel
theorem dX12_isFull_20 : decode cX12_isFull 20 = .ok (.iload 4, 2) := by decide +kernel
theorem dX12_isFull_22 : decode cX12_isFull 22 = .ok (.invokevirtual 196, 3) := by decide +kernel
theorem dX12_isFull_25 : decode cX12_isFull 25 = .ok (.ifCond .eq 28, 3) := by decide +kernel
theorem dX12_isFull_28 : decode cX12_isFull 28 = .ok (.aload_n 0, 1) := by decide +kernel
theorem dX12_isFull_29 : decode cX12_isFull 29 = .ok (.iload_n 1, 1) := by decide +kernel
theorem dX12_isFull_30 : decode cX12_isFull 30 = .ok (.iload_n 2, 1) := by decide +kernel
theorem dX12_isFull_31 : decode cX12_isFull 31 = .ok (.bipush 6, 2) := by decide +kernel
theorem dX12_isFull_33 : decode cX12_isFull 33 = .ok (.invokevirtual 219, 3) := by decide +kernel
theorem dX12_isFull_36 : decode cX12_isFull 36 = .ok (.iload 4, 2) := by decide +kernel
theorem dX12_isFull_38 : decode cX12_isFull 38 = .ok (.invokestatic 87, 3) := by decide +kernel
theorem dX12_isFull_41 : decode cX12_isFull 41 = .ok (.ifCond .ne 12, 3) := by decide +kernel
theorem dX12_isFull_44 : decode cX12_isFull 44 = .ok (.aload_n 0, 1) := by decide +kernel
theorem dX12_isFull_45 : decode cX12_isFull 45 = .ok (.iload 4, 2) := by decide +kernel
theorem dX12_isFull_47 : decode cX12_isFull 47 = .ok (.invokevirtual 181, 3) := by decide +kernel
theorem dX12_isFull_50 : decode cX12_isFull 50 = .ok (.ifCond .eq 7, 3) := by decide +kernel
theorem dX12_isFull_53 : decode cX12_isFull 53 = .ok (.iconst 1, 1) := by decide +kernel
theorem dX12_isFull_54 : decode cX12_isFull 54 = .ok (.goto 4, 3) := by decide +kernel
theorem dX12_isFull_57 : decode cX12_isFull 57 = .ok (.iconst 0, 1) := by decide +kernel
theorem dX12_isFull_58 : decode cX12_isFull 58 = .ok (.istore_n 3, 1) := by decide +kernel
theorem dX12_isFull_59 : decode cX12_isFull 59 = .ok (.iinc 4 1, 3) := by decide +kernel
theorem dX12_isFull_62 : decode cX12_isFull 62 = .ok (.goto (-57), 3) := by decide +kernel
theorem dX12_isFull_65 : decode cX12_isFull 65 = .ok (.iload_n 3, 1) := by decide +kernel
theorem dX12_isFull_66 : decode cX12_isFull 66 = .ok (.ireturn, 1) := by decide +kernel
theorem dX12_isFinal_0 : decode cX12_isFinal 0 = .ok (.aload_n 0, 1) := by decide +kernel
theorem dX12_isFinal_1 : decode cX12_isFinal 1 = .ok (.iload_n 1, 1) := by decide +kernel
theorem dX12_isFinal_2 : decode cX12_isFinal 2 = .ok (.iload_n 2, 1) := by decide +kernel
theorem dX12_isFinal_3 : decode cX12_isFinal 3 = .ok (.bipush 9, 2) := by decide +kernel
theorem dX12_isFinal_5 : decode cX12_isFinal 5 = .ok (.invokevirtual 219, 3) := by decide +kernel
theorem dX12_isFinal_8 : decode cX12_isFinal 8 = .ok (.iconst (-1), 1) := by decide +kernel
theorem dX12_isFinal_9 : decode cX12_isFinal 9 = .ok (.if_icmp .eq 7, 3) := by decide +kernel
theorem dX12_isFinal_12 : decode cX12_isFinal 12 = .ok (.iconst 1, 1) := by decide +kernel
theorem dX12_isFinal_13 : decode cX12_isFinal 13 = .ok (.goto 4, 3) := by decide +kernel
theorem dX12_isFinal_16 : decode cX12_isFinal 16 = .ok (.iconst 0, 1) := by decide +kernel
theorem dX12_isFinal_17 : decode cX12_isFinal 17 = .ok (.istore_n 3, 1) := by decide +kernel
theorem dX12_isFinal_18 : decode cX12_isFinal 18 = .ok (.aload_n 0, 1) := by decide +kernel
theorem dX12_isFinal_19 : decode cX12_isFinal 19 = .ok (.iload_n 1, 1) := by decide +kernel
theorem dX12_isFinal_20 : decode cX12_isFinal 20 = .ok (.iload_n 2, 1) := by decide +kernel
theorem dX12_isFinal_21 : decode cX12_isFinal 21 = .ok (.iload_n 3, 1) := by decide +kernel
theorem dX12_isFinal_22 : decode cX12_isFinal 22 = .ok (.ifCond .eq 8, 3) := by decide +kernel
theorem dX12_isFinal_25 : decode cX12_isFinal 25 = .ok (.bipush 9, 2) := by decide +kernel
theorem dX12_isFinal_27 : decode cX12_isFinal 27 = .ok (.goto 5, 3) := by decide +kernel
theorem dX12_isFinal_30 : decode cX12_isFinal 30 = .ok (.bipush 7, 2) := by decide +kernel
theorem dX12_isFinal_32 : decode cX12_isFinal 32 = .ok (.invokevirtual 219, 3) := by decide +kernel
theorem dX12_isFinal_35 : decode cX12_isFinal 35 = .ok (.istore 4, 2) := by decide +kernel
theorem dX12_isFinal_37 : decode cX12_isFinal 37 = .ok (.aload_n 0, 1) := by decide +kernel
theorem dX12_isFinal_38 : decode cX12_isFinal 38 = .ok (.iload_n 1, 1) := by decide +kernel
theorem dX12_isFinal_39 : decode cX12_isFinal 39 = .ok (.iload_n 2, 1) := by decide +kernel
theorem dX12_isFinal_40 : decode cX12_isFinal 40 = .ok (.iload_n 3, 1) := by decide +kernel
theorem dX12_isFinal_41 : decode cX12_isFinal 41 = .ok (.ifCond .eq 8, 3) := by decide +kernel
theorem dX12_isFinal_44 : decode cX12_isFinal 44 = .ok (.bipush 10, 2) := by decide +kernel
theorem dX12_isFinal_46 : decode cX12_isFinal 46 = .ok (.goto 5, 3) := by decide +kernel
theorem dX12_isFinal_49 : decode cX12_isFinal 49 = .ok (.bipush 8, 2) := by decide +kernel
theorem dX12_isFinal_51 : decode cX12_isFinal 51 = .ok (.invokevirtual 219, 3) := by decide +kernel
theorem dX12_isFinal_54 : decode cX12_isFinal 54 = .ok (.istore 5, 2) := by decide +kernel
theorem dX12_isFinal_56 : decode cX12_isFinal 56 = .ok (.aload_n 0, 1) := by decide +kernel
theorem dX12_isFinal_57 : decode cX12_isFinal 57 = .ok (.iload_n 1, 1) := by decide +kernel
theorem dX12_isFinal_58 : decode cX12_isFinal 58 = .ok (.iload_n 2, 1) := by decide +kernel
theorem dX12_isFinal_59 : decode cX12_isFinal 59 = .ok (.iconst 5, 1) := by decide +kernel
theorem dX12_isFinal_60 : decode cX12_isFinal 60 = .ok (.iconst 0, 1) := by decide +kernel
theorem dX12_isFinal_61 : decode cX12_isFinal 61 = .ok (.invokevirtual 203, 3) := by decide +kernel
theorem dX12_isFinal_64 : decode cX12_isFinal 64 = .ok (.aload_n 0, 1) := by decide +kernel
theorem dX12_isFinal_65 : decode cX12_isFinal 65 = .ok (.iload_n 1, 1) := by decide +kernel
theorem dX12_isFinal_66 : decode cX12_isFinal 66 = .ok (.iload_n 2, 1) := by decide +kernel
theorem dX12_isFinal_67 : decode cX12_isFinal 67 = .ok (.bipush 6, 2) := by decide +kernel
theorem dX12_isFinal_69 : decode cX12_isFinal 69 = .ok (.invokevirtual 219, 3) := by decide +kernel
theorem dX12_isFinal_72 : decode cX12_isFinal 72 = .ok (.ifCond .eq 14, 3) := by decide +kernel
theorem dX12_isFinal_75 : decode cX12_isFinal 75 = .ok (.aload_n 0, 1) := by decide +kernel
theorem dX12_isFinal_76 : decode cX12_isFinal 76 = .ok (.iload_n 1, 1) := by decide +kernel
theorem dX12_isFinal_77 : decode cX12_isFinal 77 = .ok (.iconst 2, 1) := by decide +kernel
theorem dX12_isFinal_78 : decode cX12_isFinal 78 = .ok (.iload_n 2, 1) := by decide +kernel
theorem dX12_isFinal_79 : decode cX12_isFinal 79 = .ok (.iload 4, 2) := by decide +kernel
theorem dX12_isFinal_81 : decode cX12_isFinal 81 = .ok (.iload 5, 2) := by decide +kernel
theorem dX12_isFinal_83 : decode cX12_isFinal 83 = .ok (.invokevirtual 215, 3) := by decide +kernel
theorem dX12_isFinal_86 : decode cX12_isFinal 86 = .ok (.return_, 1) := by decide +kernel
section S_12_m02
variable {p : Program} {l : Launch} {e : Env} {R : Room} {s : State} {m : MethodId} {args : Array Value} {below : List Frame} {meth : Method} {c : Code} {A : Nat → Prop} {D : va_G} {cI cB cL : ClassId} {ad : Nat → Nat} {pa pl : Nat}
noncomputable def fX12_puts_158 (x1 : Int32) (x2 : Int32) (x4 : Int32) (x9 : Int32) (t0 : Int32) (t1 : Int32) (u : Sg) : Option Sg := grd (vp_in t1 32243) (bnd (s2 u 1 ((t1 : Int32).toNatClampNeg) t0) (fun u28 => grd (vp_in (fX12_channelAt x1 x2 2) 32243) (bnd (s2 u28 1 (((fX12_channelAt x1 x2 2) : Int32).toNatClampNeg) (x9 + 1)) (fun u30 => grd (vp_in (fX12_messageAt x4 2) 32243) (grd (vp_in (fX12_messageAt x4 2) 32243) (bnd (s2 u30 1 (((fX12_messageAt x4 2) : Int32).toNatClampNeg) ((u30 1 (((fX12_messageAt x4 2) : Int32).toNatClampNeg)) + 1)) (fun u33 => grd (vp_in (fX12_messageAt x4 4) 32243) (grd (vp_in (fX12_messageAt x4 4) 32243) (bnd (s2 u33 1 (((fX12_messageAt x4 4) : Int32).toNatClampNeg) ((u33 1 (((fX12_messageAt x4 4) : Int32).toNatClampNeg)) ||| ((1 : Int32) <<< ((x1 &&& 31 : Int32))))) (fun u36 => grd (vp_in (fX12_nodeAt x1 3) 32243) (grd (vp_in (fX12_nodeAt x1 3) 32243) (bnd (s2 u36 1 (((fX12_nodeAt x1 3) : Int32).toNatClampNeg) ((u36 1 (((fX12_nodeAt x1 3) : Int32).toNatClampNeg)) + 1)) (fun u39 => some u39)))))))))))))
noncomputable def fX12_puts_0 (x1 : Int32) (x2 : Int32) (x3 : Int32) (x4 : Int32) (x5 : Int32) (x6 : Int32) (x7 : Int32) (u : Sg) : Option Sg := obr (fX12_isNoticed x2 u) (fun r2 => cnd (r2 = 0) (obr (fX12_ofChannel x1 x2 3 u) (fun r5 => obr (fX12_ofChannel x1 x2 0 u) (fun r7 => obd (fX12_jitter u) (fun r9 u10 => bnd (if r5 < (((u 1 4) + r7) + r9) then (((u 1 4) + r7) + r9) else r5) (fun v11 => obr (fX12_ofChannel x1 x2 2 u10) (fun r13 => grd (vp_in (fX12_channelAt x1 x2 3) 32243) (bnd (s2 u10 1 (((fX12_channelAt x1 x2 3) : Int32).toNatClampNeg) v11) (fun u15 => grd (vp_in (fX12_packetAt x1 x2 r13 0) 32243) (bnd (s2 u15 1 (((fX12_packetAt x1 x2 r13 0) : Int32).toNatClampNeg) v11) (fun u17 => grd (vp_in (fX12_packetAt x1 x2 r13 1) 32243) (bnd (s2 u17 1 (((fX12_packetAt x1 x2 r13 1) : Int32).toNatClampNeg) x3) (fun u19 => grd (vp_in (fX12_packetAt x1 x2 r13 2) 32243) (bnd (s2 u19 1 (((fX12_packetAt x1 x2 r13 2) : Int32).toNatClampNeg) x4) (fun u21 => grd (vp_in (fX12_packetAt x1 x2 r13 3) 32243) (bnd (s2 u21 1 (((fX12_packetAt x1 x2 r13 3) : Int32).toNatClampNeg) x5) (fun u23 => grd (vp_in (fX12_packetAt x1 x2 r13 4) 32243) (bnd (s2 u23 1 (((fX12_packetAt x1 x2 r13 4) : Int32).toNatClampNeg) x6) (fun u25 => cnd (x7 = 0) (fX12_puts_158 x1 x2 x4 r13 0 (fX12_packetAt x1 x2 r13 5) u25) (fX12_puts_158 x1 x2 x4 r13 1 (fX12_packetAt x1 x2 r13 5) u25))))))))))))))))))) (some u))
noncomputable def fX12_puts (x1 : Int32) (x2 : Int32) (x3 : Int32) (x4 : Int32) (x5 : Int32) (x6 : Int32) (x7 : Int32) (u : Sg) : Option Sg := fX12_puts_0 x1 x2 x3 x4 x5 x6 x7 u
set_option maxRecDepth 10000 in
set_option maxHeartbeats 4000000 in
theorem wX12_puts_158 (C : cx D (tyl cI cB cL) A RX12 cX12_puts 10 none p s m args c meth) (hR : 4 ≤ R.frames ∧ 85 ≤ R.locals) {σ' : Sg} (u : Sg) (x1 : Int32) (x2 : Int32) (x4 : Int32) (x9 : Int32) (t0 : Int32) (t1 : Int32) {H : Heap} {locs : List Loc} {ls : Array Slot} (hl : lv_has ls 10 [(0, .ref (ad 0)), (1, .int x1), (2, .int x2), (4, .int x4), (9, .int x9)]) (S : st D (wM cI cB ad) A s u H locs) (h : fX12_puts_158 x1 x2 x4 x9 t0 t1 u = some σ') : W p l e R s m args below meth c H locs 0 0 (MQ below (qV D (tyl cI cB cL) (wM cI cB ad) A σ') args s 0 0 A) (F0 m 158 ls [.int t0, .int t1, .ref (ad 1)]) := by
  have hx := C.1
  have hb := C.2.1
  have hsz := hl.1
  unfold fX12_puts_158 at h
  obtain ⟨g27, h⟩ := grd_some h
  obtain ⟨u28, eu28⟩ : ∃ z : Sg, z = s2 u 1 ((t1 : Int32).toNatClampNeg) t0 := ⟨_, rfl⟩
  have h := bnd_of eu28 h
  refine q_iast C S (aM1 cI cB ad) 0 rfl g27 dX12_puts_158 (j := (t1 : Int32).toNatClampNeg) rfl eu28 (fun H locs S => ?_)
  refine lv_aload_n hx hb dX12_puts_159 rfl (lv_at hl 0 rfl) ?_
  refine q_get (v := .ref (ad 1)) C S (oM0 cI cB ad) rfl iwX12 1 (by decide) mw_14 rfl dX12_puts_160 ?_
  refine lv_iload_n hx hb dX12_puts_163 rfl (lv_at hl 1 rfl) ?_
  refine lv_iload_n hx hb dX12_puts_164 rfl (lv_at hl 2 rfl) ?_
  refine lv_iconst (v := 2) hx hb dX12_puts_165 (by decide) ?_
  refine q_callP (As := [.int x1, .int x2, .int 2]) (na := 3) C S (ct_X12_channelAt l D cI cB cL x1 x2 2) mw_10 mw_9 mw_5 mw_8 hdX12_channelAt ⟨Nat.le_trans (Nat.le_of_ble_eq_true rfl) hR.1, Nat.le_trans (Nat.le_of_ble_eq_true rfl) hR.2⟩ rfl hsz ⟨Nat.zero_le _, Nat.zero_le _⟩ (Nat.le_of_ble_eq_true rfl) dX12_puts_166 rfl (fun H locs S => ?_)
  refine lv_iload hx hb dX12_puts_169 (lv_at hl 4 rfl) ?_
  refine lv_iconst (v := 1) hx hb dX12_puts_171 (by decide) ?_
  refine lv_iadd hx hb dX12_puts_172 ?_
  obtain ⟨g29, h⟩ := grd_some h
  obtain ⟨u30, eu30⟩ : ∃ z : Sg, z = s2 u28 1 (((fX12_channelAt x1 x2 2) : Int32).toNatClampNeg) (x9 + 1) := ⟨_, rfl⟩
  have h := bnd_of eu30 h
  refine q_iast C S (aM1 cI cB ad) 0 rfl g29 dX12_puts_173 (j := ((fX12_channelAt x1 x2 2) : Int32).toNatClampNeg) rfl eu30 (fun H locs S => ?_)
  refine lv_aload_n hx hb dX12_puts_174 rfl (lv_at hl 0 rfl) ?_
  refine q_get (v := .ref (ad 1)) C S (oM0 cI cB ad) rfl iwX12 1 (by decide) mw_14 rfl dX12_puts_175 ?_
  refine lv_iload hx hb dX12_puts_178 (lv_at hl 3 rfl) ?_
  refine lv_iconst (v := 2) hx hb dX12_puts_180 (by decide) ?_
  refine q_callP (As := [.int x4, .int 2]) (na := 2) C S (ct_X12_messageAt l D cI cB cL x4 2) mw_21 mw_20 mw_5 mw_19 hdX12_messageAt ⟨Nat.le_trans (Nat.le_of_ble_eq_true rfl) hR.1, Nat.le_trans (Nat.le_of_ble_eq_true rfl) hR.2⟩ rfl hsz ⟨Nat.zero_le _, Nat.zero_le _⟩ (Nat.le_of_ble_eq_true rfl) dX12_puts_181 rfl (fun H locs S => ?_)
  refine lv_dup2_11 hx hb dX12_puts_184 rfl rfl ?_
  obtain ⟨g31, h⟩ := grd_some h
  refine q_iald C S (aM1 cI cB ad) 0 rfl g31 dX12_puts_185 (j := ((fX12_messageAt x4 2) : Int32).toNatClampNeg) rfl ?_
  refine lv_iconst (v := 1) hx hb dX12_puts_186 (by decide) ?_
  refine lv_iadd hx hb dX12_puts_187 ?_
  obtain ⟨g32, h⟩ := grd_some h
  obtain ⟨u33, eu33⟩ : ∃ z : Sg, z = s2 u30 1 (((fX12_messageAt x4 2) : Int32).toNatClampNeg) ((u30 1 (((fX12_messageAt x4 2) : Int32).toNatClampNeg)) + 1) := ⟨_, rfl⟩
  have h := bnd_of eu33 h
  refine q_iast C S (aM1 cI cB ad) 0 rfl g32 dX12_puts_188 (j := ((fX12_messageAt x4 2) : Int32).toNatClampNeg) rfl eu33 (fun H locs S => ?_)
  refine lv_aload_n hx hb dX12_puts_189 rfl (lv_at hl 0 rfl) ?_
  refine q_get (v := .ref (ad 1)) C S (oM0 cI cB ad) rfl iwX12 1 (by decide) mw_14 rfl dX12_puts_190 ?_
  refine lv_iload hx hb dX12_puts_193 (lv_at hl 3 rfl) ?_
  refine lv_iconst (v := 4) hx hb dX12_puts_195 (by decide) ?_
  refine q_callP (As := [.int x4, .int 4]) (na := 2) C S (ct_X12_messageAt l D cI cB cL x4 4) mw_21 mw_20 mw_5 mw_19 hdX12_messageAt ⟨Nat.le_trans (Nat.le_of_ble_eq_true rfl) hR.1, Nat.le_trans (Nat.le_of_ble_eq_true rfl) hR.2⟩ rfl hsz ⟨Nat.zero_le _, Nat.zero_le _⟩ (Nat.le_of_ble_eq_true rfl) dX12_puts_196 rfl (fun H locs S => ?_)
  refine lv_dup2_11 hx hb dX12_puts_199 rfl rfl ?_
  obtain ⟨g34, h⟩ := grd_some h
  refine q_iald C S (aM1 cI cB ad) 0 rfl g34 dX12_puts_200 (j := ((fX12_messageAt x4 4) : Int32).toNatClampNeg) rfl ?_
  refine lv_iconst (v := 1) hx hb dX12_puts_201 (by decide) ?_
  refine lv_iload_n hx hb dX12_puts_202 rfl (lv_at hl 1 rfl) ?_
  refine lv_ishl hx hb dX12_puts_203 ?_
  refine lv_ior hx hb dX12_puts_204 ?_
  obtain ⟨g35, h⟩ := grd_some h
  obtain ⟨u36, eu36⟩ : ∃ z : Sg, z = s2 u33 1 (((fX12_messageAt x4 4) : Int32).toNatClampNeg) ((u33 1 (((fX12_messageAt x4 4) : Int32).toNatClampNeg)) ||| ((1 : Int32) <<< ((x1 &&& 31 : Int32)))) := ⟨_, rfl⟩
  have h := bnd_of eu36 h
  refine q_iast C S (aM1 cI cB ad) 0 rfl g35 dX12_puts_205 (j := ((fX12_messageAt x4 4) : Int32).toNatClampNeg) rfl eu36 (fun H locs S => ?_)
  refine lv_aload_n hx hb dX12_puts_206 rfl (lv_at hl 0 rfl) ?_
  refine q_get (v := .ref (ad 1)) C S (oM0 cI cB ad) rfl iwX12 1 (by decide) mw_14 rfl dX12_puts_207 ?_
  refine lv_iload_n hx hb dX12_puts_210 rfl (lv_at hl 1 rfl) ?_
  refine lv_iconst (v := 3) hx hb dX12_puts_211 (by decide) ?_
  refine q_callP (As := [.int x1, .int 3]) (na := 2) C S (ct_X12_nodeAt l D cI cB cL x1 3) mw_7 mw_6 mw_5 mw_4 hdX12_nodeAt ⟨Nat.le_trans (Nat.le_of_ble_eq_true rfl) hR.1, Nat.le_trans (Nat.le_of_ble_eq_true rfl) hR.2⟩ rfl hsz ⟨Nat.zero_le _, Nat.zero_le _⟩ (Nat.le_of_ble_eq_true rfl) dX12_puts_212 rfl (fun H locs S => ?_)
  refine lv_dup2_11 hx hb dX12_puts_215 rfl rfl ?_
  obtain ⟨g37, h⟩ := grd_some h
  refine q_iald C S (aM1 cI cB ad) 0 rfl g37 dX12_puts_216 (j := ((fX12_nodeAt x1 3) : Int32).toNatClampNeg) rfl ?_
  refine lv_iconst (v := 1) hx hb dX12_puts_217 (by decide) ?_
  refine lv_iadd hx hb dX12_puts_218 ?_
  obtain ⟨g38, h⟩ := grd_some h
  obtain ⟨u39, eu39⟩ : ∃ z : Sg, z = s2 u36 1 (((fX12_nodeAt x1 3) : Int32).toNatClampNeg) ((u36 1 (((fX12_nodeAt x1 3) : Int32).toNatClampNeg)) + 1) := ⟨_, rfl⟩
  have h := bnd_of eu39 h
  refine q_iast C S (aM1 cI cB ad) 0 rfl g38 dX12_puts_219 (j := ((fX12_nodeAt x1 3) : Int32).toNatClampNeg) rfl eu39 (fun H locs S => ?_)
  exact q_vret C S (Option.some.inj h) dX12_puts_220
set_option maxRecDepth 10000 in
set_option maxHeartbeats 4000000 in
theorem wX12_puts_0 (C : cx D (tyl cI cB cL) A RX12 cX12_puts 10 none p s m args c meth) (hR : 4 ≤ R.frames ∧ 85 ≤ R.locals) {σ' : Sg} (u : Sg) (x1 : Int32) (x2 : Int32) (x3 : Int32) (x4 : Int32) (x5 : Int32) (x6 : Int32) (x7 : Int32) {H : Heap} {locs : List Loc} {ls : Array Slot} (hl : lv_has ls 10 [(0, .ref (ad 0)), (1, .int x1), (2, .int x2), (3, .int x3), (4, .int x4), (5, .int x5), (6, .int x6), (7, .int x7)]) (S : st D (wM cI cB ad) A s u H locs) (h : fX12_puts_0 x1 x2 x3 x4 x5 x6 x7 u = some σ') : W p l e R s m args below meth c H locs 0 0 (MQ below (qV D (tyl cI cB cL) (wM cI cB ad) A σ') args s 0 0 A) (F0 m 0 ls []) := by
  have hx := C.1
  have hb := C.2.1
  have hsz := hl.1
  unfold fX12_puts_0 at h
  refine lv_aload_n hx hb dX12_puts_0 rfl (lv_at hl 0 rfl) ?_
  refine lv_iload_n hx hb dX12_puts_1 rfl (lv_at hl 2 rfl) ?_
  obtain ⟨r2, h1, h⟩ := obr_some h
  refine q_callVi (As := [.int x2]) (na := 1) C S (oM0 cI cB ad) rfl (ct_X12_isNoticed l D cI cB cL ad x2 u h1) mw_80 mw_79 mw_81 mw_5 mw_78 hdX12_isNoticed ⟨Nat.le_trans (Nat.le_of_ble_eq_true rfl) hR.1, Nat.le_trans (Nat.le_of_ble_eq_true rfl) hR.2⟩ rfl hsz ⟨Nat.zero_le _, Nat.zero_le _⟩ (Nat.le_of_ble_eq_true rfl) dX12_puts_2 rfl (fun H locs S => ?_)
  refine lv_if_eq (tgt := 9) hx hb dX12_puts_5 (by decide) (fun c3 => ?_) (fun c3 => ?_)
  · have h := cnd_t c3 h
    refine lv_aload_n hx hb dX12_puts_9 rfl (lv_at hl 0 rfl) ?_
    refine lv_iload_n hx hb dX12_puts_10 rfl (lv_at hl 1 rfl) ?_
    refine lv_iload_n hx hb dX12_puts_11 rfl (lv_at hl 2 rfl) ?_
    refine lv_iconst (v := 3) hx hb dX12_puts_12 (by decide) ?_
    obtain ⟨r5, h4, h⟩ := obr_some h
    refine q_callVi (As := [.int x1, .int x2, .int 3]) (na := 3) C S (oM0 cI cB ad) rfl (ct_X12_ofChannel l D cI cB cL ad x1 x2 3 u h4) mw_84 mw_83 mw_85 mw_5 mw_82 hdX12_ofChannel ⟨Nat.le_trans (Nat.le_of_ble_eq_true rfl) hR.1, Nat.le_trans (Nat.le_of_ble_eq_true rfl) hR.2⟩ rfl hsz ⟨Nat.zero_le _, Nat.zero_le _⟩ (Nat.le_of_ble_eq_true rfl) dX12_puts_13 rfl (fun H locs S => ?_)
    refine lv_aload_n hx hb dX12_puts_16 rfl (lv_at hl 0 rfl) ?_
    refine q_get (v := .ref (ad 1)) C S (oM0 cI cB ad) rfl iwX12 1 (by decide) mw_14 rfl dX12_puts_17 ?_
    refine lv_iconst (v := 4) hx hb dX12_puts_20 (by decide) ?_
    refine q_iald C S (aM1 cI cB ad) 0 rfl (show vp_in 4 32243 by unfold vp_in; decide) dX12_puts_21 (j := 4) (by decide) ?_
    refine lv_aload_n hx hb dX12_puts_22 rfl (lv_at hl 0 rfl) ?_
    refine lv_iload_n hx hb dX12_puts_23 rfl (lv_at hl 1 rfl) ?_
    refine lv_iload_n hx hb dX12_puts_24 rfl (lv_at hl 2 rfl) ?_
    refine lv_iconst (v := 0) hx hb dX12_puts_25 (by decide) ?_
    obtain ⟨r7, h6, h⟩ := obr_some h
    refine q_callVi (As := [.int x1, .int x2, .int 0]) (na := 3) C S (oM0 cI cB ad) rfl (ct_X12_ofChannel l D cI cB cL ad x1 x2 0 u h6) mw_84 mw_83 mw_85 mw_5 mw_82 hdX12_ofChannel ⟨Nat.le_trans (Nat.le_of_ble_eq_true rfl) hR.1, Nat.le_trans (Nat.le_of_ble_eq_true rfl) hR.2⟩ rfl hsz ⟨Nat.zero_le _, Nat.zero_le _⟩ (Nat.le_of_ble_eq_true rfl) dX12_puts_26 rfl (fun H locs S => ?_)
    refine lv_iadd hx hb dX12_puts_29 ?_
    refine lv_aload_n hx hb dX12_puts_30 rfl (lv_at hl 0 rfl) ?_
    obtain ⟨r9, u10, h8, h⟩ := obd_some h
    refine q_callVi (As := []) (na := 0) C S (oM0 cI cB ad) rfl (ct_X12_jitter l D cI cB cL ad u h8) mw_88 mw_87 mw_89 mw_5 mw_86 hdX12_jitter ⟨Nat.le_trans (Nat.le_of_ble_eq_true rfl) hR.1, Nat.le_trans (Nat.le_of_ble_eq_true rfl) hR.2⟩ rfl hsz ⟨Nat.zero_le _, Nat.zero_le _⟩ (Nat.le_of_ble_eq_true rfl) dX12_puts_31 rfl (fun H locs S => ?_)
    refine lv_iadd hx hb dX12_puts_34 ?_
    refine q_mmax C mw_90 mw_91 mw_92 mw_93 ⟨Nat.le_trans (Nat.le_of_ble_eq_true rfl) hR.1, Nat.le_trans (Nat.le_of_ble_eq_true rfl) hR.2⟩ hsz ⟨Nat.zero_le _, Nat.zero_le _⟩ (Nat.le_of_ble_eq_true rfl) dX12_puts_35 ?_
    refine lv_topi (fun v11 ev11 => ?_)
    have h := bnd_of ev11 h
    refine lv_istore (lv' := [(8, .int v11), (0, .ref (ad 0)), (1, .int x1), (2, .int x2), (3, .int x3), (4, .int x4), (5, .int x5), (6, .int x6), (7, .int x7)]) hx hb dX12_puts_38 hl (by decide) rfl (fun ls hl => ?_)
    have hsz := hl.1
    refine lv_aload_n hx hb dX12_puts_40 rfl (lv_at hl 1 rfl) ?_
    refine lv_iload_n hx hb dX12_puts_41 rfl (lv_at hl 2 rfl) ?_
    refine lv_iload_n hx hb dX12_puts_42 rfl (lv_at hl 3 rfl) ?_
    refine lv_iconst (v := 2) hx hb dX12_puts_43 (by decide) ?_
    obtain ⟨r13, h12, h⟩ := obr_some h
    refine q_callVi (As := [.int x1, .int x2, .int 2]) (na := 3) C S (oM0 cI cB ad) rfl (ct_X12_ofChannel l D cI cB cL ad x1 x2 2 u10 h12) mw_84 mw_83 mw_85 mw_5 mw_82 hdX12_ofChannel ⟨Nat.le_trans (Nat.le_of_ble_eq_true rfl) hR.1, Nat.le_trans (Nat.le_of_ble_eq_true rfl) hR.2⟩ rfl hsz ⟨Nat.zero_le _, Nat.zero_le _⟩ (Nat.le_of_ble_eq_true rfl) dX12_puts_44 rfl (fun H locs S => ?_)
    refine lv_istore (lv' := [(9, .int r13), (8, .int v11), (0, .ref (ad 0)), (1, .int x1), (2, .int x2), (3, .int x3), (4, .int x4), (5, .int x5), (6, .int x6), (7, .int x7)]) hx hb dX12_puts_47 hl (by decide) rfl (fun ls hl => ?_)
    have hsz := hl.1
    refine lv_aload_n hx hb dX12_puts_49 rfl (lv_at hl 2 rfl) ?_
    refine q_get (v := .ref (ad 1)) C S (oM0 cI cB ad) rfl iwX12 1 (by decide) mw_14 rfl dX12_puts_50 ?_
    refine lv_iload_n hx hb dX12_puts_53 rfl (lv_at hl 3 rfl) ?_
    refine lv_iload_n hx hb dX12_puts_54 rfl (lv_at hl 4 rfl) ?_
    refine lv_iconst (v := 3) hx hb dX12_puts_55 (by decide) ?_
    refine q_callP (As := [.int x1, .int x2, .int 3]) (na := 3) C S (ct_X12_channelAt l D cI cB cL x1 x2 3) mw_10 mw_9 mw_5 mw_8 hdX12_channelAt ⟨Nat.le_trans (Nat.le_of_ble_eq_true rfl) hR.1, Nat.le_trans (Nat.le_of_ble_eq_true rfl) hR.2⟩ rfl hsz ⟨Nat.zero_le _, Nat.zero_le _⟩ (Nat.le_of_ble_eq_true rfl) dX12_puts_56 rfl (fun H locs S => ?_)
    refine lv_iload hx hb dX12_puts_59 (lv_at hl 1 rfl) ?_
    obtain ⟨g14, h⟩ := grd_some h
    obtain ⟨u15, eu15⟩ : ∃ z : Sg, z = s2 u10 1 (((fX12_channelAt x1 x2 3) : Int32).toNatClampNeg) v11 := ⟨_, rfl⟩
    have h := bnd_of eu15 h
    refine q_iast C S (aM1 cI cB ad) 0 rfl g14 dX12_puts_61 (j := ((fX12_channelAt x1 x2 3) : Int32).toNatClampNeg) rfl eu15 (fun H locs S => ?_)
    refine lv_aload_n hx hb dX12_puts_62 rfl (lv_at hl 2 rfl) ?_
    refine q_get (v := .ref (ad 1)) C S (oM0 cI cB ad) rfl iwX12 1 (by decide) mw_14 rfl dX12_puts_63 ?_
    refine lv_iload_n hx hb dX12_puts_66 rfl (lv_at hl 3 rfl) ?_
    refine lv_iload_n hx hb dX12_puts_67 rfl (lv_at hl 4 rfl) ?_
    refine lv_iload hx hb dX12_puts_68 (lv_at hl 0 rfl) ?_
    refine lv_iconst (v := 0) hx hb dX12_puts_70 (by decide) ?_
    refine q_callP (As := [.int x1, .int x2, .int r13, .int 0]) (na := 4) C S (ct_X12_packetAt l D cI cB cL x1 x2 r13 0) mw_96 mw_95 mw_5 mw_94 hdX12_packetAt ⟨Nat.le_trans (Nat.le_of_ble_eq_true rfl) hR.1, Nat.le_trans (Nat.le_of_ble_eq_true rfl) hR.2⟩ rfl hsz ⟨Nat.zero_le _, Nat.zero_le _⟩ (Nat.le_of_ble_eq_true rfl) dX12_puts_71 rfl (fun H locs S => ?_)
    refine lv_iload hx hb dX12_puts_74 (lv_at hl 1 rfl) ?_
    obtain ⟨g16, h⟩ := grd_some h
    obtain ⟨u17, eu17⟩ : ∃ z : Sg, z = s2 u15 1 (((fX12_packetAt x1 x2 r13 0) : Int32).toNatClampNeg) v11 := ⟨_, rfl⟩
    have h := bnd_of eu17 h
    refine q_iast C S (aM1 cI cB ad) 0 rfl g16 dX12_puts_76 (j := ((fX12_packetAt x1 x2 r13 0) : Int32).toNatClampNeg) rfl eu17 (fun H locs S => ?_)
    refine lv_aload_n hx hb dX12_puts_77 rfl (lv_at hl 2 rfl) ?_
    refine q_get (v := .ref (ad 1)) C S (oM0 cI cB ad) rfl iwX12 1 (by decide) mw_14 rfl dX12_puts_78 ?_
    refine lv_iload_n hx hb dX12_puts_81 rfl (lv_at hl 3 rfl) ?_
    refine lv_iload_n hx hb dX12_puts_82 rfl (lv_at hl 4 rfl) ?_
    refine lv_iload hx hb dX12_puts_83 (lv_at hl 0 rfl) ?_
    refine lv_iconst (v := 1) hx hb dX12_puts_85 (by decide) ?_
    refine q_callP (As := [.int x1, .int x2, .int r13, .int 1]) (na := 4) C S (ct_X12_packetAt l D cI cB cL x1 x2 r13 1) mw_96 mw_95 mw_5 mw_94 hdX12_packetAt ⟨Nat.le_trans (Nat.le_of_ble_eq_true rfl) hR.1, Nat.le_trans (Nat.le_of_ble_eq_true rfl) hR.2⟩ rfl hsz ⟨Nat.zero_le _, Nat.zero_le _⟩ (Nat.le_of_ble_eq_true rfl) dX12_puts_86 rfl (fun H locs S => ?_)
    refine lv_iload_n hx hb dX12_puts_89 rfl (lv_at hl 5 rfl) ?_
    obtain ⟨g18, h⟩ := grd_some h
    obtain ⟨u19, eu19⟩ : ∃ z : Sg, z = s2 u17 1 (((fX12_packetAt x1 x2 r13 1) : Int32).toNatClampNeg) x3 := ⟨_, rfl⟩
    have h := bnd_of eu19 h
    refine q_iast C S (aM1 cI cB ad) 0 rfl g18 dX12_puts_90 (j := ((fX12_packetAt x1 x2 r13 1) : Int32).toNatClampNeg) rfl eu19 (fun H locs S => ?_)
    refine lv_aload_n hx hb dX12_puts_91 rfl (lv_at hl 2 rfl) ?_
    refine q_get (v := .ref (ad 1)) C S (oM0 cI cB ad) rfl iwX12 1 (by decide) mw_14 rfl dX12_puts_92 ?_
    refine lv_iload_n hx hb dX12_puts_95 rfl (lv_at hl 3 rfl) ?_
    refine lv_iload_n hx hb dX12_puts_96 rfl (lv_at hl 4 rfl) ?_
    refine lv_iload hx hb dX12_puts_97 (lv_at hl 0 rfl) ?_
    refine lv_iconst (v := 2) hx hb dX12_puts_99 (by decide) ?_
    refine q_callP (As := [.int x1, .int x2, .int r13, .int 2]) (na := 4) C S (ct_X12_packetAt l D cI cB cL x1 x2 r13 2) mw_96 mw_95 mw_5 mw_94 hdX12_packetAt ⟨Nat.le_trans (Nat.le_of_ble_eq_true rfl) hR.1, Nat.le_trans (Nat.le_of_ble_eq_true rfl) hR.2⟩ rfl hsz ⟨Nat.zero_le _, Nat.zero_le _⟩ (Nat.le_of_ble_eq_true rfl) dX12_puts_100 rfl (fun H locs S => ?_)
    refine lv_iload hx hb dX12_puts_103 (lv_at hl 6 rfl) ?_
    obtain ⟨g20, h⟩ := grd_some h
    obtain ⟨u21, eu21⟩ : ∃ z : Sg, z = s2 u19 1 (((fX12_packetAt x1 x2 r13 2) : Int32).toNatClampNeg) x4 := ⟨_, rfl⟩
    have h := bnd_of eu21 h
    refine q_iast C S (aM1 cI cB ad) 0 rfl g20 dX12_puts_105 (j := ((fX12_packetAt x1 x2 r13 2) : Int32).toNatClampNeg) rfl eu21 (fun H locs S => ?_)
    refine lv_aload_n hx hb dX12_puts_106 rfl (lv_at hl 2 rfl) ?_
    refine q_get (v := .ref (ad 1)) C S (oM0 cI cB ad) rfl iwX12 1 (by decide) mw_14 rfl dX12_puts_107 ?_
    refine lv_iload_n hx hb dX12_puts_110 rfl (lv_at hl 3 rfl) ?_
    refine lv_iload_n hx hb dX12_puts_111 rfl (lv_at hl 4 rfl) ?_
    refine lv_iload hx hb dX12_puts_112 (lv_at hl 0 rfl) ?_
    refine lv_iconst (v := 3) hx hb dX12_puts_114 (by decide) ?_
    refine q_callP (As := [.int x1, .int x2, .int r13, .int 3]) (na := 4) C S (ct_X12_packetAt l D cI cB cL x1 x2 r13 3) mw_96 mw_95 mw_5 mw_94 hdX12_packetAt ⟨Nat.le_trans (Nat.le_of_ble_eq_true rfl) hR.1, Nat.le_trans (Nat.le_of_ble_eq_true rfl) hR.2⟩ rfl hsz ⟨Nat.zero_le _, Nat.zero_le _⟩ (Nat.le_of_ble_eq_true rfl) dX12_puts_115 rfl (fun H locs S => ?_)
    refine lv_iload hx hb dX12_puts_118 (lv_at hl 7 rfl) ?_
    obtain ⟨g22, h⟩ := grd_some h
    obtain ⟨u23, eu23⟩ : ∃ z : Sg, z = s2 u21 1 (((fX12_packetAt x1 x2 r13 3) : Int32).toNatClampNeg) x5 := ⟨_, rfl⟩
    have h := bnd_of eu23 h
    refine q_iast C S (aM1 cI cB ad) 0 rfl g22 dX12_puts_120 (j := ((fX12_packetAt x1 x2 r13 3) : Int32).toNatClampNeg) rfl eu23 (fun H locs S => ?_)
    refine lv_aload_n hx hb dX12_puts_121 rfl (lv_at hl 2 rfl) ?_
    refine q_get (v := .ref (ad 1)) C S (oM0 cI cB ad) rfl iwX12 1 (by decide) mw_14 rfl dX12_puts_122 ?_
    refine lv_iload_n hx hb dX12_puts_125 rfl (lv_at hl 3 rfl) ?_
    refine lv_iload_n hx hb dX12_puts_126 rfl (lv_at hl 4 rfl) ?_
    refine lv_iload hx hb dX12_puts_127 (lv_at hl 0 rfl) ?_
    refine lv_iconst (v := 4) hx hb dX12_puts_129 (by decide) ?_
    refine q_callP (As := [.int x1, .int x2, .int r13, .int 4]) (na := 4) C S (ct_X12_packetAt l D cI cB cL x1 x2 r13 4) mw_96 mw_95 mw_5 mw_94 hdX12_packetAt ⟨Nat.le_trans (Nat.le_of_ble_eq_true rfl) hR.1, Nat.le_trans (Nat.le_of_ble_eq_true rfl) hR.2⟩ rfl hsz ⟨Nat.zero_le _, Nat.zero_le _⟩ (Nat.le_of_ble_eq_true rfl) dX12_puts_130 rfl (fun H locs S => ?_)
    refine lv_iload hx hb dX12_puts_133 (lv_at hl 8 rfl) ?_
    obtain ⟨g24, h⟩ := grd_some h
    obtain ⟨u25, eu25⟩ : ∃ z : Sg, z = s2 u23 1 (((fX12_packetAt x1 x2 r13 4) : Int32).toNatClampNeg) x6 := ⟨_, rfl⟩
    have h := bnd_of eu25 h
    refine q_iast C S (aM1 cI cB ad) 0 rfl g24 dX12_puts_135 (j := ((fX12_packetAt x1 x2 r13 4) : Int32).toNatClampNeg) rfl eu25 (fun H locs S => ?_)
    refine lv_aload_n hx hb dX12_puts_136 rfl (lv_at hl 2 rfl) ?_
    refine q_get (v := .ref (ad 1)) C S (oM0 cI cB ad) rfl iwX12 1 (by decide) mw_14 rfl dX12_puts_137 ?_
    refine lv_iload_n hx hb dX12_puts_140 rfl (lv_at hl 3 rfl) ?_
    refine lv_iload_n hx hb dX12_puts_141 rfl (lv_at hl 4 rfl) ?_
    refine lv_iload hx hb dX12_puts_142 (lv_at hl 0 rfl) ?_
    refine lv_iconst (v := 5) hx hb dX12_puts_144 (by decide) ?_
    refine q_callP (As := [.int x1, .int x2, .int r13, .int 5]) (na := 4) C S (ct_X12_packetAt l D cI cB cL x1 x2 r13 5) mw_96 mw_95 mw_5 mw_94 hdX12_packetAt ⟨Nat.le_trans (Nat.le_of_ble_eq_true rfl) hR.1, Nat.le_trans (Nat.le_of_ble_eq_true rfl) hR.2⟩ rfl hsz ⟨Nat.zero_le _, Nat.zero_le _⟩ (Nat.le_of_ble_eq_true rfl) dX12_puts_145 rfl (fun H locs S => ?_)
    refine lv_iload hx hb dX12_puts_148 (lv_at hl 9 rfl) ?_
    refine lv_if_eq (tgt := 157) hx hb dX12_puts_150 (by decide) (fun c26 => ?_) (fun c26 => ?_)
    · have h := cnd_t c26 h
      refine lv_iconst (v := 0) hx hb dX12_puts_157 (by decide) ?_
      exact wX12_puts_158 C hR u25 x1 x2 x4 r13 0 (fX12_packetAt x1 x2 r13 5) (lv_sub hl [2, 3, 4, 6, 0] rfl) S h
    · have h := cnd_f c26 h
      refine lv_iconst (v := 1) hx hb dX12_puts_153 (by decide) ?_
      refine lv_goto (tgt := 158) hx hb dX12_puts_154 (by decide) ?_
      exact wX12_puts_158 C hR u25 x1 x2 x4 r13 1 (fX12_packetAt x1 x2 r13 5) (lv_sub hl [2, 3, 4, 6, 0] rfl) S h
  · have h := cnd_f c3 h
    exact q_vret C S (Option.some.inj h) dX12_puts_8
set_option maxRecDepth 10000 in
set_option maxHeartbeats 4000000 in
theorem ct_X12_puts (l : Launch) (D : va_G) (cI cB cL : ClassId) (ad : Nat → Nat) (x1 : Int32) (x2 : Int32) (x3 : Int32) (x4 : Int32) (x5 : Int32) (x6 : Int32) (x7 : Int32) (u : Sg) {σ' : Sg} (h : fX12_puts x1 x2 x3 x4 x5 x6 x7 u = some σ') : metV l D (tyl cI cB cL) yX12_puts cX12_puts 10 4 85 (wM cI cB ad) [.ref (ad 0), .int x1, .int x2, .int x3, .int x4, .int x5, .int x6, .int x7] u σ' := by
  intro sz
  refine Met.ofW (cc := cX12_puts) (maxL := 10) (ret := none) (by decide) rfl ?_
  intro p e s m args below meth c s₁ B hml hv
  obtain ⟨rfl, C, S⟩ := q_entry B hml hv
  have hl := lv_entry ([.ref (ad 0), .int x1, .int x2, .int x3, .int x4, .int x5, .int x6, .int x7]) (n := 10) (Nat.le_of_ble_eq_true rfl)
  rw [lg_entry_eq]
  generalize (lg_sl ([.ref (ad 0), .int x1, .int x2, .int x3, .int x4, .int x5, .int x6, .int x7]) ++ List.replicate (10 - (lg_sl ([.ref (ad 0), .int x1, .int x2, .int x3, .int x4, .int x5, .int x6, .int x7])).length) Slot.unset).toArray = ls at hl ⊢
  exact wX12_puts_0 C ⟨Nat.le_refl _, Nat.le_refl _⟩ u x1 x2 x3 x4 x5 x6 x7 (lv_sub hl [0, 1, 2, 3, 4, 5, 6, 7] rfl) S h
noncomputable def fX12_putsAll_36 (K3 : Int32 → Int32 → Int32 → Int32 → Int32 → Int32 → Sg → Option Sg) (x1 : Int32) (x2 : Int32) (x3 : Int32) (x4 : Int32) (x5 : Int32) (x6 : Int32) (u : Sg) : Option Sg := bnd (x6 + 1) (fun v7 => K3 x1 x2 x3 x4 x5 v7 u)
noncomputable def fX12_putsAll_3 : Nat → Int32 → Int32 → Int32 → Int32 → Int32 → Int32 → Sg → Option Sg
  | 0, _, _, _, _, _, _, _ => none
  | n + 1, x1, x2, x3, x4, x5, x6, u => obr (fX12_nodes u) (fun r2 => cnd (r2 ≤ x6) (some u) (obr (fX12_isTo x3 x6 u) (fun r5 => cnd (r5 = 0) (fX12_putsAll_36 (fun a0 a1 a2 a3 a4 a5 w => fX12_putsAll_3 n a0 a1 a2 a3 a4 a5 w) x1 x2 x3 x4 x5 x6 u) (obr (fX12_puts x1 x6 x2 x3 x4 x5 0 u) (fun u9 => fX12_putsAll_36 (fun a0 a1 a2 a3 a4 a5 w => fX12_putsAll_3 n a0 a1 a2 a3 a4 a5 w) x1 x2 x3 x4 x5 x6 u9)))))
noncomputable def fX12_putsAll_0 (x1 : Int32) (x2 : Int32) (x3 : Int32) (x4 : Int32) (x5 : Int32) (u : Sg) : Option Sg := fX12_putsAll_3 FU x1 x2 x3 x4 x5 0 u
noncomputable def fX12_putsAll (x1 : Int32) (x2 : Int32) (x3 : Int32) (x4 : Int32) (x5 : Int32) (u : Sg) : Option Sg := fX12_putsAll_0 x1 x2 x3 x4 x5 u
set_option maxRecDepth 10000 in
set_option maxHeartbeats 4000000 in
theorem wX12_putsAll_36 (C : cx D (tyl cI cB cL) A RX12 cX12_putsAll 7 none p s m args c meth) (hR : 5 ≤ R.frames ∧ 114 ≤ R.locals) {σ' : Sg} (u : Sg) {K3 : Int32 → Int32 → Int32 → Int32 → Int32 → Int32 → Sg → Option Sg} (hK3 : ∀ (y1 : Int32) (y2 : Int32) (y3 : Int32) (y4 : Int32) (y5 : Int32) (y6 : Int32) (v : Sg) (H : Heap) (locs : List Loc) (ls : Array Slot), lv_has ls 7 [(0, .ref (ad 0)), (1, .int y1), (2, .int y2), (3, .int y3), (4, .int y4), (5, .int y5), (6, .int y6)] → st D (wM cI cB ad) A s v H locs → K3 y1 y2 y3 y4 y5 y6 v = some σ' → W p l e R s m args below meth c H locs 0 0 (MQ below (qV D (tyl cI cB cL) (wM cI cB ad) A σ') args s 0 0 A) (F0 m 3 ls [])) (x1 : Int32) (x2 : Int32) (x3 : Int32) (x4 : Int32) (x5 : Int32) (x6 : Int32) {H : Heap} {locs : List Loc} {ls : Array Slot} (hl : lv_has ls 7 [(0, .ref (ad 0)), (1, .int x1), (2, .int x2), (3, .int x3), (4, .int x4), (5, .int x5), (6, .int x6)]) (S : st D (wM cI cB ad) A s u H locs) (h : fX12_putsAll_36 K3 x1 x2 x3 x4 x5 x6 u = some σ') : W p l e R s m args below meth c H locs 0 0 (MQ below (qV D (tyl cI cB cL) (wM cI cB ad) A σ') args s 0 0 A) (F0 m 36 ls []) := by
  have hx := C.1
  have hb := C.2.1
  have hsz := hl.1
  unfold fX12_putsAll_36 at h
  obtain ⟨v7, ev7⟩ : ∃ y : Int32, y = x6 + 1 := ⟨_, rfl⟩
  have h := bnd_of ev7 h
  refine lv_iinc (v := v7) (lv' := [(6, .int v7), (0, .ref (ad 0)), (1, .int x1), (2, .int x2), (3, .int x3), (4, .int x4), (5, .int x5)]) hx hb dX12_putsAll_36 hl (k := 6) rfl (by rw [ev7]; rfl) (by decide) rfl (fun ls hl => ?_)
  have hsz := hl.1
  refine lv_goto (tgt := 3) hx hb dX12_putsAll_39 (by decide) ?_
  exact hK3 x1 x2 x3 x4 x5 v7 u H locs ls (lv_sub hl [1, 2, 3, 4, 5, 6, 0] rfl) S h
set_option maxRecDepth 10000 in
set_option maxHeartbeats 4000000 in
theorem wX12_putsAll_3 (C : cx D (tyl cI cB cL) A RX12 cX12_putsAll 7 none p s m args c meth) (hR : 5 ≤ R.frames ∧ 114 ≤ R.locals) {σ' : Sg} : ∀ (n : Nat) (x1 : Int32) (x2 : Int32) (x3 : Int32) (x4 : Int32) (x5 : Int32) (x6 : Int32) (u : Sg) (H : Heap) (locs : List Loc) (ls : Array Slot), lv_has ls 7 [(0, .ref (ad 0)), (1, .int x1), (2, .int x2), (3, .int x3), (4, .int x4), (5, .int x5), (6, .int x6)] → st D (wM cI cB ad) A s u H locs → fX12_putsAll_3 n x1 x2 x3 x4 x5 x6 u = some σ' → W p l e R s m args below meth c H locs 0 0 (MQ below (qV D (tyl cI cB cL) (wM cI cB ad) A σ') args s 0 0 A) (F0 m 3 ls []) := by
  have hx := C.1
  have hb := C.2.1
  intro n
  induction n with
  | zero =>
    intro x1 x2 x3 x4 x5 x6 u H locs ls hl S h
    cases h
  | succ n ih =>
    intro x1 x2 x3 x4 x5 x6 u H locs ls hl S h
    rw [fX12_putsAll_3] at h
    have hsz := hl.1
    refine lv_iload hx hb dX12_putsAll_3 (lv_at hl 6 rfl) ?_
    refine lv_aload_n hx hb dX12_putsAll_5 rfl (lv_at hl 0 rfl) ?_
    obtain ⟨r2, h1, h⟩ := obr_some h
    refine q_callVi (As := []) (na := 0) C S (oM0 cI cB ad) rfl (ct_X12_nodes l D cI cB cL ad u h1) mw_24 mw_23 mw_25 mw_5 mw_22 hdX12_nodes ⟨Nat.le_trans (Nat.le_of_ble_eq_true rfl) hR.1, Nat.le_trans (Nat.le_of_ble_eq_true rfl) hR.2⟩ rfl hsz ⟨Nat.zero_le _, Nat.zero_le _⟩ (Nat.le_of_ble_eq_true rfl) dX12_putsAll_6 rfl (fun H locs S => ?_)
    refine lv_icmp_ge (tgt := 42) hx hb dX12_putsAll_9 (by decide) (fun c3 => ?_) (fun c3 => ?_)
    · have h := cnd_t c3 h
      exact q_vret C S (Option.some.inj h) dX12_putsAll_42
    · have h := cnd_f c3 h
      refine lv_aload_n hx hb dX12_putsAll_12 rfl (lv_at hl 0 rfl) ?_
      refine lv_iload_n hx hb dX12_putsAll_13 rfl (lv_at hl 3 rfl) ?_
      refine lv_iload hx hb dX12_putsAll_14 (lv_at hl 6 rfl) ?_
      obtain ⟨r5, h4, h⟩ := obr_some h
      refine q_callVi (As := [.int x3, .int x6]) (na := 2) C S (oM0 cI cB ad) rfl (ct_X12_isTo l D cI cB cL ad x3 x6 u h4) mw_99 mw_98 mw_100 mw_5 mw_97 hdX12_isTo ⟨Nat.le_trans (Nat.le_of_ble_eq_true rfl) hR.1, Nat.le_trans (Nat.le_of_ble_eq_true rfl) hR.2⟩ rfl hsz ⟨Nat.zero_le _, Nat.zero_le _⟩ (Nat.le_of_ble_eq_true rfl) dX12_putsAll_16 rfl (fun H locs S => ?_)
      refine lv_if_eq (tgt := 36) hx hb dX12_putsAll_19 (by decide) (fun c6 => ?_) (fun c6 => ?_)
      · have h := cnd_t c6 h
        exact wX12_putsAll_36 C hR u ih x1 x2 x3 x4 x5 x6 (lv_sub hl [0, 1, 2, 3, 4, 5, 6] rfl) S h
      · have h := cnd_f c6 h
        refine lv_aload_n hx hb dX12_putsAll_22 rfl (lv_at hl 0 rfl) ?_
        refine lv_iload_n hx hb dX12_putsAll_23 rfl (lv_at hl 1 rfl) ?_
        refine lv_iload hx hb dX12_putsAll_24 (lv_at hl 6 rfl) ?_
        refine lv_iload_n hx hb dX12_putsAll_26 rfl (lv_at hl 2 rfl) ?_
        refine lv_iload_n hx hb dX12_putsAll_27 rfl (lv_at hl 3 rfl) ?_
        refine lv_iload hx hb dX12_putsAll_28 (lv_at hl 4 rfl) ?_
        refine lv_iload hx hb dX12_putsAll_30 (lv_at hl 5 rfl) ?_
        refine lv_iconst (v := 0) hx hb dX12_putsAll_32 (by decide) ?_
        obtain ⟨u9, h8, h⟩ := obr_some h
        refine q_callVv (As := [.int x1, .int x6, .int x2, .int x3, .int x4, .int x5, .int 0]) (na := 7) C S (oM0 cI cB ad) rfl (ct_X12_puts l D cI cB cL ad x1 x6 x2 x3 x4 x5 0 u h8) mw_103 mw_102 mw_104 mw_5 mw_101 hdX12_puts ⟨Nat.le_trans (Nat.le_of_ble_eq_true rfl) hR.1, Nat.le_trans (Nat.le_of_ble_eq_true rfl) hR.2⟩ rfl hsz ⟨Nat.zero_le _, Nat.zero_le _⟩ (Nat.le_of_ble_eq_true rfl) dX12_putsAll_33 rfl (fun H locs S => ?_)
        exact wX12_putsAll_36 C hR u9 ih x1 x2 x3 x4 x5 x6 (lv_sub hl [0, 1, 2, 3, 4, 5, 6] rfl) S h
set_option maxRecDepth 10000 in
set_option maxHeartbeats 4000000 in
theorem wX12_putsAll_0 (C : cx D (tyl cI cB cL) A RX12 cX12_putsAll 7 none p s m args c meth) (hR : 5 ≤ R.frames ∧ 114 ≤ R.locals) {σ' : Sg} (u : Sg) (x1 : Int32) (x2 : Int32) (x3 : Int32) (x4 : Int32) (x5 : Int32) {H : Heap} {locs : List Loc} {ls : Array Slot} (hl : lv_has ls 7 [(0, .ref (ad 0)), (1, .int x1), (2, .int x2), (3, .int x3), (4, .int x4), (5, .int x5)]) (S : st D (wM cI cB ad) A s u H locs) (h : fX12_putsAll_0 x1 x2 x3 x4 x5 u = some σ') : W p l e R s m args below meth c H locs 0 0 (MQ below (qV D (tyl cI cB cL) (wM cI cB ad) A σ') args s 0 0 A) (F0 m 0 ls []) := by
  have hx := C.1
  have hb := C.2.1
  have hsz := hl.1
  unfold fX12_putsAll_0 at h
  refine lv_iconst (v := 0) hx hb dX12_putsAll_0 (by decide) ?_
  refine lv_istore (lv' := [(6, .int 0), (0, .ref (ad 0)), (1, .int x1), (2, .int x2), (3, .int x3), (4, .int x4), (5, .int x5)]) hx hb dX12_putsAll_1 hl (by decide) rfl (fun ls hl => ?_)
  have hsz := hl.1
  exact wX12_putsAll_3 C hR FU x1 x2 x3 x4 x5 0 u H locs ls (lv_sub hl [1, 2, 3, 4, 5, 6, 0] rfl) S h
set_option maxRecDepth 10000 in
set_option maxHeartbeats 4000000 in
theorem ct_X12_putsAll (l : Launch) (D : va_G) (cI cB cL : ClassId) (ad : Nat → Nat) (x1 : Int32) (x2 : Int32) (x3 : Int32) (x4 : Int32) (x5 : Int32) (u : Sg) {σ' : Sg} (h : fX12_putsAll x1 x2 x3 x4 x5 u = some σ') : metV l D (tyl cI cB cL) yX12_putsAll cX12_putsAll 7 5 114 (wM cI cB ad) [.ref (ad 0), .int x1, .int x2, .int x3, .int x4, .int x5] u σ' := by
  intro sz
  refine Met.ofW (cc := cX12_putsAll) (maxL := 7) (ret := none) (by decide) rfl ?_
  intro p e s m args below meth c s₁ B hml hv
  obtain ⟨rfl, C, S⟩ := q_entry B hml hv
  have hl := lv_entry ([.ref (ad 0), .int x1, .int x2, .int x3, .int x4, .int x5]) (n := 7) (Nat.le_of_ble_eq_true rfl)
  rw [lg_entry_eq]
  generalize (lg_sl ([.ref (ad 0), .int x1, .int x2, .int x3, .int x4, .int x5]) ++ List.replicate (7 - (lg_sl ([.ref (ad 0), .int x1, .int x2, .int x3, .int x4, .int x5])).length) Slot.unset).toArray = ls at hl ⊢
  exact wX12_putsAll_0 C ⟨Nat.le_refl _, Nat.le_refl _⟩ u x1 x2 x3 x4 x5 (lv_sub hl [0, 1, 2, 3, 4, 5] rfl) S h
noncomputable def fX12_isTold_5 : Nat → Int32 → Int32 → Int32 → Int32 → Sg → Option Sg
  | 0, _, _, _, _, _ => none
  | n + 1, x1, x2, x3, x4, u => cnd (x4 < 4) (bnd (s2 u 1 1619 (u 1 4)) (fun u2 => bnd (s2 u2 1 1620 x1) (fun u3 => bnd (s2 u3 1 1621 x2) (fun u4 => bnd (s2 u4 1 1622 x3) (fun u5 => bnd (s2 u5 1 9 (if ((u5 1 9) + 1) < 60 then ((u5 1 9) + 1) else 60)) (fun u6 => some u6)))))) (grd (vp_in ((1619 + x4) - 4) 32243) (grd (vp_in (1619 + x4) 32243) (bnd (s2 u 1 (((1619 + x4) : Int32).toNatClampNeg) (u 1 ((((1619 + x4) - 4) : Int32).toNatClampNeg))) (fun u9 => bnd (x4 + (-1)) (fun v10 => fX12_isTold_5 n x1 x2 x3 v10 u9)))))
noncomputable def fX12_isTold_0 (x1 : Int32) (x2 : Int32) (x3 : Int32) (u : Sg) : Option Sg := fX12_isTold_5 FU x1 x2 x3 239 u
noncomputable def fX12_isTold (x1 : Int32) (x2 : Int32) (x3 : Int32) (u : Sg) : Option Sg := fX12_isTold_0 x1 x2 x3 u
set_option maxRecDepth 10000 in
set_option maxHeartbeats 4000000 in
theorem wX12_isTold_5 (C : cx D (tyl cI cB cL) A RX12 cX12_isTold 5 none p s m args c meth) (hR : 1 ≤ R.frames ∧ 21 ≤ R.locals) {σ' : Sg} : ∀ (n : Nat) (x1 : Int32) (x2 : Int32) (x3 : Int32) (x4 : Int32) (u : Sg) (H : Heap) (locs : List Loc) (ls : Array Slot), lv_has ls 5 [(0, .ref (ad 0)), (1, .int x1), (2, .int x2), (3, .int x3), (4, .int x4)] → st D (wM cI cB ad) A s u H locs → fX12_isTold_5 n x1 x2 x3 x4 u = some σ' → W p l e R s m args below meth c H locs 0 0 (MQ below (qV D (tyl cI cB cL) (wM cI cB ad) A σ') args s 0 0 A) (F0 m 5 ls []) := by
  have hx := C.1
  have hb := C.2.1
  intro n
  induction n with
  | zero =>
    intro x1 x2 x3 x4 u H locs ls hl S h
    cases h
  | succ n ih =>
    intro x1 x2 x3 x4 u H locs ls hl S h
    rw [fX12_isTold_5] at h
    have hsz := hl.1
    refine lv_iload hx hb dX12_isTold_5 (lv_at hl 4 rfl) ?_
    refine lv_iconst (v := 4) hx hb dX12_isTold_7 (by decide) ?_
    refine lv_icmp_lt (tgt := 41) hx hb dX12_isTold_8 (by decide) (fun c1 => ?_) (fun c1 => ?_)
    · have h := cnd_t c1 h
      refine lv_aload_n hx hb dX12_isTold_41 rfl (lv_at hl 0 rfl) ?_
      refine q_get (v := .ref (ad 1)) C S (oM0 cI cB ad) rfl iwX12 1 (by decide) mw_14 rfl dX12_isTold_42 ?_
      refine lv_sipush (v := 1619) hx hb dX12_isTold_45 (by decide) ?_
      refine lv_aload_n hx hb dX12_isTold_48 rfl (lv_at hl 0 rfl) ?_
      refine q_get (v := .ref (ad 1)) C S (oM0 cI cB ad) rfl iwX12 1 (by decide) mw_14 rfl dX12_isTold_49 ?_
      refine lv_iconst (v := 4) hx hb dX12_isTold_52 (by decide) ?_
      refine q_iald C S (aM1 cI cB ad) 0 rfl (show vp_in 4 32243 by unfold vp_in; decide) dX12_isTold_53 (j := 4) (by decide) ?_
      obtain ⟨u2, eu2⟩ : ∃ z : Sg, z = s2 u 1 1619 (u 1 4) := ⟨_, rfl⟩
      have h := bnd_of eu2 h
      refine q_iast C S (aM1 cI cB ad) 0 rfl (show vp_in 1619 32243 by unfold vp_in; decide) dX12_isTold_54 (j := 1619) (by decide) eu2 (fun H locs S => ?_)
      refine lv_aload_n hx hb dX12_isTold_55 rfl (lv_at hl 0 rfl) ?_
      refine q_get (v := .ref (ad 1)) C S (oM0 cI cB ad) rfl iwX12 1 (by decide) mw_14 rfl dX12_isTold_56 ?_
      refine lv_sipush (v := 1620) hx hb dX12_isTold_59 (by decide) ?_
      refine lv_iload_n hx hb dX12_isTold_62 rfl (lv_at hl 1 rfl) ?_
      obtain ⟨u3, eu3⟩ : ∃ z : Sg, z = s2 u2 1 1620 x1 := ⟨_, rfl⟩
      have h := bnd_of eu3 h
      refine q_iast C S (aM1 cI cB ad) 0 rfl (show vp_in 1620 32243 by unfold vp_in; decide) dX12_isTold_63 (j := 1620) (by decide) eu3 (fun H locs S => ?_)
      refine lv_aload_n hx hb dX12_isTold_64 rfl (lv_at hl 0 rfl) ?_
      refine q_get (v := .ref (ad 1)) C S (oM0 cI cB ad) rfl iwX12 1 (by decide) mw_14 rfl dX12_isTold_65 ?_
      refine lv_sipush (v := 1621) hx hb dX12_isTold_68 (by decide) ?_
      refine lv_iload_n hx hb dX12_isTold_71 rfl (lv_at hl 2 rfl) ?_
      obtain ⟨u4, eu4⟩ : ∃ z : Sg, z = s2 u3 1 1621 x2 := ⟨_, rfl⟩
      have h := bnd_of eu4 h
      refine q_iast C S (aM1 cI cB ad) 0 rfl (show vp_in 1621 32243 by unfold vp_in; decide) dX12_isTold_72 (j := 1621) (by decide) eu4 (fun H locs S => ?_)
      refine lv_aload_n hx hb dX12_isTold_73 rfl (lv_at hl 0 rfl) ?_
      refine q_get (v := .ref (ad 1)) C S (oM0 cI cB ad) rfl iwX12 1 (by decide) mw_14 rfl dX12_isTold_74 ?_
      refine lv_sipush (v := 1622) hx hb dX12_isTold_77 (by decide) ?_
      refine lv_iload_n hx hb dX12_isTold_80 rfl (lv_at hl 3 rfl) ?_
      obtain ⟨u5, eu5⟩ : ∃ z : Sg, z = s2 u4 1 1622 x3 := ⟨_, rfl⟩
      have h := bnd_of eu5 h
      refine q_iast C S (aM1 cI cB ad) 0 rfl (show vp_in 1622 32243 by unfold vp_in; decide) dX12_isTold_81 (j := 1622) (by decide) eu5 (fun H locs S => ?_)
      refine lv_aload_n hx hb dX12_isTold_82 rfl (lv_at hl 0 rfl) ?_
      refine q_get (v := .ref (ad 1)) C S (oM0 cI cB ad) rfl iwX12 1 (by decide) mw_14 rfl dX12_isTold_83 ?_
      refine lv_bipush (v := 9) hx hb dX12_isTold_86 (by decide) ?_
      refine lv_bipush (v := 60) hx hb dX12_isTold_88 (by decide) ?_
      refine lv_aload_n hx hb dX12_isTold_90 rfl (lv_at hl 0 rfl) ?_
      refine q_get (v := .ref (ad 1)) C S (oM0 cI cB ad) rfl iwX12 1 (by decide) mw_14 rfl dX12_isTold_91 ?_
      refine lv_bipush (v := 9) hx hb dX12_isTold_94 (by decide) ?_
      refine q_iald C S (aM1 cI cB ad) 0 rfl (show vp_in 9 32243 by unfold vp_in; decide) dX12_isTold_96 (j := 9) (by decide) ?_
      refine lv_iconst (v := 1) hx hb dX12_isTold_97 (by decide) ?_
      refine lv_iadd hx hb dX12_isTold_98 ?_
      refine q_mmin C mw_105 mw_106 mw_92 mw_107 ⟨Nat.le_trans (Nat.le_of_ble_eq_true rfl) hR.1, Nat.le_trans (Nat.le_of_ble_eq_true rfl) hR.2⟩ hsz ⟨Nat.zero_le _, Nat.zero_le _⟩ (Nat.le_of_ble_eq_true rfl) dX12_isTold_99 ?_
      obtain ⟨u6, eu6⟩ : ∃ z : Sg, z = s2 u5 1 9 (if ((u5 1 9) + 1) < 60 then ((u5 1 9) + 1) else 60) := ⟨_, rfl⟩
      have h := bnd_of eu6 h
      refine q_iast C S (aM1 cI cB ad) 0 rfl (show vp_in 9 32243 by unfold vp_in; decide) dX12_isTold_102 (j := 9) (by decide) eu6 (fun H locs S => ?_)
      exact q_vret C S (Option.some.inj h) dX12_isTold_103
    · have h := cnd_f c1 h
      refine lv_aload_n hx hb dX12_isTold_11 rfl (lv_at hl 0 rfl) ?_
      refine q_get (v := .ref (ad 1)) C S (oM0 cI cB ad) rfl iwX12 1 (by decide) mw_14 rfl dX12_isTold_12 ?_
      refine lv_sipush (v := 1619) hx hb dX12_isTold_15 (by decide) ?_
      refine lv_iload hx hb dX12_isTold_18 (lv_at hl 4 rfl) ?_
      refine lv_iadd hx hb dX12_isTold_20 ?_
      refine lv_aload_n hx hb dX12_isTold_21 rfl (lv_at hl 0 rfl) ?_
      refine q_get (v := .ref (ad 1)) C S (oM0 cI cB ad) rfl iwX12 1 (by decide) mw_14 rfl dX12_isTold_22 ?_
      refine lv_sipush (v := 1619) hx hb dX12_isTold_25 (by decide) ?_
      refine lv_iload hx hb dX12_isTold_28 (lv_at hl 4 rfl) ?_
      refine lv_iadd hx hb dX12_isTold_30 ?_
      refine lv_iconst (v := 4) hx hb dX12_isTold_31 (by decide) ?_
      refine lv_isub hx hb dX12_isTold_32 ?_
      obtain ⟨g7, h⟩ := grd_some h
      refine q_iald C S (aM1 cI cB ad) 0 rfl g7 dX12_isTold_33 (j := (((1619 + x4) - 4) : Int32).toNatClampNeg) rfl ?_
      obtain ⟨g8, h⟩ := grd_some h
      obtain ⟨u9, eu9⟩ : ∃ z : Sg, z = s2 u 1 (((1619 + x4) : Int32).toNatClampNeg) (u 1 ((((1619 + x4) - 4) : Int32).toNatClampNeg)) := ⟨_, rfl⟩
      have h := bnd_of eu9 h
      refine q_iast C S (aM1 cI cB ad) 0 rfl g8 dX12_isTold_34 (j := ((1619 + x4) : Int32).toNatClampNeg) rfl eu9 (fun H locs S => ?_)
      obtain ⟨v10, ev10⟩ : ∃ y : Int32, y = x4 + (-1) := ⟨_, rfl⟩
      have h := bnd_of ev10 h
      refine lv_iinc (v := v10) (lv' := [(4, .int v10), (0, .ref (ad 0)), (1, .int x1), (2, .int x2), (3, .int x3)]) hx hb dX12_isTold_35 hl (k := 4) rfl (by rw [ev10]; rfl) (by decide) rfl (fun ls hl => ?_)
      have hsz := hl.1
      refine lv_goto (tgt := 5) hx hb dX12_isTold_38 (by decide) ?_
      exact ih x1 x2 x3 v10 u9 H locs ls (lv_sub hl [1, 2, 3, 4, 0] rfl) S h
set_option maxRecDepth 10000 in
set_option maxHeartbeats 4000000 in
theorem wX12_isTold_0 (C : cx D (tyl cI cB cL) A RX12 cX12_isTold 5 none p s m args c meth) (hR : 1 ≤ R.frames ∧ 21 ≤ R.locals) {σ' : Sg} (u : Sg) (x1 : Int32) (x2 : Int32) (x3 : Int32) {H : Heap} {locs : List Loc} {ls : Array Slot} (hl : lv_has ls 5 [(0, .ref (ad 0)), (1, .int x1), (2, .int x2), (3, .int x3)]) (S : st D (wM cI cB ad) A s u H locs) (h : fX12_isTold_0 x1 x2 x3 u = some σ') : W p l e R s m args below meth c H locs 0 0 (MQ below (qV D (tyl cI cB cL) (wM cI cB ad) A σ') args s 0 0 A) (F0 m 0 ls []) := by
  have hx := C.1
  have hb := C.2.1
  have hsz := hl.1
  unfold fX12_isTold_0 at h
  refine lv_sipush (v := 239) hx hb dX12_isTold_0 (by decide) ?_
  refine lv_istore (lv' := [(4, .int 239), (0, .ref (ad 0)), (1, .int x1), (2, .int x2), (3, .int x3)]) hx hb dX12_isTold_3 hl (by decide) rfl (fun ls hl => ?_)
  have hsz := hl.1
  exact wX12_isTold_5 C hR FU x1 x2 x3 239 u H locs ls (lv_sub hl [1, 2, 3, 4, 0] rfl) S h
set_option maxRecDepth 10000 in
set_option maxHeartbeats 4000000 in
theorem ct_X12_isTold (l : Launch) (D : va_G) (cI cB cL : ClassId) (ad : Nat → Nat) (x1 : Int32) (x2 : Int32) (x3 : Int32) (u : Sg) {σ' : Sg} (h : fX12_isTold x1 x2 x3 u = some σ') : metV l D (tyl cI cB cL) yX12_isTold cX12_isTold 5 1 21 (wM cI cB ad) [.ref (ad 0), .int x1, .int x2, .int x3] u σ' := by
  intro sz
  refine Met.ofW (cc := cX12_isTold) (maxL := 5) (ret := none) (by decide) rfl ?_
  intro p e s m args below meth c s₁ B hml hv
  obtain ⟨rfl, C, S⟩ := q_entry B hml hv
  have hl := lv_entry ([.ref (ad 0), .int x1, .int x2, .int x3]) (n := 5) (Nat.le_of_ble_eq_true rfl)
  rw [lg_entry_eq]
  generalize (lg_sl ([.ref (ad 0), .int x1, .int x2, .int x3]) ++ List.replicate (5 - (lg_sl ([.ref (ad 0), .int x1, .int x2, .int x3])).length) Slot.unset).toArray = ls at hl ⊢
  exact wX12_isTold_0 C ⟨Nat.le_refl _, Nat.le_refl _⟩ u x1 x2 x3 (lv_sub hl [0, 1, 2, 3] rfl) S h
noncomputable def fX12_gathers_20 : Nat → Int32 → Int32 → Int32 → Sg → Option Sg
  | 0, _, _, _, _ => none
  | n + 1, x1, x2, x3, u => cnd (10 < x3) (some u) (obr (fX12_lays x1 x2 x3 (-1) u) (fun u7 => bnd (x3 + 1) (fun v8 => fX12_gathers_20 n x1 x2 v8 u7)))
noncomputable def fX12_gathers_0 (x1 : Int32) (x2 : Int32) (u : Sg) : Option Sg := obr (fX12_lays x1 x2 5 1 u) (fun u2 => obr (fX12_lays x1 x2 6 0 u2) (fun u4 => fX12_gathers_20 FU x1 x2 7 u4))
noncomputable def fX12_gathers (x1 : Int32) (x2 : Int32) (u : Sg) : Option Sg := fX12_gathers_0 x1 x2 u
set_option maxRecDepth 10000 in
set_option maxHeartbeats 4000000 in
theorem wX12_gathers_20 (C : cx D (tyl cI cB cL) A RX12 cX12_gathers 4 none p s m args c meth) (hR : 3 ≤ R.frames ∧ 67 ≤ R.locals) {σ' : Sg} : ∀ (n : Nat) (x1 : Int32) (x2 : Int32) (x3 : Int32) (u : Sg) (H : Heap) (locs : List Loc) (ls : Array Slot), lv_has ls 4 [(0, .ref (ad 0)), (1, .int x1), (2, .int x2), (3, .int x3)] → st D (wM cI cB ad) A s u H locs → fX12_gathers_20 n x1 x2 x3 u = some σ' → W p l e R s m args below meth c H locs 0 0 (MQ below (qV D (tyl cI cB cL) (wM cI cB ad) A σ') args s 0 0 A) (F0 m 20 ls []) := by
  have hx := C.1
  have hb := C.2.1
  intro n
  induction n with
  | zero =>
    intro x1 x2 x3 u H locs ls hl S h
    cases h
  | succ n ih =>
    intro x1 x2 x3 u H locs ls hl S h
    rw [fX12_gathers_20] at h
    have hsz := hl.1
    refine lv_iload_n hx hb dX12_gathers_20 rfl (lv_at hl 3 rfl) ?_
    refine lv_bipush (v := 10) hx hb dX12_gathers_21 (by decide) ?_
    refine lv_icmp_gt (tgt := 40) hx hb dX12_gathers_23 (by decide) (fun c5 => ?_) (fun c5 => ?_)
    · have h := cnd_t c5 h
      exact q_vret C S (Option.some.inj h) dX12_gathers_40
    · have h := cnd_f c5 h
      refine lv_aload_n hx hb dX12_gathers_26 rfl (lv_at hl 0 rfl) ?_
      refine lv_iload_n hx hb dX12_gathers_27 rfl (lv_at hl 1 rfl) ?_
      refine lv_iload_n hx hb dX12_gathers_28 rfl (lv_at hl 2 rfl) ?_
      refine lv_iload_n hx hb dX12_gathers_29 rfl (lv_at hl 3 rfl) ?_
      refine lv_iconst (v := (-1)) hx hb dX12_gathers_30 (by decide) ?_
      obtain ⟨u7, h6, h⟩ := obr_some h
      refine q_callVv (As := [.int x1, .int x2, .int x3, .int (-1)]) (na := 4) C S (oM0 cI cB ad) rfl (ct_X12_lays l D cI cB cL ad x1 x2 x3 (-1) u h6) mw_110 mw_109 mw_111 mw_5 mw_108 hdX12_lays ⟨Nat.le_trans (Nat.le_of_ble_eq_true rfl) hR.1, Nat.le_trans (Nat.le_of_ble_eq_true rfl) hR.2⟩ rfl hsz ⟨Nat.zero_le _, Nat.zero_le _⟩ (Nat.le_of_ble_eq_true rfl) dX12_gathers_31 rfl (fun H locs S => ?_)
      obtain ⟨v8, ev8⟩ : ∃ y : Int32, y = x3 + 1 := ⟨_, rfl⟩
      have h := bnd_of ev8 h
      refine lv_iinc (v := v8) (lv' := [(3, .int v8), (0, .ref (ad 0)), (1, .int x1), (2, .int x2)]) hx hb dX12_gathers_34 hl (k := 3) rfl (by rw [ev8]; rfl) (by decide) rfl (fun ls hl => ?_)
      have hsz := hl.1
      refine lv_goto (tgt := 20) hx hb dX12_gathers_37 (by decide) ?_
      exact ih x1 x2 v8 u7 H locs ls (lv_sub hl [1, 2, 3, 0] rfl) S h
set_option maxRecDepth 10000 in
set_option maxHeartbeats 4000000 in
theorem wX12_gathers_0 (C : cx D (tyl cI cB cL) A RX12 cX12_gathers 4 none p s m args c meth) (hR : 3 ≤ R.frames ∧ 67 ≤ R.locals) {σ' : Sg} (u : Sg) (x1 : Int32) (x2 : Int32) {H : Heap} {locs : List Loc} {ls : Array Slot} (hl : lv_has ls 4 [(0, .ref (ad 0)), (1, .int x1), (2, .int x2)]) (S : st D (wM cI cB ad) A s u H locs) (h : fX12_gathers_0 x1 x2 u = some σ') : W p l e R s m args below meth c H locs 0 0 (MQ below (qV D (tyl cI cB cL) (wM cI cB ad) A σ') args s 0 0 A) (F0 m 0 ls []) := by
  have hx := C.1
  have hb := C.2.1
  have hsz := hl.1
  unfold fX12_gathers_0 at h
  refine lv_aload_n hx hb dX12_gathers_0 rfl (lv_at hl 0 rfl) ?_
  refine lv_iload_n hx hb dX12_gathers_1 rfl (lv_at hl 1 rfl) ?_
  refine lv_iload_n hx hb dX12_gathers_2 rfl (lv_at hl 2 rfl) ?_
  refine lv_iconst (v := 5) hx hb dX12_gathers_3 (by decide) ?_
  refine lv_iconst (v := 1) hx hb dX12_gathers_4 (by decide) ?_
  obtain ⟨u2, h1, h⟩ := obr_some h
  refine q_callVv (As := [.int x1, .int x2, .int 5, .int 1]) (na := 4) C S (oM0 cI cB ad) rfl (ct_X12_lays l D cI cB cL ad x1 x2 5 1 u h1) mw_110 mw_109 mw_111 mw_5 mw_108 hdX12_lays ⟨Nat.le_trans (Nat.le_of_ble_eq_true rfl) hR.1, Nat.le_trans (Nat.le_of_ble_eq_true rfl) hR.2⟩ rfl hsz ⟨Nat.zero_le _, Nat.zero_le _⟩ (Nat.le_of_ble_eq_true rfl) dX12_gathers_5 rfl (fun H locs S => ?_)
  refine lv_aload_n hx hb dX12_gathers_8 rfl (lv_at hl 0 rfl) ?_
  refine lv_iload_n hx hb dX12_gathers_9 rfl (lv_at hl 1 rfl) ?_
  refine lv_iload_n hx hb dX12_gathers_10 rfl (lv_at hl 2 rfl) ?_
  refine lv_bipush (v := 6) hx hb dX12_gathers_11 (by decide) ?_
  refine lv_iconst (v := 0) hx hb dX12_gathers_13 (by decide) ?_
  obtain ⟨u4, h3, h⟩ := obr_some h
  refine q_callVv (As := [.int x1, .int x2, .int 6, .int 0]) (na := 4) C S (oM0 cI cB ad) rfl (ct_X12_lays l D cI cB cL ad x1 x2 6 0 u2 h3) mw_110 mw_109 mw_111 mw_5 mw_108 hdX12_lays ⟨Nat.le_trans (Nat.le_of_ble_eq_true rfl) hR.1, Nat.le_trans (Nat.le_of_ble_eq_true rfl) hR.2⟩ rfl hsz ⟨Nat.zero_le _, Nat.zero_le _⟩ (Nat.le_of_ble_eq_true rfl) dX12_gathers_14 rfl (fun H locs S => ?_)
  refine lv_bipush (v := 7) hx hb dX12_gathers_17 (by decide) ?_
  refine lv_istore_n (lv' := [(3, .int 7), (0, .ref (ad 0)), (1, .int x1), (2, .int x2)]) hx hb dX12_gathers_19 rfl hl (by decide) rfl (fun ls hl => ?_)
  have hsz := hl.1
  exact wX12_gathers_20 C hR FU x1 x2 7 u4 H locs ls (lv_sub hl [1, 2, 3, 0] rfl) S h
set_option maxRecDepth 10000 in
set_option maxHeartbeats 4000000 in
theorem ct_X12_gathers (l : Launch) (D : va_G) (cI cB cL : ClassId) (ad : Nat → Nat) (x1 : Int32) (x2 : Int32) (u : Sg) {σ' : Sg} (h : fX12_gathers x1 x2 u = some σ') : metV l D (tyl cI cB cL) yX12_gathers cX12_gathers 4 3 67 (wM cI cB ad) [.ref (ad 0), .int x1, .int x2] u σ' := by
  intro sz
  refine Met.ofW (cc := cX12_gathers) (maxL := 4) (ret := none) (by decide) rfl ?_
  intro p e s m args below meth c s₁ B hml hv
  obtain ⟨rfl, C, S⟩ := q_entry B hml hv
  have hl := lv_entry ([.ref (ad 0), .int x1, .int x2]) (n := 4) (Nat.le_of_ble_eq_true rfl)
  rw [lg_entry_eq]
  generalize (lg_sl ([.ref (ad 0), .int x1, .int x2]) ++ List.replicate (4 - (lg_sl ([.ref (ad 0), .int x1, .int x2])).length) Slot.unset).toArray = ls at hl ⊢
  exact wX12_gathers_0 C ⟨Nat.le_refl _, Nat.le_refl _⟩ u x1 x2 (lv_sub hl [0, 1, 2] rfl) S h
noncomputable def fX12_isSent_64 : Nat → Int32 → Int32 → Int32 → Sg → Option (Int32 × Sg)
  | 0, _, _, _, _ => none
  | n + 1, x1, x3, x4, u => cnd (6 ≤ x4) (obr (fX12_isTold x1 0 x3 u) (fun u13 => obr (fX12_gathers x1 x3 u13) (fun u15 => obr (fX12_putsAll x1 0 x3 (-1) (-1) u15) (fun u17 => some (x3, u17))))) (obr (fX12_lays x4 x3 4 (-1) u) (fun u19 => bnd (x4 + 1) (fun v20 => fX12_isSent_64 n x1 x3 v20 u19)))
noncomputable def fX12_isSent_0 (x1 : Int32) (x2 : Int32) (u : Sg) : Option (Int32 × Sg) := obr (fX12_messages u) (fun r2 => bnd (s2 u 1 3 ((u 1 3) + 1)) (fun u3 => grd (vp_in (fX12_messageAt r2 0) 32243) (bnd (s2 u3 1 (((fX12_messageAt r2 0) : Int32).toNatClampNeg) x1) (fun u5 => grd (vp_in (11 + x2) 32243) (grd (vp_in (fX12_messageAt r2 1) 32243) (bnd (s2 u5 1 (((fX12_messageAt r2 1) : Int32).toNatClampNeg) (u5 1 (((11 + x2) : Int32).toNatClampNeg))) (fun u8 => grd (vp_in (fX12_messageAt r2 3) 32243) (bnd (s2 u8 1 (((fX12_messageAt r2 3) : Int32).toNatClampNeg) (u8 1 4)) (fun u10 => fX12_isSent_64 FU x1 r2 0 u10)))))))))
noncomputable def fX12_isSent (x1 : Int32) (x2 : Int32) (u : Sg) : Option (Int32 × Sg) := fX12_isSent_0 x1 x2 u
set_option maxRecDepth 10000 in
set_option maxHeartbeats 4000000 in
theorem wX12_isSent_64 (C : cx D (tyl cI cB cL) A RX12 cX12_isSent 5 (some .int) p s m args c meth) (hR : 6 ≤ R.frames ∧ 140 ≤ R.locals) {r : Int32} {σ' : Sg} : ∀ (n : Nat) (x1 : Int32) (x3 : Int32) (x4 : Int32) (u : Sg) (H : Heap) (locs : List Loc) (ls : Array Slot), lv_has ls 5 [(0, .ref (ad 0)), (1, .int x1), (3, .int x3), (4, .int x4)] → st D (wM cI cB ad) A s u H locs → fX12_isSent_64 n x1 x3 x4 u = some (r, σ') → W p l e R s m args below meth c H locs 0 0 (MQ below (qI D (tyl cI cB cL) (wM cI cB ad) A r σ') args s 0 0 A) (F0 m 64 ls []) := by
  have hx := C.1
  have hb := C.2.1
  intro n
  induction n with
  | zero =>
    intro x1 x3 x4 u H locs ls hl S h
    cases h
  | succ n ih =>
    intro x1 x3 x4 u H locs ls hl S h
    rw [fX12_isSent_64] at h
    have hsz := hl.1
    refine lv_iload hx hb dX12_isSent_64 (lv_at hl 3 rfl) ?_
    refine lv_bipush (v := 6) hx hb dX12_isSent_66 (by decide) ?_
    refine lv_icmp_ge (tgt := 86) hx hb dX12_isSent_68 (by decide) (fun c11 => ?_) (fun c11 => ?_)
    · have h := cnd_t c11 h
      refine lv_aload_n hx hb dX12_isSent_86 rfl (lv_at hl 0 rfl) ?_
      refine lv_iload_n hx hb dX12_isSent_87 rfl (lv_at hl 1 rfl) ?_
      refine lv_iconst (v := 0) hx hb dX12_isSent_88 (by decide) ?_
      refine lv_iload_n hx hb dX12_isSent_89 rfl (lv_at hl 2 rfl) ?_
      obtain ⟨u13, h12, h⟩ := obr_some h
      refine q_callVv (As := [.int x1, .int 0, .int x3]) (na := 3) C S (oM0 cI cB ad) rfl (ct_X12_isTold l D cI cB cL ad x1 0 x3 u h12) mw_114 mw_113 mw_115 mw_5 mw_112 hdX12_isTold ⟨Nat.le_trans (Nat.le_of_ble_eq_true rfl) hR.1, Nat.le_trans (Nat.le_of_ble_eq_true rfl) hR.2⟩ rfl hsz ⟨Nat.zero_le _, Nat.zero_le _⟩ (Nat.le_of_ble_eq_true rfl) dX12_isSent_90 rfl (fun H locs S => ?_)
      refine lv_aload_n hx hb dX12_isSent_93 rfl (lv_at hl 0 rfl) ?_
      refine lv_iload_n hx hb dX12_isSent_94 rfl (lv_at hl 1 rfl) ?_
      refine lv_iload_n hx hb dX12_isSent_95 rfl (lv_at hl 2 rfl) ?_
      obtain ⟨u15, h14, h⟩ := obr_some h
      refine q_callVv (As := [.int x1, .int x3]) (na := 2) C S (oM0 cI cB ad) rfl (ct_X12_gathers l D cI cB cL ad x1 x3 u13 h14) mw_118 mw_117 mw_119 mw_5 mw_116 hdX12_gathers ⟨Nat.le_trans (Nat.le_of_ble_eq_true rfl) hR.1, Nat.le_trans (Nat.le_of_ble_eq_true rfl) hR.2⟩ rfl hsz ⟨Nat.zero_le _, Nat.zero_le _⟩ (Nat.le_of_ble_eq_true rfl) dX12_isSent_96 rfl (fun H locs S => ?_)
      refine lv_aload_n hx hb dX12_isSent_99 rfl (lv_at hl 0 rfl) ?_
      refine lv_iload_n hx hb dX12_isSent_100 rfl (lv_at hl 1 rfl) ?_
      refine lv_iconst (v := 0) hx hb dX12_isSent_101 (by decide) ?_
      refine lv_iload_n hx hb dX12_isSent_102 rfl (lv_at hl 2 rfl) ?_
      refine lv_iconst (v := (-1)) hx hb dX12_isSent_103 (by decide) ?_
      refine lv_iconst (v := (-1)) hx hb dX12_isSent_104 (by decide) ?_
      obtain ⟨u17, h16, h⟩ := obr_some h
      refine q_callVv (As := [.int x1, .int 0, .int x3, .int (-1), .int (-1)]) (na := 5) C S (oM0 cI cB ad) rfl (ct_X12_putsAll l D cI cB cL ad x1 0 x3 (-1) (-1) u15 h16) mw_122 mw_121 mw_123 mw_5 mw_120 hdX12_putsAll ⟨Nat.le_trans (Nat.le_of_ble_eq_true rfl) hR.1, Nat.le_trans (Nat.le_of_ble_eq_true rfl) hR.2⟩ rfl hsz ⟨Nat.zero_le _, Nat.zero_le _⟩ (Nat.le_of_ble_eq_true rfl) dX12_isSent_105 rfl (fun H locs S => ?_)
      refine lv_iload_n hx hb dX12_isSent_108 rfl (lv_at hl 2 rfl) ?_
      exact q_iret C S (rt_S h) dX12_isSent_109
    · have h := cnd_f c11 h
      refine lv_aload_n hx hb dX12_isSent_71 rfl (lv_at hl 0 rfl) ?_
      refine lv_iload hx hb dX12_isSent_72 (lv_at hl 3 rfl) ?_
      refine lv_iload_n hx hb dX12_isSent_74 rfl (lv_at hl 2 rfl) ?_
      refine lv_iconst (v := 4) hx hb dX12_isSent_75 (by decide) ?_
      refine lv_iconst (v := (-1)) hx hb dX12_isSent_76 (by decide) ?_
      obtain ⟨u19, h18, h⟩ := obr_some h
      refine q_callVv (As := [.int x4, .int x3, .int 4, .int (-1)]) (na := 4) C S (oM0 cI cB ad) rfl (ct_X12_lays l D cI cB cL ad x4 x3 4 (-1) u h18) mw_110 mw_109 mw_111 mw_5 mw_108 hdX12_lays ⟨Nat.le_trans (Nat.le_of_ble_eq_true rfl) hR.1, Nat.le_trans (Nat.le_of_ble_eq_true rfl) hR.2⟩ rfl hsz ⟨Nat.zero_le _, Nat.zero_le _⟩ (Nat.le_of_ble_eq_true rfl) dX12_isSent_77 rfl (fun H locs S => ?_)
      obtain ⟨v20, ev20⟩ : ∃ y : Int32, y = x4 + 1 := ⟨_, rfl⟩
      have h := bnd_of ev20 h
      refine lv_iinc (v := v20) (lv' := [(4, .int v20), (0, .ref (ad 0)), (1, .int x1), (3, .int x3)]) hx hb dX12_isSent_80 hl (k := 3) rfl (by rw [ev20]; rfl) (by decide) rfl (fun ls hl => ?_)
      have hsz := hl.1
      refine lv_goto (tgt := 64) hx hb dX12_isSent_83 (by decide) ?_
      exact ih x1 x3 v20 u19 H locs ls (lv_sub hl [1, 2, 3, 0] rfl) S h
set_option maxRecDepth 10000 in
set_option maxHeartbeats 4000000 in
theorem wX12_isSent_0 (C : cx D (tyl cI cB cL) A RX12 cX12_isSent 5 (some .int) p s m args c meth) (hR : 6 ≤ R.frames ∧ 140 ≤ R.locals) {r : Int32} {σ' : Sg} (u : Sg) (x1 : Int32) (x2 : Int32) {H : Heap} {locs : List Loc} {ls : Array Slot} (hl : lv_has ls 5 [(0, .ref (ad 0)), (1, .int x1), (2, .int x2)]) (S : st D (wM cI cB ad) A s u H locs) (h : fX12_isSent_0 x1 x2 u = some (r, σ')) : W p l e R s m args below meth c H locs 0 0 (MQ below (qI D (tyl cI cB cL) (wM cI cB ad) A r σ') args s 0 0 A) (F0 m 0 ls []) := by
  have hx := C.1
  have hb := C.2.1
  have hsz := hl.1
  unfold fX12_isSent_0 at h
  refine lv_aload_n hx hb dX12_isSent_0 rfl (lv_at hl 0 rfl) ?_
  obtain ⟨r2, h1, h⟩ := obr_some h
  refine q_callVi (As := []) (na := 0) C S (oM0 cI cB ad) rfl (ct_X12_messages l D cI cB cL ad u h1) mw_31 mw_30 mw_32 mw_5 mw_29 hdX12_messages ⟨Nat.le_trans (Nat.le_of_ble_eq_true rfl) hR.1, Nat.le_trans (Nat.le_of_ble_eq_true rfl) hR.2⟩ rfl hsz ⟨Nat.zero_le _, Nat.zero_le _⟩ (Nat.le_of_ble_eq_true rfl) dX12_isSent_1 rfl (fun H locs S => ?_)
  refine lv_istore_n (lv' := [(3, .int r2), (0, .ref (ad 0)), (1, .int x1), (2, .int x2)]) hx hb dX12_isSent_4 rfl hl (by decide) rfl (fun ls hl => ?_)
  have hsz := hl.1
  refine lv_aload_n hx hb dX12_isSent_5 rfl (lv_at hl 1 rfl) ?_
  refine q_get (v := .ref (ad 1)) C S (oM0 cI cB ad) rfl iwX12 1 (by decide) mw_14 rfl dX12_isSent_6 ?_
  refine lv_iconst (v := 3) hx hb dX12_isSent_9 (by decide) ?_
  refine lv_dup2_11 hx hb dX12_isSent_10 rfl rfl ?_
  refine q_iald C S (aM1 cI cB ad) 0 rfl (show vp_in 3 32243 by unfold vp_in; decide) dX12_isSent_11 (j := 3) (by decide) ?_
  refine lv_iconst (v := 1) hx hb dX12_isSent_12 (by decide) ?_
  refine lv_iadd hx hb dX12_isSent_13 ?_
  obtain ⟨u3, eu3⟩ : ∃ z : Sg, z = s2 u 1 3 ((u 1 3) + 1) := ⟨_, rfl⟩
  have h := bnd_of eu3 h
  refine q_iast C S (aM1 cI cB ad) 0 rfl (show vp_in 3 32243 by unfold vp_in; decide) dX12_isSent_14 (j := 3) (by decide) eu3 (fun H locs S => ?_)
  refine lv_aload_n hx hb dX12_isSent_15 rfl (lv_at hl 1 rfl) ?_
  refine q_get (v := .ref (ad 1)) C S (oM0 cI cB ad) rfl iwX12 1 (by decide) mw_14 rfl dX12_isSent_16 ?_
  refine lv_iload_n hx hb dX12_isSent_19 rfl (lv_at hl 0 rfl) ?_
  refine lv_iconst (v := 0) hx hb dX12_isSent_20 (by decide) ?_
  refine q_callP (As := [.int r2, .int 0]) (na := 2) C S (ct_X12_messageAt l D cI cB cL r2 0) mw_21 mw_20 mw_5 mw_19 hdX12_messageAt ⟨Nat.le_trans (Nat.le_of_ble_eq_true rfl) hR.1, Nat.le_trans (Nat.le_of_ble_eq_true rfl) hR.2⟩ rfl hsz ⟨Nat.zero_le _, Nat.zero_le _⟩ (Nat.le_of_ble_eq_true rfl) dX12_isSent_21 rfl (fun H locs S => ?_)
  refine lv_iload_n hx hb dX12_isSent_24 rfl (lv_at hl 2 rfl) ?_
  obtain ⟨g4, h⟩ := grd_some h
  obtain ⟨u5, eu5⟩ : ∃ z : Sg, z = s2 u3 1 (((fX12_messageAt r2 0) : Int32).toNatClampNeg) x1 := ⟨_, rfl⟩
  have h := bnd_of eu5 h
  refine q_iast C S (aM1 cI cB ad) 0 rfl g4 dX12_isSent_25 (j := ((fX12_messageAt r2 0) : Int32).toNatClampNeg) rfl eu5 (fun H locs S => ?_)
  refine lv_aload_n hx hb dX12_isSent_26 rfl (lv_at hl 1 rfl) ?_
  refine q_get (v := .ref (ad 1)) C S (oM0 cI cB ad) rfl iwX12 1 (by decide) mw_14 rfl dX12_isSent_27 ?_
  refine lv_iload_n hx hb dX12_isSent_30 rfl (lv_at hl 0 rfl) ?_
  refine lv_iconst (v := 1) hx hb dX12_isSent_31 (by decide) ?_
  refine q_callP (As := [.int r2, .int 1]) (na := 2) C S (ct_X12_messageAt l D cI cB cL r2 1) mw_21 mw_20 mw_5 mw_19 hdX12_messageAt ⟨Nat.le_trans (Nat.le_of_ble_eq_true rfl) hR.1, Nat.le_trans (Nat.le_of_ble_eq_true rfl) hR.2⟩ rfl hsz ⟨Nat.zero_le _, Nat.zero_le _⟩ (Nat.le_of_ble_eq_true rfl) dX12_isSent_32 rfl (fun H locs S => ?_)
  refine lv_aload_n hx hb dX12_isSent_35 rfl (lv_at hl 1 rfl) ?_
  refine q_get (v := .ref (ad 1)) C S (oM0 cI cB ad) rfl iwX12 1 (by decide) mw_14 rfl dX12_isSent_36 ?_
  refine lv_bipush (v := 11) hx hb dX12_isSent_39 (by decide) ?_
  refine lv_iload_n hx hb dX12_isSent_41 rfl (lv_at hl 3 rfl) ?_
  refine lv_iadd hx hb dX12_isSent_42 ?_
  obtain ⟨g6, h⟩ := grd_some h
  refine q_iald C S (aM1 cI cB ad) 0 rfl g6 dX12_isSent_43 (j := ((11 + x2) : Int32).toNatClampNeg) rfl ?_
  obtain ⟨g7, h⟩ := grd_some h
  obtain ⟨u8, eu8⟩ : ∃ z : Sg, z = s2 u5 1 (((fX12_messageAt r2 1) : Int32).toNatClampNeg) (u5 1 (((11 + x2) : Int32).toNatClampNeg)) := ⟨_, rfl⟩
  have h := bnd_of eu8 h
  refine q_iast C S (aM1 cI cB ad) 0 rfl g7 dX12_isSent_44 (j := ((fX12_messageAt r2 1) : Int32).toNatClampNeg) rfl eu8 (fun H locs S => ?_)
  refine lv_aload_n hx hb dX12_isSent_45 rfl (lv_at hl 1 rfl) ?_
  refine q_get (v := .ref (ad 1)) C S (oM0 cI cB ad) rfl iwX12 1 (by decide) mw_14 rfl dX12_isSent_46 ?_
  refine lv_iload_n hx hb dX12_isSent_49 rfl (lv_at hl 0 rfl) ?_
  refine lv_iconst (v := 3) hx hb dX12_isSent_50 (by decide) ?_
  refine q_callP (As := [.int r2, .int 3]) (na := 2) C S (ct_X12_messageAt l D cI cB cL r2 3) mw_21 mw_20 mw_5 mw_19 hdX12_messageAt ⟨Nat.le_trans (Nat.le_of_ble_eq_true rfl) hR.1, Nat.le_trans (Nat.le_of_ble_eq_true rfl) hR.2⟩ rfl hsz ⟨Nat.zero_le _, Nat.zero_le _⟩ (Nat.le_of_ble_eq_true rfl) dX12_isSent_51 rfl (fun H locs S => ?_)
  refine lv_aload_n hx hb dX12_isSent_54 rfl (lv_at hl 1 rfl) ?_
  refine q_get (v := .ref (ad 1)) C S (oM0 cI cB ad) rfl iwX12 1 (by decide) mw_14 rfl dX12_isSent_55 ?_
  refine lv_iconst (v := 4) hx hb dX12_isSent_58 (by decide) ?_
  refine q_iald C S (aM1 cI cB ad) 0 rfl (show vp_in 4 32243 by unfold vp_in; decide) dX12_isSent_59 (j := 4) (by decide) ?_
  obtain ⟨g9, h⟩ := grd_some h
  obtain ⟨u10, eu10⟩ : ∃ z : Sg, z = s2 u8 1 (((fX12_messageAt r2 3) : Int32).toNatClampNeg) (u8 1 4) := ⟨_, rfl⟩
  have h := bnd_of eu10 h
  refine q_iast C S (aM1 cI cB ad) 0 rfl g9 dX12_isSent_60 (j := ((fX12_messageAt r2 3) : Int32).toNatClampNeg) rfl eu10 (fun H locs S => ?_)
  refine lv_iconst (v := 0) hx hb dX12_isSent_61 (by decide) ?_
  refine lv_istore (lv' := [(4, .int 0), (3, .int r2), (0, .ref (ad 0)), (1, .int x1), (2, .int x2)]) hx hb dX12_isSent_62 hl (by decide) rfl (fun ls hl => ?_)
  have hsz := hl.1
  exact wX12_isSent_64 C hR FU x1 r2 0 u10 H locs ls (lv_sub hl [2, 3, 1, 0] rfl) S h
set_option maxRecDepth 10000 in
set_option maxHeartbeats 4000000 in
theorem ct_X12_isSent (l : Launch) (D : va_G) (cI cB cL : ClassId) (ad : Nat → Nat) (x1 : Int32) (x2 : Int32) (u : Sg) {r : Int32} {σ' : Sg} (h : fX12_isSent x1 x2 u = some (r, σ')) : metI l D (tyl cI cB cL) yX12_isSent cX12_isSent 5 (some .int) 6 140 (wM cI cB ad) [.ref (ad 0), .int x1, .int x2] u r σ' := by
  intro sz
  refine Met.ofW (cc := cX12_isSent) (maxL := 5) (ret := (some .int)) (by decide) rfl ?_
  intro p e s m args below meth c s₁ B hml hv
  obtain ⟨rfl, C, S⟩ := q_entry B hml hv
  have hl := lv_entry ([.ref (ad 0), .int x1, .int x2]) (n := 5) (Nat.le_of_ble_eq_true rfl)
  rw [lg_entry_eq]
  generalize (lg_sl ([.ref (ad 0), .int x1, .int x2]) ++ List.replicate (5 - (lg_sl ([.ref (ad 0), .int x1, .int x2])).length) Slot.unset).toArray = ls at hl ⊢
  exact wX12_isSent_0 C ⟨Nat.le_refl _, Nat.le_refl _⟩ u x1 x2 (lv_sub hl [0, 1, 2] rfl) S h
noncomputable def fX12_isDown_0 (x1 : Int32) (u : Sg) : Option Sg := grd (vp_in (fX12_nodeAt x1 0) 32243) (bnd (s2 u 1 (((fX12_nodeAt x1 0) : Int32).toNatClampNeg) 0) (fun u2 => grd (vp_in (fX12_nodeAt x1 1) 32243) (bnd (s2 u2 1 (((fX12_nodeAt x1 1) : Int32).toNatClampNeg) (u2 1 4)) (fun u4 => some u4))))
noncomputable def fX12_isDown (x1 : Int32) (u : Sg) : Option Sg := fX12_isDown_0 x1 u
set_option maxRecDepth 10000 in
set_option maxHeartbeats 4000000 in
theorem wX12_isDown_0 (C : cx D (tyl cI cB cL) A RX12 cX12_isDown 2 none p s m args c meth) (hR : 1 ≤ R.frames ∧ 21 ≤ R.locals) {σ' : Sg} (u : Sg) (x1 : Int32) {H : Heap} {locs : List Loc} {ls : Array Slot} (hl : lv_has ls 2 [(0, .ref (ad 0)), (1, .int x1)]) (S : st D (wM cI cB ad) A s u H locs) (h : fX12_isDown_0 x1 u = some σ') : W p l e R s m args below meth c H locs 0 0 (MQ below (qV D (tyl cI cB cL) (wM cI cB ad) A σ') args s 0 0 A) (F0 m 0 ls []) := by
  have hx := C.1
  have hb := C.2.1
  have hsz := hl.1
  unfold fX12_isDown_0 at h
  refine lv_aload_n hx hb dX12_isDown_0 rfl (lv_at hl 0 rfl) ?_
  refine q_get (v := .ref (ad 1)) C S (oM0 cI cB ad) rfl iwX12 1 (by decide) mw_14 rfl dX12_isDown_1 ?_
  refine lv_iload_n hx hb dX12_isDown_4 rfl (lv_at hl 1 rfl) ?_
  refine lv_iconst (v := 0) hx hb dX12_isDown_5 (by decide) ?_
  refine q_callP (As := [.int x1, .int 0]) (na := 2) C S (ct_X12_nodeAt l D cI cB cL x1 0) mw_7 mw_6 mw_5 mw_4 hdX12_nodeAt ⟨Nat.le_trans (Nat.le_of_ble_eq_true rfl) hR.1, Nat.le_trans (Nat.le_of_ble_eq_true rfl) hR.2⟩ rfl hsz ⟨Nat.zero_le _, Nat.zero_le _⟩ (Nat.le_of_ble_eq_true rfl) dX12_isDown_6 rfl (fun H locs S => ?_)
  refine lv_iconst (v := 0) hx hb dX12_isDown_9 (by decide) ?_
  obtain ⟨g1, h⟩ := grd_some h
  obtain ⟨u2, eu2⟩ : ∃ z : Sg, z = s2 u 1 (((fX12_nodeAt x1 0) : Int32).toNatClampNeg) 0 := ⟨_, rfl⟩
  have h := bnd_of eu2 h
  refine q_iast C S (aM1 cI cB ad) 0 rfl g1 dX12_isDown_10 (j := ((fX12_nodeAt x1 0) : Int32).toNatClampNeg) rfl eu2 (fun H locs S => ?_)
  refine lv_aload_n hx hb dX12_isDown_11 rfl (lv_at hl 0 rfl) ?_
  refine q_get (v := .ref (ad 1)) C S (oM0 cI cB ad) rfl iwX12 1 (by decide) mw_14 rfl dX12_isDown_12 ?_
  refine lv_iload_n hx hb dX12_isDown_15 rfl (lv_at hl 1 rfl) ?_
  refine lv_iconst (v := 1) hx hb dX12_isDown_16 (by decide) ?_
  refine q_callP (As := [.int x1, .int 1]) (na := 2) C S (ct_X12_nodeAt l D cI cB cL x1 1) mw_7 mw_6 mw_5 mw_4 hdX12_nodeAt ⟨Nat.le_trans (Nat.le_of_ble_eq_true rfl) hR.1, Nat.le_trans (Nat.le_of_ble_eq_true rfl) hR.2⟩ rfl hsz ⟨Nat.zero_le _, Nat.zero_le _⟩ (Nat.le_of_ble_eq_true rfl) dX12_isDown_17 rfl (fun H locs S => ?_)
  refine lv_aload_n hx hb dX12_isDown_20 rfl (lv_at hl 0 rfl) ?_
  refine q_get (v := .ref (ad 1)) C S (oM0 cI cB ad) rfl iwX12 1 (by decide) mw_14 rfl dX12_isDown_21 ?_
  refine lv_iconst (v := 4) hx hb dX12_isDown_24 (by decide) ?_
  refine q_iald C S (aM1 cI cB ad) 0 rfl (show vp_in 4 32243 by unfold vp_in; decide) dX12_isDown_25 (j := 4) (by decide) ?_
  obtain ⟨g3, h⟩ := grd_some h
  obtain ⟨u4, eu4⟩ : ∃ z : Sg, z = s2 u2 1 (((fX12_nodeAt x1 1) : Int32).toNatClampNeg) (u2 1 4) := ⟨_, rfl⟩
  have h := bnd_of eu4 h
  refine q_iast C S (aM1 cI cB ad) 0 rfl g3 dX12_isDown_26 (j := ((fX12_nodeAt x1 1) : Int32).toNatClampNeg) rfl eu4 (fun H locs S => ?_)
  exact q_vret C S (Option.some.inj h) dX12_isDown_27
set_option maxRecDepth 10000 in
set_option maxHeartbeats 4000000 in
theorem ct_X12_isDown (l : Launch) (D : va_G) (cI cB cL : ClassId) (ad : Nat → Nat) (x1 : Int32) (u : Sg) {σ' : Sg} (h : fX12_isDown x1 u = some σ') : metV l D (tyl cI cB cL) yX12_isDown cX12_isDown 2 1 21 (wM cI cB ad) [.ref (ad 0), .int x1] u σ' := by
  intro sz
  refine Met.ofW (cc := cX12_isDown) (maxL := 2) (ret := none) (by decide) rfl ?_
  intro p e s m args below meth c s₁ B hml hv
  obtain ⟨rfl, C, S⟩ := q_entry B hml hv
  have hl := lv_entry ([.ref (ad 0), .int x1]) (n := 2) (Nat.le_of_ble_eq_true rfl)
  rw [lg_entry_eq]
  generalize (lg_sl ([.ref (ad 0), .int x1]) ++ List.replicate (2 - (lg_sl ([.ref (ad 0), .int x1])).length) Slot.unset).toArray = ls at hl ⊢
  exact wX12_isDown_0 C ⟨Nat.le_refl _, Nat.le_refl _⟩ u x1 (lv_sub hl [0, 1] rfl) S h
noncomputable def fX12_proposes_0 (x1 : Int32) (x2 : Int32) (x3 : Int32) (u : Sg) : Option Sg := grd (vp_in (fX12_nodeAt x1 2) 32243) (grd (vp_in (fX12_nodeAt x1 2) 32243) (bnd (s2 u 1 (((fX12_nodeAt x1 2) : Int32).toNatClampNeg) ((u 1 (((fX12_nodeAt x1 2) : Int32).toNatClampNeg)) + 1)) (fun u3 => obr (fX12_lays x1 x2 0 1 u3) (fun u5 => obr (fX12_of x1 2 u5) (fun r7 => obr (fX12_lays x1 x2 1 r7 u5) (fun u9 => obr (fX12_lays x1 x2 2 x1 u9) (fun u11 => obr (fX12_lays x1 x2 3 x3 u11) (fun u13 => some u13))))))))
noncomputable def fX12_proposes (x1 : Int32) (x2 : Int32) (x3 : Int32) (u : Sg) : Option Sg := fX12_proposes_0 x1 x2 x3 u
set_option maxRecDepth 10000 in
set_option maxHeartbeats 4000000 in
theorem wX12_proposes_0 (C : cx D (tyl cI cB cL) A RX12 cX12_proposes 4 none p s m args c meth) (hR : 3 ≤ R.frames ∧ 67 ≤ R.locals) {σ' : Sg} (u : Sg) (x1 : Int32) (x2 : Int32) (x3 : Int32) {H : Heap} {locs : List Loc} {ls : Array Slot} (hl : lv_has ls 4 [(0, .ref (ad 0)), (1, .int x1), (2, .int x2), (3, .int x3)]) (S : st D (wM cI cB ad) A s u H locs) (h : fX12_proposes_0 x1 x2 x3 u = some σ') : W p l e R s m args below meth c H locs 0 0 (MQ below (qV D (tyl cI cB cL) (wM cI cB ad) A σ') args s 0 0 A) (F0 m 0 ls []) := by
  have hx := C.1
  have hb := C.2.1
  have hsz := hl.1
  unfold fX12_proposes_0 at h
  refine lv_aload_n hx hb dX12_proposes_0 rfl (lv_at hl 0 rfl) ?_
  refine q_get (v := .ref (ad 1)) C S (oM0 cI cB ad) rfl iwX12 1 (by decide) mw_14 rfl dX12_proposes_1 ?_
  refine lv_iload_n hx hb dX12_proposes_4 rfl (lv_at hl 1 rfl) ?_
  refine lv_iconst (v := 2) hx hb dX12_proposes_5 (by decide) ?_
  refine q_callP (As := [.int x1, .int 2]) (na := 2) C S (ct_X12_nodeAt l D cI cB cL x1 2) mw_7 mw_6 mw_5 mw_4 hdX12_nodeAt ⟨Nat.le_trans (Nat.le_of_ble_eq_true rfl) hR.1, Nat.le_trans (Nat.le_of_ble_eq_true rfl) hR.2⟩ rfl hsz ⟨Nat.zero_le _, Nat.zero_le _⟩ (Nat.le_of_ble_eq_true rfl) dX12_proposes_6 rfl (fun H locs S => ?_)
  refine lv_dup2_11 hx hb dX12_proposes_9 rfl rfl ?_
  obtain ⟨g1, h⟩ := grd_some h
  refine q_iald C S (aM1 cI cB ad) 0 rfl g1 dX12_proposes_10 (j := ((fX12_nodeAt x1 2) : Int32).toNatClampNeg) rfl ?_
  refine lv_iconst (v := 1) hx hb dX12_proposes_11 (by decide) ?_
  refine lv_iadd hx hb dX12_proposes_12 ?_
  obtain ⟨g2, h⟩ := grd_some h
  obtain ⟨u3, eu3⟩ : ∃ z : Sg, z = s2 u 1 (((fX12_nodeAt x1 2) : Int32).toNatClampNeg) ((u 1 (((fX12_nodeAt x1 2) : Int32).toNatClampNeg)) + 1) := ⟨_, rfl⟩
  have h := bnd_of eu3 h
  refine q_iast C S (aM1 cI cB ad) 0 rfl g2 dX12_proposes_13 (j := ((fX12_nodeAt x1 2) : Int32).toNatClampNeg) rfl eu3 (fun H locs S => ?_)
  refine lv_aload_n hx hb dX12_proposes_14 rfl (lv_at hl 0 rfl) ?_
  refine lv_iload_n hx hb dX12_proposes_15 rfl (lv_at hl 1 rfl) ?_
  refine lv_iload_n hx hb dX12_proposes_16 rfl (lv_at hl 2 rfl) ?_
  refine lv_iconst (v := 0) hx hb dX12_proposes_17 (by decide) ?_
  refine lv_iconst (v := 1) hx hb dX12_proposes_18 (by decide) ?_
  obtain ⟨u5, h4, h⟩ := obr_some h
  refine q_callVv (As := [.int x1, .int x2, .int 0, .int 1]) (na := 4) C S (oM0 cI cB ad) rfl (ct_X12_lays l D cI cB cL ad x1 x2 0 1 u3 h4) mw_110 mw_109 mw_111 mw_5 mw_108 hdX12_lays ⟨Nat.le_trans (Nat.le_of_ble_eq_true rfl) hR.1, Nat.le_trans (Nat.le_of_ble_eq_true rfl) hR.2⟩ rfl hsz ⟨Nat.zero_le _, Nat.zero_le _⟩ (Nat.le_of_ble_eq_true rfl) dX12_proposes_19 rfl (fun H locs S => ?_)
  refine lv_aload_n hx hb dX12_proposes_22 rfl (lv_at hl 0 rfl) ?_
  refine lv_iload_n hx hb dX12_proposes_23 rfl (lv_at hl 1 rfl) ?_
  refine lv_iload_n hx hb dX12_proposes_24 rfl (lv_at hl 2 rfl) ?_
  refine lv_iconst (v := 1) hx hb dX12_proposes_25 (by decide) ?_
  refine lv_aload_n hx hb dX12_proposes_26 rfl (lv_at hl 0 rfl) ?_
  refine lv_iload_n hx hb dX12_proposes_27 rfl (lv_at hl 1 rfl) ?_
  refine lv_iconst (v := 2) hx hb dX12_proposes_28 (by decide) ?_
  obtain ⟨r7, h6, h⟩ := obr_some h
  refine q_callVi (As := [.int x1, .int 2]) (na := 2) C S (oM0 cI cB ad) rfl (ct_X12_of l D cI cB cL ad x1 2 u5 h6) mw_35 mw_34 mw_36 mw_5 mw_33 hdX12_of ⟨Nat.le_trans (Nat.le_of_ble_eq_true rfl) hR.1, Nat.le_trans (Nat.le_of_ble_eq_true rfl) hR.2⟩ rfl hsz ⟨Nat.zero_le _, Nat.zero_le _⟩ (Nat.le_of_ble_eq_true rfl) dX12_proposes_29 rfl (fun H locs S => ?_)
  obtain ⟨u9, h8, h⟩ := obr_some h
  refine q_callVv (As := [.int x1, .int x2, .int 1, .int r7]) (na := 4) C S (oM0 cI cB ad) rfl (ct_X12_lays l D cI cB cL ad x1 x2 1 r7 u5 h8) mw_110 mw_109 mw_111 mw_5 mw_108 hdX12_lays ⟨Nat.le_trans (Nat.le_of_ble_eq_true rfl) hR.1, Nat.le_trans (Nat.le_of_ble_eq_true rfl) hR.2⟩ rfl hsz ⟨Nat.zero_le _, Nat.zero_le _⟩ (Nat.le_of_ble_eq_true rfl) dX12_proposes_32 rfl (fun H locs S => ?_)
  refine lv_aload_n hx hb dX12_proposes_35 rfl (lv_at hl 0 rfl) ?_
  refine lv_iload_n hx hb dX12_proposes_36 rfl (lv_at hl 1 rfl) ?_
  refine lv_iload_n hx hb dX12_proposes_37 rfl (lv_at hl 2 rfl) ?_
  refine lv_iconst (v := 2) hx hb dX12_proposes_38 (by decide) ?_
  refine lv_iload_n hx hb dX12_proposes_39 rfl (lv_at hl 1 rfl) ?_
  obtain ⟨u11, h10, h⟩ := obr_some h
  refine q_callVv (As := [.int x1, .int x2, .int 2, .int x1]) (na := 4) C S (oM0 cI cB ad) rfl (ct_X12_lays l D cI cB cL ad x1 x2 2 x1 u9 h10) mw_110 mw_109 mw_111 mw_5 mw_108 hdX12_lays ⟨Nat.le_trans (Nat.le_of_ble_eq_true rfl) hR.1, Nat.le_trans (Nat.le_of_ble_eq_true rfl) hR.2⟩ rfl hsz ⟨Nat.zero_le _, Nat.zero_le _⟩ (Nat.le_of_ble_eq_true rfl) dX12_proposes_40 rfl (fun H locs S => ?_)
  refine lv_aload_n hx hb dX12_proposes_43 rfl (lv_at hl 0 rfl) ?_
  refine lv_iload_n hx hb dX12_proposes_44 rfl (lv_at hl 1 rfl) ?_
  refine lv_iload_n hx hb dX12_proposes_45 rfl (lv_at hl 2 rfl) ?_
  refine lv_iconst (v := 3) hx hb dX12_proposes_46 (by decide) ?_
  refine lv_iload_n hx hb dX12_proposes_47 rfl (lv_at hl 3 rfl) ?_
  obtain ⟨u13, h12, h⟩ := obr_some h
  refine q_callVv (As := [.int x1, .int x2, .int 3, .int x3]) (na := 4) C S (oM0 cI cB ad) rfl (ct_X12_lays l D cI cB cL ad x1 x2 3 x3 u11 h12) mw_110 mw_109 mw_111 mw_5 mw_108 hdX12_lays ⟨Nat.le_trans (Nat.le_of_ble_eq_true rfl) hR.1, Nat.le_trans (Nat.le_of_ble_eq_true rfl) hR.2⟩ rfl hsz ⟨Nat.zero_le _, Nat.zero_le _⟩ (Nat.le_of_ble_eq_true rfl) dX12_proposes_48 rfl (fun H locs S => ?_)
  exact q_vret C S (Option.some.inj h) dX12_proposes_51
set_option maxRecDepth 10000 in
set_option maxHeartbeats 4000000 in
theorem ct_X12_proposes (l : Launch) (D : va_G) (cI cB cL : ClassId) (ad : Nat → Nat) (x1 : Int32) (x2 : Int32) (x3 : Int32) (u : Sg) {σ' : Sg} (h : fX12_proposes x1 x2 x3 u = some σ') : metV l D (tyl cI cB cL) yX12_proposes cX12_proposes 4 3 67 (wM cI cB ad) [.ref (ad 0), .int x1, .int x2, .int x3] u σ' := by
  intro sz
  refine Met.ofW (cc := cX12_proposes) (maxL := 4) (ret := none) (by decide) rfl ?_
  intro p e s m args below meth c s₁ B hml hv
  obtain ⟨rfl, C, S⟩ := q_entry B hml hv
  have hl := lv_entry ([.ref (ad 0), .int x1, .int x2, .int x3]) (n := 4) (Nat.le_of_ble_eq_true rfl)
  rw [lg_entry_eq]
  generalize (lg_sl ([.ref (ad 0), .int x1, .int x2, .int x3]) ++ List.replicate (4 - (lg_sl ([.ref (ad 0), .int x1, .int x2, .int x3])).length) Slot.unset).toArray = ls at hl ⊢
  exact wX12_proposes_0 C ⟨Nat.le_refl _, Nat.le_refl _⟩ u x1 x2 x3 (lv_sub hl [0, 1, 2, 3] rfl) S h
noncomputable def fX12_hearsRequest_0 (x1 : Int32) (x2 : Int32) (x3 : Int32) (u : Sg) : Option Sg := obr (fX12_ofPair x1 x3 0 u) (fun r2 => cnd (r2 = 0) (obr (fX12_proposes x1 x3 x2 u) (fun u5 => obr (fX12_ofPair x1 x3 1 u5) (fun r7 => obr (fX12_puts x1 x2 1 x3 r7 x1 0 u5) (fun u9 => some u9)))) (some u))
noncomputable def fX12_hearsRequest (x1 : Int32) (x2 : Int32) (x3 : Int32) (u : Sg) : Option Sg := fX12_hearsRequest_0 x1 x2 x3 u
set_option maxRecDepth 10000 in
set_option maxHeartbeats 4000000 in
theorem wX12_hearsRequest_0 (C : cx D (tyl cI cB cL) A RX12 cX12_hearsRequest 4 none p s m args c meth) (hR : 5 ≤ R.frames ∧ 114 ≤ R.locals) {σ' : Sg} (u : Sg) (x1 : Int32) (x2 : Int32) (x3 : Int32) {H : Heap} {locs : List Loc} {ls : Array Slot} (hl : lv_has ls 4 [(0, .ref (ad 0)), (1, .int x1), (2, .int x2), (3, .int x3)]) (S : st D (wM cI cB ad) A s u H locs) (h : fX12_hearsRequest_0 x1 x2 x3 u = some σ') : W p l e R s m args below meth c H locs 0 0 (MQ below (qV D (tyl cI cB cL) (wM cI cB ad) A σ') args s 0 0 A) (F0 m 0 ls []) := by
  have hx := C.1
  have hb := C.2.1
  have hsz := hl.1
  unfold fX12_hearsRequest_0 at h
  refine lv_aload_n hx hb dX12_hearsRequest_0 rfl (lv_at hl 0 rfl) ?_
  refine lv_iload_n hx hb dX12_hearsRequest_1 rfl (lv_at hl 1 rfl) ?_
  refine lv_iload_n hx hb dX12_hearsRequest_2 rfl (lv_at hl 3 rfl) ?_
  refine lv_iconst (v := 0) hx hb dX12_hearsRequest_3 (by decide) ?_
  obtain ⟨r2, h1, h⟩ := obr_some h
  refine q_callVi (As := [.int x1, .int x3, .int 0]) (na := 3) C S (oM0 cI cB ad) rfl (ct_X12_ofPair l D cI cB cL ad x1 x3 0 u h1) mw_126 mw_125 mw_127 mw_5 mw_124 hdX12_ofPair ⟨Nat.le_trans (Nat.le_of_ble_eq_true rfl) hR.1, Nat.le_trans (Nat.le_of_ble_eq_true rfl) hR.2⟩ rfl hsz ⟨Nat.zero_le _, Nat.zero_le _⟩ (Nat.le_of_ble_eq_true rfl) dX12_hearsRequest_4 rfl (fun H locs S => ?_)
  refine lv_if_eq (tgt := 11) hx hb dX12_hearsRequest_7 (by decide) (fun c3 => ?_) (fun c3 => ?_)
  · have h := cnd_t c3 h
    refine lv_aload_n hx hb dX12_hearsRequest_11 rfl (lv_at hl 0 rfl) ?_
    refine lv_iload_n hx hb dX12_hearsRequest_12 rfl (lv_at hl 1 rfl) ?_
    refine lv_iload_n hx hb dX12_hearsRequest_13 rfl (lv_at hl 3 rfl) ?_
    refine lv_iload_n hx hb dX12_hearsRequest_14 rfl (lv_at hl 2 rfl) ?_
    obtain ⟨u5, h4, h⟩ := obr_some h
    refine q_callVv (As := [.int x1, .int x3, .int x2]) (na := 3) C S (oM0 cI cB ad) rfl (ct_X12_proposes l D cI cB cL ad x1 x3 x2 u h4) mw_130 mw_129 mw_131 mw_5 mw_128 hdX12_proposes ⟨Nat.le_trans (Nat.le_of_ble_eq_true rfl) hR.1, Nat.le_trans (Nat.le_of_ble_eq_true rfl) hR.2⟩ rfl hsz ⟨Nat.zero_le _, Nat.zero_le _⟩ (Nat.le_of_ble_eq_true rfl) dX12_hearsRequest_15 rfl (fun H locs S => ?_)
    refine lv_aload_n hx hb dX12_hearsRequest_18 rfl (lv_at hl 0 rfl) ?_
    refine lv_iload_n hx hb dX12_hearsRequest_19 rfl (lv_at hl 1 rfl) ?_
    refine lv_iload_n hx hb dX12_hearsRequest_20 rfl (lv_at hl 2 rfl) ?_
    refine lv_iconst (v := 1) hx hb dX12_hearsRequest_21 (by decide) ?_
    refine lv_iload_n hx hb dX12_hearsRequest_22 rfl (lv_at hl 3 rfl) ?_
    refine lv_aload_n hx hb dX12_hearsRequest_23 rfl (lv_at hl 0 rfl) ?_
    refine lv_iload_n hx hb dX12_hearsRequest_24 rfl (lv_at hl 1 rfl) ?_
    refine lv_iload_n hx hb dX12_hearsRequest_25 rfl (lv_at hl 3 rfl) ?_
    refine lv_iconst (v := 1) hx hb dX12_hearsRequest_26 (by decide) ?_
    obtain ⟨r7, h6, h⟩ := obr_some h
    refine q_callVi (As := [.int x1, .int x3, .int 1]) (na := 3) C S (oM0 cI cB ad) rfl (ct_X12_ofPair l D cI cB cL ad x1 x3 1 u5 h6) mw_126 mw_125 mw_127 mw_5 mw_124 hdX12_ofPair ⟨Nat.le_trans (Nat.le_of_ble_eq_true rfl) hR.1, Nat.le_trans (Nat.le_of_ble_eq_true rfl) hR.2⟩ rfl hsz ⟨Nat.zero_le _, Nat.zero_le _⟩ (Nat.le_of_ble_eq_true rfl) dX12_hearsRequest_27 rfl (fun H locs S => ?_)
    refine lv_iload_n hx hb dX12_hearsRequest_30 rfl (lv_at hl 1 rfl) ?_
    refine lv_iconst (v := 0) hx hb dX12_hearsRequest_31 (by decide) ?_
    obtain ⟨u9, h8, h⟩ := obr_some h
    refine q_callVv (As := [.int x1, .int x2, .int 1, .int x3, .int r7, .int x1, .int 0]) (na := 7) C S (oM0 cI cB ad) rfl (ct_X12_puts l D cI cB cL ad x1 x2 1 x3 r7 x1 0 u5 h8) mw_103 mw_102 mw_104 mw_5 mw_101 hdX12_puts ⟨Nat.le_trans (Nat.le_of_ble_eq_true rfl) hR.1, Nat.le_trans (Nat.le_of_ble_eq_true rfl) hR.2⟩ rfl hsz ⟨Nat.zero_le _, Nat.zero_le _⟩ (Nat.le_of_ble_eq_true rfl) dX12_hearsRequest_32 rfl (fun H locs S => ?_)
    exact q_vret C S (Option.some.inj h) dX12_hearsRequest_35
  · have h := cnd_f c3 h
    exact q_vret C S (Option.some.inj h) dX12_hearsRequest_10
set_option maxRecDepth 10000 in
set_option maxHeartbeats 4000000 in
theorem ct_X12_hearsRequest (l : Launch) (D : va_G) (cI cB cL : ClassId) (ad : Nat → Nat) (x1 : Int32) (x2 : Int32) (x3 : Int32) (u : Sg) {σ' : Sg} (h : fX12_hearsRequest x1 x2 x3 u = some σ') : metV l D (tyl cI cB cL) yX12_hearsRequest cX12_hearsRequest 4 5 114 (wM cI cB ad) [.ref (ad 0), .int x1, .int x2, .int x3] u σ' := by
  intro sz
  refine Met.ofW (cc := cX12_hearsRequest) (maxL := 4) (ret := none) (by decide) rfl ?_
  intro p e s m args below meth c s₁ B hml hv
  obtain ⟨rfl, C, S⟩ := q_entry B hml hv
  have hl := lv_entry ([.ref (ad 0), .int x1, .int x2, .int x3]) (n := 4) (Nat.le_of_ble_eq_true rfl)
  rw [lg_entry_eq]
  generalize (lg_sl ([.ref (ad 0), .int x1, .int x2, .int x3]) ++ List.replicate (4 - (lg_sl ([.ref (ad 0), .int x1, .int x2, .int x3])).length) Slot.unset).toArray = ls at hl ⊢
  exact wX12_hearsRequest_0 C ⟨Nat.le_refl _, Nat.le_refl _⟩ u x1 x2 x3 (lv_sub hl [0, 1, 2, 3] rfl) S h
noncomputable def fX12_goesUp_0 (x1 : Int32) (x2 : Int32) (x3 : Int32) (x4 : Int32) (x5 : Int32) (u : Sg) : Option Sg := obr (fX12_ofPair x1 x2 x3 u) (fun r2 => obr (fX12_ofPair x1 x2 (x3 + 1) u) (fun r4 => cnd ((fX12_isLess r2 r4 x4 x5) = 0) (some u) (obr (fX12_lays x1 x2 x3 x4 u) (fun u7 => obr (fX12_lays x1 x2 (x3 + 1) x5 u7) (fun u9 => some u9)))))
noncomputable def fX12_goesUp (x1 : Int32) (x2 : Int32) (x3 : Int32) (x4 : Int32) (x5 : Int32) (u : Sg) : Option Sg := fX12_goesUp_0 x1 x2 x3 x4 x5 u
set_option maxRecDepth 10000 in
set_option maxHeartbeats 4000000 in
theorem wX12_goesUp_0 (C : cx D (tyl cI cB cL) A RX12 cX12_goesUp 6 none p s m args c meth) (hR : 3 ≤ R.frames ∧ 67 ≤ R.locals) {σ' : Sg} (u : Sg) (x1 : Int32) (x2 : Int32) (x3 : Int32) (x4 : Int32) (x5 : Int32) {H : Heap} {locs : List Loc} {ls : Array Slot} (hl : lv_has ls 6 [(0, .ref (ad 0)), (1, .int x1), (2, .int x2), (3, .int x3), (4, .int x4), (5, .int x5)]) (S : st D (wM cI cB ad) A s u H locs) (h : fX12_goesUp_0 x1 x2 x3 x4 x5 u = some σ') : W p l e R s m args below meth c H locs 0 0 (MQ below (qV D (tyl cI cB cL) (wM cI cB ad) A σ') args s 0 0 A) (F0 m 0 ls []) := by
  have hx := C.1
  have hb := C.2.1
  have hsz := hl.1
  unfold fX12_goesUp_0 at h
  refine lv_aload_n hx hb dX12_goesUp_0 rfl (lv_at hl 0 rfl) ?_
  refine lv_iload_n hx hb dX12_goesUp_1 rfl (lv_at hl 1 rfl) ?_
  refine lv_iload_n hx hb dX12_goesUp_2 rfl (lv_at hl 2 rfl) ?_
  refine lv_iload_n hx hb dX12_goesUp_3 rfl (lv_at hl 3 rfl) ?_
  obtain ⟨r2, h1, h⟩ := obr_some h
  refine q_callVi (As := [.int x1, .int x2, .int x3]) (na := 3) C S (oM0 cI cB ad) rfl (ct_X12_ofPair l D cI cB cL ad x1 x2 x3 u h1) mw_126 mw_125 mw_127 mw_5 mw_124 hdX12_ofPair ⟨Nat.le_trans (Nat.le_of_ble_eq_true rfl) hR.1, Nat.le_trans (Nat.le_of_ble_eq_true rfl) hR.2⟩ rfl hsz ⟨Nat.zero_le _, Nat.zero_le _⟩ (Nat.le_of_ble_eq_true rfl) dX12_goesUp_4 rfl (fun H locs S => ?_)
  refine lv_aload_n hx hb dX12_goesUp_7 rfl (lv_at hl 0 rfl) ?_
  refine lv_iload_n hx hb dX12_goesUp_8 rfl (lv_at hl 1 rfl) ?_
  refine lv_iload_n hx hb dX12_goesUp_9 rfl (lv_at hl 2 rfl) ?_
  refine lv_iload_n hx hb dX12_goesUp_10 rfl (lv_at hl 3 rfl) ?_
  refine lv_iconst (v := 1) hx hb dX12_goesUp_11 (by decide) ?_
  refine lv_iadd hx hb dX12_goesUp_12 ?_
  obtain ⟨r4, h3, h⟩ := obr_some h
  refine q_callVi (As := [.int x1, .int x2, .int (x3 + 1)]) (na := 3) C S (oM0 cI cB ad) rfl (ct_X12_ofPair l D cI cB cL ad x1 x2 (x3 + 1) u h3) mw_126 mw_125 mw_127 mw_5 mw_124 hdX12_ofPair ⟨Nat.le_trans (Nat.le_of_ble_eq_true rfl) hR.1, Nat.le_trans (Nat.le_of_ble_eq_true rfl) hR.2⟩ rfl hsz ⟨Nat.zero_le _, Nat.zero_le _⟩ (Nat.le_of_ble_eq_true rfl) dX12_goesUp_13 rfl (fun H locs S => ?_)
  refine lv_iload hx hb dX12_goesUp_16 (lv_at hl 4 rfl) ?_
  refine lv_iload hx hb dX12_goesUp_18 (lv_at hl 5 rfl) ?_
  refine q_callP (As := [.int r2, .int r4, .int x4, .int x5]) (na := 4) C S (ct_X12_isLess l D cI cB cL r2 r4 x4 x5) mw_134 mw_133 mw_5 mw_132 hdX12_isLess ⟨Nat.le_trans (Nat.le_of_ble_eq_true rfl) hR.1, Nat.le_trans (Nat.le_of_ble_eq_true rfl) hR.2⟩ rfl hsz ⟨Nat.zero_le _, Nat.zero_le _⟩ (Nat.le_of_ble_eq_true rfl) dX12_goesUp_20 rfl (fun H locs S => ?_)
  refine lv_if_ne (tgt := 27) hx hb dX12_goesUp_23 (by decide) (fun c5 => ?_) (fun c5 => ?_)
  · have h := cnd_f c5 h
    refine lv_aload_n hx hb dX12_goesUp_27 rfl (lv_at hl 0 rfl) ?_
    refine lv_iload_n hx hb dX12_goesUp_28 rfl (lv_at hl 1 rfl) ?_
    refine lv_iload_n hx hb dX12_goesUp_29 rfl (lv_at hl 2 rfl) ?_
    refine lv_iload_n hx hb dX12_goesUp_30 rfl (lv_at hl 3 rfl) ?_
    refine lv_iload hx hb dX12_goesUp_31 (lv_at hl 4 rfl) ?_
    obtain ⟨u7, h6, h⟩ := obr_some h
    refine q_callVv (As := [.int x1, .int x2, .int x3, .int x4]) (na := 4) C S (oM0 cI cB ad) rfl (ct_X12_lays l D cI cB cL ad x1 x2 x3 x4 u h6) mw_110 mw_109 mw_111 mw_5 mw_108 hdX12_lays ⟨Nat.le_trans (Nat.le_of_ble_eq_true rfl) hR.1, Nat.le_trans (Nat.le_of_ble_eq_true rfl) hR.2⟩ rfl hsz ⟨Nat.zero_le _, Nat.zero_le _⟩ (Nat.le_of_ble_eq_true rfl) dX12_goesUp_33 rfl (fun H locs S => ?_)
    refine lv_aload_n hx hb dX12_goesUp_36 rfl (lv_at hl 0 rfl) ?_
    refine lv_iload_n hx hb dX12_goesUp_37 rfl (lv_at hl 1 rfl) ?_
    refine lv_iload_n hx hb dX12_goesUp_38 rfl (lv_at hl 2 rfl) ?_
    refine lv_iload_n hx hb dX12_goesUp_39 rfl (lv_at hl 3 rfl) ?_
    refine lv_iconst (v := 1) hx hb dX12_goesUp_40 (by decide) ?_
    refine lv_iadd hx hb dX12_goesUp_41 ?_
    refine lv_iload hx hb dX12_goesUp_42 (lv_at hl 5 rfl) ?_
    obtain ⟨u9, h8, h⟩ := obr_some h
    refine q_callVv (As := [.int x1, .int x2, .int (x3 + 1), .int x5]) (na := 4) C S (oM0 cI cB ad) rfl (ct_X12_lays l D cI cB cL ad x1 x2 (x3 + 1) x5 u7 h8) mw_110 mw_109 mw_111 mw_5 mw_108 hdX12_lays ⟨Nat.le_trans (Nat.le_of_ble_eq_true rfl) hR.1, Nat.le_trans (Nat.le_of_ble_eq_true rfl) hR.2⟩ rfl hsz ⟨Nat.zero_le _, Nat.zero_le _⟩ (Nat.le_of_ble_eq_true rfl) dX12_goesUp_44 rfl (fun H locs S => ?_)
    exact q_vret C S (Option.some.inj h) dX12_goesUp_47
  · have h := cnd_t c5 h
    exact q_vret C S (Option.some.inj h) dX12_goesUp_26
set_option maxRecDepth 10000 in
set_option maxHeartbeats 4000000 in
theorem ct_X12_goesUp (l : Launch) (D : va_G) (cI cB cL : ClassId) (ad : Nat → Nat) (x1 : Int32) (x2 : Int32) (x3 : Int32) (x4 : Int32) (x5 : Int32) (u : Sg) {σ' : Sg} (h : fX12_goesUp x1 x2 x3 x4 x5 u = some σ') : metV l D (tyl cI cB cL) yX12_goesUp cX12_goesUp 6 3 67 (wM cI cB ad) [.ref (ad 0), .int x1, .int x2, .int x3, .int x4, .int x5] u σ' := by
  intro sz
  refine Met.ofW (cc := cX12_goesUp) (maxL := 6) (ret := none) (by decide) rfl ?_
  intro p e s m args below meth c s₁ B hml hv
  obtain ⟨rfl, C, S⟩ := q_entry B hml hv
  have hl := lv_entry ([.ref (ad 0), .int x1, .int x2, .int x3, .int x4, .int x5]) (n := 6) (Nat.le_of_ble_eq_true rfl)
  rw [lg_entry_eq]
  generalize (lg_sl ([.ref (ad 0), .int x1, .int x2, .int x3, .int x4, .int x5]) ++ List.replicate (6 - (lg_sl ([.ref (ad 0), .int x1, .int x2, .int x3, .int x4, .int x5])).length) Slot.unset).toArray = ls at hl ⊢
  exact wX12_goesUp_0 C ⟨Nat.le_refl _, Nat.le_refl _⟩ u x1 x2 x3 x4 x5 (lv_sub hl [0, 1, 2, 3, 4, 5] rfl) S h
noncomputable def fX12_hearsStamp_0 (x1 : Int32) (x2 : Int32) (x3 : Int32) (x4 : Int32) (x5 : Int32) (x6 : Int32) (u : Sg) : Option Sg := obr (fX12_ofPair x1 x3 5 u) (fun r2 => cnd (r2 = 0) (some u) (obr (fX12_ofPair x1 x3 6 u) (fun r5 => obr (fX12_lays x1 x3 6 (r5 ||| ((1 : Int32) <<< ((x2 &&& 31 : Int32)))) u) (fun u7 => obr (fX12_goesUp x1 x3 7 x4 x5 u7) (fun u9 => cnd (x6 = 0) (some u9) (obr (fX12_goesUp x1 x3 9 x4 x5 u9) (fun u12 => some u12)))))))
noncomputable def fX12_hearsStamp (x1 : Int32) (x2 : Int32) (x3 : Int32) (x4 : Int32) (x5 : Int32) (x6 : Int32) (u : Sg) : Option Sg := fX12_hearsStamp_0 x1 x2 x3 x4 x5 x6 u
set_option maxRecDepth 10000 in
set_option maxHeartbeats 4000000 in
theorem wX12_hearsStamp_0 (C : cx D (tyl cI cB cL) A RX12 cX12_hearsStamp 7 none p s m args c meth) (hR : 4 ≤ R.frames ∧ 92 ≤ R.locals) {σ' : Sg} (u : Sg) (x1 : Int32) (x2 : Int32) (x3 : Int32) (x4 : Int32) (x5 : Int32) (x6 : Int32) {H : Heap} {locs : List Loc} {ls : Array Slot} (hl : lv_has ls 7 [(0, .ref (ad 0)), (1, .int x1), (2, .int x2), (3, .int x3), (4, .int x4), (5, .int x5), (6, .int x6)]) (S : st D (wM cI cB ad) A s u H locs) (h : fX12_hearsStamp_0 x1 x2 x3 x4 x5 x6 u = some σ') : W p l e R s m args below meth c H locs 0 0 (MQ below (qV D (tyl cI cB cL) (wM cI cB ad) A σ') args s 0 0 A) (F0 m 0 ls []) := by
  have hx := C.1
  have hb := C.2.1
  have hsz := hl.1
  unfold fX12_hearsStamp_0 at h
  refine lv_aload_n hx hb dX12_hearsStamp_0 rfl (lv_at hl 0 rfl) ?_
  refine lv_iload_n hx hb dX12_hearsStamp_1 rfl (lv_at hl 1 rfl) ?_
  refine lv_iload_n hx hb dX12_hearsStamp_2 rfl (lv_at hl 3 rfl) ?_
  refine lv_iconst (v := 5) hx hb dX12_hearsStamp_3 (by decide) ?_
  obtain ⟨r2, h1, h⟩ := obr_some h
  refine q_callVi (As := [.int x1, .int x3, .int 5]) (na := 3) C S (oM0 cI cB ad) rfl (ct_X12_ofPair l D cI cB cL ad x1 x3 5 u h1) mw_126 mw_125 mw_127 mw_5 mw_124 hdX12_ofPair ⟨Nat.le_trans (Nat.le_of_ble_eq_true rfl) hR.1, Nat.le_trans (Nat.le_of_ble_eq_true rfl) hR.2⟩ rfl hsz ⟨Nat.zero_le _, Nat.zero_le _⟩ (Nat.le_of_ble_eq_true rfl) dX12_hearsStamp_4 rfl (fun H locs S => ?_)
  refine lv_if_ne (tgt := 11) hx hb dX12_hearsStamp_7 (by decide) (fun c3 => ?_) (fun c3 => ?_)
  · have h := cnd_f c3 h
    refine lv_aload_n hx hb dX12_hearsStamp_11 rfl (lv_at hl 0 rfl) ?_
    refine lv_iload_n hx hb dX12_hearsStamp_12 rfl (lv_at hl 1 rfl) ?_
    refine lv_iload_n hx hb dX12_hearsStamp_13 rfl (lv_at hl 3 rfl) ?_
    refine lv_bipush (v := 6) hx hb dX12_hearsStamp_14 (by decide) ?_
    refine lv_aload_n hx hb dX12_hearsStamp_16 rfl (lv_at hl 0 rfl) ?_
    refine lv_iload_n hx hb dX12_hearsStamp_17 rfl (lv_at hl 1 rfl) ?_
    refine lv_iload_n hx hb dX12_hearsStamp_18 rfl (lv_at hl 3 rfl) ?_
    refine lv_bipush (v := 6) hx hb dX12_hearsStamp_19 (by decide) ?_
    obtain ⟨r5, h4, h⟩ := obr_some h
    refine q_callVi (As := [.int x1, .int x3, .int 6]) (na := 3) C S (oM0 cI cB ad) rfl (ct_X12_ofPair l D cI cB cL ad x1 x3 6 u h4) mw_126 mw_125 mw_127 mw_5 mw_124 hdX12_ofPair ⟨Nat.le_trans (Nat.le_of_ble_eq_true rfl) hR.1, Nat.le_trans (Nat.le_of_ble_eq_true rfl) hR.2⟩ rfl hsz ⟨Nat.zero_le _, Nat.zero_le _⟩ (Nat.le_of_ble_eq_true rfl) dX12_hearsStamp_21 rfl (fun H locs S => ?_)
    refine lv_iconst (v := 1) hx hb dX12_hearsStamp_24 (by decide) ?_
    refine lv_iload_n hx hb dX12_hearsStamp_25 rfl (lv_at hl 2 rfl) ?_
    refine lv_ishl hx hb dX12_hearsStamp_26 ?_
    refine lv_ior hx hb dX12_hearsStamp_27 ?_
    obtain ⟨u7, h6, h⟩ := obr_some h
    refine q_callVv (As := [.int x1, .int x3, .int 6, .int (r5 ||| ((1 : Int32) <<< ((x2 &&& 31 : Int32))))]) (na := 4) C S (oM0 cI cB ad) rfl (ct_X12_lays l D cI cB cL ad x1 x3 6 (r5 ||| ((1 : Int32) <<< ((x2 &&& 31 : Int32)))) u h6) mw_110 mw_109 mw_111 mw_5 mw_108 hdX12_lays ⟨Nat.le_trans (Nat.le_of_ble_eq_true rfl) hR.1, Nat.le_trans (Nat.le_of_ble_eq_true rfl) hR.2⟩ rfl hsz ⟨Nat.zero_le _, Nat.zero_le _⟩ (Nat.le_of_ble_eq_true rfl) dX12_hearsStamp_28 rfl (fun H locs S => ?_)
    refine lv_aload_n hx hb dX12_hearsStamp_31 rfl (lv_at hl 0 rfl) ?_
    refine lv_iload_n hx hb dX12_hearsStamp_32 rfl (lv_at hl 1 rfl) ?_
    refine lv_iload_n hx hb dX12_hearsStamp_33 rfl (lv_at hl 3 rfl) ?_
    refine lv_bipush (v := 7) hx hb dX12_hearsStamp_34 (by decide) ?_
    refine lv_iload hx hb dX12_hearsStamp_36 (lv_at hl 4 rfl) ?_
    refine lv_iload hx hb dX12_hearsStamp_38 (lv_at hl 5 rfl) ?_
    obtain ⟨u9, h8, h⟩ := obr_some h
    refine q_callVv (As := [.int x1, .int x3, .int 7, .int x4, .int x5]) (na := 5) C S (oM0 cI cB ad) rfl (ct_X12_goesUp l D cI cB cL ad x1 x3 7 x4 x5 u7 h8) mw_137 mw_136 mw_138 mw_5 mw_135 hdX12_goesUp ⟨Nat.le_trans (Nat.le_of_ble_eq_true rfl) hR.1, Nat.le_trans (Nat.le_of_ble_eq_true rfl) hR.2⟩ rfl hsz ⟨Nat.zero_le _, Nat.zero_le _⟩ (Nat.le_of_ble_eq_true rfl) dX12_hearsStamp_40 rfl (fun H locs S => ?_)
    refine lv_iload hx hb dX12_hearsStamp_43 (lv_at hl 6 rfl) ?_
    refine lv_if_eq (tgt := 60) hx hb dX12_hearsStamp_45 (by decide) (fun c10 => ?_) (fun c10 => ?_)
    · have h := cnd_t c10 h
      exact q_vret C S (Option.some.inj h) dX12_hearsStamp_60
    · have h := cnd_f c10 h
      refine lv_aload_n hx hb dX12_hearsStamp_48 rfl (lv_at hl 0 rfl) ?_
      refine lv_iload_n hx hb dX12_hearsStamp_49 rfl (lv_at hl 1 rfl) ?_
      refine lv_iload_n hx hb dX12_hearsStamp_50 rfl (lv_at hl 3 rfl) ?_
      refine lv_bipush (v := 9) hx hb dX12_hearsStamp_51 (by decide) ?_
      refine lv_iload hx hb dX12_hearsStamp_53 (lv_at hl 4 rfl) ?_
      refine lv_iload hx hb dX12_hearsStamp_55 (lv_at hl 5 rfl) ?_
      obtain ⟨u12, h11, h⟩ := obr_some h
      refine q_callVv (As := [.int x1, .int x3, .int 9, .int x4, .int x5]) (na := 5) C S (oM0 cI cB ad) rfl (ct_X12_goesUp l D cI cB cL ad x1 x3 9 x4 x5 u9 h11) mw_137 mw_136 mw_138 mw_5 mw_135 hdX12_goesUp ⟨Nat.le_trans (Nat.le_of_ble_eq_true rfl) hR.1, Nat.le_trans (Nat.le_of_ble_eq_true rfl) hR.2⟩ rfl hsz ⟨Nat.zero_le _, Nat.zero_le _⟩ (Nat.le_of_ble_eq_true rfl) dX12_hearsStamp_57 rfl (fun H locs S => ?_)
      exact q_vret C S (Option.some.inj h) dX12_hearsStamp_60
  · have h := cnd_t c3 h
    exact q_vret C S (Option.some.inj h) dX12_hearsStamp_10
set_option maxRecDepth 10000 in
set_option maxHeartbeats 4000000 in
theorem ct_X12_hearsStamp (l : Launch) (D : va_G) (cI cB cL : ClassId) (ad : Nat → Nat) (x1 : Int32) (x2 : Int32) (x3 : Int32) (x4 : Int32) (x5 : Int32) (x6 : Int32) (u : Sg) {σ' : Sg} (h : fX12_hearsStamp x1 x2 x3 x4 x5 x6 u = some σ') : metV l D (tyl cI cB cL) yX12_hearsStamp cX12_hearsStamp 7 4 92 (wM cI cB ad) [.ref (ad 0), .int x1, .int x2, .int x3, .int x4, .int x5, .int x6] u σ' := by
  intro sz
  refine Met.ofW (cc := cX12_hearsStamp) (maxL := 7) (ret := none) (by decide) rfl ?_
  intro p e s m args below meth c s₁ B hml hv
  obtain ⟨rfl, C, S⟩ := q_entry B hml hv
  have hl := lv_entry ([.ref (ad 0), .int x1, .int x2, .int x3, .int x4, .int x5, .int x6]) (n := 7) (Nat.le_of_ble_eq_true rfl)
  rw [lg_entry_eq]
  generalize (lg_sl ([.ref (ad 0), .int x1, .int x2, .int x3, .int x4, .int x5, .int x6]) ++ List.replicate (7 - (lg_sl ([.ref (ad 0), .int x1, .int x2, .int x3, .int x4, .int x5, .int x6])).length) Slot.unset).toArray = ls at hl ⊢
  exact wX12_hearsStamp_0 C ⟨Nat.le_refl _, Nat.le_refl _⟩ u x1 x2 x3 x4 x5 x6 (lv_sub hl [0, 1, 2, 3, 4, 5, 6] rfl) S h
noncomputable def fX12_hearsFinal_54 (x1 : Int32) (x2 : Int32) (x3 : Int32) (x4 : Int32) (x5 : Int32) (x6 : Int32) (u : Sg) : Option Sg := obr (fX12_lays x1 x3 0 2 u) (fun u10 => obr (fX12_lays x1 x3 1 x4 u10) (fun u12 => obr (fX12_lays x1 x3 2 x5 u12) (fun u14 => cnd (x6 = 0) (obr (fX12_lays x1 x3 3 x2 u14) (fun u17 => some u17)) (some u14))))
noncomputable def fX12_hearsFinal_0 (x1 : Int32) (x2 : Int32) (x3 : Int32) (x4 : Int32) (x5 : Int32) (u : Sg) : Option Sg := obr (fX12_of x1 2 u) (fun r2 => grd (vp_in (fX12_nodeAt x1 2) 32243) (bnd (s2 u 1 (((fX12_nodeAt x1 2) : Int32).toNatClampNeg) (if r2 < x4 then x4 else r2)) (fun u4 => obr (fX12_ofPair x1 x3 0 u4) (fun r6 => cnd (2 ≤ r6) (some u4) (cnd (r6 = 1) (obr (fX12_ofPair x1 x3 3 u4) (fun r19 => cnd (r19 = x2) (fX12_hearsFinal_54 x1 x2 x3 x4 x5 r6 u4) (some u4))) (fX12_hearsFinal_54 x1 x2 x3 x4 x5 r6 u4))))))
noncomputable def fX12_hearsFinal (x1 : Int32) (x2 : Int32) (x3 : Int32) (x4 : Int32) (x5 : Int32) (u : Sg) : Option Sg := fX12_hearsFinal_0 x1 x2 x3 x4 x5 u
set_option maxRecDepth 10000 in
set_option maxHeartbeats 4000000 in
theorem wX12_hearsFinal_54 (C : cx D (tyl cI cB cL) A RX12 cX12_hearsFinal 7 none p s m args c meth) (hR : 3 ≤ R.frames ∧ 67 ≤ R.locals) {σ' : Sg} (u : Sg) (x1 : Int32) (x2 : Int32) (x3 : Int32) (x4 : Int32) (x5 : Int32) (x6 : Int32) {H : Heap} {locs : List Loc} {ls : Array Slot} (hl : lv_has ls 7 [(0, .ref (ad 0)), (1, .int x1), (2, .int x2), (3, .int x3), (4, .int x4), (5, .int x5), (6, .int x6)]) (S : st D (wM cI cB ad) A s u H locs) (h : fX12_hearsFinal_54 x1 x2 x3 x4 x5 x6 u = some σ') : W p l e R s m args below meth c H locs 0 0 (MQ below (qV D (tyl cI cB cL) (wM cI cB ad) A σ') args s 0 0 A) (F0 m 54 ls []) := by
  have hx := C.1
  have hb := C.2.1
  have hsz := hl.1
  unfold fX12_hearsFinal_54 at h
  refine lv_aload_n hx hb dX12_hearsFinal_54 rfl (lv_at hl 0 rfl) ?_
  refine lv_iload_n hx hb dX12_hearsFinal_55 rfl (lv_at hl 1 rfl) ?_
  refine lv_iload_n hx hb dX12_hearsFinal_56 rfl (lv_at hl 3 rfl) ?_
  refine lv_iconst (v := 0) hx hb dX12_hearsFinal_57 (by decide) ?_
  refine lv_iconst (v := 2) hx hb dX12_hearsFinal_58 (by decide) ?_
  obtain ⟨u10, h9, h⟩ := obr_some h
  refine q_callVv (As := [.int x1, .int x3, .int 0, .int 2]) (na := 4) C S (oM0 cI cB ad) rfl (ct_X12_lays l D cI cB cL ad x1 x3 0 2 u h9) mw_110 mw_109 mw_111 mw_5 mw_108 hdX12_lays ⟨Nat.le_trans (Nat.le_of_ble_eq_true rfl) hR.1, Nat.le_trans (Nat.le_of_ble_eq_true rfl) hR.2⟩ rfl hsz ⟨Nat.zero_le _, Nat.zero_le _⟩ (Nat.le_of_ble_eq_true rfl) dX12_hearsFinal_59 rfl (fun H locs S => ?_)
  refine lv_aload_n hx hb dX12_hearsFinal_62 rfl (lv_at hl 0 rfl) ?_
  refine lv_iload_n hx hb dX12_hearsFinal_63 rfl (lv_at hl 1 rfl) ?_
  refine lv_iload_n hx hb dX12_hearsFinal_64 rfl (lv_at hl 3 rfl) ?_
  refine lv_iconst (v := 1) hx hb dX12_hearsFinal_65 (by decide) ?_
  refine lv_iload hx hb dX12_hearsFinal_66 (lv_at hl 4 rfl) ?_
  obtain ⟨u12, h11, h⟩ := obr_some h
  refine q_callVv (As := [.int x1, .int x3, .int 1, .int x4]) (na := 4) C S (oM0 cI cB ad) rfl (ct_X12_lays l D cI cB cL ad x1 x3 1 x4 u10 h11) mw_110 mw_109 mw_111 mw_5 mw_108 hdX12_lays ⟨Nat.le_trans (Nat.le_of_ble_eq_true rfl) hR.1, Nat.le_trans (Nat.le_of_ble_eq_true rfl) hR.2⟩ rfl hsz ⟨Nat.zero_le _, Nat.zero_le _⟩ (Nat.le_of_ble_eq_true rfl) dX12_hearsFinal_68 rfl (fun H locs S => ?_)
  refine lv_aload_n hx hb dX12_hearsFinal_71 rfl (lv_at hl 0 rfl) ?_
  refine lv_iload_n hx hb dX12_hearsFinal_72 rfl (lv_at hl 1 rfl) ?_
  refine lv_iload_n hx hb dX12_hearsFinal_73 rfl (lv_at hl 3 rfl) ?_
  refine lv_iconst (v := 2) hx hb dX12_hearsFinal_74 (by decide) ?_
  refine lv_iload hx hb dX12_hearsFinal_75 (lv_at hl 5 rfl) ?_
  obtain ⟨u14, h13, h⟩ := obr_some h
  refine q_callVv (As := [.int x1, .int x3, .int 2, .int x5]) (na := 4) C S (oM0 cI cB ad) rfl (ct_X12_lays l D cI cB cL ad x1 x3 2 x5 u12 h13) mw_110 mw_109 mw_111 mw_5 mw_108 hdX12_lays ⟨Nat.le_trans (Nat.le_of_ble_eq_true rfl) hR.1, Nat.le_trans (Nat.le_of_ble_eq_true rfl) hR.2⟩ rfl hsz ⟨Nat.zero_le _, Nat.zero_le _⟩ (Nat.le_of_ble_eq_true rfl) dX12_hearsFinal_77 rfl (fun H locs S => ?_)
  refine lv_iload hx hb dX12_hearsFinal_80 (lv_at hl 6 rfl) ?_
  refine lv_if_ne (tgt := 93) hx hb dX12_hearsFinal_82 (by decide) (fun c15 => ?_) (fun c15 => ?_)
  · have h := cnd_f c15 h
    exact q_vret C S (Option.some.inj h) dX12_hearsFinal_93
  · have h := cnd_t c15 h
    refine lv_aload_n hx hb dX12_hearsFinal_85 rfl (lv_at hl 0 rfl) ?_
    refine lv_iload_n hx hb dX12_hearsFinal_86 rfl (lv_at hl 1 rfl) ?_
    refine lv_iload_n hx hb dX12_hearsFinal_87 rfl (lv_at hl 3 rfl) ?_
    refine lv_iconst (v := 3) hx hb dX12_hearsFinal_88 (by decide) ?_
    refine lv_iload_n hx hb dX12_hearsFinal_89 rfl (lv_at hl 2 rfl) ?_
    obtain ⟨u17, h16, h⟩ := obr_some h
    refine q_callVv (As := [.int x1, .int x3, .int 3, .int x2]) (na := 4) C S (oM0 cI cB ad) rfl (ct_X12_lays l D cI cB cL ad x1 x3 3 x2 u14 h16) mw_110 mw_109 mw_111 mw_5 mw_108 hdX12_lays ⟨Nat.le_trans (Nat.le_of_ble_eq_true rfl) hR.1, Nat.le_trans (Nat.le_of_ble_eq_true rfl) hR.2⟩ rfl hsz ⟨Nat.zero_le _, Nat.zero_le _⟩ (Nat.le_of_ble_eq_true rfl) dX12_hearsFinal_90 rfl (fun H locs S => ?_)
    exact q_vret C S (Option.some.inj h) dX12_hearsFinal_93
set_option maxRecDepth 10000 in
set_option maxHeartbeats 4000000 in
theorem wX12_hearsFinal_0 (C : cx D (tyl cI cB cL) A RX12 cX12_hearsFinal 7 none p s m args c meth) (hR : 3 ≤ R.frames ∧ 67 ≤ R.locals) {σ' : Sg} (u : Sg) (x1 : Int32) (x2 : Int32) (x3 : Int32) (x4 : Int32) (x5 : Int32) {H : Heap} {locs : List Loc} {ls : Array Slot} (hl : lv_has ls 7 [(0, .ref (ad 0)), (1, .int x1), (2, .int x2), (3, .int x3), (4, .int x4), (5, .int x5)]) (S : st D (wM cI cB ad) A s u H locs) (h : fX12_hearsFinal_0 x1 x2 x3 x4 x5 u = some σ') : W p l e R s m args below meth c H locs 0 0 (MQ below (qV D (tyl cI cB cL) (wM cI cB ad) A σ') args s 0 0 A) (F0 m 0 ls []) := by
  have hx := C.1
  have hb := C.2.1
  have hsz := hl.1
  unfold fX12_hearsFinal_0 at h
  refine lv_aload_n hx hb dX12_hearsFinal_0 rfl (lv_at hl 0 rfl) ?_
  refine q_get (v := .ref (ad 1)) C S (oM0 cI cB ad) rfl iwX12 1 (by decide) mw_14 rfl dX12_hearsFinal_1 ?_
  refine lv_iload_n hx hb dX12_hearsFinal_4 rfl (lv_at hl 1 rfl) ?_
  refine lv_iconst (v := 2) hx hb dX12_hearsFinal_5 (by decide) ?_
  refine q_callP (As := [.int x1, .int 2]) (na := 2) C S (ct_X12_nodeAt l D cI cB cL x1 2) mw_7 mw_6 mw_5 mw_4 hdX12_nodeAt ⟨Nat.le_trans (Nat.le_of_ble_eq_true rfl) hR.1, Nat.le_trans (Nat.le_of_ble_eq_true rfl) hR.2⟩ rfl hsz ⟨Nat.zero_le _, Nat.zero_le _⟩ (Nat.le_of_ble_eq_true rfl) dX12_hearsFinal_6 rfl (fun H locs S => ?_)
  refine lv_aload_n hx hb dX12_hearsFinal_9 rfl (lv_at hl 0 rfl) ?_
  refine lv_iload_n hx hb dX12_hearsFinal_10 rfl (lv_at hl 1 rfl) ?_
  refine lv_iconst (v := 2) hx hb dX12_hearsFinal_11 (by decide) ?_
  obtain ⟨r2, h1, h⟩ := obr_some h
  refine q_callVi (As := [.int x1, .int 2]) (na := 2) C S (oM0 cI cB ad) rfl (ct_X12_of l D cI cB cL ad x1 2 u h1) mw_35 mw_34 mw_36 mw_5 mw_33 hdX12_of ⟨Nat.le_trans (Nat.le_of_ble_eq_true rfl) hR.1, Nat.le_trans (Nat.le_of_ble_eq_true rfl) hR.2⟩ rfl hsz ⟨Nat.zero_le _, Nat.zero_le _⟩ (Nat.le_of_ble_eq_true rfl) dX12_hearsFinal_12 rfl (fun H locs S => ?_)
  refine lv_iload hx hb dX12_hearsFinal_15 (lv_at hl 4 rfl) ?_
  refine q_mmax C mw_90 mw_91 mw_92 mw_93 ⟨Nat.le_trans (Nat.le_of_ble_eq_true rfl) hR.1, Nat.le_trans (Nat.le_of_ble_eq_true rfl) hR.2⟩ hsz ⟨Nat.zero_le _, Nat.zero_le _⟩ (Nat.le_of_ble_eq_true rfl) dX12_hearsFinal_17 ?_
  obtain ⟨g3, h⟩ := grd_some h
  obtain ⟨u4, eu4⟩ : ∃ z : Sg, z = s2 u 1 (((fX12_nodeAt x1 2) : Int32).toNatClampNeg) (if r2 < x4 then x4 else r2) := ⟨_, rfl⟩
  have h := bnd_of eu4 h
  refine q_iast C S (aM1 cI cB ad) 0 rfl g3 dX12_hearsFinal_20 (j := ((fX12_nodeAt x1 2) : Int32).toNatClampNeg) rfl eu4 (fun H locs S => ?_)
  refine lv_aload_n hx hb dX12_hearsFinal_21 rfl (lv_at hl 0 rfl) ?_
  refine lv_iload_n hx hb dX12_hearsFinal_22 rfl (lv_at hl 1 rfl) ?_
  refine lv_iload_n hx hb dX12_hearsFinal_23 rfl (lv_at hl 3 rfl) ?_
  refine lv_iconst (v := 0) hx hb dX12_hearsFinal_24 (by decide) ?_
  obtain ⟨r6, h5, h⟩ := obr_some h
  refine q_callVi (As := [.int x1, .int x3, .int 0]) (na := 3) C S (oM0 cI cB ad) rfl (ct_X12_ofPair l D cI cB cL ad x1 x3 0 u4 h5) mw_126 mw_125 mw_127 mw_5 mw_124 hdX12_ofPair ⟨Nat.le_trans (Nat.le_of_ble_eq_true rfl) hR.1, Nat.le_trans (Nat.le_of_ble_eq_true rfl) hR.2⟩ rfl hsz ⟨Nat.zero_le _, Nat.zero_le _⟩ (Nat.le_of_ble_eq_true rfl) dX12_hearsFinal_25 rfl (fun H locs S => ?_)
  refine lv_istore (lv' := [(6, .int r6), (0, .ref (ad 0)), (1, .int x1), (2, .int x2), (3, .int x3), (4, .int x4), (5, .int x5)]) hx hb dX12_hearsFinal_28 hl (by decide) rfl (fun ls hl => ?_)
  have hsz := hl.1
  refine lv_iload hx hb dX12_hearsFinal_30 (lv_at hl 0 rfl) ?_
  refine lv_iconst (v := 2) hx hb dX12_hearsFinal_32 (by decide) ?_
  refine lv_icmp_ge (tgt := 53) hx hb dX12_hearsFinal_33 (by decide) (fun c7 => ?_) (fun c7 => ?_)
  · have h := cnd_t c7 h
    exact q_vret C S (Option.some.inj h) dX12_hearsFinal_53
  · have h := cnd_f c7 h
    refine lv_iload hx hb dX12_hearsFinal_36 (lv_at hl 0 rfl) ?_
    refine lv_iconst (v := 1) hx hb dX12_hearsFinal_38 (by decide) ?_
    refine lv_icmp_ne (tgt := 54) hx hb dX12_hearsFinal_39 (by decide) (fun c8 => ?_) (fun c8 => ?_)
    · have h := cnd_f c8 h
      exact wX12_hearsFinal_54 C hR u4 x1 x2 x3 x4 x5 r6 (lv_sub hl [1, 2, 3, 4, 5, 6, 0] rfl) S h
    · have h := cnd_t c8 h
      refine lv_aload_n hx hb dX12_hearsFinal_42 rfl (lv_at hl 1 rfl) ?_
      refine lv_iload_n hx hb dX12_hearsFinal_43 rfl (lv_at hl 2 rfl) ?_
      refine lv_iload_n hx hb dX12_hearsFinal_44 rfl (lv_at hl 4 rfl) ?_
      refine lv_iconst (v := 3) hx hb dX12_hearsFinal_45 (by decide) ?_
      obtain ⟨r19, h18, h⟩ := obr_some h
      refine q_callVi (As := [.int x1, .int x3, .int 3]) (na := 3) C S (oM0 cI cB ad) rfl (ct_X12_ofPair l D cI cB cL ad x1 x3 3 u4 h18) mw_126 mw_125 mw_127 mw_5 mw_124 hdX12_ofPair ⟨Nat.le_trans (Nat.le_of_ble_eq_true rfl) hR.1, Nat.le_trans (Nat.le_of_ble_eq_true rfl) hR.2⟩ rfl hsz ⟨Nat.zero_le _, Nat.zero_le _⟩ (Nat.le_of_ble_eq_true rfl) dX12_hearsFinal_46 rfl (fun H locs S => ?_)
      refine lv_iload_n hx hb dX12_hearsFinal_49 rfl (lv_at hl 3 rfl) ?_
      refine lv_icmp_eq (tgt := 54) hx hb dX12_hearsFinal_50 (by decide) (fun c20 => ?_) (fun c20 => ?_)
      · have h := cnd_t c20 h
        exact wX12_hearsFinal_54 C hR u4 x1 x2 x3 x4 x5 r6 (lv_sub hl [1, 2, 3, 4, 5, 6, 0] rfl) S h
      · have h := cnd_f c20 h
        exact q_vret C S (Option.some.inj h) dX12_hearsFinal_53
set_option maxRecDepth 10000 in
set_option maxHeartbeats 4000000 in
theorem ct_X12_hearsFinal (l : Launch) (D : va_G) (cI cB cL : ClassId) (ad : Nat → Nat) (x1 : Int32) (x2 : Int32) (x3 : Int32) (x4 : Int32) (x5 : Int32) (u : Sg) {σ' : Sg} (h : fX12_hearsFinal x1 x2 x3 x4 x5 u = some σ') : metV l D (tyl cI cB cL) yX12_hearsFinal cX12_hearsFinal 7 3 67 (wM cI cB ad) [.ref (ad 0), .int x1, .int x2, .int x3, .int x4, .int x5] u σ' := by
  intro sz
  refine Met.ofW (cc := cX12_hearsFinal) (maxL := 7) (ret := none) (by decide) rfl ?_
  intro p e s m args below meth c s₁ B hml hv
  obtain ⟨rfl, C, S⟩ := q_entry B hml hv
  have hl := lv_entry ([.ref (ad 0), .int x1, .int x2, .int x3, .int x4, .int x5]) (n := 7) (Nat.le_of_ble_eq_true rfl)
  rw [lg_entry_eq]
  generalize (lg_sl ([.ref (ad 0), .int x1, .int x2, .int x3, .int x4, .int x5]) ++ List.replicate (7 - (lg_sl ([.ref (ad 0), .int x1, .int x2, .int x3, .int x4, .int x5])).length) Slot.unset).toArray = ls at hl ⊢
  exact wX12_hearsFinal_0 C ⟨Nat.le_refl _, Nat.le_refl _⟩ u x1 x2 x3 x4 x5 (lv_sub hl [0, 1, 2, 3, 4, 5] rfl) S h
noncomputable def fX12_hearsTake_60 (t0 : Int32) (t1 : Int32) (t2 : Int32) (t3 : Int32) (t4 : Int32) (t5 : Int32) (t6 : Int32) (u : Sg) : Option Sg := obr (fX12_puts t6 t5 t4 t3 t2 t1 t0 u) (fun u14 => some u14)
noncomputable def fX12_hearsTake_17 (x1 : Int32) (x2 : Int32) (x3 : Int32) (u : Sg) : Option Sg := obr (fX12_lays x1 x3 3 x2 u) (fun u5 => obr (fX12_ofPair x1 x3 1 u5) (fun r7 => obr (fX12_ofPair x1 x3 2 u5) (fun r9 => obr (fX12_ofPair x1 x3 0 u5) (fun r11 => cnd (r11 < 2) (fX12_hearsTake_60 0 r9 r7 x3 4 x2 x1 u5) (fX12_hearsTake_60 1 r9 r7 x3 4 x2 x1 u5)))))
noncomputable def fX12_hearsTake_0 (x1 : Int32) (x2 : Int32) (x3 : Int32) (u : Sg) : Option Sg := obr (fX12_ofPair x1 x3 0 u) (fun r2 => cnd (r2 = 0) (obr (fX12_proposes x1 x3 x2 u) (fun u16 => fX12_hearsTake_17 x1 x2 x3 u16)) (fX12_hearsTake_17 x1 x2 x3 u))
noncomputable def fX12_hearsTake (x1 : Int32) (x2 : Int32) (x3 : Int32) (u : Sg) : Option Sg := fX12_hearsTake_0 x1 x2 x3 u
set_option maxRecDepth 10000 in
set_option maxHeartbeats 4000000 in
theorem wX12_hearsTake_60 (C : cx D (tyl cI cB cL) A RX12 cX12_hearsTake 4 none p s m args c meth) (hR : 5 ≤ R.frames ∧ 114 ≤ R.locals) {σ' : Sg} (u : Sg) (t0 : Int32) (t1 : Int32) (t2 : Int32) (t3 : Int32) (t4 : Int32) (t5 : Int32) (t6 : Int32) {H : Heap} {locs : List Loc} {ls : Array Slot} (hl : lv_has ls 4 []) (S : st D (wM cI cB ad) A s u H locs) (h : fX12_hearsTake_60 t0 t1 t2 t3 t4 t5 t6 u = some σ') : W p l e R s m args below meth c H locs 0 0 (MQ below (qV D (tyl cI cB cL) (wM cI cB ad) A σ') args s 0 0 A) (F0 m 60 ls [.int t0, .int t1, .int t2, .int t3, .int t4, .int t5, .int t6, .ref (ad 0)]) := by
  have hx := C.1
  have hb := C.2.1
  have hsz := hl.1
  unfold fX12_hearsTake_60 at h
  obtain ⟨u14, h13, h⟩ := obr_some h
  refine q_callVv (As := [.int t6, .int t5, .int t4, .int t3, .int t2, .int t1, .int t0]) (na := 7) C S (oM0 cI cB ad) rfl (ct_X12_puts l D cI cB cL ad t6 t5 t4 t3 t2 t1 t0 u h13) mw_103 mw_102 mw_104 mw_5 mw_101 hdX12_puts ⟨Nat.le_trans (Nat.le_of_ble_eq_true rfl) hR.1, Nat.le_trans (Nat.le_of_ble_eq_true rfl) hR.2⟩ rfl hsz ⟨Nat.zero_le _, Nat.zero_le _⟩ (Nat.le_of_ble_eq_true rfl) dX12_hearsTake_60 rfl (fun H locs S => ?_)
  exact q_vret C S (Option.some.inj h) dX12_hearsTake_63
set_option maxRecDepth 10000 in
set_option maxHeartbeats 4000000 in
theorem wX12_hearsTake_17 (C : cx D (tyl cI cB cL) A RX12 cX12_hearsTake 4 none p s m args c meth) (hR : 5 ≤ R.frames ∧ 114 ≤ R.locals) {σ' : Sg} (u : Sg) (x1 : Int32) (x2 : Int32) (x3 : Int32) {H : Heap} {locs : List Loc} {ls : Array Slot} (hl : lv_has ls 4 [(0, .ref (ad 0)), (1, .int x1), (2, .int x2), (3, .int x3)]) (S : st D (wM cI cB ad) A s u H locs) (h : fX12_hearsTake_17 x1 x2 x3 u = some σ') : W p l e R s m args below meth c H locs 0 0 (MQ below (qV D (tyl cI cB cL) (wM cI cB ad) A σ') args s 0 0 A) (F0 m 17 ls []) := by
  have hx := C.1
  have hb := C.2.1
  have hsz := hl.1
  unfold fX12_hearsTake_17 at h
  refine lv_aload_n hx hb dX12_hearsTake_17 rfl (lv_at hl 0 rfl) ?_
  refine lv_iload_n hx hb dX12_hearsTake_18 rfl (lv_at hl 1 rfl) ?_
  refine lv_iload_n hx hb dX12_hearsTake_19 rfl (lv_at hl 3 rfl) ?_
  refine lv_iconst (v := 3) hx hb dX12_hearsTake_20 (by decide) ?_
  refine lv_iload_n hx hb dX12_hearsTake_21 rfl (lv_at hl 2 rfl) ?_
  obtain ⟨u5, h4, h⟩ := obr_some h
  refine q_callVv (As := [.int x1, .int x3, .int 3, .int x2]) (na := 4) C S (oM0 cI cB ad) rfl (ct_X12_lays l D cI cB cL ad x1 x3 3 x2 u h4) mw_110 mw_109 mw_111 mw_5 mw_108 hdX12_lays ⟨Nat.le_trans (Nat.le_of_ble_eq_true rfl) hR.1, Nat.le_trans (Nat.le_of_ble_eq_true rfl) hR.2⟩ rfl hsz ⟨Nat.zero_le _, Nat.zero_le _⟩ (Nat.le_of_ble_eq_true rfl) dX12_hearsTake_22 rfl (fun H locs S => ?_)
  refine lv_aload_n hx hb dX12_hearsTake_25 rfl (lv_at hl 0 rfl) ?_
  refine lv_iload_n hx hb dX12_hearsTake_26 rfl (lv_at hl 1 rfl) ?_
  refine lv_iload_n hx hb dX12_hearsTake_27 rfl (lv_at hl 2 rfl) ?_
  refine lv_iconst (v := 4) hx hb dX12_hearsTake_28 (by decide) ?_
  refine lv_iload_n hx hb dX12_hearsTake_29 rfl (lv_at hl 3 rfl) ?_
  refine lv_aload_n hx hb dX12_hearsTake_30 rfl (lv_at hl 0 rfl) ?_
  refine lv_iload_n hx hb dX12_hearsTake_31 rfl (lv_at hl 1 rfl) ?_
  refine lv_iload_n hx hb dX12_hearsTake_32 rfl (lv_at hl 3 rfl) ?_
  refine lv_iconst (v := 1) hx hb dX12_hearsTake_33 (by decide) ?_
  obtain ⟨r7, h6, h⟩ := obr_some h
  refine q_callVi (As := [.int x1, .int x3, .int 1]) (na := 3) C S (oM0 cI cB ad) rfl (ct_X12_ofPair l D cI cB cL ad x1 x3 1 u5 h6) mw_126 mw_125 mw_127 mw_5 mw_124 hdX12_ofPair ⟨Nat.le_trans (Nat.le_of_ble_eq_true rfl) hR.1, Nat.le_trans (Nat.le_of_ble_eq_true rfl) hR.2⟩ rfl hsz ⟨Nat.zero_le _, Nat.zero_le _⟩ (Nat.le_of_ble_eq_true rfl) dX12_hearsTake_34 rfl (fun H locs S => ?_)
  refine lv_aload_n hx hb dX12_hearsTake_37 rfl (lv_at hl 0 rfl) ?_
  refine lv_iload_n hx hb dX12_hearsTake_38 rfl (lv_at hl 1 rfl) ?_
  refine lv_iload_n hx hb dX12_hearsTake_39 rfl (lv_at hl 3 rfl) ?_
  refine lv_iconst (v := 2) hx hb dX12_hearsTake_40 (by decide) ?_
  obtain ⟨r9, h8, h⟩ := obr_some h
  refine q_callVi (As := [.int x1, .int x3, .int 2]) (na := 3) C S (oM0 cI cB ad) rfl (ct_X12_ofPair l D cI cB cL ad x1 x3 2 u5 h8) mw_126 mw_125 mw_127 mw_5 mw_124 hdX12_ofPair ⟨Nat.le_trans (Nat.le_of_ble_eq_true rfl) hR.1, Nat.le_trans (Nat.le_of_ble_eq_true rfl) hR.2⟩ rfl hsz ⟨Nat.zero_le _, Nat.zero_le _⟩ (Nat.le_of_ble_eq_true rfl) dX12_hearsTake_41 rfl (fun H locs S => ?_)
  refine lv_aload_n hx hb dX12_hearsTake_44 rfl (lv_at hl 0 rfl) ?_
  refine lv_iload_n hx hb dX12_hearsTake_45 rfl (lv_at hl 1 rfl) ?_
  refine lv_iload_n hx hb dX12_hearsTake_46 rfl (lv_at hl 3 rfl) ?_
  refine lv_iconst (v := 0) hx hb dX12_hearsTake_47 (by decide) ?_
  obtain ⟨r11, h10, h⟩ := obr_some h
  refine q_callVi (As := [.int x1, .int x3, .int 0]) (na := 3) C S (oM0 cI cB ad) rfl (ct_X12_ofPair l D cI cB cL ad x1 x3 0 u5 h10) mw_126 mw_125 mw_127 mw_5 mw_124 hdX12_ofPair ⟨Nat.le_trans (Nat.le_of_ble_eq_true rfl) hR.1, Nat.le_trans (Nat.le_of_ble_eq_true rfl) hR.2⟩ rfl hsz ⟨Nat.zero_le _, Nat.zero_le _⟩ (Nat.le_of_ble_eq_true rfl) dX12_hearsTake_48 rfl (fun H locs S => ?_)
  refine lv_iconst (v := 2) hx hb dX12_hearsTake_51 (by decide) ?_
  refine lv_icmp_lt (tgt := 59) hx hb dX12_hearsTake_52 (by decide) (fun c12 => ?_) (fun c12 => ?_)
  · have h := cnd_t c12 h
    refine lv_iconst (v := 0) hx hb dX12_hearsTake_59 (by decide) ?_
    exact wX12_hearsTake_60 C hR u5 0 r9 r7 x3 4 x2 x1 (lv_sub hl [] rfl) S h
  · have h := cnd_f c12 h
    refine lv_iconst (v := 1) hx hb dX12_hearsTake_55 (by decide) ?_
    refine lv_goto (tgt := 60) hx hb dX12_hearsTake_56 (by decide) ?_
    exact wX12_hearsTake_60 C hR u5 1 r9 r7 x3 4 x2 x1 (lv_sub hl [] rfl) S h
set_option maxRecDepth 10000 in
set_option maxHeartbeats 4000000 in
theorem wX12_hearsTake_0 (C : cx D (tyl cI cB cL) A RX12 cX12_hearsTake 4 none p s m args c meth) (hR : 5 ≤ R.frames ∧ 114 ≤ R.locals) {σ' : Sg} (u : Sg) (x1 : Int32) (x2 : Int32) (x3 : Int32) {H : Heap} {locs : List Loc} {ls : Array Slot} (hl : lv_has ls 4 [(0, .ref (ad 0)), (1, .int x1), (2, .int x2), (3, .int x3)]) (S : st D (wM cI cB ad) A s u H locs) (h : fX12_hearsTake_0 x1 x2 x3 u = some σ') : W p l e R s m args below meth c H locs 0 0 (MQ below (qV D (tyl cI cB cL) (wM cI cB ad) A σ') args s 0 0 A) (F0 m 0 ls []) := by
  have hx := C.1
  have hb := C.2.1
  have hsz := hl.1
  unfold fX12_hearsTake_0 at h
  refine lv_aload_n hx hb dX12_hearsTake_0 rfl (lv_at hl 0 rfl) ?_
  refine lv_iload_n hx hb dX12_hearsTake_1 rfl (lv_at hl 1 rfl) ?_
  refine lv_iload_n hx hb dX12_hearsTake_2 rfl (lv_at hl 3 rfl) ?_
  refine lv_iconst (v := 0) hx hb dX12_hearsTake_3 (by decide) ?_
  obtain ⟨r2, h1, h⟩ := obr_some h
  refine q_callVi (As := [.int x1, .int x3, .int 0]) (na := 3) C S (oM0 cI cB ad) rfl (ct_X12_ofPair l D cI cB cL ad x1 x3 0 u h1) mw_126 mw_125 mw_127 mw_5 mw_124 hdX12_ofPair ⟨Nat.le_trans (Nat.le_of_ble_eq_true rfl) hR.1, Nat.le_trans (Nat.le_of_ble_eq_true rfl) hR.2⟩ rfl hsz ⟨Nat.zero_le _, Nat.zero_le _⟩ (Nat.le_of_ble_eq_true rfl) dX12_hearsTake_4 rfl (fun H locs S => ?_)
  refine lv_if_ne (tgt := 17) hx hb dX12_hearsTake_7 (by decide) (fun c3 => ?_) (fun c3 => ?_)
  · have h := cnd_f c3 h
    exact wX12_hearsTake_17 C hR u x1 x2 x3 (lv_sub hl [0, 1, 2, 3] rfl) S h
  · have h := cnd_t c3 h
    refine lv_aload_n hx hb dX12_hearsTake_10 rfl (lv_at hl 0 rfl) ?_
    refine lv_iload_n hx hb dX12_hearsTake_11 rfl (lv_at hl 1 rfl) ?_
    refine lv_iload_n hx hb dX12_hearsTake_12 rfl (lv_at hl 3 rfl) ?_
    refine lv_iload_n hx hb dX12_hearsTake_13 rfl (lv_at hl 2 rfl) ?_
    obtain ⟨u16, h15, h⟩ := obr_some h
    refine q_callVv (As := [.int x1, .int x3, .int x2]) (na := 3) C S (oM0 cI cB ad) rfl (ct_X12_proposes l D cI cB cL ad x1 x3 x2 u h15) mw_130 mw_129 mw_131 mw_5 mw_128 hdX12_proposes ⟨Nat.le_trans (Nat.le_of_ble_eq_true rfl) hR.1, Nat.le_trans (Nat.le_of_ble_eq_true rfl) hR.2⟩ rfl hsz ⟨Nat.zero_le _, Nat.zero_le _⟩ (Nat.le_of_ble_eq_true rfl) dX12_hearsTake_14 rfl (fun H locs S => ?_)
    exact wX12_hearsTake_17 C hR u16 x1 x2 x3 (lv_sub hl [0, 1, 2, 3] rfl) S h
set_option maxRecDepth 10000 in
set_option maxHeartbeats 4000000 in
theorem ct_X12_hearsTake (l : Launch) (D : va_G) (cI cB cL : ClassId) (ad : Nat → Nat) (x1 : Int32) (x2 : Int32) (x3 : Int32) (u : Sg) {σ' : Sg} (h : fX12_hearsTake x1 x2 x3 u = some σ') : metV l D (tyl cI cB cL) yX12_hearsTake cX12_hearsTake 4 5 114 (wM cI cB ad) [.ref (ad 0), .int x1, .int x2, .int x3] u σ' := by
  intro sz
  refine Met.ofW (cc := cX12_hearsTake) (maxL := 4) (ret := none) (by decide) rfl ?_
  intro p e s m args below meth c s₁ B hml hv
  obtain ⟨rfl, C, S⟩ := q_entry B hml hv
  have hl := lv_entry ([.ref (ad 0), .int x1, .int x2, .int x3]) (n := 4) (Nat.le_of_ble_eq_true rfl)
  rw [lg_entry_eq]
  generalize (lg_sl ([.ref (ad 0), .int x1, .int x2, .int x3]) ++ List.replicate (4 - (lg_sl ([.ref (ad 0), .int x1, .int x2, .int x3])).length) Slot.unset).toArray = ls at hl ⊢
  exact wX12_hearsTake_0 C ⟨Nat.le_refl _, Nat.le_refl _⟩ u x1 x2 x3 (lv_sub hl [0, 1, 2, 3] rfl) S h
noncomputable def fX12_hears_132 (t0 : Int32) (t1 : Int32) (t2 : Int32) (t3 : Int32) (t4 : Int32) (t5 : Int32) (u : Sg) : Option Sg := obr (fX12_hearsStamp t5 t4 t3 t2 t1 t0 u) (fun u18 => some u18)
noncomputable def fX12_hears_0 (x1 : Int32) (x2 : Int32) (u : Sg) : Option Sg := bnd (u 7 2) (fun v1 => bnd (u 7 3) (fun v2 => bnd (u 7 4) (fun v3 => cnd ((u 7 1) = 0) (obr (fX12_hearsRequest x2 x1 v1 u) (fun u6 => some u6)) (cnd ((u 7 1) = 1) (obr (fX12_hearsStamp x2 x1 v1 v2 v3 0 u) (fun u9 => some u9)) (cnd ((u 7 1) = 2) (obr (fX12_hearsFinal x2 x1 v1 v2 v3 u) (fun u12 => some u12)) (cnd ((u 7 1) = 3) (obr (fX12_hearsTake x2 x1 v1 u) (fun u15 => some u15)) (cnd ((u 7 5) = 1) (fX12_hears_132 1 v3 v2 v1 x1 x2 u) (fX12_hears_132 0 v3 v2 v1 x1 x2 u))))))))
noncomputable def fX12_hears (x1 : Int32) (x2 : Int32) (u : Sg) : Option Sg := fX12_hears_0 x1 x2 u
set_option maxRecDepth 10000 in
set_option maxHeartbeats 4000000 in
theorem wX12_hears_132 (C : cx D (tyl cI cB cL) A RX12 cX12_hears 6 none p s m args c meth) (hR : 6 ≤ R.frames ∧ 137 ≤ R.locals) {σ' : Sg} (u : Sg) (t0 : Int32) (t1 : Int32) (t2 : Int32) (t3 : Int32) (t4 : Int32) (t5 : Int32) {H : Heap} {locs : List Loc} {ls : Array Slot} (hl : lv_has ls 6 []) (S : st D (wM cI cB ad) A s u H locs) (h : fX12_hears_132 t0 t1 t2 t3 t4 t5 u = some σ') : W p l e R s m args below meth c H locs 0 0 (MQ below (qV D (tyl cI cB cL) (wM cI cB ad) A σ') args s 0 0 A) (F0 m 132 ls [.int t0, .int t1, .int t2, .int t3, .int t4, .int t5, .ref (ad 0)]) := by
  have hx := C.1
  have hb := C.2.1
  have hsz := hl.1
  unfold fX12_hears_132 at h
  obtain ⟨u18, h17, h⟩ := obr_some h
  refine q_callVv (As := [.int t5, .int t4, .int t3, .int t2, .int t1, .int t0]) (na := 6) C S (oM0 cI cB ad) rfl (ct_X12_hearsStamp l D cI cB cL ad t5 t4 t3 t2 t1 t0 u h17) mw_146 mw_145 mw_147 mw_5 mw_144 hdX12_hearsStamp ⟨Nat.le_trans (Nat.le_of_ble_eq_true rfl) hR.1, Nat.le_trans (Nat.le_of_ble_eq_true rfl) hR.2⟩ rfl hsz ⟨Nat.zero_le _, Nat.zero_le _⟩ (Nat.le_of_ble_eq_true rfl) dX12_hears_132 rfl (fun H locs S => ?_)
  exact q_vret C S (Option.some.inj h) dX12_hears_135
set_option maxRecDepth 10000 in
set_option maxHeartbeats 4000000 in
theorem wX12_hears_0 (C : cx D (tyl cI cB cL) A RX12 cX12_hears 6 none p s m args c meth) (hR : 6 ≤ R.frames ∧ 137 ≤ R.locals) {σ' : Sg} (u : Sg) (x1 : Int32) (x2 : Int32) {H : Heap} {locs : List Loc} {ls : Array Slot} (hl : lv_has ls 6 [(0, .ref (ad 0)), (1, .int x1), (2, .int x2)]) (S : st D (wM cI cB ad) A s u H locs) (h : fX12_hears_0 x1 x2 u = some σ') : W p l e R s m args below meth c H locs 0 0 (MQ below (qV D (tyl cI cB cL) (wM cI cB ad) A σ') args s 0 0 A) (F0 m 0 ls []) := by
  have hx := C.1
  have hb := C.2.1
  have hsz := hl.1
  unfold fX12_hears_0 at h
  refine lv_aload_n hx hb dX12_hears_0 rfl (lv_at hl 0 rfl) ?_
  refine q_get (v := .ref (ad 7)) C S (oM0 cI cB ad) rfl iwX12 15 (by decide) mw_139 rfl dX12_hears_1 ?_
  refine lv_iconst (v := 2) hx hb dX12_hears_4 (by decide) ?_
  refine q_iald C S (aM7 cI cB ad) 0 rfl (show vp_in 2 6 by unfold vp_in; decide) dX12_hears_5 (j := 2) (by decide) ?_
  refine lv_topi (fun v1 ev1 => ?_)
  have h := bnd_of ev1 h
  refine lv_istore_n (lv' := [(3, .int v1), (0, .ref (ad 0)), (1, .int x1), (2, .int x2)]) hx hb dX12_hears_6 rfl hl (by decide) rfl (fun ls hl => ?_)
  have hsz := hl.1
  refine lv_aload_n hx hb dX12_hears_7 rfl (lv_at hl 1 rfl) ?_
  refine q_get (v := .ref (ad 7)) C S (oM0 cI cB ad) rfl iwX12 15 (by decide) mw_139 rfl dX12_hears_8 ?_
  refine lv_iconst (v := 3) hx hb dX12_hears_11 (by decide) ?_
  refine q_iald C S (aM7 cI cB ad) 0 rfl (show vp_in 3 6 by unfold vp_in; decide) dX12_hears_12 (j := 3) (by decide) ?_
  refine lv_topi (fun v2 ev2 => ?_)
  have h := bnd_of ev2 h
  refine lv_istore (lv' := [(4, .int v2), (3, .int v1), (0, .ref (ad 0)), (1, .int x1), (2, .int x2)]) hx hb dX12_hears_13 hl (by decide) rfl (fun ls hl => ?_)
  have hsz := hl.1
  refine lv_aload_n hx hb dX12_hears_15 rfl (lv_at hl 2 rfl) ?_
  refine q_get (v := .ref (ad 7)) C S (oM0 cI cB ad) rfl iwX12 15 (by decide) mw_139 rfl dX12_hears_16 ?_
  refine lv_iconst (v := 4) hx hb dX12_hears_19 (by decide) ?_
  refine q_iald C S (aM7 cI cB ad) 0 rfl (show vp_in 4 6 by unfold vp_in; decide) dX12_hears_20 (j := 4) (by decide) ?_
  refine lv_topi (fun v3 ev3 => ?_)
  have h := bnd_of ev3 h
  refine lv_istore (lv' := [(5, .int v3), (4, .int v2), (3, .int v1), (0, .ref (ad 0)), (1, .int x1), (2, .int x2)]) hx hb dX12_hears_21 hl (by decide) rfl (fun ls hl => ?_)
  have hsz := hl.1
  refine lv_aload_n hx hb dX12_hears_23 rfl (lv_at hl 3 rfl) ?_
  refine q_get (v := .ref (ad 7)) C S (oM0 cI cB ad) rfl iwX12 15 (by decide) mw_139 rfl dX12_hears_24 ?_
  refine lv_iconst (v := 1) hx hb dX12_hears_27 (by decide) ?_
  refine q_iald C S (aM7 cI cB ad) 0 rfl (show vp_in 1 6 by unfold vp_in; decide) dX12_hears_28 (j := 1) (by decide) ?_
  by_cases c4 : (u 7 1) = 0
  · have h := cnd_t c4 h
    refine lv_tableIn (off := 31) (tgt := 60) hx hb dX12_hears_29 (by rw [c4]; decide) (by rw [c4]; decide) (by rw [c4]; rfl) (by decide) ?_
    refine lv_aload_n hx hb dX12_hears_60 rfl (lv_at hl 3 rfl) ?_
    refine lv_iload_n hx hb dX12_hears_61 rfl (lv_at hl 5 rfl) ?_
    refine lv_iload_n hx hb dX12_hears_62 rfl (lv_at hl 4 rfl) ?_
    refine lv_iload_n hx hb dX12_hears_63 rfl (lv_at hl 2 rfl) ?_
    obtain ⟨u6, h5, h⟩ := obr_some h
    refine q_callVv (As := [.int x2, .int x1, .int v1]) (na := 3) C S (oM0 cI cB ad) rfl (ct_X12_hearsRequest l D cI cB cL ad x2 x1 v1 u h5) mw_142 mw_141 mw_143 mw_5 mw_140 hdX12_hearsRequest ⟨Nat.le_trans (Nat.le_of_ble_eq_true rfl) hR.1, Nat.le_trans (Nat.le_of_ble_eq_true rfl) hR.2⟩ rfl hsz ⟨Nat.zero_le _, Nat.zero_le _⟩ (Nat.le_of_ble_eq_true rfl) dX12_hears_64 rfl (fun H locs S => ?_)
    refine lv_goto (tgt := 135) hx hb dX12_hears_67 (by decide) ?_
    exact q_vret C S (Option.some.inj h) dX12_hears_135
  · have h := cnd_f c4 h
    by_cases c7 : (u 7 1) = 1
    · have h := cnd_t c7 h
      refine lv_tableIn (off := 41) (tgt := 70) hx hb dX12_hears_29 (by rw [c7]; decide) (by rw [c7]; decide) (by rw [c7]; rfl) (by decide) ?_
      refine lv_aload_n hx hb dX12_hears_70 rfl (lv_at hl 3 rfl) ?_
      refine lv_iload_n hx hb dX12_hears_71 rfl (lv_at hl 5 rfl) ?_
      refine lv_iload_n hx hb dX12_hears_72 rfl (lv_at hl 4 rfl) ?_
      refine lv_iload_n hx hb dX12_hears_73 rfl (lv_at hl 2 rfl) ?_
      refine lv_iload hx hb dX12_hears_74 (lv_at hl 1 rfl) ?_
      refine lv_iload hx hb dX12_hears_76 (lv_at hl 0 rfl) ?_
      refine lv_iconst (v := 0) hx hb dX12_hears_78 (by decide) ?_
      obtain ⟨u9, h8, h⟩ := obr_some h
      refine q_callVv (As := [.int x2, .int x1, .int v1, .int v2, .int v3, .int 0]) (na := 6) C S (oM0 cI cB ad) rfl (ct_X12_hearsStamp l D cI cB cL ad x2 x1 v1 v2 v3 0 u h8) mw_146 mw_145 mw_147 mw_5 mw_144 hdX12_hearsStamp ⟨Nat.le_trans (Nat.le_of_ble_eq_true rfl) hR.1, Nat.le_trans (Nat.le_of_ble_eq_true rfl) hR.2⟩ rfl hsz ⟨Nat.zero_le _, Nat.zero_le _⟩ (Nat.le_of_ble_eq_true rfl) dX12_hears_79 rfl (fun H locs S => ?_)
      refine lv_goto (tgt := 135) hx hb dX12_hears_82 (by decide) ?_
      exact q_vret C S (Option.some.inj h) dX12_hears_135
    · have h := cnd_f c7 h
      by_cases c10 : (u 7 1) = 2
      · have h := cnd_t c10 h
        refine lv_tableIn (off := 56) (tgt := 85) hx hb dX12_hears_29 (by rw [c10]; decide) (by rw [c10]; decide) (by rw [c10]; rfl) (by decide) ?_
        refine lv_aload_n hx hb dX12_hears_85 rfl (lv_at hl 3 rfl) ?_
        refine lv_iload_n hx hb dX12_hears_86 rfl (lv_at hl 5 rfl) ?_
        refine lv_iload_n hx hb dX12_hears_87 rfl (lv_at hl 4 rfl) ?_
        refine lv_iload_n hx hb dX12_hears_88 rfl (lv_at hl 2 rfl) ?_
        refine lv_iload hx hb dX12_hears_89 (lv_at hl 1 rfl) ?_
        refine lv_iload hx hb dX12_hears_91 (lv_at hl 0 rfl) ?_
        obtain ⟨u12, h11, h⟩ := obr_some h
        refine q_callVv (As := [.int x2, .int x1, .int v1, .int v2, .int v3]) (na := 5) C S (oM0 cI cB ad) rfl (ct_X12_hearsFinal l D cI cB cL ad x2 x1 v1 v2 v3 u h11) mw_150 mw_149 mw_151 mw_5 mw_148 hdX12_hearsFinal ⟨Nat.le_trans (Nat.le_of_ble_eq_true rfl) hR.1, Nat.le_trans (Nat.le_of_ble_eq_true rfl) hR.2⟩ rfl hsz ⟨Nat.zero_le _, Nat.zero_le _⟩ (Nat.le_of_ble_eq_true rfl) dX12_hears_93 rfl (fun H locs S => ?_)
        refine lv_goto (tgt := 135) hx hb dX12_hears_96 (by decide) ?_
        exact q_vret C S (Option.some.inj h) dX12_hears_135
      · have h := cnd_f c10 h
        by_cases c13 : (u 7 1) = 3
        · have h := cnd_t c13 h
          refine lv_tableIn (off := 70) (tgt := 99) hx hb dX12_hears_29 (by rw [c13]; decide) (by rw [c13]; decide) (by rw [c13]; rfl) (by decide) ?_
          refine lv_aload_n hx hb dX12_hears_99 rfl (lv_at hl 3 rfl) ?_
          refine lv_iload_n hx hb dX12_hears_100 rfl (lv_at hl 5 rfl) ?_
          refine lv_iload_n hx hb dX12_hears_101 rfl (lv_at hl 4 rfl) ?_
          refine lv_iload_n hx hb dX12_hears_102 rfl (lv_at hl 2 rfl) ?_
          obtain ⟨u15, h14, h⟩ := obr_some h
          refine q_callVv (As := [.int x2, .int x1, .int v1]) (na := 3) C S (oM0 cI cB ad) rfl (ct_X12_hearsTake l D cI cB cL ad x2 x1 v1 u h14) mw_154 mw_153 mw_155 mw_5 mw_152 hdX12_hearsTake ⟨Nat.le_trans (Nat.le_of_ble_eq_true rfl) hR.1, Nat.le_trans (Nat.le_of_ble_eq_true rfl) hR.2⟩ rfl hsz ⟨Nat.zero_le _, Nat.zero_le _⟩ (Nat.le_of_ble_eq_true rfl) dX12_hears_103 rfl (fun H locs S => ?_)
          refine lv_goto (tgt := 135) hx hb dX12_hears_106 (by decide) ?_
          exact q_vret C S (Option.some.inj h) dX12_hears_135
        · have h := cnd_f c13 h
          refine lv_tableOut (tgt := 109) hx hb dX12_hears_29 (sw_out (0) 4 (fun k hk => by
            rcases (show k = 0 ∨ k = 1 ∨ k = 2 ∨ k = 3 by omega) with rfl | rfl | rfl | rfl
            · exact sw_ne 0 _ (by decide) c4
            · exact sw_ne 1 _ (by decide) c7
            · exact sw_ne 2 _ (by decide) c10
            · exact sw_ne 3 _ (by decide) c13)) (by decide) ?_
          refine lv_aload_n hx hb dX12_hears_109 rfl (lv_at hl 3 rfl) ?_
          refine lv_iload_n hx hb dX12_hears_110 rfl (lv_at hl 5 rfl) ?_
          refine lv_iload_n hx hb dX12_hears_111 rfl (lv_at hl 4 rfl) ?_
          refine lv_iload_n hx hb dX12_hears_112 rfl (lv_at hl 2 rfl) ?_
          refine lv_iload hx hb dX12_hears_113 (lv_at hl 1 rfl) ?_
          refine lv_iload hx hb dX12_hears_115 (lv_at hl 0 rfl) ?_
          refine lv_aload_n hx hb dX12_hears_117 rfl (lv_at hl 3 rfl) ?_
          refine q_get (v := .ref (ad 7)) C S (oM0 cI cB ad) rfl iwX12 15 (by decide) mw_139 rfl dX12_hears_118 ?_
          refine lv_iconst (v := 5) hx hb dX12_hears_121 (by decide) ?_
          refine q_iald C S (aM7 cI cB ad) 0 rfl (show vp_in 5 6 by unfold vp_in; decide) dX12_hears_122 (j := 5) (by decide) ?_
          refine lv_iconst (v := 1) hx hb dX12_hears_123 (by decide) ?_
          refine lv_icmp_ne (tgt := 131) hx hb dX12_hears_124 (by decide) (fun c16 => ?_) (fun c16 => ?_)
          · have h := cnd_f c16 h
            refine lv_iconst (v := 0) hx hb dX12_hears_131 (by decide) ?_
            exact wX12_hears_132 C hR u 0 v3 v2 v1 x1 x2 (lv_sub hl [] rfl) S h
          · have h := cnd_t c16 h
            refine lv_iconst (v := 1) hx hb dX12_hears_127 (by decide) ?_
            refine lv_goto (tgt := 132) hx hb dX12_hears_128 (by decide) ?_
            exact wX12_hears_132 C hR u 1 v3 v2 v1 x1 x2 (lv_sub hl [] rfl) S h
set_option maxRecDepth 10000 in
set_option maxHeartbeats 4000000 in
theorem ct_X12_hears (l : Launch) (D : va_G) (cI cB cL : ClassId) (ad : Nat → Nat) (x1 : Int32) (x2 : Int32) (u : Sg) {σ' : Sg} (h : fX12_hears x1 x2 u = some σ') : metV l D (tyl cI cB cL) yX12_hears cX12_hears 6 6 137 (wM cI cB ad) [.ref (ad 0), .int x1, .int x2] u σ' := by
  intro sz
  refine Met.ofW (cc := cX12_hears) (maxL := 6) (ret := none) (by decide) rfl ?_
  intro p e s m args below meth c s₁ B hml hv
  obtain ⟨rfl, C, S⟩ := q_entry B hml hv
  have hl := lv_entry ([.ref (ad 0), .int x1, .int x2]) (n := 6) (Nat.le_of_ble_eq_true rfl)
  rw [lg_entry_eq]
  generalize (lg_sl ([.ref (ad 0), .int x1, .int x2]) ++ List.replicate (6 - (lg_sl ([.ref (ad 0), .int x1, .int x2])).length) Slot.unset).toArray = ls at hl ⊢
  exact wX12_hears_0 C ⟨Nat.le_refl _, Nat.le_refl _⟩ u x1 x2 (lv_sub hl [0, 1, 2] rfl) S h
noncomputable def fX12_hearsAll_88 (K0 : Int32 → Int32 → Sg → Option Sg) : Nat → Int32 → Int32 → Int32 → Int32 → Int32 → Sg → Option Sg
  | 0, _, _, _, _, _, _ => none
  | n + 1, x1, x2, x3, x4, x5, u => cnd (x4 ≤ x5) (grd (vp_in (fX12_channelAt x1 x2 2) 32243) (grd (vp_in (fX12_channelAt x1 x2 2) 32243) (bnd (s2 u 1 (((fX12_channelAt x1 x2 2) : Int32).toNatClampNeg) ((u 1 (((fX12_channelAt x1 x2 2) : Int32).toNatClampNeg)) - 1)) (fun u14 => obr (fX12_hears x1 x2 u14) (fun u16 => K0 x1 x2 u16))))) (grd (vp_in ((x3 + x5) + 6) 32243) (grd (vp_in (x3 + x5) 32243) (bnd (s2 u 1 (((x3 + x5) : Int32).toNatClampNeg) (u 1 ((((x3 + x5) + 6) : Int32).toNatClampNeg))) (fun u19 => bnd (x5 + 1) (fun v20 => fX12_hearsAll_88 K0 n x1 x2 x3 x4 v20 u19)))))
noncomputable def fX12_hearsAll_56 (K0 : Int32 → Int32 → Sg → Option Sg) : Nat → Int32 → Int32 → Int32 → Int32 → Int32 → Sg → Option Sg
  | 0, _, _, _, _, _, _ => none
  | n + 1, x1, x2, x3, x4, x5, u => cnd (6 ≤ x5) (fX12_hearsAll_88 K0 FU x1 x2 x3 x4 0 u) (grd (vp_in (x3 + x5) 32243) (grd (vp_in x5 6) (bnd (s2 u 7 ((x5 : Int32).toNatClampNeg) (u 1 (((x3 + x5) : Int32).toNatClampNeg))) (fun u23 => bnd (x5 + 1) (fun v24 => fX12_hearsAll_56 K0 n x1 x2 x3 x4 v24 u23)))))
noncomputable def fX12_hearsAll_0 : Nat → Int32 → Int32 → Sg → Option Sg
  | 0, _, _, _ => none
  | n + 1, x1, x2, u => obr (fX12_ofChannel x1 x2 2 u) (fun r2 => cnd (r2 ≤ 0) (some u) (grd (vp_in (fX12_packetAt x1 x2 0 0) 32243) (cnd ((u 1 4) < (u 1 (((fX12_packetAt x1 x2 0 0) : Int32).toNatClampNeg))) (some u) (bnd (fX12_packetAt x1 x2 0 0) (fun v6 => obr (fX12_ofChannel x1 x2 2 u) (fun r8 => bnd (6 * (r8 - 1)) (fun v9 => fX12_hearsAll_56 (fun a0 a1 w => fX12_hearsAll_0 n a0 a1 w) FU x1 x2 v6 v9 0 u)))))))
noncomputable def fX12_hearsAll (x1 : Int32) (x2 : Int32) (u : Sg) : Option Sg := fX12_hearsAll_0 FU x1 x2 u
set_option maxRecDepth 10000 in
set_option maxHeartbeats 4000000 in
theorem wX12_hearsAll_88 (C : cx D (tyl cI cB cL) A RX12 cX12_hearsAll 6 none p s m args c meth) (hR : 7 ≤ R.frames ∧ 162 ≤ R.locals) {σ' : Sg} {K0 : Int32 → Int32 → Sg → Option Sg} (hK0 : ∀ (y1 : Int32) (y2 : Int32) (v : Sg) (H : Heap) (locs : List Loc) (ls : Array Slot), lv_has ls 6 [(0, .ref (ad 0)), (1, .int y1), (2, .int y2)] → st D (wM cI cB ad) A s v H locs → K0 y1 y2 v = some σ' → W p l e R s m args below meth c H locs 0 0 (MQ below (qV D (tyl cI cB cL) (wM cI cB ad) A σ') args s 0 0 A) (F0 m 0 ls [])) : ∀ (n : Nat) (x1 : Int32) (x2 : Int32) (x3 : Int32) (x4 : Int32) (x5 : Int32) (u : Sg) (H : Heap) (locs : List Loc) (ls : Array Slot), lv_has ls 6 [(0, .ref (ad 0)), (1, .int x1), (2, .int x2), (3, .int x3), (4, .int x4), (5, .int x5)] → st D (wM cI cB ad) A s u H locs → fX12_hearsAll_88 K0 n x1 x2 x3 x4 x5 u = some σ' → W p l e R s m args below meth c H locs 0 0 (MQ below (qV D (tyl cI cB cL) (wM cI cB ad) A σ') args s 0 0 A) (F0 m 88 ls []) := by
  have hx := C.1
  have hb := C.2.1
  intro n
  induction n with
  | zero =>
    intro x1 x2 x3 x4 x5 u H locs ls hl S h
    cases h
  | succ n ih =>
    intro x1 x2 x3 x4 x5 u H locs ls hl S h
    rw [fX12_hearsAll_88] at h
    have hsz := hl.1
    refine lv_iload hx hb dX12_hearsAll_88 (lv_at hl 5 rfl) ?_
    refine lv_iload hx hb dX12_hearsAll_90 (lv_at hl 4 rfl) ?_
    refine lv_icmp_ge (tgt := 122) hx hb dX12_hearsAll_92 (by decide) (fun c11 => ?_) (fun c11 => ?_)
    · have h := cnd_t c11 h
      refine lv_aload_n hx hb dX12_hearsAll_122 rfl (lv_at hl 0 rfl) ?_
      refine q_get (v := .ref (ad 1)) C S (oM0 cI cB ad) rfl iwX12 1 (by decide) mw_14 rfl dX12_hearsAll_123 ?_
      refine lv_iload_n hx hb dX12_hearsAll_126 rfl (lv_at hl 1 rfl) ?_
      refine lv_iload_n hx hb dX12_hearsAll_127 rfl (lv_at hl 2 rfl) ?_
      refine lv_iconst (v := 2) hx hb dX12_hearsAll_128 (by decide) ?_
      refine q_callP (As := [.int x1, .int x2, .int 2]) (na := 3) C S (ct_X12_channelAt l D cI cB cL x1 x2 2) mw_10 mw_9 mw_5 mw_8 hdX12_channelAt ⟨Nat.le_trans (Nat.le_of_ble_eq_true rfl) hR.1, Nat.le_trans (Nat.le_of_ble_eq_true rfl) hR.2⟩ rfl hsz ⟨Nat.zero_le _, Nat.zero_le _⟩ (Nat.le_of_ble_eq_true rfl) dX12_hearsAll_129 rfl (fun H locs S => ?_)
      refine lv_dup2_11 hx hb dX12_hearsAll_132 rfl rfl ?_
      obtain ⟨g12, h⟩ := grd_some h
      refine q_iald C S (aM1 cI cB ad) 0 rfl g12 dX12_hearsAll_133 (j := ((fX12_channelAt x1 x2 2) : Int32).toNatClampNeg) rfl ?_
      refine lv_iconst (v := 1) hx hb dX12_hearsAll_134 (by decide) ?_
      refine lv_isub hx hb dX12_hearsAll_135 ?_
      obtain ⟨g13, h⟩ := grd_some h
      obtain ⟨u14, eu14⟩ : ∃ z : Sg, z = s2 u 1 (((fX12_channelAt x1 x2 2) : Int32).toNatClampNeg) ((u 1 (((fX12_channelAt x1 x2 2) : Int32).toNatClampNeg)) - 1) := ⟨_, rfl⟩
      have h := bnd_of eu14 h
      refine q_iast C S (aM1 cI cB ad) 0 rfl g13 dX12_hearsAll_136 (j := ((fX12_channelAt x1 x2 2) : Int32).toNatClampNeg) rfl eu14 (fun H locs S => ?_)
      refine lv_aload_n hx hb dX12_hearsAll_137 rfl (lv_at hl 0 rfl) ?_
      refine lv_iload_n hx hb dX12_hearsAll_138 rfl (lv_at hl 1 rfl) ?_
      refine lv_iload_n hx hb dX12_hearsAll_139 rfl (lv_at hl 2 rfl) ?_
      obtain ⟨u16, h15, h⟩ := obr_some h
      refine q_callVv (As := [.int x1, .int x2]) (na := 2) C S (oM0 cI cB ad) rfl (ct_X12_hears l D cI cB cL ad x1 x2 u14 h15) mw_158 mw_157 mw_159 mw_5 mw_156 hdX12_hears ⟨Nat.le_trans (Nat.le_of_ble_eq_true rfl) hR.1, Nat.le_trans (Nat.le_of_ble_eq_true rfl) hR.2⟩ rfl hsz ⟨Nat.zero_le _, Nat.zero_le _⟩ (Nat.le_of_ble_eq_true rfl) dX12_hearsAll_140 rfl (fun H locs S => ?_)
      refine lv_goto (tgt := 0) hx hb dX12_hearsAll_143 (by decide) ?_
      exact hK0 x1 x2 u16 H locs ls (lv_sub hl [0, 1, 2] rfl) S h
    · have h := cnd_f c11 h
      refine lv_aload_n hx hb dX12_hearsAll_95 rfl (lv_at hl 0 rfl) ?_
      refine q_get (v := .ref (ad 1)) C S (oM0 cI cB ad) rfl iwX12 1 (by decide) mw_14 rfl dX12_hearsAll_96 ?_
      refine lv_iload_n hx hb dX12_hearsAll_99 rfl (lv_at hl 3 rfl) ?_
      refine lv_iload hx hb dX12_hearsAll_100 (lv_at hl 5 rfl) ?_
      refine lv_iadd hx hb dX12_hearsAll_102 ?_
      refine lv_aload_n hx hb dX12_hearsAll_103 rfl (lv_at hl 0 rfl) ?_
      refine q_get (v := .ref (ad 1)) C S (oM0 cI cB ad) rfl iwX12 1 (by decide) mw_14 rfl dX12_hearsAll_104 ?_
      refine lv_iload_n hx hb dX12_hearsAll_107 rfl (lv_at hl 3 rfl) ?_
      refine lv_iload hx hb dX12_hearsAll_108 (lv_at hl 5 rfl) ?_
      refine lv_iadd hx hb dX12_hearsAll_110 ?_
      refine lv_bipush (v := 6) hx hb dX12_hearsAll_111 (by decide) ?_
      refine lv_iadd hx hb dX12_hearsAll_113 ?_
      obtain ⟨g17, h⟩ := grd_some h
      refine q_iald C S (aM1 cI cB ad) 0 rfl g17 dX12_hearsAll_114 (j := (((x3 + x5) + 6) : Int32).toNatClampNeg) rfl ?_
      obtain ⟨g18, h⟩ := grd_some h
      obtain ⟨u19, eu19⟩ : ∃ z : Sg, z = s2 u 1 (((x3 + x5) : Int32).toNatClampNeg) (u 1 ((((x3 + x5) + 6) : Int32).toNatClampNeg)) := ⟨_, rfl⟩
      have h := bnd_of eu19 h
      refine q_iast C S (aM1 cI cB ad) 0 rfl g18 dX12_hearsAll_115 (j := ((x3 + x5) : Int32).toNatClampNeg) rfl eu19 (fun H locs S => ?_)
      obtain ⟨v20, ev20⟩ : ∃ y : Int32, y = x5 + 1 := ⟨_, rfl⟩
      have h := bnd_of ev20 h
      refine lv_iinc (v := v20) (lv' := [(5, .int v20), (0, .ref (ad 0)), (1, .int x1), (2, .int x2), (3, .int x3), (4, .int x4)]) hx hb dX12_hearsAll_116 hl (k := 5) rfl (by rw [ev20]; rfl) (by decide) rfl (fun ls hl => ?_)
      have hsz := hl.1
      refine lv_goto (tgt := 88) hx hb dX12_hearsAll_119 (by decide) ?_
      exact ih x1 x2 x3 x4 v20 u19 H locs ls (lv_sub hl [1, 2, 3, 4, 5, 0] rfl) S h
set_option maxRecDepth 10000 in
set_option maxHeartbeats 4000000 in
theorem wX12_hearsAll_56 (C : cx D (tyl cI cB cL) A RX12 cX12_hearsAll 6 none p s m args c meth) (hR : 7 ≤ R.frames ∧ 162 ≤ R.locals) {σ' : Sg} {K0 : Int32 → Int32 → Sg → Option Sg} (hK0 : ∀ (y1 : Int32) (y2 : Int32) (v : Sg) (H : Heap) (locs : List Loc) (ls : Array Slot), lv_has ls 6 [(0, .ref (ad 0)), (1, .int y1), (2, .int y2)] → st D (wM cI cB ad) A s v H locs → K0 y1 y2 v = some σ' → W p l e R s m args below meth c H locs 0 0 (MQ below (qV D (tyl cI cB cL) (wM cI cB ad) A σ') args s 0 0 A) (F0 m 0 ls [])) : ∀ (n : Nat) (x1 : Int32) (x2 : Int32) (x3 : Int32) (x4 : Int32) (x5 : Int32) (u : Sg) (H : Heap) (locs : List Loc) (ls : Array Slot), lv_has ls 6 [(0, .ref (ad 0)), (1, .int x1), (2, .int x2), (3, .int x3), (4, .int x4), (5, .int x5)] → st D (wM cI cB ad) A s u H locs → fX12_hearsAll_56 K0 n x1 x2 x3 x4 x5 u = some σ' → W p l e R s m args below meth c H locs 0 0 (MQ below (qV D (tyl cI cB cL) (wM cI cB ad) A σ') args s 0 0 A) (F0 m 56 ls []) := by
  have hx := C.1
  have hb := C.2.1
  intro n
  induction n with
  | zero =>
    intro x1 x2 x3 x4 x5 u H locs ls hl S h
    cases h
  | succ n ih =>
    intro x1 x2 x3 x4 x5 u H locs ls hl S h
    rw [fX12_hearsAll_56] at h
    have hsz := hl.1
    refine lv_iload hx hb dX12_hearsAll_56 (lv_at hl 5 rfl) ?_
    refine lv_bipush (v := 6) hx hb dX12_hearsAll_58 (by decide) ?_
    refine lv_icmp_ge (tgt := 85) hx hb dX12_hearsAll_60 (by decide) (fun c10 => ?_) (fun c10 => ?_)
    · have h := cnd_t c10 h
      refine lv_iconst (v := 0) hx hb dX12_hearsAll_85 (by decide) ?_
      refine lv_istore (lv' := [(5, .int 0), (0, .ref (ad 0)), (1, .int x1), (2, .int x2), (3, .int x3), (4, .int x4)]) hx hb dX12_hearsAll_86 hl (by decide) rfl (fun ls hl => ?_)
      have hsz := hl.1
      exact wX12_hearsAll_88 C hR hK0 FU x1 x2 x3 x4 0 u H locs ls (lv_sub hl [1, 2, 3, 4, 5, 0] rfl) S h
    · have h := cnd_f c10 h
      refine lv_aload_n hx hb dX12_hearsAll_63 rfl (lv_at hl 0 rfl) ?_
      refine q_get (v := .ref (ad 7)) C S (oM0 cI cB ad) rfl iwX12 15 (by decide) mw_139 rfl dX12_hearsAll_64 ?_
      refine lv_iload hx hb dX12_hearsAll_67 (lv_at hl 5 rfl) ?_
      refine lv_aload_n hx hb dX12_hearsAll_69 rfl (lv_at hl 0 rfl) ?_
      refine q_get (v := .ref (ad 1)) C S (oM0 cI cB ad) rfl iwX12 1 (by decide) mw_14 rfl dX12_hearsAll_70 ?_
      refine lv_iload_n hx hb dX12_hearsAll_73 rfl (lv_at hl 3 rfl) ?_
      refine lv_iload hx hb dX12_hearsAll_74 (lv_at hl 5 rfl) ?_
      refine lv_iadd hx hb dX12_hearsAll_76 ?_
      obtain ⟨g21, h⟩ := grd_some h
      refine q_iald C S (aM1 cI cB ad) 0 rfl g21 dX12_hearsAll_77 (j := ((x3 + x5) : Int32).toNatClampNeg) rfl ?_
      obtain ⟨g22, h⟩ := grd_some h
      obtain ⟨u23, eu23⟩ : ∃ z : Sg, z = s2 u 7 ((x5 : Int32).toNatClampNeg) (u 1 (((x3 + x5) : Int32).toNatClampNeg)) := ⟨_, rfl⟩
      have h := bnd_of eu23 h
      refine q_iast C S (aM7 cI cB ad) 0 rfl g22 dX12_hearsAll_78 (j := (x5 : Int32).toNatClampNeg) rfl eu23 (fun H locs S => ?_)
      obtain ⟨v24, ev24⟩ : ∃ y : Int32, y = x5 + 1 := ⟨_, rfl⟩
      have h := bnd_of ev24 h
      refine lv_iinc (v := v24) (lv' := [(5, .int v24), (0, .ref (ad 0)), (1, .int x1), (2, .int x2), (3, .int x3), (4, .int x4)]) hx hb dX12_hearsAll_79 hl (k := 5) rfl (by rw [ev24]; rfl) (by decide) rfl (fun ls hl => ?_)
      have hsz := hl.1
      refine lv_goto (tgt := 56) hx hb dX12_hearsAll_82 (by decide) ?_
      exact ih x1 x2 x3 x4 v24 u23 H locs ls (lv_sub hl [1, 2, 3, 4, 5, 0] rfl) S h
set_option maxRecDepth 10000 in
set_option maxHeartbeats 4000000 in
theorem wX12_hearsAll_0 (C : cx D (tyl cI cB cL) A RX12 cX12_hearsAll 6 none p s m args c meth) (hR : 7 ≤ R.frames ∧ 162 ≤ R.locals) {σ' : Sg} : ∀ (n : Nat) (x1 : Int32) (x2 : Int32) (u : Sg) (H : Heap) (locs : List Loc) (ls : Array Slot), lv_has ls 6 [(0, .ref (ad 0)), (1, .int x1), (2, .int x2)] → st D (wM cI cB ad) A s u H locs → fX12_hearsAll_0 n x1 x2 u = some σ' → W p l e R s m args below meth c H locs 0 0 (MQ below (qV D (tyl cI cB cL) (wM cI cB ad) A σ') args s 0 0 A) (F0 m 0 ls []) := by
  have hx := C.1
  have hb := C.2.1
  intro n
  induction n with
  | zero =>
    intro x1 x2 u H locs ls hl S h
    cases h
  | succ n ih =>
    intro x1 x2 u H locs ls hl S h
    rw [fX12_hearsAll_0] at h
    have hsz := hl.1
    refine lv_aload_n hx hb dX12_hearsAll_0 rfl (lv_at hl 0 rfl) ?_
    refine lv_iload_n hx hb dX12_hearsAll_1 rfl (lv_at hl 1 rfl) ?_
    refine lv_iload_n hx hb dX12_hearsAll_2 rfl (lv_at hl 2 rfl) ?_
    refine lv_iconst (v := 2) hx hb dX12_hearsAll_3 (by decide) ?_
    obtain ⟨r2, h1, h⟩ := obr_some h
    refine q_callVi (As := [.int x1, .int x2, .int 2]) (na := 3) C S (oM0 cI cB ad) rfl (ct_X12_ofChannel l D cI cB cL ad x1 x2 2 u h1) mw_84 mw_83 mw_85 mw_5 mw_82 hdX12_ofChannel ⟨Nat.le_trans (Nat.le_of_ble_eq_true rfl) hR.1, Nat.le_trans (Nat.le_of_ble_eq_true rfl) hR.2⟩ rfl hsz ⟨Nat.zero_le _, Nat.zero_le _⟩ (Nat.le_of_ble_eq_true rfl) dX12_hearsAll_4 rfl (fun H locs S => ?_)
    refine lv_if_le (tgt := 146) hx hb dX12_hearsAll_7 (by decide) (fun c3 => ?_) (fun c3 => ?_)
    · have h := cnd_t c3 h
      exact q_vret C S (Option.some.inj h) dX12_hearsAll_146
    · have h := cnd_f c3 h
      refine lv_aload_n hx hb dX12_hearsAll_10 rfl (lv_at hl 0 rfl) ?_
      refine q_get (v := .ref (ad 1)) C S (oM0 cI cB ad) rfl iwX12 1 (by decide) mw_14 rfl dX12_hearsAll_11 ?_
      refine lv_iload_n hx hb dX12_hearsAll_14 rfl (lv_at hl 1 rfl) ?_
      refine lv_iload_n hx hb dX12_hearsAll_15 rfl (lv_at hl 2 rfl) ?_
      refine lv_iconst (v := 0) hx hb dX12_hearsAll_16 (by decide) ?_
      refine lv_iconst (v := 0) hx hb dX12_hearsAll_17 (by decide) ?_
      refine q_callP (As := [.int x1, .int x2, .int 0, .int 0]) (na := 4) C S (ct_X12_packetAt l D cI cB cL x1 x2 0 0) mw_96 mw_95 mw_5 mw_94 hdX12_packetAt ⟨Nat.le_trans (Nat.le_of_ble_eq_true rfl) hR.1, Nat.le_trans (Nat.le_of_ble_eq_true rfl) hR.2⟩ rfl hsz ⟨Nat.zero_le _, Nat.zero_le _⟩ (Nat.le_of_ble_eq_true rfl) dX12_hearsAll_18 rfl (fun H locs S => ?_)
      obtain ⟨g4, h⟩ := grd_some h
      refine q_iald C S (aM1 cI cB ad) 0 rfl g4 dX12_hearsAll_21 (j := ((fX12_packetAt x1 x2 0 0) : Int32).toNatClampNeg) rfl ?_
      refine lv_aload_n hx hb dX12_hearsAll_22 rfl (lv_at hl 0 rfl) ?_
      refine q_get (v := .ref (ad 1)) C S (oM0 cI cB ad) rfl iwX12 1 (by decide) mw_14 rfl dX12_hearsAll_23 ?_
      refine lv_iconst (v := 4) hx hb dX12_hearsAll_26 (by decide) ?_
      refine q_iald C S (aM1 cI cB ad) 0 rfl (show vp_in 4 32243 by unfold vp_in; decide) dX12_hearsAll_27 (j := 4) (by decide) ?_
      refine lv_icmp_gt (tgt := 146) hx hb dX12_hearsAll_28 (by decide) (fun c5 => ?_) (fun c5 => ?_)
      · have h := cnd_t c5 h
        exact q_vret C S (Option.some.inj h) dX12_hearsAll_146
      · have h := cnd_f c5 h
        refine lv_iload_n hx hb dX12_hearsAll_31 rfl (lv_at hl 1 rfl) ?_
        refine lv_iload_n hx hb dX12_hearsAll_32 rfl (lv_at hl 2 rfl) ?_
        refine lv_iconst (v := 0) hx hb dX12_hearsAll_33 (by decide) ?_
        refine lv_iconst (v := 0) hx hb dX12_hearsAll_34 (by decide) ?_
        refine q_callP (As := [.int x1, .int x2, .int 0, .int 0]) (na := 4) C S (ct_X12_packetAt l D cI cB cL x1 x2 0 0) mw_96 mw_95 mw_5 mw_94 hdX12_packetAt ⟨Nat.le_trans (Nat.le_of_ble_eq_true rfl) hR.1, Nat.le_trans (Nat.le_of_ble_eq_true rfl) hR.2⟩ rfl hsz ⟨Nat.zero_le _, Nat.zero_le _⟩ (Nat.le_of_ble_eq_true rfl) dX12_hearsAll_35 rfl (fun H locs S => ?_)
        refine lv_topi (fun v6 ev6 => ?_)
        have h := bnd_of ev6 h
        refine lv_istore_n (lv' := [(3, .int v6), (0, .ref (ad 0)), (1, .int x1), (2, .int x2)]) hx hb dX12_hearsAll_38 rfl hl (by decide) rfl (fun ls hl => ?_)
        have hsz := hl.1
        refine lv_bipush (v := 6) hx hb dX12_hearsAll_39 (by decide) ?_
        refine lv_aload_n hx hb dX12_hearsAll_41 rfl (lv_at hl 1 rfl) ?_
        refine lv_iload_n hx hb dX12_hearsAll_42 rfl (lv_at hl 2 rfl) ?_
        refine lv_iload_n hx hb dX12_hearsAll_43 rfl (lv_at hl 3 rfl) ?_
        refine lv_iconst (v := 2) hx hb dX12_hearsAll_44 (by decide) ?_
        obtain ⟨r8, h7, h⟩ := obr_some h
        refine q_callVi (As := [.int x1, .int x2, .int 2]) (na := 3) C S (oM0 cI cB ad) rfl (ct_X12_ofChannel l D cI cB cL ad x1 x2 2 u h7) mw_84 mw_83 mw_85 mw_5 mw_82 hdX12_ofChannel ⟨Nat.le_trans (Nat.le_of_ble_eq_true rfl) hR.1, Nat.le_trans (Nat.le_of_ble_eq_true rfl) hR.2⟩ rfl hsz ⟨Nat.zero_le _, Nat.zero_le _⟩ (Nat.le_of_ble_eq_true rfl) dX12_hearsAll_45 rfl (fun H locs S => ?_)
        refine lv_iconst (v := 1) hx hb dX12_hearsAll_48 (by decide) ?_
        refine lv_isub hx hb dX12_hearsAll_49 ?_
        refine lv_imul hx hb dX12_hearsAll_50 ?_
        refine lv_topi (fun v9 ev9 => ?_)
        have h := bnd_of ev9 h
        refine lv_istore (lv' := [(4, .int v9), (3, .int v6), (0, .ref (ad 0)), (1, .int x1), (2, .int x2)]) hx hb dX12_hearsAll_51 hl (by decide) rfl (fun ls hl => ?_)
        have hsz := hl.1
        refine lv_iconst (v := 0) hx hb dX12_hearsAll_53 (by decide) ?_
        refine lv_istore (lv' := [(5, .int 0), (4, .int v9), (3, .int v6), (0, .ref (ad 0)), (1, .int x1), (2, .int x2)]) hx hb dX12_hearsAll_54 hl (by decide) rfl (fun ls hl => ?_)
        have hsz := hl.1
        exact wX12_hearsAll_56 C hR ih FU x1 x2 v6 v9 0 u H locs ls (lv_sub hl [3, 4, 5, 2, 1, 0] rfl) S h
set_option maxRecDepth 10000 in
set_option maxHeartbeats 4000000 in
theorem ct_X12_hearsAll (l : Launch) (D : va_G) (cI cB cL : ClassId) (ad : Nat → Nat) (x1 : Int32) (x2 : Int32) (u : Sg) {σ' : Sg} (h : fX12_hearsAll x1 x2 u = some σ') : metV l D (tyl cI cB cL) yX12_hearsAll cX12_hearsAll 6 7 162 (wM cI cB ad) [.ref (ad 0), .int x1, .int x2] u σ' := by
  intro sz
  refine Met.ofW (cc := cX12_hearsAll) (maxL := 6) (ret := none) (by decide) rfl ?_
  intro p e s m args below meth c s₁ B hml hv
  obtain ⟨rfl, C, S⟩ := q_entry B hml hv
  have hl := lv_entry ([.ref (ad 0), .int x1, .int x2]) (n := 6) (Nat.le_of_ble_eq_true rfl)
  rw [lg_entry_eq]
  generalize (lg_sl ([.ref (ad 0), .int x1, .int x2]) ++ List.replicate (6 - (lg_sl ([.ref (ad 0), .int x1, .int x2])).length) Slot.unset).toArray = ls at hl ⊢
  exact wX12_hearsAll_0 C ⟨Nat.le_refl _, Nat.le_refl _⟩ FU x1 x2 u _ _ ls (lv_sub hl [0, 1, 2] rfl) S h
noncomputable def fX12_isFull_58 (K5 : Int32 → Int32 → Int32 → Int32 → Option Int32) (x1 : Int32) (x2 : Int32) (x4 : Int32) (t0 : Int32) (u : Sg) : Option Int32 := bnd (x4 + 1) (fun v6 => K5 x1 x2 t0 v6)
noncomputable def fX12_isFull_57 (K5 : Int32 → Int32 → Int32 → Int32 → Option Int32) (x1 : Int32) (x2 : Int32) (x4 : Int32) (u : Sg) : Option Int32 := fX12_isFull_58 K5 x1 x2 x4 0 u
noncomputable def fX12_isFull_53 (K5 : Int32 → Int32 → Int32 → Int32 → Option Int32) (x1 : Int32) (x2 : Int32) (x4 : Int32) (u : Sg) : Option Int32 := fX12_isFull_58 K5 x1 x2 x4 1 u
noncomputable def fX12_isFull_5 (u : Sg) : Nat → Int32 → Int32 → Int32 → Int32 → Option Int32
  | 0, _, _, _, _ => none
  | n + 1, x1, x2, x3, x4 => obr (fX12_nodes u) (fun r2 => cnd (r2 ≤ x4) (grd (isB x3) (some x3)) (cnd (x3 = 0) (fX12_isFull_57 (fun a0 a1 a2 a3 => fX12_isFull_5 u n a0 a1 a2 a3) x1 x2 x4 u) (obr (fX12_isTo x2 x4 u) (fun r8 => cnd (r8 = 0) (fX12_isFull_53 (fun a0 a1 a2 a3 => fX12_isFull_5 u n a0 a1 a2 a3) x1 x2 x4 u) (obr (fX12_ofPair x1 x2 6 u) (fun r11 => cnd ((fX12_holds r11 x4) = 0) (obr (fX12_isNoticed x4 u) (fun r14 => cnd (r14 = 0) (fX12_isFull_57 (fun a0 a1 a2 a3 => fX12_isFull_5 u n a0 a1 a2 a3) x1 x2 x4 u) (fX12_isFull_53 (fun a0 a1 a2 a3 => fX12_isFull_5 u n a0 a1 a2 a3) x1 x2 x4 u))) (fX12_isFull_53 (fun a0 a1 a2 a3 => fX12_isFull_5 u n a0 a1 a2 a3) x1 x2 x4 u)))))))
noncomputable def fX12_isFull_0 (x1 : Int32) (x2 : Int32) (u : Sg) : Option Int32 := fX12_isFull_5 u FU x1 x2 1 0
noncomputable def fX12_isFull (x1 : Int32) (x2 : Int32) (u : Sg) : Option Int32 := fX12_isFull_0 x1 x2 u
set_option maxRecDepth 10000 in
set_option maxHeartbeats 4000000 in
theorem wX12_isFull_58 (C : cx D (tyl cI cB cL) A RX12 cX12_isFull 5 (some .boolean) p s m args c meth) (hR : 4 ≤ R.frames ∧ 85 ≤ R.locals) {r : Int32} (u : Sg) {K5 : Int32 → Int32 → Int32 → Int32 → Option Int32} (hK5 : ∀ (y1 : Int32) (y2 : Int32) (y3 : Int32) (y4 : Int32) (H : Heap) (locs : List Loc) (ls : Array Slot), lv_has ls 5 [(0, .ref (ad 0)), (1, .int y1), (2, .int y2), (3, .int y3), (4, .int y4)] → st D (wM cI cB ad) A s u H locs → K5 y1 y2 y3 y4 = some r → W p l e R s m args below meth c H locs 0 0 (MQ below (qI D (tyl cI cB cL) (wM cI cB ad) A r u) args s 0 0 A) (F0 m 5 ls [])) (x1 : Int32) (x2 : Int32) (x4 : Int32) (t0 : Int32) {H : Heap} {locs : List Loc} {ls : Array Slot} (hl : lv_has ls 5 [(0, .ref (ad 0)), (1, .int x1), (2, .int x2), (4, .int x4)]) (S : st D (wM cI cB ad) A s u H locs) (h : fX12_isFull_58 K5 x1 x2 x4 t0 u = some r) : W p l e R s m args below meth c H locs 0 0 (MQ below (qI D (tyl cI cB cL) (wM cI cB ad) A r u) args s 0 0 A) (F0 m 58 ls [.int t0]) := by
  have hx := C.1
  have hb := C.2.1
  have hsz := hl.1
  unfold fX12_isFull_58 at h
  refine lv_istore_n (lv' := [(3, .int t0), (0, .ref (ad 0)), (1, .int x1), (2, .int x2), (4, .int x4)]) hx hb dX12_isFull_58 rfl hl (by decide) rfl (fun ls hl => ?_)
  have hsz := hl.1
  obtain ⟨v6, ev6⟩ : ∃ y : Int32, y = x4 + 1 := ⟨_, rfl⟩
  have h := bnd_of ev6 h
  refine lv_iinc (v := v6) (lv' := [(4, .int v6), (3, .int t0), (0, .ref (ad 0)), (1, .int x1), (2, .int x2)]) hx hb dX12_isFull_59 hl (k := 4) rfl (by rw [ev6]; rfl) (by decide) rfl (fun ls hl => ?_)
  have hsz := hl.1
  refine lv_goto (tgt := 5) hx hb dX12_isFull_62 (by decide) ?_
  exact hK5 x1 x2 t0 v6 H locs ls (lv_sub hl [2, 3, 4, 1, 0] rfl) S h
set_option maxRecDepth 10000 in
set_option maxHeartbeats 4000000 in
theorem wX12_isFull_57 (C : cx D (tyl cI cB cL) A RX12 cX12_isFull 5 (some .boolean) p s m args c meth) (hR : 4 ≤ R.frames ∧ 85 ≤ R.locals) {r : Int32} (u : Sg) {K5 : Int32 → Int32 → Int32 → Int32 → Option Int32} (hK5 : ∀ (y1 : Int32) (y2 : Int32) (y3 : Int32) (y4 : Int32) (H : Heap) (locs : List Loc) (ls : Array Slot), lv_has ls 5 [(0, .ref (ad 0)), (1, .int y1), (2, .int y2), (3, .int y3), (4, .int y4)] → st D (wM cI cB ad) A s u H locs → K5 y1 y2 y3 y4 = some r → W p l e R s m args below meth c H locs 0 0 (MQ below (qI D (tyl cI cB cL) (wM cI cB ad) A r u) args s 0 0 A) (F0 m 5 ls [])) (x1 : Int32) (x2 : Int32) (x4 : Int32) {H : Heap} {locs : List Loc} {ls : Array Slot} (hl : lv_has ls 5 [(0, .ref (ad 0)), (1, .int x1), (2, .int x2), (4, .int x4)]) (S : st D (wM cI cB ad) A s u H locs) (h : fX12_isFull_57 K5 x1 x2 x4 u = some r) : W p l e R s m args below meth c H locs 0 0 (MQ below (qI D (tyl cI cB cL) (wM cI cB ad) A r u) args s 0 0 A) (F0 m 57 ls []) := by
  have hx := C.1
  have hb := C.2.1
  have hsz := hl.1
  unfold fX12_isFull_57 at h
  refine lv_iconst (v := 0) hx hb dX12_isFull_57 (by decide) ?_
  exact wX12_isFull_58 C hR u hK5 x1 x2 x4 0 (lv_sub hl [0, 1, 2, 3] rfl) S h
set_option maxRecDepth 10000 in
set_option maxHeartbeats 4000000 in
theorem wX12_isFull_53 (C : cx D (tyl cI cB cL) A RX12 cX12_isFull 5 (some .boolean) p s m args c meth) (hR : 4 ≤ R.frames ∧ 85 ≤ R.locals) {r : Int32} (u : Sg) {K5 : Int32 → Int32 → Int32 → Int32 → Option Int32} (hK5 : ∀ (y1 : Int32) (y2 : Int32) (y3 : Int32) (y4 : Int32) (H : Heap) (locs : List Loc) (ls : Array Slot), lv_has ls 5 [(0, .ref (ad 0)), (1, .int y1), (2, .int y2), (3, .int y3), (4, .int y4)] → st D (wM cI cB ad) A s u H locs → K5 y1 y2 y3 y4 = some r → W p l e R s m args below meth c H locs 0 0 (MQ below (qI D (tyl cI cB cL) (wM cI cB ad) A r u) args s 0 0 A) (F0 m 5 ls [])) (x1 : Int32) (x2 : Int32) (x4 : Int32) {H : Heap} {locs : List Loc} {ls : Array Slot} (hl : lv_has ls 5 [(0, .ref (ad 0)), (1, .int x1), (2, .int x2), (4, .int x4)]) (S : st D (wM cI cB ad) A s u H locs) (h : fX12_isFull_53 K5 x1 x2 x4 u = some r) : W p l e R s m args below meth c H locs 0 0 (MQ below (qI D (tyl cI cB cL) (wM cI cB ad) A r u) args s 0 0 A) (F0 m 53 ls []) := by
  have hx := C.1
  have hb := C.2.1
  have hsz := hl.1
  unfold fX12_isFull_53 at h
  refine lv_iconst (v := 1) hx hb dX12_isFull_53 (by decide) ?_
  refine lv_goto (tgt := 58) hx hb dX12_isFull_54 (by decide) ?_
  exact wX12_isFull_58 C hR u hK5 x1 x2 x4 1 (lv_sub hl [0, 1, 2, 3] rfl) S h
set_option maxRecDepth 10000 in
set_option maxHeartbeats 4000000 in
theorem wX12_isFull_5 (C : cx D (tyl cI cB cL) A RX12 cX12_isFull 5 (some .boolean) p s m args c meth) (hR : 4 ≤ R.frames ∧ 85 ≤ R.locals) {r : Int32} (u : Sg) : ∀ (n : Nat) (x1 : Int32) (x2 : Int32) (x3 : Int32) (x4 : Int32) (H : Heap) (locs : List Loc) (ls : Array Slot), lv_has ls 5 [(0, .ref (ad 0)), (1, .int x1), (2, .int x2), (3, .int x3), (4, .int x4)] → st D (wM cI cB ad) A s u H locs → fX12_isFull_5 u n x1 x2 x3 x4 = some r → W p l e R s m args below meth c H locs 0 0 (MQ below (qI D (tyl cI cB cL) (wM cI cB ad) A r u) args s 0 0 A) (F0 m 5 ls []) := by
  have hx := C.1
  have hb := C.2.1
  intro n
  induction n with
  | zero =>
    intro x1 x2 x3 x4 H locs ls hl S h
    cases h
  | succ n ih =>
    intro x1 x2 x3 x4 H locs ls hl S h
    rw [fX12_isFull_5] at h
    have hsz := hl.1
    refine lv_iload hx hb dX12_isFull_5 (lv_at hl 4 rfl) ?_
    refine lv_aload_n hx hb dX12_isFull_7 rfl (lv_at hl 0 rfl) ?_
    obtain ⟨r2, h1, h⟩ := obr_some h
    refine q_callVi (As := []) (na := 0) C S (oM0 cI cB ad) rfl (ct_X12_nodes l D cI cB cL ad u h1) mw_24 mw_23 mw_25 mw_5 mw_22 hdX12_nodes ⟨Nat.le_trans (Nat.le_of_ble_eq_true rfl) hR.1, Nat.le_trans (Nat.le_of_ble_eq_true rfl) hR.2⟩ rfl hsz ⟨Nat.zero_le _, Nat.zero_le _⟩ (Nat.le_of_ble_eq_true rfl) dX12_isFull_8 rfl (fun H locs S => ?_)
    refine lv_icmp_ge (tgt := 65) hx hb dX12_isFull_11 (by decide) (fun c3 => ?_) (fun c3 => ?_)
    · have h := cnd_t c3 h
      refine lv_iload_n hx hb dX12_isFull_65 rfl (lv_at hl 3 rfl) ?_
      obtain ⟨g4, h⟩ := grd_some h
      exact q_zret C S (isB_n g4) (rt_R h) dX12_isFull_66
    · have h := cnd_f c3 h
      refine lv_iload_n hx hb dX12_isFull_14 rfl (lv_at hl 3 rfl) ?_
      refine lv_if_eq (tgt := 57) hx hb dX12_isFull_15 (by decide) (fun c5 => ?_) (fun c5 => ?_)
      · have h := cnd_t c5 h
        exact wX12_isFull_57 C hR u ih x1 x2 x4 (lv_sub hl [0, 1, 2, 4] rfl) S h
      · have h := cnd_f c5 h
        refine lv_aload_n hx hb dX12_isFull_18 rfl (lv_at hl 0 rfl) ?_
        refine lv_iload_n hx hb dX12_isFull_19 rfl (lv_at hl 2 rfl) ?_
        refine lv_iload hx hb dX12_isFull_20 (lv_at hl 4 rfl) ?_
        obtain ⟨r8, h7, h⟩ := obr_some h
        refine q_callVi (As := [.int x2, .int x4]) (na := 2) C S (oM0 cI cB ad) rfl (ct_X12_isTo l D cI cB cL ad x2 x4 u h7) mw_99 mw_98 mw_100 mw_5 mw_97 hdX12_isTo ⟨Nat.le_trans (Nat.le_of_ble_eq_true rfl) hR.1, Nat.le_trans (Nat.le_of_ble_eq_true rfl) hR.2⟩ rfl hsz ⟨Nat.zero_le _, Nat.zero_le _⟩ (Nat.le_of_ble_eq_true rfl) dX12_isFull_22 rfl (fun H locs S => ?_)
        refine lv_if_eq (tgt := 53) hx hb dX12_isFull_25 (by decide) (fun c9 => ?_) (fun c9 => ?_)
        · have h := cnd_t c9 h
          exact wX12_isFull_53 C hR u ih x1 x2 x4 (lv_sub hl [0, 1, 2, 4] rfl) S h
        · have h := cnd_f c9 h
          refine lv_aload_n hx hb dX12_isFull_28 rfl (lv_at hl 0 rfl) ?_
          refine lv_iload_n hx hb dX12_isFull_29 rfl (lv_at hl 1 rfl) ?_
          refine lv_iload_n hx hb dX12_isFull_30 rfl (lv_at hl 2 rfl) ?_
          refine lv_bipush (v := 6) hx hb dX12_isFull_31 (by decide) ?_
          obtain ⟨r11, h10, h⟩ := obr_some h
          refine q_callVi (As := [.int x1, .int x2, .int 6]) (na := 3) C S (oM0 cI cB ad) rfl (ct_X12_ofPair l D cI cB cL ad x1 x2 6 u h10) mw_126 mw_125 mw_127 mw_5 mw_124 hdX12_ofPair ⟨Nat.le_trans (Nat.le_of_ble_eq_true rfl) hR.1, Nat.le_trans (Nat.le_of_ble_eq_true rfl) hR.2⟩ rfl hsz ⟨Nat.zero_le _, Nat.zero_le _⟩ (Nat.le_of_ble_eq_true rfl) dX12_isFull_33 rfl (fun H locs S => ?_)
          refine lv_iload hx hb dX12_isFull_36 (lv_at hl 4 rfl) ?_
          refine q_callP (As := [.int r11, .int x4]) (na := 2) C S (ct_X12_holds l D cI cB cL r11 x4) mw_47 mw_46 mw_5 mw_45 hdX12_holds ⟨Nat.le_trans (Nat.le_of_ble_eq_true rfl) hR.1, Nat.le_trans (Nat.le_of_ble_eq_true rfl) hR.2⟩ rfl hsz ⟨Nat.zero_le _, Nat.zero_le _⟩ (Nat.le_of_ble_eq_true rfl) dX12_isFull_38 rfl (fun H locs S => ?_)
          refine lv_if_ne (tgt := 53) hx hb dX12_isFull_41 (by decide) (fun c12 => ?_) (fun c12 => ?_)
          · have h := cnd_f c12 h
            exact wX12_isFull_53 C hR u ih x1 x2 x4 (lv_sub hl [0, 1, 2, 4] rfl) S h
          · have h := cnd_t c12 h
            refine lv_aload_n hx hb dX12_isFull_44 rfl (lv_at hl 0 rfl) ?_
            refine lv_iload hx hb dX12_isFull_45 (lv_at hl 4 rfl) ?_
            obtain ⟨r14, h13, h⟩ := obr_some h
            refine q_callVi (As := [.int x4]) (na := 1) C S (oM0 cI cB ad) rfl (ct_X12_isNoticed l D cI cB cL ad x4 u h13) mw_80 mw_79 mw_81 mw_5 mw_78 hdX12_isNoticed ⟨Nat.le_trans (Nat.le_of_ble_eq_true rfl) hR.1, Nat.le_trans (Nat.le_of_ble_eq_true rfl) hR.2⟩ rfl hsz ⟨Nat.zero_le _, Nat.zero_le _⟩ (Nat.le_of_ble_eq_true rfl) dX12_isFull_47 rfl (fun H locs S => ?_)
            refine lv_if_eq (tgt := 57) hx hb dX12_isFull_50 (by decide) (fun c15 => ?_) (fun c15 => ?_)
            · have h := cnd_t c15 h
              exact wX12_isFull_57 C hR u ih x1 x2 x4 (lv_sub hl [0, 1, 2, 4] rfl) S h
            · have h := cnd_f c15 h
              exact wX12_isFull_53 C hR u ih x1 x2 x4 (lv_sub hl [0, 1, 2, 4] rfl) S h
set_option maxRecDepth 10000 in
set_option maxHeartbeats 4000000 in
theorem wX12_isFull_0 (C : cx D (tyl cI cB cL) A RX12 cX12_isFull 5 (some .boolean) p s m args c meth) (hR : 4 ≤ R.frames ∧ 85 ≤ R.locals) {r : Int32} (u : Sg) (x1 : Int32) (x2 : Int32) {H : Heap} {locs : List Loc} {ls : Array Slot} (hl : lv_has ls 5 [(0, .ref (ad 0)), (1, .int x1), (2, .int x2)]) (S : st D (wM cI cB ad) A s u H locs) (h : fX12_isFull_0 x1 x2 u = some r) : W p l e R s m args below meth c H locs 0 0 (MQ below (qI D (tyl cI cB cL) (wM cI cB ad) A r u) args s 0 0 A) (F0 m 0 ls []) := by
  have hx := C.1
  have hb := C.2.1
  have hsz := hl.1
  unfold fX12_isFull_0 at h
  refine lv_iconst (v := 1) hx hb dX12_isFull_0 (by decide) ?_
  refine lv_istore_n (lv' := [(3, .int 1), (0, .ref (ad 0)), (1, .int x1), (2, .int x2)]) hx hb dX12_isFull_1 rfl hl (by decide) rfl (fun ls hl => ?_)
  have hsz := hl.1
  refine lv_iconst (v := 0) hx hb dX12_isFull_2 (by decide) ?_
  refine lv_istore (lv' := [(4, .int 0), (3, .int 1), (0, .ref (ad 0)), (1, .int x1), (2, .int x2)]) hx hb dX12_isFull_3 hl (by decide) rfl (fun ls hl => ?_)
  have hsz := hl.1
  exact wX12_isFull_5 C hR u FU x1 x2 1 0 H locs ls (lv_sub hl [2, 3, 4, 1, 0] rfl) S h
set_option maxRecDepth 10000 in
set_option maxHeartbeats 4000000 in
theorem ct_X12_isFull (l : Launch) (D : va_G) (cI cB cL : ClassId) (ad : Nat → Nat) (x1 : Int32) (x2 : Int32) (u : Sg) {r : Int32} (h : fX12_isFull x1 x2 u = some r) : metI l D (tyl cI cB cL) yX12_isFull cX12_isFull 5 (some .boolean) 4 85 (wM cI cB ad) [.ref (ad 0), .int x1, .int x2] u r u := by
  intro sz
  refine Met.ofW (cc := cX12_isFull) (maxL := 5) (ret := (some .boolean)) (by decide) rfl ?_
  intro p e s m args below meth c s₁ B hml hv
  obtain ⟨rfl, C, S⟩ := q_entry B hml hv
  have hl := lv_entry ([.ref (ad 0), .int x1, .int x2]) (n := 5) (Nat.le_of_ble_eq_true rfl)
  rw [lg_entry_eq]
  generalize (lg_sl ([.ref (ad 0), .int x1, .int x2]) ++ List.replicate (5 - (lg_sl ([.ref (ad 0), .int x1, .int x2])).length) Slot.unset).toArray = ls at hl ⊢
  exact wX12_isFull_0 C ⟨Nat.le_refl _, Nat.le_refl _⟩ u x1 x2 (lv_sub hl [0, 1, 2] rfl) S h
noncomputable def fX12_isFinal_51 (x1 : Int32) (x2 : Int32) (x4 : Int32) (t0 : Int32) (t1 : Int32) (t2 : Int32) (u : Sg) : Option Sg := obr (fX12_ofPair t2 t1 t0 u) (fun r9 => obr (fX12_lays x1 x2 5 0 u) (fun u11 => obr (fX12_ofPair x1 x2 6 u11) (fun r13 => cnd (r13 = 0) (some u11) (obr (fX12_putsAll x1 2 x2 x4 r9 u11) (fun u16 => some u16)))))
noncomputable def fX12_isFinal_32 (x1 : Int32) (x2 : Int32) (x3 : Int32) (t0 : Int32) (t1 : Int32) (t2 : Int32) (u : Sg) : Option Sg := obr (fX12_ofPair t2 t1 t0 u) (fun r6 => cnd (x3 = 0) (fX12_isFinal_51 x1 x2 r6 8 x2 x1 u) (fX12_isFinal_51 x1 x2 r6 10 x2 x1 u))
noncomputable def fX12_isFinal_17 (x1 : Int32) (x2 : Int32) (t0 : Int32) (u : Sg) : Option Sg := cnd (t0 = 0) (fX12_isFinal_32 x1 x2 t0 7 x2 x1 u) (fX12_isFinal_32 x1 x2 t0 9 x2 x1 u)
noncomputable def fX12_isFinal_0 (x1 : Int32) (x2 : Int32) (u : Sg) : Option Sg := obr (fX12_ofPair x1 x2 9 u) (fun r2 => cnd (r2 = (-1)) (fX12_isFinal_17 x1 x2 0 u) (fX12_isFinal_17 x1 x2 1 u))
noncomputable def fX12_isFinal (x1 : Int32) (x2 : Int32) (u : Sg) : Option Sg := fX12_isFinal_0 x1 x2 u
set_option maxRecDepth 10000 in
set_option maxHeartbeats 4000000 in
theorem wX12_isFinal_51 (C : cx D (tyl cI cB cL) A RX12 cX12_isFinal 6 none p s m args c meth) (hR : 6 ≤ R.frames ∧ 140 ≤ R.locals) {σ' : Sg} (u : Sg) (x1 : Int32) (x2 : Int32) (x4 : Int32) (t0 : Int32) (t1 : Int32) (t2 : Int32) {H : Heap} {locs : List Loc} {ls : Array Slot} (hl : lv_has ls 6 [(0, .ref (ad 0)), (1, .int x1), (2, .int x2), (4, .int x4)]) (S : st D (wM cI cB ad) A s u H locs) (h : fX12_isFinal_51 x1 x2 x4 t0 t1 t2 u = some σ') : W p l e R s m args below meth c H locs 0 0 (MQ below (qV D (tyl cI cB cL) (wM cI cB ad) A σ') args s 0 0 A) (F0 m 51 ls [.int t0, .int t1, .int t2, .ref (ad 0)]) := by
  have hx := C.1
  have hb := C.2.1
  have hsz := hl.1
  unfold fX12_isFinal_51 at h
  obtain ⟨r9, h8, h⟩ := obr_some h
  refine q_callVi (As := [.int t2, .int t1, .int t0]) (na := 3) C S (oM0 cI cB ad) rfl (ct_X12_ofPair l D cI cB cL ad t2 t1 t0 u h8) mw_126 mw_125 mw_127 mw_5 mw_124 hdX12_ofPair ⟨Nat.le_trans (Nat.le_of_ble_eq_true rfl) hR.1, Nat.le_trans (Nat.le_of_ble_eq_true rfl) hR.2⟩ rfl hsz ⟨Nat.zero_le _, Nat.zero_le _⟩ (Nat.le_of_ble_eq_true rfl) dX12_isFinal_51 rfl (fun H locs S => ?_)
  refine lv_istore (lv' := [(5, .int r9), (0, .ref (ad 0)), (1, .int x1), (2, .int x2), (4, .int x4)]) hx hb dX12_isFinal_54 hl (by decide) rfl (fun ls hl => ?_)
  have hsz := hl.1
  refine lv_aload_n hx hb dX12_isFinal_56 rfl (lv_at hl 1 rfl) ?_
  refine lv_iload_n hx hb dX12_isFinal_57 rfl (lv_at hl 2 rfl) ?_
  refine lv_iload_n hx hb dX12_isFinal_58 rfl (lv_at hl 3 rfl) ?_
  refine lv_iconst (v := 5) hx hb dX12_isFinal_59 (by decide) ?_
  refine lv_iconst (v := 0) hx hb dX12_isFinal_60 (by decide) ?_
  obtain ⟨u11, h10, h⟩ := obr_some h
  refine q_callVv (As := [.int x1, .int x2, .int 5, .int 0]) (na := 4) C S (oM0 cI cB ad) rfl (ct_X12_lays l D cI cB cL ad x1 x2 5 0 u h10) mw_110 mw_109 mw_111 mw_5 mw_108 hdX12_lays ⟨Nat.le_trans (Nat.le_of_ble_eq_true rfl) hR.1, Nat.le_trans (Nat.le_of_ble_eq_true rfl) hR.2⟩ rfl hsz ⟨Nat.zero_le _, Nat.zero_le _⟩ (Nat.le_of_ble_eq_true rfl) dX12_isFinal_61 rfl (fun H locs S => ?_)
  refine lv_aload_n hx hb dX12_isFinal_64 rfl (lv_at hl 1 rfl) ?_
  refine lv_iload_n hx hb dX12_isFinal_65 rfl (lv_at hl 2 rfl) ?_
  refine lv_iload_n hx hb dX12_isFinal_66 rfl (lv_at hl 3 rfl) ?_
  refine lv_bipush (v := 6) hx hb dX12_isFinal_67 (by decide) ?_
  obtain ⟨r13, h12, h⟩ := obr_some h
  refine q_callVi (As := [.int x1, .int x2, .int 6]) (na := 3) C S (oM0 cI cB ad) rfl (ct_X12_ofPair l D cI cB cL ad x1 x2 6 u11 h12) mw_126 mw_125 mw_127 mw_5 mw_124 hdX12_ofPair ⟨Nat.le_trans (Nat.le_of_ble_eq_true rfl) hR.1, Nat.le_trans (Nat.le_of_ble_eq_true rfl) hR.2⟩ rfl hsz ⟨Nat.zero_le _, Nat.zero_le _⟩ (Nat.le_of_ble_eq_true rfl) dX12_isFinal_69 rfl (fun H locs S => ?_)
  refine lv_if_eq (tgt := 86) hx hb dX12_isFinal_72 (by decide) (fun c14 => ?_) (fun c14 => ?_)
  · have h := cnd_t c14 h
    exact q_vret C S (Option.some.inj h) dX12_isFinal_86
  · have h := cnd_f c14 h
    refine lv_aload_n hx hb dX12_isFinal_75 rfl (lv_at hl 1 rfl) ?_
    refine lv_iload_n hx hb dX12_isFinal_76 rfl (lv_at hl 2 rfl) ?_
    refine lv_iconst (v := 2) hx hb dX12_isFinal_77 (by decide) ?_
    refine lv_iload_n hx hb dX12_isFinal_78 rfl (lv_at hl 3 rfl) ?_
    refine lv_iload hx hb dX12_isFinal_79 (lv_at hl 4 rfl) ?_
    refine lv_iload hx hb dX12_isFinal_81 (lv_at hl 0 rfl) ?_
    obtain ⟨u16, h15, h⟩ := obr_some h
    refine q_callVv (As := [.int x1, .int 2, .int x2, .int x4, .int r9]) (na := 5) C S (oM0 cI cB ad) rfl (ct_X12_putsAll l D cI cB cL ad x1 2 x2 x4 r9 u11 h15) mw_122 mw_121 mw_123 mw_5 mw_120 hdX12_putsAll ⟨Nat.le_trans (Nat.le_of_ble_eq_true rfl) hR.1, Nat.le_trans (Nat.le_of_ble_eq_true rfl) hR.2⟩ rfl hsz ⟨Nat.zero_le _, Nat.zero_le _⟩ (Nat.le_of_ble_eq_true rfl) dX12_isFinal_83 rfl (fun H locs S => ?_)
    exact q_vret C S (Option.some.inj h) dX12_isFinal_86
set_option maxRecDepth 10000 in
set_option maxHeartbeats 4000000 in
theorem wX12_isFinal_32 (C : cx D (tyl cI cB cL) A RX12 cX12_isFinal 6 none p s m args c meth) (hR : 6 ≤ R.frames ∧ 140 ≤ R.locals) {σ' : Sg} (u : Sg) (x1 : Int32) (x2 : Int32) (x3 : Int32) (t0 : Int32) (t1 : Int32) (t2 : Int32) {H : Heap} {locs : List Loc} {ls : Array Slot} (hl : lv_has ls 6 [(0, .ref (ad 0)), (1, .int x1), (2, .int x2), (3, .int x3)]) (S : st D (wM cI cB ad) A s u H locs) (h : fX12_isFinal_32 x1 x2 x3 t0 t1 t2 u = some σ') : W p l e R s m args below meth c H locs 0 0 (MQ below (qV D (tyl cI cB cL) (wM cI cB ad) A σ') args s 0 0 A) (F0 m 32 ls [.int t0, .int t1, .int t2, .ref (ad 0)]) := by
  have hx := C.1
  have hb := C.2.1
  have hsz := hl.1
  unfold fX12_isFinal_32 at h
  obtain ⟨r6, h5, h⟩ := obr_some h
  refine q_callVi (As := [.int t2, .int t1, .int t0]) (na := 3) C S (oM0 cI cB ad) rfl (ct_X12_ofPair l D cI cB cL ad t2 t1 t0 u h5) mw_126 mw_125 mw_127 mw_5 mw_124 hdX12_ofPair ⟨Nat.le_trans (Nat.le_of_ble_eq_true rfl) hR.1, Nat.le_trans (Nat.le_of_ble_eq_true rfl) hR.2⟩ rfl hsz ⟨Nat.zero_le _, Nat.zero_le _⟩ (Nat.le_of_ble_eq_true rfl) dX12_isFinal_32 rfl (fun H locs S => ?_)
  refine lv_istore (lv' := [(4, .int r6), (0, .ref (ad 0)), (1, .int x1), (2, .int x2), (3, .int x3)]) hx hb dX12_isFinal_35 hl (by decide) rfl (fun ls hl => ?_)
  have hsz := hl.1
  refine lv_aload_n hx hb dX12_isFinal_37 rfl (lv_at hl 1 rfl) ?_
  refine lv_iload_n hx hb dX12_isFinal_38 rfl (lv_at hl 2 rfl) ?_
  refine lv_iload_n hx hb dX12_isFinal_39 rfl (lv_at hl 3 rfl) ?_
  refine lv_iload_n hx hb dX12_isFinal_40 rfl (lv_at hl 4 rfl) ?_
  refine lv_if_eq (tgt := 49) hx hb dX12_isFinal_41 (by decide) (fun c7 => ?_) (fun c7 => ?_)
  · have h := cnd_t c7 h
    refine lv_bipush (v := 8) hx hb dX12_isFinal_49 (by decide) ?_
    exact wX12_isFinal_51 C hR u x1 x2 r6 8 x2 x1 (lv_sub hl [1, 2, 3, 0] rfl) S h
  · have h := cnd_f c7 h
    refine lv_bipush (v := 10) hx hb dX12_isFinal_44 (by decide) ?_
    refine lv_goto (tgt := 51) hx hb dX12_isFinal_46 (by decide) ?_
    exact wX12_isFinal_51 C hR u x1 x2 r6 10 x2 x1 (lv_sub hl [1, 2, 3, 0] rfl) S h
set_option maxRecDepth 10000 in
set_option maxHeartbeats 4000000 in
theorem wX12_isFinal_17 (C : cx D (tyl cI cB cL) A RX12 cX12_isFinal 6 none p s m args c meth) (hR : 6 ≤ R.frames ∧ 140 ≤ R.locals) {σ' : Sg} (u : Sg) (x1 : Int32) (x2 : Int32) (t0 : Int32) {H : Heap} {locs : List Loc} {ls : Array Slot} (hl : lv_has ls 6 [(0, .ref (ad 0)), (1, .int x1), (2, .int x2)]) (S : st D (wM cI cB ad) A s u H locs) (h : fX12_isFinal_17 x1 x2 t0 u = some σ') : W p l e R s m args below meth c H locs 0 0 (MQ below (qV D (tyl cI cB cL) (wM cI cB ad) A σ') args s 0 0 A) (F0 m 17 ls [.int t0]) := by
  have hx := C.1
  have hb := C.2.1
  have hsz := hl.1
  unfold fX12_isFinal_17 at h
  refine lv_istore_n (lv' := [(3, .int t0), (0, .ref (ad 0)), (1, .int x1), (2, .int x2)]) hx hb dX12_isFinal_17 rfl hl (by decide) rfl (fun ls hl => ?_)
  have hsz := hl.1
  refine lv_aload_n hx hb dX12_isFinal_18 rfl (lv_at hl 1 rfl) ?_
  refine lv_iload_n hx hb dX12_isFinal_19 rfl (lv_at hl 2 rfl) ?_
  refine lv_iload_n hx hb dX12_isFinal_20 rfl (lv_at hl 3 rfl) ?_
  refine lv_iload_n hx hb dX12_isFinal_21 rfl (lv_at hl 0 rfl) ?_
  refine lv_if_eq (tgt := 30) hx hb dX12_isFinal_22 (by decide) (fun c4 => ?_) (fun c4 => ?_)
  · have h := cnd_t c4 h
    refine lv_bipush (v := 7) hx hb dX12_isFinal_30 (by decide) ?_
    exact wX12_isFinal_32 C hR u x1 x2 t0 7 x2 x1 (lv_sub hl [1, 2, 3, 0] rfl) S h
  · have h := cnd_f c4 h
    refine lv_bipush (v := 9) hx hb dX12_isFinal_25 (by decide) ?_
    refine lv_goto (tgt := 32) hx hb dX12_isFinal_27 (by decide) ?_
    exact wX12_isFinal_32 C hR u x1 x2 t0 9 x2 x1 (lv_sub hl [1, 2, 3, 0] rfl) S h
set_option maxRecDepth 10000 in
set_option maxHeartbeats 4000000 in
theorem wX12_isFinal_0 (C : cx D (tyl cI cB cL) A RX12 cX12_isFinal 6 none p s m args c meth) (hR : 6 ≤ R.frames ∧ 140 ≤ R.locals) {σ' : Sg} (u : Sg) (x1 : Int32) (x2 : Int32) {H : Heap} {locs : List Loc} {ls : Array Slot} (hl : lv_has ls 6 [(0, .ref (ad 0)), (1, .int x1), (2, .int x2)]) (S : st D (wM cI cB ad) A s u H locs) (h : fX12_isFinal_0 x1 x2 u = some σ') : W p l e R s m args below meth c H locs 0 0 (MQ below (qV D (tyl cI cB cL) (wM cI cB ad) A σ') args s 0 0 A) (F0 m 0 ls []) := by
  have hx := C.1
  have hb := C.2.1
  have hsz := hl.1
  unfold fX12_isFinal_0 at h
  refine lv_aload_n hx hb dX12_isFinal_0 rfl (lv_at hl 0 rfl) ?_
  refine lv_iload_n hx hb dX12_isFinal_1 rfl (lv_at hl 1 rfl) ?_
  refine lv_iload_n hx hb dX12_isFinal_2 rfl (lv_at hl 2 rfl) ?_
  refine lv_bipush (v := 9) hx hb dX12_isFinal_3 (by decide) ?_
  obtain ⟨r2, h1, h⟩ := obr_some h
  refine q_callVi (As := [.int x1, .int x2, .int 9]) (na := 3) C S (oM0 cI cB ad) rfl (ct_X12_ofPair l D cI cB cL ad x1 x2 9 u h1) mw_126 mw_125 mw_127 mw_5 mw_124 hdX12_ofPair ⟨Nat.le_trans (Nat.le_of_ble_eq_true rfl) hR.1, Nat.le_trans (Nat.le_of_ble_eq_true rfl) hR.2⟩ rfl hsz ⟨Nat.zero_le _, Nat.zero_le _⟩ (Nat.le_of_ble_eq_true rfl) dX12_isFinal_5 rfl (fun H locs S => ?_)
  refine lv_iconst (v := (-1)) hx hb dX12_isFinal_8 (by decide) ?_
  refine lv_icmp_eq (tgt := 16) hx hb dX12_isFinal_9 (by decide) (fun c3 => ?_) (fun c3 => ?_)
  · have h := cnd_t c3 h
    refine lv_iconst (v := 0) hx hb dX12_isFinal_16 (by decide) ?_
    exact wX12_isFinal_17 C hR u x1 x2 0 (lv_sub hl [0, 1, 2] rfl) S h
  · have h := cnd_f c3 h
    refine lv_iconst (v := 1) hx hb dX12_isFinal_12 (by decide) ?_
    refine lv_goto (tgt := 17) hx hb dX12_isFinal_13 (by decide) ?_
    exact wX12_isFinal_17 C hR u x1 x2 1 (lv_sub hl [0, 1, 2] rfl) S h
set_option maxRecDepth 10000 in
set_option maxHeartbeats 4000000 in
theorem ct_X12_isFinal (l : Launch) (D : va_G) (cI cB cL : ClassId) (ad : Nat → Nat) (x1 : Int32) (x2 : Int32) (u : Sg) {σ' : Sg} (h : fX12_isFinal x1 x2 u = some σ') : metV l D (tyl cI cB cL) yX12_isFinal cX12_isFinal 6 6 140 (wM cI cB ad) [.ref (ad 0), .int x1, .int x2] u σ' := by
  intro sz
  refine Met.ofW (cc := cX12_isFinal) (maxL := 6) (ret := none) (by decide) rfl ?_
  intro p e s m args below meth c s₁ B hml hv
  obtain ⟨rfl, C, S⟩ := q_entry B hml hv
  have hl := lv_entry ([.ref (ad 0), .int x1, .int x2]) (n := 6) (Nat.le_of_ble_eq_true rfl)
  rw [lg_entry_eq]
  generalize (lg_sl ([.ref (ad 0), .int x1, .int x2]) ++ List.replicate (6 - (lg_sl ([.ref (ad 0), .int x1, .int x2])).length) Slot.unset).toArray = ls at hl ⊢
  exact wX12_isFinal_0 C ⟨Nat.le_refl _, Nat.le_refl _⟩ u x1 x2 (lv_sub hl [0, 1, 2] rfl) S h
end S_12_m02
