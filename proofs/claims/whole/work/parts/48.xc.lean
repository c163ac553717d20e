theorem mw_849 : Cond.fieldLink RX11 90 "LeastPending$Net" "clock" "[I" ∈ gw := gw_t2 78 rfl rfl
theorem mw_850 : Cond.fieldLink RX11 113 "LeastPending$Net" "puts" "[I" ∈ gw := gw_t2 80 rfl rfl
theorem mw_851 : Cond.methodLink RX11 116 yX7_isNoticed ∈ gw := gw_t4 70 rfl rfl
theorem mw_852 : Cond.methodLink RX11 148 yX0_deliveredBy ∈ gw := gw_t4 114 rfl rfl
theorem mw_853 : Cond.code yX0_gatherers cX0_gatherers 4 (some .int) ∈ gw := gw_t4 117 rfl rfl
theorem mw_854 : Cond.methodLink RX11 154 yX0_gatherers ∈ gw := gw_t4 115 rfl rfl
theorem mw_855 : Cond.static yX0_gatherers ∈ gw := gw_t4 116 rfl rfl
theorem mw_856 : Cond.code yX11_needWhat cX11_needWhat 3 none ∈ gw := gw_t4 132 rfl rfl
theorem mw_857 : Cond.methodLink RX11 159 yX11_needWhat ∈ gw := gw_t4 130 rfl rfl
theorem mw_858 : Cond.static yX11_needWhat ∈ gw := gw_t4 131 rfl rfl
theorem mw_859 : Cond.fieldLink RX11 172 "LeastPending$Holdings" "stamp" "[I" ∈ gw := gw_t1 190 rfl rfl
theorem mw_860 : Cond.code yX11_nodeOf cX11_nodeOf 1 (some .int) ∈ gw := gw_t4 140 rfl rfl
theorem mw_861 : Cond.static yX11_nodeOf ∈ gw := gw_t4 139 rfl rfl
theorem mw_862 : Cond.methodLink RX11 178 yX11_nodeOf ∈ gw := gw_t4 138 rfl rfl
theorem mw_863 : Cond.methodLink RX11 175 yX11_numberOf ∈ gw := gw_t4 135 rfl rfl
theorem mw_864 : Cond.fieldLink RX11 169 "LeastPending$Holdings" "leader" "[I" ∈ gw := gw_t1 193 rfl rfl
theorem mw_865 : Cond.fieldLink RX11 190 "LeastPending$Channels" "delay" "[I" ∈ gw := gw_t1 106 rfl rfl
theorem mw_866 : Cond.fieldLink RX11 198 "LeastPending$Channels" "size" "[I" ∈ gw := gw_t1 113 rfl rfl
theorem mw_867 : Cond.fieldLink RX11 201 "LeastPending$Channels" "last" "[I" ∈ gw := gw_t1 111 rfl rfl
theorem mw_868 : Cond.code yX1_cellAt cX1_cellAt 5 (some .int) ∈ gw := gw_t4 168 rfl rfl
theorem mw_869 : Cond.methodLink RX11 211 yX1_cellAt ∈ gw := gw_t4 165 rfl rfl
theorem mw_870 : Cond.instanceMethod yX1_cellAt ∈ gw := gw_t4 166 rfl rfl
theorem mw_871 : Cond.selects RX1 yX1_cellAt yX1_cellAt ∈ gw := gw_t4 167 rfl rfl
theorem mw_872 : Cond.fieldLink RX11 214 "LeastPending$Channels" "pool" "[I" ∈ gw := gw_t1 116 rfl rfl
theorem mw_873 : Cond.fieldLink RX11 219 "LeastPending$Net" "gathers" "LLeastPending$Gathers;" ∈ gw := gw_t2 93 rfl rfl
theorem mw_874 : Cond.methodLink RX11 223 yX3_isOn ∈ gw := gw_t4 178 rfl rfl
theorem mw_875 : Cond.fieldLink RX11 233 "LeastPending$Gathers" "heard" "[I" ∈ gw := gw_t1 228 rfl rfl
theorem mw_876 : Cond.fieldLink RX11 236 "LeastPending$Gathers" "greatest" "[I" ∈ gw := gw_t1 231 rfl rfl
theorem mw_877 : Cond.fieldLink RX11 239 "LeastPending$Gathers" "greatestFinal" "[I" ∈ gw := gw_t1 233 rfl rfl
theorem mw_878 : Cond.fieldLink RX11 345 "LeastPending$Events" "time" "[I" ∈ gw := gw_t2 13 rfl rfl
theorem mw_879 : Cond.methodLink RX11 348 yX2_isCrash ∈ gw := gw_t6 93 rfl rfl
theorem mw_880 : Cond.fieldLink RX11 351 "LeastPending$Events" "who" "[I" ∈ gw := gw_t2 16 rfl rfl
theorem mw_881 : Cond.fieldLink RX11 354 "LeastPending$Events" "toGroup" "[I" ∈ gw := gw_t2 19 rfl rfl
theorem mw_882 : Cond.code yX5_cell cX5_cell 4 (some .int) ∈ gw := gw_t6 105 rfl rfl
theorem mw_883 : Cond.methodLink RX11 368 yX5_cell ∈ gw := gw_t6 102 rfl rfl
theorem mw_884 : Cond.instanceMethod yX5_cell ∈ gw := gw_t6 103 rfl rfl
theorem mw_885 : Cond.selects RX5 yX5_cell yX5_cell ∈ gw := gw_t6 104 rfl rfl
theorem hdX0_gatherers : yX0_gatherers.cls ≠ "java/lang/invoke/MethodHandle" ∧ yX0_gatherers.cls ≠ "java/lang/invoke/VarHandle" ∧ (parseMethodDescriptor yX0_gatherers.desc).map (fun d => d.parameters.length) = some 2 := by decide +kernel
theorem hdX1_cellAt : yX1_cellAt.cls = RX1 ∧ yX1_cellAt.cls ≠ "java/lang/invoke/MethodHandle" ∧ yX1_cellAt.cls ≠ "java/lang/invoke/VarHandle" ∧ (parseMethodDescriptor yX1_cellAt.desc).map (fun d => d.parameters.length) = some 2 := by decide +kernel
theorem hdX5_cell : yX5_cell.cls = RX5 ∧ yX5_cell.cls ≠ "java/lang/invoke/MethodHandle" ∧ yX5_cell.cls ≠ "java/lang/invoke/VarHandle" ∧ (parseMethodDescriptor yX5_cell.desc).map (fun d => d.parameters.length) = some 2 := by decide +kernel
theorem hdX11_needWhat : yX11_needWhat.cls ≠ "java/lang/invoke/MethodHandle" ∧ yX11_needWhat.cls ≠ "java/lang/invoke/VarHandle" ∧ (parseMethodDescriptor yX11_needWhat.desc).map (fun d => d.parameters.length) = some 3 := by decide +kernel
theorem hdX11_nodeOf : yX11_nodeOf.cls ≠ "java/lang/invoke/MethodHandle" ∧ yX11_nodeOf.cls ≠ "java/lang/invoke/VarHandle" ∧ (parseMethodDescriptor yX11_nodeOf.desc).map (fun d => d.parameters.length) = some 1 := by decide +kernel
theorem dX11_node_0 : decode cX11_node 0 = .ok (.aload_n 0, 1) := by decide +kernel
theorem dX11_node_1 : decode cX11_node 1 = .ok (.iload_n 1, 1) := by decide +kernel
theorem dX11_node_2 : decode cX11_node 2 = .ok (.invokevirtual 83, 3) := by decide +kernel
theorem dX11_node_5 : decode cX11_node 5 = .ok (.iload_n 2, 1) := by decide +kernel
theorem dX11_node_6 : decode cX11_node 6 = .ok (.tableswitch 128 0 5 #[38, 55, 65, 88, 101, 111], 38) := by decide +kernel
theorem dX11_node_44 : decode cX11_node 44 = .ok (.aload_n 0, 1) := by decide +kernel
theorem dX11_node_45 : decode cX11_node 45 = .ok (.getfield 35, 3) := by decide +kernel
theorem dX11_node_48 : decode cX11_node 48 = .ok (.iload_n 1, 1) := by decide +kernel
theorem dX11_node_49 : decode cX11_node 49 = .ok (.invokevirtual 86, 3) := by decide +kernel
theorem dX11_node_52 : decode cX11_node 52 = .ok (.ifCond .eq 7, 3) := by decide +kernel
theorem dX11_node_55 : decode cX11_node 55 = .ok (.iconst 1, 1) := by decide +kernel
theorem dX11_node_56 : decode cX11_node 56 = .ok (.goto 4, 3) := by decide +kernel
theorem dX11_node_59 : decode cX11_node 59 = .ok (.iconst 0, 1) := by decide +kernel
theorem dX11_node_60 : decode cX11_node 60 = .ok (.ireturn, 1) := by decide +kernel
theorem dX11_node_61 : decode cX11_node 61 = .ok (.aload_n 0, 1) := by decide +kernel
theorem dX11_node_62 : decode cX11_node 62 = .ok (.getfield 35, 3) := by decide +kernel
theorem dX11_node_65 : decode cX11_node 65 = .ok (.getfield 90, 3) := by decide +kernel
theorem dX11_node_68 : decode cX11_node 68 = .ok (.iload_n 1, 1) := by decide +kernel
theorem dX11_node_69 : decode cX11_node 69 = .ok (.iaload, 1) := by decide +kernel
theorem dX11_node_70 : decode cX11_node 70 = .ok (.ireturn, 1) := by decide +kernel
theorem dX11_node_71 : decode cX11_node 71 = .ok (.aload_n 0, 1) := by decide +kernel
theorem dX11_node_72 : decode cX11_node 72 = .ok (.getfield 35, 3) := by decide +kernel
theorem dX11_node_75 : decode cX11_node 75 = .ok (.iload_n 1, 1) := by decide +kernel
theorem dX11_node_76 : decode cX11_node 76 = .ok (.iconst 1, 1) := by decide +kernel
theorem dX11_node_77 : decode cX11_node 77 = .ok (.invokevirtual 94, 3) := by decide +kernel
theorem dX11_node_80 : decode cX11_node 80 = .ok (.aload_n 0, 1) := by decide +kernel
theorem dX11_node_81 : decode cX11_node 81 = .ok (.getfield 35, 3) := by decide +kernel
theorem dX11_node_84 : decode cX11_node 84 = .ok (.iload_n 1, 1) := by decide +kernel
theorem dX11_node_85 : decode cX11_node 85 = .ok (.iconst 2, 1) := by decide +kernel
theorem dX11_node_86 : decode cX11_node 86 = .ok (.invokevirtual 94, 3) := by decide +kernel
theorem dX11_node_89 : decode cX11_node 89 = .ok (.ior, 1) := by decide +kernel
theorem dX11_node_90 : decode cX11_node 90 = .ok (.invokestatic 98, 3) := by decide +kernel
theorem dX11_node_93 : decode cX11_node 93 = .ok (.ireturn, 1) := by decide +kernel
theorem dX11_node_94 : decode cX11_node 94 = .ok (.aload_n 0, 1) := by decide +kernel
theorem dX11_node_95 : decode cX11_node 95 = .ok (.getfield 35, 3) := by decide +kernel
theorem dX11_node_98 : decode cX11_node 98 = .ok (.getfield 104, 3) := by decide +kernel
theorem dX11_node_101 : decode cX11_node 101 = .ok (.getfield 108, 3) := by decide +kernel
theorem dX11_node_104 : decode cX11_node 104 = .ok (.iload_n 1, 1) := by decide +kernel
theorem dX11_node_105 : decode cX11_node 105 = .ok (.iaload, 1) := by decide +kernel
theorem dX11_node_106 : decode cX11_node 106 = .ok (.ireturn, 1) := by decide +kernel
theorem dX11_node_107 : decode cX11_node 107 = .ok (.aload_n 0, 1) := by decide +kernel
theorem dX11_node_108 : decode cX11_node 108 = .ok (.getfield 35, 3) := by decide +kernel
theorem dX11_node_111 : decode cX11_node 111 = .ok (.getfield 113, 3) := by decide +kernel
theorem dX11_node_114 : decode cX11_node 114 = .ok (.iload_n 1, 1) := by decide +kernel
theorem dX11_node_115 : decode cX11_node 115 = .ok (.iaload, 1) := by decide +kernel
theorem dX11_node_116 : decode cX11_node 116 = .ok (.ireturn, 1) := by decide +kernel
theorem dX11_node_117 : decode cX11_node 117 = .ok (.aload_n 0, 1) := by decide +kernel
theorem dX11_node_118 : decode cX11_node 118 = .ok (.getfield 35, 3) := by decide +kernel
theorem dX11_node_121 : decode cX11_node 121 = .ok (.iload_n 1, 1) := by decide +kernel
theorem dX11_node_122 : decode cX11_node 122 = .ok (.invokevirtual 116, 3) := by decide +kernel
theorem dX11_node_125 : decode cX11_node 125 = .ok (.ifCond .eq 7, 3) := by decide +kernel
theorem dX11_node_128 : decode cX11_node 128 = .ok (.iconst 1, 1) := by decide +kernel
theorem dX11_node_129 : decode cX11_node 129 = .ok (.goto 4, 3) := by decide +kernel
theorem dX11_node_132 : decode cX11_node 132 = .ok (.iconst 0, 1) := by decide +kernel
theorem dX11_node_133 : decode cX11_node 133 = .ok (.ireturn, 1) := by decide +kernel
theorem dX11_node_134 : decode cX11_node 134 = .ok (.new 119, 3) := by decide +kernel
theorem dX11_node_137 : decode cX11_node 137 = .ok (.dup, 1) := by decide +kernel
theorem dX11_node_138 : decode cX11_node 138 = .ok (.ldc 121, 2) := by decide +kernel
theorem dX11_node_140 : decode cX11_node 140 = .ok (.invokespecial 123, 3) := by decide +kernel
theorem dX11_node_143 : decode cX11_node 143 = .ok (.athrow, 1) := by decide +kernel
theorem dX11_message_0 : decode cX11_message 0 = .ok (.aload_n 0, 1) := by decide +kernel
theorem dX11_message_1 : decode cX11_message 1 = .ok (.iload_n 1, 1) := by decide +kernel
theorem dX11_message_2 : decode cX11_message 2 = .ok (.invokevirtual 130, 3) := by decide +kernel
theorem dX11_message_5 : decode cX11_message 5 = .ok (.iload_n 2, 1) := by decide +kernel
theorem dX11_message_6 : decode cX11_message 6 = .ok (.tableswitch 91 0 4 #[34, 47, 60, 73, 82], 34) := by decide +kernel
theorem dX11_message_40 : decode cX11_message 40 = .ok (.aload_n 0, 1) := by decide +kernel
theorem dX11_message_41 : decode cX11_message 41 = .ok (.getfield 35, 3) := by decide +kernel
theorem dX11_message_44 : decode cX11_message 44 = .ok (.getfield 133, 3) := by decide +kernel
theorem dX11_message_47 : decode cX11_message 47 = .ok (.getfield 137, 3) := by decide +kernel
theorem dX11_message_50 : decode cX11_message 50 = .ok (.iload_n 1, 1) := by decide +kernel
theorem dX11_message_51 : decode cX11_message 51 = .ok (.iaload, 1) := by decide +kernel
theorem dX11_message_52 : decode cX11_message 52 = .ok (.ireturn, 1) := by decide +kernel
theorem dX11_message_53 : decode cX11_message 53 = .ok (.aload_n 0, 1) := by decide +kernel
theorem dX11_message_54 : decode cX11_message 54 = .ok (.getfield 35, 3) := by decide +kernel
theorem dX11_message_57 : decode cX11_message 57 = .ok (.getfield 133, 3) := by decide +kernel
theorem dX11_message_60 : decode cX11_message 60 = .ok (.getfield 142, 3) := by decide +kernel
theorem dX11_message_63 : decode cX11_message 63 = .ok (.iload_n 1, 1) := by decide +kernel
theorem dX11_message_64 : decode cX11_message 64 = .ok (.iaload, 1) := by decide +kernel
theorem dX11_message_65 : decode cX11_message 65 = .ok (.ireturn, 1) := by decide +kernel
theorem dX11_message_66 : decode cX11_message 66 = .ok (.aload_n 0, 1) := by decide +kernel
theorem dX11_message_67 : decode cX11_message 67 = .ok (.getfield 35, 3) := by decide +kernel
theorem dX11_message_70 : decode cX11_message 70 = .ok (.getfield 133, 3) := by decide +kernel
theorem dX11_message_73 : decode cX11_message 73 = .ok (.getfield 145, 3) := by decide +kernel
theorem dX11_message_76 : decode cX11_message 76 = .ok (.iload_n 1, 1) := by decide +kernel
theorem dX11_message_77 : decode cX11_message 77 = .ok (.iaload, 1) := by decide +kernel
theorem dX11_message_78 : decode cX11_message 78 = .ok (.ireturn, 1) := by decide +kernel
theorem dX11_message_79 : decode cX11_message 79 = .ok (.aload_n 0, 1) := by decide +kernel
theorem dX11_message_80 : decode cX11_message 80 = .ok (.getfield 35, 3) := by decide +kernel
theorem dX11_message_83 : decode cX11_message 83 = .ok (.iload_n 1, 1) := by decide +kernel
theorem dX11_message_84 : decode cX11_message 84 = .ok (.invokestatic 148, 3) := by decide +kernel
theorem dX11_message_87 : decode cX11_message 87 = .ok (.ireturn, 1) := by decide +kernel
theorem dX11_message_88 : decode cX11_message 88 = .ok (.aload_n 0, 1) := by decide +kernel
theorem dX11_message_89 : decode cX11_message 89 = .ok (.getfield 35, 3) := by decide +kernel
theorem dX11_message_92 : decode cX11_message 92 = .ok (.iload_n 1, 1) := by decide +kernel
theorem dX11_message_93 : decode cX11_message 93 = .ok (.invokestatic 154, 3) := by decide +kernel
theorem dX11_message_96 : decode cX11_message 96 = .ok (.ireturn, 1) := by decide +kernel
theorem dX11_message_97 : decode cX11_message 97 = .ok (.new 119, 3) := by decide +kernel
theorem dX11_message_100 : decode cX11_message 100 = .ok (.dup, 1) := by decide +kernel
theorem dX11_message_101 : decode cX11_message 101 = .ok (.ldc 157, 2) := by decide +kernel
theorem dX11_message_103 : decode cX11_message 103 = .ok (.invokespecial 123, 3) := by decide +kernel
theorem dX11_message_106 : decode cX11_message 106 = .ok (.athrow, 1) := by decide +kernel
theorem dX11_needWhat_0 : decode cX11_needWhat 0 = .ok (.iload_n 0, 1) := by decide +kernel
theorem dX11_needWhat_1 : decode cX11_needWhat 1 = .ok (.iload_n 1, 1) := by decide +kernel
theorem dX11_needWhat_2 : decode cX11_needWhat 2 = .ok (.if_icmp .lt 8, 3) := by decide +kernel
theorem dX11_needWhat_5 : decode cX11_needWhat 5 = .ok (.iload_n 0, 1) := by decide +kernel
theorem dX11_needWhat_6 : decode cX11_needWhat 6 = .ok (.iload_n 2, 1) := by decide +kernel
theorem dX11_needWhat_7 : decode cX11_needWhat 7 = .ok (.if_icmp .le 14, 3) := by decide +kernel
theorem dX11_needWhat_10 : decode cX11_needWhat 10 = .ok (.new 119, 3) := by decide +kernel
theorem dX11_needWhat_13 : decode cX11_needWhat 13 = .ok (.dup, 1) := by decide +kernel
theorem dX11_needWhat_14 : decode cX11_needWhat 14 = .ok (.ldc_w 400, 3) := by decide +kernel
theorem dX11_needWhat_17 : decode cX11_needWhat 17 = .ok (.invokespecial 123, 3) := by decide +kernel
theorem dX11_needWhat_20 : decode cX11_needWhat 20 = .ok (.athrow, 1) := by decide +kernel
theorem dX11_needWhat_21 : decode cX11_needWhat 21 = .ok (.return_, 1) := by decide +kernel
theorem dX11_has_0 : decode cX11_has 0 = .ok (.aload_n 0, 1) := by decide +kernel
theorem dX11_has_1 : decode cX11_has 1 = .ok (.iload_n 1, 1) := by decide +kernel
theorem dX11_has_2 : decode cX11_has 2 = .ok (.invokevirtual 83, 3) := by decide +kernel
theorem dX11_has_5 : decode cX11_has 5 = .ok (.aload_n 0, 1) := by decide +kernel
theorem dX11_has_6 : decode cX11_has 6 = .ok (.iload_n 2, 1) := by decide +kernel
theorem dX11_has_7 : decode cX11_has 7 = .ok (.invokevirtual 130, 3) := by decide +kernel
theorem dX11_has_10 : decode cX11_has 10 = .ok (.iload_n 3, 1) := by decide +kernel
theorem dX11_has_11 : decode cX11_has 11 = .ok (.iconst 0, 1) := by decide +kernel
theorem dX11_has_12 : decode cX11_has 12 = .ok (.iconst 3, 1) := by decide +kernel
theorem dX11_has_13 : decode cX11_has 13 = .ok (.invokestatic 159, 3) := by decide +kernel
theorem dX11_has_16 : decode cX11_has 16 = .ok (.iload_n 1, 1) := by decide +kernel
theorem dX11_has_17 : decode cX11_has 17 = .ok (.iload_n 2, 1) := by decide +kernel
theorem dX11_has_18 : decode cX11_has 18 = .ok (.invokestatic 163, 3) := by decide +kernel
theorem dX11_has_21 : decode cX11_has 21 = .ok (.istore 4, 2) := by decide +kernel
theorem dX11_has_23 : decode cX11_has 23 = .ok (.aload_n 0, 1) := by decide +kernel
theorem dX11_has_24 : decode cX11_has 24 = .ok (.getfield 35, 3) := by decide +kernel
theorem dX11_has_27 : decode cX11_has 27 = .ok (.getfield 104, 3) := by decide +kernel
theorem dX11_has_30 : decode cX11_has 30 = .ok (.getfield 166, 3) := by decide +kernel
theorem dX11_has_33 : decode cX11_has 33 = .ok (.iload 4, 2) := by decide +kernel
theorem dX11_has_35 : decode cX11_has 35 = .ok (.iaload, 1) := by decide +kernel
theorem dX11_has_36 : decode cX11_has 36 = .ok (.istore 5, 2) := by decide +kernel
theorem dX11_has_38 : decode cX11_has 38 = .ok (.iload_n 3, 1) := by decide +kernel
theorem dX11_has_39 : decode cX11_has 39 = .ok (.ifCond .ne 6, 3) := by decide +kernel
theorem dX11_has_42 : decode cX11_has 42 = .ok (.iload 5, 2) := by decide +kernel
theorem dX11_has_44 : decode cX11_has 44 = .ok (.ireturn, 1) := by decide +kernel
theorem dX11_has_45 : decode cX11_has 45 = .ok (.iload 5, 2) := by decide +kernel
theorem dX11_has_47 : decode cX11_has 47 = .ok (.ifCond .ne 5, 3) := by decide +kernel
theorem dX11_has_50 : decode cX11_has 50 = .ok (.iconst (-1), 1) := by decide +kernel
theorem dX11_has_51 : decode cX11_has 51 = .ok (.ireturn, 1) := by decide +kernel
theorem dX11_has_52 : decode cX11_has 52 = .ok (.iload_n 3, 1) := by decide +kernel
theorem dX11_has_53 : decode cX11_has 53 = .ok (.iconst 3, 1) := by decide +kernel
theorem dX11_has_54 : decode cX11_has 54 = .ok (.if_icmp .ne 17, 3) := by decide +kernel
theorem dX11_has_57 : decode cX11_has 57 = .ok (.aload_n 0, 1) := by decide +kernel
theorem dX11_has_58 : decode cX11_has 58 = .ok (.getfield 35, 3) := by decide +kernel
theorem dX11_has_61 : decode cX11_has 61 = .ok (.getfield 104, 3) := by decide +kernel
theorem dX11_has_64 : decode cX11_has 64 = .ok (.getfield 169, 3) := by decide +kernel
theorem dX11_has_67 : decode cX11_has 67 = .ok (.iload 4, 2) := by decide +kernel
theorem dX11_has_69 : decode cX11_has 69 = .ok (.iaload, 1) := by decide +kernel
theorem dX11_has_70 : decode cX11_has 70 = .ok (.ireturn, 1) := by decide +kernel
theorem dX11_has_71 : decode cX11_has 71 = .ok (.aload_n 0, 1) := by decide +kernel
theorem dX11_has_72 : decode cX11_has 72 = .ok (.getfield 35, 3) := by decide +kernel
theorem dX11_has_75 : decode cX11_has 75 = .ok (.getfield 104, 3) := by decide +kernel
theorem dX11_has_78 : decode cX11_has 78 = .ok (.getfield 172, 3) := by decide +kernel
theorem dX11_has_81 : decode cX11_has 81 = .ok (.iload 4, 2) := by decide +kernel
theorem dX11_has_83 : decode cX11_has 83 = .ok (.iaload, 1) := by decide +kernel
theorem dX11_has_84 : decode cX11_has 84 = .ok (.istore 6, 2) := by decide +kernel
theorem dX11_has_86 : decode cX11_has 86 = .ok (.iload_n 3, 1) := by decide +kernel
theorem dX11_has_87 : decode cX11_has 87 = .ok (.iconst 1, 1) := by decide +kernel
theorem dX11_has_88 : decode cX11_has 88 = .ok (.if_icmp .ne 11, 3) := by decide +kernel
theorem dX11_has_91 : decode cX11_has 91 = .ok (.iload 6, 2) := by decide +kernel
theorem dX11_has_93 : decode cX11_has 93 = .ok (.invokestatic 175, 3) := by decide +kernel
theorem dX11_has_96 : decode cX11_has 96 = .ok (.goto 8, 3) := by decide +kernel
theorem dX11_has_99 : decode cX11_has 99 = .ok (.iload 6, 2) := by decide +kernel
theorem dX11_has_101 : decode cX11_has 101 = .ok (.invokestatic 178, 3) := by decide +kernel
theorem dX11_has_104 : decode cX11_has 104 = .ok (.ireturn, 1) := by decide +kernel
theorem dX11_channel_0 : decode cX11_channel 0 = .ok (.aload_n 0, 1) := by decide +kernel
theorem dX11_channel_1 : decode cX11_channel 1 = .ok (.iload_n 1, 1) := by decide +kernel
theorem dX11_channel_2 : decode cX11_channel 2 = .ok (.invokevirtual 83, 3) := by decide +kernel
theorem dX11_channel_5 : decode cX11_channel 5 = .ok (.aload_n 0, 1) := by decide +kernel
theorem dX11_channel_6 : decode cX11_channel 6 = .ok (.iload_n 2, 1) := by decide +kernel
theorem dX11_channel_7 : decode cX11_channel 7 = .ok (.invokevirtual 83, 3) := by decide +kernel
theorem dX11_channel_10 : decode cX11_channel 10 = .ok (.iload_n 1, 1) := by decide +kernel
theorem dX11_channel_11 : decode cX11_channel 11 = .ok (.iload_n 2, 1) := by decide +kernel
theorem dX11_channel_12 : decode cX11_channel 12 = .ok (.invokestatic 183, 3) := by decide +kernel
theorem dX11_channel_15 : decode cX11_channel 15 = .ok (.istore 4, 2) := by decide +kernel
theorem dX11_channel_17 : decode cX11_channel 17 = .ok (.iload_n 3, 1) := by decide +kernel
theorem dX11_channel_18 : decode cX11_channel 18 = .ok (.tableswitch 86 0 3 #[30, 44, 58, 72], 30) := by decide +kernel
theorem dX11_channel_48 : decode cX11_channel 48 = .ok (.aload_n 0, 1) := by decide +kernel
theorem dX11_channel_49 : decode cX11_channel 49 = .ok (.getfield 35, 3) := by decide +kernel
theorem dX11_channel_52 : decode cX11_channel 52 = .ok (.getfield 186, 3) := by decide +kernel
theorem dX11_channel_55 : decode cX11_channel 55 = .ok (.getfield 190, 3) := by decide +kernel
theorem dX11_channel_58 : decode cX11_channel 58 = .ok (.iload 4, 2) := by decide +kernel
theorem dX11_channel_60 : decode cX11_channel 60 = .ok (.iaload, 1) := by decide +kernel
theorem dX11_channel_61 : decode cX11_channel 61 = .ok (.ireturn, 1) := by decide +kernel
theorem dX11_channel_62 : decode cX11_channel 62 = .ok (.aload_n 0, 1) := by decide +kernel
theorem dX11_channel_63 : decode cX11_channel 63 = .ok (.getfield 35, 3) := by decide +kernel
theorem dX11_channel_66 : decode cX11_channel 66 = .ok (.getfield 186, 3) := by decide +kernel
theorem dX11_channel_69 : decode cX11_channel 69 = .ok (.getfield 195, 3) := by decide +kernel
theorem dX11_channel_72 : decode cX11_channel 72 = .ok (.iload 4, 2) := by decide +kernel
theorem dX11_channel_74 : decode cX11_channel 74 = .ok (.iaload, 1) := by decide +kernel
theorem dX11_channel_75 : decode cX11_channel 75 = .ok (.ireturn, 1) := by decide +kernel
theorem dX11_channel_76 : decode cX11_channel 76 = .ok (.aload_n 0, 1) := by decide +kernel
theorem dX11_channel_77 : decode cX11_channel 77 = .ok (.getfield 35, 3) := by decide +kernel
theorem dX11_channel_80 : decode cX11_channel 80 = .ok (.getfield 186, 3) := by decide +kernel
theorem dX11_channel_83 : decode cX11_channel 83 = .ok (.getfield 198, 3) := by decide +kernel
theorem dX11_channel_86 : decode cX11_channel 86 = .ok (.iload 4, 2) := by decide +kernel
theorem dX11_channel_88 : decode cX11_channel 88 = .ok (.iaload, 1) := by decide +kernel
theorem dX11_channel_89 : decode cX11_channel 89 = .ok (.ireturn, 1) := by decide +kernel
theorem dX11_channel_90 : decode cX11_channel 90 = .ok (.aload_n 0, 1) := by decide +kernel
theorem dX11_channel_91 : decode cX11_channel 91 = .ok (.getfield 35, 3) := by decide +kernel
theorem dX11_channel_94 : decode cX11_channel 94 = .ok (.getfield 186, 3) := by decide +kernel
theorem dX11_channel_97 : decode cX11_channel 97 = .ok (.getfield 201, 3) := by decide +kernel
theorem dX11_channel_100 : decode cX11_channel 100 = .ok (.iload 4, 2) := by decide +kernel
theorem dX11_channel_102 : decode cX11_channel 102 = .ok (.iaload, 1) := by decide +kernel
theorem dX11_channel_103 : decode cX11_channel 103 = .ok (.ireturn, 1) := by decide +kernel
theorem dX11_channel_104 : decode cX11_channel 104 = .ok (.new 119, 3) := by decide +kernel
theorem dX11_channel_107 : decode cX11_channel 107 = .ok (.dup, 1) := by decide +kernel
theorem dX11_channel_108 : decode cX11_channel 108 = .ok (.ldc 204, 2) := by decide +kernel
theorem dX11_channel_110 : decode cX11_channel 110 = .ok (.invokespecial 123, 3) := by decide +kernel
theorem dX11_channel_113 : decode cX11_channel 113 = .ok (.athrow, 1) := by decide +kernel
theorem dX11_packet_0 : decode cX11_packet 0 = .ok (.aload_n 0, 1) := by decide +kernel
theorem dX11_packet_1 : decode cX11_packet 1 = .ok (.iload_n 1, 1) := by decide +kernel
theorem dX11_packet_2 : decode cX11_packet 2 = .ok (.invokevirtual 83, 3) := by decide +kernel
theorem dX11_packet_5 : decode cX11_packet 5 = .ok (.aload_n 0, 1) := by decide +kernel
theorem dX11_packet_6 : decode cX11_packet 6 = .ok (.iload_n 2, 1) := by decide +kernel
theorem dX11_packet_7 : decode cX11_packet 7 = .ok (.invokevirtual 83, 3) := by decide +kernel
theorem dX11_packet_10 : decode cX11_packet 10 = .ok (.iload_n 1, 1) := by decide +kernel
theorem dX11_packet_11 : decode cX11_packet 11 = .ok (.iload_n 2, 1) := by decide +kernel
theorem dX11_packet_12 : decode cX11_packet 12 = .ok (.invokestatic 183, 3) := by decide +kernel
theorem dX11_packet_15 : decode cX11_packet 15 = .ok (.istore 5, 2) := by decide +kernel
theorem dX11_packet_17 : decode cX11_packet 17 = .ok (.iload_n 3, 1) := by decide +kernel
theorem dX11_packet_18 : decode cX11_packet 18 = .ok (.ifCond .lt 20, 3) := by decide +kernel
theorem dX11_packet_21 : decode cX11_packet 21 = .ok (.iload_n 3, 1) := by decide +kernel
theorem dX11_packet_22 : decode cX11_packet 22 = .ok (.aload_n 0, 1) := by decide +kernel
theorem dX11_packet_23 : decode cX11_packet 23 = .ok (.getfield 35, 3) := by decide +kernel
theorem dX11_packet_26 : decode cX11_packet 26 = .ok (.getfield 186, 3) := by decide +kernel
theorem dX11_packet_29 : decode cX11_packet 29 = .ok (.getfield 198, 3) := by decide +kernel
theorem dX11_packet_32 : decode cX11_packet 32 = .ok (.iload 5, 2) := by decide +kernel
theorem dX11_packet_34 : decode cX11_packet 34 = .ok (.iaload, 1) := by decide +kernel
theorem dX11_packet_35 : decode cX11_packet 35 = .ok (.if_icmp .lt 13, 3) := by decide +kernel
theorem dX11_packet_38 : decode cX11_packet 38 = .ok (.new 206, 3) := by decide +kernel
theorem dX11_packet_41 : decode cX11_packet 41 = .ok (.dup, 1) := by decide +kernel
theorem dX11_packet_42 : decode cX11_packet 42 = .ok (.ldc 208, 2) := by decide +kernel
theorem dX11_packet_44 : decode cX11_packet 44 = .ok (.invokespecial 210, 3) := by decide +kernel
theorem dX11_packet_47 : decode cX11_packet 47 = .ok (.athrow, 1) := by decide +kernel
theorem dX11_packet_48 : decode cX11_packet 48 = .ok (.aload_n 0, 1) := by decide +kernel
theorem dX11_packet_49 : decode cX11_packet 49 = .ok (.getfield 35, 3) := by decide +kernel
theorem dX11_packet_52 : decode cX11_packet 52 = .ok (.getfield 186, 3) := by decide +kernel
theorem dX11_packet_55 : decode cX11_packet 55 = .ok (.iload 5, 2) := by decide +kernel
theorem dX11_packet_57 : decode cX11_packet 57 = .ok (.iload_n 3, 1) := by decide +kernel
theorem dX11_packet_58 : decode cX11_packet 58 = .ok (.invokevirtual 211, 3) := by decide +kernel
theorem dX11_packet_61 : decode cX11_packet 61 = .ok (.istore 6, 2) := by decide +kernel
theorem dX11_packet_63 : decode cX11_packet 63 = .ok (.iload 4, 2) := by decide +kernel
theorem dX11_packet_65 : decode cX11_packet 65 = .ok (.tableswitch 121 0 4 #[35, 51, 67, 83, 102], 35) := by decide +kernel
theorem dX11_packet_100 : decode cX11_packet 100 = .ok (.aload_n 0, 1) := by decide +kernel
theorem dX11_packet_101 : decode cX11_packet 101 = .ok (.getfield 35, 3) := by decide +kernel
theorem dX11_packet_104 : decode cX11_packet 104 = .ok (.getfield 186, 3) := by decide +kernel
theorem dX11_packet_107 : decode cX11_packet 107 = .ok (.getfield 214, 3) := by decide +kernel
theorem dX11_packet_110 : decode cX11_packet 110 = .ok (.iload 6, 2) := by decide +kernel
theorem dX11_packet_112 : decode cX11_packet 112 = .ok (.iconst 0, 1) := by decide +kernel
theorem dX11_packet_113 : decode cX11_packet 113 = .ok (.iadd, 1) := by decide +kernel
theorem dX11_packet_114 : decode cX11_packet 114 = .ok (.iaload, 1) := by decide +kernel
theorem dX11_packet_115 : decode cX11_packet 115 = .ok (.ireturn, 1) := by decide +kernel
theorem dX11_packet_116 : decode cX11_packet 116 = .ok (.aload_n 0, 1) := by decide +kernel
theorem dX11_packet_117 : decode cX11_packet 117 = .ok (.getfield 35, 3) := by decide +kernel
theorem dX11_packet_120 : decode cX11_packet 120 = .ok (.getfield 186, 3) := by decide +kernel
theorem dX11_packet_123 : decode cX11_packet 123 = .ok (.getfield 214, 3) := by decide +kernel
theorem dX11_packet_126 : decode cX11_packet 126 = .ok (.iload 6, 2) := by decide +kernel
theorem dX11_packet_128 : decode cX11_packet 128 = .ok (.iconst 1, 1) := by decide +kernel
theorem dX11_packet_129 : decode cX11_packet 129 = .ok (.iadd, 1) := by decide +kernel
theorem dX11_packet_130 : decode cX11_packet 130 = .ok (.iaload, 1) := by decide +kernel
theorem dX11_packet_131 : decode cX11_packet 131 = .ok (.ireturn, 1) := by decide +kernel
theorem dX11_packet_132 : decode cX11_packet 132 = .ok (.aload_n 0, 1) := by decide +kernel
theorem dX11_packet_133 : decode cX11_packet 133 = .ok (.getfield 35, 3) := by decide +kernel
theorem dX11_packet_136 : decode cX11_packet 136 = .ok (.getfield 186, 3) := by decide +kernel
theorem dX11_packet_139 : decode cX11_packet 139 = .ok (.getfield 214, 3) := by decide +kernel
theorem dX11_packet_142 : decode cX11_packet 142 = .ok (.iload 6, 2) := by decide +kernel
theorem dX11_packet_144 : decode cX11_packet 144 = .ok (.iconst 2, 1) := by decide +kernel
theorem dX11_packet_145 : decode cX11_packet 145 = .ok (.iadd, 1) := by decide +kernel
theorem dX11_packet_146 : decode cX11_packet 146 = .ok (.iaload, 1) := by decide +kernel
theorem dX11_packet_147 : decode cX11_packet 147 = .ok (.ireturn, 1) := by decide +kernel
theorem dX11_packet_148 : decode cX11_packet 148 = .ok (.aload_n 0, 1) := by decide +kernel
theorem dX11_packet_149 : decode cX11_packet 149 = .ok (.getfield 35, 3) := by decide +kernel
theorem dX11_packet_152 : decode cX11_packet 152 = .ok (.getfield 186, 3) := by decide +kernel
theorem dX11_packet_155 : decode cX11_packet 155 = .ok (.getfield 214, 3) := by decide +kernel
theorem dX11_packet_158 : decode cX11_packet 158 = .ok (.iload 6, 2) := by decide +kernel
theorem dX11_packet_160 : decode cX11_packet 160 = .ok (.iconst 3, 1) := by decide +kernel
theorem dX11_packet_161 : decode cX11_packet 161 = .ok (.iadd, 1) := by decide +kernel
theorem dX11_packet_162 : decode cX11_packet 162 = .ok (.iaload, 1) := by decide +kernel
theorem dX11_packet_163 : decode cX11_packet 163 = .ok (.invokestatic 175, 3) := by decide +kernel
theorem dX11_packet_166 : decode cX11_packet 166 = .ok (.ireturn, 1) := by decide +kernel
theorem dX11_packet_167 : decode cX11_packet 167 = .ok (.aload_n 0, 1) := by decide +kernel
theorem dX11_packet_168 : decode cX11_packet 168 = .ok (.getfield 35, 3) := by decide +kernel
theorem dX11_packet_171 : decode cX11_packet 171 = .ok (.getfield 186, 3) := by decide +kernel
theorem dX11_packet_174 : decode cX11_packet 174 = .ok (.getfield 214, 3) := by decide +kernel
theorem dX11_packet_177 : decode cX11_packet 177 = .ok (.iload 6, 2) := by decide +kernel
theorem dX11_packet_179 : decode cX11_packet 179 = .ok (.iconst 3, 1) := by decide +kernel
theorem dX11_packet_180 : decode cX11_packet 180 = .ok (.iadd, 1) := by decide +kernel
theorem dX11_packet_181 : decode cX11_packet 181 = .ok (.iaload, 1) := by decide +kernel
theorem dX11_packet_182 : decode cX11_packet 182 = .ok (.invokestatic 178, 3) := by decide +kernel
theorem dX11_packet_185 : decode cX11_packet 185 = .ok (.ireturn, 1) := by decide +kernel
theorem dX11_packet_186 : decode cX11_packet 186 = .ok (.new 119, 3) := by decide +kernel
theorem dX11_packet_189 : decode cX11_packet 189 = .ok (.dup, 1) := by decide +kernel
theorem dX11_packet_190 : decode cX11_packet 190 = .ok (.ldc 217, 2) := by decide +kernel
theorem dX11_packet_192 : decode cX11_packet 192 = .ok (.invokespecial 123, 3) := by decide +kernel
theorem dX11_packet_195 : decode cX11_packet 195 = .ok (.athrow, 1) := by decide +kernel
theorem dX11_gather_0 : decode cX11_gather 0 = .ok (.aload_n 0, 1) := by decide +kernel
theorem dX11_gather_1 : decode cX11_gather 1 = .ok (.iload_n 1, 1) := by decide +kernel
theorem dX11_gather_2 : decode cX11_gather 2 = .ok (.invokevirtual 83, 3) := by decide +kernel
theorem dX11_gather_5 : decode cX11_gather 5 = .ok (.aload_n 0, 1) := by decide +kernel
theorem dX11_gather_6 : decode cX11_gather 6 = .ok (.iload_n 2, 1) := by decide +kernel
theorem dX11_gather_7 : decode cX11_gather 7 = .ok (.invokevirtual 130, 3) := by decide +kernel
theorem dX11_gather_10 : decode cX11_gather 10 = .ok (.iload_n 1, 1) := by decide +kernel
theorem dX11_gather_11 : decode cX11_gather 11 = .ok (.iload_n 2, 1) := by decide +kernel
theorem dX11_gather_12 : decode cX11_gather 12 = .ok (.invokestatic 163, 3) := by decide +kernel
theorem dX11_gather_15 : decode cX11_gather 15 = .ok (.istore 4, 2) := by decide +kernel
theorem dX11_gather_17 : decode cX11_gather 17 = .ok (.aload_n 0, 1) := by decide +kernel
theorem dX11_gather_18 : decode cX11_gather 18 = .ok (.getfield 35, 3) := by decide +kernel
theorem dX11_gather_21 : decode cX11_gather 21 = .ok (.getfield 219, 3) := by decide +kernel
theorem dX11_gather_24 : decode cX11_gather 24 = .ok (.iload 4, 2) := by decide +kernel
theorem dX11_gather_26 : decode cX11_gather 26 = .ok (.invokevirtual 223, 3) := by decide +kernel
theorem dX11_gather_29 : decode cX11_gather 29 = .ok (.ifCond .ne 13, 3) := by decide +kernel
theorem dX11_gather_32 : decode cX11_gather 32 = .ok (.new 228, 3) := by decide +kernel
theorem dX11_gather_35 : decode cX11_gather 35 = .ok (.dup, 1) := by decide +kernel
theorem dX11_gather_36 : decode cX11_gather 36 = .ok (.ldc 230, 2) := by decide +kernel
theorem dX11_gather_38 : decode cX11_gather 38 = .ok (.invokespecial 232, 3) := by decide +kernel
theorem dX11_gather_41 : decode cX11_gather 41 = .ok (.athrow, 1) := by decide +kernel
theorem dX11_gather_42 : decode cX11_gather 42 = .ok (.iload_n 3, 1) := by decide +kernel
theorem dX11_gather_43 : decode cX11_gather 43 = .ok (.tableswitch 94 0 3 #[29, 43, 60, 77], 29) := by decide +kernel
theorem dX11_gather_72 : decode cX11_gather 72 = .ok (.aload_n 0, 1) := by decide +kernel
theorem dX11_gather_73 : decode cX11_gather 73 = .ok (.getfield 35, 3) := by decide +kernel
theorem dX11_gather_76 : decode cX11_gather 76 = .ok (.getfield 219, 3) := by decide +kernel
theorem dX11_gather_79 : decode cX11_gather 79 = .ok (.getfield 233, 3) := by decide +kernel
theorem dX11_gather_82 : decode cX11_gather 82 = .ok (.iload 4, 2) := by decide +kernel
theorem dX11_gather_84 : decode cX11_gather 84 = .ok (.iaload, 1) := by decide +kernel
theorem dX11_gather_85 : decode cX11_gather 85 = .ok (.ireturn, 1) := by decide +kernel
theorem dX11_gather_86 : decode cX11_gather 86 = .ok (.aload_n 0, 1) := by decide +kernel
theorem dX11_gather_87 : decode cX11_gather 87 = .ok (.getfield 35, 3) := by decide +kernel
theorem dX11_gather_90 : decode cX11_gather 90 = .ok (.getfield 219, 3) := by decide +kernel
theorem dX11_gather_93 : decode cX11_gather 93 = .ok (.getfield 236, 3) := by decide +kernel
theorem dX11_gather_96 : decode cX11_gather 96 = .ok (.iload 4, 2) := by decide +kernel
theorem dX11_gather_98 : decode cX11_gather 98 = .ok (.iaload, 1) := by decide +kernel
theorem dX11_gather_99 : decode cX11_gather 99 = .ok (.invokestatic 175, 3) := by decide +kernel
theorem dX11_gather_102 : decode cX11_gather 102 = .ok (.ireturn, 1) := by decide +kernel
theorem dX11_gather_103 : decode cX11_gather 103 = .ok (.aload_n 0, 1) := by decide +kernel
theorem dX11_gather_104 : decode cX11_gather 104 = .ok (.getfield 35, 3) := by decide +kernel
theorem dX11_gather_107 : decode cX11_gather 107 = .ok (.getfield 219, 3) := by decide +kernel
theorem dX11_gather_110 : decode cX11_gather 110 = .ok (.getfield 236, 3) := by decide +kernel
theorem dX11_gather_113 : decode cX11_gather 113 = .ok (.iload 4, 2) := by decide +kernel
theorem dX11_gather_115 : decode cX11_gather 115 = .ok (.iaload, 1) := by decide +kernel
theorem dX11_gather_116 : decode cX11_gather 116 = .ok (.invokestatic 178, 3) := by decide +kernel
theorem dX11_gather_119 : decode cX11_gather 119 = .ok (.ireturn, 1) := by decide +kernel
theorem dX11_gather_120 : decode cX11_gather 120 = .ok (.aload_n 0, 1) := by decide +kernel
theorem dX11_gather_121 : decode cX11_gather 121 = .ok (.getfield 35, 3) := by decide +kernel
theorem dX11_gather_124 : decode cX11_gather 124 = .ok (.getfield 219, 3) := by decide +kernel
theorem dX11_gather_127 : decode cX11_gather 127 = .ok (.getfield 239, 3) := by decide +kernel
theorem dX11_gather_130 : decode cX11_gather 130 = .ok (.iload 4, 2) := by decide +kernel
theorem dX11_gather_132 : decode cX11_gather 132 = .ok (.iaload, 1) := by decide +kernel
theorem dX11_gather_133 : decode cX11_gather 133 = .ok (.invokestatic 175, 3) := by decide +kernel
theorem dX11_gather_136 : decode cX11_gather 136 = .ok (.ireturn, 1) := by decide +kernel
theorem dX11_gather_137 : decode cX11_gather 137 = .ok (.new 119, 3) := by decide +kernel
theorem dX11_gather_140 : decode cX11_gather 140 = .ok (.dup, 1) := by decide +kernel
theorem dX11_gather_141 : decode cX11_gather 141 = .ok (.ldc 242, 2) := by decide +kernel
theorem dX11_gather_143 : decode cX11_gather 143 = .ok (.invokespecial 123, 3) := by decide +kernel
theorem dX11_gather_146 : decode cX11_gather 146 = .ok (.athrow, 1) := by decide +kernel
theorem dX11_those_0 : decode cX11_those 0 = .ok (.aload_n 0, 1) := by decide +kernel
theorem dX11_those_1 : decode cX11_those 1 = .ok (.iload_n 1, 1) := by decide +kernel
theorem dX11_those_2 : decode cX11_those 2 = .ok (.invokevirtual 83, 3) := by decide +kernel
theorem dX11_those_5 : decode cX11_those 5 = .ok (.iload_n 2, 1) := by decide +kernel
theorem dX11_those_6 : decode cX11_those 6 = .ok (.iconst 1, 1) := by decide +kernel
theorem dX11_those_7 : decode cX11_those 7 = .ok (.iconst 3, 1) := by decide +kernel
theorem dX11_those_8 : decode cX11_those 8 = .ok (.invokestatic 159, 3) := by decide +kernel
theorem dX11_those_11 : decode cX11_those 11 = .ok (.aload_n 0, 1) := by decide +kernel
theorem dX11_those_12 : decode cX11_those 12 = .ok (.getfield 35, 3) := by decide +kernel
theorem dX11_those_15 : decode cX11_those 15 = .ok (.iload_n 1, 1) := by decide +kernel
theorem dX11_those_16 : decode cX11_those 16 = .ok (.iload_n 2, 1) := by decide +kernel
theorem dX11_those_17 : decode cX11_those 17 = .ok (.invokevirtual 94, 3) := by decide +kernel
theorem dX11_those_20 : decode cX11_those 20 = .ok (.ireturn, 1) := by decide +kernel
theorem dX11_event_0 : decode cX11_event 0 = .ok (.iload_n 1, 1) := by decide +kernel
theorem dX11_event_1 : decode cX11_event 1 = .ok (.ifCond .lt 17, 3) := by decide +kernel
theorem dX11_event_4 : decode cX11_event 4 = .ok (.iload_n 1, 1) := by decide +kernel
theorem dX11_event_5 : decode cX11_event 5 = .ok (.aload_n 0, 1) := by decide +kernel
theorem dX11_event_6 : decode cX11_event 6 = .ok (.getfield 35, 3) := by decide +kernel
theorem dX11_event_9 : decode cX11_event 9 = .ok (.getfield 334, 3) := by decide +kernel
theorem dX11_event_12 : decode cX11_event 12 = .ok (.getfield 338, 3) := by decide +kernel
theorem dX11_event_15 : decode cX11_event 15 = .ok (.if_icmp .lt 14, 3) := by decide +kernel
theorem dX11_event_18 : decode cX11_event 18 = .ok (.new 206, 3) := by decide +kernel
theorem dX11_event_21 : decode cX11_event 21 = .ok (.dup, 1) := by decide +kernel
theorem dX11_event_22 : decode cX11_event 22 = .ok (.ldc_w 343, 3) := by decide +kernel
theorem dX11_event_25 : decode cX11_event 25 = .ok (.invokespecial 210, 3) := by decide +kernel
theorem dX11_event_28 : decode cX11_event 28 = .ok (.athrow, 1) := by decide +kernel
theorem dX11_event_29 : decode cX11_event 29 = .ok (.iload_n 2, 1) := by decide +kernel
theorem dX11_event_30 : decode cX11_event 30 = .ok (.tableswitch 89 0 3 #[30, 43, 63, 76], 30) := by decide +kernel
theorem dX11_event_60 : decode cX11_event 60 = .ok (.aload_n 0, 1) := by decide +kernel
theorem dX11_event_61 : decode cX11_event 61 = .ok (.getfield 35, 3) := by decide +kernel
theorem dX11_event_64 : decode cX11_event 64 = .ok (.getfield 334, 3) := by decide +kernel
theorem dX11_event_67 : decode cX11_event 67 = .ok (.getfield 345, 3) := by decide +kernel
theorem dX11_event_70 : decode cX11_event 70 = .ok (.iload_n 1, 1) := by decide +kernel
theorem dX11_event_71 : decode cX11_event 71 = .ok (.iaload, 1) := by decide +kernel
theorem dX11_event_72 : decode cX11_event 72 = .ok (.ireturn, 1) := by decide +kernel
theorem dX11_event_73 : decode cX11_event 73 = .ok (.aload_n 0, 1) := by decide +kernel
theorem dX11_event_74 : decode cX11_event 74 = .ok (.getfield 35, 3) := by decide +kernel
theorem dX11_event_77 : decode cX11_event 77 = .ok (.getfield 334, 3) := by decide +kernel
theorem dX11_event_80 : decode cX11_event 80 = .ok (.iload_n 1, 1) := by decide +kernel
theorem dX11_event_81 : decode cX11_event 81 = .ok (.invokevirtual 348, 3) := by decide +kernel
theorem dX11_event_84 : decode cX11_event 84 = .ok (.ifCond .eq 7, 3) := by decide +kernel
theorem dX11_event_87 : decode cX11_event 87 = .ok (.iconst 1, 1) := by decide +kernel
theorem dX11_event_88 : decode cX11_event 88 = .ok (.goto 4, 3) := by decide +kernel
theorem dX11_event_91 : decode cX11_event 91 = .ok (.iconst 0, 1) := by decide +kernel
theorem dX11_event_92 : decode cX11_event 92 = .ok (.ireturn, 1) := by decide +kernel
theorem dX11_event_93 : decode cX11_event 93 = .ok (.aload_n 0, 1) := by decide +kernel
theorem dX11_event_94 : decode cX11_event 94 = .ok (.getfield 35, 3) := by decide +kernel
theorem dX11_event_97 : decode cX11_event 97 = .ok (.getfield 334, 3) := by decide +kernel
theorem dX11_event_100 : decode cX11_event 100 = .ok (.getfield 351, 3) := by decide +kernel
theorem dX11_event_103 : decode cX11_event 103 = .ok (.iload_n 1, 1) := by decide +kernel
theorem dX11_event_104 : decode cX11_event 104 = .ok (.iaload, 1) := by decide +kernel
theorem dX11_event_105 : decode cX11_event 105 = .ok (.ireturn, 1) := by decide +kernel
theorem dX11_event_106 : decode cX11_event 106 = .ok (.aload_n 0, 1) := by decide +kernel
theorem dX11_event_107 : decode cX11_event 107 = .ok (.getfield 35, 3) := by decide +kernel
theorem dX11_event_110 : decode cX11_event 110 = .ok (.getfield 334, 3) := by decide +kernel
theorem dX11_event_113 : decode cX11_event 113 = .ok (.getfield 354, 3) := by decide +kernel
theorem dX11_event_116 : decode cX11_event 116 = .ok (.iload_n 1, 1) := by decide +kernel
theorem dX11_event_117 : decode cX11_event 117 = .ok (.iaload, 1) := by decide +kernel
theorem dX11_event_118 : decode cX11_event 118 = .ok (.ireturn, 1) := by decide +kernel
theorem dX11_event_119 : decode cX11_event 119 = .ok (.new 119, 3) := by decide +kernel
theorem dX11_event_122 : decode cX11_event 122 = .ok (.dup, 1) := by decide +kernel
theorem dX11_event_123 : decode cX11_event 123 = .ok (.ldc_w 357, 3) := by decide +kernel
theorem dX11_event_126 : decode cX11_event 126 = .ok (.invokespecial 123, 3) := by decide +kernel
theorem dX11_event_129 : decode cX11_event 129 = .ok (.athrow, 1) := by decide +kernel
theorem dX11_log_0 : decode cX11_log 0 = .ok (.iload_n 2, 1) := by decide +kernel
theorem dX11_log_1 : decode cX11_log 1 = .ok (.iconst 0, 1) := by decide +kernel
theorem dX11_log_2 : decode cX11_log 2 = .ok (.iconst 3, 1) := by decide +kernel
theorem dX11_log_3 : decode cX11_log 3 = .ok (.invokestatic 159, 3) := by decide +kernel
theorem dX11_log_6 : decode cX11_log 6 = .ok (.iload_n 1, 1) := by decide +kernel
theorem dX11_log_7 : decode cX11_log 7 = .ok (.ifCond .lt 17, 3) := by decide +kernel
theorem dX11_log_10 : decode cX11_log 10 = .ok (.iload_n 1, 1) := by decide +kernel
theorem dX11_log_11 : decode cX11_log 11 = .ok (.aload_n 0, 1) := by decide +kernel
theorem dX11_log_12 : decode cX11_log 12 = .ok (.getfield 35, 3) := by decide +kernel
theorem dX11_log_15 : decode cX11_log 15 = .ok (.getfield 359, 3) := by decide +kernel
theorem dX11_log_18 : decode cX11_log 18 = .ok (.getfield 363, 3) := by decide +kernel
theorem dX11_log_21 : decode cX11_log 21 = .ok (.if_icmp .lt 5, 3) := by decide +kernel
theorem dX11_log_24 : decode cX11_log 24 = .ok (.iconst (-1), 1) := by decide +kernel
theorem dX11_log_25 : decode cX11_log 25 = .ok (.ireturn, 1) := by decide +kernel
theorem dX11_log_26 : decode cX11_log 26 = .ok (.aload_n 0, 1) := by decide +kernel
theorem dX11_log_27 : decode cX11_log 27 = .ok (.getfield 35, 3) := by decide +kernel
theorem dX11_log_30 : decode cX11_log 30 = .ok (.getfield 359, 3) := by decide +kernel
theorem dX11_log_33 : decode cX11_log 33 = .ok (.iload_n 1, 1) := by decide +kernel
theorem dX11_log_34 : decode cX11_log 34 = .ok (.iload_n 2, 1) := by decide +kernel
theorem dX11_log_35 : decode cX11_log 35 = .ok (.invokevirtual 368, 3) := by decide +kernel
theorem dX11_log_38 : decode cX11_log 38 = .ok (.ireturn, 1) := by decide +kernel
section S_48_xc
variable {p : Program} {l : Launch} {e : Env} {R : Room} {s : State} {m : MethodId} {args : Array Value} {below : List Frame} {meth : Method} {c : Code} {A : Nat → Prop} {D : va_G} {cI cB cL : ClassId} {ad : Nat → Nat} {ka kv : Nat → Nat} {fv : Value} {tr kt pa pl : Nat}
noncomputable def fX11_node_0 (x1 : Int32) (x2 : Int32) (u : Sg) : Option (Xr × Sg) := obx (fX11_needNode x1 u) (fun u4 => cnd (x2 = 0) (obr (fX7_isUp x1 (sbTN u4)) (fun r7 => cnd (r7 = 0) (some (.inl 0, u4)) (some (.inl 1, u4)))) (cnd (x2 = 1) (grd (vp_in x1 6) (some (.inl (u4 3 ((x1 : Int32).toNatClampNeg)), u4))) (cnd (x2 = 2) (obr (fX7_messagesAt x1 1 (sbTN u4)) (fun r13 => obr (fX7_messagesAt x1 2 (sbTN u4)) (fun r15 => some (.inl (fJ6_bitCount_0f7a4 (r13 ||| r15)), u4)))) (cnd (x2 = 3) (grd (vp_in x1 6) (some (.inl (u4 25 ((x1 : Int32).toNatClampNeg)), u4))) (cnd (x2 = 4) (grd (vp_in x1 6) (some (.inl (u4 4 ((x1 : Int32).toNatClampNeg)), u4))) (cnd (x2 = 5) (obr (fX7_isNoticed x1 (sbTN u4)) (fun r22 => cnd (r22 = 0) (some (.inl 0, u4)) (some (.inl 1, u4)))) (some (.inr 1, u4))))))))
noncomputable def fX11_node (x1 : Int32) (x2 : Int32) (u : Sg) : Option (Xr × Sg) := fX11_node_0 x1 x2 u
set_option maxRecDepth 10000 in
set_option maxHeartbeats 4000000 in
theorem wX11_node_0 (C : cx D (tyl cI cB cL) A RX11 cX11_node 3 (some .int) p s m args c meth) (Kx : kx ka kv fv A s s.heap) (Xc : ∀ x ∈ c.exceptionTable.toList, False) (hfl : l.stackTraces = false) (hR : 7 ≤ R.frames ∧ 111 ≤ R.locals) {z : Xr × Sg} (hC : R.cells = 2 ∧ R.slots = 6 * 2) (u : Sg) (x1 : Int32) (x2 : Int32) {H : Heap} {locs : List Loc} {ls : Array Slot} (hl : lv_has ls 3 [(0, .ref (ad 36)), (1, .int x1), (2, .int x2)]) (S : st D (wT cI cB ad tr kt pa pl) A s u H locs) (h : fX11_node_0 x1 x2 u = some z) : W p l e R s m args below meth c H locs 0 0 (vx_MQ below (qXI D (tyl cI cB cL) (wT cI cB ad tr kt pa pl) A z) (xX D (tyl cI cB cL) (wT cI cB ad tr kt pa pl) A z) args s 2 (6 * 2) A) (F0 m 0 ls []) := by
  have hx := C.1
  have hb := C.2.1
  have hsz := hl.1
  unfold fX11_node_0 at h
  refine lv_aload_n hx hb dX11_node_0 rfl (lv_at hl 0 rfl) ?_
  refine lv_iload_n hx hb dX11_node_1 rfl (lv_at hl 1 rfl) ?_
  obtain ⟨z1, h2, h3⟩ := obx_some h
  refine x_callVv (As := [.int x1]) (na := 1) C Kx Xc S (oT36 cI cB ad tr kt pa pl) rfl (ct_X11_needNode l hfl D cI cB cL ka kv fv ad tr kt pa pl x1 u h2) h3 mw_778 mw_779 mw_780 mw_321 mw_777 hdX11_needNode ⟨Nat.le_trans (Nat.le_of_ble_eq_true rfl) hR.1, Nat.le_trans (Nat.le_of_ble_eq_true rfl) hR.2⟩ rfl hsz (capX hC (Nat.le_of_ble_eq_true rfl) (Nat.le_of_ble_eq_true rfl)) ⟨Nat.le_of_ble_eq_true rfl, Nat.le_of_ble_eq_true rfl⟩ (Nat.le_of_ble_eq_true rfl) dX11_node_2 rfl (fun u4 H locs h S => ?_)
  refine lv_iload_n hx hb dX11_node_5 rfl (lv_at hl 2 rfl) ?_
  by_cases c5 : x2 = 0
  · have h := cnd_t c5 h
    refine lv_tableIn (off := 38) (tgt := 44) hx hb dX11_node_6 (by rw [c5]; decide) (by rw [c5]; decide) (by rw [c5]; rfl) (by decide) ?_
    refine lv_aload_n hx hb dX11_node_44 rfl (lv_at hl 0 rfl) ?_
    refine q_get (v := .ref (ad 0)) C S (oT36 cI cB ad tr kt pa pl) rfl iwX11 4 (by decide) mw_767 rfl dX11_node_45 ?_
    refine lv_iload_n hx hb dX11_node_48 rfl (lv_at hl 1 rfl) ?_
    obtain ⟨r7, h6, h⟩ := obr_some h
    refine s_callViR (spl_TN cI cB ad tr kt) (As := [.int x1]) (na := 1) C S (oN0 cI (adTN ad) pa pl) rfl (ct_X7_isUp l D cI cB cL (adTN ad) pa pl x1 (sbTN u4) h6) mw_785 mw_342 mw_344 mw_341 mw_340 hdX7_isUp ⟨Nat.le_trans (Nat.le_of_ble_eq_true rfl) hR.1, Nat.le_trans (Nat.le_of_ble_eq_true rfl) hR.2⟩ rfl hsz (capX hC (Nat.le_of_ble_eq_true rfl) (Nat.le_of_ble_eq_true rfl)) (Nat.le_of_ble_eq_true rfl) dX11_node_49 rfl (fun H locs S => ?_)
    refine lv_if_eq (tgt := 59) hx hb dX11_node_52 (by decide) (fun c8 => ?_) (fun c8 => ?_)
    · have h := cnd_t c8 h
      refine lv_iconst (v := 0) hx hb dX11_node_59 (by decide) ?_
      exact x_iret C S h ⟨Nat.le_of_ble_eq_true rfl, Nat.le_of_ble_eq_true rfl⟩ dX11_node_60
    · have h := cnd_f c8 h
      refine lv_iconst (v := 1) hx hb dX11_node_55 (by decide) ?_
      refine lv_goto (tgt := 60) hx hb dX11_node_56 (by decide) ?_
      exact x_iret C S h ⟨Nat.le_of_ble_eq_true rfl, Nat.le_of_ble_eq_true rfl⟩ dX11_node_60
  · have h := cnd_f c5 h
    by_cases c9 : x2 = 1
    · have h := cnd_t c9 h
      refine lv_tableIn (off := 55) (tgt := 61) hx hb dX11_node_6 (by rw [c9]; decide) (by rw [c9]; decide) (by rw [c9]; rfl) (by decide) ?_
      refine lv_aload_n hx hb dX11_node_61 rfl (lv_at hl 0 rfl) ?_
      refine q_get (v := .ref (ad 0)) C S (oT36 cI cB ad tr kt pa pl) rfl iwX11 4 (by decide) mw_767 rfl dX11_node_62 ?_
      refine q_get (v := .ref (ad 3)) C S (oT0 cI cB ad tr kt pa pl) rfl iwX7 11 (by decide) mw_849 rfl dX11_node_65 ?_
      refine lv_iload_n hx hb dX11_node_68 rfl (lv_at hl 1 rfl) ?_
      obtain ⟨g10, h⟩ := grd_some h
      refine q_iald C S (aT3 cI cB ad tr kt pa pl) 0 rfl g10 dX11_node_69 (j := (x1 : Int32).toNatClampNeg) rfl ?_
      exact x_iret C S h ⟨Nat.le_of_ble_eq_true rfl, Nat.le_of_ble_eq_true rfl⟩ dX11_node_70
    · have h := cnd_f c9 h
      by_cases c11 : x2 = 2
      · have h := cnd_t c11 h
        refine lv_tableIn (off := 65) (tgt := 71) hx hb dX11_node_6 (by rw [c11]; decide) (by rw [c11]; decide) (by rw [c11]; rfl) (by decide) ?_
        refine lv_aload_n hx hb dX11_node_71 rfl (lv_at hl 0 rfl) ?_
        refine q_get (v := .ref (ad 0)) C S (oT36 cI cB ad tr kt pa pl) rfl iwX11 4 (by decide) mw_767 rfl dX11_node_72 ?_
        refine lv_iload_n hx hb dX11_node_75 rfl (lv_at hl 1 rfl) ?_
        refine lv_iconst (v := 1) hx hb dX11_node_76 (by decide) ?_
        obtain ⟨r13, h12, h⟩ := obr_some h
        refine s_callViR (spl_TN cI cB ad tr kt) (As := [.int x1, .int 1]) (na := 2) C S (oN0 cI (adTN ad) pa pl) rfl (ct_X7_messagesAt l D cI cB cL (adTN ad) pa pl x1 1 (sbTN u4) h12) mw_828 mw_829 mw_830 mw_341 mw_827 hdX7_messagesAt ⟨Nat.le_trans (Nat.le_of_ble_eq_true rfl) hR.1, Nat.le_trans (Nat.le_of_ble_eq_true rfl) hR.2⟩ rfl hsz (capX hC (Nat.le_of_ble_eq_true rfl) (Nat.le_of_ble_eq_true rfl)) (Nat.le_of_ble_eq_true rfl) dX11_node_77 rfl (fun H locs S => ?_)
        refine lv_aload_n hx hb dX11_node_80 rfl (lv_at hl 0 rfl) ?_
        refine q_get (v := .ref (ad 0)) C S (oT36 cI cB ad tr kt pa pl) rfl iwX11 4 (by decide) mw_767 rfl dX11_node_81 ?_
        refine lv_iload_n hx hb dX11_node_84 rfl (lv_at hl 1 rfl) ?_
        refine lv_iconst (v := 2) hx hb dX11_node_85 (by decide) ?_
        obtain ⟨r15, h14, h⟩ := obr_some h
        refine s_callViR (spl_TN cI cB ad tr kt) (As := [.int x1, .int 2]) (na := 2) C S (oN0 cI (adTN ad) pa pl) rfl (ct_X7_messagesAt l D cI cB cL (adTN ad) pa pl x1 2 (sbTN u4) h14) mw_828 mw_829 mw_830 mw_341 mw_827 hdX7_messagesAt ⟨Nat.le_trans (Nat.le_of_ble_eq_true rfl) hR.1, Nat.le_trans (Nat.le_of_ble_eq_true rfl) hR.2⟩ rfl hsz (capX hC (Nat.le_of_ble_eq_true rfl) (Nat.le_of_ble_eq_true rfl)) (Nat.le_of_ble_eq_true rfl) dX11_node_86 rfl (fun H locs S => ?_)
        refine lv_ior hx hb dX11_node_89 ?_
        refine q_callP (As := [.int (r13 ||| r15)]) (na := 1) C S (ct_J6_bitCount_0f7a4 l D cI cB cL (r13 ||| r15)) mw_834 mw_238 mw_237 mw_236 hdJ6_bitCount_0f7a4 ⟨Nat.le_trans (Nat.le_of_ble_eq_true rfl) hR.1, Nat.le_trans (Nat.le_of_ble_eq_true rfl) hR.2⟩ rfl hsz (capX hC (Nat.le_of_ble_eq_true rfl) (Nat.le_of_ble_eq_true rfl)) (Nat.le_of_ble_eq_true rfl) dX11_node_90 rfl (fun H locs S => ?_)
        exact x_iret C S h ⟨Nat.le_of_ble_eq_true rfl, Nat.le_of_ble_eq_true rfl⟩ dX11_node_93
      · have h := cnd_f c11 h
        by_cases c16 : x2 = 3
        · have h := cnd_t c16 h
          refine lv_tableIn (off := 88) (tgt := 94) hx hb dX11_node_6 (by rw [c16]; decide) (by rw [c16]; decide) (by rw [c16]; rfl) (by decide) ?_
          refine lv_aload_n hx hb dX11_node_94 rfl (lv_at hl 0 rfl) ?_
          refine q_get (v := .ref (ad 0)) C S (oT36 cI cB ad tr kt pa pl) rfl iwX11 4 (by decide) mw_767 rfl dX11_node_95 ?_
          refine q_get (v := .ref (ad 19)) C S (oT0 cI cB ad tr kt pa pl) rfl iwX7 15 (by decide) mw_781 rfl dX11_node_98 ?_
          refine q_get (v := .ref (ad 25)) C S (oT19 cI cB ad tr kt pa pl) rfl iwX4 5 (by decide) mw_782 rfl dX11_node_101 ?_
          refine lv_iload_n hx hb dX11_node_104 rfl (lv_at hl 1 rfl) ?_
          obtain ⟨g17, h⟩ := grd_some h
          refine q_iald C S (aT25 cI cB ad tr kt pa pl) 0 rfl g17 dX11_node_105 (j := (x1 : Int32).toNatClampNeg) rfl ?_
          exact x_iret C S h ⟨Nat.le_of_ble_eq_true rfl, Nat.le_of_ble_eq_true rfl⟩ dX11_node_106
        · have h := cnd_f c16 h
          by_cases c18 : x2 = 4
          · have h := cnd_t c18 h
            refine lv_tableIn (off := 101) (tgt := 107) hx hb dX11_node_6 (by rw [c18]; decide) (by rw [c18]; decide) (by rw [c18]; rfl) (by decide) ?_
            refine lv_aload_n hx hb dX11_node_107 rfl (lv_at hl 0 rfl) ?_
            refine q_get (v := .ref (ad 0)) C S (oT36 cI cB ad tr kt pa pl) rfl iwX11 4 (by decide) mw_767 rfl dX11_node_108 ?_
            refine q_get (v := .ref (ad 4)) C S (oT0 cI cB ad tr kt pa pl) rfl iwX7 12 (by decide) mw_850 rfl dX11_node_111 ?_
            refine lv_iload_n hx hb dX11_node_114 rfl (lv_at hl 1 rfl) ?_
            obtain ⟨g19, h⟩ := grd_some h
            refine q_iald C S (aT4 cI cB ad tr kt pa pl) 0 rfl g19 dX11_node_115 (j := (x1 : Int32).toNatClampNeg) rfl ?_
            exact x_iret C S h ⟨Nat.le_of_ble_eq_true rfl, Nat.le_of_ble_eq_true rfl⟩ dX11_node_116
          · have h := cnd_f c18 h
            by_cases c20 : x2 = 5
            · have h := cnd_t c20 h
              refine lv_tableIn (off := 111) (tgt := 117) hx hb dX11_node_6 (by rw [c20]; decide) (by rw [c20]; decide) (by rw [c20]; rfl) (by decide) ?_
              refine lv_aload_n hx hb dX11_node_117 rfl (lv_at hl 0 rfl) ?_
              refine q_get (v := .ref (ad 0)) C S (oT36 cI cB ad tr kt pa pl) rfl iwX11 4 (by decide) mw_767 rfl dX11_node_118 ?_
              refine lv_iload_n hx hb dX11_node_121 rfl (lv_at hl 1 rfl) ?_
              obtain ⟨r22, h21, h⟩ := obr_some h
              refine s_callViR (spl_TN cI cB ad tr kt) (As := [.int x1]) (na := 1) C S (oN0 cI (adTN ad) pa pl) rfl (ct_X7_isNoticed l D cI cB cL (adTN ad) pa pl x1 (sbTN u4) h21) mw_851 mw_349 mw_351 mw_341 mw_348 hdX7_isNoticed ⟨Nat.le_trans (Nat.le_of_ble_eq_true rfl) hR.1, Nat.le_trans (Nat.le_of_ble_eq_true rfl) hR.2⟩ rfl hsz (capX hC (Nat.le_of_ble_eq_true rfl) (Nat.le_of_ble_eq_true rfl)) (Nat.le_of_ble_eq_true rfl) dX11_node_122 rfl (fun H locs S => ?_)
              refine lv_if_eq (tgt := 132) hx hb dX11_node_125 (by decide) (fun c23 => ?_) (fun c23 => ?_)
              · have h := cnd_t c23 h
                refine lv_iconst (v := 0) hx hb dX11_node_132 (by decide) ?_
                exact x_iret C S h ⟨Nat.le_of_ble_eq_true rfl, Nat.le_of_ble_eq_true rfl⟩ dX11_node_133
              · have h := cnd_f c23 h
                refine lv_iconst (v := 1) hx hb dX11_node_128 (by decide) ?_
                refine lv_goto (tgt := 133) hx hb dX11_node_129 (by decide) ?_
                exact x_iret C S h ⟨Nat.le_of_ble_eq_true rfl, Nat.le_of_ble_eq_true rfl⟩ dX11_node_133
            · have h := cnd_f c20 h
              refine lv_tableOut (tgt := 134) hx hb dX11_node_6 (sw_out (0) 6 (fun k hk => by
                rcases (show k = 0 ∨ k = 1 ∨ k = 2 ∨ k = 3 ∨ k = 4 ∨ k = 5 by omega) with rfl | rfl | rfl | rfl | rfl | rfl
                · exact sw_ne 0 _ (by decide) c5
                · exact sw_ne 1 _ (by decide) c9
                · exact sw_ne 2 _ (by decide) c11
                · exact sw_ne 3 _ (by decide) c16
                · exact sw_ne 4 _ (by decide) c18
                · exact sw_ne 5 _ (by decide) c20)) (by decide) ?_
              exact x_throwN C Kx Xc hfl S (kst_11 Kx) hsz dX11_node_134 dX11_node_137 dX11_node_138 dX11_node_140 dX11_node_143 ⟨Nat.le_trans (Nat.le_of_ble_eq_true rfl) hR.1, Nat.le_trans (Nat.le_of_ble_eq_true rfl) hR.2⟩ (Nat.le_of_ble_eq_true rfl) (capX hC (Nat.le_of_ble_eq_true rfl) (Nat.le_of_ble_eq_true rfl)) ⟨Nat.le_of_ble_eq_true rfl, Nat.le_of_ble_eq_true rfl⟩ h
set_option maxRecDepth 10000 in
set_option maxHeartbeats 4000000 in
theorem ct_X11_node (l : Launch) (hfl : l.stackTraces = false) (D : va_G) (cI cB cL : ClassId) (ka kv : Nat → Nat) (fv : Value) (ad : Nat → Nat) (tr kt pa pl : Nat) (x1 : Int32) (x2 : Int32) (u : Sg) {z : Xr × Sg} (h : fX11_node x1 x2 u = some z) : metXI l D (tyl cI cB cL) ka kv fv yX11_node cX11_node 3 (some .int) 7 111 2 (wT cI cB ad tr kt pa pl) [.ref (ad 36), .int x1, .int x2] u z := by
  intro sz
  refine vx_ofW (cc := cX11_node) (maxL := 3) (ret := (some .int)) (by decide) rfl ?_
  intro p e s m args below meth c s₁ B hml Xc hv
  obtain ⟨rfl, C, S, Kx⟩ := q_entryK B hml hv
  have hl := lv_entry ([.ref (ad 36), .int x1, .int x2]) (n := 3) (Nat.le_of_ble_eq_true rfl)
  rw [lg_entry_eq]
  generalize (lg_sl ([.ref (ad 36), .int x1, .int x2]) ++ List.replicate (3 - (lg_sl ([.ref (ad 36), .int x1, .int x2])).length) Slot.unset).toArray = ls at hl ⊢
  exact wX11_node_0 C Kx Xc hfl ⟨Nat.le_refl _, Nat.le_refl _⟩ ⟨rfl, rfl⟩ u x1 x2 (lv_sub hl [0, 1, 2] rfl) S h
noncomputable def fX11_message_0 (x1 : Int32) (x2 : Int32) (u : Sg) : Option (Xr × Sg) := obx (fX11_needMessage x1 u) (fun u4 => cnd (x2 = 0) (grd (vp_in x1 20) (some (.inl (u4 14 ((x1 : Int32).toNatClampNeg)), u4))) (cnd (x2 = 1) (grd (vp_in x1 20) (some (.inl (u4 15 ((x1 : Int32).toNatClampNeg)), u4))) (cnd (x2 = 2) (grd (vp_in x1 20) (some (.inl (u4 16 ((x1 : Int32).toNatClampNeg)), u4))) (cnd (x2 = 3) (obr (fX0_deliveredBy x1 (sbTN u4)) (fun r13 => some (.inl r13, u4))) (cnd (x2 = 4) (obr (fX0_gatherers x1 (sbTN u4)) (fun r16 => some (.inl r16, u4))) (some (.inr 1, u4)))))))
noncomputable def fX11_message (x1 : Int32) (x2 : Int32) (u : Sg) : Option (Xr × Sg) := fX11_message_0 x1 x2 u
set_option maxRecDepth 10000 in
set_option maxHeartbeats 4000000 in
theorem wX11_message_0 (C : cx D (tyl cI cB cL) A RX11 cX11_message 3 (some .int) p s m args c meth) (Kx : kx ka kv fv A s s.heap) (Xc : ∀ x ∈ c.exceptionTable.toList, False) (hfl : l.stackTraces = false) (hR : 7 ≤ R.frames ∧ 111 ≤ R.locals) {z : Xr × Sg} (hC : R.cells = 2 ∧ R.slots = 6 * 2) (u : Sg) (x1 : Int32) (x2 : Int32) {H : Heap} {locs : List Loc} {ls : Array Slot} (hl : lv_has ls 3 [(0, .ref (ad 36)), (1, .int x1), (2, .int x2)]) (S : st D (wT cI cB ad tr kt pa pl) A s u H locs) (h : fX11_message_0 x1 x2 u = some z) : W p l e R s m args below meth c H locs 0 0 (vx_MQ below (qXI D (tyl cI cB cL) (wT cI cB ad tr kt pa pl) A z) (xX D (tyl cI cB cL) (wT cI cB ad tr kt pa pl) A z) args s 2 (6 * 2) A) (F0 m 0 ls []) := by
  have hx := C.1
  have hb := C.2.1
  have hsz := hl.1
  unfold fX11_message_0 at h
  refine lv_aload_n hx hb dX11_message_0 rfl (lv_at hl 0 rfl) ?_
  refine lv_iload_n hx hb dX11_message_1 rfl (lv_at hl 1 rfl) ?_
  obtain ⟨z1, h2, h3⟩ := obx_some h
  refine x_callVv (As := [.int x1]) (na := 1) C Kx Xc S (oT36 cI cB ad tr kt pa pl) rfl (ct_X11_needMessage l hfl D cI cB cL ka kv fv ad tr kt pa pl x1 u h2) h3 mw_791 mw_792 mw_793 mw_321 mw_790 hdX11_needMessage ⟨Nat.le_trans (Nat.le_of_ble_eq_true rfl) hR.1, Nat.le_trans (Nat.le_of_ble_eq_true rfl) hR.2⟩ rfl hsz (capX hC (Nat.le_of_ble_eq_true rfl) (Nat.le_of_ble_eq_true rfl)) ⟨Nat.le_of_ble_eq_true rfl, Nat.le_of_ble_eq_true rfl⟩ (Nat.le_of_ble_eq_true rfl) dX11_message_2 rfl (fun u4 H locs h S => ?_)
  refine lv_iload_n hx hb dX11_message_5 rfl (lv_at hl 2 rfl) ?_
  by_cases c5 : x2 = 0
  · have h := cnd_t c5 h
    refine lv_tableIn (off := 34) (tgt := 40) hx hb dX11_message_6 (by rw [c5]; decide) (by rw [c5]; decide) (by rw [c5]; rfl) (by decide) ?_
    refine lv_aload_n hx hb dX11_message_40 rfl (lv_at hl 0 rfl) ?_
    refine q_get (v := .ref (ad 0)) C S (oT36 cI cB ad tr kt pa pl) rfl iwX11 4 (by decide) mw_767 rfl dX11_message_41 ?_
    refine q_get (v := .ref (ad 13)) C S (oT0 cI cB ad tr kt pa pl) rfl iwX7 14 (by decide) mw_775 rfl dX11_message_44 ?_
    refine q_get (v := .ref (ad 14)) C S (oT13 cI cB ad tr kt pa pl) rfl iwX6 1 (by decide) mw_810 rfl dX11_message_47 ?_
    refine lv_iload_n hx hb dX11_message_50 rfl (lv_at hl 1 rfl) ?_
    obtain ⟨g6, h⟩ := grd_some h
    refine q_iald C S (aT14 cI cB ad tr kt pa pl) 0 rfl g6 dX11_message_51 (j := (x1 : Int32).toNatClampNeg) rfl ?_
    exact x_iret C S h ⟨Nat.le_of_ble_eq_true rfl, Nat.le_of_ble_eq_true rfl⟩ dX11_message_52
  · have h := cnd_f c5 h
    by_cases c7 : x2 = 1
    · have h := cnd_t c7 h
      refine lv_tableIn (off := 47) (tgt := 53) hx hb dX11_message_6 (by rw [c7]; decide) (by rw [c7]; decide) (by rw [c7]; rfl) (by decide) ?_
      refine lv_aload_n hx hb dX11_message_53 rfl (lv_at hl 0 rfl) ?_
      refine q_get (v := .ref (ad 0)) C S (oT36 cI cB ad tr kt pa pl) rfl iwX11 4 (by decide) mw_767 rfl dX11_message_54 ?_
      refine q_get (v := .ref (ad 13)) C S (oT0 cI cB ad tr kt pa pl) rfl iwX7 14 (by decide) mw_775 rfl dX11_message_57 ?_
      refine q_get (v := .ref (ad 15)) C S (oT13 cI cB ad tr kt pa pl) rfl iwX6 2 (by decide) mw_809 rfl dX11_message_60 ?_
      refine lv_iload_n hx hb dX11_message_63 rfl (lv_at hl 1 rfl) ?_
      obtain ⟨g8, h⟩ := grd_some h
      refine q_iald C S (aT15 cI cB ad tr kt pa pl) 0 rfl g8 dX11_message_64 (j := (x1 : Int32).toNatClampNeg) rfl ?_
      exact x_iret C S h ⟨Nat.le_of_ble_eq_true rfl, Nat.le_of_ble_eq_true rfl⟩ dX11_message_65
    · have h := cnd_f c7 h
      by_cases c9 : x2 = 2
      · have h := cnd_t c9 h
        refine lv_tableIn (off := 60) (tgt := 66) hx hb dX11_message_6 (by rw [c9]; decide) (by rw [c9]; decide) (by rw [c9]; rfl) (by decide) ?_
        refine lv_aload_n hx hb dX11_message_66 rfl (lv_at hl 0 rfl) ?_
        refine q_get (v := .ref (ad 0)) C S (oT36 cI cB ad tr kt pa pl) rfl iwX11 4 (by decide) mw_767 rfl dX11_message_67 ?_
        refine q_get (v := .ref (ad 13)) C S (oT0 cI cB ad tr kt pa pl) rfl iwX7 14 (by decide) mw_775 rfl dX11_message_70 ?_
        refine q_get (v := .ref (ad 16)) C S (oT13 cI cB ad tr kt pa pl) rfl iwX6 3 (by decide) mw_835 rfl dX11_message_73 ?_
        refine lv_iload_n hx hb dX11_message_76 rfl (lv_at hl 1 rfl) ?_
        obtain ⟨g10, h⟩ := grd_some h
        refine q_iald C S (aT16 cI cB ad tr kt pa pl) 0 rfl g10 dX11_message_77 (j := (x1 : Int32).toNatClampNeg) rfl ?_
        exact x_iret C S h ⟨Nat.le_of_ble_eq_true rfl, Nat.le_of_ble_eq_true rfl⟩ dX11_message_78
      · have h := cnd_f c9 h
        by_cases c11 : x2 = 3
        · have h := cnd_t c11 h
          refine lv_tableIn (off := 73) (tgt := 79) hx hb dX11_message_6 (by rw [c11]; decide) (by rw [c11]; decide) (by rw [c11]; rfl) (by decide) ?_
          refine lv_aload_n hx hb dX11_message_79 rfl (lv_at hl 0 rfl) ?_
          refine q_get (v := .ref (ad 0)) C S (oT36 cI cB ad tr kt pa pl) rfl iwX11 4 (by decide) mw_767 rfl dX11_message_80 ?_
          refine lv_iload_n hx hb dX11_message_83 rfl (lv_at hl 1 rfl) ?_
          obtain ⟨r13, h12, h⟩ := obr_some h
          refine s_callSiR (spl_TN cI cB ad tr kt) (As := [.ref (adTN ad 0), .int x1]) (na := 2) C S (ct_X0_deliveredBy l D cI cB cL (adTN ad) pa pl x1 (sbTN u4) h12) mw_852 mw_372 mw_362 mw_371 hdX0_deliveredBy ⟨Nat.le_trans (Nat.le_of_ble_eq_true rfl) hR.1, Nat.le_trans (Nat.le_of_ble_eq_true rfl) hR.2⟩ rfl hsz (capX hC (Nat.le_of_ble_eq_true rfl) (Nat.le_of_ble_eq_true rfl)) (Nat.le_of_ble_eq_true rfl) dX11_message_84 rfl (fun H locs S => ?_)
          exact x_iret C S h ⟨Nat.le_of_ble_eq_true rfl, Nat.le_of_ble_eq_true rfl⟩ dX11_message_87
        · have h := cnd_f c11 h
          by_cases c14 : x2 = 4
          · have h := cnd_t c14 h
            refine lv_tableIn (off := 82) (tgt := 88) hx hb dX11_message_6 (by rw [c14]; decide) (by rw [c14]; decide) (by rw [c14]; rfl) (by decide) ?_
            refine lv_aload_n hx hb dX11_message_88 rfl (lv_at hl 0 rfl) ?_
            refine q_get (v := .ref (ad 0)) C S (oT36 cI cB ad tr kt pa pl) rfl iwX11 4 (by decide) mw_767 rfl dX11_message_89 ?_
            refine lv_iload_n hx hb dX11_message_92 rfl (lv_at hl 1 rfl) ?_
            obtain ⟨r16, h15, h⟩ := obr_some h
            refine s_callSiR (spl_TN cI cB ad tr kt) (As := [.ref (adTN ad 0), .int x1]) (na := 2) C S (ct_X0_gatherers l D cI cB cL (adTN ad) pa pl x1 (sbTN u4) h15) mw_854 mw_855 mw_362 mw_853 hdX0_gatherers ⟨Nat.le_trans (Nat.le_of_ble_eq_true rfl) hR.1, Nat.le_trans (Nat.le_of_ble_eq_true rfl) hR.2⟩ rfl hsz (capX hC (Nat.le_of_ble_eq_true rfl) (Nat.le_of_ble_eq_true rfl)) (Nat.le_of_ble_eq_true rfl) dX11_message_93 rfl (fun H locs S => ?_)
            exact x_iret C S h ⟨Nat.le_of_ble_eq_true rfl, Nat.le_of_ble_eq_true rfl⟩ dX11_message_96
          · have h := cnd_f c14 h
            refine lv_tableOut (tgt := 97) hx hb dX11_message_6 (sw_out (0) 5 (fun k hk => by
              rcases (show k = 0 ∨ k = 1 ∨ k = 2 ∨ k = 3 ∨ k = 4 by omega) with rfl | rfl | rfl | rfl | rfl
              · exact sw_ne 0 _ (by decide) c5
              · exact sw_ne 1 _ (by decide) c7
              · exact sw_ne 2 _ (by decide) c9
              · exact sw_ne 3 _ (by decide) c11
              · exact sw_ne 4 _ (by decide) c14)) (by decide) ?_
            exact x_throwN C Kx Xc hfl S (kst_14 Kx) hsz dX11_message_97 dX11_message_100 dX11_message_101 dX11_message_103 dX11_message_106 ⟨Nat.le_trans (Nat.le_of_ble_eq_true rfl) hR.1, Nat.le_trans (Nat.le_of_ble_eq_true rfl) hR.2⟩ (Nat.le_of_ble_eq_true rfl) (capX hC (Nat.le_of_ble_eq_true rfl) (Nat.le_of_ble_eq_true rfl)) ⟨Nat.le_of_ble_eq_true rfl, Nat.le_of_ble_eq_true rfl⟩ h
set_option maxRecDepth 10000 in
set_option maxHeartbeats 4000000 in
theorem ct_X11_message (l : Launch) (hfl : l.stackTraces = false) (D : va_G) (cI cB cL : ClassId) (ka kv : Nat → Nat) (fv : Value) (ad : Nat → Nat) (tr kt pa pl : Nat) (x1 : Int32) (x2 : Int32) (u : Sg) {z : Xr × Sg} (h : fX11_message x1 x2 u = some z) : metXI l D (tyl cI cB cL) ka kv fv yX11_message cX11_message 3 (some .int) 7 111 2 (wT cI cB ad tr kt pa pl) [.ref (ad 36), .int x1, .int x2] u z := by
  intro sz
  refine vx_ofW (cc := cX11_message) (maxL := 3) (ret := (some .int)) (by decide) rfl ?_
  intro p e s m args below meth c s₁ B hml Xc hv
  obtain ⟨rfl, C, S, Kx⟩ := q_entryK B hml hv
  have hl := lv_entry ([.ref (ad 36), .int x1, .int x2]) (n := 3) (Nat.le_of_ble_eq_true rfl)
  rw [lg_entry_eq]
  generalize (lg_sl ([.ref (ad 36), .int x1, .int x2]) ++ List.replicate (3 - (lg_sl ([.ref (ad 36), .int x1, .int x2])).length) Slot.unset).toArray = ls at hl ⊢
  exact wX11_message_0 C Kx Xc hfl ⟨Nat.le_refl _, Nat.le_refl _⟩ ⟨rfl, rfl⟩ u x1 x2 (lv_sub hl [0, 1, 2] rfl) S h
noncomputable def fX11_needWhat_10 (u : Sg) : Option (Xr × Sg) := some (.inr 1, u)
noncomputable def fX11_needWhat_0 (x0 : Int32) (x1 : Int32) (x2 : Int32) (u : Sg) : Option (Xr × Sg) := cnd (x0 < x1) (fX11_needWhat_10 u) (cnd (x0 ≤ x2) (some (.inl 0, u)) (fX11_needWhat_10 u))
noncomputable def fX11_needWhat (x0 : Int32) (x1 : Int32) (x2 : Int32) (u : Sg) : Option (Xr × Sg) := fX11_needWhat_0 x0 x1 x2 u
set_option maxRecDepth 10000 in
set_option maxHeartbeats 4000000 in
theorem wX11_needWhat_10 (C : cx D (tyl cI cB cL) A RX11 cX11_needWhat 3 none p s m args c meth) (Kx : kx ka kv fv A s s.heap) (Xc : ∀ x ∈ c.exceptionTable.toList, False) (hfl : l.stackTraces = false) (hR : 6 ≤ R.frames ∧ 90 ≤ R.locals) {z : Xr × Sg} (hC : R.cells = 1 ∧ R.slots = 6 * 1) (u : Sg) {H : Heap} {locs : List Loc} {ls : Array Slot} (hl : lv_has ls 3 []) (S : st D (wT cI cB ad tr kt pa pl) A s u H locs) (h : fX11_needWhat_10 u = some z) : W p l e R s m args below meth c H locs 0 (6 * 0) (vx_MQ below (qXV D (tyl cI cB cL) (wT cI cB ad tr kt pa pl) A z) (xX D (tyl cI cB cL) (wT cI cB ad tr kt pa pl) A z) args s 1 (6 * 1) A) (F0 m 10 ls []) := by
  have hx := C.1
  have hb := C.2.1
  have hsz := hl.1
  unfold fX11_needWhat_10 at h
  exact x_throwNW C Kx Xc hfl S (kst_15 Kx) hsz dX11_needWhat_10 dX11_needWhat_13 dX11_needWhat_14 dX11_needWhat_17 dX11_needWhat_20 ⟨Nat.le_trans (Nat.le_of_ble_eq_true rfl) hR.1, Nat.le_trans (Nat.le_of_ble_eq_true rfl) hR.2⟩ (Nat.le_of_ble_eq_true rfl) (capX hC (Nat.le_of_ble_eq_true rfl) (Nat.le_of_ble_eq_true rfl)) ⟨Nat.le_of_ble_eq_true rfl, Nat.le_of_ble_eq_true rfl⟩ h
set_option maxRecDepth 10000 in
set_option maxHeartbeats 4000000 in
theorem wX11_needWhat_0 (C : cx D (tyl cI cB cL) A RX11 cX11_needWhat 3 none p s m args c meth) (Kx : kx ka kv fv A s s.heap) (Xc : ∀ x ∈ c.exceptionTable.toList, False) (hfl : l.stackTraces = false) (hR : 6 ≤ R.frames ∧ 90 ≤ R.locals) {z : Xr × Sg} (hC : R.cells = 1 ∧ R.slots = 6 * 1) (u : Sg) (x0 : Int32) (x1 : Int32) (x2 : Int32) {H : Heap} {locs : List Loc} {ls : Array Slot} (hl : lv_has ls 3 [(0, .int x0), (1, .int x1), (2, .int x2)]) (S : st D (wT cI cB ad tr kt pa pl) A s u H locs) (h : fX11_needWhat_0 x0 x1 x2 u = some z) : W p l e R s m args below meth c H locs 0 0 (vx_MQ below (qXV D (tyl cI cB cL) (wT cI cB ad tr kt pa pl) A z) (xX D (tyl cI cB cL) (wT cI cB ad tr kt pa pl) A z) args s 1 (6 * 1) A) (F0 m 0 ls []) := by
  have hx := C.1
  have hb := C.2.1
  have hsz := hl.1
  unfold fX11_needWhat_0 at h
  refine lv_iload_n hx hb dX11_needWhat_0 rfl (lv_at hl 0 rfl) ?_
  refine lv_iload_n hx hb dX11_needWhat_1 rfl (lv_at hl 1 rfl) ?_
  refine lv_icmp_lt (tgt := 10) hx hb dX11_needWhat_2 (by decide) (fun c1 => ?_) (fun c1 => ?_)
  · have h := cnd_t c1 h
    refine W.widen (k := 0) (n := (6 * 0)) (Nat.le_of_ble_eq_true rfl) (Nat.le_of_ble_eq_true rfl) ?_
    exact wX11_needWhat_10 C Kx Xc hfl hR hC u (lv_sub hl [] rfl) S h
  · have h := cnd_f c1 h
    refine lv_iload_n hx hb dX11_needWhat_5 rfl (lv_at hl 0 rfl) ?_
    refine lv_iload_n hx hb dX11_needWhat_6 rfl (lv_at hl 2 rfl) ?_
    refine lv_icmp_le (tgt := 21) hx hb dX11_needWhat_7 (by decide) (fun c2 => ?_) (fun c2 => ?_)
    · have h := cnd_t c2 h
      exact x_vret C S h ⟨Nat.le_of_ble_eq_true rfl, Nat.le_of_ble_eq_true rfl⟩ dX11_needWhat_21
    · have h := cnd_f c2 h
      refine W.widen (k := 0) (n := (6 * 0)) (Nat.le_of_ble_eq_true rfl) (Nat.le_of_ble_eq_true rfl) ?_
      exact wX11_needWhat_10 C Kx Xc hfl hR hC u (lv_sub hl [] rfl) S h
set_option maxRecDepth 10000 in
set_option maxHeartbeats 4000000 in
theorem ct_X11_needWhat (l : Launch) (hfl : l.stackTraces = false) (D : va_G) (cI cB cL : ClassId) (ka kv : Nat → Nat) (fv : Value) (ad : Nat → Nat) (tr kt pa pl : Nat) (x0 : Int32) (x1 : Int32) (x2 : Int32) (u : Sg) {z : Xr × Sg} (h : fX11_needWhat x0 x1 x2 u = some z) : metXV l D (tyl cI cB cL) ka kv fv yX11_needWhat cX11_needWhat 3 6 90 1 (wT cI cB ad tr kt pa pl) [.int x0, .int x1, .int x2] u z := by
  intro sz
  refine vx_ofW (cc := cX11_needWhat) (maxL := 3) (ret := none) (by decide) rfl ?_
  intro p e s m args below meth c s₁ B hml Xc hv
  obtain ⟨rfl, C, S, Kx⟩ := q_entryK B hml hv
  have hl := lv_entry ([.int x0, .int x1, .int x2]) (n := 3) (Nat.le_of_ble_eq_true rfl)
  rw [lg_entry_eq]
  generalize (lg_sl ([.int x0, .int x1, .int x2]) ++ List.replicate (3 - (lg_sl ([.int x0, .int x1, .int x2])).length) Slot.unset).toArray = ls at hl ⊢
  exact wX11_needWhat_0 C Kx Xc hfl ⟨Nat.le_refl _, Nat.le_refl _⟩ ⟨rfl, rfl⟩ u x0 x1 x2 (lv_sub hl [0, 1, 2] rfl) S h
noncomputable def fX11_has_0 (x1 : Int32) (x2 : Int32) (x3 : Int32) (u : Sg) : Option (Xr × Sg) := obx (fX11_needNode x1 u) (fun u4 => obx (fX11_needMessage x2 u4) (fun u8 => obx (fX11_needWhat x3 0 3 u8) (fun u12 => bnd (fX11_spotOf x1 x2) (fun v13 => grd (vp_in v13 120) (bnd (u12 20 ((v13 : Int32).toNatClampNeg)) (fun v15 => cnd (x3 = 0) (some (.inl v15, u12)) (cnd (v15 = 0) (some (.inl (-1), u12)) (cnd (x3 = 3) (grd (vp_in v13 120) (some (.inl (u12 22 ((v13 : Int32).toNatClampNeg)), u12))) (grd (vp_in v13 120) (bnd (u12 21 ((v13 : Int32).toNatClampNeg)) (fun v20 => cnd (x3 = 1) (some (.inl (fX11_numberOf v20), u12)) (some (.inl (fX11_nodeOf v20), u12)))))))))))))
noncomputable def fX11_has (x1 : Int32) (x2 : Int32) (x3 : Int32) (u : Sg) : Option (Xr × Sg) := fX11_has_0 x1 x2 x3 u
set_option maxRecDepth 10000 in
set_option maxHeartbeats 4000000 in
theorem wX11_has_0 (C : cx D (tyl cI cB cL) A RX11 cX11_has 7 (some .int) p s m args c meth) (Kx : kx ka kv fv A s s.heap) (Xc : ∀ x ∈ c.exceptionTable.toList, False) (hfl : l.stackTraces = false) (hR : 7 ≤ R.frames ∧ 112 ≤ R.locals) {z : Xr × Sg} (hC : R.cells = 3 ∧ R.slots = 6 * 3) (u : Sg) (x1 : Int32) (x2 : Int32) (x3 : Int32) {H : Heap} {locs : List Loc} {ls : Array Slot} (hl : lv_has ls 7 [(0, .ref (ad 36)), (1, .int x1), (2, .int x2), (3, .int x3)]) (S : st D (wT cI cB ad tr kt pa pl) A s u H locs) (h : fX11_has_0 x1 x2 x3 u = some z) : W p l e R s m args below meth c H locs 0 0 (vx_MQ below (qXI D (tyl cI cB cL) (wT cI cB ad tr kt pa pl) A z) (xX D (tyl cI cB cL) (wT cI cB ad tr kt pa pl) A z) args s 3 (6 * 3) A) (F0 m 0 ls []) := by
  have hx := C.1
  have hb := C.2.1
  have hsz := hl.1
  unfold fX11_has_0 at h
  refine lv_aload_n hx hb dX11_has_0 rfl (lv_at hl 0 rfl) ?_
  refine lv_iload_n hx hb dX11_has_1 rfl (lv_at hl 1 rfl) ?_
  obtain ⟨z1, h2, h3⟩ := obx_some h
  refine x_callVv (As := [.int x1]) (na := 1) C Kx Xc S (oT36 cI cB ad tr kt pa pl) rfl (ct_X11_needNode l hfl D cI cB cL ka kv fv ad tr kt pa pl x1 u h2) h3 mw_778 mw_779 mw_780 mw_321 mw_777 hdX11_needNode ⟨Nat.le_trans (Nat.le_of_ble_eq_true rfl) hR.1, Nat.le_trans (Nat.le_of_ble_eq_true rfl) hR.2⟩ rfl hsz (capX hC (Nat.le_of_ble_eq_true rfl) (Nat.le_of_ble_eq_true rfl)) ⟨Nat.le_of_ble_eq_true rfl, Nat.le_of_ble_eq_true rfl⟩ (Nat.le_of_ble_eq_true rfl) dX11_has_2 rfl (fun u4 H locs h S => ?_)
  refine lv_aload_n hx hb dX11_has_5 rfl (lv_at hl 0 rfl) ?_
  refine lv_iload_n hx hb dX11_has_6 rfl (lv_at hl 2 rfl) ?_
  obtain ⟨z5, h6, h7⟩ := obx_some h
  refine x_callVv (As := [.int x2]) (na := 1) C Kx Xc S (oT36 cI cB ad tr kt pa pl) rfl (ct_X11_needMessage l hfl D cI cB cL ka kv fv ad tr kt pa pl x2 u4 h6) h7 mw_791 mw_792 mw_793 mw_321 mw_790 hdX11_needMessage ⟨Nat.le_trans (Nat.le_of_ble_eq_true rfl) hR.1, Nat.le_trans (Nat.le_of_ble_eq_true rfl) hR.2⟩ rfl hsz (capX hC (Nat.le_of_ble_eq_true rfl) (Nat.le_of_ble_eq_true rfl)) ⟨Nat.le_of_ble_eq_true rfl, Nat.le_of_ble_eq_true rfl⟩ (Nat.le_of_ble_eq_true rfl) dX11_has_7 rfl (fun u8 H locs h S => ?_)
  refine lv_iload_n hx hb dX11_has_10 rfl (lv_at hl 3 rfl) ?_
  refine lv_iconst (v := 0) hx hb dX11_has_11 (by decide) ?_
  refine lv_iconst (v := 3) hx hb dX11_has_12 (by decide) ?_
  obtain ⟨z9, h10, h11⟩ := obx_some h
  refine x_callSv (As := [.int x3, .int 0, .int 3]) (na := 3) C Kx Xc S (ct_X11_needWhat l hfl D cI cB cL ka kv fv ad tr kt pa pl x3 0 3 u8 h10) h11 mw_857 mw_858 mw_321 mw_856 hdX11_needWhat ⟨Nat.le_trans (Nat.le_of_ble_eq_true rfl) hR.1, Nat.le_trans (Nat.le_of_ble_eq_true rfl) hR.2⟩ rfl hsz (capX hC (Nat.le_of_ble_eq_true rfl) (Nat.le_of_ble_eq_true rfl)) ⟨Nat.le_of_ble_eq_true rfl, Nat.le_of_ble_eq_true rfl⟩ (Nat.le_of_ble_eq_true rfl) dX11_has_13 rfl (fun u12 H locs h S => ?_)
  refine lv_iload_n hx hb dX11_has_16 rfl (lv_at hl 1 rfl) ?_
  refine lv_iload_n hx hb dX11_has_17 rfl (lv_at hl 2 rfl) ?_
  refine q_callP (As := [.int x1, .int x2]) (na := 2) C S (ct_X11_spotOf l D cI cB cL x1 x2) mw_784 mw_322 mw_321 mw_320 hdX11_spotOf ⟨Nat.le_trans (Nat.le_of_ble_eq_true rfl) hR.1, Nat.le_trans (Nat.le_of_ble_eq_true rfl) hR.2⟩ rfl hsz (capX hC (Nat.le_of_ble_eq_true rfl) (Nat.le_of_ble_eq_true rfl)) (Nat.le_of_ble_eq_true rfl) dX11_has_18 rfl (fun H locs S => ?_)
  refine lv_topi (fun v13 ev13 => ?_)
  have h := bnd_of ev13 h
  refine lv_istore (lv' := [(4, .int v13), (0, .ref (ad 36)), (1, .int x1), (2, .int x2), (3, .int x3)]) hx hb dX11_has_21 hl (by decide) rfl (fun ls hl => ?_)
  have hsz := hl.1
  refine lv_aload_n hx hb dX11_has_23 rfl (lv_at hl 1 rfl) ?_
  refine q_get (v := .ref (ad 0)) C S (oT36 cI cB ad tr kt pa pl) rfl iwX11 4 (by decide) mw_767 rfl dX11_has_24 ?_
  refine q_get (v := .ref (ad 19)) C S (oT0 cI cB ad tr kt pa pl) rfl iwX7 15 (by decide) mw_781 rfl dX11_has_27 ?_
  refine q_get (v := .ref (ad 20)) C S (oT19 cI cB ad tr kt pa pl) rfl iwX4 0 (by decide) mw_815 rfl dX11_has_30 ?_
  refine lv_iload hx hb dX11_has_33 (lv_at hl 0 rfl) ?_
  obtain ⟨g14, h⟩ := grd_some h
  refine q_iald C S (aT20 cI cB ad tr kt pa pl) 0 rfl g14 dX11_has_35 (j := (v13 : Int32).toNatClampNeg) rfl ?_
  refine lv_topi (fun v15 ev15 => ?_)
  have h := bnd_of ev15 h
  refine lv_istore (lv' := [(5, .int v15), (4, .int v13), (0, .ref (ad 36)), (1, .int x1), (2, .int x2), (3, .int x3)]) hx hb dX11_has_36 hl (by decide) rfl (fun ls hl => ?_)
  have hsz := hl.1
  refine lv_iload_n hx hb dX11_has_38 rfl (lv_at hl 5 rfl) ?_
  refine lv_if_ne (tgt := 45) hx hb dX11_has_39 (by decide) (fun c16 => ?_) (fun c16 => ?_)
  · have h := cnd_f c16 h
    refine lv_iload hx hb dX11_has_45 (lv_at hl 0 rfl) ?_
    refine lv_if_ne (tgt := 52) hx hb dX11_has_47 (by decide) (fun c17 => ?_) (fun c17 => ?_)
    · have h := cnd_f c17 h
      refine lv_iload_n hx hb dX11_has_52 rfl (lv_at hl 5 rfl) ?_
      refine lv_iconst (v := 3) hx hb dX11_has_53 (by decide) ?_
      refine lv_icmp_ne (tgt := 71) hx hb dX11_has_54 (by decide) (fun c18 => ?_) (fun c18 => ?_)
      · have h := cnd_f c18 h
        refine lv_aload_n hx hb dX11_has_71 rfl (lv_at hl 2 rfl) ?_
        refine q_get (v := .ref (ad 0)) C S (oT36 cI cB ad tr kt pa pl) rfl iwX11 4 (by decide) mw_767 rfl dX11_has_72 ?_
        refine q_get (v := .ref (ad 19)) C S (oT0 cI cB ad tr kt pa pl) rfl iwX7 15 (by decide) mw_781 rfl dX11_has_75 ?_
        refine q_get (v := .ref (ad 21)) C S (oT19 cI cB ad tr kt pa pl) rfl iwX4 1 (by decide) mw_859 rfl dX11_has_78 ?_
        refine lv_iload hx hb dX11_has_81 (lv_at hl 1 rfl) ?_
        obtain ⟨g19, h⟩ := grd_some h
        refine q_iald C S (aT21 cI cB ad tr kt pa pl) 0 rfl g19 dX11_has_83 (j := (v13 : Int32).toNatClampNeg) rfl ?_
        refine lv_topi (fun v20 ev20 => ?_)
        have h := bnd_of ev20 h
        refine lv_istore (lv' := [(6, .int v20), (5, .int v15), (4, .int v13), (0, .ref (ad 36)), (1, .int x1), (2, .int x2), (3, .int x3)]) hx hb dX11_has_84 hl (by decide) rfl (fun ls hl => ?_)
        have hsz := hl.1
        refine lv_iload_n hx hb dX11_has_86 rfl (lv_at hl 6 rfl) ?_
        refine lv_iconst (v := 1) hx hb dX11_has_87 (by decide) ?_
        refine lv_icmp_ne (tgt := 99) hx hb dX11_has_88 (by decide) (fun c21 => ?_) (fun c21 => ?_)
        · have h := cnd_f c21 h
          refine lv_iload hx hb dX11_has_99 (lv_at hl 0 rfl) ?_
          refine q_callP (As := [.int v20]) (na := 1) C S (ct_X11_nodeOf l D cI cB cL v20) mw_862 mw_861 mw_321 mw_860 hdX11_nodeOf ⟨Nat.le_trans (Nat.le_of_ble_eq_true rfl) hR.1, Nat.le_trans (Nat.le_of_ble_eq_true rfl) hR.2⟩ rfl hsz (capX hC (Nat.le_of_ble_eq_true rfl) (Nat.le_of_ble_eq_true rfl)) (Nat.le_of_ble_eq_true rfl) dX11_has_101 rfl (fun H locs S => ?_)
          exact x_iret C S h ⟨Nat.le_of_ble_eq_true rfl, Nat.le_of_ble_eq_true rfl⟩ dX11_has_104
        · have h := cnd_t c21 h
          refine lv_iload hx hb dX11_has_91 (lv_at hl 0 rfl) ?_
          refine q_callP (As := [.int v20]) (na := 1) C S (ct_X11_numberOf l D cI cB cL v20) mw_863 mw_502 mw_321 mw_501 hdX11_numberOf ⟨Nat.le_trans (Nat.le_of_ble_eq_true rfl) hR.1, Nat.le_trans (Nat.le_of_ble_eq_true rfl) hR.2⟩ rfl hsz (capX hC (Nat.le_of_ble_eq_true rfl) (Nat.le_of_ble_eq_true rfl)) (Nat.le_of_ble_eq_true rfl) dX11_has_93 rfl (fun H locs S => ?_)
          refine lv_goto (tgt := 104) hx hb dX11_has_96 (by decide) ?_
          exact x_iret C S h ⟨Nat.le_of_ble_eq_true rfl, Nat.le_of_ble_eq_true rfl⟩ dX11_has_104
      · have h := cnd_t c18 h
        refine lv_aload_n hx hb dX11_has_57 rfl (lv_at hl 2 rfl) ?_
        refine q_get (v := .ref (ad 0)) C S (oT36 cI cB ad tr kt pa pl) rfl iwX11 4 (by decide) mw_767 rfl dX11_has_58 ?_
        refine q_get (v := .ref (ad 19)) C S (oT0 cI cB ad tr kt pa pl) rfl iwX7 15 (by decide) mw_781 rfl dX11_has_61 ?_
        refine q_get (v := .ref (ad 22)) C S (oT19 cI cB ad tr kt pa pl) rfl iwX4 2 (by decide) mw_864 rfl dX11_has_64 ?_
        refine lv_iload hx hb dX11_has_67 (lv_at hl 1 rfl) ?_
        obtain ⟨g22, h⟩ := grd_some h
        refine q_iald C S (aT22 cI cB ad tr kt pa pl) 0 rfl g22 dX11_has_69 (j := (v13 : Int32).toNatClampNeg) rfl ?_
        exact x_iret C S h ⟨Nat.le_of_ble_eq_true rfl, Nat.le_of_ble_eq_true rfl⟩ dX11_has_70
    · have h := cnd_t c17 h
      refine lv_iconst (v := (-1)) hx hb dX11_has_50 (by decide) ?_
      exact x_iret C S h ⟨Nat.le_of_ble_eq_true rfl, Nat.le_of_ble_eq_true rfl⟩ dX11_has_51
  · have h := cnd_t c16 h
    refine lv_iload hx hb dX11_has_42 (lv_at hl 0 rfl) ?_
    exact x_iret C S h ⟨Nat.le_of_ble_eq_true rfl, Nat.le_of_ble_eq_true rfl⟩ dX11_has_44
set_option maxRecDepth 10000 in
set_option maxHeartbeats 4000000 in
theorem ct_X11_has (l : Launch) (hfl : l.stackTraces = false) (D : va_G) (cI cB cL : ClassId) (ka kv : Nat → Nat) (fv : Value) (ad : Nat → Nat) (tr kt pa pl : Nat) (x1 : Int32) (x2 : Int32) (x3 : Int32) (u : Sg) {z : Xr × Sg} (h : fX11_has x1 x2 x3 u = some z) : metXI l D (tyl cI cB cL) ka kv fv yX11_has cX11_has 7 (some .int) 7 112 3 (wT cI cB ad tr kt pa pl) [.ref (ad 36), .int x1, .int x2, .int x3] u z := by
  intro sz
  refine vx_ofW (cc := cX11_has) (maxL := 7) (ret := (some .int)) (by decide) rfl ?_
  intro p e s m args below meth c s₁ B hml Xc hv
  obtain ⟨rfl, C, S, Kx⟩ := q_entryK B hml hv
  have hl := lv_entry ([.ref (ad 36), .int x1, .int x2, .int x3]) (n := 7) (Nat.le_of_ble_eq_true rfl)
  rw [lg_entry_eq]
  generalize (lg_sl ([.ref (ad 36), .int x1, .int x2, .int x3]) ++ List.replicate (7 - (lg_sl ([.ref (ad 36), .int x1, .int x2, .int x3])).length) Slot.unset).toArray = ls at hl ⊢
  exact wX11_has_0 C Kx Xc hfl ⟨Nat.le_refl _, Nat.le_refl _⟩ ⟨rfl, rfl⟩ u x1 x2 x3 (lv_sub hl [0, 1, 2, 3] rfl) S h
noncomputable def fX11_channel_0 (x1 : Int32) (x2 : Int32) (x3 : Int32) (u : Sg) : Option (Xr × Sg) := obx (fX11_needNode x1 u) (fun u4 => obx (fX11_needNode x2 u4) (fun u8 => bnd (fX11_channelOf x1 x2) (fun v9 => cnd (x3 = 0) (grd (vp_in v9 36) (some (.inl (u8 6 ((v9 : Int32).toNatClampNeg)), u8))) (cnd (x3 = 1) (grd (vp_in v9 36) (some (.inl (u8 7 ((v9 : Int32).toNatClampNeg)), u8))) (cnd (x3 = 2) (grd (vp_in v9 36) (some (.inl (u8 9 ((v9 : Int32).toNatClampNeg)), u8))) (cnd (x3 = 3) (grd (vp_in v9 36) (some (.inl (u8 8 ((v9 : Int32).toNatClampNeg)), u8))) (some (.inr 1, u8))))))))
noncomputable def fX11_channel (x1 : Int32) (x2 : Int32) (x3 : Int32) (u : Sg) : Option (Xr × Sg) := fX11_channel_0 x1 x2 x3 u
set_option maxRecDepth 10000 in
set_option maxHeartbeats 4000000 in
theorem wX11_channel_0 (C : cx D (tyl cI cB cL) A RX11 cX11_channel 5 (some .int) p s m args c meth) (Kx : kx ka kv fv A s s.heap) (Xc : ∀ x ∈ c.exceptionTable.toList, False) (hfl : l.stackTraces = false) (hR : 7 ≤ R.frames ∧ 111 ≤ R.locals) {z : Xr × Sg} (hC : R.cells = 3 ∧ R.slots = 6 * 3) (u : Sg) (x1 : Int32) (x2 : Int32) (x3 : Int32) {H : Heap} {locs : List Loc} {ls : Array Slot} (hl : lv_has ls 5 [(0, .ref (ad 36)), (1, .int x1), (2, .int x2), (3, .int x3)]) (S : st D (wT cI cB ad tr kt pa pl) A s u H locs) (h : fX11_channel_0 x1 x2 x3 u = some z) : W p l e R s m args below meth c H locs 0 0 (vx_MQ below (qXI D (tyl cI cB cL) (wT cI cB ad tr kt pa pl) A z) (xX D (tyl cI cB cL) (wT cI cB ad tr kt pa pl) A z) args s 3 (6 * 3) A) (F0 m 0 ls []) := by
  have hx := C.1
  have hb := C.2.1
  have hsz := hl.1
  unfold fX11_channel_0 at h
  refine lv_aload_n hx hb dX11_channel_0 rfl (lv_at hl 0 rfl) ?_
  refine lv_iload_n hx hb dX11_channel_1 rfl (lv_at hl 1 rfl) ?_
  obtain ⟨z1, h2, h3⟩ := obx_some h
  refine x_callVv (As := [.int x1]) (na := 1) C Kx Xc S (oT36 cI cB ad tr kt pa pl) rfl (ct_X11_needNode l hfl D cI cB cL ka kv fv ad tr kt pa pl x1 u h2) h3 mw_778 mw_779 mw_780 mw_321 mw_777 hdX11_needNode ⟨Nat.le_trans (Nat.le_of_ble_eq_true rfl) hR.1, Nat.le_trans (Nat.le_of_ble_eq_true rfl) hR.2⟩ rfl hsz (capX hC (Nat.le_of_ble_eq_true rfl) (Nat.le_of_ble_eq_true rfl)) ⟨Nat.le_of_ble_eq_true rfl, Nat.le_of_ble_eq_true rfl⟩ (Nat.le_of_ble_eq_true rfl) dX11_channel_2 rfl (fun u4 H locs h S => ?_)
  refine lv_aload_n hx hb dX11_channel_5 rfl (lv_at hl 0 rfl) ?_
  refine lv_iload_n hx hb dX11_channel_6 rfl (lv_at hl 2 rfl) ?_
  obtain ⟨z5, h6, h7⟩ := obx_some h
  refine x_callVv (As := [.int x2]) (na := 1) C Kx Xc S (oT36 cI cB ad tr kt pa pl) rfl (ct_X11_needNode l hfl D cI cB cL ka kv fv ad tr kt pa pl x2 u4 h6) h7 mw_778 mw_779 mw_780 mw_321 mw_777 hdX11_needNode ⟨Nat.le_trans (Nat.le_of_ble_eq_true rfl) hR.1, Nat.le_trans (Nat.le_of_ble_eq_true rfl) hR.2⟩ rfl hsz (capX hC (Nat.le_of_ble_eq_true rfl) (Nat.le_of_ble_eq_true rfl)) ⟨Nat.le_of_ble_eq_true rfl, Nat.le_of_ble_eq_true rfl⟩ (Nat.le_of_ble_eq_true rfl) dX11_channel_7 rfl (fun u8 H locs h S => ?_)
  refine lv_iload_n hx hb dX11_channel_10 rfl (lv_at hl 1 rfl) ?_
  refine lv_iload_n hx hb dX11_channel_11 rfl (lv_at hl 2 rfl) ?_
  refine q_callP (As := [.int x1, .int x2]) (na := 2) C S (ct_X11_channelOf l D cI cB cL x1 x2) mw_787 mw_406 mw_321 mw_405 hdX11_channelOf ⟨Nat.le_trans (Nat.le_of_ble_eq_true rfl) hR.1, Nat.le_trans (Nat.le_of_ble_eq_true rfl) hR.2⟩ rfl hsz (capX hC (Nat.le_of_ble_eq_true rfl) (Nat.le_of_ble_eq_true rfl)) (Nat.le_of_ble_eq_true rfl) dX11_channel_12 rfl (fun H locs S => ?_)
  refine lv_topi (fun v9 ev9 => ?_)
  have h := bnd_of ev9 h
  refine lv_istore (lv' := [(4, .int v9), (0, .ref (ad 36)), (1, .int x1), (2, .int x2), (3, .int x3)]) hx hb dX11_channel_15 hl (by decide) rfl (fun ls hl => ?_)
  have hsz := hl.1
  refine lv_iload_n hx hb dX11_channel_17 rfl (lv_at hl 4 rfl) ?_
  by_cases c10 : x3 = 0
  · have h := cnd_t c10 h
    refine lv_tableIn (off := 30) (tgt := 48) hx hb dX11_channel_18 (by rw [c10]; decide) (by rw [c10]; decide) (by rw [c10]; rfl) (by decide) ?_
    refine lv_aload_n hx hb dX11_channel_48 rfl (lv_at hl 1 rfl) ?_
    refine q_get (v := .ref (ad 0)) C S (oT36 cI cB ad tr kt pa pl) rfl iwX11 4 (by decide) mw_767 rfl dX11_channel_49 ?_
    refine q_get (v := .ref (ad 5)) C S (oT0 cI cB ad tr kt pa pl) rfl iwX7 13 (by decide) mw_788 rfl dX11_channel_52 ?_
    refine q_get (v := .ref (ad 6)) C S (oT5 cI cB ad tr kt pa pl) rfl iwX1 0 (by decide) mw_865 rfl dX11_channel_55 ?_
    refine lv_iload hx hb dX11_channel_58 (lv_at hl 0 rfl) ?_
    obtain ⟨g11, h⟩ := grd_some h
    refine q_iald C S (aT6 cI cB ad tr kt pa pl) 0 rfl g11 dX11_channel_60 (j := (v9 : Int32).toNatClampNeg) rfl ?_
    exact x_iret C S h ⟨Nat.le_of_ble_eq_true rfl, Nat.le_of_ble_eq_true rfl⟩ dX11_channel_61
  · have h := cnd_f c10 h
    by_cases c12 : x3 = 1
    · have h := cnd_t c12 h
      refine lv_tableIn (off := 44) (tgt := 62) hx hb dX11_channel_18 (by rw [c12]; decide) (by rw [c12]; decide) (by rw [c12]; rfl) (by decide) ?_
      refine lv_aload_n hx hb dX11_channel_62 rfl (lv_at hl 1 rfl) ?_
      refine q_get (v := .ref (ad 0)) C S (oT36 cI cB ad tr kt pa pl) rfl iwX11 4 (by decide) mw_767 rfl dX11_channel_63 ?_
      refine q_get (v := .ref (ad 5)) C S (oT0 cI cB ad tr kt pa pl) rfl iwX7 13 (by decide) mw_788 rfl dX11_channel_66 ?_
      refine q_get (v := .ref (ad 7)) C S (oT5 cI cB ad tr kt pa pl) rfl iwX1 1 (by decide) mw_789 rfl dX11_channel_69 ?_
      refine lv_iload hx hb dX11_channel_72 (lv_at hl 0 rfl) ?_
      obtain ⟨g13, h⟩ := grd_some h
      refine q_iald C S (aT7 cI cB ad tr kt pa pl) 0 rfl g13 dX11_channel_74 (j := (v9 : Int32).toNatClampNeg) rfl ?_
      exact x_iret C S h ⟨Nat.le_of_ble_eq_true rfl, Nat.le_of_ble_eq_true rfl⟩ dX11_channel_75
    · have h := cnd_f c12 h
      by_cases c14 : x3 = 2
      · have h := cnd_t c14 h
        refine lv_tableIn (off := 58) (tgt := 76) hx hb dX11_channel_18 (by rw [c14]; decide) (by rw [c14]; decide) (by rw [c14]; rfl) (by decide) ?_
        refine lv_aload_n hx hb dX11_channel_76 rfl (lv_at hl 1 rfl) ?_
        refine q_get (v := .ref (ad 0)) C S (oT36 cI cB ad tr kt pa pl) rfl iwX11 4 (by decide) mw_767 rfl dX11_channel_77 ?_
        refine q_get (v := .ref (ad 5)) C S (oT0 cI cB ad tr kt pa pl) rfl iwX7 13 (by decide) mw_788 rfl dX11_channel_80 ?_
        refine q_get (v := .ref (ad 9)) C S (oT5 cI cB ad tr kt pa pl) rfl iwX1 3 (by decide) mw_866 rfl dX11_channel_83 ?_
        refine lv_iload hx hb dX11_channel_86 (lv_at hl 0 rfl) ?_
        obtain ⟨g15, h⟩ := grd_some h
        refine q_iald C S (aT9 cI cB ad tr kt pa pl) 0 rfl g15 dX11_channel_88 (j := (v9 : Int32).toNatClampNeg) rfl ?_
        exact x_iret C S h ⟨Nat.le_of_ble_eq_true rfl, Nat.le_of_ble_eq_true rfl⟩ dX11_channel_89
      · have h := cnd_f c14 h
        by_cases c16 : x3 = 3
        · have h := cnd_t c16 h
          refine lv_tableIn (off := 72) (tgt := 90) hx hb dX11_channel_18 (by rw [c16]; decide) (by rw [c16]; decide) (by rw [c16]; rfl) (by decide) ?_
          refine lv_aload_n hx hb dX11_channel_90 rfl (lv_at hl 1 rfl) ?_
          refine q_get (v := .ref (ad 0)) C S (oT36 cI cB ad tr kt pa pl) rfl iwX11 4 (by decide) mw_767 rfl dX11_channel_91 ?_
          refine q_get (v := .ref (ad 5)) C S (oT0 cI cB ad tr kt pa pl) rfl iwX7 13 (by decide) mw_788 rfl dX11_channel_94 ?_
          refine q_get (v := .ref (ad 8)) C S (oT5 cI cB ad tr kt pa pl) rfl iwX1 2 (by decide) mw_867 rfl dX11_channel_97 ?_
          refine lv_iload hx hb dX11_channel_100 (lv_at hl 0 rfl) ?_
          obtain ⟨g17, h⟩ := grd_some h
          refine q_iald C S (aT8 cI cB ad tr kt pa pl) 0 rfl g17 dX11_channel_102 (j := (v9 : Int32).toNatClampNeg) rfl ?_
          exact x_iret C S h ⟨Nat.le_of_ble_eq_true rfl, Nat.le_of_ble_eq_true rfl⟩ dX11_channel_103
        · have h := cnd_f c16 h
          refine lv_tableOut (tgt := 104) hx hb dX11_channel_18 (sw_out (0) 4 (fun k hk => by
            rcases (show k = 0 ∨ k = 1 ∨ k = 2 ∨ k = 3 by omega) with rfl | rfl | rfl | rfl
            · exact sw_ne 0 _ (by decide) c10
            · exact sw_ne 1 _ (by decide) c12
            · exact sw_ne 2 _ (by decide) c14
            · exact sw_ne 3 _ (by decide) c16)) (by decide) ?_
          exact x_throwN C Kx Xc hfl S (kst_16 Kx) hsz dX11_channel_104 dX11_channel_107 dX11_channel_108 dX11_channel_110 dX11_channel_113 ⟨Nat.le_trans (Nat.le_of_ble_eq_true rfl) hR.1, Nat.le_trans (Nat.le_of_ble_eq_true rfl) hR.2⟩ (Nat.le_of_ble_eq_true rfl) (capX hC (Nat.le_of_ble_eq_true rfl) (Nat.le_of_ble_eq_true rfl)) ⟨Nat.le_of_ble_eq_true rfl, Nat.le_of_ble_eq_true rfl⟩ h
set_option maxRecDepth 10000 in
set_option maxHeartbeats 4000000 in
theorem ct_X11_channel (l : Launch) (hfl : l.stackTraces = false) (D : va_G) (cI cB cL : ClassId) (ka kv : Nat → Nat) (fv : Value) (ad : Nat → Nat) (tr kt pa pl : Nat) (x1 : Int32) (x2 : Int32) (x3 : Int32) (u : Sg) {z : Xr × Sg} (h : fX11_channel x1 x2 x3 u = some z) : metXI l D (tyl cI cB cL) ka kv fv yX11_channel cX11_channel 5 (some .int) 7 111 3 (wT cI cB ad tr kt pa pl) [.ref (ad 36), .int x1, .int x2, .int x3] u z := by
  intro sz
  refine vx_ofW (cc := cX11_channel) (maxL := 5) (ret := (some .int)) (by decide) rfl ?_
  intro p e s m args below meth c s₁ B hml Xc hv
  obtain ⟨rfl, C, S, Kx⟩ := q_entryK B hml hv
  have hl := lv_entry ([.ref (ad 36), .int x1, .int x2, .int x3]) (n := 5) (Nat.le_of_ble_eq_true rfl)
  rw [lg_entry_eq]
  generalize (lg_sl ([.ref (ad 36), .int x1, .int x2, .int x3]) ++ List.replicate (5 - (lg_sl ([.ref (ad 36), .int x1, .int x2, .int x3])).length) Slot.unset).toArray = ls at hl ⊢
  exact wX11_channel_0 C Kx Xc hfl ⟨Nat.le_refl _, Nat.le_refl _⟩ ⟨rfl, rfl⟩ u x1 x2 x3 (lv_sub hl [0, 1, 2, 3] rfl) S h
noncomputable def fX11_packet_38 (pl : Nat) (u : Sg) : Option (Xr × Sg) := some (.inr 0, u)
noncomputable def fX11_packet_0 (pl : Nat) (x1 : Int32) (x2 : Int32) (x3 : Int32) (x4 : Int32) (u : Sg) : Option (Xr × Sg) := obx (fX11_needNode x1 u) (fun u4 => obx (fX11_needNode x2 u4) (fun u8 => bnd (fX11_channelOf x1 x2) (fun v9 => cnd (x3 < 0) (fX11_packet_38 pl u8) (grd (vp_in v9 36) (cnd (x3 < (u8 9 ((v9 : Int32).toNatClampNeg))) (obr (fX1_cellAt pl v9 x3 (sbTN u8)) (fun r14 => cnd (x4 = 0) (grd (vp_in (r14 + 0) pl) (some (.inl (u8 10 (((r14 + 0) : Int32).toNatClampNeg)), u8))) (cnd (x4 = 1) (grd (vp_in (r14 + 1) pl) (some (.inl (u8 10 (((r14 + 1) : Int32).toNatClampNeg)), u8))) (cnd (x4 = 2) (grd (vp_in (r14 + 2) pl) (some (.inl (u8 10 (((r14 + 2) : Int32).toNatClampNeg)), u8))) (cnd (x4 = 3) (grd (vp_in (r14 + 3) pl) (some (.inl (fX11_numberOf (u8 10 (((r14 + 3) : Int32).toNatClampNeg))), u8))) (cnd (x4 = 4) (grd (vp_in (r14 + 3) pl) (some (.inl (fX11_nodeOf (u8 10 (((r14 + 3) : Int32).toNatClampNeg))), u8))) (some (.inr 1, u8)))))))) (fX11_packet_38 pl u8))))))
noncomputable def fX11_packet (pl : Nat) (x1 : Int32) (x2 : Int32) (x3 : Int32) (x4 : Int32) (u : Sg) : Option (Xr × Sg) := fX11_packet_0 pl x1 x2 x3 x4 u
set_option maxRecDepth 10000 in
set_option maxHeartbeats 4000000 in
theorem wX11_packet_38 (C : cx D (tyl cI cB cL) A RX11 cX11_packet 7 (some .int) p s m args c meth) (Kx : kx ka kv fv A s s.heap) (Xc : ∀ x ∈ c.exceptionTable.toList, False) (hfl : l.stackTraces = false) (hR : 7 ≤ R.frames ∧ 111 ≤ R.locals) {z : Xr × Sg} (hC : R.cells = 3 ∧ R.slots = 6 * 3) (u : Sg) {H : Heap} {locs : List Loc} {ls : Array Slot} (hl : lv_has ls 7 []) (S : st D (wT cI cB ad tr kt pa pl) A s u H locs) (h : fX11_packet_38 pl u = some z) : W p l e R s m args below meth c H locs 2 (6 * 2) (vx_MQ below (qXI D (tyl cI cB cL) (wT cI cB ad tr kt pa pl) A z) (xX D (tyl cI cB cL) (wT cI cB ad tr kt pa pl) A z) args s 3 (6 * 3) A) (F0 m 38 ls []) := by
  have hx := C.1
  have hb := C.2.1
  have hsz := hl.1
  unfold fX11_packet_38 at h
  exact x_throw C Kx Xc hfl S 0 (by decide +kernel) xat_0 xag_0 xao_0 xcl_0 xin_0 (kst_17 Kx) hsz dX11_packet_38 dX11_packet_41 dX11_packet_42 dX11_packet_44 dX11_packet_47 ⟨Nat.le_trans (Nat.le_of_ble_eq_true rfl) hR.1, Nat.le_trans (Nat.le_of_ble_eq_true rfl) hR.2⟩ (Nat.le_of_ble_eq_true rfl) (capX hC (Nat.le_of_ble_eq_true rfl) (Nat.le_of_ble_eq_true rfl)) ⟨Nat.le_of_ble_eq_true rfl, Nat.le_of_ble_eq_true rfl⟩ h
set_option maxRecDepth 10000 in
set_option maxHeartbeats 4000000 in
theorem wX11_packet_0 (C : cx D (tyl cI cB cL) A RX11 cX11_packet 7 (some .int) p s m args c meth) (Kx : kx ka kv fv A s s.heap) (Xc : ∀ x ∈ c.exceptionTable.toList, False) (hfl : l.stackTraces = false) (hR : 7 ≤ R.frames ∧ 111 ≤ R.locals) {z : Xr × Sg} (hC : R.cells = 3 ∧ R.slots = 6 * 3) (u : Sg) (x1 : Int32) (x2 : Int32) (x3 : Int32) (x4 : Int32) {H : Heap} {locs : List Loc} {ls : Array Slot} (hl : lv_has ls 7 [(0, .ref (ad 36)), (1, .int x1), (2, .int x2), (3, .int x3), (4, .int x4)]) (S : st D (wT cI cB ad tr kt pa pl) A s u H locs) (h : fX11_packet_0 pl x1 x2 x3 x4 u = some z) : W p l e R s m args below meth c H locs 0 0 (vx_MQ below (qXI D (tyl cI cB cL) (wT cI cB ad tr kt pa pl) A z) (xX D (tyl cI cB cL) (wT cI cB ad tr kt pa pl) A z) args s 3 (6 * 3) A) (F0 m 0 ls []) := by
  have hx := C.1
  have hb := C.2.1
  have hsz := hl.1
  unfold fX11_packet_0 at h
  refine lv_aload_n hx hb dX11_packet_0 rfl (lv_at hl 0 rfl) ?_
  refine lv_iload_n hx hb dX11_packet_1 rfl (lv_at hl 1 rfl) ?_
  obtain ⟨z1, h2, h3⟩ := obx_some h
  refine x_callVv (As := [.int x1]) (na := 1) C Kx Xc S (oT36 cI cB ad tr kt pa pl) rfl (ct_X11_needNode l hfl D cI cB cL ka kv fv ad tr kt pa pl x1 u h2) h3 mw_778 mw_779 mw_780 mw_321 mw_777 hdX11_needNode ⟨Nat.le_trans (Nat.le_of_ble_eq_true rfl) hR.1, Nat.le_trans (Nat.le_of_ble_eq_true rfl) hR.2⟩ rfl hsz (capX hC (Nat.le_of_ble_eq_true rfl) (Nat.le_of_ble_eq_true rfl)) ⟨Nat.le_of_ble_eq_true rfl, Nat.le_of_ble_eq_true rfl⟩ (Nat.le_of_ble_eq_true rfl) dX11_packet_2 rfl (fun u4 H locs h S => ?_)
  refine lv_aload_n hx hb dX11_packet_5 rfl (lv_at hl 0 rfl) ?_
  refine lv_iload_n hx hb dX11_packet_6 rfl (lv_at hl 2 rfl) ?_
  obtain ⟨z5, h6, h7⟩ := obx_some h
  refine x_callVv (As := [.int x2]) (na := 1) C Kx Xc S (oT36 cI cB ad tr kt pa pl) rfl (ct_X11_needNode l hfl D cI cB cL ka kv fv ad tr kt pa pl x2 u4 h6) h7 mw_778 mw_779 mw_780 mw_321 mw_777 hdX11_needNode ⟨Nat.le_trans (Nat.le_of_ble_eq_true rfl) hR.1, Nat.le_trans (Nat.le_of_ble_eq_true rfl) hR.2⟩ rfl hsz (capX hC (Nat.le_of_ble_eq_true rfl) (Nat.le_of_ble_eq_true rfl)) ⟨Nat.le_of_ble_eq_true rfl, Nat.le_of_ble_eq_true rfl⟩ (Nat.le_of_ble_eq_true rfl) dX11_packet_7 rfl (fun u8 H locs h S => ?_)
  refine lv_iload_n hx hb dX11_packet_10 rfl (lv_at hl 1 rfl) ?_
  refine lv_iload_n hx hb dX11_packet_11 rfl (lv_at hl 2 rfl) ?_
  refine q_callP (As := [.int x1, .int x2]) (na := 2) C S (ct_X11_channelOf l D cI cB cL x1 x2) mw_787 mw_406 mw_321 mw_405 hdX11_channelOf ⟨Nat.le_trans (Nat.le_of_ble_eq_true rfl) hR.1, Nat.le_trans (Nat.le_of_ble_eq_true rfl) hR.2⟩ rfl hsz (capX hC (Nat.le_of_ble_eq_true rfl) (Nat.le_of_ble_eq_true rfl)) (Nat.le_of_ble_eq_true rfl) dX11_packet_12 rfl (fun H locs S => ?_)
  refine lv_topi (fun v9 ev9 => ?_)
  have h := bnd_of ev9 h
  refine lv_istore (lv' := [(5, .int v9), (0, .ref (ad 36)), (1, .int x1), (2, .int x2), (3, .int x3), (4, .int x4)]) hx hb dX11_packet_15 hl (by decide) rfl (fun ls hl => ?_)
  have hsz := hl.1
  refine lv_iload_n hx hb dX11_packet_17 rfl (lv_at hl 4 rfl) ?_
  refine lv_if_lt (tgt := 38) hx hb dX11_packet_18 (by decide) (fun c10 => ?_) (fun c10 => ?_)
  · have h := cnd_t c10 h
    refine W.widen (k := 2) (n := (6 * 2)) (Nat.le_of_ble_eq_true rfl) (Nat.le_of_ble_eq_true rfl) ?_
    exact wX11_packet_38 C Kx Xc hfl hR hC u8 (lv_sub hl [] rfl) S h
  · have h := cnd_f c10 h
    refine lv_iload_n hx hb dX11_packet_21 rfl (lv_at hl 4 rfl) ?_
    refine lv_aload_n hx hb dX11_packet_22 rfl (lv_at hl 1 rfl) ?_
    refine q_get (v := .ref (ad 0)) C S (oT36 cI cB ad tr kt pa pl) rfl iwX11 4 (by decide) mw_767 rfl dX11_packet_23 ?_
    refine q_get (v := .ref (ad 5)) C S (oT0 cI cB ad tr kt pa pl) rfl iwX7 13 (by decide) mw_788 rfl dX11_packet_26 ?_
    refine q_get (v := .ref (ad 9)) C S (oT5 cI cB ad tr kt pa pl) rfl iwX1 3 (by decide) mw_866 rfl dX11_packet_29 ?_
    refine lv_iload hx hb dX11_packet_32 (lv_at hl 0 rfl) ?_
    obtain ⟨g11, h⟩ := grd_some h
    refine q_iald C S (aT9 cI cB ad tr kt pa pl) 0 rfl g11 dX11_packet_34 (j := (v9 : Int32).toNatClampNeg) rfl ?_
    refine lv_icmp_lt (tgt := 48) hx hb dX11_packet_35 (by decide) (fun c12 => ?_) (fun c12 => ?_)
    · have h := cnd_t c12 h
      refine lv_aload_n hx hb dX11_packet_48 rfl (lv_at hl 1 rfl) ?_
      refine q_get (v := .ref (ad 0)) C S (oT36 cI cB ad tr kt pa pl) rfl iwX11 4 (by decide) mw_767 rfl dX11_packet_49 ?_
      refine q_get (v := .ref (ad 5)) C S (oT0 cI cB ad tr kt pa pl) rfl iwX7 13 (by decide) mw_788 rfl dX11_packet_52 ?_
      refine lv_iload hx hb dX11_packet_55 (lv_at hl 0 rfl) ?_
      refine lv_iload_n hx hb dX11_packet_57 rfl (lv_at hl 4 rfl) ?_
      obtain ⟨r14, h13, h⟩ := obr_some h
      refine s_callViR (spl_TN cI cB ad tr kt) (As := [.int v9, .int x3]) (na := 2) C S (oN5 cI (adTN ad) pa pl) rfl (ct_X1_cellAt l D cI cB cL (adTN ad) pa pl v9 x3 (sbTN u8) h13) mw_869 mw_870 mw_871 mw_401 mw_868 hdX1_cellAt ⟨Nat.le_trans (Nat.le_of_ble_eq_true rfl) hR.1, Nat.le_trans (Nat.le_of_ble_eq_true rfl) hR.2⟩ rfl hsz (capX hC (Nat.le_of_ble_eq_true rfl) (Nat.le_of_ble_eq_true rfl)) (Nat.le_of_ble_eq_true rfl) dX11_packet_58 rfl (fun H locs S => ?_)
      refine lv_istore (lv' := [(6, .int r14), (5, .int v9), (0, .ref (ad 36)), (1, .int x1), (2, .int x2), (3, .int x3), (4, .int x4)]) hx hb dX11_packet_61 hl (by decide) rfl (fun ls hl => ?_)
      have hsz := hl.1
      refine lv_iload hx hb dX11_packet_63 (lv_at hl 6 rfl) ?_
      by_cases c15 : x4 = 0
      · have h := cnd_t c15 h
        refine lv_tableIn (off := 35) (tgt := 100) hx hb dX11_packet_65 (by rw [c15]; decide) (by rw [c15]; decide) (by rw [c15]; rfl) (by decide) ?_
        refine lv_aload_n hx hb dX11_packet_100 rfl (lv_at hl 2 rfl) ?_
        refine q_get (v := .ref (ad 0)) C S (oT36 cI cB ad tr kt pa pl) rfl iwX11 4 (by decide) mw_767 rfl dX11_packet_101 ?_
        refine q_get (v := .ref (ad 5)) C S (oT0 cI cB ad tr kt pa pl) rfl iwX7 13 (by decide) mw_788 rfl dX11_packet_104 ?_
        refine q_get (v := .ref pa) C S (oT5 cI cB ad tr kt pa pl) rfl iwX1 4 (by decide) mw_872 rfl dX11_packet_107 ?_
        refine lv_iload hx hb dX11_packet_110 (lv_at hl 0 rfl) ?_
        refine lv_iconst (v := 0) hx hb dX11_packet_112 (by decide) ?_
        refine lv_iadd hx hb dX11_packet_113 ?_
        obtain ⟨g16, h⟩ := grd_some h
        refine q_iald C S (aT10 cI cB ad tr kt pa pl) 0 rfl g16 dX11_packet_114 (j := ((r14 + 0) : Int32).toNatClampNeg) rfl ?_
        exact x_iret C S h ⟨Nat.le_of_ble_eq_true rfl, Nat.le_of_ble_eq_true rfl⟩ dX11_packet_115
      · have h := cnd_f c15 h
        by_cases c17 : x4 = 1
        · have h := cnd_t c17 h
          refine lv_tableIn (off := 51) (tgt := 116) hx hb dX11_packet_65 (by rw [c17]; decide) (by rw [c17]; decide) (by rw [c17]; rfl) (by decide) ?_
          refine lv_aload_n hx hb dX11_packet_116 rfl (lv_at hl 2 rfl) ?_
          refine q_get (v := .ref (ad 0)) C S (oT36 cI cB ad tr kt pa pl) rfl iwX11 4 (by decide) mw_767 rfl dX11_packet_117 ?_
          refine q_get (v := .ref (ad 5)) C S (oT0 cI cB ad tr kt pa pl) rfl iwX7 13 (by decide) mw_788 rfl dX11_packet_120 ?_
          refine q_get (v := .ref pa) C S (oT5 cI cB ad tr kt pa pl) rfl iwX1 4 (by decide) mw_872 rfl dX11_packet_123 ?_
          refine lv_iload hx hb dX11_packet_126 (lv_at hl 0 rfl) ?_
          refine lv_iconst (v := 1) hx hb dX11_packet_128 (by decide) ?_
          refine lv_iadd hx hb dX11_packet_129 ?_
          obtain ⟨g18, h⟩ := grd_some h
          refine q_iald C S (aT10 cI cB ad tr kt pa pl) 0 rfl g18 dX11_packet_130 (j := ((r14 + 1) : Int32).toNatClampNeg) rfl ?_
          exact x_iret C S h ⟨Nat.le_of_ble_eq_true rfl, Nat.le_of_ble_eq_true rfl⟩ dX11_packet_131
        · have h := cnd_f c17 h
          by_cases c19 : x4 = 2
          · have h := cnd_t c19 h
            refine lv_tableIn (off := 67) (tgt := 132) hx hb dX11_packet_65 (by rw [c19]; decide) (by rw [c19]; decide) (by rw [c19]; rfl) (by decide) ?_
            refine lv_aload_n hx hb dX11_packet_132 rfl (lv_at hl 2 rfl) ?_
            refine q_get (v := .ref (ad 0)) C S (oT36 cI cB ad tr kt pa pl) rfl iwX11 4 (by decide) mw_767 rfl dX11_packet_133 ?_
            refine q_get (v := .ref (ad 5)) C S (oT0 cI cB ad tr kt pa pl) rfl iwX7 13 (by decide) mw_788 rfl dX11_packet_136 ?_
            refine q_get (v := .ref pa) C S (oT5 cI cB ad tr kt pa pl) rfl iwX1 4 (by decide) mw_872 rfl dX11_packet_139 ?_
            refine lv_iload hx hb dX11_packet_142 (lv_at hl 0 rfl) ?_
            refine lv_iconst (v := 2) hx hb dX11_packet_144 (by decide) ?_
            refine lv_iadd hx hb dX11_packet_145 ?_
            obtain ⟨g20, h⟩ := grd_some h
            refine q_iald C S (aT10 cI cB ad tr kt pa pl) 0 rfl g20 dX11_packet_146 (j := ((r14 + 2) : Int32).toNatClampNeg) rfl ?_
            exact x_iret C S h ⟨Nat.le_of_ble_eq_true rfl, Nat.le_of_ble_eq_true rfl⟩ dX11_packet_147
          · have h := cnd_f c19 h
            by_cases c21 : x4 = 3
            · have h := cnd_t c21 h
              refine lv_tableIn (off := 83) (tgt := 148) hx hb dX11_packet_65 (by rw [c21]; decide) (by rw [c21]; decide) (by rw [c21]; rfl) (by decide) ?_
              refine lv_aload_n hx hb dX11_packet_148 rfl (lv_at hl 2 rfl) ?_
              refine q_get (v := .ref (ad 0)) C S (oT36 cI cB ad tr kt pa pl) rfl iwX11 4 (by decide) mw_767 rfl dX11_packet_149 ?_
              refine q_get (v := .ref (ad 5)) C S (oT0 cI cB ad tr kt pa pl) rfl iwX7 13 (by decide) mw_788 rfl dX11_packet_152 ?_
              refine q_get (v := .ref pa) C S (oT5 cI cB ad tr kt pa pl) rfl iwX1 4 (by decide) mw_872 rfl dX11_packet_155 ?_
              refine lv_iload hx hb dX11_packet_158 (lv_at hl 0 rfl) ?_
              refine lv_iconst (v := 3) hx hb dX11_packet_160 (by decide) ?_
              refine lv_iadd hx hb dX11_packet_161 ?_
              obtain ⟨g22, h⟩ := grd_some h
              refine q_iald C S (aT10 cI cB ad tr kt pa pl) 0 rfl g22 dX11_packet_162 (j := ((r14 + 3) : Int32).toNatClampNeg) rfl ?_
              refine q_callP (As := [.int (u8 10 (((r14 + 3) : Int32).toNatClampNeg))]) (na := 1) C S (ct_X11_numberOf l D cI cB cL (u8 10 (((r14 + 3) : Int32).toNatClampNeg))) mw_863 mw_502 mw_321 mw_501 hdX11_numberOf ⟨Nat.le_trans (Nat.le_of_ble_eq_true rfl) hR.1, Nat.le_trans (Nat.le_of_ble_eq_true rfl) hR.2⟩ rfl hsz (capX hC (Nat.le_of_ble_eq_true rfl) (Nat.le_of_ble_eq_true rfl)) (Nat.le_of_ble_eq_true rfl) dX11_packet_163 rfl (fun H locs S => ?_)
              exact x_iret C S h ⟨Nat.le_of_ble_eq_true rfl, Nat.le_of_ble_eq_true rfl⟩ dX11_packet_166
            · have h := cnd_f c21 h
              by_cases c23 : x4 = 4
              · have h := cnd_t c23 h
                refine lv_tableIn (off := 102) (tgt := 167) hx hb dX11_packet_65 (by rw [c23]; decide) (by rw [c23]; decide) (by rw [c23]; rfl) (by decide) ?_
                refine lv_aload_n hx hb dX11_packet_167 rfl (lv_at hl 2 rfl) ?_
                refine q_get (v := .ref (ad 0)) C S (oT36 cI cB ad tr kt pa pl) rfl iwX11 4 (by decide) mw_767 rfl dX11_packet_168 ?_
                refine q_get (v := .ref (ad 5)) C S (oT0 cI cB ad tr kt pa pl) rfl iwX7 13 (by decide) mw_788 rfl dX11_packet_171 ?_
                refine q_get (v := .ref pa) C S (oT5 cI cB ad tr kt pa pl) rfl iwX1 4 (by decide) mw_872 rfl dX11_packet_174 ?_
                refine lv_iload hx hb dX11_packet_177 (lv_at hl 0 rfl) ?_
                refine lv_iconst (v := 3) hx hb dX11_packet_179 (by decide) ?_
                refine lv_iadd hx hb dX11_packet_180 ?_
                obtain ⟨g24, h⟩ := grd_some h
                refine q_iald C S (aT10 cI cB ad tr kt pa pl) 0 rfl g24 dX11_packet_181 (j := ((r14 + 3) : Int32).toNatClampNeg) rfl ?_
                refine q_callP (As := [.int (u8 10 (((r14 + 3) : Int32).toNatClampNeg))]) (na := 1) C S (ct_X11_nodeOf l D cI cB cL (u8 10 (((r14 + 3) : Int32).toNatClampNeg))) mw_862 mw_861 mw_321 mw_860 hdX11_nodeOf ⟨Nat.le_trans (Nat.le_of_ble_eq_true rfl) hR.1, Nat.le_trans (Nat.le_of_ble_eq_true rfl) hR.2⟩ rfl hsz (capX hC (Nat.le_of_ble_eq_true rfl) (Nat.le_of_ble_eq_true rfl)) (Nat.le_of_ble_eq_true rfl) dX11_packet_182 rfl (fun H locs S => ?_)
                exact x_iret C S h ⟨Nat.le_of_ble_eq_true rfl, Nat.le_of_ble_eq_true rfl⟩ dX11_packet_185
              · have h := cnd_f c23 h
                refine lv_tableOut (tgt := 186) hx hb dX11_packet_65 (sw_out (0) 5 (fun k hk => by
                  rcases (show k = 0 ∨ k = 1 ∨ k = 2 ∨ k = 3 ∨ k = 4 by omega) with rfl | rfl | rfl | rfl | rfl
                  · exact sw_ne 0 _ (by decide) c15
                  · exact sw_ne 1 _ (by decide) c17
                  · exact sw_ne 2 _ (by decide) c19
                  · exact sw_ne 3 _ (by decide) c21
                  · exact sw_ne 4 _ (by decide) c23)) (by decide) ?_
                exact x_throwN C Kx Xc hfl S (kst_18 Kx) hsz dX11_packet_186 dX11_packet_189 dX11_packet_190 dX11_packet_192 dX11_packet_195 ⟨Nat.le_trans (Nat.le_of_ble_eq_true rfl) hR.1, Nat.le_trans (Nat.le_of_ble_eq_true rfl) hR.2⟩ (Nat.le_of_ble_eq_true rfl) (capX hC (Nat.le_of_ble_eq_true rfl) (Nat.le_of_ble_eq_true rfl)) ⟨Nat.le_of_ble_eq_true rfl, Nat.le_of_ble_eq_true rfl⟩ h
    · have h := cnd_f c12 h
      refine W.widen (k := 2) (n := (6 * 2)) (Nat.le_of_ble_eq_true rfl) (Nat.le_of_ble_eq_true rfl) ?_
      exact wX11_packet_38 C Kx Xc hfl hR hC u8 (lv_sub hl [] rfl) S h
set_option maxRecDepth 10000 in
set_option maxHeartbeats 4000000 in
theorem ct_X11_packet (l : Launch) (hfl : l.stackTraces = false) (D : va_G) (cI cB cL : ClassId) (ka kv : Nat → Nat) (fv : Value) (ad : Nat → Nat) (tr kt pa pl : Nat) (x1 : Int32) (x2 : Int32) (x3 : Int32) (x4 : Int32) (u : Sg) {z : Xr × Sg} (h : fX11_packet pl x1 x2 x3 x4 u = some z) : metXI l D (tyl cI cB cL) ka kv fv yX11_packet cX11_packet 7 (some .int) 7 111 3 (wT cI cB ad tr kt pa pl) [.ref (ad 36), .int x1, .int x2, .int x3, .int x4] u z := by
  intro sz
  refine vx_ofW (cc := cX11_packet) (maxL := 7) (ret := (some .int)) (by decide) rfl ?_
  intro p e s m args below meth c s₁ B hml Xc hv
  obtain ⟨rfl, C, S, Kx⟩ := q_entryK B hml hv
  have hl := lv_entry ([.ref (ad 36), .int x1, .int x2, .int x3, .int x4]) (n := 7) (Nat.le_of_ble_eq_true rfl)
  rw [lg_entry_eq]
  generalize (lg_sl ([.ref (ad 36), .int x1, .int x2, .int x3, .int x4]) ++ List.replicate (7 - (lg_sl ([.ref (ad 36), .int x1, .int x2, .int x3, .int x4])).length) Slot.unset).toArray = ls at hl ⊢
  exact wX11_packet_0 C Kx Xc hfl ⟨Nat.le_refl _, Nat.le_refl _⟩ ⟨rfl, rfl⟩ u x1 x2 x3 x4 (lv_sub hl [0, 1, 2, 3, 4] rfl) S h
noncomputable def fX11_gather_0 (x1 : Int32) (x2 : Int32) (x3 : Int32) (u : Sg) : Option (Xr × Sg) := obx (fX11_needNode x1 u) (fun u4 => obx (fX11_needMessage x2 u4) (fun u8 => bnd (fX11_spotOf x1 x2) (fun v9 => obr (fX3_isOn v9 (sbTN u8)) (fun r11 => cnd (r11 = 0) (some (.inr 2, u8)) (cnd (x3 = 0) (grd (vp_in v9 120) (some (.inl (u8 27 ((v9 : Int32).toNatClampNeg)), u8))) (cnd (x3 = 1) (grd (vp_in v9 120) (some (.inl (fX11_numberOf (u8 28 ((v9 : Int32).toNatClampNeg))), u8))) (cnd (x3 = 2) (grd (vp_in v9 120) (some (.inl (fX11_nodeOf (u8 28 ((v9 : Int32).toNatClampNeg))), u8))) (cnd (x3 = 3) (grd (vp_in v9 120) (some (.inl (fX11_numberOf (u8 29 ((v9 : Int32).toNatClampNeg))), u8))) (some (.inr 1, u8))))))))))
noncomputable def fX11_gather (x1 : Int32) (x2 : Int32) (x3 : Int32) (u : Sg) : Option (Xr × Sg) := fX11_gather_0 x1 x2 x3 u
set_option maxRecDepth 10000 in
set_option maxHeartbeats 4000000 in
theorem wX11_gather_0 (C : cx D (tyl cI cB cL) A RX11 cX11_gather 5 (some .int) p s m args c meth) (Kx : kx ka kv fv A s s.heap) (Xc : ∀ x ∈ c.exceptionTable.toList, False) (hfl : l.stackTraces = false) (hR : 7 ≤ R.frames ∧ 111 ≤ R.locals) {z : Xr × Sg} (hC : R.cells = 3 ∧ R.slots = 6 * 3) (u : Sg) (x1 : Int32) (x2 : Int32) (x3 : Int32) {H : Heap} {locs : List Loc} {ls : Array Slot} (hl : lv_has ls 5 [(0, .ref (ad 36)), (1, .int x1), (2, .int x2), (3, .int x3)]) (S : st D (wT cI cB ad tr kt pa pl) A s u H locs) (h : fX11_gather_0 x1 x2 x3 u = some z) : W p l e R s m args below meth c H locs 0 0 (vx_MQ below (qXI D (tyl cI cB cL) (wT cI cB ad tr kt pa pl) A z) (xX D (tyl cI cB cL) (wT cI cB ad tr kt pa pl) A z) args s 3 (6 * 3) A) (F0 m 0 ls []) := by
  have hx := C.1
  have hb := C.2.1
  have hsz := hl.1
  unfold fX11_gather_0 at h
  refine lv_aload_n hx hb dX11_gather_0 rfl (lv_at hl 0 rfl) ?_
  refine lv_iload_n hx hb dX11_gather_1 rfl (lv_at hl 1 rfl) ?_
  obtain ⟨z1, h2, h3⟩ := obx_some h
  refine x_callVv (As := [.int x1]) (na := 1) C Kx Xc S (oT36 cI cB ad tr kt pa pl) rfl (ct_X11_needNode l hfl D cI cB cL ka kv fv ad tr kt pa pl x1 u h2) h3 mw_778 mw_779 mw_780 mw_321 mw_777 hdX11_needNode ⟨Nat.le_trans (Nat.le_of_ble_eq_true rfl) hR.1, Nat.le_trans (Nat.le_of_ble_eq_true rfl) hR.2⟩ rfl hsz (capX hC (Nat.le_of_ble_eq_true rfl) (Nat.le_of_ble_eq_true rfl)) ⟨Nat.le_of_ble_eq_true rfl, Nat.le_of_ble_eq_true rfl⟩ (Nat.le_of_ble_eq_true rfl) dX11_gather_2 rfl (fun u4 H locs h S => ?_)
  refine lv_aload_n hx hb dX11_gather_5 rfl (lv_at hl 0 rfl) ?_
  refine lv_iload_n hx hb dX11_gather_6 rfl (lv_at hl 2 rfl) ?_
  obtain ⟨z5, h6, h7⟩ := obx_some h
  refine x_callVv (As := [.int x2]) (na := 1) C Kx Xc S (oT36 cI cB ad tr kt pa pl) rfl (ct_X11_needMessage l hfl D cI cB cL ka kv fv ad tr kt pa pl x2 u4 h6) h7 mw_791 mw_792 mw_793 mw_321 mw_790 hdX11_needMessage ⟨Nat.le_trans (Nat.le_of_ble_eq_true rfl) hR.1, Nat.le_trans (Nat.le_of_ble_eq_true rfl) hR.2⟩ rfl hsz (capX hC (Nat.le_of_ble_eq_true rfl) (Nat.le_of_ble_eq_true rfl)) ⟨Nat.le_of_ble_eq_true rfl, Nat.le_of_ble_eq_true rfl⟩ (Nat.le_of_ble_eq_true rfl) dX11_gather_7 rfl (fun u8 H locs h S => ?_)
  refine lv_iload_n hx hb dX11_gather_10 rfl (lv_at hl 1 rfl) ?_
  refine lv_iload_n hx hb dX11_gather_11 rfl (lv_at hl 2 rfl) ?_
  refine q_callP (As := [.int x1, .int x2]) (na := 2) C S (ct_X11_spotOf l D cI cB cL x1 x2) mw_784 mw_322 mw_321 mw_320 hdX11_spotOf ⟨Nat.le_trans (Nat.le_of_ble_eq_true rfl) hR.1, Nat.le_trans (Nat.le_of_ble_eq_true rfl) hR.2⟩ rfl hsz (capX hC (Nat.le_of_ble_eq_true rfl) (Nat.le_of_ble_eq_true rfl)) (Nat.le_of_ble_eq_true rfl) dX11_gather_12 rfl (fun H locs S => ?_)
  refine lv_topi (fun v9 ev9 => ?_)
  have h := bnd_of ev9 h
  refine lv_istore (lv' := [(4, .int v9), (0, .ref (ad 36)), (1, .int x1), (2, .int x2), (3, .int x3)]) hx hb dX11_gather_15 hl (by decide) rfl (fun ls hl => ?_)
  have hsz := hl.1
  refine lv_aload_n hx hb dX11_gather_17 rfl (lv_at hl 1 rfl) ?_
  refine q_get (v := .ref (ad 0)) C S (oT36 cI cB ad tr kt pa pl) rfl iwX11 4 (by decide) mw_767 rfl dX11_gather_18 ?_
  refine q_get (v := .ref (ad 26)) C S (oT0 cI cB ad tr kt pa pl) rfl iwX7 16 (by decide) mw_873 rfl dX11_gather_21 ?_
  refine lv_iload hx hb dX11_gather_24 (lv_at hl 0 rfl) ?_
  obtain ⟨r11, h10, h⟩ := obr_some h
  refine s_callViR (spl_TN cI cB ad tr kt) (As := [.int v9]) (na := 1) C S (oN26 cI (adTN ad) pa pl) rfl (ct_X3_isOn l D cI cB cL (adTN ad) pa pl v9 (sbTN u8) h10) mw_874 mw_327 mw_329 mw_326 mw_325 hdX3_isOn ⟨Nat.le_trans (Nat.le_of_ble_eq_true rfl) hR.1, Nat.le_trans (Nat.le_of_ble_eq_true rfl) hR.2⟩ rfl hsz (capX hC (Nat.le_of_ble_eq_true rfl) (Nat.le_of_ble_eq_true rfl)) (Nat.le_of_ble_eq_true rfl) dX11_gather_26 rfl (fun H locs S => ?_)
  refine lv_if_ne (tgt := 42) hx hb dX11_gather_29 (by decide) (fun c12 => ?_) (fun c12 => ?_)
  · have h := cnd_f c12 h
    refine lv_iload_n hx hb dX11_gather_42 rfl (lv_at hl 4 rfl) ?_
    by_cases c13 : x3 = 0
    · have h := cnd_t c13 h
      refine lv_tableIn (off := 29) (tgt := 72) hx hb dX11_gather_43 (by rw [c13]; decide) (by rw [c13]; decide) (by rw [c13]; rfl) (by decide) ?_
      refine lv_aload_n hx hb dX11_gather_72 rfl (lv_at hl 1 rfl) ?_
      refine q_get (v := .ref (ad 0)) C S (oT36 cI cB ad tr kt pa pl) rfl iwX11 4 (by decide) mw_767 rfl dX11_gather_73 ?_
      refine q_get (v := .ref (ad 26)) C S (oT0 cI cB ad tr kt pa pl) rfl iwX7 16 (by decide) mw_873 rfl dX11_gather_76 ?_
      refine q_get (v := .ref (ad 27)) C S (oT26 cI cB ad tr kt pa pl) rfl iwX3 0 (by decide) mw_875 rfl dX11_gather_79 ?_
      refine lv_iload hx hb dX11_gather_82 (lv_at hl 0 rfl) ?_
      obtain ⟨g14, h⟩ := grd_some h
      refine q_iald C S (aT27 cI cB ad tr kt pa pl) 0 rfl g14 dX11_gather_84 (j := (v9 : Int32).toNatClampNeg) rfl ?_
      exact x_iret C S h ⟨Nat.le_of_ble_eq_true rfl, Nat.le_of_ble_eq_true rfl⟩ dX11_gather_85
    · have h := cnd_f c13 h
      by_cases c15 : x3 = 1
      · have h := cnd_t c15 h
        refine lv_tableIn (off := 43) (tgt := 86) hx hb dX11_gather_43 (by rw [c15]; decide) (by rw [c15]; decide) (by rw [c15]; rfl) (by decide) ?_
        refine lv_aload_n hx hb dX11_gather_86 rfl (lv_at hl 1 rfl) ?_
        refine q_get (v := .ref (ad 0)) C S (oT36 cI cB ad tr kt pa pl) rfl iwX11 4 (by decide) mw_767 rfl dX11_gather_87 ?_
        refine q_get (v := .ref (ad 26)) C S (oT0 cI cB ad tr kt pa pl) rfl iwX7 16 (by decide) mw_873 rfl dX11_gather_90 ?_
        refine q_get (v := .ref (ad 28)) C S (oT26 cI cB ad tr kt pa pl) rfl iwX3 1 (by decide) mw_876 rfl dX11_gather_93 ?_
        refine lv_iload hx hb dX11_gather_96 (lv_at hl 0 rfl) ?_
        obtain ⟨g16, h⟩ := grd_some h
        refine q_iald C S (aT28 cI cB ad tr kt pa pl) 0 rfl g16 dX11_gather_98 (j := (v9 : Int32).toNatClampNeg) rfl ?_
        refine q_callP (As := [.int (u8 28 ((v9 : Int32).toNatClampNeg))]) (na := 1) C S (ct_X11_numberOf l D cI cB cL (u8 28 ((v9 : Int32).toNatClampNeg))) mw_863 mw_502 mw_321 mw_501 hdX11_numberOf ⟨Nat.le_trans (Nat.le_of_ble_eq_true rfl) hR.1, Nat.le_trans (Nat.le_of_ble_eq_true rfl) hR.2⟩ rfl hsz (capX hC (Nat.le_of_ble_eq_true rfl) (Nat.le_of_ble_eq_true rfl)) (Nat.le_of_ble_eq_true rfl) dX11_gather_99 rfl (fun H locs S => ?_)
        exact x_iret C S h ⟨Nat.le_of_ble_eq_true rfl, Nat.le_of_ble_eq_true rfl⟩ dX11_gather_102
      · have h := cnd_f c15 h
        by_cases c17 : x3 = 2
        · have h := cnd_t c17 h
          refine lv_tableIn (off := 60) (tgt := 103) hx hb dX11_gather_43 (by rw [c17]; decide) (by rw [c17]; decide) (by rw [c17]; rfl) (by decide) ?_
          refine lv_aload_n hx hb dX11_gather_103 rfl (lv_at hl 1 rfl) ?_
          refine q_get (v := .ref (ad 0)) C S (oT36 cI cB ad tr kt pa pl) rfl iwX11 4 (by decide) mw_767 rfl dX11_gather_104 ?_
          refine q_get (v := .ref (ad 26)) C S (oT0 cI cB ad tr kt pa pl) rfl iwX7 16 (by decide) mw_873 rfl dX11_gather_107 ?_
          refine q_get (v := .ref (ad 28)) C S (oT26 cI cB ad tr kt pa pl) rfl iwX3 1 (by decide) mw_876 rfl dX11_gather_110 ?_
          refine lv_iload hx hb dX11_gather_113 (lv_at hl 0 rfl) ?_
          obtain ⟨g18, h⟩ := grd_some h
          refine q_iald C S (aT28 cI cB ad tr kt pa pl) 0 rfl g18 dX11_gather_115 (j := (v9 : Int32).toNatClampNeg) rfl ?_
          refine q_callP (As := [.int (u8 28 ((v9 : Int32).toNatClampNeg))]) (na := 1) C S (ct_X11_nodeOf l D cI cB cL (u8 28 ((v9 : Int32).toNatClampNeg))) mw_862 mw_861 mw_321 mw_860 hdX11_nodeOf ⟨Nat.le_trans (Nat.le_of_ble_eq_true rfl) hR.1, Nat.le_trans (Nat.le_of_ble_eq_true rfl) hR.2⟩ rfl hsz (capX hC (Nat.le_of_ble_eq_true rfl) (Nat.le_of_ble_eq_true rfl)) (Nat.le_of_ble_eq_true rfl) dX11_gather_116 rfl (fun H locs S => ?_)
          exact x_iret C S h ⟨Nat.le_of_ble_eq_true rfl, Nat.le_of_ble_eq_true rfl⟩ dX11_gather_119
        · have h := cnd_f c17 h
          by_cases c19 : x3 = 3
          · have h := cnd_t c19 h
            refine lv_tableIn (off := 77) (tgt := 120) hx hb dX11_gather_43 (by rw [c19]; decide) (by rw [c19]; decide) (by rw [c19]; rfl) (by decide) ?_
            refine lv_aload_n hx hb dX11_gather_120 rfl (lv_at hl 1 rfl) ?_
            refine q_get (v := .ref (ad 0)) C S (oT36 cI cB ad tr kt pa pl) rfl iwX11 4 (by decide) mw_767 rfl dX11_gather_121 ?_
            refine q_get (v := .ref (ad 26)) C S (oT0 cI cB ad tr kt pa pl) rfl iwX7 16 (by decide) mw_873 rfl dX11_gather_124 ?_
            refine q_get (v := .ref (ad 29)) C S (oT26 cI cB ad tr kt pa pl) rfl iwX3 2 (by decide) mw_877 rfl dX11_gather_127 ?_
            refine lv_iload hx hb dX11_gather_130 (lv_at hl 0 rfl) ?_
            obtain ⟨g20, h⟩ := grd_some h
            refine q_iald C S (aT29 cI cB ad tr kt pa pl) 0 rfl g20 dX11_gather_132 (j := (v9 : Int32).toNatClampNeg) rfl ?_
            refine q_callP (As := [.int (u8 29 ((v9 : Int32).toNatClampNeg))]) (na := 1) C S (ct_X11_numberOf l D cI cB cL (u8 29 ((v9 : Int32).toNatClampNeg))) mw_863 mw_502 mw_321 mw_501 hdX11_numberOf ⟨Nat.le_trans (Nat.le_of_ble_eq_true rfl) hR.1, Nat.le_trans (Nat.le_of_ble_eq_true rfl) hR.2⟩ rfl hsz (capX hC (Nat.le_of_ble_eq_true rfl) (Nat.le_of_ble_eq_true rfl)) (Nat.le_of_ble_eq_true rfl) dX11_gather_133 rfl (fun H locs S => ?_)
            exact x_iret C S h ⟨Nat.le_of_ble_eq_true rfl, Nat.le_of_ble_eq_true rfl⟩ dX11_gather_136
          · have h := cnd_f c19 h
            refine lv_tableOut (tgt := 137) hx hb dX11_gather_43 (sw_out (0) 4 (fun k hk => by
              rcases (show k = 0 ∨ k = 1 ∨ k = 2 ∨ k = 3 by omega) with rfl | rfl | rfl | rfl
              · exact sw_ne 0 _ (by decide) c13
              · exact sw_ne 1 _ (by decide) c15
              · exact sw_ne 2 _ (by decide) c17
              · exact sw_ne 3 _ (by decide) c19)) (by decide) ?_
            exact x_throwN C Kx Xc hfl S (kst_20 Kx) hsz dX11_gather_137 dX11_gather_140 dX11_gather_141 dX11_gather_143 dX11_gather_146 ⟨Nat.le_trans (Nat.le_of_ble_eq_true rfl) hR.1, Nat.le_trans (Nat.le_of_ble_eq_true rfl) hR.2⟩ (Nat.le_of_ble_eq_true rfl) (capX hC (Nat.le_of_ble_eq_true rfl) (Nat.le_of_ble_eq_true rfl)) ⟨Nat.le_of_ble_eq_true rfl, Nat.le_of_ble_eq_true rfl⟩ h
  · have h := cnd_t c12 h
    exact x_throw C Kx Xc hfl S 2 (by decide +kernel) xat_2 xag_2 xao_2 xcl_2 xin_2 (kst_19 Kx) hsz dX11_gather_32 dX11_gather_35 dX11_gather_36 dX11_gather_38 dX11_gather_41 ⟨Nat.le_trans (Nat.le_of_ble_eq_true rfl) hR.1, Nat.le_trans (Nat.le_of_ble_eq_true rfl) hR.2⟩ (Nat.le_of_ble_eq_true rfl) (capX hC (Nat.le_of_ble_eq_true rfl) (Nat.le_of_ble_eq_true rfl)) ⟨Nat.le_of_ble_eq_true rfl, Nat.le_of_ble_eq_true rfl⟩ h
set_option maxRecDepth 10000 in
set_option maxHeartbeats 4000000 in
theorem ct_X11_gather (l : Launch) (hfl : l.stackTraces = false) (D : va_G) (cI cB cL : ClassId) (ka kv : Nat → Nat) (fv : Value) (ad : Nat → Nat) (tr kt pa pl : Nat) (x1 : Int32) (x2 : Int32) (x3 : Int32) (u : Sg) {z : Xr × Sg} (h : fX11_gather x1 x2 x3 u = some z) : metXI l D (tyl cI cB cL) ka kv fv yX11_gather cX11_gather 5 (some .int) 7 111 3 (wT cI cB ad tr kt pa pl) [.ref (ad 36), .int x1, .int x2, .int x3] u z := by
  intro sz
  refine vx_ofW (cc := cX11_gather) (maxL := 5) (ret := (some .int)) (by decide) rfl ?_
  intro p e s m args below meth c s₁ B hml Xc hv
  obtain ⟨rfl, C, S, Kx⟩ := q_entryK B hml hv
  have hl := lv_entry ([.ref (ad 36), .int x1, .int x2, .int x3]) (n := 5) (Nat.le_of_ble_eq_true rfl)
  rw [lg_entry_eq]
  generalize (lg_sl ([.ref (ad 36), .int x1, .int x2, .int x3]) ++ List.replicate (5 - (lg_sl ([.ref (ad 36), .int x1, .int x2, .int x3])).length) Slot.unset).toArray = ls at hl ⊢
  exact wX11_gather_0 C Kx Xc hfl ⟨Nat.le_refl _, Nat.le_refl _⟩ ⟨rfl, rfl⟩ u x1 x2 x3 (lv_sub hl [0, 1, 2, 3] rfl) S h
noncomputable def fX11_those_0 (x1 : Int32) (x2 : Int32) (u : Sg) : Option (Xr × Sg) := obx (fX11_needNode x1 u) (fun u4 => obx (fX11_needWhat x2 1 3 u4) (fun u8 => obr (fX7_messagesAt x1 x2 (sbTN u8)) (fun r10 => some (.inl r10, u8))))
noncomputable def fX11_those (x1 : Int32) (x2 : Int32) (u : Sg) : Option (Xr × Sg) := fX11_those_0 x1 x2 u
set_option maxRecDepth 10000 in
set_option maxHeartbeats 4000000 in
theorem wX11_those_0 (C : cx D (tyl cI cB cL) A RX11 cX11_those 3 (some .int) p s m args c meth) (Kx : kx ka kv fv A s s.heap) (Xc : ∀ x ∈ c.exceptionTable.toList, False) (hfl : l.stackTraces = false) (hR : 7 ≤ R.frames ∧ 112 ≤ R.locals) {z : Xr × Sg} (hC : R.cells = 2 ∧ R.slots = 6 * 2) (u : Sg) (x1 : Int32) (x2 : Int32) {H : Heap} {locs : List Loc} {ls : Array Slot} (hl : lv_has ls 3 [(0, .ref (ad 36)), (1, .int x1), (2, .int x2)]) (S : st D (wT cI cB ad tr kt pa pl) A s u H locs) (h : fX11_those_0 x1 x2 u = some z) : W p l e R s m args below meth c H locs 0 0 (vx_MQ below (qXI D (tyl cI cB cL) (wT cI cB ad tr kt pa pl) A z) (xX D (tyl cI cB cL) (wT cI cB ad tr kt pa pl) A z) args s 2 (6 * 2) A) (F0 m 0 ls []) := by
  have hx := C.1
  have hb := C.2.1
  have hsz := hl.1
  unfold fX11_those_0 at h
  refine lv_aload_n hx hb dX11_those_0 rfl (lv_at hl 0 rfl) ?_
  refine lv_iload_n hx hb dX11_those_1 rfl (lv_at hl 1 rfl) ?_
  obtain ⟨z1, h2, h3⟩ := obx_some h
  refine x_callVv (As := [.int x1]) (na := 1) C Kx Xc S (oT36 cI cB ad tr kt pa pl) rfl (ct_X11_needNode l hfl D cI cB cL ka kv fv ad tr kt pa pl x1 u h2) h3 mw_778 mw_779 mw_780 mw_321 mw_777 hdX11_needNode ⟨Nat.le_trans (Nat.le_of_ble_eq_true rfl) hR.1, Nat.le_trans (Nat.le_of_ble_eq_true rfl) hR.2⟩ rfl hsz (capX hC (Nat.le_of_ble_eq_true rfl) (Nat.le_of_ble_eq_true rfl)) ⟨Nat.le_of_ble_eq_true rfl, Nat.le_of_ble_eq_true rfl⟩ (Nat.le_of_ble_eq_true rfl) dX11_those_2 rfl (fun u4 H locs h S => ?_)
  refine lv_iload_n hx hb dX11_those_5 rfl (lv_at hl 2 rfl) ?_
  refine lv_iconst (v := 1) hx hb dX11_those_6 (by decide) ?_
  refine lv_iconst (v := 3) hx hb dX11_those_7 (by decide) ?_
  obtain ⟨z5, h6, h7⟩ := obx_some h
  refine x_callSv (As := [.int x2, .int 1, .int 3]) (na := 3) C Kx Xc S (ct_X11_needWhat l hfl D cI cB cL ka kv fv ad tr kt pa pl x2 1 3 u4 h6) h7 mw_857 mw_858 mw_321 mw_856 hdX11_needWhat ⟨Nat.le_trans (Nat.le_of_ble_eq_true rfl) hR.1, Nat.le_trans (Nat.le_of_ble_eq_true rfl) hR.2⟩ rfl hsz (capX hC (Nat.le_of_ble_eq_true rfl) (Nat.le_of_ble_eq_true rfl)) ⟨Nat.le_of_ble_eq_true rfl, Nat.le_of_ble_eq_true rfl⟩ (Nat.le_of_ble_eq_true rfl) dX11_those_8 rfl (fun u8 H locs h S => ?_)
  refine lv_aload_n hx hb dX11_those_11 rfl (lv_at hl 0 rfl) ?_
  refine q_get (v := .ref (ad 0)) C S (oT36 cI cB ad tr kt pa pl) rfl iwX11 4 (by decide) mw_767 rfl dX11_those_12 ?_
  refine lv_iload_n hx hb dX11_those_15 rfl (lv_at hl 1 rfl) ?_
  refine lv_iload_n hx hb dX11_those_16 rfl (lv_at hl 2 rfl) ?_
  obtain ⟨r10, h9, h⟩ := obr_some h
  refine s_callViR (spl_TN cI cB ad tr kt) (As := [.int x1, .int x2]) (na := 2) C S (oN0 cI (adTN ad) pa pl) rfl (ct_X7_messagesAt l D cI cB cL (adTN ad) pa pl x1 x2 (sbTN u8) h9) mw_828 mw_829 mw_830 mw_341 mw_827 hdX7_messagesAt ⟨Nat.le_trans (Nat.le_of_ble_eq_true rfl) hR.1, Nat.le_trans (Nat.le_of_ble_eq_true rfl) hR.2⟩ rfl hsz (capX hC (Nat.le_of_ble_eq_true rfl) (Nat.le_of_ble_eq_true rfl)) (Nat.le_of_ble_eq_true rfl) dX11_those_17 rfl (fun H locs S => ?_)
  exact x_iret C S h ⟨Nat.le_of_ble_eq_true rfl, Nat.le_of_ble_eq_true rfl⟩ dX11_those_20
set_option maxRecDepth 10000 in
set_option maxHeartbeats 4000000 in
theorem ct_X11_those (l : Launch) (hfl : l.stackTraces = false) (D : va_G) (cI cB cL : ClassId) (ka kv : Nat → Nat) (fv : Value) (ad : Nat → Nat) (tr kt pa pl : Nat) (x1 : Int32) (x2 : Int32) (u : Sg) {z : Xr × Sg} (h : fX11_those x1 x2 u = some z) : metXI l D (tyl cI cB cL) ka kv fv yX11_those cX11_those 3 (some .int) 7 112 2 (wT cI cB ad tr kt pa pl) [.ref (ad 36), .int x1, .int x2] u z := by
  intro sz
  refine vx_ofW (cc := cX11_those) (maxL := 3) (ret := (some .int)) (by decide) rfl ?_
  intro p e s m args below meth c s₁ B hml Xc hv
  obtain ⟨rfl, C, S, Kx⟩ := q_entryK B hml hv
  have hl := lv_entry ([.ref (ad 36), .int x1, .int x2]) (n := 3) (Nat.le_of_ble_eq_true rfl)
  rw [lg_entry_eq]
  generalize (lg_sl ([.ref (ad 36), .int x1, .int x2]) ++ List.replicate (3 - (lg_sl ([.ref (ad 36), .int x1, .int x2])).length) Slot.unset).toArray = ls at hl ⊢
  exact wX11_those_0 C Kx Xc hfl ⟨Nat.le_refl _, Nat.le_refl _⟩ ⟨rfl, rfl⟩ u x1 x2 (lv_sub hl [0, 1, 2] rfl) S h
noncomputable def fX11_event_18 (u : Sg) : Option (Xr × Sg) := some (.inr 0, u)
noncomputable def fX11_event_0 (x1 : Int32) (x2 : Int32) (u : Sg) : Option (Xr × Sg) := cnd (x1 < 0) (fX11_event_18 u) (cnd (x1 < (u 30 0)) (cnd (x2 = 0) (grd (vp_in x1 8) (some (.inl (u 31 ((x1 : Int32).toNatClampNeg)), u))) (cnd (x2 = 1) (obr (fX2_isCrash x1 (sbTN u)) (fun r7 => cnd (r7 = 0) (some (.inl 0, u)) (some (.inl 1, u)))) (cnd (x2 = 2) (grd (vp_in x1 8) (some (.inl (u 32 ((x1 : Int32).toNatClampNeg)), u))) (cnd (x2 = 3) (grd (vp_in x1 8) (some (.inl (u 33 ((x1 : Int32).toNatClampNeg)), u))) (some (.inr 1, u)))))) (fX11_event_18 u))
noncomputable def fX11_event (x1 : Int32) (x2 : Int32) (u : Sg) : Option (Xr × Sg) := fX11_event_0 x1 x2 u
set_option maxRecDepth 10000 in
set_option maxHeartbeats 4000000 in
theorem wX11_event_18 (C : cx D (tyl cI cB cL) A RX11 cX11_event 3 (some .int) p s m args c meth) (Kx : kx ka kv fv A s s.heap) (Xc : ∀ x ∈ c.exceptionTable.toList, False) (hfl : l.stackTraces = false) (hR : 6 ≤ R.frames ∧ 90 ≤ R.locals) {z : Xr × Sg} (hC : R.cells = 1 ∧ R.slots = 6 * 1) (u : Sg) {H : Heap} {locs : List Loc} {ls : Array Slot} (hl : lv_has ls 3 []) (S : st D (wT cI cB ad tr kt pa pl) A s u H locs) (h : fX11_event_18 u = some z) : W p l e R s m args below meth c H locs 0 (6 * 0) (vx_MQ below (qXI D (tyl cI cB cL) (wT cI cB ad tr kt pa pl) A z) (xX D (tyl cI cB cL) (wT cI cB ad tr kt pa pl) A z) args s 1 (6 * 1) A) (F0 m 18 ls []) := by
  have hx := C.1
  have hb := C.2.1
  have hsz := hl.1
  unfold fX11_event_18 at h
  exact x_throwW C Kx Xc hfl S 0 (by decide +kernel) xat_0 xag_0 xao_0 xcl_0 xin_0 (kst_25 Kx) hsz dX11_event_18 dX11_event_21 dX11_event_22 dX11_event_25 dX11_event_28 ⟨Nat.le_trans (Nat.le_of_ble_eq_true rfl) hR.1, Nat.le_trans (Nat.le_of_ble_eq_true rfl) hR.2⟩ (Nat.le_of_ble_eq_true rfl) (capX hC (Nat.le_of_ble_eq_true rfl) (Nat.le_of_ble_eq_true rfl)) ⟨Nat.le_of_ble_eq_true rfl, Nat.le_of_ble_eq_true rfl⟩ h
set_option maxRecDepth 10000 in
set_option maxHeartbeats 4000000 in
theorem wX11_event_0 (C : cx D (tyl cI cB cL) A RX11 cX11_event 3 (some .int) p s m args c meth) (Kx : kx ka kv fv A s s.heap) (Xc : ∀ x ∈ c.exceptionTable.toList, False) (hfl : l.stackTraces = false) (hR : 6 ≤ R.frames ∧ 90 ≤ R.locals) {z : Xr × Sg} (hC : R.cells = 1 ∧ R.slots = 6 * 1) (u : Sg) (x1 : Int32) (x2 : Int32) {H : Heap} {locs : List Loc} {ls : Array Slot} (hl : lv_has ls 3 [(0, .ref (ad 36)), (1, .int x1), (2, .int x2)]) (S : st D (wT cI cB ad tr kt pa pl) A s u H locs) (h : fX11_event_0 x1 x2 u = some z) : W p l e R s m args below meth c H locs 0 0 (vx_MQ below (qXI D (tyl cI cB cL) (wT cI cB ad tr kt pa pl) A z) (xX D (tyl cI cB cL) (wT cI cB ad tr kt pa pl) A z) args s 1 (6 * 1) A) (F0 m 0 ls []) := by
  have hx := C.1
  have hb := C.2.1
  have hsz := hl.1
  unfold fX11_event_0 at h
  refine lv_iload_n hx hb dX11_event_0 rfl (lv_at hl 1 rfl) ?_
  refine lv_if_lt (tgt := 18) hx hb dX11_event_1 (by decide) (fun c1 => ?_) (fun c1 => ?_)
  · have h := cnd_t c1 h
    refine W.widen (k := 0) (n := (6 * 0)) (Nat.le_of_ble_eq_true rfl) (Nat.le_of_ble_eq_true rfl) ?_
    exact wX11_event_18 C Kx Xc hfl hR hC u (lv_sub hl [] rfl) S h
  · have h := cnd_f c1 h
    refine lv_iload_n hx hb dX11_event_4 rfl (lv_at hl 1 rfl) ?_
    refine lv_aload_n hx hb dX11_event_5 rfl (lv_at hl 0 rfl) ?_
    refine q_get (v := .ref (ad 0)) C S (oT36 cI cB ad tr kt pa pl) rfl iwX11 4 (by decide) mw_767 rfl dX11_event_6 ?_
    refine q_get (v := .ref (ad 30)) C S (oT0 cI cB ad tr kt pa pl) rfl iwX7 17 (by decide) mw_841 rfl dX11_event_9 ?_
    refine q_get (v := .int (u 30 0)) C S (oT30 cI cB ad tr kt pa pl) rfl iwX2 0 (by decide) mw_842 rfl dX11_event_12 ?_
    refine lv_icmp_lt (tgt := 29) hx hb dX11_event_15 (by decide) (fun c2 => ?_) (fun c2 => ?_)
    · have h := cnd_t c2 h
      refine lv_iload_n hx hb dX11_event_29 rfl (lv_at hl 2 rfl) ?_
      by_cases c3 : x2 = 0
      · have h := cnd_t c3 h
        refine lv_tableIn (off := 30) (tgt := 60) hx hb dX11_event_30 (by rw [c3]; decide) (by rw [c3]; decide) (by rw [c3]; rfl) (by decide) ?_
        refine lv_aload_n hx hb dX11_event_60 rfl (lv_at hl 0 rfl) ?_
        refine q_get (v := .ref (ad 0)) C S (oT36 cI cB ad tr kt pa pl) rfl iwX11 4 (by decide) mw_767 rfl dX11_event_61 ?_
        refine q_get (v := .ref (ad 30)) C S (oT0 cI cB ad tr kt pa pl) rfl iwX7 17 (by decide) mw_841 rfl dX11_event_64 ?_
        refine q_get (v := .ref (ad 31)) C S (oT30 cI cB ad tr kt pa pl) rfl iwX2 1 (by decide) mw_878 rfl dX11_event_67 ?_
        refine lv_iload_n hx hb dX11_event_70 rfl (lv_at hl 1 rfl) ?_
        obtain ⟨g4, h⟩ := grd_some h
        refine q_iald C S (aT31 cI cB ad tr kt pa pl) 0 rfl g4 dX11_event_71 (j := (x1 : Int32).toNatClampNeg) rfl ?_
        exact x_iret C S h ⟨Nat.le_of_ble_eq_true rfl, Nat.le_of_ble_eq_true rfl⟩ dX11_event_72
      · have h := cnd_f c3 h
        by_cases c5 : x2 = 1
        · have h := cnd_t c5 h
          refine lv_tableIn (off := 43) (tgt := 73) hx hb dX11_event_30 (by rw [c5]; decide) (by rw [c5]; decide) (by rw [c5]; rfl) (by decide) ?_
          refine lv_aload_n hx hb dX11_event_73 rfl (lv_at hl 0 rfl) ?_
          refine q_get (v := .ref (ad 0)) C S (oT36 cI cB ad tr kt pa pl) rfl iwX11 4 (by decide) mw_767 rfl dX11_event_74 ?_
          refine q_get (v := .ref (ad 30)) C S (oT0 cI cB ad tr kt pa pl) rfl iwX7 17 (by decide) mw_841 rfl dX11_event_77 ?_
          refine lv_iload_n hx hb dX11_event_80 rfl (lv_at hl 1 rfl) ?_
          obtain ⟨r7, h6, h⟩ := obr_some h
          refine s_callViR (spl_TN cI cB ad tr kt) (As := [.int x1]) (na := 1) C S (oN30 cI (adTN ad) pa pl) rfl (ct_X2_isCrash l D cI cB cL (adTN ad) pa pl x1 (sbTN u) h6) mw_879 mw_580 mw_582 mw_579 mw_578 hdX2_isCrash ⟨Nat.le_trans (Nat.le_of_ble_eq_true rfl) hR.1, Nat.le_trans (Nat.le_of_ble_eq_true rfl) hR.2⟩ rfl hsz (capX hC (Nat.le_of_ble_eq_true rfl) (Nat.le_of_ble_eq_true rfl)) (Nat.le_of_ble_eq_true rfl) dX11_event_81 rfl (fun H locs S => ?_)
          refine lv_if_eq (tgt := 91) hx hb dX11_event_84 (by decide) (fun c8 => ?_) (fun c8 => ?_)
          · have h := cnd_t c8 h
            refine lv_iconst (v := 0) hx hb dX11_event_91 (by decide) ?_
            exact x_iret C S h ⟨Nat.le_of_ble_eq_true rfl, Nat.le_of_ble_eq_true rfl⟩ dX11_event_92
          · have h := cnd_f c8 h
            refine lv_iconst (v := 1) hx hb dX11_event_87 (by decide) ?_
            refine lv_goto (tgt := 92) hx hb dX11_event_88 (by decide) ?_
            exact x_iret C S h ⟨Nat.le_of_ble_eq_true rfl, Nat.le_of_ble_eq_true rfl⟩ dX11_event_92
        · have h := cnd_f c5 h
          by_cases c9 : x2 = 2
          · have h := cnd_t c9 h
            refine lv_tableIn (off := 63) (tgt := 93) hx hb dX11_event_30 (by rw [c9]; decide) (by rw [c9]; decide) (by rw [c9]; rfl) (by decide) ?_
            refine lv_aload_n hx hb dX11_event_93 rfl (lv_at hl 0 rfl) ?_
            refine q_get (v := .ref (ad 0)) C S (oT36 cI cB ad tr kt pa pl) rfl iwX11 4 (by decide) mw_767 rfl dX11_event_94 ?_
            refine q_get (v := .ref (ad 30)) C S (oT0 cI cB ad tr kt pa pl) rfl iwX7 17 (by decide) mw_841 rfl dX11_event_97 ?_
            refine q_get (v := .ref (ad 32)) C S (oT30 cI cB ad tr kt pa pl) rfl iwX2 2 (by decide) mw_880 rfl dX11_event_100 ?_
            refine lv_iload_n hx hb dX11_event_103 rfl (lv_at hl 1 rfl) ?_
            obtain ⟨g10, h⟩ := grd_some h
            refine q_iald C S (aT32 cI cB ad tr kt pa pl) 0 rfl g10 dX11_event_104 (j := (x1 : Int32).toNatClampNeg) rfl ?_
            exact x_iret C S h ⟨Nat.le_of_ble_eq_true rfl, Nat.le_of_ble_eq_true rfl⟩ dX11_event_105
          · have h := cnd_f c9 h
            by_cases c11 : x2 = 3
            · have h := cnd_t c11 h
              refine lv_tableIn (off := 76) (tgt := 106) hx hb dX11_event_30 (by rw [c11]; decide) (by rw [c11]; decide) (by rw [c11]; rfl) (by decide) ?_
              refine lv_aload_n hx hb dX11_event_106 rfl (lv_at hl 0 rfl) ?_
              refine q_get (v := .ref (ad 0)) C S (oT36 cI cB ad tr kt pa pl) rfl iwX11 4 (by decide) mw_767 rfl dX11_event_107 ?_
              refine q_get (v := .ref (ad 30)) C S (oT0 cI cB ad tr kt pa pl) rfl iwX7 17 (by decide) mw_841 rfl dX11_event_110 ?_
              refine q_get (v := .ref (ad 33)) C S (oT30 cI cB ad tr kt pa pl) rfl iwX2 3 (by decide) mw_881 rfl dX11_event_113 ?_
              refine lv_iload_n hx hb dX11_event_116 rfl (lv_at hl 1 rfl) ?_
              obtain ⟨g12, h⟩ := grd_some h
              refine q_iald C S (aT33 cI cB ad tr kt pa pl) 0 rfl g12 dX11_event_117 (j := (x1 : Int32).toNatClampNeg) rfl ?_
              exact x_iret C S h ⟨Nat.le_of_ble_eq_true rfl, Nat.le_of_ble_eq_true rfl⟩ dX11_event_118
            · have h := cnd_f c11 h
              refine lv_tableOut (tgt := 119) hx hb dX11_event_30 (sw_out (0) 4 (fun k hk => by
                rcases (show k = 0 ∨ k = 1 ∨ k = 2 ∨ k = 3 by omega) with rfl | rfl | rfl | rfl
                · exact sw_ne 0 _ (by decide) c3
                · exact sw_ne 1 _ (by decide) c5
                · exact sw_ne 2 _ (by decide) c9
                · exact sw_ne 3 _ (by decide) c11)) (by decide) ?_
              exact x_throwNW C Kx Xc hfl S (kst_26 Kx) hsz dX11_event_119 dX11_event_122 dX11_event_123 dX11_event_126 dX11_event_129 ⟨Nat.le_trans (Nat.le_of_ble_eq_true rfl) hR.1, Nat.le_trans (Nat.le_of_ble_eq_true rfl) hR.2⟩ (Nat.le_of_ble_eq_true rfl) (capX hC (Nat.le_of_ble_eq_true rfl) (Nat.le_of_ble_eq_true rfl)) ⟨Nat.le_of_ble_eq_true rfl, Nat.le_of_ble_eq_true rfl⟩ h
    · have h := cnd_f c2 h
      refine W.widen (k := 0) (n := (6 * 0)) (Nat.le_of_ble_eq_true rfl) (Nat.le_of_ble_eq_true rfl) ?_
      exact wX11_event_18 C Kx Xc hfl hR hC u (lv_sub hl [] rfl) S h
set_option maxRecDepth 10000 in
set_option maxHeartbeats 4000000 in
theorem ct_X11_event (l : Launch) (hfl : l.stackTraces = false) (D : va_G) (cI cB cL : ClassId) (ka kv : Nat → Nat) (fv : Value) (ad : Nat → Nat) (tr kt pa pl : Nat) (x1 : Int32) (x2 : Int32) (u : Sg) {z : Xr × Sg} (h : fX11_event x1 x2 u = some z) : metXI l D (tyl cI cB cL) ka kv fv yX11_event cX11_event 3 (some .int) 6 90 1 (wT cI cB ad tr kt pa pl) [.ref (ad 36), .int x1, .int x2] u z := by
  intro sz
  refine vx_ofW (cc := cX11_event) (maxL := 3) (ret := (some .int)) (by decide) rfl ?_
  intro p e s m args below meth c s₁ B hml Xc hv
  obtain ⟨rfl, C, S, Kx⟩ := q_entryK B hml hv
  have hl := lv_entry ([.ref (ad 36), .int x1, .int x2]) (n := 3) (Nat.le_of_ble_eq_true rfl)
  rw [lg_entry_eq]
  generalize (lg_sl ([.ref (ad 36), .int x1, .int x2]) ++ List.replicate (3 - (lg_sl ([.ref (ad 36), .int x1, .int x2])).length) Slot.unset).toArray = ls at hl ⊢
  exact wX11_event_0 C Kx Xc hfl ⟨Nat.le_refl _, Nat.le_refl _⟩ ⟨rfl, rfl⟩ u x1 x2 (lv_sub hl [0, 1, 2] rfl) S h
noncomputable def fX11_log_0 (x1 : Int32) (x2 : Int32) (u : Sg) : Option (Xr × Sg) := obx (fX11_needWhat x2 0 3 u) (fun u4 => cnd (x1 < 0) (some (.inl (-1), u4)) (cnd (x1 < (u4 34 0)) (obr (fX5_cell x1 x2 (sbTN u4)) (fun r8 => some (.inl r8, u4))) (some (.inl (-1), u4))))
noncomputable def fX11_log (x1 : Int32) (x2 : Int32) (u : Sg) : Option (Xr × Sg) := fX11_log_0 x1 x2 u
set_option maxRecDepth 10000 in
set_option maxHeartbeats 4000000 in
theorem wX11_log_0 (C : cx D (tyl cI cB cL) A RX11 cX11_log 3 (some .int) p s m args c meth) (Kx : kx ka kv fv A s s.heap) (Xc : ∀ x ∈ c.exceptionTable.toList, False) (hfl : l.stackTraces = false) (hR : 7 ≤ R.frames ∧ 112 ≤ R.locals) {z : Xr × Sg} (hC : R.cells = 1 ∧ R.slots = 6 * 1) (u : Sg) (x1 : Int32) (x2 : Int32) {H : Heap} {locs : List Loc} {ls : Array Slot} (hl : lv_has ls 3 [(0, .ref (ad 36)), (1, .int x1), (2, .int x2)]) (S : st D (wT cI cB ad tr kt pa pl) A s u H locs) (h : fX11_log_0 x1 x2 u = some z) : W p l e R s m args below meth c H locs 0 0 (vx_MQ below (qXI D (tyl cI cB cL) (wT cI cB ad tr kt pa pl) A z) (xX D (tyl cI cB cL) (wT cI cB ad tr kt pa pl) A z) args s 1 (6 * 1) A) (F0 m 0 ls []) := by
  have hx := C.1
  have hb := C.2.1
  have hsz := hl.1
  unfold fX11_log_0 at h
  refine lv_iload_n hx hb dX11_log_0 rfl (lv_at hl 2 rfl) ?_
  refine lv_iconst (v := 0) hx hb dX11_log_1 (by decide) ?_
  refine lv_iconst (v := 3) hx hb dX11_log_2 (by decide) ?_
  obtain ⟨z1, h2, h3⟩ := obx_some h
  refine x_callSv (As := [.int x2, .int 0, .int 3]) (na := 3) C Kx Xc S (ct_X11_needWhat l hfl D cI cB cL ka kv fv ad tr kt pa pl x2 0 3 u h2) h3 mw_857 mw_858 mw_321 mw_856 hdX11_needWhat ⟨Nat.le_trans (Nat.le_of_ble_eq_true rfl) hR.1, Nat.le_trans (Nat.le_of_ble_eq_true rfl) hR.2⟩ rfl hsz (capX hC (Nat.le_of_ble_eq_true rfl) (Nat.le_of_ble_eq_true rfl)) ⟨Nat.le_of_ble_eq_true rfl, Nat.le_of_ble_eq_true rfl⟩ (Nat.le_of_ble_eq_true rfl) dX11_log_3 rfl (fun u4 H locs h S => ?_)
  refine lv_iload_n hx hb dX11_log_6 rfl (lv_at hl 1 rfl) ?_
  refine lv_if_lt (tgt := 24) hx hb dX11_log_7 (by decide) (fun c5 => ?_) (fun c5 => ?_)
  · have h := cnd_t c5 h
    refine lv_iconst (v := (-1)) hx hb dX11_log_24 (by decide) ?_
    exact x_iret C S h ⟨Nat.le_of_ble_eq_true rfl, Nat.le_of_ble_eq_true rfl⟩ dX11_log_25
  · have h := cnd_f c5 h
    refine lv_iload_n hx hb dX11_log_10 rfl (lv_at hl 1 rfl) ?_
    refine lv_aload_n hx hb dX11_log_11 rfl (lv_at hl 0 rfl) ?_
    refine q_get (v := .ref (ad 0)) C S (oT36 cI cB ad tr kt pa pl) rfl iwX11 4 (by decide) mw_767 rfl dX11_log_12 ?_
    refine q_get (v := .ref (ad 34)) C S (oT0 cI cB ad tr kt pa pl) rfl iwX7 18 (by decide) mw_847 rfl dX11_log_15 ?_
    refine q_get (v := .int (u4 34 0)) C S (oT34 cI cB ad tr kt pa pl) rfl iwX5 0 (by decide) mw_848 rfl dX11_log_18 ?_
    refine lv_icmp_lt (tgt := 26) hx hb dX11_log_21 (by decide) (fun c6 => ?_) (fun c6 => ?_)
    · have h := cnd_t c6 h
      refine lv_aload_n hx hb dX11_log_26 rfl (lv_at hl 0 rfl) ?_
      refine q_get (v := .ref (ad 0)) C S (oT36 cI cB ad tr kt pa pl) rfl iwX11 4 (by decide) mw_767 rfl dX11_log_27 ?_
      refine q_get (v := .ref (ad 34)) C S (oT0 cI cB ad tr kt pa pl) rfl iwX7 18 (by decide) mw_847 rfl dX11_log_30 ?_
      refine lv_iload_n hx hb dX11_log_33 rfl (lv_at hl 1 rfl) ?_
      refine lv_iload_n hx hb dX11_log_34 rfl (lv_at hl 2 rfl) ?_
      obtain ⟨r8, h7, h⟩ := obr_some h
      refine s_callViR (spl_TN cI cB ad tr kt) (As := [.int x1, .int x2]) (na := 2) C S (oN34 cI (adTN ad) pa pl) rfl (ct_X5_cell l D cI cB cL (adTN ad) pa pl x1 x2 (sbTN u4) h7) mw_883 mw_884 mw_885 mw_440 mw_882 hdX5_cell ⟨Nat.le_trans (Nat.le_of_ble_eq_true rfl) hR.1, Nat.le_trans (Nat.le_of_ble_eq_true rfl) hR.2⟩ rfl hsz (capX hC (Nat.le_of_ble_eq_true rfl) (Nat.le_of_ble_eq_true rfl)) (Nat.le_of_ble_eq_true rfl) dX11_log_35 rfl (fun H locs S => ?_)
      exact x_iret C S h ⟨Nat.le_of_ble_eq_true rfl, Nat.le_of_ble_eq_true rfl⟩ dX11_log_38
    · have h := cnd_f c6 h
      refine lv_iconst (v := (-1)) hx hb dX11_log_24 (by decide) ?_
      exact x_iret C S h ⟨Nat.le_of_ble_eq_true rfl, Nat.le_of_ble_eq_true rfl⟩ dX11_log_25
set_option maxRecDepth 10000 in
set_option maxHeartbeats 4000000 in
theorem ct_X11_log (l : Launch) (hfl : l.stackTraces = false) (D : va_G) (cI cB cL : ClassId) (ka kv : Nat → Nat) (fv : Value) (ad : Nat → Nat) (tr kt pa pl : Nat) (x1 : Int32) (x2 : Int32) (u : Sg) {z : Xr × Sg} (h : fX11_log x1 x2 u = some z) : metXI l D (tyl cI cB cL) ka kv fv yX11_log cX11_log 3 (some .int) 7 112 1 (wT cI cB ad tr kt pa pl) [.ref (ad 36), .int x1, .int x2] u z := by
  intro sz
  refine vx_ofW (cc := cX11_log) (maxL := 3) (ret := (some .int)) (by decide) rfl ?_
  intro p e s m args below meth c s₁ B hml Xc hv
  obtain ⟨rfl, C, S, Kx⟩ := q_entryK B hml hv
  have hl := lv_entry ([.ref (ad 36), .int x1, .int x2]) (n := 3) (Nat.le_of_ble_eq_true rfl)
  rw [lg_entry_eq]
  generalize (lg_sl ([.ref (ad 36), .int x1, .int x2]) ++ List.replicate (3 - (lg_sl ([.ref (ad 36), .int x1, .int x2])).length) Slot.unset).toArray = ls at hl ⊢
  exact wX11_log_0 C Kx Xc hfl ⟨Nat.le_refl _, Nat.le_refl _⟩ ⟨rfl, rfl⟩ u x1 x2 (lv_sub hl [0, 1, 2] rfl) S h
end S_48_xc
