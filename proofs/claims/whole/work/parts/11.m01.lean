theorem mw_33 : Cond.code yX12_of cX12_of 3 (some .int) ∈ gw := gw_t7 61 rfl rfl
theorem mw_34 : Cond.instanceMethod yX12_of ∈ gw := gw_t7 60 rfl rfl
theorem mw_35 : Cond.methodLink RX12 77 yX12_of ∈ gw := gw_t7 58 rfl rfl
theorem mw_36 : Cond.selects RX12 yX12_of yX12_of ∈ gw := gw_pv (n := 18) (List.mem_of_getElem? (i := 47) rfl)
theorem mw_37 : Cond.code yX12_isUp cX12_isUp 2 (some .boolean) ∈ gw := gw_t7 57 rfl rfl
theorem mw_38 : Cond.instanceMethod yX12_isUp ∈ gw := gw_t7 56 rfl rfl
theorem mw_39 : Cond.methodLink RX12 80 yX12_isUp ∈ gw := gw_t7 54 rfl rfl
theorem mw_40 : Cond.selects RX12 yX12_isUp yX12_isUp ∈ gw := gw_pv (n := 18) (List.mem_of_getElem? (i := 46) rfl)
theorem mw_41 : Cond.code yX12_ofMessage cX12_ofMessage 3 (some .int) ∈ gw := gw_t7 103 rfl rfl
theorem mw_42 : Cond.instanceMethod yX12_ofMessage ∈ gw := gw_t7 102 rfl rfl
theorem mw_43 : Cond.methodLink RX12 84 yX12_ofMessage ∈ gw := gw_t7 100 rfl rfl
theorem mw_44 : Cond.selects RX12 yX12_ofMessage yX12_ofMessage ∈ gw := gw_pv (n := 18) (List.mem_of_getElem? (i := 56) rfl)
theorem mw_45 : Cond.code yX12_holds cX12_holds 2 (some .boolean) ∈ gw := gw_t7 7 rfl rfl
theorem mw_46 : Cond.static yX12_holds ∈ gw := gw_t7 6 rfl rfl
theorem mw_47 : Cond.methodLink RX12 87 yX12_holds ∈ gw := gw_t7 5 rfl rfl
theorem mw_48 : Cond.fieldLink RX12 91 "LeastPendingModel" "taped" "I" ∈ gw := gw_t6 126 rfl rfl
theorem mw_49 : Cond.fieldLink RX12 33 "LeastPendingModel" "five" "[I" ∈ gw := gw_t6 131 rfl rfl
theorem mw_50 : Cond.fieldLink RX12 26 "LeastPendingModel" "tape" "[B" ∈ gw := gw_t6 125 rfl rfl
theorem mw_51 : Cond.fieldLink RX12 94 "LeastPendingModel" "point" "I" ∈ gw := gw_t6 127 rfl rfl
theorem mw_52 : Cond.fieldLink RX12 97 "LeastPendingModel" "end" "I" ∈ gw := gw_t6 128 rfl rfl
theorem mw_53 : Cond.code yX12_isAt cX12_isAt 3 (some .boolean) ∈ gw := gw_t6 209 rfl rfl
theorem mw_54 : Cond.instanceMethod yX12_isAt ∈ gw := gw_t6 208 rfl rfl
theorem mw_55 : Cond.methodLink RX12 100 yX12_isAt ∈ gw := gw_t6 206 rfl rfl
theorem mw_56 : Cond.selects RX12 yX12_isAt yX12_isAt ∈ gw := gw_pv (n := 18) (List.mem_of_getElem? (i := 30) rfl)
theorem mw_57 : Cond.fieldLink RX12 103 "LeastPendingModel" "begin" "I" ∈ gw := gw_t6 129 rfl rfl
theorem mw_58 : Cond.code yX12_blanks cX12_blanks 1 none ∈ gw := gw_t6 205 rfl rfl
theorem mw_59 : Cond.instanceMethod yX12_blanks ∈ gw := gw_t6 204 rfl rfl
theorem mw_60 : Cond.methodLink RX12 106 yX12_blanks ∈ gw := gw_t6 202 rfl rfl
theorem mw_61 : Cond.selects RX12 yX12_blanks yX12_blanks ∈ gw := gw_pv (n := 18) (List.mem_of_getElem? (i := 29) rfl)
theorem mw_62 : Cond.code yX12_number cX12_number 4 (some .int) ∈ gw := gw_t6 236 rfl rfl
theorem mw_63 : Cond.instanceMethod yX12_number ∈ gw := gw_t6 235 rfl rfl
theorem mw_64 : Cond.methodLink RX12 118 yX12_number ∈ gw := gw_t6 233 rfl rfl
theorem mw_65 : Cond.selects RX12 yX12_number yX12_number ∈ gw := gw_pv (n := 18) (List.mem_of_getElem? (i := 36) rfl)
theorem mw_66 : Cond.fieldLink RX12 30 "LeastPendingModel" "faultAt" "I" ∈ gw := gw_t6 130 rfl rfl
theorem mw_67 : Cond.fieldLink RX12 121 "LeastPendingModel" "lines" "I" ∈ gw := gw_t6 132 rfl rfl
theorem mw_68 : Cond.code yX12_isFigure cX12_isFigure 1 (some .boolean) ∈ gw := gw_t7 11 rfl rfl
theorem mw_69 : Cond.instanceMethod yX12_isFigure ∈ gw := gw_t7 10 rfl rfl
theorem mw_70 : Cond.methodLink RX12 124 yX12_isFigure ∈ gw := gw_t7 8 rfl rfl
theorem mw_71 : Cond.selects RX12 yX12_isFigure yX12_isFigure ∈ gw := gw_pv (n := 18) (List.mem_of_getElem? (i := 38) rfl)
theorem mw_72 : Cond.code yX12_readTo cX12_readTo 5 (some .boolean) ∈ gw := gw_t7 20 rfl rfl
theorem mw_73 : Cond.instanceMethod yX12_readTo ∈ gw := gw_t7 19 rfl rfl
theorem mw_74 : Cond.methodLink RX12 128 yX12_readTo ∈ gw := gw_t7 17 rfl rfl
theorem mw_75 : Cond.selects RX12 yX12_readTo yX12_readTo ∈ gw := gw_pv (n := 18) (List.mem_of_getElem? (i := 40) rfl)
theorem mw_76 : Cond.fieldLink RX12 36 "LeastPendingModel" "draws" "Z" ∈ gw := gw_t6 133 rfl rfl
theorem mw_77 : Cond.constant RX12 180 1103515245 ∈ gw := gw_t7 120 rfl rfl
theorem hdX12_blanks : yX12_blanks.cls = RX12 ∧ yX12_blanks.cls ≠ "java/lang/invoke/MethodHandle" ∧ yX12_blanks.cls ≠ "java/lang/invoke/VarHandle" ∧ (parseMethodDescriptor yX12_blanks.desc).map (fun d => d.parameters.length) = some 0 := by decide +kernel
theorem hdX12_holds : yX12_holds.cls ≠ "java/lang/invoke/MethodHandle" ∧ yX12_holds.cls ≠ "java/lang/invoke/VarHandle" ∧ (parseMethodDescriptor yX12_holds.desc).map (fun d => d.parameters.length) = some 2 := by decide +kernel
theorem hdX12_isAt : yX12_isAt.cls = RX12 ∧ yX12_isAt.cls ≠ "java/lang/invoke/MethodHandle" ∧ yX12_isAt.cls ≠ "java/lang/invoke/VarHandle" ∧ (parseMethodDescriptor yX12_isAt.desc).map (fun d => d.parameters.length) = some 2 := by decide +kernel
theorem hdX12_isFigure : yX12_isFigure.cls = RX12 ∧ yX12_isFigure.cls ≠ "java/lang/invoke/MethodHandle" ∧ yX12_isFigure.cls ≠ "java/lang/invoke/VarHandle" ∧ (parseMethodDescriptor yX12_isFigure.desc).map (fun d => d.parameters.length) = some 0 := by decide +kernel
theorem hdX12_isUp : yX12_isUp.cls = RX12 ∧ yX12_isUp.cls ≠ "java/lang/invoke/MethodHandle" ∧ yX12_isUp.cls ≠ "java/lang/invoke/VarHandle" ∧ (parseMethodDescriptor yX12_isUp.desc).map (fun d => d.parameters.length) = some 1 := by decide +kernel
theorem hdX12_number : yX12_number.cls = RX12 ∧ yX12_number.cls ≠ "java/lang/invoke/MethodHandle" ∧ yX12_number.cls ≠ "java/lang/invoke/VarHandle" ∧ (parseMethodDescriptor yX12_number.desc).map (fun d => d.parameters.length) = some 2 := by decide +kernel
theorem hdX12_of : yX12_of.cls = RX12 ∧ yX12_of.cls ≠ "java/lang/invoke/MethodHandle" ∧ yX12_of.cls ≠ "java/lang/invoke/VarHandle" ∧ (parseMethodDescriptor yX12_of.desc).map (fun d => d.parameters.length) = some 2 := by decide +kernel
theorem hdX12_ofMessage : yX12_ofMessage.cls = RX12 ∧ yX12_ofMessage.cls ≠ "java/lang/invoke/MethodHandle" ∧ yX12_ofMessage.cls ≠ "java/lang/invoke/VarHandle" ∧ (parseMethodDescriptor yX12_ofMessage.desc).map (fun d => d.parameters.length) = some 2 := by decide +kernel
theorem hdX12_readTo : yX12_readTo.cls = RX12 ∧ yX12_readTo.cls ≠ "java/lang/invoke/MethodHandle" ∧ yX12_readTo.cls ≠ "java/lang/invoke/VarHandle" ∧ (parseMethodDescriptor yX12_readTo.desc).map (fun d => d.parameters.length) = some 3 := by decide +kernel
theorem dX12_isUp_0 : decode cX12_isUp 0 = .ok (.aload_n 0, 1) := by decide +kernel
theorem dX12_isUp_1 : decode cX12_isUp 1 = .ok (.iload_n 1, 1) := by decide +kernel
theorem dX12_isUp_2 : decode cX12_isUp 2 = .ok (.iconst 0, 1) := by decide +kernel
theorem dX12_isUp_3 : decode cX12_isUp 3 = .ok (.invokevirtual 77, 3) := by decide +kernel
theorem dX12_isUp_6 : decode cX12_isUp 6 = .ok (.iconst 1, 1) := by decide +kernel
theorem dX12_isUp_7 : decode cX12_isUp 7 = .ok (.if_icmp .ne 7, 3) := by decide +kernel
theorem dX12_isUp_10 : decode cX12_isUp 10 = .ok (.iconst 1, 1) := by decide +kernel
theorem dX12_isUp_11 : decode cX12_isUp 11 = .ok (.goto 4, 3) := by decide +kernel
theorem dX12_isUp_14 : decode cX12_isUp 14 = .ok (.iconst 0, 1) := by decide +kernel
theorem dX12_isUp_15 : decode cX12_isUp 15 = .ok (.ireturn, 1) := by decide +kernel
theorem dX12_isNoticed_0 : decode cX12_isNoticed 0 = .ok (.aload_n 0, 1) := by decide +kernel
theorem dX12_isNoticed_1 : decode cX12_isNoticed 1 = .ok (.iload_n 1, 1) := by decide +kernel
theorem dX12_isNoticed_2 : decode cX12_isNoticed 2 = .ok (.invokevirtual 80, 3) := by decide +kernel
theorem dX12_isNoticed_5 : decode cX12_isNoticed 5 = .ok (.ifCond .ne 30, 3) := by decide +kernel
theorem dX12_isNoticed_8 : decode cX12_isNoticed 8 = .ok (.aload_n 0, 1) := by decide +kernel
theorem dX12_isNoticed_9 : decode cX12_isNoticed 9 = .ok (.getfield 13, 3) := by decide +kernel
theorem dX12_isNoticed_12 : decode cX12_isNoticed 12 = .ok (.iconst 4, 1) := by decide +kernel
theorem dX12_isNoticed_13 : decode cX12_isNoticed 13 = .ok (.iaload, 1) := by decide +kernel
theorem dX12_isNoticed_14 : decode cX12_isNoticed 14 = .ok (.aload_n 0, 1) := by decide +kernel
theorem dX12_isNoticed_15 : decode cX12_isNoticed 15 = .ok (.iload_n 1, 1) := by decide +kernel
theorem dX12_isNoticed_16 : decode cX12_isNoticed 16 = .ok (.iconst 1, 1) := by decide +kernel
theorem dX12_isNoticed_17 : decode cX12_isNoticed 17 = .ok (.invokevirtual 77, 3) := by decide +kernel
theorem dX12_isNoticed_20 : decode cX12_isNoticed 20 = .ok (.aload_n 0, 1) := by decide +kernel
theorem dX12_isNoticed_21 : decode cX12_isNoticed 21 = .ok (.getfield 13, 3) := by decide +kernel
theorem dX12_isNoticed_24 : decode cX12_isNoticed 24 = .ok (.bipush 6, 2) := by decide +kernel
theorem dX12_isNoticed_26 : decode cX12_isNoticed 26 = .ok (.iaload, 1) := by decide +kernel
theorem dX12_isNoticed_27 : decode cX12_isNoticed 27 = .ok (.iadd, 1) := by decide +kernel
theorem dX12_isNoticed_28 : decode cX12_isNoticed 28 = .ok (.if_icmp .lt 7, 3) := by decide +kernel
theorem dX12_isNoticed_31 : decode cX12_isNoticed 31 = .ok (.iconst 1, 1) := by decide +kernel
theorem dX12_isNoticed_32 : decode cX12_isNoticed 32 = .ok (.goto 4, 3) := by decide +kernel
theorem dX12_isNoticed_35 : decode cX12_isNoticed 35 = .ok (.iconst 0, 1) := by decide +kernel
theorem dX12_isNoticed_36 : decode cX12_isNoticed 36 = .ok (.ireturn, 1) := by decide +kernel
theorem dX12_isTo_0 : decode cX12_isTo 0 = .ok (.aload_n 0, 1) := by decide +kernel
theorem dX12_isTo_1 : decode cX12_isTo 1 = .ok (.iload_n 1, 1) := by decide +kernel
theorem dX12_isTo_2 : decode cX12_isTo 2 = .ok (.iconst 1, 1) := by decide +kernel
theorem dX12_isTo_3 : decode cX12_isTo 3 = .ok (.invokevirtual 84, 3) := by decide +kernel
theorem dX12_isTo_6 : decode cX12_isTo 6 = .ok (.iload_n 2, 1) := by decide +kernel
theorem dX12_isTo_7 : decode cX12_isTo 7 = .ok (.invokestatic 87, 3) := by decide +kernel
theorem dX12_isTo_10 : decode cX12_isTo 10 = .ok (.ireturn, 1) := by decide +kernel
theorem dX12_feed_0 : decode cX12_feed 0 = .ok (.aload_n 0, 1) := by decide +kernel
theorem dX12_feed_1 : decode cX12_feed 1 = .ok (.iconst 0, 1) := by decide +kernel
theorem dX12_feed_2 : decode cX12_feed 2 = .ok (.putfield 3, 3) := by decide +kernel
theorem dX12_feed_5 : decode cX12_feed 5 = .ok (.aload_n 0, 1) := by decide +kernel
theorem dX12_feed_6 : decode cX12_feed 6 = .ok (.getfield 91, 3) := by decide +kernel
theorem dX12_feed_9 : decode cX12_feed 9 = .ok (.bipush 20, 2) := by decide +kernel
theorem dX12_feed_11 : decode cX12_feed 11 = .ok (.iadd, 1) := by decide +kernel
theorem dX12_feed_12 : decode cX12_feed 12 = .ok (.sipush 400, 3) := by decide +kernel
theorem dX12_feed_15 : decode cX12_feed 15 = .ok (.if_icmp .le 5, 3) := by decide +kernel
theorem dX12_feed_18 : decode cX12_feed 18 = .ok (.iconst (-1), 1) := by decide +kernel
theorem dX12_feed_19 : decode cX12_feed 19 = .ok (.ireturn, 1) := by decide +kernel
theorem dX12_feed_20 : decode cX12_feed 20 = .ok (.aload_n 0, 1) := by decide +kernel
theorem dX12_feed_21 : decode cX12_feed 21 = .ok (.getfield 33, 3) := by decide +kernel
theorem dX12_feed_24 : decode cX12_feed 24 = .ok (.iconst 0, 1) := by decide +kernel
theorem dX12_feed_25 : decode cX12_feed 25 = .ok (.iload_n 1, 1) := by decide +kernel
theorem dX12_feed_26 : decode cX12_feed 26 = .ok (.iastore, 1) := by decide +kernel
theorem dX12_feed_27 : decode cX12_feed 27 = .ok (.aload_n 0, 1) := by decide +kernel
theorem dX12_feed_28 : decode cX12_feed 28 = .ok (.getfield 33, 3) := by decide +kernel
theorem dX12_feed_31 : decode cX12_feed 31 = .ok (.iconst 1, 1) := by decide +kernel
theorem dX12_feed_32 : decode cX12_feed 32 = .ok (.iload_n 2, 1) := by decide +kernel
theorem dX12_feed_33 : decode cX12_feed 33 = .ok (.iastore, 1) := by decide +kernel
theorem dX12_feed_34 : decode cX12_feed 34 = .ok (.aload_n 0, 1) := by decide +kernel
theorem dX12_feed_35 : decode cX12_feed 35 = .ok (.getfield 33, 3) := by decide +kernel
theorem dX12_feed_38 : decode cX12_feed 38 = .ok (.iconst 2, 1) := by decide +kernel
theorem dX12_feed_39 : decode cX12_feed 39 = .ok (.iload_n 3, 1) := by decide +kernel
theorem dX12_feed_40 : decode cX12_feed 40 = .ok (.iastore, 1) := by decide +kernel
theorem dX12_feed_41 : decode cX12_feed 41 = .ok (.aload_n 0, 1) := by decide +kernel
theorem dX12_feed_42 : decode cX12_feed 42 = .ok (.getfield 33, 3) := by decide +kernel
theorem dX12_feed_45 : decode cX12_feed 45 = .ok (.iconst 3, 1) := by decide +kernel
theorem dX12_feed_46 : decode cX12_feed 46 = .ok (.iload 4, 2) := by decide +kernel
theorem dX12_feed_48 : decode cX12_feed 48 = .ok (.iastore, 1) := by decide +kernel
theorem dX12_feed_49 : decode cX12_feed 49 = .ok (.aload_n 0, 1) := by decide +kernel
theorem dX12_feed_50 : decode cX12_feed 50 = .ok (.getfield 33, 3) := by decide +kernel
theorem dX12_feed_53 : decode cX12_feed 53 = .ok (.iconst 4, 1) := by decide +kernel
theorem dX12_feed_54 : decode cX12_feed 54 = .ok (.iload 5, 2) := by decide +kernel
theorem dX12_feed_56 : decode cX12_feed 56 = .ok (.iastore, 1) := by decide +kernel
theorem dX12_feed_57 : decode cX12_feed 57 = .ok (.iconst 0, 1) := by decide +kernel
theorem dX12_feed_58 : decode cX12_feed 58 = .ok (.istore 6, 2) := by decide +kernel
theorem dX12_feed_60 : decode cX12_feed 60 = .ok (.iload 6, 2) := by decide +kernel
theorem dX12_feed_62 : decode cX12_feed 62 = .ok (.bipush 20, 2) := by decide +kernel
theorem dX12_feed_64 : decode cX12_feed 64 = .ok (.if_icmp .ge 42, 3) := by decide +kernel
theorem dX12_feed_67 : decode cX12_feed 67 = .ok (.aload_n 0, 1) := by decide +kernel
theorem dX12_feed_68 : decode cX12_feed 68 = .ok (.getfield 26, 3) := by decide +kernel
theorem dX12_feed_71 : decode cX12_feed 71 = .ok (.aload_n 0, 1) := by decide +kernel
theorem dX12_feed_72 : decode cX12_feed 72 = .ok (.getfield 91, 3) := by decide +kernel
theorem dX12_feed_75 : decode cX12_feed 75 = .ok (.iload 6, 2) := by decide +kernel
theorem dX12_feed_77 : decode cX12_feed 77 = .ok (.iadd, 1) := by decide +kernel
theorem dX12_feed_78 : decode cX12_feed 78 = .ok (.aload_n 0, 1) := by decide +kernel
theorem dX12_feed_79 : decode cX12_feed 79 = .ok (.getfield 33, 3) := by decide +kernel
theorem dX12_feed_82 : decode cX12_feed 82 = .ok (.iload 6, 2) := by decide +kernel
theorem dX12_feed_84 : decode cX12_feed 84 = .ok (.iconst 4, 1) := by decide +kernel
theorem dX12_feed_85 : decode cX12_feed 85 = .ok (.idiv, 1) := by decide +kernel
theorem dX12_feed_86 : decode cX12_feed 86 = .ok (.iaload, 1) := by decide +kernel
theorem dX12_feed_87 : decode cX12_feed 87 = .ok (.bipush 24, 2) := by decide +kernel
theorem dX12_feed_89 : decode cX12_feed 89 = .ok (.bipush 8, 2) := by decide +kernel
theorem dX12_feed_91 : decode cX12_feed 91 = .ok (.iload 6, 2) := by decide +kernel
theorem dX12_feed_93 : decode cX12_feed 93 = .ok (.iconst 4, 1) := by decide +kernel
theorem dX12_feed_94 : decode cX12_feed 94 = .ok (.irem, 1) := by decide +kernel
theorem dX12_feed_95 : decode cX12_feed 95 = .ok (.imul, 1) := by decide +kernel
theorem dX12_feed_96 : decode cX12_feed 96 = .ok (.isub, 1) := by decide +kernel
theorem dX12_feed_97 : decode cX12_feed 97 = .ok (.ishr, 1) := by decide +kernel
theorem dX12_feed_98 : decode cX12_feed 98 = .ok (.i2b, 1) := by decide +kernel
theorem dX12_feed_99 : decode cX12_feed 99 = .ok (.bastore, 1) := by decide +kernel
theorem dX12_feed_100 : decode cX12_feed 100 = .ok (.iinc 6 1, 3) := by decide +kernel
theorem dX12_feed_103 : decode cX12_feed 103 = .ok (.goto (-43), 3) := by decide +kernel
theorem dX12_feed_106 : decode cX12_feed 106 = .ok (.aload_n 0, 1) := by decide +kernel
theorem dX12_feed_107 : decode cX12_feed 107 = .ok (.dup, 1) := by decide +kernel
theorem dX12_feed_108 : decode cX12_feed 108 = .ok (.getfield 91, 3) := by decide +kernel
theorem dX12_feed_111 : decode cX12_feed 111 = .ok (.bipush 20, 2) := by decide +kernel
theorem dX12_feed_113 : decode cX12_feed 113 = .ok (.iadd, 1) := by decide +kernel
theorem dX12_feed_114 : decode cX12_feed 114 = .ok (.putfield 91, 3) := by decide +kernel
theorem dX12_feed_117 : decode cX12_feed 117 = .ok (.aload_n 0, 1) := by decide +kernel
theorem dX12_feed_118 : decode cX12_feed 118 = .ok (.getfield 91, 3) := by decide +kernel
theorem dX12_feed_121 : decode cX12_feed 121 = .ok (.ireturn, 1) := by decide +kernel
theorem dX12_end_0 : decode cX12_end 0 = .ok (.aload_n 0, 1) := by decide +kernel
theorem dX12_end_1 : decode cX12_end 1 = .ok (.iconst 0, 1) := by decide +kernel
theorem dX12_end_2 : decode cX12_end 2 = .ok (.putfield 3, 3) := by decide +kernel
theorem dX12_end_5 : decode cX12_end 5 = .ok (.iload_n 1, 1) := by decide +kernel
theorem dX12_end_6 : decode cX12_end 6 = .ok (.ifCond .lt 11, 3) := by decide +kernel
theorem dX12_end_9 : decode cX12_end 9 = .ok (.iload_n 1, 1) := by decide +kernel
theorem dX12_end_10 : decode cX12_end 10 = .ok (.aload_n 0, 1) := by decide +kernel
theorem dX12_end_11 : decode cX12_end 11 = .ok (.getfield 91, 3) := by decide +kernel
theorem dX12_end_14 : decode cX12_end 14 = .ok (.if_icmp .le 5, 3) := by decide +kernel
theorem dX12_end_17 : decode cX12_end 17 = .ok (.iconst 0, 1) := by decide +kernel
theorem dX12_end_18 : decode cX12_end 18 = .ok (.ireturn, 1) := by decide +kernel
theorem dX12_end_19 : decode cX12_end 19 = .ok (.aload_n 0, 1) := by decide +kernel
theorem dX12_end_20 : decode cX12_end 20 = .ok (.iload_n 1, 1) := by decide +kernel
theorem dX12_end_21 : decode cX12_end 21 = .ok (.putfield 91, 3) := by decide +kernel
theorem dX12_end_24 : decode cX12_end 24 = .ok (.iconst 1, 1) := by decide +kernel
theorem dX12_end_25 : decode cX12_end 25 = .ok (.ireturn, 1) := by decide +kernel
theorem dX12_isAt_0 : decode cX12_isAt 0 = .ok (.aload_n 0, 1) := by decide +kernel
theorem dX12_isAt_1 : decode cX12_isAt 1 = .ok (.getfield 94, 3) := by decide +kernel
theorem dX12_isAt_4 : decode cX12_isAt 4 = .ok (.aload_n 0, 1) := by decide +kernel
theorem dX12_isAt_5 : decode cX12_isAt 5 = .ok (.getfield 97, 3) := by decide +kernel
theorem dX12_isAt_8 : decode cX12_isAt 8 = .ok (.if_icmp .ge 33, 3) := by decide +kernel
theorem dX12_isAt_11 : decode cX12_isAt 11 = .ok (.aload_n 0, 1) := by decide +kernel
theorem dX12_isAt_12 : decode cX12_isAt 12 = .ok (.getfield 26, 3) := by decide +kernel
theorem dX12_isAt_15 : decode cX12_isAt 15 = .ok (.aload_n 0, 1) := by decide +kernel
theorem dX12_isAt_16 : decode cX12_isAt 16 = .ok (.getfield 94, 3) := by decide +kernel
theorem dX12_isAt_19 : decode cX12_isAt 19 = .ok (.baload, 1) := by decide +kernel
theorem dX12_isAt_20 : decode cX12_isAt 20 = .ok (.iload_n 1, 1) := by decide +kernel
theorem dX12_isAt_21 : decode cX12_isAt 21 = .ok (.if_icmp .lt 20, 3) := by decide +kernel
theorem dX12_isAt_24 : decode cX12_isAt 24 = .ok (.aload_n 0, 1) := by decide +kernel
theorem dX12_isAt_25 : decode cX12_isAt 25 = .ok (.getfield 26, 3) := by decide +kernel
theorem dX12_isAt_28 : decode cX12_isAt 28 = .ok (.aload_n 0, 1) := by decide +kernel
theorem dX12_isAt_29 : decode cX12_isAt 29 = .ok (.getfield 94, 3) := by decide +kernel
theorem dX12_isAt_32 : decode cX12_isAt 32 = .ok (.baload, 1) := by decide +kernel
theorem dX12_isAt_33 : decode cX12_isAt 33 = .ok (.iload_n 2, 1) := by decide +kernel
theorem dX12_isAt_34 : decode cX12_isAt 34 = .ok (.if_icmp .gt 7, 3) := by decide +kernel
theorem dX12_isAt_37 : decode cX12_isAt 37 = .ok (.iconst 1, 1) := by decide +kernel
theorem dX12_isAt_38 : decode cX12_isAt 38 = .ok (.goto 4, 3) := by decide +kernel
theorem dX12_isAt_41 : decode cX12_isAt 41 = .ok (.iconst 0, 1) := by decide +kernel
theorem dX12_isAt_42 : decode cX12_isAt 42 = .ok (.ireturn, 1) := by decide +kernel
theorem dX12_blanks_0 : decode cX12_blanks 0 = .ok (.aload_n 0, 1) := by decide +kernel
theorem dX12_blanks_1 : decode cX12_blanks 1 = .ok (.bipush 32, 2) := by decide +kernel
theorem dX12_blanks_3 : decode cX12_blanks 3 = .ok (.bipush 32, 2) := by decide +kernel
theorem dX12_blanks_5 : decode cX12_blanks 5 = .ok (.invokevirtual 100, 3) := by decide +kernel
theorem dX12_blanks_8 : decode cX12_blanks 8 = .ok (.ifCond .eq 16, 3) := by decide +kernel
theorem dX12_blanks_11 : decode cX12_blanks 11 = .ok (.aload_n 0, 1) := by decide +kernel
theorem dX12_blanks_12 : decode cX12_blanks 12 = .ok (.dup, 1) := by decide +kernel
theorem dX12_blanks_13 : decode cX12_blanks 13 = .ok (.getfield 94, 3) := by decide +kernel
theorem dX12_blanks_16 : decode cX12_blanks 16 = .ok (.iconst 1, 1) := by decide +kernel
theorem dX12_blanks_17 : decode cX12_blanks 17 = .ok (.iadd, 1) := by decide +kernel
theorem dX12_blanks_18 : decode cX12_blanks 18 = .ok (.putfield 94, 3) := by decide +kernel
theorem dX12_blanks_21 : decode cX12_blanks 21 = .ok (.goto (-21), 3) := by decide +kernel
theorem dX12_blanks_24 : decode cX12_blanks 24 = .ok (.aload_n 0, 1) := by decide +kernel
theorem dX12_blanks_25 : decode cX12_blanks 25 = .ok (.aload_n 0, 1) := by decide +kernel
theorem dX12_blanks_26 : decode cX12_blanks 26 = .ok (.getfield 94, 3) := by decide +kernel
theorem dX12_blanks_29 : decode cX12_blanks 29 = .ok (.putfield 103, 3) := by decide +kernel
theorem dX12_blanks_32 : decode cX12_blanks 32 = .ok (.return_, 1) := by decide +kernel
theorem dX12_letters_0 : decode cX12_letters 0 = .ok (.aload_n 0, 1) := by decide +kernel
theorem dX12_letters_1 : decode cX12_letters 1 = .ok (.invokevirtual 106, 3) := by decide +kernel
theorem dX12_letters_4 : decode cX12_letters 4 = .ok (.aload_n 0, 1) := by decide +kernel
theorem dX12_letters_5 : decode cX12_letters 5 = .ok (.bipush 97, 2) := by decide +kernel
theorem dX12_letters_7 : decode cX12_letters 7 = .ok (.bipush 122, 2) := by decide +kernel
theorem dX12_letters_9 : decode cX12_letters 9 = .ok (.invokevirtual 100, 3) := by decide +kernel
theorem dX12_letters_12 : decode cX12_letters 12 = .ok (.ifCond .eq 16, 3) := by decide +kernel
theorem dX12_letters_15 : decode cX12_letters 15 = .ok (.aload_n 0, 1) := by decide +kernel
theorem dX12_letters_16 : decode cX12_letters 16 = .ok (.dup, 1) := by decide +kernel
theorem dX12_letters_17 : decode cX12_letters 17 = .ok (.getfield 94, 3) := by decide +kernel
theorem dX12_letters_20 : decode cX12_letters 20 = .ok (.iconst 1, 1) := by decide +kernel
theorem dX12_letters_21 : decode cX12_letters 21 = .ok (.iadd, 1) := by decide +kernel
theorem dX12_letters_22 : decode cX12_letters 22 = .ok (.putfield 94, 3) := by decide +kernel
theorem dX12_letters_25 : decode cX12_letters 25 = .ok (.goto (-21), 3) := by decide +kernel
theorem dX12_letters_28 : decode cX12_letters 28 = .ok (.return_, 1) := by decide +kernel
theorem dX12_number_0 : decode cX12_number 0 = .ok (.aload_n 0, 1) := by decide +kernel
theorem dX12_number_1 : decode cX12_number 1 = .ok (.invokevirtual 106, 3) := by decide +kernel
theorem dX12_number_4 : decode cX12_number 4 = .ok (.iconst 0, 1) := by decide +kernel
theorem dX12_number_5 : decode cX12_number 5 = .ok (.istore_n 3, 1) := by decide +kernel
theorem dX12_number_6 : decode cX12_number 6 = .ok (.aload_n 0, 1) := by decide +kernel
theorem dX12_number_7 : decode cX12_number 7 = .ok (.bipush 48, 2) := by decide +kernel
theorem dX12_number_9 : decode cX12_number 9 = .ok (.bipush 57, 2) := by decide +kernel
theorem dX12_number_11 : decode cX12_number 11 = .ok (.invokevirtual 100, 3) := by decide +kernel
theorem dX12_number_14 : decode cX12_number 14 = .ok (.ifCond .eq 51, 3) := by decide +kernel
theorem dX12_number_17 : decode cX12_number 17 = .ok (.aload_n 0, 1) := by decide +kernel
theorem dX12_number_18 : decode cX12_number 18 = .ok (.getfield 94, 3) := by decide +kernel
theorem dX12_number_21 : decode cX12_number 21 = .ok (.aload_n 0, 1) := by decide +kernel
theorem dX12_number_22 : decode cX12_number 22 = .ok (.getfield 103, 3) := by decide +kernel
theorem dX12_number_25 : decode cX12_number 25 = .ok (.isub, 1) := by decide +kernel
theorem dX12_number_26 : decode cX12_number 26 = .ok (.iconst 3, 1) := by decide +kernel
theorem dX12_number_27 : decode cX12_number 27 = .ok (.if_icmp .ge 23, 3) := by decide +kernel
theorem dX12_number_30 : decode cX12_number 30 = .ok (.bipush 10, 2) := by decide +kernel
theorem dX12_number_32 : decode cX12_number 32 = .ok (.iload_n 3, 1) := by decide +kernel
theorem dX12_number_33 : decode cX12_number 33 = .ok (.imul, 1) := by decide +kernel
theorem dX12_number_34 : decode cX12_number 34 = .ok (.aload_n 0, 1) := by decide +kernel
theorem dX12_number_35 : decode cX12_number 35 = .ok (.getfield 26, 3) := by decide +kernel
theorem dX12_number_38 : decode cX12_number 38 = .ok (.aload_n 0, 1) := by decide +kernel
theorem dX12_number_39 : decode cX12_number 39 = .ok (.getfield 94, 3) := by decide +kernel
theorem dX12_number_42 : decode cX12_number 42 = .ok (.baload, 1) := by decide +kernel
theorem dX12_number_43 : decode cX12_number 43 = .ok (.iadd, 1) := by decide +kernel
theorem dX12_number_44 : decode cX12_number 44 = .ok (.bipush 48, 2) := by decide +kernel
theorem dX12_number_46 : decode cX12_number 46 = .ok (.isub, 1) := by decide +kernel
theorem dX12_number_47 : decode cX12_number 47 = .ok (.goto 4, 3) := by decide +kernel
theorem dX12_number_50 : decode cX12_number 50 = .ok (.iload_n 3, 1) := by decide +kernel
theorem dX12_number_51 : decode cX12_number 51 = .ok (.istore_n 3, 1) := by decide +kernel
theorem dX12_number_52 : decode cX12_number 52 = .ok (.aload_n 0, 1) := by decide +kernel
theorem dX12_number_53 : decode cX12_number 53 = .ok (.dup, 1) := by decide +kernel
theorem dX12_number_54 : decode cX12_number 54 = .ok (.getfield 94, 3) := by decide +kernel
theorem dX12_number_57 : decode cX12_number 57 = .ok (.iconst 1, 1) := by decide +kernel
theorem dX12_number_58 : decode cX12_number 58 = .ok (.iadd, 1) := by decide +kernel
theorem dX12_number_59 : decode cX12_number 59 = .ok (.putfield 94, 3) := by decide +kernel
theorem dX12_number_62 : decode cX12_number 62 = .ok (.goto (-56), 3) := by decide +kernel
theorem dX12_number_65 : decode cX12_number 65 = .ok (.aload_n 0, 1) := by decide +kernel
theorem dX12_number_66 : decode cX12_number 66 = .ok (.getfield 94, 3) := by decide +kernel
theorem dX12_number_69 : decode cX12_number 69 = .ok (.aload_n 0, 1) := by decide +kernel
theorem dX12_number_70 : decode cX12_number 70 = .ok (.getfield 103, 3) := by decide +kernel
theorem dX12_number_73 : decode cX12_number 73 = .ok (.if_icmp .eq 26, 3) := by decide +kernel
theorem dX12_number_76 : decode cX12_number 76 = .ok (.aload_n 0, 1) := by decide +kernel
theorem dX12_number_77 : decode cX12_number 77 = .ok (.getfield 94, 3) := by decide +kernel
theorem dX12_number_80 : decode cX12_number 80 = .ok (.aload_n 0, 1) := by decide +kernel
theorem dX12_number_81 : decode cX12_number 81 = .ok (.getfield 103, 3) := by decide +kernel
theorem dX12_number_84 : decode cX12_number 84 = .ok (.isub, 1) := by decide +kernel
theorem dX12_number_85 : decode cX12_number 85 = .ok (.iconst 3, 1) := by decide +kernel
theorem dX12_number_86 : decode cX12_number 86 = .ok (.if_icmp .gt 13, 3) := by decide +kernel
theorem dX12_number_89 : decode cX12_number 89 = .ok (.iload_n 3, 1) := by decide +kernel
theorem dX12_number_90 : decode cX12_number 90 = .ok (.iload_n 1, 1) := by decide +kernel
theorem dX12_number_91 : decode cX12_number 91 = .ok (.if_icmp .lt 8, 3) := by decide +kernel
theorem dX12_number_94 : decode cX12_number 94 = .ok (.iload_n 3, 1) := by decide +kernel
theorem dX12_number_95 : decode cX12_number 95 = .ok (.iload_n 2, 1) := by decide +kernel
theorem dX12_number_96 : decode cX12_number 96 = .ok (.if_icmp .le 7, 3) := by decide +kernel
theorem dX12_number_99 : decode cX12_number 99 = .ok (.iconst (-1), 1) := by decide +kernel
theorem dX12_number_100 : decode cX12_number 100 = .ok (.goto 4, 3) := by decide +kernel
theorem dX12_number_103 : decode cX12_number 103 = .ok (.iload_n 3, 1) := by decide +kernel
theorem dX12_number_104 : decode cX12_number 104 = .ok (.ireturn, 1) := by decide +kernel
theorem dX12_isFigure_0 : decode cX12_isFigure 0 = .ok (.aload_n 0, 1) := by decide +kernel
theorem dX12_isFigure_1 : decode cX12_isFigure 1 = .ok (.invokevirtual 106, 3) := by decide +kernel
theorem dX12_isFigure_4 : decode cX12_isFigure 4 = .ok (.aload_n 0, 1) := by decide +kernel
theorem dX12_isFigure_5 : decode cX12_isFigure 5 = .ok (.bipush 48, 2) := by decide +kernel
theorem dX12_isFigure_7 : decode cX12_isFigure 7 = .ok (.bipush 57, 2) := by decide +kernel
theorem dX12_isFigure_9 : decode cX12_isFigure 9 = .ok (.invokevirtual 100, 3) := by decide +kernel
theorem dX12_isFigure_12 : decode cX12_isFigure 12 = .ok (.ireturn, 1) := by decide +kernel
theorem dX12_readTo_0 : decode cX12_readTo 0 = .ok (.aload_n 0, 1) := by decide +kernel
theorem dX12_readTo_1 : decode cX12_readTo 1 = .ok (.iload_n 2, 1) := by decide +kernel
theorem dX12_readTo_2 : decode cX12_readTo 2 = .ok (.iload_n 3, 1) := by decide +kernel
theorem dX12_readTo_3 : decode cX12_readTo 3 = .ok (.invokevirtual 118, 3) := by decide +kernel
theorem dX12_readTo_6 : decode cX12_readTo 6 = .ok (.istore 4, 2) := by decide +kernel
theorem dX12_readTo_8 : decode cX12_readTo 8 = .ok (.aload_n 0, 1) := by decide +kernel
theorem dX12_readTo_9 : decode cX12_readTo 9 = .ok (.getfield 13, 3) := by decide +kernel
theorem dX12_readTo_12 : decode cX12_readTo 12 = .ok (.iload_n 1, 1) := by decide +kernel
theorem dX12_readTo_13 : decode cX12_readTo 13 = .ok (.iload 4, 2) := by decide +kernel
theorem dX12_readTo_15 : decode cX12_readTo 15 = .ok (.ifCond .ge 12, 3) := by decide +kernel
theorem dX12_readTo_18 : decode cX12_readTo 18 = .ok (.aload_n 0, 1) := by decide +kernel
theorem dX12_readTo_19 : decode cX12_readTo 19 = .ok (.getfield 13, 3) := by decide +kernel
theorem dX12_readTo_22 : decode cX12_readTo 22 = .ok (.iload_n 1, 1) := by decide +kernel
theorem dX12_readTo_23 : decode cX12_readTo 23 = .ok (.iaload, 1) := by decide +kernel
theorem dX12_readTo_24 : decode cX12_readTo 24 = .ok (.goto 5, 3) := by decide +kernel
theorem dX12_readTo_27 : decode cX12_readTo 27 = .ok (.iload 4, 2) := by decide +kernel
theorem dX12_readTo_29 : decode cX12_readTo 29 = .ok (.iastore, 1) := by decide +kernel
theorem dX12_readTo_30 : decode cX12_readTo 30 = .ok (.iload 4, 2) := by decide +kernel
theorem dX12_readTo_32 : decode cX12_readTo 32 = .ok (.ifCond .lt 7, 3) := by decide +kernel
theorem dX12_readTo_35 : decode cX12_readTo 35 = .ok (.iconst 1, 1) := by decide +kernel
theorem dX12_readTo_36 : decode cX12_readTo 36 = .ok (.goto 4, 3) := by decide +kernel
theorem dX12_readTo_39 : decode cX12_readTo 39 = .ok (.iconst 0, 1) := by decide +kernel
theorem dX12_readTo_40 : decode cX12_readTo 40 = .ok (.ireturn, 1) := by decide +kernel
theorem dX12_fault_0 : decode cX12_fault 0 = .ok (.aload_n 0, 1) := by decide +kernel
theorem dX12_fault_1 : decode cX12_fault 1 = .ok (.iconst 0, 1) := by decide +kernel
theorem dX12_fault_2 : decode cX12_fault 2 = .ok (.putfield 3, 3) := by decide +kernel
theorem dX12_fault_5 : decode cX12_fault 5 = .ok (.aload_n 0, 1) := by decide +kernel
theorem dX12_fault_6 : decode cX12_fault 6 = .ok (.getfield 30, 3) := by decide +kernel
theorem dX12_fault_9 : decode cX12_fault 9 = .ok (.ireturn, 1) := by decide +kernel
theorem dX12_readNodes_0 : decode cX12_readNodes 0 = .ok (.aload_n 0, 1) := by decide +kernel
theorem dX12_readNodes_1 : decode cX12_readNodes 1 = .ok (.getfield 121, 3) := by decide +kernel
theorem dX12_readNodes_4 : decode cX12_readNodes 4 = .ok (.ifCond .gt 10, 3) := by decide +kernel
theorem dX12_readNodes_7 : decode cX12_readNodes 7 = .ok (.aload_n 0, 1) := by decide +kernel
theorem dX12_readNodes_8 : decode cX12_readNodes 8 = .ok (.invokevirtual 66, 3) := by decide +kernel
theorem dX12_readNodes_11 : decode cX12_readNodes 11 = .ok (.ifCond .le 5, 3) := by decide +kernel
theorem dX12_readNodes_14 : decode cX12_readNodes 14 = .ok (.iconst 0, 1) := by decide +kernel
theorem dX12_readNodes_15 : decode cX12_readNodes 15 = .ok (.ireturn, 1) := by decide +kernel
theorem dX12_readNodes_16 : decode cX12_readNodes 16 = .ok (.aload_n 0, 1) := by decide +kernel
theorem dX12_readNodes_17 : decode cX12_readNodes 17 = .ok (.iconst 1, 1) := by decide +kernel
theorem dX12_readNodes_18 : decode cX12_readNodes 18 = .ok (.bipush 6, 2) := by decide +kernel
theorem dX12_readNodes_20 : decode cX12_readNodes 20 = .ok (.invokevirtual 118, 3) := by decide +kernel
theorem dX12_readNodes_23 : decode cX12_readNodes 23 = .ok (.istore_n 1, 1) := by decide +kernel
theorem dX12_readNodes_24 : decode cX12_readNodes 24 = .ok (.iload_n 1, 1) := by decide +kernel
theorem dX12_readNodes_25 : decode cX12_readNodes 25 = .ok (.ifCond .ge 5, 3) := by decide +kernel
theorem dX12_readNodes_28 : decode cX12_readNodes 28 = .ok (.iconst 0, 1) := by decide +kernel
theorem dX12_readNodes_29 : decode cX12_readNodes 29 = .ok (.ireturn, 1) := by decide +kernel
theorem dX12_readNodes_30 : decode cX12_readNodes 30 = .ok (.aload_n 0, 1) := by decide +kernel
theorem dX12_readNodes_31 : decode cX12_readNodes 31 = .ok (.getfield 13, 3) := by decide +kernel
theorem dX12_readNodes_34 : decode cX12_readNodes 34 = .ok (.iconst 0, 1) := by decide +kernel
theorem dX12_readNodes_35 : decode cX12_readNodes 35 = .ok (.iload_n 1, 1) := by decide +kernel
theorem dX12_readNodes_36 : decode cX12_readNodes 36 = .ok (.iastore, 1) := by decide +kernel
theorem dX12_readNodes_37 : decode cX12_readNodes 37 = .ok (.iconst 0, 1) := by decide +kernel
theorem dX12_readNodes_38 : decode cX12_readNodes 38 = .ok (.istore_n 2, 1) := by decide +kernel
theorem dX12_readNodes_39 : decode cX12_readNodes 39 = .ok (.iload_n 2, 1) := by decide +kernel
theorem dX12_readNodes_40 : decode cX12_readNodes 40 = .ok (.iload_n 1, 1) := by decide +kernel
theorem dX12_readNodes_41 : decode cX12_readNodes 41 = .ok (.if_icmp .ge 20, 3) := by decide +kernel
theorem dX12_readNodes_44 : decode cX12_readNodes 44 = .ok (.aload_n 0, 1) := by decide +kernel
theorem dX12_readNodes_45 : decode cX12_readNodes 45 = .ok (.getfield 13, 3) := by decide +kernel
theorem dX12_readNodes_48 : decode cX12_readNodes 48 = .ok (.iload_n 2, 1) := by decide +kernel
theorem dX12_readNodes_49 : decode cX12_readNodes 49 = .ok (.iconst 0, 1) := by decide +kernel
theorem dX12_readNodes_50 : decode cX12_readNodes 50 = .ok (.invokestatic 56, 3) := by decide +kernel
theorem dX12_readNodes_53 : decode cX12_readNodes 53 = .ok (.iconst 1, 1) := by decide +kernel
theorem dX12_readNodes_54 : decode cX12_readNodes 54 = .ok (.iastore, 1) := by decide +kernel
theorem dX12_readNodes_55 : decode cX12_readNodes 55 = .ok (.iinc 2 1, 3) := by decide +kernel
theorem dX12_readNodes_58 : decode cX12_readNodes 58 = .ok (.goto (-19), 3) := by decide +kernel
theorem dX12_readNodes_61 : decode cX12_readNodes 61 = .ok (.iconst 1, 1) := by decide +kernel
theorem dX12_readNodes_62 : decode cX12_readNodes 62 = .ok (.ireturn, 1) := by decide +kernel
theorem dX12_readGroup_0 : decode cX12_readGroup 0 = .ok (.aload_n 0, 1) := by decide +kernel
theorem dX12_readGroup_1 : decode cX12_readGroup 1 = .ok (.getfield 13, 3) := by decide +kernel
theorem dX12_readGroup_4 : decode cX12_readGroup 4 = .ok (.iconst 1, 1) := by decide +kernel
theorem dX12_readGroup_5 : decode cX12_readGroup 5 = .ok (.iaload, 1) := by decide +kernel
theorem dX12_readGroup_6 : decode cX12_readGroup 6 = .ok (.bipush 6, 2) := by decide +kernel
theorem dX12_readGroup_8 : decode cX12_readGroup 8 = .ok (.if_icmp .ne 5, 3) := by decide +kernel
theorem dX12_readGroup_11 : decode cX12_readGroup 11 = .ok (.iconst 0, 1) := by decide +kernel
theorem dX12_readGroup_12 : decode cX12_readGroup 12 = .ok (.ireturn, 1) := by decide +kernel
theorem dX12_readGroup_13 : decode cX12_readGroup 13 = .ok (.iconst 0, 1) := by decide +kernel
theorem dX12_readGroup_14 : decode cX12_readGroup 14 = .ok (.istore_n 1, 1) := by decide +kernel
theorem dX12_readGroup_15 : decode cX12_readGroup 15 = .ok (.aload_n 0, 1) := by decide +kernel
theorem dX12_readGroup_16 : decode cX12_readGroup 16 = .ok (.iconst 0, 1) := by decide +kernel
theorem dX12_readGroup_17 : decode cX12_readGroup 17 = .ok (.aload_n 0, 1) := by decide +kernel
theorem dX12_readGroup_18 : decode cX12_readGroup 18 = .ok (.invokevirtual 66, 3) := by decide +kernel
theorem dX12_readGroup_21 : decode cX12_readGroup 21 = .ok (.iconst 1, 1) := by decide +kernel
theorem dX12_readGroup_22 : decode cX12_readGroup 22 = .ok (.isub, 1) := by decide +kernel
theorem dX12_readGroup_23 : decode cX12_readGroup 23 = .ok (.invokevirtual 118, 3) := by decide +kernel
theorem dX12_readGroup_26 : decode cX12_readGroup 26 = .ok (.istore_n 2, 1) := by decide +kernel
theorem dX12_readGroup_27 : decode cX12_readGroup 27 = .ok (.iload_n 2, 1) := by decide +kernel
theorem dX12_readGroup_28 : decode cX12_readGroup 28 = .ok (.ifCond .lt 11, 3) := by decide +kernel
theorem dX12_readGroup_31 : decode cX12_readGroup 31 = .ok (.iload_n 1, 1) := by decide +kernel
theorem dX12_readGroup_32 : decode cX12_readGroup 32 = .ok (.iload_n 2, 1) := by decide +kernel
theorem dX12_readGroup_33 : decode cX12_readGroup 33 = .ok (.invokestatic 87, 3) := by decide +kernel
theorem dX12_readGroup_36 : decode cX12_readGroup 36 = .ok (.ifCond .eq 5, 3) := by decide +kernel
theorem dX12_readGroup_39 : decode cX12_readGroup 39 = .ok (.iconst 0, 1) := by decide +kernel
theorem dX12_readGroup_40 : decode cX12_readGroup 40 = .ok (.ireturn, 1) := by decide +kernel
theorem dX12_readGroup_41 : decode cX12_readGroup 41 = .ok (.iload_n 1, 1) := by decide +kernel
theorem dX12_readGroup_42 : decode cX12_readGroup 42 = .ok (.iconst 1, 1) := by decide +kernel
theorem dX12_readGroup_43 : decode cX12_readGroup 43 = .ok (.iload_n 2, 1) := by decide +kernel
theorem dX12_readGroup_44 : decode cX12_readGroup 44 = .ok (.ishl, 1) := by decide +kernel
theorem dX12_readGroup_45 : decode cX12_readGroup 45 = .ok (.ior, 1) := by decide +kernel
theorem dX12_readGroup_46 : decode cX12_readGroup 46 = .ok (.istore_n 1, 1) := by decide +kernel
theorem dX12_readGroup_47 : decode cX12_readGroup 47 = .ok (.aload_n 0, 1) := by decide +kernel
theorem dX12_readGroup_48 : decode cX12_readGroup 48 = .ok (.invokevirtual 124, 3) := by decide +kernel
theorem dX12_readGroup_51 : decode cX12_readGroup 51 = .ok (.ifCond .ne (-36), 3) := by decide +kernel
theorem dX12_readGroup_54 : decode cX12_readGroup 54 = .ok (.aload_n 0, 1) := by decide +kernel
theorem dX12_readGroup_55 : decode cX12_readGroup 55 = .ok (.getfield 13, 3) := by decide +kernel
theorem dX12_readGroup_58 : decode cX12_readGroup 58 = .ok (.bipush 11, 2) := by decide +kernel
theorem dX12_readGroup_60 : decode cX12_readGroup 60 = .ok (.aload_n 0, 1) := by decide +kernel
theorem dX12_readGroup_61 : decode cX12_readGroup 61 = .ok (.getfield 13, 3) := by decide +kernel
theorem dX12_readGroup_64 : decode cX12_readGroup 64 = .ok (.iconst 1, 1) := by decide +kernel
theorem dX12_readGroup_65 : decode cX12_readGroup 65 = .ok (.iaload, 1) := by decide +kernel
theorem dX12_readGroup_66 : decode cX12_readGroup 66 = .ok (.iadd, 1) := by decide +kernel
theorem dX12_readGroup_67 : decode cX12_readGroup 67 = .ok (.iload_n 1, 1) := by decide +kernel
theorem dX12_readGroup_68 : decode cX12_readGroup 68 = .ok (.iastore, 1) := by decide +kernel
theorem dX12_readGroup_69 : decode cX12_readGroup 69 = .ok (.aload_n 0, 1) := by decide +kernel
theorem dX12_readGroup_70 : decode cX12_readGroup 70 = .ok (.getfield 13, 3) := by decide +kernel
theorem dX12_readGroup_73 : decode cX12_readGroup 73 = .ok (.iconst 1, 1) := by decide +kernel
theorem dX12_readGroup_74 : decode cX12_readGroup 74 = .ok (.dup2, 1) := by decide +kernel
theorem dX12_readGroup_75 : decode cX12_readGroup 75 = .ok (.iaload, 1) := by decide +kernel
theorem dX12_readGroup_76 : decode cX12_readGroup 76 = .ok (.iconst 1, 1) := by decide +kernel
theorem dX12_readGroup_77 : decode cX12_readGroup 77 = .ok (.iadd, 1) := by decide +kernel
theorem dX12_readGroup_78 : decode cX12_readGroup 78 = .ok (.iastore, 1) := by decide +kernel
theorem dX12_readGroup_79 : decode cX12_readGroup 79 = .ok (.iconst 1, 1) := by decide +kernel
theorem dX12_readGroup_80 : decode cX12_readGroup 80 = .ok (.ireturn, 1) := by decide +kernel
theorem dX12_readDelay_0 : decode cX12_readDelay 0 = .ok (.aload_n 0, 1) := by decide +kernel
theorem dX12_readDelay_1 : decode cX12_readDelay 1 = .ok (.iconst 0, 1) := by decide +kernel
theorem dX12_readDelay_2 : decode cX12_readDelay 2 = .ok (.aload_n 0, 1) := by decide +kernel
theorem dX12_readDelay_3 : decode cX12_readDelay 3 = .ok (.invokevirtual 66, 3) := by decide +kernel
theorem dX12_readDelay_6 : decode cX12_readDelay 6 = .ok (.iconst 1, 1) := by decide +kernel
theorem dX12_readDelay_7 : decode cX12_readDelay 7 = .ok (.isub, 1) := by decide +kernel
theorem dX12_readDelay_8 : decode cX12_readDelay 8 = .ok (.invokevirtual 118, 3) := by decide +kernel
theorem dX12_readDelay_11 : decode cX12_readDelay 11 = .ok (.istore_n 1, 1) := by decide +kernel
theorem dX12_readDelay_12 : decode cX12_readDelay 12 = .ok (.iload_n 1, 1) := by decide +kernel
theorem dX12_readDelay_13 : decode cX12_readDelay 13 = .ok (.ifCond .ge 7, 3) := by decide +kernel
theorem dX12_readDelay_16 : decode cX12_readDelay 16 = .ok (.iconst (-1), 1) := by decide +kernel
theorem dX12_readDelay_17 : decode cX12_readDelay 17 = .ok (.goto 14, 3) := by decide +kernel
theorem dX12_readDelay_20 : decode cX12_readDelay 20 = .ok (.aload_n 0, 1) := by decide +kernel
theorem dX12_readDelay_21 : decode cX12_readDelay 21 = .ok (.iconst 0, 1) := by decide +kernel
theorem dX12_readDelay_22 : decode cX12_readDelay 22 = .ok (.aload_n 0, 1) := by decide +kernel
theorem dX12_readDelay_23 : decode cX12_readDelay 23 = .ok (.invokevirtual 66, 3) := by decide +kernel
theorem dX12_readDelay_26 : decode cX12_readDelay 26 = .ok (.iconst 1, 1) := by decide +kernel
theorem dX12_readDelay_27 : decode cX12_readDelay 27 = .ok (.isub, 1) := by decide +kernel
theorem dX12_readDelay_28 : decode cX12_readDelay 28 = .ok (.invokevirtual 118, 3) := by decide +kernel
theorem dX12_readDelay_31 : decode cX12_readDelay 31 = .ok (.istore_n 2, 1) := by decide +kernel
theorem dX12_readDelay_32 : decode cX12_readDelay 32 = .ok (.iload_n 2, 1) := by decide +kernel
theorem dX12_readDelay_33 : decode cX12_readDelay 33 = .ok (.ifCond .lt 23, 3) := by decide +kernel
theorem dX12_readDelay_36 : decode cX12_readDelay 36 = .ok (.aload_n 0, 1) := by decide +kernel
theorem dX12_readDelay_37 : decode cX12_readDelay 37 = .ok (.iload_n 1, 1) := by decide +kernel
theorem dX12_readDelay_38 : decode cX12_readDelay 38 = .ok (.iload_n 2, 1) := by decide +kernel
theorem dX12_readDelay_39 : decode cX12_readDelay 39 = .ok (.iconst 0, 1) := by decide +kernel
theorem dX12_readDelay_40 : decode cX12_readDelay 40 = .ok (.invokestatic 49, 3) := by decide +kernel
theorem dX12_readDelay_43 : decode cX12_readDelay 43 = .ok (.iconst 1, 1) := by decide +kernel
theorem dX12_readDelay_44 : decode cX12_readDelay 44 = .ok (.bipush 9, 2) := by decide +kernel
theorem dX12_readDelay_46 : decode cX12_readDelay 46 = .ok (.invokevirtual 128, 3) := by decide +kernel
theorem dX12_readDelay_49 : decode cX12_readDelay 49 = .ok (.ifCond .eq 7, 3) := by decide +kernel
theorem dX12_readDelay_52 : decode cX12_readDelay 52 = .ok (.iconst 1, 1) := by decide +kernel
theorem dX12_readDelay_53 : decode cX12_readDelay 53 = .ok (.goto 4, 3) := by decide +kernel
theorem dX12_readDelay_56 : decode cX12_readDelay 56 = .ok (.iconst 0, 1) := by decide +kernel
theorem dX12_readDelay_57 : decode cX12_readDelay 57 = .ok (.ireturn, 1) := by decide +kernel
theorem dX12_jitter_0 : decode cX12_jitter 0 = .ok (.aload_n 0, 1) := by decide +kernel
theorem dX12_jitter_1 : decode cX12_jitter 1 = .ok (.getfield 36, 3) := by decide +kernel
theorem dX12_jitter_4 : decode cX12_jitter 4 = .ok (.ifCond .eq 12, 3) := by decide +kernel
theorem dX12_jitter_7 : decode cX12_jitter 7 = .ok (.aload_n 0, 1) := by decide +kernel
theorem dX12_jitter_8 : decode cX12_jitter 8 = .ok (.getfield 13, 3) := by decide +kernel
theorem dX12_jitter_11 : decode cX12_jitter 11 = .ok (.iconst 5, 1) := by decide +kernel
theorem dX12_jitter_12 : decode cX12_jitter 12 = .ok (.iaload, 1) := by decide +kernel
theorem dX12_jitter_13 : decode cX12_jitter 13 = .ok (.ifCond .ne 5, 3) := by decide +kernel
theorem dX12_jitter_16 : decode cX12_jitter 16 = .ok (.iconst 0, 1) := by decide +kernel
theorem dX12_jitter_17 : decode cX12_jitter 17 = .ok (.ireturn, 1) := by decide +kernel
theorem dX12_jitter_18 : decode cX12_jitter 18 = .ok (.aload_n 0, 1) := by decide +kernel
theorem dX12_jitter_19 : decode cX12_jitter 19 = .ok (.getfield 13, 3) := by decide +kernel
theorem dX12_jitter_22 : decode cX12_jitter 22 = .ok (.bipush 8, 2) := by decide +kernel
theorem dX12_jitter_24 : decode cX12_jitter 24 = .ok (.ldc 180, 2) := by decide +kernel
theorem dX12_jitter_26 : decode cX12_jitter 26 = .ok (.aload_n 0, 1) := by decide +kernel
theorem dX12_jitter_27 : decode cX12_jitter 27 = .ok (.getfield 13, 3) := by decide +kernel
theorem dX12_jitter_30 : decode cX12_jitter 30 = .ok (.bipush 8, 2) := by decide +kernel
theorem dX12_jitter_32 : decode cX12_jitter 32 = .ok (.iaload, 1) := by decide +kernel
theorem dX12_jitter_33 : decode cX12_jitter 33 = .ok (.imul, 1) := by decide +kernel
theorem dX12_jitter_34 : decode cX12_jitter 34 = .ok (.sipush 12345, 3) := by decide +kernel
theorem dX12_jitter_37 : decode cX12_jitter 37 = .ok (.iadd, 1) := by decide +kernel
theorem dX12_jitter_38 : decode cX12_jitter 38 = .ok (.iastore, 1) := by decide +kernel
theorem dX12_jitter_39 : decode cX12_jitter 39 = .ok (.aload_n 0, 1) := by decide +kernel
theorem dX12_jitter_40 : decode cX12_jitter 40 = .ok (.getfield 13, 3) := by decide +kernel
theorem dX12_jitter_43 : decode cX12_jitter 43 = .ok (.bipush 8, 2) := by decide +kernel
theorem dX12_jitter_45 : decode cX12_jitter 45 = .ok (.iaload, 1) := by decide +kernel
theorem dX12_jitter_46 : decode cX12_jitter 46 = .ok (.bipush 16, 2) := by decide +kernel
theorem dX12_jitter_48 : decode cX12_jitter 48 = .ok (.ishr, 1) := by decide +kernel
theorem dX12_jitter_49 : decode cX12_jitter 49 = .ok (.sipush 32767, 3) := by decide +kernel
theorem dX12_jitter_52 : decode cX12_jitter 52 = .ok (.iand, 1) := by decide +kernel
theorem dX12_jitter_53 : decode cX12_jitter 53 = .ok (.aload_n 0, 1) := by decide +kernel
theorem dX12_jitter_54 : decode cX12_jitter 54 = .ok (.getfield 13, 3) := by decide +kernel
theorem dX12_jitter_57 : decode cX12_jitter 57 = .ok (.iconst 5, 1) := by decide +kernel
theorem dX12_jitter_58 : decode cX12_jitter 58 = .ok (.iaload, 1) := by decide +kernel
theorem dX12_jitter_59 : decode cX12_jitter 59 = .ok (.iconst 1, 1) := by decide +kernel
theorem dX12_jitter_60 : decode cX12_jitter 60 = .ok (.iadd, 1) := by decide +kernel
theorem dX12_jitter_61 : decode cX12_jitter 61 = .ok (.irem, 1) := by decide +kernel
theorem dX12_jitter_62 : decode cX12_jitter 62 = .ok (.ireturn, 1) := by decide +kernel
section S_11_m01
variable {p : Program} {l : Launch} {e : Env} {R : Room} {s : State} {m : MethodId} {args : Array Value} {below : List Frame} {meth : Method} {c : Code} {A : Nat → Prop} {D : va_G} {cI cB cL : ClassId} {ad : Nat → Nat} {pa pl : Nat}
noncomputable def fX12_isUp_0 (x1 : Int32) (u : Sg) : Option Int32 := obr (fX12_of x1 0 u) (fun r2 => cnd (r2 = 1) (some 1) (some 0))
noncomputable def fX12_isUp (x1 : Int32) (u : Sg) : Option Int32 := fX12_isUp_0 x1 u
set_option maxRecDepth 10000 in
set_option maxHeartbeats 4000000 in
theorem wX12_isUp_0 (C : cx D (tyl cI cB cL) A RX12 cX12_isUp 2 (some .boolean) p s m args c meth) (hR : 2 ≤ R.frames ∧ 43 ≤ R.locals) {r : Int32} (u : Sg) (x1 : Int32) {H : Heap} {locs : List Loc} {ls : Array Slot} (hl : lv_has ls 2 [(0, .ref (ad 0)), (1, .int x1)]) (S : st D (wM cI cB ad) A s u H locs) (h : fX12_isUp_0 x1 u = some r) : W p l e R s m args below meth c H locs 0 0 (MQ below (qI D (tyl cI cB cL) (wM cI cB ad) A r u) args s 0 0 A) (F0 m 0 ls []) := by
  have hx := C.1
  have hb := C.2.1
  have hsz := hl.1
  unfold fX12_isUp_0 at h
  refine lv_aload_n hx hb dX12_isUp_0 rfl (lv_at hl 0 rfl) ?_
  refine lv_iload_n hx hb dX12_isUp_1 rfl (lv_at hl 1 rfl) ?_
  refine lv_iconst (v := 0) hx hb dX12_isUp_2 (by decide) ?_
  obtain ⟨r2, h1, h⟩ := obr_some h
  refine q_callVi (As := [.int x1, .int 0]) (na := 2) C S (oM0 cI cB ad) rfl (ct_X12_of l D cI cB cL ad x1 0 u h1) mw_35 mw_34 mw_36 mw_5 mw_33 hdX12_of ⟨Nat.le_trans (Nat.le_of_ble_eq_true rfl) hR.1, Nat.le_trans (Nat.le_of_ble_eq_true rfl) hR.2⟩ rfl hsz ⟨Nat.zero_le _, Nat.zero_le _⟩ (Nat.le_of_ble_eq_true rfl) dX12_isUp_3 rfl (fun H locs S => ?_)
  refine lv_iconst (v := 1) hx hb dX12_isUp_6 (by decide) ?_
  refine lv_icmp_ne (tgt := 14) hx hb dX12_isUp_7 (by decide) (fun c3 => ?_) (fun c3 => ?_)
  · have h := cnd_f c3 h
    refine lv_iconst (v := 0) hx hb dX12_isUp_14 (by decide) ?_
    exact q_zret C S rfl (rt_R h) dX12_isUp_15
  · have h := cnd_t c3 h
    refine lv_iconst (v := 1) hx hb dX12_isUp_10 (by decide) ?_
    refine lv_goto (tgt := 15) hx hb dX12_isUp_11 (by decide) ?_
    exact q_zret C S rfl (rt_R h) dX12_isUp_15
set_option maxRecDepth 10000 in
set_option maxHeartbeats 4000000 in
theorem ct_X12_isUp (l : Launch) (D : va_G) (cI cB cL : ClassId) (ad : Nat → Nat) (x1 : Int32) (u : Sg) {r : Int32} (h : fX12_isUp x1 u = some r) : metI l D (tyl cI cB cL) yX12_isUp cX12_isUp 2 (some .boolean) 2 43 (wM cI cB ad) [.ref (ad 0), .int x1] u r u := by
  intro sz
  refine Met.ofW (cc := cX12_isUp) (maxL := 2) (ret := (some .boolean)) (by decide) rfl ?_
  intro p e s m args below meth c s₁ B hml hv
  obtain ⟨rfl, C, S⟩ := q_entry B hml hv
  have hl := lv_entry ([.ref (ad 0), .int x1]) (n := 2) (Nat.le_of_ble_eq_true rfl)
  rw [lg_entry_eq]
  generalize (lg_sl ([.ref (ad 0), .int x1]) ++ List.replicate (2 - (lg_sl ([.ref (ad 0), .int x1])).length) Slot.unset).toArray = ls at hl ⊢
  exact wX12_isUp_0 C ⟨Nat.le_refl _, Nat.le_refl _⟩ u x1 (lv_sub hl [0, 1] rfl) S h
noncomputable def fX12_isNoticed_0 (x1 : Int32) (u : Sg) : Option Int32 := obr (fX12_isUp x1 u) (fun r2 => cnd (r2 = 0) (obr (fX12_of x1 1 u) (fun r5 => cnd ((u 1 4) < (r5 + (u 1 6))) (some 0) (some 1))) (some 0))
noncomputable def fX12_isNoticed (x1 : Int32) (u : Sg) : Option Int32 := fX12_isNoticed_0 x1 u
set_option maxRecDepth 10000 in
set_option maxHeartbeats 4000000 in
theorem wX12_isNoticed_0 (C : cx D (tyl cI cB cL) A RX12 cX12_isNoticed 2 (some .boolean) p s m args c meth) (hR : 3 ≤ R.frames ∧ 64 ≤ R.locals) {r : Int32} (u : Sg) (x1 : Int32) {H : Heap} {locs : List Loc} {ls : Array Slot} (hl : lv_has ls 2 [(0, .ref (ad 0)), (1, .int x1)]) (S : st D (wM cI cB ad) A s u H locs) (h : fX12_isNoticed_0 x1 u = some r) : W p l e R s m args below meth c H locs 0 0 (MQ below (qI D (tyl cI cB cL) (wM cI cB ad) A r u) args s 0 0 A) (F0 m 0 ls []) := by
  have hx := C.1
  have hb := C.2.1
  have hsz := hl.1
  unfold fX12_isNoticed_0 at h
  refine lv_aload_n hx hb dX12_isNoticed_0 rfl (lv_at hl 0 rfl) ?_
  refine lv_iload_n hx hb dX12_isNoticed_1 rfl (lv_at hl 1 rfl) ?_
  obtain ⟨r2, h1, h⟩ := obr_some h
  refine q_callVi (As := [.int x1]) (na := 1) C S (oM0 cI cB ad) rfl (ct_X12_isUp l D cI cB cL ad x1 u h1) mw_39 mw_38 mw_40 mw_5 mw_37 hdX12_isUp ⟨Nat.le_trans (Nat.le_of_ble_eq_true rfl) hR.1, Nat.le_trans (Nat.le_of_ble_eq_true rfl) hR.2⟩ rfl hsz ⟨Nat.zero_le _, Nat.zero_le _⟩ (Nat.le_of_ble_eq_true rfl) dX12_isNoticed_2 rfl (fun H locs S => ?_)
  refine lv_if_ne (tgt := 35) hx hb dX12_isNoticed_5 (by decide) (fun c3 => ?_) (fun c3 => ?_)
  · have h := cnd_f c3 h
    refine lv_iconst (v := 0) hx hb dX12_isNoticed_35 (by decide) ?_
    exact q_zret C S rfl (rt_R h) dX12_isNoticed_36
  · have h := cnd_t c3 h
    refine lv_aload_n hx hb dX12_isNoticed_8 rfl (lv_at hl 0 rfl) ?_
    refine q_get (v := .ref (ad 1)) C S (oM0 cI cB ad) rfl iwX12 1 (by decide) mw_14 rfl dX12_isNoticed_9 ?_
    refine lv_iconst (v := 4) hx hb dX12_isNoticed_12 (by decide) ?_
    refine q_iald C S (aM1 cI cB ad) 0 rfl (show vp_in 4 32243 by unfold vp_in; decide) dX12_isNoticed_13 (j := 4) (by decide) ?_
    refine lv_aload_n hx hb dX12_isNoticed_14 rfl (lv_at hl 0 rfl) ?_
    refine lv_iload_n hx hb dX12_isNoticed_15 rfl (lv_at hl 1 rfl) ?_
    refine lv_iconst (v := 1) hx hb dX12_isNoticed_16 (by decide) ?_
    obtain ⟨r5, h4, h⟩ := obr_some h
    refine q_callVi (As := [.int x1, .int 1]) (na := 2) C S (oM0 cI cB ad) rfl (ct_X12_of l D cI cB cL ad x1 1 u h4) mw_35 mw_34 mw_36 mw_5 mw_33 hdX12_of ⟨Nat.le_trans (Nat.le_of_ble_eq_true rfl) hR.1, Nat.le_trans (Nat.le_of_ble_eq_true rfl) hR.2⟩ rfl hsz ⟨Nat.zero_le _, Nat.zero_le _⟩ (Nat.le_of_ble_eq_true rfl) dX12_isNoticed_17 rfl (fun H locs S => ?_)
    refine lv_aload_n hx hb dX12_isNoticed_20 rfl (lv_at hl 0 rfl) ?_
    refine q_get (v := .ref (ad 1)) C S (oM0 cI cB ad) rfl iwX12 1 (by decide) mw_14 rfl dX12_isNoticed_21 ?_
    refine lv_bipush (v := 6) hx hb dX12_isNoticed_24 (by decide) ?_
    refine q_iald C S (aM1 cI cB ad) 0 rfl (show vp_in 6 32243 by unfold vp_in; decide) dX12_isNoticed_26 (j := 6) (by decide) ?_
    refine lv_iadd hx hb dX12_isNoticed_27 ?_
    refine lv_icmp_lt (tgt := 35) hx hb dX12_isNoticed_28 (by decide) (fun c6 => ?_) (fun c6 => ?_)
    · have h := cnd_t c6 h
      refine lv_iconst (v := 0) hx hb dX12_isNoticed_35 (by decide) ?_
      exact q_zret C S rfl (rt_R h) dX12_isNoticed_36
    · have h := cnd_f c6 h
      refine lv_iconst (v := 1) hx hb dX12_isNoticed_31 (by decide) ?_
      refine lv_goto (tgt := 36) hx hb dX12_isNoticed_32 (by decide) ?_
      exact q_zret C S rfl (rt_R h) dX12_isNoticed_36
set_option maxRecDepth 10000 in
set_option maxHeartbeats 4000000 in
theorem ct_X12_isNoticed (l : Launch) (D : va_G) (cI cB cL : ClassId) (ad : Nat → Nat) (x1 : Int32) (u : Sg) {r : Int32} (h : fX12_isNoticed x1 u = some r) : metI l D (tyl cI cB cL) yX12_isNoticed cX12_isNoticed 2 (some .boolean) 3 64 (wM cI cB ad) [.ref (ad 0), .int x1] u r u := by
  intro sz
  refine Met.ofW (cc := cX12_isNoticed) (maxL := 2) (ret := (some .boolean)) (by decide) rfl ?_
  intro p e s m args below meth c s₁ B hml hv
  obtain ⟨rfl, C, S⟩ := q_entry B hml hv
  have hl := lv_entry ([.ref (ad 0), .int x1]) (n := 2) (Nat.le_of_ble_eq_true rfl)
  rw [lg_entry_eq]
  generalize (lg_sl ([.ref (ad 0), .int x1]) ++ List.replicate (2 - (lg_sl ([.ref (ad 0), .int x1])).length) Slot.unset).toArray = ls at hl ⊢
  exact wX12_isNoticed_0 C ⟨Nat.le_refl _, Nat.le_refl _⟩ u x1 (lv_sub hl [0, 1] rfl) S h
noncomputable def fX12_isTo_0 (x1 : Int32) (x2 : Int32) (u : Sg) : Option Int32 := obr (fX12_ofMessage x1 1 u) (fun r2 => grd (isB (fX12_holds r2 x2)) (some (fX12_holds r2 x2)))
noncomputable def fX12_isTo (x1 : Int32) (x2 : Int32) (u : Sg) : Option Int32 := fX12_isTo_0 x1 x2 u
set_option maxRecDepth 10000 in
set_option maxHeartbeats 4000000 in
theorem wX12_isTo_0 (C : cx D (tyl cI cB cL) A RX12 cX12_isTo 3 (some .boolean) p s m args c meth) (hR : 2 ≤ R.frames ∧ 43 ≤ R.locals) {r : Int32} (u : Sg) (x1 : Int32) (x2 : Int32) {H : Heap} {locs : List Loc} {ls : Array Slot} (hl : lv_has ls 3 [(0, .ref (ad 0)), (1, .int x1), (2, .int x2)]) (S : st D (wM cI cB ad) A s u H locs) (h : fX12_isTo_0 x1 x2 u = some r) : W p l e R s m args below meth c H locs 0 0 (MQ below (qI D (tyl cI cB cL) (wM cI cB ad) A r u) args s 0 0 A) (F0 m 0 ls []) := by
  have hx := C.1
  have hb := C.2.1
  have hsz := hl.1
  unfold fX12_isTo_0 at h
  refine lv_aload_n hx hb dX12_isTo_0 rfl (lv_at hl 0 rfl) ?_
  refine lv_iload_n hx hb dX12_isTo_1 rfl (lv_at hl 1 rfl) ?_
  refine lv_iconst (v := 1) hx hb dX12_isTo_2 (by decide) ?_
  obtain ⟨r2, h1, h⟩ := obr_some h
  refine q_callVi (As := [.int x1, .int 1]) (na := 2) C S (oM0 cI cB ad) rfl (ct_X12_ofMessage l D cI cB cL ad x1 1 u h1) mw_43 mw_42 mw_44 mw_5 mw_41 hdX12_ofMessage ⟨Nat.le_trans (Nat.le_of_ble_eq_true rfl) hR.1, Nat.le_trans (Nat.le_of_ble_eq_true rfl) hR.2⟩ rfl hsz ⟨Nat.zero_le _, Nat.zero_le _⟩ (Nat.le_of_ble_eq_true rfl) dX12_isTo_3 rfl (fun H locs S => ?_)
  refine lv_iload_n hx hb dX12_isTo_6 rfl (lv_at hl 2 rfl) ?_
  refine q_callP (As := [.int r2, .int x2]) (na := 2) C S (ct_X12_holds l D cI cB cL r2 x2) mw_47 mw_46 mw_5 mw_45 hdX12_holds ⟨Nat.le_trans (Nat.le_of_ble_eq_true rfl) hR.1, Nat.le_trans (Nat.le_of_ble_eq_true rfl) hR.2⟩ rfl hsz ⟨Nat.zero_le _, Nat.zero_le _⟩ (Nat.le_of_ble_eq_true rfl) dX12_isTo_7 rfl (fun H locs S => ?_)
  obtain ⟨g3, h⟩ := grd_some h
  exact q_zret C S (isB_n g3) (rt_R h) dX12_isTo_10
set_option maxRecDepth 10000 in
set_option maxHeartbeats 4000000 in
theorem ct_X12_isTo (l : Launch) (D : va_G) (cI cB cL : ClassId) (ad : Nat → Nat) (x1 : Int32) (x2 : Int32) (u : Sg) {r : Int32} (h : fX12_isTo x1 x2 u = some r) : metI l D (tyl cI cB cL) yX12_isTo cX12_isTo 3 (some .boolean) 2 43 (wM cI cB ad) [.ref (ad 0), .int x1, .int x2] u r u := by
  intro sz
  refine Met.ofW (cc := cX12_isTo) (maxL := 3) (ret := (some .boolean)) (by decide) rfl ?_
  intro p e s m args below meth c s₁ B hml hv
  obtain ⟨rfl, C, S⟩ := q_entry B hml hv
  have hl := lv_entry ([.ref (ad 0), .int x1, .int x2]) (n := 3) (Nat.le_of_ble_eq_true rfl)
  rw [lg_entry_eq]
  generalize (lg_sl ([.ref (ad 0), .int x1, .int x2]) ++ List.replicate (3 - (lg_sl ([.ref (ad 0), .int x1, .int x2])).length) Slot.unset).toArray = ls at hl ⊢
  exact wX12_isTo_0 C ⟨Nat.le_refl _, Nat.le_refl _⟩ u x1 x2 (lv_sub hl [0, 1, 2] rfl) S h
noncomputable def fX12_feed_60 : Nat → Int32 → Sg → Option (Int32 × Sg)
  | 0, _, _ => none
  | n + 1, x6, u => cnd (20 ≤ x6) (bnd (s2 u 0 7 ((u 0 7) + 20)) (fun u9 => some ((u9 0 7), u9))) (grd (vp_in (x6 / 4) 5) (grd (vp_in ((u 0 7) + x6) 400) (bnd (s2 u 5 ((((u 0 7) + x6) : Int32).toNatClampNeg) (vp_nar .byte (((((u 6 (((x6 / 4) : Int32).toNatClampNeg)) : Int32) >>> (((24 - (8 * (x6 - x6 / 4 * 4))) &&& 31 : Int32))) : Int32).toInt8.toInt32))) (fun u12 => bnd (x6 + 1) (fun v13 => fX12_feed_60 n v13 u12)))))
noncomputable def fX12_feed_0 (x1 : Int32) (x2 : Int32) (x3 : Int32) (x4 : Int32) (x5 : Int32) (u : Sg) : Option (Int32 × Sg) := bnd (s2 u 0 0 0) (fun u1 => cnd (((u1 0 7) + 20) ≤ 400) (bnd (s2 u1 6 0 x1) (fun u3 => bnd (s2 u3 6 1 x2) (fun u4 => bnd (s2 u4 6 2 x3) (fun u5 => bnd (s2 u5 6 3 x4) (fun u6 => bnd (s2 u6 6 4 x5) (fun u7 => fX12_feed_60 FU 0 u7)))))) (some ((-1), u1)))
noncomputable def fX12_feed (x1 : Int32) (x2 : Int32) (x3 : Int32) (x4 : Int32) (x5 : Int32) (u : Sg) : Option (Int32 × Sg) := fX12_feed_0 x1 x2 x3 x4 x5 u
set_option maxRecDepth 10000 in
set_option maxHeartbeats 4000000 in
theorem wX12_feed_60 (C : cx D (tyl cI cB cL) A RX12 cX12_feed 7 (some .int) p s m args c meth) (hR : 0 ≤ R.frames ∧ 0 ≤ R.locals) {r : Int32} {σ' : Sg} : ∀ (n : Nat) (x6 : Int32) (u : Sg) (H : Heap) (locs : List Loc) (ls : Array Slot), lv_has ls 7 [(0, .ref (ad 0)), (6, .int x6)] → st D (wM cI cB ad) A s u H locs → fX12_feed_60 n x6 u = some (r, σ') → W p l e R s m args below meth c H locs 0 0 (MQ below (qI D (tyl cI cB cL) (wM cI cB ad) A r σ') args s 0 0 A) (F0 m 60 ls []) := by
  have hx := C.1
  have hb := C.2.1
  intro n
  induction n with
  | zero =>
    intro x6 u H locs ls hl S h
    cases h
  | succ n ih =>
    intro x6 u H locs ls hl S h
    rw [fX12_feed_60] at h
    have hsz := hl.1
    refine lv_iload hx hb dX12_feed_60 (lv_at hl 1 rfl) ?_
    refine lv_bipush (v := 20) hx hb dX12_feed_62 (by decide) ?_
    refine lv_icmp_ge (tgt := 106) hx hb dX12_feed_64 (by decide) (fun c8 => ?_) (fun c8 => ?_)
    · have h := cnd_t c8 h
      refine lv_aload_n hx hb dX12_feed_106 rfl (lv_at hl 0 rfl) ?_
      refine lv_dup hx hb dX12_feed_107 rfl ?_
      refine q_get (v := .int (u 0 7)) C S (oM0 cI cB ad) rfl iwX12 7 (by decide) mw_48 rfl dX12_feed_108 ?_
      refine lv_bipush (v := 20) hx hb dX12_feed_111 (by decide) ?_
      refine lv_iadd hx hb dX12_feed_113 ?_
      obtain ⟨u9, eu9⟩ : ∃ z : Sg, z = s2 u 0 7 ((u 0 7) + 20) := ⟨_, rfl⟩
      have h := bnd_of eu9 h
      refine q_put C S (oM0 cI cB ad) rfl iwX12 tyX12 tyX12_ok nmX12 7 (by decide) mw_48 rfl (iM0_7 cI cB ad) rfl rfl dX12_feed_114 eu9 (fun H locs S => ?_)
      refine lv_aload_n hx hb dX12_feed_117 rfl (lv_at hl 0 rfl) ?_
      refine q_get (v := .int (u9 0 7)) C S (oM0 cI cB ad) rfl iwX12 7 (by decide) mw_48 rfl dX12_feed_118 ?_
      exact q_iret C S (rt_S h) dX12_feed_121
    · have h := cnd_f c8 h
      refine lv_aload_n hx hb dX12_feed_67 rfl (lv_at hl 0 rfl) ?_
      refine q_get (v := .ref (ad 5)) C S (oM0 cI cB ad) rfl iwX12 6 (by decide) mw_50 rfl dX12_feed_68 ?_
      refine lv_aload_n hx hb dX12_feed_71 rfl (lv_at hl 0 rfl) ?_
      refine q_get (v := .int (u 0 7)) C S (oM0 cI cB ad) rfl iwX12 7 (by decide) mw_48 rfl dX12_feed_72 ?_
      refine lv_iload hx hb dX12_feed_75 (lv_at hl 1 rfl) ?_
      refine lv_iadd hx hb dX12_feed_77 ?_
      refine lv_aload_n hx hb dX12_feed_78 rfl (lv_at hl 0 rfl) ?_
      refine q_get (v := .ref (ad 6)) C S (oM0 cI cB ad) rfl iwX12 12 (by decide) mw_49 rfl dX12_feed_79 ?_
      refine lv_iload hx hb dX12_feed_82 (lv_at hl 1 rfl) ?_
      refine lv_iconst (v := 4) hx hb dX12_feed_84 (by decide) ?_
      refine lv_idiv hx hb dX12_feed_85 (by decide) ?_
      obtain ⟨g10, h⟩ := grd_some h
      refine q_iald C S (aM6 cI cB ad) 0 rfl g10 dX12_feed_86 (j := ((x6 / 4) : Int32).toNatClampNeg) rfl ?_
      refine lv_bipush (v := 24) hx hb dX12_feed_87 (by decide) ?_
      refine lv_bipush (v := 8) hx hb dX12_feed_89 (by decide) ?_
      refine lv_iload hx hb dX12_feed_91 (lv_at hl 1 rfl) ?_
      refine lv_iconst (v := 4) hx hb dX12_feed_93 (by decide) ?_
      refine lv_irem hx hb dX12_feed_94 (by decide) ?_
      refine lv_imul hx hb dX12_feed_95 ?_
      refine lv_isub hx hb dX12_feed_96 ?_
      refine lv_ishr hx hb dX12_feed_97 ?_
      refine lv_i2b (v := ((((u 6 (((x6 / 4) : Int32).toNatClampNeg)) : Int32) >>> (((24 - (8 * (x6 - x6 / 4 * 4))) &&& 31 : Int32))) : Int32).toInt8.toInt32) hx hb dX12_feed_98 rfl ?_
      obtain ⟨g11, h⟩ := grd_some h
      obtain ⟨u12, eu12⟩ : ∃ z : Sg, z = s2 u 5 ((((u 0 7) + x6) : Int32).toNatClampNeg) (vp_nar .byte (((((u 6 (((x6 / 4) : Int32).toNatClampNeg)) : Int32) >>> (((24 - (8 * (x6 - x6 / 4 * 4))) &&& 31 : Int32))) : Int32).toInt8.toInt32)) := ⟨_, rfl⟩
      have h := bnd_of eu12 h
      refine q_bast C S (aM5 cI cB ad) 1 rfl g11 dX12_feed_99 (j := (((u 0 7) + x6) : Int32).toNatClampNeg) rfl eu12 (fun H locs S => ?_)
      obtain ⟨v13, ev13⟩ : ∃ y : Int32, y = x6 + 1 := ⟨_, rfl⟩
      have h := bnd_of ev13 h
      refine lv_iinc (v := v13) (lv' := [(6, .int v13), (0, .ref (ad 0))]) hx hb dX12_feed_100 hl (k := 1) rfl (by rw [ev13]; rfl) (by decide) rfl (fun ls hl => ?_)
      have hsz := hl.1
      refine lv_goto (tgt := 60) hx hb dX12_feed_103 (by decide) ?_
      exact ih v13 u12 H locs ls (lv_sub hl [1, 0] rfl) S h
set_option maxRecDepth 10000 in
set_option maxHeartbeats 4000000 in
theorem wX12_feed_0 (C : cx D (tyl cI cB cL) A RX12 cX12_feed 7 (some .int) p s m args c meth) (hR : 0 ≤ R.frames ∧ 0 ≤ R.locals) {r : Int32} {σ' : Sg} (u : Sg) (x1 : Int32) (x2 : Int32) (x3 : Int32) (x4 : Int32) (x5 : Int32) {H : Heap} {locs : List Loc} {ls : Array Slot} (hl : lv_has ls 7 [(0, .ref (ad 0)), (1, .int x1), (2, .int x2), (3, .int x3), (4, .int x4), (5, .int x5)]) (S : st D (wM cI cB ad) A s u H locs) (h : fX12_feed_0 x1 x2 x3 x4 x5 u = some (r, σ')) : W p l e R s m args below meth c H locs 0 0 (MQ below (qI D (tyl cI cB cL) (wM cI cB ad) A r σ') args s 0 0 A) (F0 m 0 ls []) := by
  have hx := C.1
  have hb := C.2.1
  have hsz := hl.1
  unfold fX12_feed_0 at h
  refine lv_aload_n hx hb dX12_feed_0 rfl (lv_at hl 0 rfl) ?_
  refine lv_iconst (v := 0) hx hb dX12_feed_1 (by decide) ?_
  obtain ⟨u1, eu1⟩ : ∃ z : Sg, z = s2 u 0 0 0 := ⟨_, rfl⟩
  have h := bnd_of eu1 h
  refine q_put C S (oM0 cI cB ad) rfl iwX12 tyX12 tyX12_ok nmX12 0 (by decide) mw_11 rfl (iM0_0 cI cB ad) rfl rfl dX12_feed_2 eu1 (fun H locs S => ?_)
  refine lv_aload_n hx hb dX12_feed_5 rfl (lv_at hl 0 rfl) ?_
  refine q_get (v := .int (u1 0 7)) C S (oM0 cI cB ad) rfl iwX12 7 (by decide) mw_48 rfl dX12_feed_6 ?_
  refine lv_bipush (v := 20) hx hb dX12_feed_9 (by decide) ?_
  refine lv_iadd hx hb dX12_feed_11 ?_
  refine lv_sipush (v := 400) hx hb dX12_feed_12 (by decide) ?_
  refine lv_icmp_le (tgt := 20) hx hb dX12_feed_15 (by decide) (fun c2 => ?_) (fun c2 => ?_)
  · have h := cnd_t c2 h
    refine lv_aload_n hx hb dX12_feed_20 rfl (lv_at hl 0 rfl) ?_
    refine q_get (v := .ref (ad 6)) C S (oM0 cI cB ad) rfl iwX12 12 (by decide) mw_49 rfl dX12_feed_21 ?_
    refine lv_iconst (v := 0) hx hb dX12_feed_24 (by decide) ?_
    refine lv_iload_n hx hb dX12_feed_25 rfl (lv_at hl 1 rfl) ?_
    obtain ⟨u3, eu3⟩ : ∃ z : Sg, z = s2 u1 6 0 x1 := ⟨_, rfl⟩
    have h := bnd_of eu3 h
    refine q_iast C S (aM6 cI cB ad) 0 rfl (show vp_in 0 5 by unfold vp_in; decide) dX12_feed_26 (j := 0) (by decide) eu3 (fun H locs S => ?_)
    refine lv_aload_n hx hb dX12_feed_27 rfl (lv_at hl 0 rfl) ?_
    refine q_get (v := .ref (ad 6)) C S (oM0 cI cB ad) rfl iwX12 12 (by decide) mw_49 rfl dX12_feed_28 ?_
    refine lv_iconst (v := 1) hx hb dX12_feed_31 (by decide) ?_
    refine lv_iload_n hx hb dX12_feed_32 rfl (lv_at hl 2 rfl) ?_
    obtain ⟨u4, eu4⟩ : ∃ z : Sg, z = s2 u3 6 1 x2 := ⟨_, rfl⟩
    have h := bnd_of eu4 h
    refine q_iast C S (aM6 cI cB ad) 0 rfl (show vp_in 1 5 by unfold vp_in; decide) dX12_feed_33 (j := 1) (by decide) eu4 (fun H locs S => ?_)
    refine lv_aload_n hx hb dX12_feed_34 rfl (lv_at hl 0 rfl) ?_
    refine q_get (v := .ref (ad 6)) C S (oM0 cI cB ad) rfl iwX12 12 (by decide) mw_49 rfl dX12_feed_35 ?_
    refine lv_iconst (v := 2) hx hb dX12_feed_38 (by decide) ?_
    refine lv_iload_n hx hb dX12_feed_39 rfl (lv_at hl 3 rfl) ?_
    obtain ⟨u5, eu5⟩ : ∃ z : Sg, z = s2 u4 6 2 x3 := ⟨_, rfl⟩
    have h := bnd_of eu5 h
    refine q_iast C S (aM6 cI cB ad) 0 rfl (show vp_in 2 5 by unfold vp_in; decide) dX12_feed_40 (j := 2) (by decide) eu5 (fun H locs S => ?_)
    refine lv_aload_n hx hb dX12_feed_41 rfl (lv_at hl 0 rfl) ?_
    refine q_get (v := .ref (ad 6)) C S (oM0 cI cB ad) rfl iwX12 12 (by decide) mw_49 rfl dX12_feed_42 ?_
    refine lv_iconst (v := 3) hx hb dX12_feed_45 (by decide) ?_
    refine lv_iload hx hb dX12_feed_46 (lv_at hl 4 rfl) ?_
    obtain ⟨u6, eu6⟩ : ∃ z : Sg, z = s2 u5 6 3 x4 := ⟨_, rfl⟩
    have h := bnd_of eu6 h
    refine q_iast C S (aM6 cI cB ad) 0 rfl (show vp_in 3 5 by unfold vp_in; decide) dX12_feed_48 (j := 3) (by decide) eu6 (fun H locs S => ?_)
    refine lv_aload_n hx hb dX12_feed_49 rfl (lv_at hl 0 rfl) ?_
    refine q_get (v := .ref (ad 6)) C S (oM0 cI cB ad) rfl iwX12 12 (by decide) mw_49 rfl dX12_feed_50 ?_
    refine lv_iconst (v := 4) hx hb dX12_feed_53 (by decide) ?_
    refine lv_iload hx hb dX12_feed_54 (lv_at hl 5 rfl) ?_
    obtain ⟨u7, eu7⟩ : ∃ z : Sg, z = s2 u6 6 4 x5 := ⟨_, rfl⟩
    have h := bnd_of eu7 h
    refine q_iast C S (aM6 cI cB ad) 0 rfl (show vp_in 4 5 by unfold vp_in; decide) dX12_feed_56 (j := 4) (by decide) eu7 (fun H locs S => ?_)
    refine lv_iconst (v := 0) hx hb dX12_feed_57 (by decide) ?_
    refine lv_istore (lv' := [(6, .int 0), (0, .ref (ad 0)), (1, .int x1), (2, .int x2), (3, .int x3), (4, .int x4), (5, .int x5)]) hx hb dX12_feed_58 hl (by decide) rfl (fun ls hl => ?_)
    have hsz := hl.1
    exact wX12_feed_60 C hR FU 0 u7 H locs ls (lv_sub hl [1, 0] rfl) S h
  · have h := cnd_f c2 h
    refine lv_iconst (v := (-1)) hx hb dX12_feed_18 (by decide) ?_
    exact q_iret C S (rt_S h) dX12_feed_19
set_option maxRecDepth 10000 in
set_option maxHeartbeats 4000000 in
theorem ct_X12_feed (l : Launch) (D : va_G) (cI cB cL : ClassId) (ad : Nat → Nat) (x1 : Int32) (x2 : Int32) (x3 : Int32) (x4 : Int32) (x5 : Int32) (u : Sg) {r : Int32} {σ' : Sg} (h : fX12_feed x1 x2 x3 x4 x5 u = some (r, σ')) : metI l D (tyl cI cB cL) yX12_feed cX12_feed 7 (some .int) 0 0 (wM cI cB ad) [.ref (ad 0), .int x1, .int x2, .int x3, .int x4, .int x5] u r σ' := by
  intro sz
  refine Met.ofW (cc := cX12_feed) (maxL := 7) (ret := (some .int)) (by decide) rfl ?_
  intro p e s m args below meth c s₁ B hml hv
  obtain ⟨rfl, C, S⟩ := q_entry B hml hv
  have hl := lv_entry ([.ref (ad 0), .int x1, .int x2, .int x3, .int x4, .int x5]) (n := 7) (Nat.le_of_ble_eq_true rfl)
  rw [lg_entry_eq]
  generalize (lg_sl ([.ref (ad 0), .int x1, .int x2, .int x3, .int x4, .int x5]) ++ List.replicate (7 - (lg_sl ([.ref (ad 0), .int x1, .int x2, .int x3, .int x4, .int x5])).length) Slot.unset).toArray = ls at hl ⊢
  exact wX12_feed_0 C ⟨Nat.le_refl _, Nat.le_refl _⟩ u x1 x2 x3 x4 x5 (lv_sub hl [0, 1, 2, 3, 4, 5] rfl) S h
noncomputable def fX12_end_0 (x1 : Int32) (u : Sg) : Option (Int32 × Sg) := bnd (s2 u 0 0 0) (fun u1 => cnd (x1 < 0) (some (0, u1)) (cnd (x1 ≤ (u1 0 7)) (bnd (s2 u1 0 7 x1) (fun u4 => some (1, u4))) (some (0, u1))))
noncomputable def fX12_end (x1 : Int32) (u : Sg) : Option (Int32 × Sg) := fX12_end_0 x1 u
set_option maxRecDepth 10000 in
set_option maxHeartbeats 4000000 in
theorem wX12_end_0 (C : cx D (tyl cI cB cL) A RX12 cX12_end 2 (some .boolean) p s m args c meth) (hR : 0 ≤ R.frames ∧ 0 ≤ R.locals) {r : Int32} {σ' : Sg} (u : Sg) (x1 : Int32) {H : Heap} {locs : List Loc} {ls : Array Slot} (hl : lv_has ls 2 [(0, .ref (ad 0)), (1, .int x1)]) (S : st D (wM cI cB ad) A s u H locs) (h : fX12_end_0 x1 u = some (r, σ')) : W p l e R s m args below meth c H locs 0 0 (MQ below (qI D (tyl cI cB cL) (wM cI cB ad) A r σ') args s 0 0 A) (F0 m 0 ls []) := by
  have hx := C.1
  have hb := C.2.1
  have hsz := hl.1
  unfold fX12_end_0 at h
  refine lv_aload_n hx hb dX12_end_0 rfl (lv_at hl 0 rfl) ?_
  refine lv_iconst (v := 0) hx hb dX12_end_1 (by decide) ?_
  obtain ⟨u1, eu1⟩ : ∃ z : Sg, z = s2 u 0 0 0 := ⟨_, rfl⟩
  have h := bnd_of eu1 h
  refine q_put C S (oM0 cI cB ad) rfl iwX12 tyX12 tyX12_ok nmX12 0 (by decide) mw_11 rfl (iM0_0 cI cB ad) rfl rfl dX12_end_2 eu1 (fun H locs S => ?_)
  refine lv_iload_n hx hb dX12_end_5 rfl (lv_at hl 1 rfl) ?_
  refine lv_if_lt (tgt := 17) hx hb dX12_end_6 (by decide) (fun c2 => ?_) (fun c2 => ?_)
  · have h := cnd_t c2 h
    refine lv_iconst (v := 0) hx hb dX12_end_17 (by decide) ?_
    exact q_zret C S rfl (rt_S h) dX12_end_18
  · have h := cnd_f c2 h
    refine lv_iload_n hx hb dX12_end_9 rfl (lv_at hl 1 rfl) ?_
    refine lv_aload_n hx hb dX12_end_10 rfl (lv_at hl 0 rfl) ?_
    refine q_get (v := .int (u1 0 7)) C S (oM0 cI cB ad) rfl iwX12 7 (by decide) mw_48 rfl dX12_end_11 ?_
    refine lv_icmp_le (tgt := 19) hx hb dX12_end_14 (by decide) (fun c3 => ?_) (fun c3 => ?_)
    · have h := cnd_t c3 h
      refine lv_aload_n hx hb dX12_end_19 rfl (lv_at hl 0 rfl) ?_
      refine lv_iload_n hx hb dX12_end_20 rfl (lv_at hl 1 rfl) ?_
      obtain ⟨u4, eu4⟩ : ∃ z : Sg, z = s2 u1 0 7 x1 := ⟨_, rfl⟩
      have h := bnd_of eu4 h
      refine q_put C S (oM0 cI cB ad) rfl iwX12 tyX12 tyX12_ok nmX12 7 (by decide) mw_48 rfl (iM0_7 cI cB ad) rfl rfl dX12_end_21 eu4 (fun H locs S => ?_)
      refine lv_iconst (v := 1) hx hb dX12_end_24 (by decide) ?_
      exact q_zret C S rfl (rt_S h) dX12_end_25
    · have h := cnd_f c3 h
      refine lv_iconst (v := 0) hx hb dX12_end_17 (by decide) ?_
      exact q_zret C S rfl (rt_S h) dX12_end_18
set_option maxRecDepth 10000 in
set_option maxHeartbeats 4000000 in
theorem ct_X12_end (l : Launch) (D : va_G) (cI cB cL : ClassId) (ad : Nat → Nat) (x1 : Int32) (u : Sg) {r : Int32} {σ' : Sg} (h : fX12_end x1 u = some (r, σ')) : metI l D (tyl cI cB cL) yX12_end cX12_end 2 (some .boolean) 0 0 (wM cI cB ad) [.ref (ad 0), .int x1] u r σ' := by
  intro sz
  refine Met.ofW (cc := cX12_end) (maxL := 2) (ret := (some .boolean)) (by decide) rfl ?_
  intro p e s m args below meth c s₁ B hml hv
  obtain ⟨rfl, C, S⟩ := q_entry B hml hv
  have hl := lv_entry ([.ref (ad 0), .int x1]) (n := 2) (Nat.le_of_ble_eq_true rfl)
  rw [lg_entry_eq]
  generalize (lg_sl ([.ref (ad 0), .int x1]) ++ List.replicate (2 - (lg_sl ([.ref (ad 0), .int x1])).length) Slot.unset).toArray = ls at hl ⊢
  exact wX12_end_0 C ⟨Nat.le_refl _, Nat.le_refl _⟩ u x1 (lv_sub hl [0, 1] rfl) S h
noncomputable def fX12_isAt_0 (x1 : Int32) (x2 : Int32) (u : Sg) : Option Int32 := cnd ((u 0 9) ≤ (u 0 8)) (some 0) (grd (vp_in (u 0 8) 400) (cnd ((u 5 (((u 0 8) : Int32).toNatClampNeg)) < x1) (some 0) (grd (vp_in (u 0 8) 400) (cnd (x2 < (u 5 (((u 0 8) : Int32).toNatClampNeg))) (some 0) (some 1)))))
noncomputable def fX12_isAt (x1 : Int32) (x2 : Int32) (u : Sg) : Option Int32 := fX12_isAt_0 x1 x2 u
set_option maxRecDepth 10000 in
set_option maxHeartbeats 4000000 in
theorem wX12_isAt_0 (C : cx D (tyl cI cB cL) A RX12 cX12_isAt 3 (some .boolean) p s m args c meth) (hR : 0 ≤ R.frames ∧ 0 ≤ R.locals) {r : Int32} (u : Sg) (x1 : Int32) (x2 : Int32) {H : Heap} {locs : List Loc} {ls : Array Slot} (hl : lv_has ls 3 [(0, .ref (ad 0)), (1, .int x1), (2, .int x2)]) (S : st D (wM cI cB ad) A s u H locs) (h : fX12_isAt_0 x1 x2 u = some r) : W p l e R s m args below meth c H locs 0 0 (MQ below (qI D (tyl cI cB cL) (wM cI cB ad) A r u) args s 0 0 A) (F0 m 0 ls []) := by
  have hx := C.1
  have hb := C.2.1
  have hsz := hl.1
  unfold fX12_isAt_0 at h
  refine lv_aload_n hx hb dX12_isAt_0 rfl (lv_at hl 0 rfl) ?_
  refine q_get (v := .int (u 0 8)) C S (oM0 cI cB ad) rfl iwX12 8 (by decide) mw_51 rfl dX12_isAt_1 ?_
  refine lv_aload_n hx hb dX12_isAt_4 rfl (lv_at hl 0 rfl) ?_
  refine q_get (v := .int (u 0 9)) C S (oM0 cI cB ad) rfl iwX12 9 (by decide) mw_52 rfl dX12_isAt_5 ?_
  refine lv_icmp_ge (tgt := 41) hx hb dX12_isAt_8 (by decide) (fun c1 => ?_) (fun c1 => ?_)
  · have h := cnd_t c1 h
    refine lv_iconst (v := 0) hx hb dX12_isAt_41 (by decide) ?_
    exact q_zret C S rfl (rt_R h) dX12_isAt_42
  · have h := cnd_f c1 h
    refine lv_aload_n hx hb dX12_isAt_11 rfl (lv_at hl 0 rfl) ?_
    refine q_get (v := .ref (ad 5)) C S (oM0 cI cB ad) rfl iwX12 6 (by decide) mw_50 rfl dX12_isAt_12 ?_
    refine lv_aload_n hx hb dX12_isAt_15 rfl (lv_at hl 0 rfl) ?_
    refine q_get (v := .int (u 0 8)) C S (oM0 cI cB ad) rfl iwX12 8 (by decide) mw_51 rfl dX12_isAt_16 ?_
    obtain ⟨g2, h⟩ := grd_some h
    refine q_bald C S (aM5 cI cB ad) 1 rfl g2 dX12_isAt_19 (j := ((u 0 8) : Int32).toNatClampNeg) rfl ?_
    refine lv_iload_n hx hb dX12_isAt_20 rfl (lv_at hl 1 rfl) ?_
    refine lv_icmp_lt (tgt := 41) hx hb dX12_isAt_21 (by decide) (fun c3 => ?_) (fun c3 => ?_)
    · have h := cnd_t c3 h
      refine lv_iconst (v := 0) hx hb dX12_isAt_41 (by decide) ?_
      exact q_zret C S rfl (rt_R h) dX12_isAt_42
    · have h := cnd_f c3 h
      refine lv_aload_n hx hb dX12_isAt_24 rfl (lv_at hl 0 rfl) ?_
      refine q_get (v := .ref (ad 5)) C S (oM0 cI cB ad) rfl iwX12 6 (by decide) mw_50 rfl dX12_isAt_25 ?_
      refine lv_aload_n hx hb dX12_isAt_28 rfl (lv_at hl 0 rfl) ?_
      refine q_get (v := .int (u 0 8)) C S (oM0 cI cB ad) rfl iwX12 8 (by decide) mw_51 rfl dX12_isAt_29 ?_
      obtain ⟨g4, h⟩ := grd_some h
      refine q_bald C S (aM5 cI cB ad) 1 rfl g4 dX12_isAt_32 (j := ((u 0 8) : Int32).toNatClampNeg) rfl ?_
      refine lv_iload_n hx hb dX12_isAt_33 rfl (lv_at hl 2 rfl) ?_
      refine lv_icmp_gt (tgt := 41) hx hb dX12_isAt_34 (by decide) (fun c5 => ?_) (fun c5 => ?_)
      · have h := cnd_t c5 h
        refine lv_iconst (v := 0) hx hb dX12_isAt_41 (by decide) ?_
        exact q_zret C S rfl (rt_R h) dX12_isAt_42
      · have h := cnd_f c5 h
        refine lv_iconst (v := 1) hx hb dX12_isAt_37 (by decide) ?_
        refine lv_goto (tgt := 42) hx hb dX12_isAt_38 (by decide) ?_
        exact q_zret C S rfl (rt_R h) dX12_isAt_42
set_option maxRecDepth 10000 in
set_option maxHeartbeats 4000000 in
theorem ct_X12_isAt (l : Launch) (D : va_G) (cI cB cL : ClassId) (ad : Nat → Nat) (x1 : Int32) (x2 : Int32) (u : Sg) {r : Int32} (h : fX12_isAt x1 x2 u = some r) : metI l D (tyl cI cB cL) yX12_isAt cX12_isAt 3 (some .boolean) 0 0 (wM cI cB ad) [.ref (ad 0), .int x1, .int x2] u r u := by
  intro sz
  refine Met.ofW (cc := cX12_isAt) (maxL := 3) (ret := (some .boolean)) (by decide) rfl ?_
  intro p e s m args below meth c s₁ B hml hv
  obtain ⟨rfl, C, S⟩ := q_entry B hml hv
  have hl := lv_entry ([.ref (ad 0), .int x1, .int x2]) (n := 3) (Nat.le_of_ble_eq_true rfl)
  rw [lg_entry_eq]
  generalize (lg_sl ([.ref (ad 0), .int x1, .int x2]) ++ List.replicate (3 - (lg_sl ([.ref (ad 0), .int x1, .int x2])).length) Slot.unset).toArray = ls at hl ⊢
  exact wX12_isAt_0 C ⟨Nat.le_refl _, Nat.le_refl _⟩ u x1 x2 (lv_sub hl [0, 1, 2] rfl) S h
noncomputable def fX12_blanks_0 : Nat → Sg → Option Sg
  | 0, _ => none
  | n + 1, u => obr (fX12_isAt 32 32 u) (fun r2 => cnd (r2 = 0) (bnd (s2 u 0 10 (u 0 8)) (fun u4 => some u4)) (bnd (s2 u 0 8 ((u 0 8) + 1)) (fun u5 => fX12_blanks_0 n u5)))
noncomputable def fX12_blanks (u : Sg) : Option Sg := fX12_blanks_0 FU u
set_option maxRecDepth 10000 in
set_option maxHeartbeats 4000000 in
theorem wX12_blanks_0 (C : cx D (tyl cI cB cL) A RX12 cX12_blanks 1 none p s m args c meth) (hR : 1 ≤ R.frames ∧ 22 ≤ R.locals) {σ' : Sg} : ∀ (n : Nat) (u : Sg) (H : Heap) (locs : List Loc) (ls : Array Slot), lv_has ls 1 [(0, .ref (ad 0))] → st D (wM cI cB ad) A s u H locs → fX12_blanks_0 n u = some σ' → W p l e R s m args below meth c H locs 0 0 (MQ below (qV D (tyl cI cB cL) (wM cI cB ad) A σ') args s 0 0 A) (F0 m 0 ls []) := by
  have hx := C.1
  have hb := C.2.1
  intro n
  induction n with
  | zero =>
    intro u H locs ls hl S h
    cases h
  | succ n ih =>
    intro u H locs ls hl S h
    rw [fX12_blanks_0] at h
    have hsz := hl.1
    refine lv_aload_n hx hb dX12_blanks_0 rfl (lv_at hl 0 rfl) ?_
    refine lv_bipush (v := 32) hx hb dX12_blanks_1 (by decide) ?_
    refine lv_bipush (v := 32) hx hb dX12_blanks_3 (by decide) ?_
    obtain ⟨r2, h1, h⟩ := obr_some h
    refine q_callVi (As := [.int 32, .int 32]) (na := 2) C S (oM0 cI cB ad) rfl (ct_X12_isAt l D cI cB cL ad 32 32 u h1) mw_55 mw_54 mw_56 mw_5 mw_53 hdX12_isAt ⟨Nat.le_trans (Nat.le_of_ble_eq_true rfl) hR.1, Nat.le_trans (Nat.le_of_ble_eq_true rfl) hR.2⟩ rfl hsz ⟨Nat.zero_le _, Nat.zero_le _⟩ (Nat.le_of_ble_eq_true rfl) dX12_blanks_5 rfl (fun H locs S => ?_)
    refine lv_if_eq (tgt := 24) hx hb dX12_blanks_8 (by decide) (fun c3 => ?_) (fun c3 => ?_)
    · have h := cnd_t c3 h
      refine lv_aload_n hx hb dX12_blanks_24 rfl (lv_at hl 0 rfl) ?_
      refine lv_aload_n hx hb dX12_blanks_25 rfl (lv_at hl 0 rfl) ?_
      refine q_get (v := .int (u 0 8)) C S (oM0 cI cB ad) rfl iwX12 8 (by decide) mw_51 rfl dX12_blanks_26 ?_
      obtain ⟨u4, eu4⟩ : ∃ z : Sg, z = s2 u 0 10 (u 0 8) := ⟨_, rfl⟩
      have h := bnd_of eu4 h
      refine q_put C S (oM0 cI cB ad) rfl iwX12 tyX12 tyX12_ok nmX12 10 (by decide) mw_57 rfl (iM0_10 cI cB ad) rfl rfl dX12_blanks_29 eu4 (fun H locs S => ?_)
      exact q_vret C S (Option.some.inj h) dX12_blanks_32
    · have h := cnd_f c3 h
      refine lv_aload_n hx hb dX12_blanks_11 rfl (lv_at hl 0 rfl) ?_
      refine lv_dup hx hb dX12_blanks_12 rfl ?_
      refine q_get (v := .int (u 0 8)) C S (oM0 cI cB ad) rfl iwX12 8 (by decide) mw_51 rfl dX12_blanks_13 ?_
      refine lv_iconst (v := 1) hx hb dX12_blanks_16 (by decide) ?_
      refine lv_iadd hx hb dX12_blanks_17 ?_
      obtain ⟨u5, eu5⟩ : ∃ z : Sg, z = s2 u 0 8 ((u 0 8) + 1) := ⟨_, rfl⟩
      have h := bnd_of eu5 h
      refine q_put C S (oM0 cI cB ad) rfl iwX12 tyX12 tyX12_ok nmX12 8 (by decide) mw_51 rfl (iM0_8 cI cB ad) rfl rfl dX12_blanks_18 eu5 (fun H locs S => ?_)
      refine lv_goto (tgt := 0) hx hb dX12_blanks_21 (by decide) ?_
      exact ih u5 H locs ls (lv_sub hl [0] rfl) S h
set_option maxRecDepth 10000 in
set_option maxHeartbeats 4000000 in
theorem ct_X12_blanks (l : Launch) (D : va_G) (cI cB cL : ClassId) (ad : Nat → Nat) (u : Sg) {σ' : Sg} (h : fX12_blanks u = some σ') : metV l D (tyl cI cB cL) yX12_blanks cX12_blanks 1 1 22 (wM cI cB ad) [.ref (ad 0)] u σ' := by
  intro sz
  refine Met.ofW (cc := cX12_blanks) (maxL := 1) (ret := none) (by decide) rfl ?_
  intro p e s m args below meth c s₁ B hml hv
  obtain ⟨rfl, C, S⟩ := q_entry B hml hv
  have hl := lv_entry ([.ref (ad 0)]) (n := 1) (Nat.le_of_ble_eq_true rfl)
  rw [lg_entry_eq]
  generalize (lg_sl ([.ref (ad 0)]) ++ List.replicate (1 - (lg_sl ([.ref (ad 0)])).length) Slot.unset).toArray = ls at hl ⊢
  exact wX12_blanks_0 C ⟨Nat.le_refl _, Nat.le_refl _⟩ FU u _ _ ls (lv_sub hl [0] rfl) S h
noncomputable def fX12_letters_4 : Nat → Sg → Option Sg
  | 0, _ => none
  | n + 1, u => obr (fX12_isAt 97 122 u) (fun r4 => cnd (r4 = 0) (some u) (bnd (s2 u 0 8 ((u 0 8) + 1)) (fun u6 => fX12_letters_4 n u6)))
noncomputable def fX12_letters_0 (u : Sg) : Option Sg := obr (fX12_blanks u) (fun u2 => fX12_letters_4 FU u2)
noncomputable def fX12_letters (u : Sg) : Option Sg := fX12_letters_0 u
set_option maxRecDepth 10000 in
set_option maxHeartbeats 4000000 in
theorem wX12_letters_4 (C : cx D (tyl cI cB cL) A RX12 cX12_letters 1 none p s m args c meth) (hR : 2 ≤ R.frames ∧ 42 ≤ R.locals) {σ' : Sg} : ∀ (n : Nat) (u : Sg) (H : Heap) (locs : List Loc) (ls : Array Slot), lv_has ls 1 [(0, .ref (ad 0))] → st D (wM cI cB ad) A s u H locs → fX12_letters_4 n u = some σ' → W p l e R s m args below meth c H locs 0 0 (MQ below (qV D (tyl cI cB cL) (wM cI cB ad) A σ') args s 0 0 A) (F0 m 4 ls []) := by
  have hx := C.1
  have hb := C.2.1
  intro n
  induction n with
  | zero =>
    intro u H locs ls hl S h
    cases h
  | succ n ih =>
    intro u H locs ls hl S h
    rw [fX12_letters_4] at h
    have hsz := hl.1
    refine lv_aload_n hx hb dX12_letters_4 rfl (lv_at hl 0 rfl) ?_
    refine lv_bipush (v := 97) hx hb dX12_letters_5 (by decide) ?_
    refine lv_bipush (v := 122) hx hb dX12_letters_7 (by decide) ?_
    obtain ⟨r4, h3, h⟩ := obr_some h
    refine q_callVi (As := [.int 97, .int 122]) (na := 2) C S (oM0 cI cB ad) rfl (ct_X12_isAt l D cI cB cL ad 97 122 u h3) mw_55 mw_54 mw_56 mw_5 mw_53 hdX12_isAt ⟨Nat.le_trans (Nat.le_of_ble_eq_true rfl) hR.1, Nat.le_trans (Nat.le_of_ble_eq_true rfl) hR.2⟩ rfl hsz ⟨Nat.zero_le _, Nat.zero_le _⟩ (Nat.le_of_ble_eq_true rfl) dX12_letters_9 rfl (fun H locs S => ?_)
    refine lv_if_eq (tgt := 28) hx hb dX12_letters_12 (by decide) (fun c5 => ?_) (fun c5 => ?_)
    · have h := cnd_t c5 h
      exact q_vret C S (Option.some.inj h) dX12_letters_28
    · have h := cnd_f c5 h
      refine lv_aload_n hx hb dX12_letters_15 rfl (lv_at hl 0 rfl) ?_
      refine lv_dup hx hb dX12_letters_16 rfl ?_
      refine q_get (v := .int (u 0 8)) C S (oM0 cI cB ad) rfl iwX12 8 (by decide) mw_51 rfl dX12_letters_17 ?_
      refine lv_iconst (v := 1) hx hb dX12_letters_20 (by decide) ?_
      refine lv_iadd hx hb dX12_letters_21 ?_
      obtain ⟨u6, eu6⟩ : ∃ z : Sg, z = s2 u 0 8 ((u 0 8) + 1) := ⟨_, rfl⟩
      have h := bnd_of eu6 h
      refine q_put C S (oM0 cI cB ad) rfl iwX12 tyX12 tyX12_ok nmX12 8 (by decide) mw_51 rfl (iM0_8 cI cB ad) rfl rfl dX12_letters_22 eu6 (fun H locs S => ?_)
      refine lv_goto (tgt := 4) hx hb dX12_letters_25 (by decide) ?_
      exact ih u6 H locs ls (lv_sub hl [0] rfl) S h
set_option maxRecDepth 10000 in
set_option maxHeartbeats 4000000 in
theorem wX12_letters_0 (C : cx D (tyl cI cB cL) A RX12 cX12_letters 1 none p s m args c meth) (hR : 2 ≤ R.frames ∧ 42 ≤ R.locals) {σ' : Sg} (u : Sg) {H : Heap} {locs : List Loc} {ls : Array Slot} (hl : lv_has ls 1 [(0, .ref (ad 0))]) (S : st D (wM cI cB ad) A s u H locs) (h : fX12_letters_0 u = some σ') : W p l e R s m args below meth c H locs 0 0 (MQ below (qV D (tyl cI cB cL) (wM cI cB ad) A σ') args s 0 0 A) (F0 m 0 ls []) := by
  have hx := C.1
  have hb := C.2.1
  have hsz := hl.1
  unfold fX12_letters_0 at h
  refine lv_aload_n hx hb dX12_letters_0 rfl (lv_at hl 0 rfl) ?_
  obtain ⟨u2, h1, h⟩ := obr_some h
  refine q_callVv (As := []) (na := 0) C S (oM0 cI cB ad) rfl (ct_X12_blanks l D cI cB cL ad u h1) mw_60 mw_59 mw_61 mw_5 mw_58 hdX12_blanks ⟨Nat.le_trans (Nat.le_of_ble_eq_true rfl) hR.1, Nat.le_trans (Nat.le_of_ble_eq_true rfl) hR.2⟩ rfl hsz ⟨Nat.zero_le _, Nat.zero_le _⟩ (Nat.le_of_ble_eq_true rfl) dX12_letters_1 rfl (fun H locs S => ?_)
  exact wX12_letters_4 C hR FU u2 H locs ls (lv_sub hl [0] rfl) S h
set_option maxRecDepth 10000 in
set_option maxHeartbeats 4000000 in
theorem ct_X12_letters (l : Launch) (D : va_G) (cI cB cL : ClassId) (ad : Nat → Nat) (u : Sg) {σ' : Sg} (h : fX12_letters u = some σ') : metV l D (tyl cI cB cL) yX12_letters cX12_letters 1 2 42 (wM cI cB ad) [.ref (ad 0)] u σ' := by
  intro sz
  refine Met.ofW (cc := cX12_letters) (maxL := 1) (ret := none) (by decide) rfl ?_
  intro p e s m args below meth c s₁ B hml hv
  obtain ⟨rfl, C, S⟩ := q_entry B hml hv
  have hl := lv_entry ([.ref (ad 0)]) (n := 1) (Nat.le_of_ble_eq_true rfl)
  rw [lg_entry_eq]
  generalize (lg_sl ([.ref (ad 0)]) ++ List.replicate (1 - (lg_sl ([.ref (ad 0)])).length) Slot.unset).toArray = ls at hl ⊢
  exact wX12_letters_0 C ⟨Nat.le_refl _, Nat.le_refl _⟩ u (lv_sub hl [0] rfl) S h
noncomputable def fX12_number_99 (u : Sg) : Option (Int32 × Sg) := some ((-1), u)
noncomputable def fX12_number_51 (K6 : Int32 → Int32 → Int32 → Sg → Option (Int32 × Sg)) (x1 : Int32) (x2 : Int32) (t0 : Int32) (u : Sg) : Option (Int32 × Sg) := bnd (s2 u 0 8 ((u 0 8) + 1)) (fun u11 => K6 x1 x2 t0 u11)
noncomputable def fX12_number_6 : Nat → Int32 → Int32 → Int32 → Sg → Option (Int32 × Sg)
  | 0, _, _, _, _ => none
  | n + 1, x1, x2, x3, u => obr (fX12_isAt 48 57 u) (fun r4 => cnd (r4 = 0) (cnd ((u 0 8) = (u 0 10)) (fX12_number_99 u) (cnd (3 < ((u 0 8) - (u 0 10))) (fX12_number_99 u) (cnd (x3 < x1) (fX12_number_99 u) (cnd (x3 ≤ x2) (some (x3, u)) (fX12_number_99 u))))) (cnd (3 ≤ ((u 0 8) - (u 0 10))) (fX12_number_51 (fun a0 a1 a2 w => fX12_number_6 n a0 a1 a2 w) x1 x2 x3 u) (grd (vp_in (u 0 8) 400) (fX12_number_51 (fun a0 a1 a2 w => fX12_number_6 n a0 a1 a2 w) x1 x2 (((10 * x3) + (u 5 (((u 0 8) : Int32).toNatClampNeg))) - 48) u))))
noncomputable def fX12_number_0 (x1 : Int32) (x2 : Int32) (u : Sg) : Option (Int32 × Sg) := obr (fX12_blanks u) (fun u2 => fX12_number_6 FU x1 x2 0 u2)
noncomputable def fX12_number (x1 : Int32) (x2 : Int32) (u : Sg) : Option (Int32 × Sg) := fX12_number_0 x1 x2 u
set_option maxRecDepth 10000 in
set_option maxHeartbeats 4000000 in
theorem wX12_number_99 (C : cx D (tyl cI cB cL) A RX12 cX12_number 4 (some .int) p s m args c meth) (hR : 2 ≤ R.frames ∧ 42 ≤ R.locals) {r : Int32} {σ' : Sg} (u : Sg) {H : Heap} {locs : List Loc} {ls : Array Slot} (hl : lv_has ls 4 []) (S : st D (wM cI cB ad) A s u H locs) (h : fX12_number_99 u = some (r, σ')) : W p l e R s m args below meth c H locs 0 0 (MQ below (qI D (tyl cI cB cL) (wM cI cB ad) A r σ') args s 0 0 A) (F0 m 99 ls []) := by
  have hx := C.1
  have hb := C.2.1
  have hsz := hl.1
  unfold fX12_number_99 at h
  refine lv_iconst (v := (-1)) hx hb dX12_number_99 (by decide) ?_
  refine lv_goto (tgt := 104) hx hb dX12_number_100 (by decide) ?_
  exact q_iret C S (rt_S h) dX12_number_104
set_option maxRecDepth 10000 in
set_option maxHeartbeats 4000000 in
theorem wX12_number_51 (C : cx D (tyl cI cB cL) A RX12 cX12_number 4 (some .int) p s m args c meth) (hR : 2 ≤ R.frames ∧ 42 ≤ R.locals) {r : Int32} {σ' : Sg} (u : Sg) {K6 : Int32 → Int32 → Int32 → Sg → Option (Int32 × Sg)} (hK6 : ∀ (y1 : Int32) (y2 : Int32) (y3 : Int32) (v : Sg) (H : Heap) (locs : List Loc) (ls : Array Slot), lv_has ls 4 [(0, .ref (ad 0)), (1, .int y1), (2, .int y2), (3, .int y3)] → st D (wM cI cB ad) A s v H locs → K6 y1 y2 y3 v = some (r, σ') → W p l e R s m args below meth c H locs 0 0 (MQ below (qI D (tyl cI cB cL) (wM cI cB ad) A r σ') args s 0 0 A) (F0 m 6 ls [])) (x1 : Int32) (x2 : Int32) (t0 : Int32) {H : Heap} {locs : List Loc} {ls : Array Slot} (hl : lv_has ls 4 [(0, .ref (ad 0)), (1, .int x1), (2, .int x2)]) (S : st D (wM cI cB ad) A s u H locs) (h : fX12_number_51 K6 x1 x2 t0 u = some (r, σ')) : W p l e R s m args below meth c H locs 0 0 (MQ below (qI D (tyl cI cB cL) (wM cI cB ad) A r σ') args s 0 0 A) (F0 m 51 ls [.int t0]) := by
  have hx := C.1
  have hb := C.2.1
  have hsz := hl.1
  unfold fX12_number_51 at h
  refine lv_istore_n (lv' := [(3, .int t0), (0, .ref (ad 0)), (1, .int x1), (2, .int x2)]) hx hb dX12_number_51 rfl hl (by decide) rfl (fun ls hl => ?_)
  have hsz := hl.1
  refine lv_aload_n hx hb dX12_number_52 rfl (lv_at hl 1 rfl) ?_
  refine lv_dup hx hb dX12_number_53 rfl ?_
  refine q_get (v := .int (u 0 8)) C S (oM0 cI cB ad) rfl iwX12 8 (by decide) mw_51 rfl dX12_number_54 ?_
  refine lv_iconst (v := 1) hx hb dX12_number_57 (by decide) ?_
  refine lv_iadd hx hb dX12_number_58 ?_
  obtain ⟨u11, eu11⟩ : ∃ z : Sg, z = s2 u 0 8 ((u 0 8) + 1) := ⟨_, rfl⟩
  have h := bnd_of eu11 h
  refine q_put C S (oM0 cI cB ad) rfl iwX12 tyX12 tyX12_ok nmX12 8 (by decide) mw_51 rfl (iM0_8 cI cB ad) rfl rfl dX12_number_59 eu11 (fun H locs S => ?_)
  refine lv_goto (tgt := 6) hx hb dX12_number_62 (by decide) ?_
  exact hK6 x1 x2 t0 u11 H locs ls (lv_sub hl [1, 2, 3, 0] rfl) S h
set_option maxRecDepth 10000 in
set_option maxHeartbeats 4000000 in
theorem wX12_number_6 (C : cx D (tyl cI cB cL) A RX12 cX12_number 4 (some .int) p s m args c meth) (hR : 2 ≤ R.frames ∧ 42 ≤ R.locals) {r : Int32} {σ' : Sg} : ∀ (n : Nat) (x1 : Int32) (x2 : Int32) (x3 : Int32) (u : Sg) (H : Heap) (locs : List Loc) (ls : Array Slot), lv_has ls 4 [(0, .ref (ad 0)), (1, .int x1), (2, .int x2), (3, .int x3)] → st D (wM cI cB ad) A s u H locs → fX12_number_6 n x1 x2 x3 u = some (r, σ') → W p l e R s m args below meth c H locs 0 0 (MQ below (qI D (tyl cI cB cL) (wM cI cB ad) A r σ') args s 0 0 A) (F0 m 6 ls []) := by
  have hx := C.1
  have hb := C.2.1
  intro n
  induction n with
  | zero =>
    intro x1 x2 x3 u H locs ls hl S h
    cases h
  | succ n ih =>
    intro x1 x2 x3 u H locs ls hl S h
    rw [fX12_number_6] at h
    have hsz := hl.1
    refine lv_aload_n hx hb dX12_number_6 rfl (lv_at hl 0 rfl) ?_
    refine lv_bipush (v := 48) hx hb dX12_number_7 (by decide) ?_
    refine lv_bipush (v := 57) hx hb dX12_number_9 (by decide) ?_
    obtain ⟨r4, h3, h⟩ := obr_some h
    refine q_callVi (As := [.int 48, .int 57]) (na := 2) C S (oM0 cI cB ad) rfl (ct_X12_isAt l D cI cB cL ad 48 57 u h3) mw_55 mw_54 mw_56 mw_5 mw_53 hdX12_isAt ⟨Nat.le_trans (Nat.le_of_ble_eq_true rfl) hR.1, Nat.le_trans (Nat.le_of_ble_eq_true rfl) hR.2⟩ rfl hsz ⟨Nat.zero_le _, Nat.zero_le _⟩ (Nat.le_of_ble_eq_true rfl) dX12_number_11 rfl (fun H locs S => ?_)
    refine lv_if_eq (tgt := 65) hx hb dX12_number_14 (by decide) (fun c5 => ?_) (fun c5 => ?_)
    · have h := cnd_t c5 h
      refine lv_aload_n hx hb dX12_number_65 rfl (lv_at hl 0 rfl) ?_
      refine q_get (v := .int (u 0 8)) C S (oM0 cI cB ad) rfl iwX12 8 (by decide) mw_51 rfl dX12_number_66 ?_
      refine lv_aload_n hx hb dX12_number_69 rfl (lv_at hl 0 rfl) ?_
      refine q_get (v := .int (u 0 10)) C S (oM0 cI cB ad) rfl iwX12 10 (by decide) mw_57 rfl dX12_number_70 ?_
      refine lv_icmp_eq (tgt := 99) hx hb dX12_number_73 (by decide) (fun c6 => ?_) (fun c6 => ?_)
      · have h := cnd_t c6 h
        exact wX12_number_99 C hR u (lv_sub hl [] rfl) S h
      · have h := cnd_f c6 h
        refine lv_aload_n hx hb dX12_number_76 rfl (lv_at hl 0 rfl) ?_
        refine q_get (v := .int (u 0 8)) C S (oM0 cI cB ad) rfl iwX12 8 (by decide) mw_51 rfl dX12_number_77 ?_
        refine lv_aload_n hx hb dX12_number_80 rfl (lv_at hl 0 rfl) ?_
        refine q_get (v := .int (u 0 10)) C S (oM0 cI cB ad) rfl iwX12 10 (by decide) mw_57 rfl dX12_number_81 ?_
        refine lv_isub hx hb dX12_number_84 ?_
        refine lv_iconst (v := 3) hx hb dX12_number_85 (by decide) ?_
        refine lv_icmp_gt (tgt := 99) hx hb dX12_number_86 (by decide) (fun c7 => ?_) (fun c7 => ?_)
        · have h := cnd_t c7 h
          exact wX12_number_99 C hR u (lv_sub hl [] rfl) S h
        · have h := cnd_f c7 h
          refine lv_iload_n hx hb dX12_number_89 rfl (lv_at hl 3 rfl) ?_
          refine lv_iload_n hx hb dX12_number_90 rfl (lv_at hl 1 rfl) ?_
          refine lv_icmp_lt (tgt := 99) hx hb dX12_number_91 (by decide) (fun c8 => ?_) (fun c8 => ?_)
          · have h := cnd_t c8 h
            exact wX12_number_99 C hR u (lv_sub hl [] rfl) S h
          · have h := cnd_f c8 h
            refine lv_iload_n hx hb dX12_number_94 rfl (lv_at hl 3 rfl) ?_
            refine lv_iload_n hx hb dX12_number_95 rfl (lv_at hl 2 rfl) ?_
            refine lv_icmp_le (tgt := 103) hx hb dX12_number_96 (by decide) (fun c9 => ?_) (fun c9 => ?_)
            · have h := cnd_t c9 h
              refine lv_iload_n hx hb dX12_number_103 rfl (lv_at hl 3 rfl) ?_
              exact q_iret C S (rt_S h) dX12_number_104
            · have h := cnd_f c9 h
              exact wX12_number_99 C hR u (lv_sub hl [] rfl) S h
    · have h := cnd_f c5 h
      refine lv_aload_n hx hb dX12_number_17 rfl (lv_at hl 0 rfl) ?_
      refine q_get (v := .int (u 0 8)) C S (oM0 cI cB ad) rfl iwX12 8 (by decide) mw_51 rfl dX12_number_18 ?_
      refine lv_aload_n hx hb dX12_number_21 rfl (lv_at hl 0 rfl) ?_
      refine q_get (v := .int (u 0 10)) C S (oM0 cI cB ad) rfl iwX12 10 (by decide) mw_57 rfl dX12_number_22 ?_
      refine lv_isub hx hb dX12_number_25 ?_
      refine lv_iconst (v := 3) hx hb dX12_number_26 (by decide) ?_
      refine lv_icmp_ge (tgt := 50) hx hb dX12_number_27 (by decide) (fun c10 => ?_) (fun c10 => ?_)
      · have h := cnd_t c10 h
        refine lv_iload_n hx hb dX12_number_50 rfl (lv_at hl 3 rfl) ?_
        exact wX12_number_51 C hR u ih x1 x2 x3 (lv_sub hl [0, 1, 2] rfl) S h
      · have h := cnd_f c10 h
        refine lv_bipush (v := 10) hx hb dX12_number_30 (by decide) ?_
        refine lv_iload_n hx hb dX12_number_32 rfl (lv_at hl 3 rfl) ?_
        refine lv_imul hx hb dX12_number_33 ?_
        refine lv_aload_n hx hb dX12_number_34 rfl (lv_at hl 0 rfl) ?_
        refine q_get (v := .ref (ad 5)) C S (oM0 cI cB ad) rfl iwX12 6 (by decide) mw_50 rfl dX12_number_35 ?_
        refine lv_aload_n hx hb dX12_number_38 rfl (lv_at hl 0 rfl) ?_
        refine q_get (v := .int (u 0 8)) C S (oM0 cI cB ad) rfl iwX12 8 (by decide) mw_51 rfl dX12_number_39 ?_
        obtain ⟨g12, h⟩ := grd_some h
        refine q_bald C S (aM5 cI cB ad) 1 rfl g12 dX12_number_42 (j := ((u 0 8) : Int32).toNatClampNeg) rfl ?_
        refine lv_iadd hx hb dX12_number_43 ?_
        refine lv_bipush (v := 48) hx hb dX12_number_44 (by decide) ?_
        refine lv_isub hx hb dX12_number_46 ?_
        refine lv_goto (tgt := 51) hx hb dX12_number_47 (by decide) ?_
        exact wX12_number_51 C hR u ih x1 x2 (((10 * x3) + (u 5 (((u 0 8) : Int32).toNatClampNeg))) - 48) (lv_sub hl [0, 1, 2] rfl) S h
set_option maxRecDepth 10000 in
set_option maxHeartbeats 4000000 in
theorem wX12_number_0 (C : cx D (tyl cI cB cL) A RX12 cX12_number 4 (some .int) p s m args c meth) (hR : 2 ≤ R.frames ∧ 42 ≤ R.locals) {r : Int32} {σ' : Sg} (u : Sg) (x1 : Int32) (x2 : Int32) {H : Heap} {locs : List Loc} {ls : Array Slot} (hl : lv_has ls 4 [(0, .ref (ad 0)), (1, .int x1), (2, .int x2)]) (S : st D (wM cI cB ad) A s u H locs) (h : fX12_number_0 x1 x2 u = some (r, σ')) : W p l e R s m args below meth c H locs 0 0 (MQ below (qI D (tyl cI cB cL) (wM cI cB ad) A r σ') args s 0 0 A) (F0 m 0 ls []) := by
  have hx := C.1
  have hb := C.2.1
  have hsz := hl.1
  unfold fX12_number_0 at h
  refine lv_aload_n hx hb dX12_number_0 rfl (lv_at hl 0 rfl) ?_
  obtain ⟨u2, h1, h⟩ := obr_some h
  refine q_callVv (As := []) (na := 0) C S (oM0 cI cB ad) rfl (ct_X12_blanks l D cI cB cL ad u h1) mw_60 mw_59 mw_61 mw_5 mw_58 hdX12_blanks ⟨Nat.le_trans (Nat.le_of_ble_eq_true rfl) hR.1, Nat.le_trans (Nat.le_of_ble_eq_true rfl) hR.2⟩ rfl hsz ⟨Nat.zero_le _, Nat.zero_le _⟩ (Nat.le_of_ble_eq_true rfl) dX12_number_1 rfl (fun H locs S => ?_)
  refine lv_iconst (v := 0) hx hb dX12_number_4 (by decide) ?_
  refine lv_istore_n (lv' := [(3, .int 0), (0, .ref (ad 0)), (1, .int x1), (2, .int x2)]) hx hb dX12_number_5 rfl hl (by decide) rfl (fun ls hl => ?_)
  have hsz := hl.1
  exact wX12_number_6 C hR FU x1 x2 0 u2 H locs ls (lv_sub hl [1, 2, 3, 0] rfl) S h
set_option maxRecDepth 10000 in
set_option maxHeartbeats 4000000 in
theorem ct_X12_number (l : Launch) (D : va_G) (cI cB cL : ClassId) (ad : Nat → Nat) (x1 : Int32) (x2 : Int32) (u : Sg) {r : Int32} {σ' : Sg} (h : fX12_number x1 x2 u = some (r, σ')) : metI l D (tyl cI cB cL) yX12_number cX12_number 4 (some .int) 2 42 (wM cI cB ad) [.ref (ad 0), .int x1, .int x2] u r σ' := by
  intro sz
  refine Met.ofW (cc := cX12_number) (maxL := 4) (ret := (some .int)) (by decide) rfl ?_
  intro p e s m args below meth c s₁ B hml hv
  obtain ⟨rfl, C, S⟩ := q_entry B hml hv
  have hl := lv_entry ([.ref (ad 0), .int x1, .int x2]) (n := 4) (Nat.le_of_ble_eq_true rfl)
  rw [lg_entry_eq]
  generalize (lg_sl ([.ref (ad 0), .int x1, .int x2]) ++ List.replicate (4 - (lg_sl ([.ref (ad 0), .int x1, .int x2])).length) Slot.unset).toArray = ls at hl ⊢
  exact wX12_number_0 C ⟨Nat.le_refl _, Nat.le_refl _⟩ u x1 x2 (lv_sub hl [0, 1, 2] rfl) S h
noncomputable def fX12_isFigure_0 (u : Sg) : Option (Int32 × Sg) := obr (fX12_blanks u) (fun u2 => obr (fX12_isAt 48 57 u2) (fun r4 => grd (isB r4) (some (r4, u2))))
noncomputable def fX12_isFigure (u : Sg) : Option (Int32 × Sg) := fX12_isFigure_0 u
set_option maxRecDepth 10000 in
set_option maxHeartbeats 4000000 in
theorem wX12_isFigure_0 (C : cx D (tyl cI cB cL) A RX12 cX12_isFigure 1 (some .boolean) p s m args c meth) (hR : 2 ≤ R.frames ∧ 42 ≤ R.locals) {r : Int32} {σ' : Sg} (u : Sg) {H : Heap} {locs : List Loc} {ls : Array Slot} (hl : lv_has ls 1 [(0, .ref (ad 0))]) (S : st D (wM cI cB ad) A s u H locs) (h : fX12_isFigure_0 u = some (r, σ')) : W p l e R s m args below meth c H locs 0 0 (MQ below (qI D (tyl cI cB cL) (wM cI cB ad) A r σ') args s 0 0 A) (F0 m 0 ls []) := by
  have hx := C.1
  have hb := C.2.1
  have hsz := hl.1
  unfold fX12_isFigure_0 at h
  refine lv_aload_n hx hb dX12_isFigure_0 rfl (lv_at hl 0 rfl) ?_
  obtain ⟨u2, h1, h⟩ := obr_some h
  refine q_callVv (As := []) (na := 0) C S (oM0 cI cB ad) rfl (ct_X12_blanks l D cI cB cL ad u h1) mw_60 mw_59 mw_61 mw_5 mw_58 hdX12_blanks ⟨Nat.le_trans (Nat.le_of_ble_eq_true rfl) hR.1, Nat.le_trans (Nat.le_of_ble_eq_true rfl) hR.2⟩ rfl hsz ⟨Nat.zero_le _, Nat.zero_le _⟩ (Nat.le_of_ble_eq_true rfl) dX12_isFigure_1 rfl (fun H locs S => ?_)
  refine lv_aload_n hx hb dX12_isFigure_4 rfl (lv_at hl 0 rfl) ?_
  refine lv_bipush (v := 48) hx hb dX12_isFigure_5 (by decide) ?_
  refine lv_bipush (v := 57) hx hb dX12_isFigure_7 (by decide) ?_
  obtain ⟨r4, h3, h⟩ := obr_some h
  refine q_callVi (As := [.int 48, .int 57]) (na := 2) C S (oM0 cI cB ad) rfl (ct_X12_isAt l D cI cB cL ad 48 57 u2 h3) mw_55 mw_54 mw_56 mw_5 mw_53 hdX12_isAt ⟨Nat.le_trans (Nat.le_of_ble_eq_true rfl) hR.1, Nat.le_trans (Nat.le_of_ble_eq_true rfl) hR.2⟩ rfl hsz ⟨Nat.zero_le _, Nat.zero_le _⟩ (Nat.le_of_ble_eq_true rfl) dX12_isFigure_9 rfl (fun H locs S => ?_)
  obtain ⟨g5, h⟩ := grd_some h
  exact q_zret C S (isB_n g5) (rt_S h) dX12_isFigure_12
set_option maxRecDepth 10000 in
set_option maxHeartbeats 4000000 in
theorem ct_X12_isFigure (l : Launch) (D : va_G) (cI cB cL : ClassId) (ad : Nat → Nat) (u : Sg) {r : Int32} {σ' : Sg} (h : fX12_isFigure u = some (r, σ')) : metI l D (tyl cI cB cL) yX12_isFigure cX12_isFigure 1 (some .boolean) 2 42 (wM cI cB ad) [.ref (ad 0)] u r σ' := by
  intro sz
  refine Met.ofW (cc := cX12_isFigure) (maxL := 1) (ret := (some .boolean)) (by decide) rfl ?_
  intro p e s m args below meth c s₁ B hml hv
  obtain ⟨rfl, C, S⟩ := q_entry B hml hv
  have hl := lv_entry ([.ref (ad 0)]) (n := 1) (Nat.le_of_ble_eq_true rfl)
  rw [lg_entry_eq]
  generalize (lg_sl ([.ref (ad 0)]) ++ List.replicate (1 - (lg_sl ([.ref (ad 0)])).length) Slot.unset).toArray = ls at hl ⊢
  exact wX12_isFigure_0 C ⟨Nat.le_refl _, Nat.le_refl _⟩ u (lv_sub hl [0] rfl) S h
noncomputable def fX12_readTo_29 (x4 : Int32) (t0 : Int32) (t1 : Int32) (u : Sg) : Option (Int32 × Sg) := grd (vp_in t1 32243) (bnd (s2 u 1 ((t1 : Int32).toNatClampNeg) t0) (fun u6 => cnd (x4 < 0) (some (0, u6)) (some (1, u6))))
noncomputable def fX12_readTo_0 (x1 : Int32) (x2 : Int32) (x3 : Int32) (u : Sg) : Option (Int32 × Sg) := obd (fX12_number x2 x3 u) (fun r2 u3 => cnd (0 ≤ r2) (fX12_readTo_29 r2 r2 x1 u3) (grd (vp_in x1 32243) (fX12_readTo_29 r2 (u3 1 ((x1 : Int32).toNatClampNeg)) x1 u3)))
noncomputable def fX12_readTo (x1 : Int32) (x2 : Int32) (x3 : Int32) (u : Sg) : Option (Int32 × Sg) := fX12_readTo_0 x1 x2 x3 u
set_option maxRecDepth 10000 in
set_option maxHeartbeats 4000000 in
theorem wX12_readTo_29 (C : cx D (tyl cI cB cL) A RX12 cX12_readTo 5 (some .boolean) p s m args c meth) (hR : 3 ≤ R.frames ∧ 65 ≤ R.locals) {r : Int32} {σ' : Sg} (u : Sg) (x4 : Int32) (t0 : Int32) (t1 : Int32) {H : Heap} {locs : List Loc} {ls : Array Slot} (hl : lv_has ls 5 [(4, .int x4)]) (S : st D (wM cI cB ad) A s u H locs) (h : fX12_readTo_29 x4 t0 t1 u = some (r, σ')) : W p l e R s m args below meth c H locs 0 0 (MQ below (qI D (tyl cI cB cL) (wM cI cB ad) A r σ') args s 0 0 A) (F0 m 29 ls [.int t0, .int t1, .ref (ad 1)]) := by
  have hx := C.1
  have hb := C.2.1
  have hsz := hl.1
  unfold fX12_readTo_29 at h
  obtain ⟨g5, h⟩ := grd_some h
  obtain ⟨u6, eu6⟩ : ∃ z : Sg, z = s2 u 1 ((t1 : Int32).toNatClampNeg) t0 := ⟨_, rfl⟩
  have h := bnd_of eu6 h
  refine q_iast C S (aM1 cI cB ad) 0 rfl g5 dX12_readTo_29 (j := (t1 : Int32).toNatClampNeg) rfl eu6 (fun H locs S => ?_)
  refine lv_iload hx hb dX12_readTo_30 (lv_at hl 0 rfl) ?_
  refine lv_if_lt (tgt := 39) hx hb dX12_readTo_32 (by decide) (fun c7 => ?_) (fun c7 => ?_)
  · have h := cnd_t c7 h
    refine lv_iconst (v := 0) hx hb dX12_readTo_39 (by decide) ?_
    exact q_zret C S rfl (rt_S h) dX12_readTo_40
  · have h := cnd_f c7 h
    refine lv_iconst (v := 1) hx hb dX12_readTo_35 (by decide) ?_
    refine lv_goto (tgt := 40) hx hb dX12_readTo_36 (by decide) ?_
    exact q_zret C S rfl (rt_S h) dX12_readTo_40
set_option maxRecDepth 10000 in
set_option maxHeartbeats 4000000 in
theorem wX12_readTo_0 (C : cx D (tyl cI cB cL) A RX12 cX12_readTo 5 (some .boolean) p s m args c meth) (hR : 3 ≤ R.frames ∧ 65 ≤ R.locals) {r : Int32} {σ' : Sg} (u : Sg) (x1 : Int32) (x2 : Int32) (x3 : Int32) {H : Heap} {locs : List Loc} {ls : Array Slot} (hl : lv_has ls 5 [(0, .ref (ad 0)), (1, .int x1), (2, .int x2), (3, .int x3)]) (S : st D (wM cI cB ad) A s u H locs) (h : fX12_readTo_0 x1 x2 x3 u = some (r, σ')) : W p l e R s m args below meth c H locs 0 0 (MQ below (qI D (tyl cI cB cL) (wM cI cB ad) A r σ') args s 0 0 A) (F0 m 0 ls []) := by
  have hx := C.1
  have hb := C.2.1
  have hsz := hl.1
  unfold fX12_readTo_0 at h
  refine lv_aload_n hx hb dX12_readTo_0 rfl (lv_at hl 0 rfl) ?_
  refine lv_iload_n hx hb dX12_readTo_1 rfl (lv_at hl 2 rfl) ?_
  refine lv_iload_n hx hb dX12_readTo_2 rfl (lv_at hl 3 rfl) ?_
  obtain ⟨r2, u3, h1, h⟩ := obd_some h
  refine q_callVi (As := [.int x2, .int x3]) (na := 2) C S (oM0 cI cB ad) rfl (ct_X12_number l D cI cB cL ad x2 x3 u h1) mw_64 mw_63 mw_65 mw_5 mw_62 hdX12_number ⟨Nat.le_trans (Nat.le_of_ble_eq_true rfl) hR.1, Nat.le_trans (Nat.le_of_ble_eq_true rfl) hR.2⟩ rfl hsz ⟨Nat.zero_le _, Nat.zero_le _⟩ (Nat.le_of_ble_eq_true rfl) dX12_readTo_3 rfl (fun H locs S => ?_)
  refine lv_istore (lv' := [(4, .int r2), (0, .ref (ad 0)), (1, .int x1), (2, .int x2), (3, .int x3)]) hx hb dX12_readTo_6 hl (by decide) rfl (fun ls hl => ?_)
  have hsz := hl.1
  refine lv_aload_n hx hb dX12_readTo_8 rfl (lv_at hl 1 rfl) ?_
  refine q_get (v := .ref (ad 1)) C S (oM0 cI cB ad) rfl iwX12 1 (by decide) mw_14 rfl dX12_readTo_9 ?_
  refine lv_iload_n hx hb dX12_readTo_12 rfl (lv_at hl 2 rfl) ?_
  refine lv_iload hx hb dX12_readTo_13 (lv_at hl 0 rfl) ?_
  refine lv_if_ge (tgt := 27) hx hb dX12_readTo_15 (by decide) (fun c4 => ?_) (fun c4 => ?_)
  · have h := cnd_t c4 h
    refine lv_iload hx hb dX12_readTo_27 (lv_at hl 0 rfl) ?_
    exact wX12_readTo_29 C hR u3 r2 r2 x1 (lv_sub hl [0] rfl) S h
  · have h := cnd_f c4 h
    refine lv_aload_n hx hb dX12_readTo_18 rfl (lv_at hl 1 rfl) ?_
    refine q_get (v := .ref (ad 1)) C S (oM0 cI cB ad) rfl iwX12 1 (by decide) mw_14 rfl dX12_readTo_19 ?_
    refine lv_iload_n hx hb dX12_readTo_22 rfl (lv_at hl 2 rfl) ?_
    obtain ⟨g8, h⟩ := grd_some h
    refine q_iald C S (aM1 cI cB ad) 0 rfl g8 dX12_readTo_23 (j := (x1 : Int32).toNatClampNeg) rfl ?_
    refine lv_goto (tgt := 29) hx hb dX12_readTo_24 (by decide) ?_
    exact wX12_readTo_29 C hR u3 r2 (u3 1 ((x1 : Int32).toNatClampNeg)) x1 (lv_sub hl [0] rfl) S h
set_option maxRecDepth 10000 in
set_option maxHeartbeats 4000000 in
theorem ct_X12_readTo (l : Launch) (D : va_G) (cI cB cL : ClassId) (ad : Nat → Nat) (x1 : Int32) (x2 : Int32) (x3 : Int32) (u : Sg) {r : Int32} {σ' : Sg} (h : fX12_readTo x1 x2 x3 u = some (r, σ')) : metI l D (tyl cI cB cL) yX12_readTo cX12_readTo 5 (some .boolean) 3 65 (wM cI cB ad) [.ref (ad 0), .int x1, .int x2, .int x3] u r σ' := by
  intro sz
  refine Met.ofW (cc := cX12_readTo) (maxL := 5) (ret := (some .boolean)) (by decide) rfl ?_
  intro p e s m args below meth c s₁ B hml hv
  obtain ⟨rfl, C, S⟩ := q_entry B hml hv
  have hl := lv_entry ([.ref (ad 0), .int x1, .int x2, .int x3]) (n := 5) (Nat.le_of_ble_eq_true rfl)
  rw [lg_entry_eq]
  generalize (lg_sl ([.ref (ad 0), .int x1, .int x2, .int x3]) ++ List.replicate (5 - (lg_sl ([.ref (ad 0), .int x1, .int x2, .int x3])).length) Slot.unset).toArray = ls at hl ⊢
  exact wX12_readTo_0 C ⟨Nat.le_refl _, Nat.le_refl _⟩ u x1 x2 x3 (lv_sub hl [0, 1, 2, 3] rfl) S h
noncomputable def fX12_fault_0 (u : Sg) : Option (Int32 × Sg) := bnd (s2 u 0 0 0) (fun u1 => some ((u1 0 11), u1))
noncomputable def fX12_fault (u : Sg) : Option (Int32 × Sg) := fX12_fault_0 u
set_option maxRecDepth 10000 in
set_option maxHeartbeats 4000000 in
theorem wX12_fault_0 (C : cx D (tyl cI cB cL) A RX12 cX12_fault 1 (some .int) p s m args c meth) (hR : 0 ≤ R.frames ∧ 0 ≤ R.locals) {r : Int32} {σ' : Sg} (u : Sg) {H : Heap} {locs : List Loc} {ls : Array Slot} (hl : lv_has ls 1 [(0, .ref (ad 0))]) (S : st D (wM cI cB ad) A s u H locs) (h : fX12_fault_0 u = some (r, σ')) : W p l e R s m args below meth c H locs 0 0 (MQ below (qI D (tyl cI cB cL) (wM cI cB ad) A r σ') args s 0 0 A) (F0 m 0 ls []) := by
  have hx := C.1
  have hb := C.2.1
  have hsz := hl.1
  unfold fX12_fault_0 at h
  refine lv_aload_n hx hb dX12_fault_0 rfl (lv_at hl 0 rfl) ?_
  refine lv_iconst (v := 0) hx hb dX12_fault_1 (by decide) ?_
  obtain ⟨u1, eu1⟩ : ∃ z : Sg, z = s2 u 0 0 0 := ⟨_, rfl⟩
  have h := bnd_of eu1 h
  refine q_put C S (oM0 cI cB ad) rfl iwX12 tyX12 tyX12_ok nmX12 0 (by decide) mw_11 rfl (iM0_0 cI cB ad) rfl rfl dX12_fault_2 eu1 (fun H locs S => ?_)
  refine lv_aload_n hx hb dX12_fault_5 rfl (lv_at hl 0 rfl) ?_
  refine q_get (v := .int (u1 0 11)) C S (oM0 cI cB ad) rfl iwX12 11 (by decide) mw_66 rfl dX12_fault_6 ?_
  exact q_iret C S (rt_S h) dX12_fault_9
set_option maxRecDepth 10000 in
set_option maxHeartbeats 4000000 in
theorem ct_X12_fault (l : Launch) (D : va_G) (cI cB cL : ClassId) (ad : Nat → Nat) (u : Sg) {r : Int32} {σ' : Sg} (h : fX12_fault u = some (r, σ')) : metI l D (tyl cI cB cL) yX12_fault cX12_fault 1 (some .int) 0 0 (wM cI cB ad) [.ref (ad 0)] u r σ' := by
  intro sz
  refine Met.ofW (cc := cX12_fault) (maxL := 1) (ret := (some .int)) (by decide) rfl ?_
  intro p e s m args below meth c s₁ B hml hv
  obtain ⟨rfl, C, S⟩ := q_entry B hml hv
  have hl := lv_entry ([.ref (ad 0)]) (n := 1) (Nat.le_of_ble_eq_true rfl)
  rw [lg_entry_eq]
  generalize (lg_sl ([.ref (ad 0)]) ++ List.replicate (1 - (lg_sl ([.ref (ad 0)])).length) Slot.unset).toArray = ls at hl ⊢
  exact wX12_fault_0 C ⟨Nat.le_refl _, Nat.le_refl _⟩ u (lv_sub hl [0] rfl) S h
noncomputable def fX12_readNodes_39 : Nat → Int32 → Int32 → Sg → Option (Int32 × Sg)
  | 0, _, _, _ => none
  | n + 1, x1, x2, u => cnd (x1 ≤ x2) (some (1, u)) (grd (vp_in (fX12_nodeAt x2 0) 32243) (bnd (s2 u 1 (((fX12_nodeAt x2 0) : Int32).toNatClampNeg) 1) (fun u12 => bnd (x2 + 1) (fun v13 => fX12_readNodes_39 n x1 v13 u12))))
noncomputable def fX12_readNodes_0 (u : Sg) : Option (Int32 × Sg) := cnd (0 < (u 0 13)) (some (0, u)) (obr (fX12_nodes u) (fun r3 => cnd (r3 ≤ 0) (obd (fX12_number 1 6 u) (fun r6 u7 => cnd (0 ≤ r6) (bnd (s2 u7 1 0 r6) (fun u9 => fX12_readNodes_39 FU r6 0 u9)) (some (0, u7)))) (some (0, u))))
noncomputable def fX12_readNodes (u : Sg) : Option (Int32 × Sg) := fX12_readNodes_0 u
set_option maxRecDepth 10000 in
set_option maxHeartbeats 4000000 in
theorem wX12_readNodes_39 (C : cx D (tyl cI cB cL) A RX12 cX12_readNodes 3 (some .boolean) p s m args c meth) (hR : 3 ≤ R.frames ∧ 65 ≤ R.locals) {r : Int32} {σ' : Sg} : ∀ (n : Nat) (x1 : Int32) (x2 : Int32) (u : Sg) (H : Heap) (locs : List Loc) (ls : Array Slot), lv_has ls 3 [(0, .ref (ad 0)), (1, .int x1), (2, .int x2)] → st D (wM cI cB ad) A s u H locs → fX12_readNodes_39 n x1 x2 u = some (r, σ') → W p l e R s m args below meth c H locs 0 0 (MQ below (qI D (tyl cI cB cL) (wM cI cB ad) A r σ') args s 0 0 A) (F0 m 39 ls []) := by
  have hx := C.1
  have hb := C.2.1
  intro n
  induction n with
  | zero =>
    intro x1 x2 u H locs ls hl S h
    cases h
  | succ n ih =>
    intro x1 x2 u H locs ls hl S h
    rw [fX12_readNodes_39] at h
    have hsz := hl.1
    refine lv_iload_n hx hb dX12_readNodes_39 rfl (lv_at hl 2 rfl) ?_
    refine lv_iload_n hx hb dX12_readNodes_40 rfl (lv_at hl 1 rfl) ?_
    refine lv_icmp_ge (tgt := 61) hx hb dX12_readNodes_41 (by decide) (fun c10 => ?_) (fun c10 => ?_)
    · have h := cnd_t c10 h
      refine lv_iconst (v := 1) hx hb dX12_readNodes_61 (by decide) ?_
      exact q_zret C S rfl (rt_S h) dX12_readNodes_62
    · have h := cnd_f c10 h
      refine lv_aload_n hx hb dX12_readNodes_44 rfl (lv_at hl 0 rfl) ?_
      refine q_get (v := .ref (ad 1)) C S (oM0 cI cB ad) rfl iwX12 1 (by decide) mw_14 rfl dX12_readNodes_45 ?_
      refine lv_iload_n hx hb dX12_readNodes_48 rfl (lv_at hl 2 rfl) ?_
      refine lv_iconst (v := 0) hx hb dX12_readNodes_49 (by decide) ?_
      refine q_callP (As := [.int x2, .int 0]) (na := 2) C S (ct_X12_nodeAt l D cI cB cL x2 0) mw_7 mw_6 mw_5 mw_4 hdX12_nodeAt ⟨Nat.le_trans (Nat.le_of_ble_eq_true rfl) hR.1, Nat.le_trans (Nat.le_of_ble_eq_true rfl) hR.2⟩ rfl hsz ⟨Nat.zero_le _, Nat.zero_le _⟩ (Nat.le_of_ble_eq_true rfl) dX12_readNodes_50 rfl (fun H locs S => ?_)
      refine lv_iconst (v := 1) hx hb dX12_readNodes_53 (by decide) ?_
      obtain ⟨g11, h⟩ := grd_some h
      obtain ⟨u12, eu12⟩ : ∃ z : Sg, z = s2 u 1 (((fX12_nodeAt x2 0) : Int32).toNatClampNeg) 1 := ⟨_, rfl⟩
      have h := bnd_of eu12 h
      refine q_iast C S (aM1 cI cB ad) 0 rfl g11 dX12_readNodes_54 (j := ((fX12_nodeAt x2 0) : Int32).toNatClampNeg) rfl eu12 (fun H locs S => ?_)
      obtain ⟨v13, ev13⟩ : ∃ y : Int32, y = x2 + 1 := ⟨_, rfl⟩
      have h := bnd_of ev13 h
      refine lv_iinc (v := v13) (lv' := [(2, .int v13), (0, .ref (ad 0)), (1, .int x1)]) hx hb dX12_readNodes_55 hl (k := 2) rfl (by rw [ev13]; rfl) (by decide) rfl (fun ls hl => ?_)
      have hsz := hl.1
      refine lv_goto (tgt := 39) hx hb dX12_readNodes_58 (by decide) ?_
      exact ih x1 v13 u12 H locs ls (lv_sub hl [1, 2, 0] rfl) S h
set_option maxRecDepth 10000 in
set_option maxHeartbeats 4000000 in
theorem wX12_readNodes_0 (C : cx D (tyl cI cB cL) A RX12 cX12_readNodes 3 (some .boolean) p s m args c meth) (hR : 3 ≤ R.frames ∧ 65 ≤ R.locals) {r : Int32} {σ' : Sg} (u : Sg) {H : Heap} {locs : List Loc} {ls : Array Slot} (hl : lv_has ls 3 [(0, .ref (ad 0))]) (S : st D (wM cI cB ad) A s u H locs) (h : fX12_readNodes_0 u = some (r, σ')) : W p l e R s m args below meth c H locs 0 0 (MQ below (qI D (tyl cI cB cL) (wM cI cB ad) A r σ') args s 0 0 A) (F0 m 0 ls []) := by
  have hx := C.1
  have hb := C.2.1
  have hsz := hl.1
  unfold fX12_readNodes_0 at h
  refine lv_aload_n hx hb dX12_readNodes_0 rfl (lv_at hl 0 rfl) ?_
  refine q_get (v := .int (u 0 13)) C S (oM0 cI cB ad) rfl iwX12 13 (by decide) mw_67 rfl dX12_readNodes_1 ?_
  refine lv_if_gt (tgt := 14) hx hb dX12_readNodes_4 (by decide) (fun c1 => ?_) (fun c1 => ?_)
  · have h := cnd_t c1 h
    refine lv_iconst (v := 0) hx hb dX12_readNodes_14 (by decide) ?_
    exact q_zret C S rfl (rt_S h) dX12_readNodes_15
  · have h := cnd_f c1 h
    refine lv_aload_n hx hb dX12_readNodes_7 rfl (lv_at hl 0 rfl) ?_
    obtain ⟨r3, h2, h⟩ := obr_some h
    refine q_callVi (As := []) (na := 0) C S (oM0 cI cB ad) rfl (ct_X12_nodes l D cI cB cL ad u h2) mw_24 mw_23 mw_25 mw_5 mw_22 hdX12_nodes ⟨Nat.le_trans (Nat.le_of_ble_eq_true rfl) hR.1, Nat.le_trans (Nat.le_of_ble_eq_true rfl) hR.2⟩ rfl hsz ⟨Nat.zero_le _, Nat.zero_le _⟩ (Nat.le_of_ble_eq_true rfl) dX12_readNodes_8 rfl (fun H locs S => ?_)
    refine lv_if_le (tgt := 16) hx hb dX12_readNodes_11 (by decide) (fun c4 => ?_) (fun c4 => ?_)
    · have h := cnd_t c4 h
      refine lv_aload_n hx hb dX12_readNodes_16 rfl (lv_at hl 0 rfl) ?_
      refine lv_iconst (v := 1) hx hb dX12_readNodes_17 (by decide) ?_
      refine lv_bipush (v := 6) hx hb dX12_readNodes_18 (by decide) ?_
      obtain ⟨r6, u7, h5, h⟩ := obd_some h
      refine q_callVi (As := [.int 1, .int 6]) (na := 2) C S (oM0 cI cB ad) rfl (ct_X12_number l D cI cB cL ad 1 6 u h5) mw_64 mw_63 mw_65 mw_5 mw_62 hdX12_number ⟨Nat.le_trans (Nat.le_of_ble_eq_true rfl) hR.1, Nat.le_trans (Nat.le_of_ble_eq_true rfl) hR.2⟩ rfl hsz ⟨Nat.zero_le _, Nat.zero_le _⟩ (Nat.le_of_ble_eq_true rfl) dX12_readNodes_20 rfl (fun H locs S => ?_)
      refine lv_istore_n (lv' := [(1, .int r6), (0, .ref (ad 0))]) hx hb dX12_readNodes_23 rfl hl (by decide) rfl (fun ls hl => ?_)
      have hsz := hl.1
      refine lv_iload_n hx hb dX12_readNodes_24 rfl (lv_at hl 0 rfl) ?_
      refine lv_if_ge (tgt := 30) hx hb dX12_readNodes_25 (by decide) (fun c8 => ?_) (fun c8 => ?_)
      · have h := cnd_t c8 h
        refine lv_aload_n hx hb dX12_readNodes_30 rfl (lv_at hl 1 rfl) ?_
        refine q_get (v := .ref (ad 1)) C S (oM0 cI cB ad) rfl iwX12 1 (by decide) mw_14 rfl dX12_readNodes_31 ?_
        refine lv_iconst (v := 0) hx hb dX12_readNodes_34 (by decide) ?_
        refine lv_iload_n hx hb dX12_readNodes_35 rfl (lv_at hl 0 rfl) ?_
        obtain ⟨u9, eu9⟩ : ∃ z : Sg, z = s2 u7 1 0 r6 := ⟨_, rfl⟩
        have h := bnd_of eu9 h
        refine q_iast C S (aM1 cI cB ad) 0 rfl (show vp_in 0 32243 by unfold vp_in; decide) dX12_readNodes_36 (j := 0) (by decide) eu9 (fun H locs S => ?_)
        refine lv_iconst (v := 0) hx hb dX12_readNodes_37 (by decide) ?_
        refine lv_istore_n (lv' := [(2, .int 0), (1, .int r6), (0, .ref (ad 0))]) hx hb dX12_readNodes_38 rfl hl (by decide) rfl (fun ls hl => ?_)
        have hsz := hl.1
        exact wX12_readNodes_39 C hR FU r6 0 u9 H locs ls (lv_sub hl [2, 1, 0] rfl) S h
      · have h := cnd_f c8 h
        refine lv_iconst (v := 0) hx hb dX12_readNodes_28 (by decide) ?_
        exact q_zret C S rfl (rt_S h) dX12_readNodes_29
    · have h := cnd_f c4 h
      refine lv_iconst (v := 0) hx hb dX12_readNodes_14 (by decide) ?_
      exact q_zret C S rfl (rt_S h) dX12_readNodes_15
set_option maxRecDepth 10000 in
set_option maxHeartbeats 4000000 in
theorem ct_X12_readNodes (l : Launch) (D : va_G) (cI cB cL : ClassId) (ad : Nat → Nat) (u : Sg) {r : Int32} {σ' : Sg} (h : fX12_readNodes u = some (r, σ')) : metI l D (tyl cI cB cL) yX12_readNodes cX12_readNodes 3 (some .boolean) 3 65 (wM cI cB ad) [.ref (ad 0)] u r σ' := by
  intro sz
  refine Met.ofW (cc := cX12_readNodes) (maxL := 3) (ret := (some .boolean)) (by decide) rfl ?_
  intro p e s m args below meth c s₁ B hml hv
  obtain ⟨rfl, C, S⟩ := q_entry B hml hv
  have hl := lv_entry ([.ref (ad 0)]) (n := 3) (Nat.le_of_ble_eq_true rfl)
  rw [lg_entry_eq]
  generalize (lg_sl ([.ref (ad 0)]) ++ List.replicate (3 - (lg_sl ([.ref (ad 0)])).length) Slot.unset).toArray = ls at hl ⊢
  exact wX12_readNodes_0 C ⟨Nat.le_refl _, Nat.le_refl _⟩ u (lv_sub hl [0] rfl) S h
noncomputable def fX12_readGroup_15 : Nat → Int32 → Sg → Option (Int32 × Sg)
  | 0, _, _ => none
  | n + 1, x1, u => obr (fX12_nodes u) (fun r3 => obd (fX12_number 0 (r3 - 1) u) (fun r5 u6 => cnd (r5 < 0) (some (0, u6)) (cnd ((fX12_holds x1 r5) = 0) (bnd (x1 ||| ((1 : Int32) <<< ((r5 &&& 31 : Int32)))) (fun v9 => obd (fX12_isFigure u6) (fun r11 u12 => cnd (r11 = 0) (grd (vp_in (11 + (u12 1 1)) 32243) (bnd (s2 u12 1 (((11 + (u12 1 1)) : Int32).toNatClampNeg) v9) (fun u15 => bnd (s2 u15 1 1 ((u15 1 1) + 1)) (fun u16 => some (1, u16))))) (fX12_readGroup_15 n v9 u12)))) (some (0, u6)))))
noncomputable def fX12_readGroup_0 (u : Sg) : Option (Int32 × Sg) := cnd ((u 1 1) = 6) (some (0, u)) (fX12_readGroup_15 FU 0 u)
noncomputable def fX12_readGroup (u : Sg) : Option (Int32 × Sg) := fX12_readGroup_0 u
set_option maxRecDepth 10000 in
set_option maxHeartbeats 4000000 in
theorem wX12_readGroup_15 (C : cx D (tyl cI cB cL) A RX12 cX12_readGroup 3 (some .boolean) p s m args c meth) (hR : 3 ≤ R.frames ∧ 65 ≤ R.locals) {r : Int32} {σ' : Sg} : ∀ (n : Nat) (x1 : Int32) (u : Sg) (H : Heap) (locs : List Loc) (ls : Array Slot), lv_has ls 3 [(0, .ref (ad 0)), (1, .int x1)] → st D (wM cI cB ad) A s u H locs → fX12_readGroup_15 n x1 u = some (r, σ') → W p l e R s m args below meth c H locs 0 0 (MQ below (qI D (tyl cI cB cL) (wM cI cB ad) A r σ') args s 0 0 A) (F0 m 15 ls []) := by
  have hx := C.1
  have hb := C.2.1
  intro n
  induction n with
  | zero =>
    intro x1 u H locs ls hl S h
    cases h
  | succ n ih =>
    intro x1 u H locs ls hl S h
    rw [fX12_readGroup_15] at h
    have hsz := hl.1
    refine lv_aload_n hx hb dX12_readGroup_15 rfl (lv_at hl 0 rfl) ?_
    refine lv_iconst (v := 0) hx hb dX12_readGroup_16 (by decide) ?_
    refine lv_aload_n hx hb dX12_readGroup_17 rfl (lv_at hl 0 rfl) ?_
    obtain ⟨r3, h2, h⟩ := obr_some h
    refine q_callVi (As := []) (na := 0) C S (oM0 cI cB ad) rfl (ct_X12_nodes l D cI cB cL ad u h2) mw_24 mw_23 mw_25 mw_5 mw_22 hdX12_nodes ⟨Nat.le_trans (Nat.le_of_ble_eq_true rfl) hR.1, Nat.le_trans (Nat.le_of_ble_eq_true rfl) hR.2⟩ rfl hsz ⟨Nat.zero_le _, Nat.zero_le _⟩ (Nat.le_of_ble_eq_true rfl) dX12_readGroup_18 rfl (fun H locs S => ?_)
    refine lv_iconst (v := 1) hx hb dX12_readGroup_21 (by decide) ?_
    refine lv_isub hx hb dX12_readGroup_22 ?_
    obtain ⟨r5, u6, h4, h⟩ := obd_some h
    refine q_callVi (As := [.int 0, .int (r3 - 1)]) (na := 2) C S (oM0 cI cB ad) rfl (ct_X12_number l D cI cB cL ad 0 (r3 - 1) u h4) mw_64 mw_63 mw_65 mw_5 mw_62 hdX12_number ⟨Nat.le_trans (Nat.le_of_ble_eq_true rfl) hR.1, Nat.le_trans (Nat.le_of_ble_eq_true rfl) hR.2⟩ rfl hsz ⟨Nat.zero_le _, Nat.zero_le _⟩ (Nat.le_of_ble_eq_true rfl) dX12_readGroup_23 rfl (fun H locs S => ?_)
    refine lv_istore_n (lv' := [(2, .int r5), (0, .ref (ad 0)), (1, .int x1)]) hx hb dX12_readGroup_26 rfl hl (by decide) rfl (fun ls hl => ?_)
    have hsz := hl.1
    refine lv_iload_n hx hb dX12_readGroup_27 rfl (lv_at hl 0 rfl) ?_
    refine lv_if_lt (tgt := 39) hx hb dX12_readGroup_28 (by decide) (fun c7 => ?_) (fun c7 => ?_)
    · have h := cnd_t c7 h
      refine lv_iconst (v := 0) hx hb dX12_readGroup_39 (by decide) ?_
      exact q_zret C S rfl (rt_S h) dX12_readGroup_40
    · have h := cnd_f c7 h
      refine lv_iload_n hx hb dX12_readGroup_31 rfl (lv_at hl 2 rfl) ?_
      refine lv_iload_n hx hb dX12_readGroup_32 rfl (lv_at hl 0 rfl) ?_
      refine q_callP (As := [.int x1, .int r5]) (na := 2) C S (ct_X12_holds l D cI cB cL x1 r5) mw_47 mw_46 mw_5 mw_45 hdX12_holds ⟨Nat.le_trans (Nat.le_of_ble_eq_true rfl) hR.1, Nat.le_trans (Nat.le_of_ble_eq_true rfl) hR.2⟩ rfl hsz ⟨Nat.zero_le _, Nat.zero_le _⟩ (Nat.le_of_ble_eq_true rfl) dX12_readGroup_33 rfl (fun H locs S => ?_)
      refine lv_if_eq (tgt := 41) hx hb dX12_readGroup_36 (by decide) (fun c8 => ?_) (fun c8 => ?_)
      · have h := cnd_t c8 h
        refine lv_iload_n hx hb dX12_readGroup_41 rfl (lv_at hl 2 rfl) ?_
        refine lv_iconst (v := 1) hx hb dX12_readGroup_42 (by decide) ?_
        refine lv_iload_n hx hb dX12_readGroup_43 rfl (lv_at hl 0 rfl) ?_
        refine lv_ishl hx hb dX12_readGroup_44 ?_
        refine lv_ior hx hb dX12_readGroup_45 ?_
        refine lv_topi (fun v9 ev9 => ?_)
        have h := bnd_of ev9 h
        refine lv_istore_n (lv' := [(1, .int v9), (2, .int r5), (0, .ref (ad 0))]) hx hb dX12_readGroup_46 rfl hl (by decide) rfl (fun ls hl => ?_)
        have hsz := hl.1
        refine lv_aload_n hx hb dX12_readGroup_47 rfl (lv_at hl 2 rfl) ?_
        obtain ⟨r11, u12, h10, h⟩ := obd_some h
        refine q_callVi (As := []) (na := 0) C S (oM0 cI cB ad) rfl (ct_X12_isFigure l D cI cB cL ad u6 h10) mw_70 mw_69 mw_71 mw_5 mw_68 hdX12_isFigure ⟨Nat.le_trans (Nat.le_of_ble_eq_true rfl) hR.1, Nat.le_trans (Nat.le_of_ble_eq_true rfl) hR.2⟩ rfl hsz ⟨Nat.zero_le _, Nat.zero_le _⟩ (Nat.le_of_ble_eq_true rfl) dX12_readGroup_48 rfl (fun H locs S => ?_)
        refine lv_if_ne (tgt := 15) hx hb dX12_readGroup_51 (by decide) (fun c13 => ?_) (fun c13 => ?_)
        · have h := cnd_f c13 h
          exact ih v9 u12 H locs ls (lv_sub hl [2, 0] rfl) S h
        · have h := cnd_t c13 h
          refine lv_aload_n hx hb dX12_readGroup_54 rfl (lv_at hl 2 rfl) ?_
          refine q_get (v := .ref (ad 1)) C S (oM0 cI cB ad) rfl iwX12 1 (by decide) mw_14 rfl dX12_readGroup_55 ?_
          refine lv_bipush (v := 11) hx hb dX12_readGroup_58 (by decide) ?_
          refine lv_aload_n hx hb dX12_readGroup_60 rfl (lv_at hl 2 rfl) ?_
          refine q_get (v := .ref (ad 1)) C S (oM0 cI cB ad) rfl iwX12 1 (by decide) mw_14 rfl dX12_readGroup_61 ?_
          refine lv_iconst (v := 1) hx hb dX12_readGroup_64 (by decide) ?_
          refine q_iald C S (aM1 cI cB ad) 0 rfl (show vp_in 1 32243 by unfold vp_in; decide) dX12_readGroup_65 (j := 1) (by decide) ?_
          refine lv_iadd hx hb dX12_readGroup_66 ?_
          refine lv_iload_n hx hb dX12_readGroup_67 rfl (lv_at hl 0 rfl) ?_
          obtain ⟨g14, h⟩ := grd_some h
          obtain ⟨u15, eu15⟩ : ∃ z : Sg, z = s2 u12 1 (((11 + (u12 1 1)) : Int32).toNatClampNeg) v9 := ⟨_, rfl⟩
          have h := bnd_of eu15 h
          refine q_iast C S (aM1 cI cB ad) 0 rfl g14 dX12_readGroup_68 (j := ((11 + (u12 1 1)) : Int32).toNatClampNeg) rfl eu15 (fun H locs S => ?_)
          refine lv_aload_n hx hb dX12_readGroup_69 rfl (lv_at hl 2 rfl) ?_
          refine q_get (v := .ref (ad 1)) C S (oM0 cI cB ad) rfl iwX12 1 (by decide) mw_14 rfl dX12_readGroup_70 ?_
          refine lv_iconst (v := 1) hx hb dX12_readGroup_73 (by decide) ?_
          refine lv_dup2_11 hx hb dX12_readGroup_74 rfl rfl ?_
          refine q_iald C S (aM1 cI cB ad) 0 rfl (show vp_in 1 32243 by unfold vp_in; decide) dX12_readGroup_75 (j := 1) (by decide) ?_
          refine lv_iconst (v := 1) hx hb dX12_readGroup_76 (by decide) ?_
          refine lv_iadd hx hb dX12_readGroup_77 ?_
          obtain ⟨u16, eu16⟩ : ∃ z : Sg, z = s2 u15 1 1 ((u15 1 1) + 1) := ⟨_, rfl⟩
          have h := bnd_of eu16 h
          refine q_iast C S (aM1 cI cB ad) 0 rfl (show vp_in 1 32243 by unfold vp_in; decide) dX12_readGroup_78 (j := 1) (by decide) eu16 (fun H locs S => ?_)
          refine lv_iconst (v := 1) hx hb dX12_readGroup_79 (by decide) ?_
          exact q_zret C S rfl (rt_S h) dX12_readGroup_80
      · have h := cnd_f c8 h
        refine lv_iconst (v := 0) hx hb dX12_readGroup_39 (by decide) ?_
        exact q_zret C S rfl (rt_S h) dX12_readGroup_40
set_option maxRecDepth 10000 in
set_option maxHeartbeats 4000000 in
theorem wX12_readGroup_0 (C : cx D (tyl cI cB cL) A RX12 cX12_readGroup 3 (some .boolean) p s m args c meth) (hR : 3 ≤ R.frames ∧ 65 ≤ R.locals) {r : Int32} {σ' : Sg} (u : Sg) {H : Heap} {locs : List Loc} {ls : Array Slot} (hl : lv_has ls 3 [(0, .ref (ad 0))]) (S : st D (wM cI cB ad) A s u H locs) (h : fX12_readGroup_0 u = some (r, σ')) : W p l e R s m args below meth c H locs 0 0 (MQ below (qI D (tyl cI cB cL) (wM cI cB ad) A r σ') args s 0 0 A) (F0 m 0 ls []) := by
  have hx := C.1
  have hb := C.2.1
  have hsz := hl.1
  unfold fX12_readGroup_0 at h
  refine lv_aload_n hx hb dX12_readGroup_0 rfl (lv_at hl 0 rfl) ?_
  refine q_get (v := .ref (ad 1)) C S (oM0 cI cB ad) rfl iwX12 1 (by decide) mw_14 rfl dX12_readGroup_1 ?_
  refine lv_iconst (v := 1) hx hb dX12_readGroup_4 (by decide) ?_
  refine q_iald C S (aM1 cI cB ad) 0 rfl (show vp_in 1 32243 by unfold vp_in; decide) dX12_readGroup_5 (j := 1) (by decide) ?_
  refine lv_bipush (v := 6) hx hb dX12_readGroup_6 (by decide) ?_
  refine lv_icmp_ne (tgt := 13) hx hb dX12_readGroup_8 (by decide) (fun c1 => ?_) (fun c1 => ?_)
  · have h := cnd_f c1 h
    refine lv_iconst (v := 0) hx hb dX12_readGroup_13 (by decide) ?_
    refine lv_istore_n (lv' := [(1, .int 0), (0, .ref (ad 0))]) hx hb dX12_readGroup_14 rfl hl (by decide) rfl (fun ls hl => ?_)
    have hsz := hl.1
    exact wX12_readGroup_15 C hR FU 0 u H locs ls (lv_sub hl [1, 0] rfl) S h
  · have h := cnd_t c1 h
    refine lv_iconst (v := 0) hx hb dX12_readGroup_11 (by decide) ?_
    exact q_zret C S rfl (rt_S h) dX12_readGroup_12
set_option maxRecDepth 10000 in
set_option maxHeartbeats 4000000 in
theorem ct_X12_readGroup (l : Launch) (D : va_G) (cI cB cL : ClassId) (ad : Nat → Nat) (u : Sg) {r : Int32} {σ' : Sg} (h : fX12_readGroup u = some (r, σ')) : metI l D (tyl cI cB cL) yX12_readGroup cX12_readGroup 3 (some .boolean) 3 65 (wM cI cB ad) [.ref (ad 0)] u r σ' := by
  intro sz
  refine Met.ofW (cc := cX12_readGroup) (maxL := 3) (ret := (some .boolean)) (by decide) rfl ?_
  intro p e s m args below meth c s₁ B hml hv
  obtain ⟨rfl, C, S⟩ := q_entry B hml hv
  have hl := lv_entry ([.ref (ad 0)]) (n := 3) (Nat.le_of_ble_eq_true rfl)
  rw [lg_entry_eq]
  generalize (lg_sl ([.ref (ad 0)]) ++ List.replicate (3 - (lg_sl ([.ref (ad 0)])).length) Slot.unset).toArray = ls at hl ⊢
  exact wX12_readGroup_0 C ⟨Nat.le_refl _, Nat.le_refl _⟩ u (lv_sub hl [0] rfl) S h
noncomputable def fX12_readDelay_31 (x1 : Int32) (t0 : Int32) (u : Sg) : Option (Int32 × Sg) := cnd (t0 < 0) (some (0, u)) (obd (fX12_readTo (fX12_channelAt x1 t0 0) 1 9 u) (fun r14 u15 => cnd (r14 = 0) (some (0, u15)) (some (1, u15))))
noncomputable def fX12_readDelay_0 (u : Sg) : Option (Int32 × Sg) := obr (fX12_nodes u) (fun r2 => obd (fX12_number 0 (r2 - 1) u) (fun r4 u5 => cnd (0 ≤ r4) (obr (fX12_nodes u5) (fun r8 => obd (fX12_number 0 (r8 - 1) u5) (fun r10 u11 => fX12_readDelay_31 r4 r10 u11))) (fX12_readDelay_31 r4 (-1) u5)))
noncomputable def fX12_readDelay (u : Sg) : Option (Int32 × Sg) := fX12_readDelay_0 u
set_option maxRecDepth 10000 in
set_option maxHeartbeats 4000000 in
theorem wX12_readDelay_31 (C : cx D (tyl cI cB cL) A RX12 cX12_readDelay 3 (some .boolean) p s m args c meth) (hR : 4 ≤ R.frames ∧ 89 ≤ R.locals) {r : Int32} {σ' : Sg} (u : Sg) (x1 : Int32) (t0 : Int32) {H : Heap} {locs : List Loc} {ls : Array Slot} (hl : lv_has ls 3 [(0, .ref (ad 0)), (1, .int x1)]) (S : st D (wM cI cB ad) A s u H locs) (h : fX12_readDelay_31 x1 t0 u = some (r, σ')) : W p l e R s m args below meth c H locs 0 0 (MQ below (qI D (tyl cI cB cL) (wM cI cB ad) A r σ') args s 0 0 A) (F0 m 31 ls [.int t0]) := by
  have hx := C.1
  have hb := C.2.1
  have hsz := hl.1
  unfold fX12_readDelay_31 at h
  refine lv_istore_n (lv' := [(2, .int t0), (0, .ref (ad 0)), (1, .int x1)]) hx hb dX12_readDelay_31 rfl hl (by decide) rfl (fun ls hl => ?_)
  have hsz := hl.1
  refine lv_iload_n hx hb dX12_readDelay_32 rfl (lv_at hl 0 rfl) ?_
  refine lv_if_lt (tgt := 56) hx hb dX12_readDelay_33 (by decide) (fun c12 => ?_) (fun c12 => ?_)
  · have h := cnd_t c12 h
    refine lv_iconst (v := 0) hx hb dX12_readDelay_56 (by decide) ?_
    exact q_zret C S rfl (rt_S h) dX12_readDelay_57
  · have h := cnd_f c12 h
    refine lv_aload_n hx hb dX12_readDelay_36 rfl (lv_at hl 1 rfl) ?_
    refine lv_iload_n hx hb dX12_readDelay_37 rfl (lv_at hl 2 rfl) ?_
    refine lv_iload_n hx hb dX12_readDelay_38 rfl (lv_at hl 0 rfl) ?_
    refine lv_iconst (v := 0) hx hb dX12_readDelay_39 (by decide) ?_
    refine q_callP (As := [.int x1, .int t0, .int 0]) (na := 3) C S (ct_X12_channelAt l D cI cB cL x1 t0 0) mw_10 mw_9 mw_5 mw_8 hdX12_channelAt ⟨Nat.le_trans (Nat.le_of_ble_eq_true rfl) hR.1, Nat.le_trans (Nat.le_of_ble_eq_true rfl) hR.2⟩ rfl hsz ⟨Nat.zero_le _, Nat.zero_le _⟩ (Nat.le_of_ble_eq_true rfl) dX12_readDelay_40 rfl (fun H locs S => ?_)
    refine lv_iconst (v := 1) hx hb dX12_readDelay_43 (by decide) ?_
    refine lv_bipush (v := 9) hx hb dX12_readDelay_44 (by decide) ?_
    obtain ⟨r14, u15, h13, h⟩ := obd_some h
    refine q_callVi (As := [.int (fX12_channelAt x1 t0 0), .int 1, .int 9]) (na := 3) C S (oM0 cI cB ad) rfl (ct_X12_readTo l D cI cB cL ad (fX12_channelAt x1 t0 0) 1 9 u h13) mw_74 mw_73 mw_75 mw_5 mw_72 hdX12_readTo ⟨Nat.le_trans (Nat.le_of_ble_eq_true rfl) hR.1, Nat.le_trans (Nat.le_of_ble_eq_true rfl) hR.2⟩ rfl hsz ⟨Nat.zero_le _, Nat.zero_le _⟩ (Nat.le_of_ble_eq_true rfl) dX12_readDelay_46 rfl (fun H locs S => ?_)
    refine lv_if_eq (tgt := 56) hx hb dX12_readDelay_49 (by decide) (fun c16 => ?_) (fun c16 => ?_)
    · have h := cnd_t c16 h
      refine lv_iconst (v := 0) hx hb dX12_readDelay_56 (by decide) ?_
      exact q_zret C S rfl (rt_S h) dX12_readDelay_57
    · have h := cnd_f c16 h
      refine lv_iconst (v := 1) hx hb dX12_readDelay_52 (by decide) ?_
      refine lv_goto (tgt := 57) hx hb dX12_readDelay_53 (by decide) ?_
      exact q_zret C S rfl (rt_S h) dX12_readDelay_57
set_option maxRecDepth 10000 in
set_option maxHeartbeats 4000000 in
theorem wX12_readDelay_0 (C : cx D (tyl cI cB cL) A RX12 cX12_readDelay 3 (some .boolean) p s m args c meth) (hR : 4 ≤ R.frames ∧ 89 ≤ R.locals) {r : Int32} {σ' : Sg} (u : Sg) {H : Heap} {locs : List Loc} {ls : Array Slot} (hl : lv_has ls 3 [(0, .ref (ad 0))]) (S : st D (wM cI cB ad) A s u H locs) (h : fX12_readDelay_0 u = some (r, σ')) : W p l e R s m args below meth c H locs 0 0 (MQ below (qI D (tyl cI cB cL) (wM cI cB ad) A r σ') args s 0 0 A) (F0 m 0 ls []) := by
  have hx := C.1
  have hb := C.2.1
  have hsz := hl.1
  unfold fX12_readDelay_0 at h
  refine lv_aload_n hx hb dX12_readDelay_0 rfl (lv_at hl 0 rfl) ?_
  refine lv_iconst (v := 0) hx hb dX12_readDelay_1 (by decide) ?_
  refine lv_aload_n hx hb dX12_readDelay_2 rfl (lv_at hl 0 rfl) ?_
  obtain ⟨r2, h1, h⟩ := obr_some h
  refine q_callVi (As := []) (na := 0) C S (oM0 cI cB ad) rfl (ct_X12_nodes l D cI cB cL ad u h1) mw_24 mw_23 mw_25 mw_5 mw_22 hdX12_nodes ⟨Nat.le_trans (Nat.le_of_ble_eq_true rfl) hR.1, Nat.le_trans (Nat.le_of_ble_eq_true rfl) hR.2⟩ rfl hsz ⟨Nat.zero_le _, Nat.zero_le _⟩ (Nat.le_of_ble_eq_true rfl) dX12_readDelay_3 rfl (fun H locs S => ?_)
  refine lv_iconst (v := 1) hx hb dX12_readDelay_6 (by decide) ?_
  refine lv_isub hx hb dX12_readDelay_7 ?_
  obtain ⟨r4, u5, h3, h⟩ := obd_some h
  refine q_callVi (As := [.int 0, .int (r2 - 1)]) (na := 2) C S (oM0 cI cB ad) rfl (ct_X12_number l D cI cB cL ad 0 (r2 - 1) u h3) mw_64 mw_63 mw_65 mw_5 mw_62 hdX12_number ⟨Nat.le_trans (Nat.le_of_ble_eq_true rfl) hR.1, Nat.le_trans (Nat.le_of_ble_eq_true rfl) hR.2⟩ rfl hsz ⟨Nat.zero_le _, Nat.zero_le _⟩ (Nat.le_of_ble_eq_true rfl) dX12_readDelay_8 rfl (fun H locs S => ?_)
  refine lv_istore_n (lv' := [(1, .int r4), (0, .ref (ad 0))]) hx hb dX12_readDelay_11 rfl hl (by decide) rfl (fun ls hl => ?_)
  have hsz := hl.1
  refine lv_iload_n hx hb dX12_readDelay_12 rfl (lv_at hl 0 rfl) ?_
  refine lv_if_ge (tgt := 20) hx hb dX12_readDelay_13 (by decide) (fun c6 => ?_) (fun c6 => ?_)
  · have h := cnd_t c6 h
    refine lv_aload_n hx hb dX12_readDelay_20 rfl (lv_at hl 1 rfl) ?_
    refine lv_iconst (v := 0) hx hb dX12_readDelay_21 (by decide) ?_
    refine lv_aload_n hx hb dX12_readDelay_22 rfl (lv_at hl 1 rfl) ?_
    obtain ⟨r8, h7, h⟩ := obr_some h
    refine q_callVi (As := []) (na := 0) C S (oM0 cI cB ad) rfl (ct_X12_nodes l D cI cB cL ad u5 h7) mw_24 mw_23 mw_25 mw_5 mw_22 hdX12_nodes ⟨Nat.le_trans (Nat.le_of_ble_eq_true rfl) hR.1, Nat.le_trans (Nat.le_of_ble_eq_true rfl) hR.2⟩ rfl hsz ⟨Nat.zero_le _, Nat.zero_le _⟩ (Nat.le_of_ble_eq_true rfl) dX12_readDelay_23 rfl (fun H locs S => ?_)
    refine lv_iconst (v := 1) hx hb dX12_readDelay_26 (by decide) ?_
    refine lv_isub hx hb dX12_readDelay_27 ?_
    obtain ⟨r10, u11, h9, h⟩ := obd_some h
    refine q_callVi (As := [.int 0, .int (r8 - 1)]) (na := 2) C S (oM0 cI cB ad) rfl (ct_X12_number l D cI cB cL ad 0 (r8 - 1) u5 h9) mw_64 mw_63 mw_65 mw_5 mw_62 hdX12_number ⟨Nat.le_trans (Nat.le_of_ble_eq_true rfl) hR.1, Nat.le_trans (Nat.le_of_ble_eq_true rfl) hR.2⟩ rfl hsz ⟨Nat.zero_le _, Nat.zero_le _⟩ (Nat.le_of_ble_eq_true rfl) dX12_readDelay_28 rfl (fun H locs S => ?_)
    exact wX12_readDelay_31 C hR u11 r4 r10 (lv_sub hl [1, 0] rfl) S h
  · have h := cnd_f c6 h
    refine lv_iconst (v := (-1)) hx hb dX12_readDelay_16 (by decide) ?_
    refine lv_goto (tgt := 31) hx hb dX12_readDelay_17 (by decide) ?_
    exact wX12_readDelay_31 C hR u5 r4 (-1) (lv_sub hl [1, 0] rfl) S h
set_option maxRecDepth 10000 in
set_option maxHeartbeats 4000000 in
theorem ct_X12_readDelay (l : Launch) (D : va_G) (cI cB cL : ClassId) (ad : Nat → Nat) (u : Sg) {r : Int32} {σ' : Sg} (h : fX12_readDelay u = some (r, σ')) : metI l D (tyl cI cB cL) yX12_readDelay cX12_readDelay 3 (some .boolean) 4 89 (wM cI cB ad) [.ref (ad 0)] u r σ' := by
  intro sz
  refine Met.ofW (cc := cX12_readDelay) (maxL := 3) (ret := (some .boolean)) (by decide) rfl ?_
  intro p e s m args below meth c s₁ B hml hv
  obtain ⟨rfl, C, S⟩ := q_entry B hml hv
  have hl := lv_entry ([.ref (ad 0)]) (n := 3) (Nat.le_of_ble_eq_true rfl)
  rw [lg_entry_eq]
  generalize (lg_sl ([.ref (ad 0)]) ++ List.replicate (3 - (lg_sl ([.ref (ad 0)])).length) Slot.unset).toArray = ls at hl ⊢
  exact wX12_readDelay_0 C ⟨Nat.le_refl _, Nat.le_refl _⟩ u (lv_sub hl [0] rfl) S h
noncomputable def fX12_jitter_0 (u : Sg) : Option (Int32 × Sg) := cnd ((u 0 14) = 0) (some (0, u)) (cnd ((u 1 5) = 0) (some (0, u)) (bnd (s2 u 1 8 ((1103515245 * (u 1 8)) + 12345)) (fun u3 => grd (¬ ((u3 1 5) + 1) = 0) (some ((((((u3 1 8) : Int32) >>> ((16 &&& 31 : Int32))) &&& 32767) - ((((u3 1 8) : Int32) >>> ((16 &&& 31 : Int32))) &&& 32767) / ((u3 1 5) + 1) * ((u3 1 5) + 1)), u3)))))
noncomputable def fX12_jitter (u : Sg) : Option (Int32 × Sg) := fX12_jitter_0 u
set_option maxRecDepth 10000 in
set_option maxHeartbeats 4000000 in
theorem wX12_jitter_0 (C : cx D (tyl cI cB cL) A RX12 cX12_jitter 1 (some .int) p s m args c meth) (hR : 0 ≤ R.frames ∧ 0 ≤ R.locals) {r : Int32} {σ' : Sg} (u : Sg) {H : Heap} {locs : List Loc} {ls : Array Slot} (hl : lv_has ls 1 [(0, .ref (ad 0))]) (S : st D (wM cI cB ad) A s u H locs) (h : fX12_jitter_0 u = some (r, σ')) : W p l e R s m args below meth c H locs 0 0 (MQ below (qI D (tyl cI cB cL) (wM cI cB ad) A r σ') args s 0 0 A) (F0 m 0 ls []) := by
  have hx := C.1
  have hb := C.2.1
  have hsz := hl.1
  unfold fX12_jitter_0 at h
  refine lv_aload_n hx hb dX12_jitter_0 rfl (lv_at hl 0 rfl) ?_
  refine q_get (v := .int (u 0 14)) C S (oM0 cI cB ad) rfl iwX12 14 (by decide) mw_76 rfl dX12_jitter_1 ?_
  refine lv_if_eq (tgt := 16) hx hb dX12_jitter_4 (by decide) (fun c1 => ?_) (fun c1 => ?_)
  · have h := cnd_t c1 h
    refine lv_iconst (v := 0) hx hb dX12_jitter_16 (by decide) ?_
    exact q_iret C S (rt_S h) dX12_jitter_17
  · have h := cnd_f c1 h
    refine lv_aload_n hx hb dX12_jitter_7 rfl (lv_at hl 0 rfl) ?_
    refine q_get (v := .ref (ad 1)) C S (oM0 cI cB ad) rfl iwX12 1 (by decide) mw_14 rfl dX12_jitter_8 ?_
    refine lv_iconst (v := 5) hx hb dX12_jitter_11 (by decide) ?_
    refine q_iald C S (aM1 cI cB ad) 0 rfl (show vp_in 5 32243 by unfold vp_in; decide) dX12_jitter_12 (j := 5) (by decide) ?_
    refine lv_if_ne (tgt := 18) hx hb dX12_jitter_13 (by decide) (fun c2 => ?_) (fun c2 => ?_)
    · have h := cnd_f c2 h
      refine lv_aload_n hx hb dX12_jitter_18 rfl (lv_at hl 0 rfl) ?_
      refine q_get (v := .ref (ad 1)) C S (oM0 cI cB ad) rfl iwX12 1 (by decide) mw_14 rfl dX12_jitter_19 ?_
      refine lv_bipush (v := 8) hx hb dX12_jitter_22 (by decide) ?_
      refine q_ldc (v := 1103515245) C mw_77 dX12_jitter_24 ?_
      refine lv_aload_n hx hb dX12_jitter_26 rfl (lv_at hl 0 rfl) ?_
      refine q_get (v := .ref (ad 1)) C S (oM0 cI cB ad) rfl iwX12 1 (by decide) mw_14 rfl dX12_jitter_27 ?_
      refine lv_bipush (v := 8) hx hb dX12_jitter_30 (by decide) ?_
      refine q_iald C S (aM1 cI cB ad) 0 rfl (show vp_in 8 32243 by unfold vp_in; decide) dX12_jitter_32 (j := 8) (by decide) ?_
      refine lv_imul hx hb dX12_jitter_33 ?_
      refine lv_sipush (v := 12345) hx hb dX12_jitter_34 (by decide) ?_
      refine lv_iadd hx hb dX12_jitter_37 ?_
      obtain ⟨u3, eu3⟩ : ∃ z : Sg, z = s2 u 1 8 ((1103515245 * (u 1 8)) + 12345) := ⟨_, rfl⟩
      have h := bnd_of eu3 h
      refine q_iast C S (aM1 cI cB ad) 0 rfl (show vp_in 8 32243 by unfold vp_in; decide) dX12_jitter_38 (j := 8) (by decide) eu3 (fun H locs S => ?_)
      refine lv_aload_n hx hb dX12_jitter_39 rfl (lv_at hl 0 rfl) ?_
      refine q_get (v := .ref (ad 1)) C S (oM0 cI cB ad) rfl iwX12 1 (by decide) mw_14 rfl dX12_jitter_40 ?_
      refine lv_bipush (v := 8) hx hb dX12_jitter_43 (by decide) ?_
      refine q_iald C S (aM1 cI cB ad) 0 rfl (show vp_in 8 32243 by unfold vp_in; decide) dX12_jitter_45 (j := 8) (by decide) ?_
      refine lv_bipush (v := 16) hx hb dX12_jitter_46 (by decide) ?_
      refine lv_ishr hx hb dX12_jitter_48 ?_
      refine lv_sipush (v := 32767) hx hb dX12_jitter_49 (by decide) ?_
      refine lv_iand hx hb dX12_jitter_52 ?_
      refine lv_aload_n hx hb dX12_jitter_53 rfl (lv_at hl 0 rfl) ?_
      refine q_get (v := .ref (ad 1)) C S (oM0 cI cB ad) rfl iwX12 1 (by decide) mw_14 rfl dX12_jitter_54 ?_
      refine lv_iconst (v := 5) hx hb dX12_jitter_57 (by decide) ?_
      refine q_iald C S (aM1 cI cB ad) 0 rfl (show vp_in 5 32243 by unfold vp_in; decide) dX12_jitter_58 (j := 5) (by decide) ?_
      refine lv_iconst (v := 1) hx hb dX12_jitter_59 (by decide) ?_
      refine lv_iadd hx hb dX12_jitter_60 ?_
      obtain ⟨g4, h⟩ := grd_some h
      refine lv_irem hx hb dX12_jitter_61 g4 ?_
      exact q_iret C S (rt_S h) dX12_jitter_62
    · have h := cnd_t c2 h
      refine lv_iconst (v := 0) hx hb dX12_jitter_16 (by decide) ?_
      exact q_iret C S (rt_S h) dX12_jitter_17
set_option maxRecDepth 10000 in
set_option maxHeartbeats 4000000 in
theorem ct_X12_jitter (l : Launch) (D : va_G) (cI cB cL : ClassId) (ad : Nat → Nat) (u : Sg) {r : Int32} {σ' : Sg} (h : fX12_jitter u = some (r, σ')) : metI l D (tyl cI cB cL) yX12_jitter cX12_jitter 1 (some .int) 0 0 (wM cI cB ad) [.ref (ad 0)] u r σ' := by
  intro sz
  refine Met.ofW (cc := cX12_jitter) (maxL := 1) (ret := (some .int)) (by decide) rfl ?_
  intro p e s m args below meth c s₁ B hml hv
  obtain ⟨rfl, C, S⟩ := q_entry B hml hv
  have hl := lv_entry ([.ref (ad 0)]) (n := 1) (Nat.le_of_ble_eq_true rfl)
  rw [lg_entry_eq]
  generalize (lg_sl ([.ref (ad 0)]) ++ List.replicate (1 - (lg_sl ([.ref (ad 0)])).length) Slot.unset).toArray = ls at hl ⊢
  exact wX12_jitter_0 C ⟨Nat.le_refl _, Nat.le_refl _⟩ u (lv_sub hl [0] rfl) S h
end S_11_m01
