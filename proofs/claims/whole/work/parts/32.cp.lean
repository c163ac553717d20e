theorem mw_605 : Cond.fieldLink RX1 9 "LeastPending$Channels" "delay" "[I" ∈ gw := gw_t1 104 rfl rfl
theorem mw_606 : Cond.methodLink RX1 50 arraycopyName ∈ gw := gw_t3 29 rfl rfl
theorem mw_607 : Cond.fieldLink RX7 15 "LeastPending$Net" "groupCount" "I" ∈ gw := gw_t2 51 rfl rfl
theorem mw_608 : Cond.fieldLink RX7 18 "LeastPending$Net" "textCount" "I" ∈ gw := gw_t2 55 rfl rfl
theorem mw_609 : Cond.code yX1_copyFrom cX1_copyFrom 2 none ∈ gw := gw_t3 27 rfl rfl
theorem mw_610 : Cond.instanceMethod yX1_copyFrom ∈ gw := gw_t3 25 rfl rfl
theorem mw_611 : Cond.methodLink RX7 105 yX1_copyFrom ∈ gw := gw_t3 24 rfl rfl
theorem mw_612 : Cond.selects RX1 yX1_copyFrom yX1_copyFrom ∈ gw := gw_t3 26 rfl rfl
theorem mw_613 : Cond.code yX6_copyFrom cX6_copyFrom 2 none ∈ gw := gw_t3 33 rfl rfl
theorem mw_614 : Cond.instanceMethod yX6_copyFrom ∈ gw := gw_t3 31 rfl rfl
theorem mw_615 : Cond.methodLink RX7 109 yX6_copyFrom ∈ gw := gw_t3 30 rfl rfl
theorem mw_616 : Cond.selects RX6 yX6_copyFrom yX6_copyFrom ∈ gw := gw_t3 32 rfl rfl
theorem mw_617 : Cond.code yX4_copyFrom cX4_copyFrom 2 none ∈ gw := gw_t3 38 rfl rfl
theorem mw_618 : Cond.instanceMethod yX4_copyFrom ∈ gw := gw_t3 36 rfl rfl
theorem mw_619 : Cond.methodLink RX7 112 yX4_copyFrom ∈ gw := gw_t3 35 rfl rfl
theorem mw_620 : Cond.selects RX4 yX4_copyFrom yX4_copyFrom ∈ gw := gw_t3 37 rfl rfl
theorem mw_621 : Cond.code yX3_copyFrom cX3_copyFrom 2 none ∈ gw := gw_t3 43 rfl rfl
theorem mw_622 : Cond.instanceMethod yX3_copyFrom ∈ gw := gw_t3 41 rfl rfl
theorem mw_623 : Cond.methodLink RX7 115 yX3_copyFrom ∈ gw := gw_t3 40 rfl rfl
theorem mw_624 : Cond.selects RX3 yX3_copyFrom yX3_copyFrom ∈ gw := gw_t3 42 rfl rfl
theorem mw_625 : Cond.code yX2_copyFrom cX2_copyFrom 2 none ∈ gw := gw_t3 48 rfl rfl
theorem mw_626 : Cond.instanceMethod yX2_copyFrom ∈ gw := gw_t3 46 rfl rfl
theorem mw_627 : Cond.methodLink RX7 118 yX2_copyFrom ∈ gw := gw_t3 45 rfl rfl
theorem mw_628 : Cond.selects RX2 yX2_copyFrom yX2_copyFrom ∈ gw := gw_t3 47 rfl rfl
theorem mw_629 : Cond.code yX5_copyFrom cX5_copyFrom 2 none ∈ gw := gw_t3 53 rfl rfl
theorem mw_630 : Cond.instanceMethod yX5_copyFrom ∈ gw := gw_t3 51 rfl rfl
theorem mw_631 : Cond.methodLink RX7 121 yX5_copyFrom ∈ gw := gw_t3 50 rfl rfl
theorem mw_632 : Cond.selects RX5 yX5_copyFrom yX5_copyFrom ∈ gw := gw_t3 52 rfl rfl
theorem mw_633 : Cond.code yX7_copyFrom cX7_copyFrom 2 none ∈ gw := gw_t3 14 rfl rfl
theorem mw_634 : Cond.instanceMethod yX7_copyFrom ∈ gw := gw_t3 12 rfl rfl
theorem mw_635 : Cond.methodLink RX7 124 yX7_copyFrom ∈ gw := gw_t5 166 rfl rfl
theorem mw_636 : Cond.selects RX7 yX7_copyFrom yX7_copyFrom ∈ gw := gw_t3 13 rfl rfl
theorem hdX1_copyFrom : yX1_copyFrom.cls = RX1 ∧ yX1_copyFrom.cls ≠ "java/lang/invoke/MethodHandle" ∧ yX1_copyFrom.cls ≠ "java/lang/invoke/VarHandle" ∧ (parseMethodDescriptor yX1_copyFrom.desc).map (fun d => d.parameters.length) = some 1 := by decide +kernel
theorem hdX2_copyFrom : yX2_copyFrom.cls = RX2 ∧ yX2_copyFrom.cls ≠ "java/lang/invoke/MethodHandle" ∧ yX2_copyFrom.cls ≠ "java/lang/invoke/VarHandle" ∧ (parseMethodDescriptor yX2_copyFrom.desc).map (fun d => d.parameters.length) = some 1 := by decide +kernel
theorem hdX3_copyFrom : yX3_copyFrom.cls = RX3 ∧ yX3_copyFrom.cls ≠ "java/lang/invoke/MethodHandle" ∧ yX3_copyFrom.cls ≠ "java/lang/invoke/VarHandle" ∧ (parseMethodDescriptor yX3_copyFrom.desc).map (fun d => d.parameters.length) = some 1 := by decide +kernel
theorem hdX4_copyFrom : yX4_copyFrom.cls = RX4 ∧ yX4_copyFrom.cls ≠ "java/lang/invoke/MethodHandle" ∧ yX4_copyFrom.cls ≠ "java/lang/invoke/VarHandle" ∧ (parseMethodDescriptor yX4_copyFrom.desc).map (fun d => d.parameters.length) = some 1 := by decide +kernel
theorem hdX5_copyFrom : yX5_copyFrom.cls = RX5 ∧ yX5_copyFrom.cls ≠ "java/lang/invoke/MethodHandle" ∧ yX5_copyFrom.cls ≠ "java/lang/invoke/VarHandle" ∧ (parseMethodDescriptor yX5_copyFrom.desc).map (fun d => d.parameters.length) = some 1 := by decide +kernel
theorem hdX6_copyFrom : yX6_copyFrom.cls = RX6 ∧ yX6_copyFrom.cls ≠ "java/lang/invoke/MethodHandle" ∧ yX6_copyFrom.cls ≠ "java/lang/invoke/VarHandle" ∧ (parseMethodDescriptor yX6_copyFrom.desc).map (fun d => d.parameters.length) = some 1 := by decide +kernel
theorem hdX7_copyFrom : yX7_copyFrom.cls = RX7 ∧ yX7_copyFrom.cls ≠ "java/lang/invoke/MethodHandle" ∧ yX7_copyFrom.cls ≠ "java/lang/invoke/VarHandle" ∧ (parseMethodDescriptor yX7_copyFrom.desc).map (fun d => d.parameters.length) = some 1 := by decide +kernel
theorem dX1_copyFrom_0 : decode cX1_copyFrom 0 = .ok (.aload_n 1, 1) := by decide +kernel
theorem dX1_copyFrom_1 : decode cX1_copyFrom 1 = .ok (.getfield 9, 3) := by decide +kernel
theorem dX1_copyFrom_4 : decode cX1_copyFrom 4 = .ok (.aload_n 0, 1) := by decide +kernel
theorem dX1_copyFrom_5 : decode cX1_copyFrom 5 = .ok (.getfield 9, 3) := by decide +kernel
theorem dX1_copyFrom_8 : decode cX1_copyFrom 8 = .ok (.invokestatic 46, 3) := by decide +kernel
theorem dX1_copyFrom_11 : decode cX1_copyFrom 11 = .ok (.aload_n 1, 1) := by decide +kernel
theorem dX1_copyFrom_12 : decode cX1_copyFrom 12 = .ok (.getfield 21, 3) := by decide +kernel
theorem dX1_copyFrom_15 : decode cX1_copyFrom 15 = .ok (.aload_n 0, 1) := by decide +kernel
theorem dX1_copyFrom_16 : decode cX1_copyFrom 16 = .ok (.getfield 21, 3) := by decide +kernel
theorem dX1_copyFrom_19 : decode cX1_copyFrom 19 = .ok (.invokestatic 46, 3) := by decide +kernel
theorem dX1_copyFrom_22 : decode cX1_copyFrom 22 = .ok (.aload_n 1, 1) := by decide +kernel
theorem dX1_copyFrom_23 : decode cX1_copyFrom 23 = .ok (.getfield 24, 3) := by decide +kernel
theorem dX1_copyFrom_26 : decode cX1_copyFrom 26 = .ok (.aload_n 0, 1) := by decide +kernel
theorem dX1_copyFrom_27 : decode cX1_copyFrom 27 = .ok (.getfield 24, 3) := by decide +kernel
theorem dX1_copyFrom_30 : decode cX1_copyFrom 30 = .ok (.invokestatic 46, 3) := by decide +kernel
theorem dX1_copyFrom_33 : decode cX1_copyFrom 33 = .ok (.aload_n 1, 1) := by decide +kernel
theorem dX1_copyFrom_34 : decode cX1_copyFrom 34 = .ok (.getfield 27, 3) := by decide +kernel
theorem dX1_copyFrom_37 : decode cX1_copyFrom 37 = .ok (.aload_n 0, 1) := by decide +kernel
theorem dX1_copyFrom_38 : decode cX1_copyFrom 38 = .ok (.getfield 27, 3) := by decide +kernel
theorem dX1_copyFrom_41 : decode cX1_copyFrom 41 = .ok (.invokestatic 46, 3) := by decide +kernel
theorem dX1_copyFrom_44 : decode cX1_copyFrom 44 = .ok (.aload_n 1, 1) := by decide +kernel
theorem dX1_copyFrom_45 : decode cX1_copyFrom 45 = .ok (.getfield 33, 3) := by decide +kernel
theorem dX1_copyFrom_48 : decode cX1_copyFrom 48 = .ok (.aload_n 0, 1) := by decide +kernel
theorem dX1_copyFrom_49 : decode cX1_copyFrom 49 = .ok (.getfield 33, 3) := by decide +kernel
theorem dX1_copyFrom_52 : decode cX1_copyFrom 52 = .ok (.invokestatic 46, 3) := by decide +kernel
theorem dX1_copyFrom_55 : decode cX1_copyFrom 55 = .ok (.aload_n 1, 1) := by decide +kernel
theorem dX1_copyFrom_56 : decode cX1_copyFrom 56 = .ok (.getfield 36, 3) := by decide +kernel
theorem dX1_copyFrom_59 : decode cX1_copyFrom 59 = .ok (.aload_n 0, 1) := by decide +kernel
theorem dX1_copyFrom_60 : decode cX1_copyFrom 60 = .ok (.getfield 36, 3) := by decide +kernel
theorem dX1_copyFrom_63 : decode cX1_copyFrom 63 = .ok (.invokestatic 46, 3) := by decide +kernel
theorem dX1_copyFrom_66 : decode cX1_copyFrom 66 = .ok (.aload_n 0, 1) := by decide +kernel
theorem dX1_copyFrom_67 : decode cX1_copyFrom 67 = .ok (.getfield 30, 3) := by decide +kernel
theorem dX1_copyFrom_70 : decode cX1_copyFrom 70 = .ok (.arraylength, 1) := by decide +kernel
theorem dX1_copyFrom_71 : decode cX1_copyFrom 71 = .ok (.aload_n 1, 1) := by decide +kernel
theorem dX1_copyFrom_72 : decode cX1_copyFrom 72 = .ok (.getfield 39, 3) := by decide +kernel
theorem dX1_copyFrom_75 : decode cX1_copyFrom 75 = .ok (.if_icmp .ge 14, 3) := by decide +kernel
theorem dX1_copyFrom_78 : decode cX1_copyFrom 78 = .ok (.aload_n 0, 1) := by decide +kernel
theorem dX1_copyFrom_79 : decode cX1_copyFrom 79 = .ok (.aload_n 1, 1) := by decide +kernel
theorem dX1_copyFrom_80 : decode cX1_copyFrom 80 = .ok (.getfield 30, 3) := by decide +kernel
theorem dX1_copyFrom_83 : decode cX1_copyFrom 83 = .ok (.arraylength, 1) := by decide +kernel
theorem dX1_copyFrom_84 : decode cX1_copyFrom 84 = .ok (.newarray .int, 2) := by decide +kernel
theorem dX1_copyFrom_86 : decode cX1_copyFrom 86 = .ok (.putfield 30, 3) := by decide +kernel
theorem dX1_copyFrom_89 : decode cX1_copyFrom 89 = .ok (.aload_n 1, 1) := by decide +kernel
theorem dX1_copyFrom_90 : decode cX1_copyFrom 90 = .ok (.getfield 30, 3) := by decide +kernel
theorem dX1_copyFrom_93 : decode cX1_copyFrom 93 = .ok (.iconst 0, 1) := by decide +kernel
theorem dX1_copyFrom_94 : decode cX1_copyFrom 94 = .ok (.aload_n 0, 1) := by decide +kernel
theorem dX1_copyFrom_95 : decode cX1_copyFrom 95 = .ok (.getfield 30, 3) := by decide +kernel
theorem dX1_copyFrom_98 : decode cX1_copyFrom 98 = .ok (.iconst 0, 1) := by decide +kernel
theorem dX1_copyFrom_99 : decode cX1_copyFrom 99 = .ok (.aload_n 1, 1) := by decide +kernel
theorem dX1_copyFrom_100 : decode cX1_copyFrom 100 = .ok (.getfield 39, 3) := by decide +kernel
theorem dX1_copyFrom_103 : decode cX1_copyFrom 103 = .ok (.invokestatic 50, 3) := by decide +kernel
theorem dX1_copyFrom_106 : decode cX1_copyFrom 106 = .ok (.aload_n 0, 1) := by decide +kernel
theorem dX1_copyFrom_107 : decode cX1_copyFrom 107 = .ok (.aload_n 1, 1) := by decide +kernel
theorem dX1_copyFrom_108 : decode cX1_copyFrom 108 = .ok (.getfield 39, 3) := by decide +kernel
theorem dX1_copyFrom_111 : decode cX1_copyFrom 111 = .ok (.putfield 39, 3) := by decide +kernel
theorem dX1_copyFrom_114 : decode cX1_copyFrom 114 = .ok (.aload_n 0, 1) := by decide +kernel
theorem dX1_copyFrom_115 : decode cX1_copyFrom 115 = .ok (.aload_n 1, 1) := by decide +kernel
theorem dX1_copyFrom_116 : decode cX1_copyFrom 116 = .ok (.getfield 43, 3) := by decide +kernel
theorem dX1_copyFrom_119 : decode cX1_copyFrom 119 = .ok (.putfield 43, 3) := by decide +kernel
theorem dX1_copyFrom_122 : decode cX1_copyFrom 122 = .ok (.return_, 1) := by decide +kernel
theorem dX2_copyFrom_0 : decode cX2_copyFrom 0 = .ok (.aload_n 0, 1) := by decide +kernel
theorem dX2_copyFrom_1 : decode cX2_copyFrom 1 = .ok (.aload_n 1, 1) := by decide +kernel
theorem dX2_copyFrom_2 : decode cX2_copyFrom 2 = .ok (.getfield 9, 3) := by decide +kernel
theorem dX2_copyFrom_5 : decode cX2_copyFrom 5 = .ok (.putfield 9, 3) := by decide +kernel
theorem dX2_copyFrom_8 : decode cX2_copyFrom 8 = .ok (.aload_n 1, 1) := by decide +kernel
theorem dX2_copyFrom_9 : decode cX2_copyFrom 9 = .ok (.getfield 15, 3) := by decide +kernel
theorem dX2_copyFrom_12 : decode cX2_copyFrom 12 = .ok (.aload_n 0, 1) := by decide +kernel
theorem dX2_copyFrom_13 : decode cX2_copyFrom 13 = .ok (.getfield 15, 3) := by decide +kernel
theorem dX2_copyFrom_16 : decode cX2_copyFrom 16 = .ok (.invokestatic 25, 3) := by decide +kernel
theorem dX2_copyFrom_19 : decode cX2_copyFrom 19 = .ok (.aload_n 1, 1) := by decide +kernel
theorem dX2_copyFrom_20 : decode cX2_copyFrom 20 = .ok (.getfield 19, 3) := by decide +kernel
theorem dX2_copyFrom_23 : decode cX2_copyFrom 23 = .ok (.aload_n 0, 1) := by decide +kernel
theorem dX2_copyFrom_24 : decode cX2_copyFrom 24 = .ok (.getfield 19, 3) := by decide +kernel
theorem dX2_copyFrom_27 : decode cX2_copyFrom 27 = .ok (.invokestatic 25, 3) := by decide +kernel
theorem dX2_copyFrom_30 : decode cX2_copyFrom 30 = .ok (.aload_n 1, 1) := by decide +kernel
theorem dX2_copyFrom_31 : decode cX2_copyFrom 31 = .ok (.getfield 22, 3) := by decide +kernel
theorem dX2_copyFrom_34 : decode cX2_copyFrom 34 = .ok (.aload_n 0, 1) := by decide +kernel
theorem dX2_copyFrom_35 : decode cX2_copyFrom 35 = .ok (.getfield 22, 3) := by decide +kernel
theorem dX2_copyFrom_38 : decode cX2_copyFrom 38 = .ok (.invokestatic 25, 3) := by decide +kernel
theorem dX2_copyFrom_41 : decode cX2_copyFrom 41 = .ok (.return_, 1) := by decide +kernel
theorem dX3_copyFrom_0 : decode cX3_copyFrom 0 = .ok (.aload_n 1, 1) := by decide +kernel
theorem dX3_copyFrom_1 : decode cX3_copyFrom 1 = .ok (.getfield 9, 3) := by decide +kernel
theorem dX3_copyFrom_4 : decode cX3_copyFrom 4 = .ok (.aload_n 0, 1) := by decide +kernel
theorem dX3_copyFrom_5 : decode cX3_copyFrom 5 = .ok (.getfield 9, 3) := by decide +kernel
theorem dX3_copyFrom_8 : decode cX3_copyFrom 8 = .ok (.invokestatic 27, 3) := by decide +kernel
theorem dX3_copyFrom_11 : decode cX3_copyFrom 11 = .ok (.aload_n 1, 1) := by decide +kernel
theorem dX3_copyFrom_12 : decode cX3_copyFrom 12 = .ok (.getfield 21, 3) := by decide +kernel
theorem dX3_copyFrom_15 : decode cX3_copyFrom 15 = .ok (.aload_n 0, 1) := by decide +kernel
theorem dX3_copyFrom_16 : decode cX3_copyFrom 16 = .ok (.getfield 21, 3) := by decide +kernel
theorem dX3_copyFrom_19 : decode cX3_copyFrom 19 = .ok (.invokestatic 27, 3) := by decide +kernel
theorem dX3_copyFrom_22 : decode cX3_copyFrom 22 = .ok (.aload_n 1, 1) := by decide +kernel
theorem dX3_copyFrom_23 : decode cX3_copyFrom 23 = .ok (.getfield 24, 3) := by decide +kernel
theorem dX3_copyFrom_26 : decode cX3_copyFrom 26 = .ok (.aload_n 0, 1) := by decide +kernel
theorem dX3_copyFrom_27 : decode cX3_copyFrom 27 = .ok (.getfield 24, 3) := by decide +kernel
theorem dX3_copyFrom_30 : decode cX3_copyFrom 30 = .ok (.invokestatic 27, 3) := by decide +kernel
theorem dX3_copyFrom_33 : decode cX3_copyFrom 33 = .ok (.return_, 1) := by decide +kernel
theorem dX4_copyFrom_0 : decode cX4_copyFrom 0 = .ok (.aload_n 1, 1) := by decide +kernel
theorem dX4_copyFrom_1 : decode cX4_copyFrom 1 = .ok (.getfield 9, 3) := by decide +kernel
theorem dX4_copyFrom_4 : decode cX4_copyFrom 4 = .ok (.aload_n 0, 1) := by decide +kernel
theorem dX4_copyFrom_5 : decode cX4_copyFrom 5 = .ok (.getfield 9, 3) := by decide +kernel
theorem dX4_copyFrom_8 : decode cX4_copyFrom 8 = .ok (.invokestatic 30, 3) := by decide +kernel
theorem dX4_copyFrom_11 : decode cX4_copyFrom 11 = .ok (.aload_n 1, 1) := by decide +kernel
theorem dX4_copyFrom_12 : decode cX4_copyFrom 12 = .ok (.getfield 15, 3) := by decide +kernel
theorem dX4_copyFrom_15 : decode cX4_copyFrom 15 = .ok (.aload_n 0, 1) := by decide +kernel
theorem dX4_copyFrom_16 : decode cX4_copyFrom 16 = .ok (.getfield 15, 3) := by decide +kernel
theorem dX4_copyFrom_19 : decode cX4_copyFrom 19 = .ok (.invokestatic 30, 3) := by decide +kernel
theorem dX4_copyFrom_22 : decode cX4_copyFrom 22 = .ok (.aload_n 1, 1) := by decide +kernel
theorem dX4_copyFrom_23 : decode cX4_copyFrom 23 = .ok (.getfield 18, 3) := by decide +kernel
theorem dX4_copyFrom_26 : decode cX4_copyFrom 26 = .ok (.aload_n 0, 1) := by decide +kernel
theorem dX4_copyFrom_27 : decode cX4_copyFrom 27 = .ok (.getfield 18, 3) := by decide +kernel
theorem dX4_copyFrom_30 : decode cX4_copyFrom 30 = .ok (.invokestatic 30, 3) := by decide +kernel
theorem dX4_copyFrom_33 : decode cX4_copyFrom 33 = .ok (.aload_n 1, 1) := by decide +kernel
theorem dX4_copyFrom_34 : decode cX4_copyFrom 34 = .ok (.getfield 21, 3) := by decide +kernel
theorem dX4_copyFrom_37 : decode cX4_copyFrom 37 = .ok (.aload_n 0, 1) := by decide +kernel
theorem dX4_copyFrom_38 : decode cX4_copyFrom 38 = .ok (.getfield 21, 3) := by decide +kernel
theorem dX4_copyFrom_41 : decode cX4_copyFrom 41 = .ok (.invokestatic 30, 3) := by decide +kernel
theorem dX4_copyFrom_44 : decode cX4_copyFrom 44 = .ok (.aload_n 1, 1) := by decide +kernel
theorem dX4_copyFrom_45 : decode cX4_copyFrom 45 = .ok (.getfield 24, 3) := by decide +kernel
theorem dX4_copyFrom_48 : decode cX4_copyFrom 48 = .ok (.aload_n 0, 1) := by decide +kernel
theorem dX4_copyFrom_49 : decode cX4_copyFrom 49 = .ok (.getfield 24, 3) := by decide +kernel
theorem dX4_copyFrom_52 : decode cX4_copyFrom 52 = .ok (.invokestatic 30, 3) := by decide +kernel
theorem dX4_copyFrom_55 : decode cX4_copyFrom 55 = .ok (.aload_n 1, 1) := by decide +kernel
theorem dX4_copyFrom_56 : decode cX4_copyFrom 56 = .ok (.getfield 27, 3) := by decide +kernel
theorem dX4_copyFrom_59 : decode cX4_copyFrom 59 = .ok (.aload_n 0, 1) := by decide +kernel
theorem dX4_copyFrom_60 : decode cX4_copyFrom 60 = .ok (.getfield 27, 3) := by decide +kernel
theorem dX4_copyFrom_63 : decode cX4_copyFrom 63 = .ok (.invokestatic 30, 3) := by decide +kernel
theorem dX4_copyFrom_66 : decode cX4_copyFrom 66 = .ok (.return_, 1) := by decide +kernel
theorem dX5_copyFrom_0 : decode cX5_copyFrom 0 = .ok (.aload_n 0, 1) := by decide +kernel
theorem dX5_copyFrom_1 : decode cX5_copyFrom 1 = .ok (.aload_n 1, 1) := by decide +kernel
theorem dX5_copyFrom_2 : decode cX5_copyFrom 2 = .ok (.getfield 9, 3) := by decide +kernel
theorem dX5_copyFrom_5 : decode cX5_copyFrom 5 = .ok (.putfield 9, 3) := by decide +kernel
theorem dX5_copyFrom_8 : decode cX5_copyFrom 8 = .ok (.aload_n 0, 1) := by decide +kernel
theorem dX5_copyFrom_9 : decode cX5_copyFrom 9 = .ok (.aload_n 1, 1) := by decide +kernel
theorem dX5_copyFrom_10 : decode cX5_copyFrom 10 = .ok (.getfield 15, 3) := by decide +kernel
theorem dX5_copyFrom_13 : decode cX5_copyFrom 13 = .ok (.putfield 15, 3) := by decide +kernel
theorem dX5_copyFrom_16 : decode cX5_copyFrom 16 = .ok (.aload_n 1, 1) := by decide +kernel
theorem dX5_copyFrom_17 : decode cX5_copyFrom 17 = .ok (.getfield 18, 3) := by decide +kernel
theorem dX5_copyFrom_20 : decode cX5_copyFrom 20 = .ok (.aload_n 0, 1) := by decide +kernel
theorem dX5_copyFrom_21 : decode cX5_copyFrom 21 = .ok (.getfield 18, 3) := by decide +kernel
theorem dX5_copyFrom_24 : decode cX5_copyFrom 24 = .ok (.invokestatic 22, 3) := by decide +kernel
theorem dX5_copyFrom_27 : decode cX5_copyFrom 27 = .ok (.return_, 1) := by decide +kernel
theorem dX6_copyFrom_0 : decode cX6_copyFrom 0 = .ok (.aload_n 0, 1) := by decide +kernel
theorem dX6_copyFrom_1 : decode cX6_copyFrom 1 = .ok (.aload_n 1, 1) := by decide +kernel
theorem dX6_copyFrom_2 : decode cX6_copyFrom 2 = .ok (.getfield 9, 3) := by decide +kernel
theorem dX6_copyFrom_5 : decode cX6_copyFrom 5 = .ok (.putfield 9, 3) := by decide +kernel
theorem dX6_copyFrom_8 : decode cX6_copyFrom 8 = .ok (.aload_n 1, 1) := by decide +kernel
theorem dX6_copyFrom_9 : decode cX6_copyFrom 9 = .ok (.getfield 15, 3) := by decide +kernel
theorem dX6_copyFrom_12 : decode cX6_copyFrom 12 = .ok (.aload_n 0, 1) := by decide +kernel
theorem dX6_copyFrom_13 : decode cX6_copyFrom 13 = .ok (.getfield 15, 3) := by decide +kernel
theorem dX6_copyFrom_16 : decode cX6_copyFrom 16 = .ok (.invokestatic 31, 3) := by decide +kernel
theorem dX6_copyFrom_19 : decode cX6_copyFrom 19 = .ok (.aload_n 1, 1) := by decide +kernel
theorem dX6_copyFrom_20 : decode cX6_copyFrom 20 = .ok (.getfield 19, 3) := by decide +kernel
theorem dX6_copyFrom_23 : decode cX6_copyFrom 23 = .ok (.aload_n 0, 1) := by decide +kernel
theorem dX6_copyFrom_24 : decode cX6_copyFrom 24 = .ok (.getfield 19, 3) := by decide +kernel
theorem dX6_copyFrom_27 : decode cX6_copyFrom 27 = .ok (.invokestatic 31, 3) := by decide +kernel
theorem dX6_copyFrom_30 : decode cX6_copyFrom 30 = .ok (.aload_n 1, 1) := by decide +kernel
theorem dX6_copyFrom_31 : decode cX6_copyFrom 31 = .ok (.getfield 22, 3) := by decide +kernel
theorem dX6_copyFrom_34 : decode cX6_copyFrom 34 = .ok (.aload_n 0, 1) := by decide +kernel
theorem dX6_copyFrom_35 : decode cX6_copyFrom 35 = .ok (.getfield 22, 3) := by decide +kernel
theorem dX6_copyFrom_38 : decode cX6_copyFrom 38 = .ok (.invokestatic 31, 3) := by decide +kernel
theorem dX6_copyFrom_41 : decode cX6_copyFrom 41 = .ok (.aload_n 1, 1) := by decide +kernel
theorem dX6_copyFrom_42 : decode cX6_copyFrom 42 = .ok (.getfield 25, 3) := by decide +kernel
theorem dX6_copyFrom_45 : decode cX6_copyFrom 45 = .ok (.aload_n 0, 1) := by decide +kernel
theorem dX6_copyFrom_46 : decode cX6_copyFrom 46 = .ok (.getfield 25, 3) := by decide +kernel
theorem dX6_copyFrom_49 : decode cX6_copyFrom 49 = .ok (.invokestatic 31, 3) := by decide +kernel
theorem dX6_copyFrom_52 : decode cX6_copyFrom 52 = .ok (.aload_n 1, 1) := by decide +kernel
theorem dX6_copyFrom_53 : decode cX6_copyFrom 53 = .ok (.getfield 28, 3) := by decide +kernel
theorem dX6_copyFrom_56 : decode cX6_copyFrom 56 = .ok (.aload_n 0, 1) := by decide +kernel
theorem dX6_copyFrom_57 : decode cX6_copyFrom 57 = .ok (.getfield 28, 3) := by decide +kernel
theorem dX6_copyFrom_60 : decode cX6_copyFrom 60 = .ok (.invokestatic 31, 3) := by decide +kernel
theorem dX6_copyFrom_63 : decode cX6_copyFrom 63 = .ok (.return_, 1) := by decide +kernel
theorem dX7_copyFrom_0 : decode cX7_copyFrom 0 = .ok (.aload_n 0, 1) := by decide +kernel
theorem dX7_copyFrom_1 : decode cX7_copyFrom 1 = .ok (.aload_n 1, 1) := by decide +kernel
theorem dX7_copyFrom_2 : decode cX7_copyFrom 2 = .ok (.getfield 9, 3) := by decide +kernel
theorem dX7_copyFrom_5 : decode cX7_copyFrom 5 = .ok (.putfield 9, 3) := by decide +kernel
theorem dX7_copyFrom_8 : decode cX7_copyFrom 8 = .ok (.aload_n 0, 1) := by decide +kernel
theorem dX7_copyFrom_9 : decode cX7_copyFrom 9 = .ok (.aload_n 1, 1) := by decide +kernel
theorem dX7_copyFrom_10 : decode cX7_copyFrom 10 = .ok (.getfield 15, 3) := by decide +kernel
theorem dX7_copyFrom_13 : decode cX7_copyFrom 13 = .ok (.putfield 15, 3) := by decide +kernel
theorem dX7_copyFrom_16 : decode cX7_copyFrom 16 = .ok (.aload_n 0, 1) := by decide +kernel
theorem dX7_copyFrom_17 : decode cX7_copyFrom 17 = .ok (.aload_n 1, 1) := by decide +kernel
theorem dX7_copyFrom_18 : decode cX7_copyFrom 18 = .ok (.getfield 18, 3) := by decide +kernel
theorem dX7_copyFrom_21 : decode cX7_copyFrom 21 = .ok (.putfield 18, 3) := by decide +kernel
theorem dX7_copyFrom_24 : decode cX7_copyFrom 24 = .ok (.aload_n 0, 1) := by decide +kernel
theorem dX7_copyFrom_25 : decode cX7_copyFrom 25 = .ok (.aload_n 1, 1) := by decide +kernel
theorem dX7_copyFrom_26 : decode cX7_copyFrom 26 = .ok (.getfield 21, 3) := by decide +kernel
theorem dX7_copyFrom_29 : decode cX7_copyFrom 29 = .ok (.putfield 21, 3) := by decide +kernel
theorem dX7_copyFrom_32 : decode cX7_copyFrom 32 = .ok (.aload_n 0, 1) := by decide +kernel
theorem dX7_copyFrom_33 : decode cX7_copyFrom 33 = .ok (.aload_n 1, 1) := by decide +kernel
theorem dX7_copyFrom_34 : decode cX7_copyFrom 34 = .ok (.getfield 24, 3) := by decide +kernel
theorem dX7_copyFrom_37 : decode cX7_copyFrom 37 = .ok (.putfield 24, 3) := by decide +kernel
theorem dX7_copyFrom_40 : decode cX7_copyFrom 40 = .ok (.aload_n 0, 1) := by decide +kernel
theorem dX7_copyFrom_41 : decode cX7_copyFrom 41 = .ok (.aload_n 1, 1) := by decide +kernel
theorem dX7_copyFrom_42 : decode cX7_copyFrom 42 = .ok (.getfield 27, 3) := by decide +kernel
theorem dX7_copyFrom_45 : decode cX7_copyFrom 45 = .ok (.putfield 27, 3) := by decide +kernel
theorem dX7_copyFrom_48 : decode cX7_copyFrom 48 = .ok (.aload_n 0, 1) := by decide +kernel
theorem dX7_copyFrom_49 : decode cX7_copyFrom 49 = .ok (.aload_n 1, 1) := by decide +kernel
theorem dX7_copyFrom_50 : decode cX7_copyFrom 50 = .ok (.getfield 30, 3) := by decide +kernel
theorem dX7_copyFrom_53 : decode cX7_copyFrom 53 = .ok (.putfield 30, 3) := by decide +kernel
theorem dX7_copyFrom_56 : decode cX7_copyFrom 56 = .ok (.aload_n 0, 1) := by decide +kernel
theorem dX7_copyFrom_57 : decode cX7_copyFrom 57 = .ok (.aload_n 1, 1) := by decide +kernel
theorem dX7_copyFrom_58 : decode cX7_copyFrom 58 = .ok (.getfield 33, 3) := by decide +kernel
theorem dX7_copyFrom_61 : decode cX7_copyFrom 61 = .ok (.putfield 33, 3) := by decide +kernel
theorem dX7_copyFrom_64 : decode cX7_copyFrom 64 = .ok (.aload_n 0, 1) := by decide +kernel
theorem dX7_copyFrom_65 : decode cX7_copyFrom 65 = .ok (.aload_n 1, 1) := by decide +kernel
theorem dX7_copyFrom_66 : decode cX7_copyFrom 66 = .ok (.getfield 36, 3) := by decide +kernel
theorem dX7_copyFrom_69 : decode cX7_copyFrom 69 = .ok (.putfield 36, 3) := by decide +kernel
theorem dX7_copyFrom_72 : decode cX7_copyFrom 72 = .ok (.aload_n 1, 1) := by decide +kernel
theorem dX7_copyFrom_73 : decode cX7_copyFrom 73 = .ok (.getfield 40, 3) := by decide +kernel
theorem dX7_copyFrom_76 : decode cX7_copyFrom 76 = .ok (.aload_n 0, 1) := by decide +kernel
theorem dX7_copyFrom_77 : decode cX7_copyFrom 77 = .ok (.getfield 40, 3) := by decide +kernel
theorem dX7_copyFrom_80 : decode cX7_copyFrom 80 = .ok (.invokestatic 101, 3) := by decide +kernel
theorem dX7_copyFrom_83 : decode cX7_copyFrom 83 = .ok (.aload_n 1, 1) := by decide +kernel
theorem dX7_copyFrom_84 : decode cX7_copyFrom 84 = .ok (.getfield 44, 3) := by decide +kernel
theorem dX7_copyFrom_87 : decode cX7_copyFrom 87 = .ok (.aload_n 0, 1) := by decide +kernel
theorem dX7_copyFrom_88 : decode cX7_copyFrom 88 = .ok (.getfield 44, 3) := by decide +kernel
theorem dX7_copyFrom_91 : decode cX7_copyFrom 91 = .ok (.invokestatic 101, 3) := by decide +kernel
theorem dX7_copyFrom_94 : decode cX7_copyFrom 94 = .ok (.aload_n 1, 1) := by decide +kernel
theorem dX7_copyFrom_95 : decode cX7_copyFrom 95 = .ok (.getfield 53, 3) := by decide +kernel
theorem dX7_copyFrom_98 : decode cX7_copyFrom 98 = .ok (.aload_n 0, 1) := by decide +kernel
theorem dX7_copyFrom_99 : decode cX7_copyFrom 99 = .ok (.getfield 53, 3) := by decide +kernel
theorem dX7_copyFrom_102 : decode cX7_copyFrom 102 = .ok (.invokestatic 101, 3) := by decide +kernel
theorem dX7_copyFrom_105 : decode cX7_copyFrom 105 = .ok (.aload_n 1, 1) := by decide +kernel
theorem dX7_copyFrom_106 : decode cX7_copyFrom 106 = .ok (.getfield 56, 3) := by decide +kernel
theorem dX7_copyFrom_109 : decode cX7_copyFrom 109 = .ok (.aload_n 0, 1) := by decide +kernel
theorem dX7_copyFrom_110 : decode cX7_copyFrom 110 = .ok (.getfield 56, 3) := by decide +kernel
theorem dX7_copyFrom_113 : decode cX7_copyFrom 113 = .ok (.invokestatic 101, 3) := by decide +kernel
theorem dX7_copyFrom_116 : decode cX7_copyFrom 116 = .ok (.aload_n 0, 1) := by decide +kernel
theorem dX7_copyFrom_117 : decode cX7_copyFrom 117 = .ok (.getfield 62, 3) := by decide +kernel
theorem dX7_copyFrom_120 : decode cX7_copyFrom 120 = .ok (.aload_n 1, 1) := by decide +kernel
theorem dX7_copyFrom_121 : decode cX7_copyFrom 121 = .ok (.getfield 62, 3) := by decide +kernel
theorem dX7_copyFrom_124 : decode cX7_copyFrom 124 = .ok (.invokevirtual 105, 3) := by decide +kernel
theorem dX7_copyFrom_127 : decode cX7_copyFrom 127 = .ok (.aload_n 0, 1) := by decide +kernel
theorem dX7_copyFrom_128 : decode cX7_copyFrom 128 = .ok (.getfield 69, 3) := by decide +kernel
theorem dX7_copyFrom_131 : decode cX7_copyFrom 131 = .ok (.aload_n 1, 1) := by decide +kernel
theorem dX7_copyFrom_132 : decode cX7_copyFrom 132 = .ok (.getfield 69, 3) := by decide +kernel
theorem dX7_copyFrom_135 : decode cX7_copyFrom 135 = .ok (.invokevirtual 109, 3) := by decide +kernel
theorem dX7_copyFrom_138 : decode cX7_copyFrom 138 = .ok (.aload_n 0, 1) := by decide +kernel
theorem dX7_copyFrom_139 : decode cX7_copyFrom 139 = .ok (.getfield 76, 3) := by decide +kernel
theorem dX7_copyFrom_142 : decode cX7_copyFrom 142 = .ok (.aload_n 1, 1) := by decide +kernel
theorem dX7_copyFrom_143 : decode cX7_copyFrom 143 = .ok (.getfield 76, 3) := by decide +kernel
theorem dX7_copyFrom_146 : decode cX7_copyFrom 146 = .ok (.invokevirtual 112, 3) := by decide +kernel
theorem dX7_copyFrom_149 : decode cX7_copyFrom 149 = .ok (.aload_n 0, 1) := by decide +kernel
theorem dX7_copyFrom_150 : decode cX7_copyFrom 150 = .ok (.getfield 83, 3) := by decide +kernel
theorem dX7_copyFrom_153 : decode cX7_copyFrom 153 = .ok (.aload_n 1, 1) := by decide +kernel
theorem dX7_copyFrom_154 : decode cX7_copyFrom 154 = .ok (.getfield 83, 3) := by decide +kernel
theorem dX7_copyFrom_157 : decode cX7_copyFrom 157 = .ok (.invokevirtual 115, 3) := by decide +kernel
theorem dX7_copyFrom_160 : decode cX7_copyFrom 160 = .ok (.aload_n 0, 1) := by decide +kernel
theorem dX7_copyFrom_161 : decode cX7_copyFrom 161 = .ok (.getfield 90, 3) := by decide +kernel
theorem dX7_copyFrom_164 : decode cX7_copyFrom 164 = .ok (.aload_n 1, 1) := by decide +kernel
theorem dX7_copyFrom_165 : decode cX7_copyFrom 165 = .ok (.getfield 90, 3) := by decide +kernel
theorem dX7_copyFrom_168 : decode cX7_copyFrom 168 = .ok (.invokevirtual 118, 3) := by decide +kernel
theorem dX7_copyFrom_171 : decode cX7_copyFrom 171 = .ok (.aload_n 0, 1) := by decide +kernel
theorem dX7_copyFrom_172 : decode cX7_copyFrom 172 = .ok (.getfield 97, 3) := by decide +kernel
theorem dX7_copyFrom_175 : decode cX7_copyFrom 175 = .ok (.aload_n 1, 1) := by decide +kernel
theorem dX7_copyFrom_176 : decode cX7_copyFrom 176 = .ok (.getfield 97, 3) := by decide +kernel
theorem dX7_copyFrom_179 : decode cX7_copyFrom 179 = .ok (.invokevirtual 121, 3) := by decide +kernel
theorem dX7_copyFrom_182 : decode cX7_copyFrom 182 = .ok (.return_, 1) := by decide +kernel
theorem dX7_lookFrom_0 : decode cX7_lookFrom 0 = .ok (.aload_n 0, 1) := by decide +kernel
theorem dX7_lookFrom_1 : decode cX7_lookFrom 1 = .ok (.aload_n 1, 1) := by decide +kernel
theorem dX7_lookFrom_2 : decode cX7_lookFrom 2 = .ok (.invokevirtual 124, 3) := by decide +kernel
theorem dX7_lookFrom_5 : decode cX7_lookFrom 5 = .ok (.aload_n 0, 1) := by decide +kernel
theorem dX7_lookFrom_6 : decode cX7_lookFrom 6 = .ok (.iconst 0, 1) := by decide +kernel
theorem dX7_lookFrom_7 : decode cX7_lookFrom 7 = .ok (.putfield 24, 3) := by decide +kernel
theorem dX7_lookFrom_10 : decode cX7_lookFrom 10 = .ok (.aload_n 0, 1) := by decide +kernel
theorem dX7_lookFrom_11 : decode cX7_lookFrom 11 = .ok (.iconst 0, 1) := by decide +kernel
theorem dX7_lookFrom_12 : decode cX7_lookFrom 12 = .ok (.putfield 33, 3) := by decide +kernel
theorem dX7_lookFrom_15 : decode cX7_lookFrom 15 = .ok (.return_, 1) := by decide +kernel
section S_32_cp
variable {p : Program} {l : Launch} {e : Env} {R : Room} {s : State} {m : MethodId} {args : Array Value} {below : List Frame} {meth : Method} {c : Code} {A : Nat → Prop} {D : va_G} {cI cB cL : ClassId} {ad : Nat → Nat} {pa pl p2 l2 : Nat}
noncomputable def fX1_copyFrom_89 (l2 : Nat) (u : Sg) (pl : Nat) : Option (Sg × Nat) := grd (¬ (u 41 7) < 0 ∧ ((u 41 7) : Int32).toNatClampNeg ≤ l2 ∧ ((u 41 7) : Int32).toNatClampNeg ≤ pl) (bnd (sq u 10 (cpy (((u 41 7) : Int32).toNatClampNeg) (u 46) (u 10))) (fun u8 => bnd (s2 u8 5 7 (u8 41 7)) (fun u10 => bnd (s2 u10 5 8 (u10 41 8)) (fun u11 => some (u11, 0)))))
noncomputable def fX1_copyFrom_0 (l2 : Nat) (u : Sg) (pl : Nat) : Option (Sg × Nat) := bnd (sq u 6 (cpy 36 (u 42) (u 6))) (fun u1 => bnd (sq u1 7 (cpy 36 (u1 43) (u1 7))) (fun u2 => bnd (sq u2 8 (cpy 36 (u2 44) (u2 8))) (fun u3 => bnd (sq u3 9 (cpy 36 (u3 45) (u3 9))) (fun u4 => bnd (sq u4 11 (cpy 36 (u4 47) (u4 11))) (fun u5 => bnd (sq u5 12 (cpy 36 (u5 48) (u5 12))) (fun u6 => cnd ((u6 41 7) ≤ (Int32.ofNat pl)) (fX1_copyFrom_89 l2 u6 pl) (grd (2 * pl ≤ l2 ∧ 1 ≤ l2 ∧ l2 ≤ 1000000) (bnd (sq u6 10 (fun _ => 0)) (fun u13 => addB (l2 - pl) (fX1_copyFrom_89 l2 u13 l2))))))))))
noncomputable def fX1_copyFrom (l2 : Nat) (u : Sg) (pl : Nat) : Option (Sg × Nat) := fX1_copyFrom_0 l2 u pl
set_option maxRecDepth 10000 in
set_option maxHeartbeats 4000000 in
theorem wX1_copyFrom_89 (C : cx D (tyl cI cB cL) A RX1 cX1_copyFrom 2 none p s m args c meth) (hR : 2 ≤ R.frames ∧ 47 ≤ R.locals) {σ' : Sg} {dt pf : Nat} (hC : R.cells = dt ∧ R.slots = 2 * dt) (u : Sg) {pl pa a dz : Nat} {H : Heap} {locs : List Loc} {ls : Array Slot} (hl : lv_has ls 2 [(0, .ref (ad 5)), (1, .ref (ad 41))]) (S : st D (w2 cI ad p2 l2 pa pl) A s u H locs) (ha : dt = a + dz) (hpf : pf = pl + dz) (h : fX1_copyFrom_89 l2 u pl = some (σ', dz)) : W p l e R s m args below meth c H locs a (2 * a) (MQ below (qVA D cI cB cL (w2 cI ad p2 l2) pf A σ') args s dt (2 * dt) A) (F0 m 89 ls []) := by
  have hx := C.1
  have hb := C.2.1
  have hsz := hl.1
  unfold fX1_copyFrom_89 at h
  refine lv_aload_n hx hb dX1_copyFrom_89 rfl (lv_at hl 1 rfl) ?_
  refine q_get (v := .ref p2) C S (o241 cI ad p2 l2 pa pl) rfl iwX1 4 (by decide) mw_395 rfl dX1_copyFrom_90 ?_
  refine lv_iconst (v := 0) hx hb dX1_copyFrom_93 (by decide) ?_
  refine lv_aload_n hx hb dX1_copyFrom_94 rfl (lv_at hl 0 rfl) ?_
  refine q_get (v := .ref pa) C S (o25 cI ad p2 l2 pa pl) rfl iwX1 4 (by decide) mw_395 rfl dX1_copyFrom_95 ?_
  refine lv_iconst (v := 0) hx hb dX1_copyFrom_98 (by decide) ?_
  refine lv_aload_n hx hb dX1_copyFrom_99 rfl (lv_at hl 1 rfl) ?_
  refine q_get (v := .int (u 41 7)) C S (o241 cI ad p2 l2 pa pl) rfl iwX1 7 (by decide) mw_468 rfl dX1_copyFrom_100 ?_
  obtain ⟨g9, h⟩ := grd_some h
  obtain ⟨u8, eu8⟩ : ∃ z : Sg, z = sq u 10 (cpy (((u 41 7) : Int32).toNatClampNeg) (u 46) (u 10)) := ⟨_, rfl⟩
  have h := bnd_of eu8 h
  refine q_acopy C S (a246 cI ad p2 l2 pa pl) (a210 cI ad p2 l2 pa pl) g9.1 g9.2.1 g9.2.2 mw_606 ⟨Nat.le_trans (Nat.le_of_ble_eq_true rfl) hR.1, Nat.le_trans (Nat.le_of_ble_eq_true rfl) hR.2⟩ hsz (Nat.le_of_ble_eq_true rfl) dX1_copyFrom_103 eu8 (fun H locs S => ?_)
  refine lv_aload_n hx hb dX1_copyFrom_106 rfl (lv_at hl 0 rfl) ?_
  refine lv_aload_n hx hb dX1_copyFrom_107 rfl (lv_at hl 1 rfl) ?_
  refine q_get (v := .int (u8 41 7)) C S (o241 cI ad p2 l2 pa pl) rfl iwX1 7 (by decide) mw_468 rfl dX1_copyFrom_108 ?_
  obtain ⟨u10, eu10⟩ : ∃ z : Sg, z = s2 u8 5 7 (u8 41 7) := ⟨_, rfl⟩
  have h := bnd_of eu10 h
  refine q_put C S (o25 cI ad p2 l2 pa pl) rfl iwX1 tyX1 tyX1_ok nmX1 7 (by decide) mw_468 rfl (i25_7 cI ad p2 l2 pa pl) rfl rfl dX1_copyFrom_111 eu10 (fun H locs S => ?_)
  refine lv_aload_n hx hb dX1_copyFrom_114 rfl (lv_at hl 0 rfl) ?_
  refine lv_aload_n hx hb dX1_copyFrom_115 rfl (lv_at hl 1 rfl) ?_
  refine q_get (v := .int (u10 41 8)) C S (o241 cI ad p2 l2 pa pl) rfl iwX1 8 (by decide) mw_397 rfl dX1_copyFrom_116 ?_
  obtain ⟨u11, eu11⟩ : ∃ z : Sg, z = s2 u10 5 8 (u10 41 8) := ⟨_, rfl⟩
  have h := bnd_of eu11 h
  refine q_put C S (o25 cI ad p2 l2 pa pl) rfl iwX1 tyX1 tyX1_ok nmX1 8 (by decide) mw_397 rfl (i25_8 cI ad p2 l2 pa pl) rfl rfl dX1_copyFrom_119 eu11 (fun H locs S => ?_)
  exact q_vretA C S h ha hpf dX1_copyFrom_122
set_option maxRecDepth 10000 in
set_option maxHeartbeats 4000000 in
theorem wX1_copyFrom_0 (C : cx D (tyl cI cB cL) A RX1 cX1_copyFrom 2 none p s m args c meth) (hR : 2 ≤ R.frames ∧ 47 ≤ R.locals) {σ' : Sg} {dt pf : Nat} (hC : R.cells = dt ∧ R.slots = 2 * dt) (u : Sg) {pl pa a dz : Nat} {H : Heap} {locs : List Loc} {ls : Array Slot} (hl : lv_has ls 2 [(0, .ref (ad 5)), (1, .ref (ad 41))]) (S : st D (w2 cI ad p2 l2 pa pl) A s u H locs) (ha : dt = a + dz) (hpf : pf = pl + dz) (h : fX1_copyFrom_0 l2 u pl = some (σ', dz)) : W p l e R s m args below meth c H locs a (2 * a) (MQ below (qVA D cI cB cL (w2 cI ad p2 l2) pf A σ') args s dt (2 * dt) A) (F0 m 0 ls []) := by
  have hx := C.1
  have hb := C.2.1
  have hsz := hl.1
  unfold fX1_copyFrom_0 at h
  refine lv_aload_n hx hb dX1_copyFrom_0 rfl (lv_at hl 1 rfl) ?_
  refine q_get (v := .ref (ad 42)) C S (o241 cI ad p2 l2 pa pl) rfl iwX1 0 (by decide) mw_605 rfl dX1_copyFrom_1 ?_
  refine lv_aload_n hx hb dX1_copyFrom_4 rfl (lv_at hl 0 rfl) ?_
  refine q_get (v := .ref (ad 6)) C S (o25 cI ad p2 l2 pa pl) rfl iwX1 0 (by decide) mw_605 rfl dX1_copyFrom_5 ?_
  obtain ⟨u1, eu1⟩ : ∃ z : Sg, z = sq u 6 (cpy 36 (u 42) (u 6)) := ⟨_, rfl⟩
  have h := bnd_of eu1 h
  refine q_copyRow C S (a242 cI ad p2 l2 pa pl) (a26 cI ad p2 l2 pa pl) (by decide) (by decide) (List.mem_of_getElem? (i := 5) rfl) ⟨Nat.le_trans (Nat.le_of_ble_eq_true rfl) hR.1, Nat.le_trans (Nat.le_of_ble_eq_true rfl) hR.2⟩ hsz (capA hC ha) (Nat.le_of_ble_eq_true rfl) dX1_copyFrom_8 eu1 (fun H locs S => ?_)
  refine lv_aload_n hx hb dX1_copyFrom_11 rfl (lv_at hl 1 rfl) ?_
  refine q_get (v := .ref (ad 43)) C S (o241 cI ad p2 l2 pa pl) rfl iwX1 1 (by decide) mw_396 rfl dX1_copyFrom_12 ?_
  refine lv_aload_n hx hb dX1_copyFrom_15 rfl (lv_at hl 0 rfl) ?_
  refine q_get (v := .ref (ad 7)) C S (o25 cI ad p2 l2 pa pl) rfl iwX1 1 (by decide) mw_396 rfl dX1_copyFrom_16 ?_
  obtain ⟨u2, eu2⟩ : ∃ z : Sg, z = sq u1 7 (cpy 36 (u1 43) (u1 7)) := ⟨_, rfl⟩
  have h := bnd_of eu2 h
  refine q_copyRow C S (a243 cI ad p2 l2 pa pl) (a27 cI ad p2 l2 pa pl) (by decide) (by decide) (List.mem_of_getElem? (i := 5) rfl) ⟨Nat.le_trans (Nat.le_of_ble_eq_true rfl) hR.1, Nat.le_trans (Nat.le_of_ble_eq_true rfl) hR.2⟩ hsz (capA hC ha) (Nat.le_of_ble_eq_true rfl) dX1_copyFrom_19 eu2 (fun H locs S => ?_)
  refine lv_aload_n hx hb dX1_copyFrom_22 rfl (lv_at hl 1 rfl) ?_
  refine q_get (v := .ref (ad 44)) C S (o241 cI ad p2 l2 pa pl) rfl iwX1 2 (by decide) mw_469 rfl dX1_copyFrom_23 ?_
  refine lv_aload_n hx hb dX1_copyFrom_26 rfl (lv_at hl 0 rfl) ?_
  refine q_get (v := .ref (ad 8)) C S (o25 cI ad p2 l2 pa pl) rfl iwX1 2 (by decide) mw_469 rfl dX1_copyFrom_27 ?_
  obtain ⟨u3, eu3⟩ : ∃ z : Sg, z = sq u2 8 (cpy 36 (u2 44) (u2 8)) := ⟨_, rfl⟩
  have h := bnd_of eu3 h
  refine q_copyRow C S (a244 cI ad p2 l2 pa pl) (a28 cI ad p2 l2 pa pl) (by decide) (by decide) (List.mem_of_getElem? (i := 5) rfl) ⟨Nat.le_trans (Nat.le_of_ble_eq_true rfl) hR.1, Nat.le_trans (Nat.le_of_ble_eq_true rfl) hR.2⟩ hsz (capA hC ha) (Nat.le_of_ble_eq_true rfl) dX1_copyFrom_30 eu3 (fun H locs S => ?_)
  refine lv_aload_n hx hb dX1_copyFrom_33 rfl (lv_at hl 1 rfl) ?_
  refine q_get (v := .ref (ad 45)) C S (o241 cI ad p2 l2 pa pl) rfl iwX1 3 (by decide) mw_398 rfl dX1_copyFrom_34 ?_
  refine lv_aload_n hx hb dX1_copyFrom_37 rfl (lv_at hl 0 rfl) ?_
  refine q_get (v := .ref (ad 9)) C S (o25 cI ad p2 l2 pa pl) rfl iwX1 3 (by decide) mw_398 rfl dX1_copyFrom_38 ?_
  obtain ⟨u4, eu4⟩ : ∃ z : Sg, z = sq u3 9 (cpy 36 (u3 45) (u3 9)) := ⟨_, rfl⟩
  have h := bnd_of eu4 h
  refine q_copyRow C S (a245 cI ad p2 l2 pa pl) (a29 cI ad p2 l2 pa pl) (by decide) (by decide) (List.mem_of_getElem? (i := 5) rfl) ⟨Nat.le_trans (Nat.le_of_ble_eq_true rfl) hR.1, Nat.le_trans (Nat.le_of_ble_eq_true rfl) hR.2⟩ hsz (capA hC ha) (Nat.le_of_ble_eq_true rfl) dX1_copyFrom_41 eu4 (fun H locs S => ?_)
  refine lv_aload_n hx hb dX1_copyFrom_44 rfl (lv_at hl 1 rfl) ?_
  refine q_get (v := .ref (ad 47)) C S (o241 cI ad p2 l2 pa pl) rfl iwX1 5 (by decide) mw_394 rfl dX1_copyFrom_45 ?_
  refine lv_aload_n hx hb dX1_copyFrom_48 rfl (lv_at hl 0 rfl) ?_
  refine q_get (v := .ref (ad 11)) C S (o25 cI ad p2 l2 pa pl) rfl iwX1 5 (by decide) mw_394 rfl dX1_copyFrom_49 ?_
  obtain ⟨u5, eu5⟩ : ∃ z : Sg, z = sq u4 11 (cpy 36 (u4 47) (u4 11)) := ⟨_, rfl⟩
  have h := bnd_of eu5 h
  refine q_copyRow C S (a247 cI ad p2 l2 pa pl) (a211 cI ad p2 l2 pa pl) (by decide) (by decide) (List.mem_of_getElem? (i := 5) rfl) ⟨Nat.le_trans (Nat.le_of_ble_eq_true rfl) hR.1, Nat.le_trans (Nat.le_of_ble_eq_true rfl) hR.2⟩ hsz (capA hC ha) (Nat.le_of_ble_eq_true rfl) dX1_copyFrom_52 eu5 (fun H locs S => ?_)
  refine lv_aload_n hx hb dX1_copyFrom_55 rfl (lv_at hl 1 rfl) ?_
  refine q_get (v := .ref (ad 48)) C S (o241 cI ad p2 l2 pa pl) rfl iwX1 6 (by decide) mw_399 rfl dX1_copyFrom_56 ?_
  refine lv_aload_n hx hb dX1_copyFrom_59 rfl (lv_at hl 0 rfl) ?_
  refine q_get (v := .ref (ad 12)) C S (o25 cI ad p2 l2 pa pl) rfl iwX1 6 (by decide) mw_399 rfl dX1_copyFrom_60 ?_
  obtain ⟨u6, eu6⟩ : ∃ z : Sg, z = sq u5 12 (cpy 36 (u5 48) (u5 12)) := ⟨_, rfl⟩
  have h := bnd_of eu6 h
  refine q_copyRow C S (a248 cI ad p2 l2 pa pl) (a212 cI ad p2 l2 pa pl) (by decide) (by decide) (List.mem_of_getElem? (i := 5) rfl) ⟨Nat.le_trans (Nat.le_of_ble_eq_true rfl) hR.1, Nat.le_trans (Nat.le_of_ble_eq_true rfl) hR.2⟩ hsz (capA hC ha) (Nat.le_of_ble_eq_true rfl) dX1_copyFrom_63 eu6 (fun H locs S => ?_)
  refine lv_aload_n hx hb dX1_copyFrom_66 rfl (lv_at hl 0 rfl) ?_
  refine q_get (v := .ref pa) C S (o25 cI ad p2 l2 pa pl) rfl iwX1 4 (by decide) mw_395 rfl dX1_copyFrom_67 ?_
  refine q_alen (v := (Int32.ofNat pl)) C S (a210 cI ad p2 l2 pa pl) 0 rfl rfl dX1_copyFrom_70 ?_
  refine lv_aload_n hx hb dX1_copyFrom_71 rfl (lv_at hl 1 rfl) ?_
  refine q_get (v := .int (u6 41 7)) C S (o241 cI ad p2 l2 pa pl) rfl iwX1 7 (by decide) mw_468 rfl dX1_copyFrom_72 ?_
  refine lv_icmp_ge (tgt := 89) hx hb dX1_copyFrom_75 (by decide) (fun c7 => ?_) (fun c7 => ?_)
  · have h := cnd_t c7 h
    exact wX1_copyFrom_89 C hR hC u6 (lv_sub hl [0, 1] rfl) S ha hpf h
  · have h := cnd_f c7 h
    refine lv_aload_n hx hb dX1_copyFrom_78 rfl (lv_at hl 0 rfl) ?_
    refine lv_aload_n hx hb dX1_copyFrom_79 rfl (lv_at hl 1 rfl) ?_
    refine q_get (v := .ref p2) C S (o241 cI ad p2 l2 pa pl) rfl iwX1 4 (by decide) mw_395 rfl dX1_copyFrom_80 ?_
    refine q_alen (v := (Int32.ofNat l2)) C S (a246 cI ad p2 l2 pa pl) 0 rfl rfl dX1_copyFrom_83 ?_
    obtain ⟨g12, h⟩ := grd_some h
    obtain ⟨u13, eu13⟩ : ∃ z : Sg, z = sq u6 10 (fun _ => 0) := ⟨_, rfl⟩
    have h := bnd_of eu13 h
    obtain ⟨dz14, h, edz14⟩ := addB_some h
    have ha15 : dt = (a + (l2 - pl)) + dz14 := by omega
    have hpf15 : pf = l2 + dz14 := by omega
    refine q_newpool (dz := dz14) C S g12 mw_395 hC (by omega) dX1_copyFrom_84 dX1_copyFrom_86 (fun pa15 H locs S => ?_)
    rw [← eu13] at S
    exact wX1_copyFrom_89 C hR hC u13 (lv_sub hl [0, 1] rfl) S ha15 hpf15 h
set_option maxRecDepth 10000 in
set_option maxHeartbeats 4000000 in
theorem ct_X1_copyFrom (l : Launch) (D : va_G) (cI cB cL : ClassId) (ad : Nat → Nat) (p2 l2 : Nat) (u : Sg) (pl : Nat) {σ' : Sg} {dz : Nat} (h : fX1_copyFrom l2 u pl = some (σ', dz)) : metVA l D cI cB cL yX1_copyFrom cX1_copyFrom 2 2 47 (w2 cI ad p2 l2) [.ref (ad 5), .ref (ad 41)] u pl σ' dz := by
  intro pa sz
  refine Met.ofW (cc := cX1_copyFrom) (maxL := 2) (ret := none) (by decide) rfl ?_
  intro p e s m args below meth c s₁ B hml hv
  obtain ⟨rfl, C, S⟩ := q_entryA B hml hv
  have hl := lv_entry ([.ref (ad 5), .ref (ad 41)]) (n := 2) (Nat.le_of_ble_eq_true rfl)
  rw [lg_entry_eq]
  generalize (lg_sl ([.ref (ad 5), .ref (ad 41)]) ++ List.replicate (2 - (lg_sl ([.ref (ad 5), .ref (ad 41)])).length) Slot.unset).toArray = ls at hl ⊢
  exact wX1_copyFrom_0 C ⟨Nat.le_refl _, Nat.le_refl _⟩ ⟨rfl, rfl⟩ u (lv_sub hl [0, 1] rfl) S (Nat.zero_add _).symm rfl h
noncomputable def fX2_copyFrom_0 (u : Sg) : Option Sg := bnd (s2 u 30 0 (u 66 0)) (fun u1 => bnd (sq u1 31 (cpy 8 (u1 67) (u1 31))) (fun u2 => bnd (sq u2 32 (cpy 8 (u2 68) (u2 32))) (fun u3 => bnd (sq u3 33 (cpy 8 (u3 69) (u3 33))) (fun u4 => some u4))))
noncomputable def fX2_copyFrom (u : Sg) : Option Sg := fX2_copyFrom_0 u
set_option maxRecDepth 10000 in
set_option maxHeartbeats 4000000 in
theorem wX2_copyFrom_0 (C : cx D (tyl cI cB cL) A RX2 cX2_copyFrom 2 none p s m args c meth) (hR : 2 ≤ R.frames ∧ 47 ≤ R.locals) {σ' : Sg} (u : Sg) {H : Heap} {locs : List Loc} {ls : Array Slot} (hl : lv_has ls 2 [(0, .ref (ad 30)), (1, .ref (ad 66))]) (S : st D (w2 cI ad p2 l2 pa pl) A s u H locs) (h : fX2_copyFrom_0 u = some σ') : W p l e R s m args below meth c H locs 0 0 (MQ below (qV D (tyl cI cB cL) (w2 cI ad p2 l2 pa pl) A σ') args s 0 0 A) (F0 m 0 ls []) := by
  have hx := C.1
  have hb := C.2.1
  have hsz := hl.1
  unfold fX2_copyFrom_0 at h
  refine lv_aload_n hx hb dX2_copyFrom_0 rfl (lv_at hl 0 rfl) ?_
  refine lv_aload_n hx hb dX2_copyFrom_1 rfl (lv_at hl 1 rfl) ?_
  refine q_get (v := .int (u 66 0)) C S (o266 cI ad p2 l2 pa pl) rfl iwX2 0 (by decide) mw_409 rfl dX2_copyFrom_2 ?_
  obtain ⟨u1, eu1⟩ : ∃ z : Sg, z = s2 u 30 0 (u 66 0) := ⟨_, rfl⟩
  have h := bnd_of eu1 h
  refine q_put C S (o230 cI ad p2 l2 pa pl) rfl iwX2 tyX2 tyX2_ok nmX2 0 (by decide) mw_409 rfl (i230_0 cI ad p2 l2 pa pl) rfl rfl dX2_copyFrom_5 eu1 (fun H locs S => ?_)
  refine lv_aload_n hx hb dX2_copyFrom_8 rfl (lv_at hl 1 rfl) ?_
  refine q_get (v := .ref (ad 67)) C S (o266 cI ad p2 l2 pa pl) rfl iwX2 1 (by decide) mw_408 rfl dX2_copyFrom_9 ?_
  refine lv_aload_n hx hb dX2_copyFrom_12 rfl (lv_at hl 0 rfl) ?_
  refine q_get (v := .ref (ad 31)) C S (o230 cI ad p2 l2 pa pl) rfl iwX2 1 (by decide) mw_408 rfl dX2_copyFrom_13 ?_
  obtain ⟨u2, eu2⟩ : ∃ z : Sg, z = sq u1 31 (cpy 8 (u1 67) (u1 31)) := ⟨_, rfl⟩
  have h := bnd_of eu2 h
  refine q_copyRow C S (a267 cI ad p2 l2 pa pl) (a231 cI ad p2 l2 pa pl) (by decide) (by decide) (List.mem_of_getElem? (i := 9) rfl) ⟨Nat.le_trans (Nat.le_of_ble_eq_true rfl) hR.1, Nat.le_trans (Nat.le_of_ble_eq_true rfl) hR.2⟩ hsz ⟨Nat.zero_le _, Nat.zero_le _⟩ (Nat.le_of_ble_eq_true rfl) dX2_copyFrom_16 eu2 (fun H locs S => ?_)
  refine lv_aload_n hx hb dX2_copyFrom_19 rfl (lv_at hl 1 rfl) ?_
  refine q_get (v := .ref (ad 68)) C S (o266 cI ad p2 l2 pa pl) rfl iwX2 2 (by decide) mw_410 rfl dX2_copyFrom_20 ?_
  refine lv_aload_n hx hb dX2_copyFrom_23 rfl (lv_at hl 0 rfl) ?_
  refine q_get (v := .ref (ad 32)) C S (o230 cI ad p2 l2 pa pl) rfl iwX2 2 (by decide) mw_410 rfl dX2_copyFrom_24 ?_
  obtain ⟨u3, eu3⟩ : ∃ z : Sg, z = sq u2 32 (cpy 8 (u2 68) (u2 32)) := ⟨_, rfl⟩
  have h := bnd_of eu3 h
  refine q_copyRow C S (a268 cI ad p2 l2 pa pl) (a232 cI ad p2 l2 pa pl) (by decide) (by decide) (List.mem_of_getElem? (i := 9) rfl) ⟨Nat.le_trans (Nat.le_of_ble_eq_true rfl) hR.1, Nat.le_trans (Nat.le_of_ble_eq_true rfl) hR.2⟩ hsz ⟨Nat.zero_le _, Nat.zero_le _⟩ (Nat.le_of_ble_eq_true rfl) dX2_copyFrom_27 eu3 (fun H locs S => ?_)
  refine lv_aload_n hx hb dX2_copyFrom_30 rfl (lv_at hl 1 rfl) ?_
  refine q_get (v := .ref (ad 69)) C S (o266 cI ad p2 l2 pa pl) rfl iwX2 3 (by decide) mw_407 rfl dX2_copyFrom_31 ?_
  refine lv_aload_n hx hb dX2_copyFrom_34 rfl (lv_at hl 0 rfl) ?_
  refine q_get (v := .ref (ad 33)) C S (o230 cI ad p2 l2 pa pl) rfl iwX2 3 (by decide) mw_407 rfl dX2_copyFrom_35 ?_
  obtain ⟨u4, eu4⟩ : ∃ z : Sg, z = sq u3 33 (cpy 8 (u3 69) (u3 33)) := ⟨_, rfl⟩
  have h := bnd_of eu4 h
  refine q_copyRow C S (a269 cI ad p2 l2 pa pl) (a233 cI ad p2 l2 pa pl) (by decide) (by decide) (List.mem_of_getElem? (i := 9) rfl) ⟨Nat.le_trans (Nat.le_of_ble_eq_true rfl) hR.1, Nat.le_trans (Nat.le_of_ble_eq_true rfl) hR.2⟩ hsz ⟨Nat.zero_le _, Nat.zero_le _⟩ (Nat.le_of_ble_eq_true rfl) dX2_copyFrom_38 eu4 (fun H locs S => ?_)
  exact q_vret C S (Option.some.inj h) dX2_copyFrom_41
set_option maxRecDepth 10000 in
set_option maxHeartbeats 4000000 in
theorem ct_X2_copyFrom (l : Launch) (D : va_G) (cI cB cL : ClassId) (ad : Nat → Nat) (p2 l2 pa pl : Nat) (u : Sg) {σ' : Sg} (h : fX2_copyFrom u = some σ') : metV l D (tyl cI cB cL) yX2_copyFrom cX2_copyFrom 2 2 47 (w2 cI ad p2 l2 pa pl) [.ref (ad 30), .ref (ad 66)] u σ' := by
  intro sz
  refine Met.ofW (cc := cX2_copyFrom) (maxL := 2) (ret := none) (by decide) rfl ?_
  intro p e s m args below meth c s₁ B hml hv
  obtain ⟨rfl, C, S⟩ := q_entry B hml hv
  have hl := lv_entry ([.ref (ad 30), .ref (ad 66)]) (n := 2) (Nat.le_of_ble_eq_true rfl)
  rw [lg_entry_eq]
  generalize (lg_sl ([.ref (ad 30), .ref (ad 66)]) ++ List.replicate (2 - (lg_sl ([.ref (ad 30), .ref (ad 66)])).length) Slot.unset).toArray = ls at hl ⊢
  exact wX2_copyFrom_0 C ⟨Nat.le_refl _, Nat.le_refl _⟩ u (lv_sub hl [0, 1] rfl) S h
noncomputable def fX3_copyFrom_0 (u : Sg) : Option Sg := bnd (sq u 27 (cpy 120 (u 63) (u 27))) (fun u1 => bnd (sq u1 28 (cpy 120 (u1 64) (u1 28))) (fun u2 => bnd (sq u2 29 (cpy 120 (u2 65) (u2 29))) (fun u3 => some u3)))
noncomputable def fX3_copyFrom (u : Sg) : Option Sg := fX3_copyFrom_0 u
set_option maxRecDepth 10000 in
set_option maxHeartbeats 4000000 in
theorem wX3_copyFrom_0 (C : cx D (tyl cI cB cL) A RX3 cX3_copyFrom 2 none p s m args c meth) (hR : 2 ≤ R.frames ∧ 47 ≤ R.locals) {σ' : Sg} (u : Sg) {H : Heap} {locs : List Loc} {ls : Array Slot} (hl : lv_has ls 2 [(0, .ref (ad 26)), (1, .ref (ad 62))]) (S : st D (w2 cI ad p2 l2 pa pl) A s u H locs) (h : fX3_copyFrom_0 u = some σ') : W p l e R s m args below meth c H locs 0 0 (MQ below (qV D (tyl cI cB cL) (w2 cI ad p2 l2 pa pl) A σ') args s 0 0 A) (F0 m 0 ls []) := by
  have hx := C.1
  have hb := C.2.1
  have hsz := hl.1
  unfold fX3_copyFrom_0 at h
  refine lv_aload_n hx hb dX3_copyFrom_0 rfl (lv_at hl 1 rfl) ?_
  refine q_get (v := .ref (ad 63)) C S (o262 cI ad p2 l2 pa pl) rfl iwX3 0 (by decide) mw_323 rfl dX3_copyFrom_1 ?_
  refine lv_aload_n hx hb dX3_copyFrom_4 rfl (lv_at hl 0 rfl) ?_
  refine q_get (v := .ref (ad 27)) C S (o226 cI ad p2 l2 pa pl) rfl iwX3 0 (by decide) mw_323 rfl dX3_copyFrom_5 ?_
  obtain ⟨u1, eu1⟩ : ∃ z : Sg, z = sq u 27 (cpy 120 (u 63) (u 27)) := ⟨_, rfl⟩
  have h := bnd_of eu1 h
  refine q_copyRow C S (a263 cI ad p2 l2 pa pl) (a227 cI ad p2 l2 pa pl) (by decide) (by decide) (List.mem_of_getElem? (i := 8) rfl) ⟨Nat.le_trans (Nat.le_of_ble_eq_true rfl) hR.1, Nat.le_trans (Nat.le_of_ble_eq_true rfl) hR.2⟩ hsz ⟨Nat.zero_le _, Nat.zero_le _⟩ (Nat.le_of_ble_eq_true rfl) dX3_copyFrom_8 eu1 (fun H locs S => ?_)
  refine lv_aload_n hx hb dX3_copyFrom_11 rfl (lv_at hl 1 rfl) ?_
  refine q_get (v := .ref (ad 64)) C S (o262 cI ad p2 l2 pa pl) rfl iwX3 1 (by decide) mw_411 rfl dX3_copyFrom_12 ?_
  refine lv_aload_n hx hb dX3_copyFrom_15 rfl (lv_at hl 0 rfl) ?_
  refine q_get (v := .ref (ad 28)) C S (o226 cI ad p2 l2 pa pl) rfl iwX3 1 (by decide) mw_411 rfl dX3_copyFrom_16 ?_
  obtain ⟨u2, eu2⟩ : ∃ z : Sg, z = sq u1 28 (cpy 120 (u1 64) (u1 28)) := ⟨_, rfl⟩
  have h := bnd_of eu2 h
  refine q_copyRow C S (a264 cI ad p2 l2 pa pl) (a228 cI ad p2 l2 pa pl) (by decide) (by decide) (List.mem_of_getElem? (i := 8) rfl) ⟨Nat.le_trans (Nat.le_of_ble_eq_true rfl) hR.1, Nat.le_trans (Nat.le_of_ble_eq_true rfl) hR.2⟩ hsz ⟨Nat.zero_le _, Nat.zero_le _⟩ (Nat.le_of_ble_eq_true rfl) dX3_copyFrom_19 eu2 (fun H locs S => ?_)
  refine lv_aload_n hx hb dX3_copyFrom_22 rfl (lv_at hl 1 rfl) ?_
  refine q_get (v := .ref (ad 65)) C S (o262 cI ad p2 l2 pa pl) rfl iwX3 2 (by decide) mw_412 rfl dX3_copyFrom_23 ?_
  refine lv_aload_n hx hb dX3_copyFrom_26 rfl (lv_at hl 0 rfl) ?_
  refine q_get (v := .ref (ad 29)) C S (o226 cI ad p2 l2 pa pl) rfl iwX3 2 (by decide) mw_412 rfl dX3_copyFrom_27 ?_
  obtain ⟨u3, eu3⟩ : ∃ z : Sg, z = sq u2 29 (cpy 120 (u2 65) (u2 29)) := ⟨_, rfl⟩
  have h := bnd_of eu3 h
  refine q_copyRow C S (a265 cI ad p2 l2 pa pl) (a229 cI ad p2 l2 pa pl) (by decide) (by decide) (List.mem_of_getElem? (i := 8) rfl) ⟨Nat.le_trans (Nat.le_of_ble_eq_true rfl) hR.1, Nat.le_trans (Nat.le_of_ble_eq_true rfl) hR.2⟩ hsz ⟨Nat.zero_le _, Nat.zero_le _⟩ (Nat.le_of_ble_eq_true rfl) dX3_copyFrom_30 eu3 (fun H locs S => ?_)
  exact q_vret C S (Option.some.inj h) dX3_copyFrom_33
set_option maxRecDepth 10000 in
set_option maxHeartbeats 4000000 in
theorem ct_X3_copyFrom (l : Launch) (D : va_G) (cI cB cL : ClassId) (ad : Nat → Nat) (p2 l2 pa pl : Nat) (u : Sg) {σ' : Sg} (h : fX3_copyFrom u = some σ') : metV l D (tyl cI cB cL) yX3_copyFrom cX3_copyFrom 2 2 47 (w2 cI ad p2 l2 pa pl) [.ref (ad 26), .ref (ad 62)] u σ' := by
  intro sz
  refine Met.ofW (cc := cX3_copyFrom) (maxL := 2) (ret := none) (by decide) rfl ?_
  intro p e s m args below meth c s₁ B hml hv
  obtain ⟨rfl, C, S⟩ := q_entry B hml hv
  have hl := lv_entry ([.ref (ad 26), .ref (ad 62)]) (n := 2) (Nat.le_of_ble_eq_true rfl)
  rw [lg_entry_eq]
  generalize (lg_sl ([.ref (ad 26), .ref (ad 62)]) ++ List.replicate (2 - (lg_sl ([.ref (ad 26), .ref (ad 62)])).length) Slot.unset).toArray = ls at hl ⊢
  exact wX3_copyFrom_0 C ⟨Nat.le_refl _, Nat.le_refl _⟩ u (lv_sub hl [0, 1] rfl) S h
noncomputable def fX4_copyFrom_0 (u : Sg) : Option Sg := bnd (sq u 20 (cpy 120 (u 56) (u 20))) (fun u1 => bnd (sq u1 21 (cpy 120 (u1 57) (u1 21))) (fun u2 => bnd (sq u2 22 (cpy 120 (u2 58) (u2 22))) (fun u3 => bnd (sq u3 23 (cpy 120 (u3 59) (u3 23))) (fun u4 => bnd (sq u4 24 (cpy 120 (u4 60) (u4 24))) (fun u5 => bnd (sq u5 25 (cpy 6 (u5 61) (u5 25))) (fun u6 => some u6))))))
noncomputable def fX4_copyFrom (u : Sg) : Option Sg := fX4_copyFrom_0 u
set_option maxRecDepth 10000 in
set_option maxHeartbeats 4000000 in
theorem wX4_copyFrom_0 (C : cx D (tyl cI cB cL) A RX4 cX4_copyFrom 2 none p s m args c meth) (hR : 2 ≤ R.frames ∧ 47 ≤ R.locals) {σ' : Sg} (u : Sg) {H : Heap} {locs : List Loc} {ls : Array Slot} (hl : lv_has ls 2 [(0, .ref (ad 19)), (1, .ref (ad 55))]) (S : st D (w2 cI ad p2 l2 pa pl) A s u H locs) (h : fX4_copyFrom_0 u = some σ') : W p l e R s m args below meth c H locs 0 0 (MQ below (qV D (tyl cI cB cL) (w2 cI ad p2 l2 pa pl) A σ') args s 0 0 A) (F0 m 0 ls []) := by
  have hx := C.1
  have hb := C.2.1
  have hsz := hl.1
  unfold fX4_copyFrom_0 at h
  refine lv_aload_n hx hb dX4_copyFrom_0 rfl (lv_at hl 1 rfl) ?_
  refine q_get (v := .ref (ad 56)) C S (o255 cI ad p2 l2 pa pl) rfl iwX4 0 (by decide) mw_330 rfl dX4_copyFrom_1 ?_
  refine lv_aload_n hx hb dX4_copyFrom_4 rfl (lv_at hl 0 rfl) ?_
  refine q_get (v := .ref (ad 20)) C S (o219 cI ad p2 l2 pa pl) rfl iwX4 0 (by decide) mw_330 rfl dX4_copyFrom_5 ?_
  obtain ⟨u1, eu1⟩ : ∃ z : Sg, z = sq u 20 (cpy 120 (u 56) (u 20)) := ⟨_, rfl⟩
  have h := bnd_of eu1 h
  refine q_copyRow C S (a256 cI ad p2 l2 pa pl) (a220 cI ad p2 l2 pa pl) (by decide) (by decide) (List.mem_of_getElem? (i := 7) rfl) ⟨Nat.le_trans (Nat.le_of_ble_eq_true rfl) hR.1, Nat.le_trans (Nat.le_of_ble_eq_true rfl) hR.2⟩ hsz ⟨Nat.zero_le _, Nat.zero_le _⟩ (Nat.le_of_ble_eq_true rfl) dX4_copyFrom_8 eu1 (fun H locs S => ?_)
  refine lv_aload_n hx hb dX4_copyFrom_11 rfl (lv_at hl 1 rfl) ?_
  refine q_get (v := .ref (ad 57)) C S (o255 cI ad p2 l2 pa pl) rfl iwX4 1 (by decide) mw_415 rfl dX4_copyFrom_12 ?_
  refine lv_aload_n hx hb dX4_copyFrom_15 rfl (lv_at hl 0 rfl) ?_
  refine q_get (v := .ref (ad 21)) C S (o219 cI ad p2 l2 pa pl) rfl iwX4 1 (by decide) mw_415 rfl dX4_copyFrom_16 ?_
  obtain ⟨u2, eu2⟩ : ∃ z : Sg, z = sq u1 21 (cpy 120 (u1 57) (u1 21)) := ⟨_, rfl⟩
  have h := bnd_of eu2 h
  refine q_copyRow C S (a257 cI ad p2 l2 pa pl) (a221 cI ad p2 l2 pa pl) (by decide) (by decide) (List.mem_of_getElem? (i := 7) rfl) ⟨Nat.le_trans (Nat.le_of_ble_eq_true rfl) hR.1, Nat.le_trans (Nat.le_of_ble_eq_true rfl) hR.2⟩ hsz ⟨Nat.zero_le _, Nat.zero_le _⟩ (Nat.le_of_ble_eq_true rfl) dX4_copyFrom_19 eu2 (fun H locs S => ?_)
  refine lv_aload_n hx hb dX4_copyFrom_22 rfl (lv_at hl 1 rfl) ?_
  refine q_get (v := .ref (ad 58)) C S (o255 cI ad p2 l2 pa pl) rfl iwX4 2 (by decide) mw_416 rfl dX4_copyFrom_23 ?_
  refine lv_aload_n hx hb dX4_copyFrom_26 rfl (lv_at hl 0 rfl) ?_
  refine q_get (v := .ref (ad 22)) C S (o219 cI ad p2 l2 pa pl) rfl iwX4 2 (by decide) mw_416 rfl dX4_copyFrom_27 ?_
  obtain ⟨u3, eu3⟩ : ∃ z : Sg, z = sq u2 22 (cpy 120 (u2 58) (u2 22)) := ⟨_, rfl⟩
  have h := bnd_of eu3 h
  refine q_copyRow C S (a258 cI ad p2 l2 pa pl) (a222 cI ad p2 l2 pa pl) (by decide) (by decide) (List.mem_of_getElem? (i := 7) rfl) ⟨Nat.le_trans (Nat.le_of_ble_eq_true rfl) hR.1, Nat.le_trans (Nat.le_of_ble_eq_true rfl) hR.2⟩ hsz ⟨Nat.zero_le _, Nat.zero_le _⟩ (Nat.le_of_ble_eq_true rfl) dX4_copyFrom_30 eu3 (fun H locs S => ?_)
  refine lv_aload_n hx hb dX4_copyFrom_33 rfl (lv_at hl 1 rfl) ?_
  refine q_get (v := .ref (ad 59)) C S (o255 cI ad p2 l2 pa pl) rfl iwX4 3 (by decide) mw_418 rfl dX4_copyFrom_34 ?_
  refine lv_aload_n hx hb dX4_copyFrom_37 rfl (lv_at hl 0 rfl) ?_
  refine q_get (v := .ref (ad 23)) C S (o219 cI ad p2 l2 pa pl) rfl iwX4 3 (by decide) mw_418 rfl dX4_copyFrom_38 ?_
  obtain ⟨u4, eu4⟩ : ∃ z : Sg, z = sq u3 23 (cpy 120 (u3 59) (u3 23)) := ⟨_, rfl⟩
  have h := bnd_of eu4 h
  refine q_copyRow C S (a259 cI ad p2 l2 pa pl) (a223 cI ad p2 l2 pa pl) (by decide) (by decide) (List.mem_of_getElem? (i := 7) rfl) ⟨Nat.le_trans (Nat.le_of_ble_eq_true rfl) hR.1, Nat.le_trans (Nat.le_of_ble_eq_true rfl) hR.2⟩ hsz ⟨Nat.zero_le _, Nat.zero_le _⟩ (Nat.le_of_ble_eq_true rfl) dX4_copyFrom_41 eu4 (fun H locs S => ?_)
  refine lv_aload_n hx hb dX4_copyFrom_44 rfl (lv_at hl 1 rfl) ?_
  refine q_get (v := .ref (ad 60)) C S (o255 cI ad p2 l2 pa pl) rfl iwX4 4 (by decide) mw_382 rfl dX4_copyFrom_45 ?_
  refine lv_aload_n hx hb dX4_copyFrom_48 rfl (lv_at hl 0 rfl) ?_
  refine q_get (v := .ref (ad 24)) C S (o219 cI ad p2 l2 pa pl) rfl iwX4 4 (by decide) mw_382 rfl dX4_copyFrom_49 ?_
  obtain ⟨u5, eu5⟩ : ∃ z : Sg, z = sq u4 24 (cpy 120 (u4 60) (u4 24)) := ⟨_, rfl⟩
  have h := bnd_of eu5 h
  refine q_copyRow C S (a260 cI ad p2 l2 pa pl) (a224 cI ad p2 l2 pa pl) (by decide) (by decide) (List.mem_of_getElem? (i := 7) rfl) ⟨Nat.le_trans (Nat.le_of_ble_eq_true rfl) hR.1, Nat.le_trans (Nat.le_of_ble_eq_true rfl) hR.2⟩ hsz ⟨Nat.zero_le _, Nat.zero_le _⟩ (Nat.le_of_ble_eq_true rfl) dX4_copyFrom_52 eu5 (fun H locs S => ?_)
  refine lv_aload_n hx hb dX4_copyFrom_55 rfl (lv_at hl 1 rfl) ?_
  refine q_get (v := .ref (ad 61)) C S (o255 cI ad p2 l2 pa pl) rfl iwX4 5 (by decide) mw_381 rfl dX4_copyFrom_56 ?_
  refine lv_aload_n hx hb dX4_copyFrom_59 rfl (lv_at hl 0 rfl) ?_
  refine q_get (v := .ref (ad 25)) C S (o219 cI ad p2 l2 pa pl) rfl iwX4 5 (by decide) mw_381 rfl dX4_copyFrom_60 ?_
  obtain ⟨u6, eu6⟩ : ∃ z : Sg, z = sq u5 25 (cpy 6 (u5 61) (u5 25)) := ⟨_, rfl⟩
  have h := bnd_of eu6 h
  refine q_copyRow C S (a261 cI ad p2 l2 pa pl) (a225 cI ad p2 l2 pa pl) (by decide) (by decide) (List.mem_of_getElem? (i := 7) rfl) ⟨Nat.le_trans (Nat.le_of_ble_eq_true rfl) hR.1, Nat.le_trans (Nat.le_of_ble_eq_true rfl) hR.2⟩ hsz ⟨Nat.zero_le _, Nat.zero_le _⟩ (Nat.le_of_ble_eq_true rfl) dX4_copyFrom_63 eu6 (fun H locs S => ?_)
  exact q_vret C S (Option.some.inj h) dX4_copyFrom_66
set_option maxRecDepth 10000 in
set_option maxHeartbeats 4000000 in
theorem ct_X4_copyFrom (l : Launch) (D : va_G) (cI cB cL : ClassId) (ad : Nat → Nat) (p2 l2 pa pl : Nat) (u : Sg) {σ' : Sg} (h : fX4_copyFrom u = some σ') : metV l D (tyl cI cB cL) yX4_copyFrom cX4_copyFrom 2 2 47 (w2 cI ad p2 l2 pa pl) [.ref (ad 19), .ref (ad 55)] u σ' := by
  intro sz
  refine Met.ofW (cc := cX4_copyFrom) (maxL := 2) (ret := none) (by decide) rfl ?_
  intro p e s m args below meth c s₁ B hml hv
  obtain ⟨rfl, C, S⟩ := q_entry B hml hv
  have hl := lv_entry ([.ref (ad 19), .ref (ad 55)]) (n := 2) (Nat.le_of_ble_eq_true rfl)
  rw [lg_entry_eq]
  generalize (lg_sl ([.ref (ad 19), .ref (ad 55)]) ++ List.replicate (2 - (lg_sl ([.ref (ad 19), .ref (ad 55)])).length) Slot.unset).toArray = ls at hl ⊢
  exact wX4_copyFrom_0 C ⟨Nat.le_refl _, Nat.le_refl _⟩ u (lv_sub hl [0, 1] rfl) S h
noncomputable def fX5_copyFrom_0 (u : Sg) : Option Sg := bnd (s2 u 34 0 (u 70 0)) (fun u1 => bnd (s2 u1 34 1 (u1 70 1)) (fun u2 => bnd (sq u2 35 (cpy 240 (u2 71) (u2 35))) (fun u3 => some u3)))
noncomputable def fX5_copyFrom (u : Sg) : Option Sg := fX5_copyFrom_0 u
set_option maxRecDepth 10000 in
set_option maxHeartbeats 4000000 in
theorem wX5_copyFrom_0 (C : cx D (tyl cI cB cL) A RX5 cX5_copyFrom 2 none p s m args c meth) (hR : 2 ≤ R.frames ∧ 47 ≤ R.locals) {σ' : Sg} (u : Sg) {H : Heap} {locs : List Loc} {ls : Array Slot} (hl : lv_has ls 2 [(0, .ref (ad 34)), (1, .ref (ad 70))]) (S : st D (w2 cI ad p2 l2 pa pl) A s u H locs) (h : fX5_copyFrom_0 u = some σ') : W p l e R s m args below meth c H locs 0 0 (MQ below (qV D (tyl cI cB cL) (w2 cI ad p2 l2 pa pl) A σ') args s 0 0 A) (F0 m 0 ls []) := by
  have hx := C.1
  have hb := C.2.1
  have hsz := hl.1
  unfold fX5_copyFrom_0 at h
  refine lv_aload_n hx hb dX5_copyFrom_0 rfl (lv_at hl 0 rfl) ?_
  refine lv_aload_n hx hb dX5_copyFrom_1 rfl (lv_at hl 1 rfl) ?_
  refine q_get (v := .int (u 70 0)) C S (o270 cI ad p2 l2 pa pl) rfl iwX5 0 (by decide) mw_421 rfl dX5_copyFrom_2 ?_
  obtain ⟨u1, eu1⟩ : ∃ z : Sg, z = s2 u 34 0 (u 70 0) := ⟨_, rfl⟩
  have h := bnd_of eu1 h
  refine q_put C S (o234 cI ad p2 l2 pa pl) rfl iwX5 tyX5 tyX5_ok nmX5 0 (by decide) mw_421 rfl (i234_0 cI ad p2 l2 pa pl) rfl rfl dX5_copyFrom_5 eu1 (fun H locs S => ?_)
  refine lv_aload_n hx hb dX5_copyFrom_8 rfl (lv_at hl 0 rfl) ?_
  refine lv_aload_n hx hb dX5_copyFrom_9 rfl (lv_at hl 1 rfl) ?_
  refine q_get (v := .int (u1 70 1)) C S (o270 cI ad p2 l2 pa pl) rfl iwX5 1 (by decide) mw_419 rfl dX5_copyFrom_10 ?_
  obtain ⟨u2, eu2⟩ : ∃ z : Sg, z = s2 u1 34 1 (u1 70 1) := ⟨_, rfl⟩
  have h := bnd_of eu2 h
  refine q_put C S (o234 cI ad p2 l2 pa pl) rfl iwX5 tyX5 tyX5_ok nmX5 1 (by decide) mw_419 rfl (i234_1 cI ad p2 l2 pa pl) rfl rfl dX5_copyFrom_13 eu2 (fun H locs S => ?_)
  refine lv_aload_n hx hb dX5_copyFrom_16 rfl (lv_at hl 1 rfl) ?_
  refine q_get (v := .ref (ad 71)) C S (o270 cI ad p2 l2 pa pl) rfl iwX5 2 (by decide) mw_420 rfl dX5_copyFrom_17 ?_
  refine lv_aload_n hx hb dX5_copyFrom_20 rfl (lv_at hl 0 rfl) ?_
  refine q_get (v := .ref (ad 35)) C S (o234 cI ad p2 l2 pa pl) rfl iwX5 2 (by decide) mw_420 rfl dX5_copyFrom_21 ?_
  obtain ⟨u3, eu3⟩ : ∃ z : Sg, z = sq u2 35 (cpy 240 (u2 71) (u2 35)) := ⟨_, rfl⟩
  have h := bnd_of eu3 h
  refine q_copyRow C S (a271 cI ad p2 l2 pa pl) (a235 cI ad p2 l2 pa pl) (by decide) (by decide) (List.mem_of_getElem? (i := 10) rfl) ⟨Nat.le_trans (Nat.le_of_ble_eq_true rfl) hR.1, Nat.le_trans (Nat.le_of_ble_eq_true rfl) hR.2⟩ hsz ⟨Nat.zero_le _, Nat.zero_le _⟩ (Nat.le_of_ble_eq_true rfl) dX5_copyFrom_24 eu3 (fun H locs S => ?_)
  exact q_vret C S (Option.some.inj h) dX5_copyFrom_27
set_option maxRecDepth 10000 in
set_option maxHeartbeats 4000000 in
theorem ct_X5_copyFrom (l : Launch) (D : va_G) (cI cB cL : ClassId) (ad : Nat → Nat) (p2 l2 pa pl : Nat) (u : Sg) {σ' : Sg} (h : fX5_copyFrom u = some σ') : metV l D (tyl cI cB cL) yX5_copyFrom cX5_copyFrom 2 2 47 (w2 cI ad p2 l2 pa pl) [.ref (ad 34), .ref (ad 70)] u σ' := by
  intro sz
  refine Met.ofW (cc := cX5_copyFrom) (maxL := 2) (ret := none) (by decide) rfl ?_
  intro p e s m args below meth c s₁ B hml hv
  obtain ⟨rfl, C, S⟩ := q_entry B hml hv
  have hl := lv_entry ([.ref (ad 34), .ref (ad 70)]) (n := 2) (Nat.le_of_ble_eq_true rfl)
  rw [lg_entry_eq]
  generalize (lg_sl ([.ref (ad 34), .ref (ad 70)]) ++ List.replicate (2 - (lg_sl ([.ref (ad 34), .ref (ad 70)])).length) Slot.unset).toArray = ls at hl ⊢
  exact wX5_copyFrom_0 C ⟨Nat.le_refl _, Nat.le_refl _⟩ u (lv_sub hl [0, 1] rfl) S h
noncomputable def fX6_copyFrom_0 (u : Sg) : Option Sg := bnd (s2 u 13 0 (u 49 0)) (fun u1 => bnd (sq u1 14 (cpy 20 (u1 50) (u1 14))) (fun u2 => bnd (sq u2 15 (cpy 20 (u2 51) (u2 15))) (fun u3 => bnd (sq u3 16 (cpy 20 (u3 52) (u3 16))) (fun u4 => bnd (sq u4 17 (cpy 20 (u4 53) (u4 17))) (fun u5 => bnd (sq u5 18 (cpy 20 (u5 54) (u5 18))) (fun u6 => some u6))))))
noncomputable def fX6_copyFrom (u : Sg) : Option Sg := fX6_copyFrom_0 u
set_option maxRecDepth 10000 in
set_option maxHeartbeats 4000000 in
theorem wX6_copyFrom_0 (C : cx D (tyl cI cB cL) A RX6 cX6_copyFrom 2 none p s m args c meth) (hR : 2 ≤ R.frames ∧ 47 ≤ R.locals) {σ' : Sg} (u : Sg) {H : Heap} {locs : List Loc} {ls : Array Slot} (hl : lv_has ls 2 [(0, .ref (ad 13)), (1, .ref (ad 49))]) (S : st D (w2 cI ad p2 l2 pa pl) A s u H locs) (h : fX6_copyFrom_0 u = some σ') : W p l e R s m args below meth c H locs 0 0 (MQ below (qV D (tyl cI cB cL) (w2 cI ad p2 l2 pa pl) A σ') args s 0 0 A) (F0 m 0 ls []) := by
  have hx := C.1
  have hb := C.2.1
  have hsz := hl.1
  unfold fX6_copyFrom_0 at h
  refine lv_aload_n hx hb dX6_copyFrom_0 rfl (lv_at hl 0 rfl) ?_
  refine lv_aload_n hx hb dX6_copyFrom_1 rfl (lv_at hl 1 rfl) ?_
  refine q_get (v := .int (u 49 0)) C S (o249 cI ad p2 l2 pa pl) rfl iwX6 0 (by decide) mw_423 rfl dX6_copyFrom_2 ?_
  obtain ⟨u1, eu1⟩ : ∃ z : Sg, z = s2 u 13 0 (u 49 0) := ⟨_, rfl⟩
  have h := bnd_of eu1 h
  refine q_put C S (o213 cI ad p2 l2 pa pl) rfl iwX6 tyX6 tyX6_ok nmX6 0 (by decide) mw_423 rfl (i213_0 cI ad p2 l2 pa pl) rfl rfl dX6_copyFrom_5 eu1 (fun H locs S => ?_)
  refine lv_aload_n hx hb dX6_copyFrom_8 rfl (lv_at hl 1 rfl) ?_
  refine q_get (v := .ref (ad 50)) C S (o249 cI ad p2 l2 pa pl) rfl iwX6 1 (by decide) mw_424 rfl dX6_copyFrom_9 ?_
  refine lv_aload_n hx hb dX6_copyFrom_12 rfl (lv_at hl 0 rfl) ?_
  refine q_get (v := .ref (ad 14)) C S (o213 cI ad p2 l2 pa pl) rfl iwX6 1 (by decide) mw_424 rfl dX6_copyFrom_13 ?_
  obtain ⟨u2, eu2⟩ : ∃ z : Sg, z = sq u1 14 (cpy 20 (u1 50) (u1 14)) := ⟨_, rfl⟩
  have h := bnd_of eu2 h
  refine q_copyRow C S (a250 cI ad p2 l2 pa pl) (a214 cI ad p2 l2 pa pl) (by decide) (by decide) (List.mem_of_getElem? (i := 6) rfl) ⟨Nat.le_trans (Nat.le_of_ble_eq_true rfl) hR.1, Nat.le_trans (Nat.le_of_ble_eq_true rfl) hR.2⟩ hsz ⟨Nat.zero_le _, Nat.zero_le _⟩ (Nat.le_of_ble_eq_true rfl) dX6_copyFrom_16 eu2 (fun H locs S => ?_)
  refine lv_aload_n hx hb dX6_copyFrom_19 rfl (lv_at hl 1 rfl) ?_
  refine q_get (v := .ref (ad 51)) C S (o249 cI ad p2 l2 pa pl) rfl iwX6 2 (by decide) mw_425 rfl dX6_copyFrom_20 ?_
  refine lv_aload_n hx hb dX6_copyFrom_23 rfl (lv_at hl 0 rfl) ?_
  refine q_get (v := .ref (ad 15)) C S (o213 cI ad p2 l2 pa pl) rfl iwX6 2 (by decide) mw_425 rfl dX6_copyFrom_24 ?_
  obtain ⟨u3, eu3⟩ : ∃ z : Sg, z = sq u2 15 (cpy 20 (u2 51) (u2 15)) := ⟨_, rfl⟩
  have h := bnd_of eu3 h
  refine q_copyRow C S (a251 cI ad p2 l2 pa pl) (a215 cI ad p2 l2 pa pl) (by decide) (by decide) (List.mem_of_getElem? (i := 6) rfl) ⟨Nat.le_trans (Nat.le_of_ble_eq_true rfl) hR.1, Nat.le_trans (Nat.le_of_ble_eq_true rfl) hR.2⟩ hsz ⟨Nat.zero_le _, Nat.zero_le _⟩ (Nat.le_of_ble_eq_true rfl) dX6_copyFrom_27 eu3 (fun H locs S => ?_)
  refine lv_aload_n hx hb dX6_copyFrom_30 rfl (lv_at hl 1 rfl) ?_
  refine q_get (v := .ref (ad 52)) C S (o249 cI ad p2 l2 pa pl) rfl iwX6 3 (by decide) mw_426 rfl dX6_copyFrom_31 ?_
  refine lv_aload_n hx hb dX6_copyFrom_34 rfl (lv_at hl 0 rfl) ?_
  refine q_get (v := .ref (ad 16)) C S (o213 cI ad p2 l2 pa pl) rfl iwX6 3 (by decide) mw_426 rfl dX6_copyFrom_35 ?_
  obtain ⟨u4, eu4⟩ : ∃ z : Sg, z = sq u3 16 (cpy 20 (u3 52) (u3 16)) := ⟨_, rfl⟩
  have h := bnd_of eu4 h
  refine q_copyRow C S (a252 cI ad p2 l2 pa pl) (a216 cI ad p2 l2 pa pl) (by decide) (by decide) (List.mem_of_getElem? (i := 6) rfl) ⟨Nat.le_trans (Nat.le_of_ble_eq_true rfl) hR.1, Nat.le_trans (Nat.le_of_ble_eq_true rfl) hR.2⟩ hsz ⟨Nat.zero_le _, Nat.zero_le _⟩ (Nat.le_of_ble_eq_true rfl) dX6_copyFrom_38 eu4 (fun H locs S => ?_)
  refine lv_aload_n hx hb dX6_copyFrom_41 rfl (lv_at hl 1 rfl) ?_
  refine q_get (v := .ref (ad 53)) C S (o249 cI ad p2 l2 pa pl) rfl iwX6 4 (by decide) mw_427 rfl dX6_copyFrom_42 ?_
  refine lv_aload_n hx hb dX6_copyFrom_45 rfl (lv_at hl 0 rfl) ?_
  refine q_get (v := .ref (ad 17)) C S (o213 cI ad p2 l2 pa pl) rfl iwX6 4 (by decide) mw_427 rfl dX6_copyFrom_46 ?_
  obtain ⟨u5, eu5⟩ : ∃ z : Sg, z = sq u4 17 (cpy 20 (u4 53) (u4 17)) := ⟨_, rfl⟩
  have h := bnd_of eu5 h
  refine q_copyRow C S (a253 cI ad p2 l2 pa pl) (a217 cI ad p2 l2 pa pl) (by decide) (by decide) (List.mem_of_getElem? (i := 6) rfl) ⟨Nat.le_trans (Nat.le_of_ble_eq_true rfl) hR.1, Nat.le_trans (Nat.le_of_ble_eq_true rfl) hR.2⟩ hsz ⟨Nat.zero_le _, Nat.zero_le _⟩ (Nat.le_of_ble_eq_true rfl) dX6_copyFrom_49 eu5 (fun H locs S => ?_)
  refine lv_aload_n hx hb dX6_copyFrom_52 rfl (lv_at hl 1 rfl) ?_
  refine q_get (v := .ref (ad 54)) C S (o249 cI ad p2 l2 pa pl) rfl iwX6 5 (by decide) mw_428 rfl dX6_copyFrom_53 ?_
  refine lv_aload_n hx hb dX6_copyFrom_56 rfl (lv_at hl 0 rfl) ?_
  refine q_get (v := .ref (ad 18)) C S (o213 cI ad p2 l2 pa pl) rfl iwX6 5 (by decide) mw_428 rfl dX6_copyFrom_57 ?_
  obtain ⟨u6, eu6⟩ : ∃ z : Sg, z = sq u5 18 (cpy 20 (u5 54) (u5 18)) := ⟨_, rfl⟩
  have h := bnd_of eu6 h
  refine q_copyRow C S (a254 cI ad p2 l2 pa pl) (a218 cI ad p2 l2 pa pl) (by decide) (by decide) (List.mem_of_getElem? (i := 6) rfl) ⟨Nat.le_trans (Nat.le_of_ble_eq_true rfl) hR.1, Nat.le_trans (Nat.le_of_ble_eq_true rfl) hR.2⟩ hsz ⟨Nat.zero_le _, Nat.zero_le _⟩ (Nat.le_of_ble_eq_true rfl) dX6_copyFrom_60 eu6 (fun H locs S => ?_)
  exact q_vret C S (Option.some.inj h) dX6_copyFrom_63
set_option maxRecDepth 10000 in
set_option maxHeartbeats 4000000 in
theorem ct_X6_copyFrom (l : Launch) (D : va_G) (cI cB cL : ClassId) (ad : Nat → Nat) (p2 l2 pa pl : Nat) (u : Sg) {σ' : Sg} (h : fX6_copyFrom u = some σ') : metV l D (tyl cI cB cL) yX6_copyFrom cX6_copyFrom 2 2 47 (w2 cI ad p2 l2 pa pl) [.ref (ad 13), .ref (ad 49)] u σ' := by
  intro sz
  refine Met.ofW (cc := cX6_copyFrom) (maxL := 2) (ret := none) (by decide) rfl ?_
  intro p e s m args below meth c s₁ B hml hv
  obtain ⟨rfl, C, S⟩ := q_entry B hml hv
  have hl := lv_entry ([.ref (ad 13), .ref (ad 49)]) (n := 2) (Nat.le_of_ble_eq_true rfl)
  rw [lg_entry_eq]
  generalize (lg_sl ([.ref (ad 13), .ref (ad 49)]) ++ List.replicate (2 - (lg_sl ([.ref (ad 13), .ref (ad 49)])).length) Slot.unset).toArray = ls at hl ⊢
  exact wX6_copyFrom_0 C ⟨Nat.le_refl _, Nat.le_refl _⟩ u (lv_sub hl [0, 1] rfl) S h
noncomputable def fX7_copyFrom_0 (l2 : Nat) (u : Sg) (pl : Nat) : Option (Sg × Nat) := bnd (s2 u 0 0 (u 36 0)) (fun u1 => bnd (s2 u1 0 1 (u1 36 1)) (fun u2 => bnd (s2 u2 0 2 (u2 36 2)) (fun u3 => bnd (s2 u3 0 3 (u3 36 3)) (fun u4 => bnd (s2 u4 0 4 (u4 36 4)) (fun u5 => bnd (s2 u5 0 5 (u5 36 5)) (fun u6 => bnd (s2 u6 0 6 (u6 36 6)) (fun u7 => bnd (s2 u7 0 7 (u7 36 7)) (fun u8 => grd (isB (u8 36 8)) (bnd (s2 u8 0 8 (u8 36 8)) (fun u9 => bnd (sq u9 1 (cpy 6 (u9 37) (u9 1))) (fun u11 => bnd (sq u11 2 (cpy 6 (u11 38) (u11 2))) (fun u12 => bnd (sq u12 3 (cpy 6 (u12 39) (u12 3))) (fun u13 => bnd (sq u13 4 (cpy 6 (u13 40) (u13 4))) (fun u14 => obd (fX1_copyFrom l2 u14 pl) (fun u16 d17 => addB d17 (obr (fX6_copyFrom u16) (fun u21 => obr (fX4_copyFrom u21) (fun u23 => obr (fX3_copyFrom u23) (fun u25 => obr (fX2_copyFrom u25) (fun u27 => obr (fX5_copyFrom u27) (fun u29 => some (u29, 0))))))))))))))))))))))
noncomputable def fX7_copyFrom (l2 : Nat) (u : Sg) (pl : Nat) : Option (Sg × Nat) := fX7_copyFrom_0 l2 u pl
set_option maxRecDepth 10000 in
set_option maxHeartbeats 4000000 in
theorem wX7_copyFrom_0 (C : cx D (tyl cI cB cL) A RX7 cX7_copyFrom 2 none p s m args c meth) (hR : 3 ≤ R.frames ∧ 68 ≤ R.locals) {σ' : Sg} {dt pf : Nat} (hC : R.cells = dt ∧ R.slots = 2 * dt) (u : Sg) {pl pa a dz : Nat} {H : Heap} {locs : List Loc} {ls : Array Slot} (hl : lv_has ls 2 [(0, .ref (ad 0)), (1, .ref (ad 36))]) (S : st D (w2 cI ad p2 l2 pa pl) A s u H locs) (ha : dt = a + dz) (hpf : pf = pl + dz) (h : fX7_copyFrom_0 l2 u pl = some (σ', dz)) : W p l e R s m args below meth c H locs a (2 * a) (MQ below (qVA D cI cB cL (w2 cI ad p2 l2) pf A σ') args s dt (2 * dt) A) (F0 m 0 ls []) := by
  have hx := C.1
  have hb := C.2.1
  have hsz := hl.1
  unfold fX7_copyFrom_0 at h
  refine lv_aload_n hx hb dX7_copyFrom_0 rfl (lv_at hl 0 rfl) ?_
  refine lv_aload_n hx hb dX7_copyFrom_1 rfl (lv_at hl 1 rfl) ?_
  refine q_get (v := .int (u 36 0)) C S (o236 cI ad p2 l2 pa pl) rfl iwX7 0 (by decide) mw_347 rfl dX7_copyFrom_2 ?_
  obtain ⟨u1, eu1⟩ : ∃ z : Sg, z = s2 u 0 0 (u 36 0) := ⟨_, rfl⟩
  have h := bnd_of eu1 h
  refine q_put C S (o20 cI ad p2 l2 pa pl) rfl iwX7 tyX7 tyX7_ok nmX7 0 (by decide) mw_347 rfl (i20_0 cI ad p2 l2 pa pl) rfl rfl dX7_copyFrom_5 eu1 (fun H locs S => ?_)
  refine lv_aload_n hx hb dX7_copyFrom_8 rfl (lv_at hl 0 rfl) ?_
  refine lv_aload_n hx hb dX7_copyFrom_9 rfl (lv_at hl 1 rfl) ?_
  refine q_get (v := .int (u1 36 1)) C S (o236 cI ad p2 l2 pa pl) rfl iwX7 1 (by decide) mw_607 rfl dX7_copyFrom_10 ?_
  obtain ⟨u2, eu2⟩ : ∃ z : Sg, z = s2 u1 0 1 (u1 36 1) := ⟨_, rfl⟩
  have h := bnd_of eu2 h
  refine q_put C S (o20 cI ad p2 l2 pa pl) rfl iwX7 tyX7 tyX7_ok nmX7 1 (by decide) mw_607 rfl (i20_1 cI ad p2 l2 pa pl) rfl rfl dX7_copyFrom_13 eu2 (fun H locs S => ?_)
  refine lv_aload_n hx hb dX7_copyFrom_16 rfl (lv_at hl 0 rfl) ?_
  refine lv_aload_n hx hb dX7_copyFrom_17 rfl (lv_at hl 1 rfl) ?_
  refine q_get (v := .int (u2 36 2)) C S (o236 cI ad p2 l2 pa pl) rfl iwX7 2 (by decide) mw_608 rfl dX7_copyFrom_18 ?_
  obtain ⟨u3, eu3⟩ : ∃ z : Sg, z = s2 u2 0 2 (u2 36 2) := ⟨_, rfl⟩
  have h := bnd_of eu3 h
  refine q_put C S (o20 cI ad p2 l2 pa pl) rfl iwX7 tyX7 tyX7_ok nmX7 2 (by decide) mw_608 rfl (i20_2 cI ad p2 l2 pa pl) rfl rfl dX7_copyFrom_21 eu3 (fun H locs S => ?_)
  refine lv_aload_n hx hb dX7_copyFrom_24 rfl (lv_at hl 0 rfl) ?_
  refine lv_aload_n hx hb dX7_copyFrom_25 rfl (lv_at hl 1 rfl) ?_
  refine q_get (v := .int (u3 36 3)) C S (o236 cI ad p2 l2 pa pl) rfl iwX7 3 (by decide) mw_345 rfl dX7_copyFrom_26 ?_
  obtain ⟨u4, eu4⟩ : ∃ z : Sg, z = s2 u3 0 3 (u3 36 3) := ⟨_, rfl⟩
  have h := bnd_of eu4 h
  refine q_put C S (o20 cI ad p2 l2 pa pl) rfl iwX7 tyX7 tyX7_ok nmX7 3 (by decide) mw_345 rfl (i20_3 cI ad p2 l2 pa pl) rfl rfl dX7_copyFrom_29 eu4 (fun H locs S => ?_)
  refine lv_aload_n hx hb dX7_copyFrom_32 rfl (lv_at hl 0 rfl) ?_
  refine lv_aload_n hx hb dX7_copyFrom_33 rfl (lv_at hl 1 rfl) ?_
  refine q_get (v := .int (u4 36 4)) C S (o236 cI ad p2 l2 pa pl) rfl iwX7 4 (by decide) mw_477 rfl dX7_copyFrom_34 ?_
  obtain ⟨u5, eu5⟩ : ∃ z : Sg, z = s2 u4 0 4 (u4 36 4) := ⟨_, rfl⟩
  have h := bnd_of eu5 h
  refine q_put C S (o20 cI ad p2 l2 pa pl) rfl iwX7 tyX7 tyX7_ok nmX7 4 (by decide) mw_477 rfl (i20_4 cI ad p2 l2 pa pl) rfl rfl dX7_copyFrom_37 eu5 (fun H locs S => ?_)
  refine lv_aload_n hx hb dX7_copyFrom_40 rfl (lv_at hl 0 rfl) ?_
  refine lv_aload_n hx hb dX7_copyFrom_41 rfl (lv_at hl 1 rfl) ?_
  refine q_get (v := .int (u5 36 5)) C S (o236 cI ad p2 l2 pa pl) rfl iwX7 5 (by decide) mw_346 rfl dX7_copyFrom_42 ?_
  obtain ⟨u6, eu6⟩ : ∃ z : Sg, z = s2 u5 0 5 (u5 36 5) := ⟨_, rfl⟩
  have h := bnd_of eu6 h
  refine q_put C S (o20 cI ad p2 l2 pa pl) rfl iwX7 tyX7 tyX7_ok nmX7 5 (by decide) mw_346 rfl (i20_5 cI ad p2 l2 pa pl) rfl rfl dX7_copyFrom_45 eu6 (fun H locs S => ?_)
  refine lv_aload_n hx hb dX7_copyFrom_48 rfl (lv_at hl 0 rfl) ?_
  refine lv_aload_n hx hb dX7_copyFrom_49 rfl (lv_at hl 1 rfl) ?_
  refine q_get (v := .int (u6 36 6)) C S (o236 cI ad p2 l2 pa pl) rfl iwX7 6 (by decide) mw_467 rfl dX7_copyFrom_50 ?_
  obtain ⟨u7, eu7⟩ : ∃ z : Sg, z = s2 u6 0 6 (u6 36 6) := ⟨_, rfl⟩
  have h := bnd_of eu7 h
  refine q_put C S (o20 cI ad p2 l2 pa pl) rfl iwX7 tyX7 tyX7_ok nmX7 6 (by decide) mw_467 rfl (i20_6 cI ad p2 l2 pa pl) rfl rfl dX7_copyFrom_53 eu7 (fun H locs S => ?_)
  refine lv_aload_n hx hb dX7_copyFrom_56 rfl (lv_at hl 0 rfl) ?_
  refine lv_aload_n hx hb dX7_copyFrom_57 rfl (lv_at hl 1 rfl) ?_
  refine q_get (v := .int (u7 36 7)) C S (o236 cI ad p2 l2 pa pl) rfl iwX7 7 (by decide) mw_540 rfl dX7_copyFrom_58 ?_
  obtain ⟨u8, eu8⟩ : ∃ z : Sg, z = s2 u7 0 7 (u7 36 7) := ⟨_, rfl⟩
  have h := bnd_of eu8 h
  refine q_put C S (o20 cI ad p2 l2 pa pl) rfl iwX7 tyX7 tyX7_ok nmX7 7 (by decide) mw_540 rfl (i20_7 cI ad p2 l2 pa pl) rfl rfl dX7_copyFrom_61 eu8 (fun H locs S => ?_)
  refine lv_aload_n hx hb dX7_copyFrom_64 rfl (lv_at hl 0 rfl) ?_
  refine lv_aload_n hx hb dX7_copyFrom_65 rfl (lv_at hl 1 rfl) ?_
  refine q_get (v := .int (u8 36 8)) C S (o236 cI ad p2 l2 pa pl) rfl iwX7 8 (by decide) mw_519 rfl dX7_copyFrom_66 ?_
  obtain ⟨g10, h⟩ := grd_some h
  obtain ⟨u9, eu9⟩ : ∃ z : Sg, z = s2 u8 0 8 (u8 36 8) := ⟨_, rfl⟩
  have h := bnd_of eu9 h
  refine q_put C S (o20 cI ad p2 l2 pa pl) rfl iwX7 tyX7 tyX7_ok nmX7 8 (by decide) mw_519 rfl (i20_8 cI ad p2 l2 pa pl) (isB_n g10) (isB_f g10) dX7_copyFrom_69 eu9 (fun H locs S => ?_)
  refine lv_aload_n hx hb dX7_copyFrom_72 rfl (lv_at hl 1 rfl) ?_
  refine q_get (v := .ref (ad 37)) C S (o236 cI ad p2 l2 pa pl) rfl iwX7 9 (by decide) mw_569 rfl dX7_copyFrom_73 ?_
  refine lv_aload_n hx hb dX7_copyFrom_76 rfl (lv_at hl 0 rfl) ?_
  refine q_get (v := .ref (ad 1)) C S (o20 cI ad p2 l2 pa pl) rfl iwX7 9 (by decide) mw_569 rfl dX7_copyFrom_77 ?_
  obtain ⟨u11, eu11⟩ : ∃ z : Sg, z = sq u9 1 (cpy 6 (u9 37) (u9 1)) := ⟨_, rfl⟩
  have h := bnd_of eu11 h
  refine q_copyRow C S (a237 cI ad p2 l2 pa pl) (a21 cI ad p2 l2 pa pl) (by decide) (by decide) (List.mem_of_getElem? (i := 4) rfl) ⟨Nat.le_trans (Nat.le_of_ble_eq_true rfl) hR.1, Nat.le_trans (Nat.le_of_ble_eq_true rfl) hR.2⟩ hsz (capA hC ha) (Nat.le_of_ble_eq_true rfl) dX7_copyFrom_80 eu11 (fun H locs S => ?_)
  refine lv_aload_n hx hb dX7_copyFrom_83 rfl (lv_at hl 1 rfl) ?_
  refine q_get (v := .ref (ad 38)) C S (o236 cI ad p2 l2 pa pl) rfl iwX7 10 (by decide) mw_339 rfl dX7_copyFrom_84 ?_
  refine lv_aload_n hx hb dX7_copyFrom_87 rfl (lv_at hl 0 rfl) ?_
  refine q_get (v := .ref (ad 2)) C S (o20 cI ad p2 l2 pa pl) rfl iwX7 10 (by decide) mw_339 rfl dX7_copyFrom_88 ?_
  obtain ⟨u12, eu12⟩ : ∃ z : Sg, z = sq u11 2 (cpy 6 (u11 38) (u11 2)) := ⟨_, rfl⟩
  have h := bnd_of eu12 h
  refine q_copyRow C S (a238 cI ad p2 l2 pa pl) (a22 cI ad p2 l2 pa pl) (by decide) (by decide) (List.mem_of_getElem? (i := 4) rfl) ⟨Nat.le_trans (Nat.le_of_ble_eq_true rfl) hR.1, Nat.le_trans (Nat.le_of_ble_eq_true rfl) hR.2⟩ hsz (capA hC ha) (Nat.le_of_ble_eq_true rfl) dX7_copyFrom_91 eu12 (fun H locs S => ?_)
  refine lv_aload_n hx hb dX7_copyFrom_94 rfl (lv_at hl 1 rfl) ?_
  refine q_get (v := .ref (ad 39)) C S (o236 cI ad p2 l2 pa pl) rfl iwX7 11 (by decide) mw_444 rfl dX7_copyFrom_95 ?_
  refine lv_aload_n hx hb dX7_copyFrom_98 rfl (lv_at hl 0 rfl) ?_
  refine q_get (v := .ref (ad 3)) C S (o20 cI ad p2 l2 pa pl) rfl iwX7 11 (by decide) mw_444 rfl dX7_copyFrom_99 ?_
  obtain ⟨u13, eu13⟩ : ∃ z : Sg, z = sq u12 3 (cpy 6 (u12 39) (u12 3)) := ⟨_, rfl⟩
  have h := bnd_of eu13 h
  refine q_copyRow C S (a239 cI ad p2 l2 pa pl) (a23 cI ad p2 l2 pa pl) (by decide) (by decide) (List.mem_of_getElem? (i := 4) rfl) ⟨Nat.le_trans (Nat.le_of_ble_eq_true rfl) hR.1, Nat.le_trans (Nat.le_of_ble_eq_true rfl) hR.2⟩ hsz (capA hC ha) (Nat.le_of_ble_eq_true rfl) dX7_copyFrom_102 eu13 (fun H locs S => ?_)
  refine lv_aload_n hx hb dX7_copyFrom_105 rfl (lv_at hl 1 rfl) ?_
  refine q_get (v := .ref (ad 40)) C S (o236 cI ad p2 l2 pa pl) rfl iwX7 12 (by decide) mw_484 rfl dX7_copyFrom_106 ?_
  refine lv_aload_n hx hb dX7_copyFrom_109 rfl (lv_at hl 0 rfl) ?_
  refine q_get (v := .ref (ad 4)) C S (o20 cI ad p2 l2 pa pl) rfl iwX7 12 (by decide) mw_484 rfl dX7_copyFrom_110 ?_
  obtain ⟨u14, eu14⟩ : ∃ z : Sg, z = sq u13 4 (cpy 6 (u13 40) (u13 4)) := ⟨_, rfl⟩
  have h := bnd_of eu14 h
  refine q_copyRow C S (a240 cI ad p2 l2 pa pl) (a24 cI ad p2 l2 pa pl) (by decide) (by decide) (List.mem_of_getElem? (i := 4) rfl) ⟨Nat.le_trans (Nat.le_of_ble_eq_true rfl) hR.1, Nat.le_trans (Nat.le_of_ble_eq_true rfl) hR.2⟩ hsz (capA hC ha) (Nat.le_of_ble_eq_true rfl) dX7_copyFrom_113 eu14 (fun H locs S => ?_)
  refine lv_aload_n hx hb dX7_copyFrom_116 rfl (lv_at hl 0 rfl) ?_
  refine q_get (v := .ref (ad 5)) C S (o20 cI ad p2 l2 pa pl) rfl iwX7 13 (by decide) mw_429 rfl dX7_copyFrom_117 ?_
  refine lv_aload_n hx hb dX7_copyFrom_120 rfl (lv_at hl 1 rfl) ?_
  refine q_get (v := .ref (ad 41)) C S (o236 cI ad p2 l2 pa pl) rfl iwX7 13 (by decide) mw_429 rfl dX7_copyFrom_121 ?_
  obtain ⟨u16, d17, h15, h⟩ := obd_some h
  obtain ⟨dz18, h, edz18⟩ := addB_some h
  have ha19 : dt = (a + d17) + dz18 := by omega
  have hpf19 : pf = (pl + d17) + dz18 := by omega
  refine q_callVvA (As := [.ref (ad 41)]) (na := 1) C S (o25 cI ad p2 l2 pa pl) rfl (ct_X1_copyFrom l D cI cB cL ad p2 l2 u14 pl h15) mw_611 mw_610 mw_612 mw_401 mw_609 hdX1_copyFrom ⟨Nat.le_trans (Nat.le_of_ble_eq_true rfl) hR.1, Nat.le_trans (Nat.le_of_ble_eq_true rfl) hR.2⟩ rfl hsz (dz := dz18) hC (by omega) (Nat.le_of_ble_eq_true rfl) dX7_copyFrom_124 rfl (fun pa19 H locs S => ?_)
  refine lv_aload_n hx hb dX7_copyFrom_127 rfl (lv_at hl 0 rfl) ?_
  refine q_get (v := .ref (ad 13)) C S (o20 cI ad p2 l2 pa19 (pl + d17)) rfl iwX7 14 (by decide) mw_434 rfl dX7_copyFrom_128 ?_
  refine lv_aload_n hx hb dX7_copyFrom_131 rfl (lv_at hl 1 rfl) ?_
  refine q_get (v := .ref (ad 49)) C S (o236 cI ad p2 l2 pa19 (pl + d17)) rfl iwX7 14 (by decide) mw_434 rfl dX7_copyFrom_132 ?_
  obtain ⟨u21, h20, h⟩ := obr_some h
  refine q_callVv (As := [.ref (ad 49)]) (na := 1) C S (o213 cI ad p2 l2 pa19 (pl + d17)) rfl (ct_X6_copyFrom l D cI cB cL ad p2 l2 pa19 (pl + d17) u16 h20) mw_615 mw_614 mw_616 mw_571 mw_613 hdX6_copyFrom ⟨Nat.le_trans (Nat.le_of_ble_eq_true rfl) hR.1, Nat.le_trans (Nat.le_of_ble_eq_true rfl) hR.2⟩ rfl hsz (capA hC ha19) (Nat.le_of_ble_eq_true rfl) dX7_copyFrom_135 rfl (fun H locs S => ?_)
  refine lv_aload_n hx hb dX7_copyFrom_138 rfl (lv_at hl 0 rfl) ?_
  refine q_get (v := .ref (ad 19)) C S (o20 cI ad p2 l2 pa19 (pl + d17)) rfl iwX7 15 (by decide) mw_436 rfl dX7_copyFrom_139 ?_
  refine lv_aload_n hx hb dX7_copyFrom_142 rfl (lv_at hl 1 rfl) ?_
  refine q_get (v := .ref (ad 55)) C S (o236 cI ad p2 l2 pa19 (pl + d17)) rfl iwX7 15 (by decide) mw_436 rfl dX7_copyFrom_143 ?_
  obtain ⟨u23, h22, h⟩ := obr_some h
  refine q_callVv (As := [.ref (ad 55)]) (na := 1) C S (o219 cI ad p2 l2 pa19 (pl + d17)) rfl (ct_X4_copyFrom l D cI cB cL ad p2 l2 pa19 (pl + d17) u21 h22) mw_619 mw_618 mw_620 mw_332 mw_617 hdX4_copyFrom ⟨Nat.le_trans (Nat.le_of_ble_eq_true rfl) hR.1, Nat.le_trans (Nat.le_of_ble_eq_true rfl) hR.2⟩ rfl hsz (capA hC ha19) (Nat.le_of_ble_eq_true rfl) dX7_copyFrom_146 rfl (fun H locs S => ?_)
  refine lv_aload_n hx hb dX7_copyFrom_149 rfl (lv_at hl 0 rfl) ?_
  refine q_get (v := .ref (ad 26)) C S (o20 cI ad p2 l2 pa19 (pl + d17)) rfl iwX7 16 (by decide) mw_448 rfl dX7_copyFrom_150 ?_
  refine lv_aload_n hx hb dX7_copyFrom_153 rfl (lv_at hl 1 rfl) ?_
  refine q_get (v := .ref (ad 62)) C S (o236 cI ad p2 l2 pa19 (pl + d17)) rfl iwX7 16 (by decide) mw_448 rfl dX7_copyFrom_154 ?_
  obtain ⟨u25, h24, h⟩ := obr_some h
  refine q_callVv (As := [.ref (ad 62)]) (na := 1) C S (o226 cI ad p2 l2 pa19 (pl + d17)) rfl (ct_X3_copyFrom l D cI cB cL ad p2 l2 pa19 (pl + d17) u23 h24) mw_623 mw_622 mw_624 mw_326 mw_621 hdX3_copyFrom ⟨Nat.le_trans (Nat.le_of_ble_eq_true rfl) hR.1, Nat.le_trans (Nat.le_of_ble_eq_true rfl) hR.2⟩ rfl hsz (capA hC ha19) (Nat.le_of_ble_eq_true rfl) dX7_copyFrom_157 rfl (fun H locs S => ?_)
  refine lv_aload_n hx hb dX7_copyFrom_160 rfl (lv_at hl 0 rfl) ?_
  refine q_get (v := .ref (ad 30)) C S (o20 cI ad p2 l2 pa19 (pl + d17)) rfl iwX7 17 (by decide) mw_575 rfl dX7_copyFrom_161 ?_
  refine lv_aload_n hx hb dX7_copyFrom_164 rfl (lv_at hl 1 rfl) ?_
  refine q_get (v := .ref (ad 66)) C S (o236 cI ad p2 l2 pa19 (pl + d17)) rfl iwX7 17 (by decide) mw_575 rfl dX7_copyFrom_165 ?_
  obtain ⟨u27, h26, h⟩ := obr_some h
  refine q_callVv (As := [.ref (ad 66)]) (na := 1) C S (o230 cI ad p2 l2 pa19 (pl + d17)) rfl (ct_X2_copyFrom l D cI cB cL ad p2 l2 pa19 (pl + d17) u25 h26) mw_627 mw_626 mw_628 mw_579 mw_625 hdX2_copyFrom ⟨Nat.le_trans (Nat.le_of_ble_eq_true rfl) hR.1, Nat.le_trans (Nat.le_of_ble_eq_true rfl) hR.2⟩ rfl hsz (capA hC ha19) (Nat.le_of_ble_eq_true rfl) dX7_copyFrom_168 rfl (fun H locs S => ?_)
  refine lv_aload_n hx hb dX7_copyFrom_171 rfl (lv_at hl 0 rfl) ?_
  refine q_get (v := .ref (ad 34)) C S (o20 cI ad p2 l2 pa19 (pl + d17)) rfl iwX7 18 (by decide) mw_438 rfl dX7_copyFrom_172 ?_
  refine lv_aload_n hx hb dX7_copyFrom_175 rfl (lv_at hl 1 rfl) ?_
  refine q_get (v := .ref (ad 70)) C S (o236 cI ad p2 l2 pa19 (pl + d17)) rfl iwX7 18 (by decide) mw_438 rfl dX7_copyFrom_176 ?_
  obtain ⟨u29, h28, h⟩ := obr_some h
  refine q_callVv (As := [.ref (ad 70)]) (na := 1) C S (o234 cI ad p2 l2 pa19 (pl + d17)) rfl (ct_X5_copyFrom l D cI cB cL ad p2 l2 pa19 (pl + d17) u27 h28) mw_631 mw_630 mw_632 mw_440 mw_629 hdX5_copyFrom ⟨Nat.le_trans (Nat.le_of_ble_eq_true rfl) hR.1, Nat.le_trans (Nat.le_of_ble_eq_true rfl) hR.2⟩ rfl hsz (capA hC ha19) (Nat.le_of_ble_eq_true rfl) dX7_copyFrom_179 rfl (fun H locs S => ?_)
  exact q_vretA C S h ha19 hpf19 dX7_copyFrom_182
set_option maxRecDepth 10000 in
set_option maxHeartbeats 4000000 in
theorem ct_X7_copyFrom (l : Launch) (D : va_G) (cI cB cL : ClassId) (ad : Nat → Nat) (p2 l2 : Nat) (u : Sg) (pl : Nat) {σ' : Sg} {dz : Nat} (h : fX7_copyFrom l2 u pl = some (σ', dz)) : metVA l D cI cB cL yX7_copyFrom cX7_copyFrom 2 3 68 (w2 cI ad p2 l2) [.ref (ad 0), .ref (ad 36)] u pl σ' dz := by
  intro pa sz
  refine Met.ofW (cc := cX7_copyFrom) (maxL := 2) (ret := none) (by decide) rfl ?_
  intro p e s m args below meth c s₁ B hml hv
  obtain ⟨rfl, C, S⟩ := q_entryA B hml hv
  have hl := lv_entry ([.ref (ad 0), .ref (ad 36)]) (n := 2) (Nat.le_of_ble_eq_true rfl)
  rw [lg_entry_eq]
  generalize (lg_sl ([.ref (ad 0), .ref (ad 36)]) ++ List.replicate (2 - (lg_sl ([.ref (ad 0), .ref (ad 36)])).length) Slot.unset).toArray = ls at hl ⊢
  exact wX7_copyFrom_0 C ⟨Nat.le_refl _, Nat.le_refl _⟩ ⟨rfl, rfl⟩ u (lv_sub hl [0, 1] rfl) S (Nat.zero_add _).symm rfl h
noncomputable def fX7_lookFrom_0 (l2 : Nat) (u : Sg) (pl : Nat) : Option (Sg × Nat) := obd (fX7_copyFrom l2 u pl) (fun u2 d3 => addB d3 (bnd (s2 u2 0 4 0) (fun u6 => bnd (s2 u6 0 7 0) (fun u7 => some (u7, 0)))))
noncomputable def fX7_lookFrom (l2 : Nat) (u : Sg) (pl : Nat) : Option (Sg × Nat) := fX7_lookFrom_0 l2 u pl
set_option maxRecDepth 10000 in
set_option maxHeartbeats 4000000 in
theorem wX7_lookFrom_0 (C : cx D (tyl cI cB cL) A RX7 cX7_lookFrom 2 none p s m args c meth) (hR : 4 ≤ R.frames ∧ 89 ≤ R.locals) {σ' : Sg} {dt pf : Nat} (hC : R.cells = dt ∧ R.slots = 2 * dt) (u : Sg) {pl pa a dz : Nat} {H : Heap} {locs : List Loc} {ls : Array Slot} (hl : lv_has ls 2 [(0, .ref (ad 0)), (1, .ref (ad 36))]) (S : st D (w2 cI ad p2 l2 pa pl) A s u H locs) (ha : dt = a + dz) (hpf : pf = pl + dz) (h : fX7_lookFrom_0 l2 u pl = some (σ', dz)) : W p l e R s m args below meth c H locs a (2 * a) (MQ below (qVA D cI cB cL (w2 cI ad p2 l2) pf A σ') args s dt (2 * dt) A) (F0 m 0 ls []) := by
  have hx := C.1
  have hb := C.2.1
  have hsz := hl.1
  unfold fX7_lookFrom_0 at h
  refine lv_aload_n hx hb dX7_lookFrom_0 rfl (lv_at hl 0 rfl) ?_
  refine lv_aload_n hx hb dX7_lookFrom_1 rfl (lv_at hl 1 rfl) ?_
  obtain ⟨u2, d3, h1, h⟩ := obd_some h
  obtain ⟨dz4, h, edz4⟩ := addB_some h
  have ha5 : dt = (a + d3) + dz4 := by omega
  have hpf5 : pf = (pl + d3) + dz4 := by omega
  refine q_callVvA (As := [.ref (ad 36)]) (na := 1) C S (o20 cI ad p2 l2 pa pl) rfl (ct_X7_copyFrom l D cI cB cL ad p2 l2 u pl h1) mw_635 mw_634 mw_636 mw_341 mw_633 hdX7_copyFrom ⟨Nat.le_trans (Nat.le_of_ble_eq_true rfl) hR.1, Nat.le_trans (Nat.le_of_ble_eq_true rfl) hR.2⟩ rfl hsz (dz := dz4) hC (by omega) (Nat.le_of_ble_eq_true rfl) dX7_lookFrom_2 rfl (fun pa5 H locs S => ?_)
  refine lv_aload_n hx hb dX7_lookFrom_5 rfl (lv_at hl 0 rfl) ?_
  refine lv_iconst (v := 0) hx hb dX7_lookFrom_6 (by decide) ?_
  obtain ⟨u6, eu6⟩ : ∃ z : Sg, z = s2 u2 0 4 0 := ⟨_, rfl⟩
  have h := bnd_of eu6 h
  refine q_put C S (o20 cI ad p2 l2 pa5 (pl + d3)) rfl iwX7 tyX7 tyX7_ok nmX7 4 (by decide) mw_477 rfl (i20_4 cI ad p2 l2 pa5 (pl + d3)) rfl rfl dX7_lookFrom_7 eu6 (fun H locs S => ?_)
  refine lv_aload_n hx hb dX7_lookFrom_10 rfl (lv_at hl 0 rfl) ?_
  refine lv_iconst (v := 0) hx hb dX7_lookFrom_11 (by decide) ?_
  obtain ⟨u7, eu7⟩ : ∃ z : Sg, z = s2 u6 0 7 0 := ⟨_, rfl⟩
  have h := bnd_of eu7 h
  refine q_put C S (o20 cI ad p2 l2 pa5 (pl + d3)) rfl iwX7 tyX7 tyX7_ok nmX7 7 (by decide) mw_540 rfl (i20_7 cI ad p2 l2 pa5 (pl + d3)) rfl rfl dX7_lookFrom_12 eu7 (fun H locs S => ?_)
  exact q_vretA C S h ha5 hpf5 dX7_lookFrom_15
set_option maxRecDepth 10000 in
set_option maxHeartbeats 4000000 in
theorem ct_X7_lookFrom (l : Launch) (D : va_G) (cI cB cL : ClassId) (ad : Nat → Nat) (p2 l2 : Nat) (u : Sg) (pl : Nat) {σ' : Sg} {dz : Nat} (h : fX7_lookFrom l2 u pl = some (σ', dz)) : metVA l D cI cB cL yX7_lookFrom cX7_lookFrom 2 4 89 (w2 cI ad p2 l2) [.ref (ad 0), .ref (ad 36)] u pl σ' dz := by
  intro pa sz
  refine Met.ofW (cc := cX7_lookFrom) (maxL := 2) (ret := none) (by decide) rfl ?_
  intro p e s m args below meth c s₁ B hml hv
  obtain ⟨rfl, C, S⟩ := q_entryA B hml hv
  have hl := lv_entry ([.ref (ad 0), .ref (ad 36)]) (n := 2) (Nat.le_of_ble_eq_true rfl)
  rw [lg_entry_eq]
  generalize (lg_sl ([.ref (ad 0), .ref (ad 36)]) ++ List.replicate (2 - (lg_sl ([.ref (ad 0), .ref (ad 36)])).length) Slot.unset).toArray = ls at hl ⊢
  exact wX7_lookFrom_0 C ⟨Nat.le_refl _, Nat.le_refl _⟩ ⟨rfl, rfl⟩ u (lv_sub hl [0, 1] rfl) S (Nat.zero_add _).symm rfl h
end S_32_cp
