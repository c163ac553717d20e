theorem mw_301 : Cond.code yX12_goesOn cX12_goesOn 3 none ∈ gw := gw_t8 136 rfl rfl
theorem mw_302 : Cond.instanceMethod yX12_goesOn ∈ gw := gw_t8 135 rfl rfl
theorem mw_303 : Cond.methodLink RX12 355 yX12_goesOn ∈ gw := gw_t8 133 rfl rfl
theorem mw_304 : Cond.selects RX12 yX12_goesOn yX12_goesOn ∈ gw := gw_pv (n := 18) (List.mem_of_getElem? (i := 96) rfl)
theorem mw_305 : Cond.code yX12_upOnes cX12_upOnes 3 (some .int) ∈ gw := gw_t8 140 rfl rfl
theorem mw_306 : Cond.instanceMethod yX12_upOnes ∈ gw := gw_t8 139 rfl rfl
theorem mw_307 : Cond.methodLink RX12 358 yX12_upOnes ∈ gw := gw_t8 137 rfl rfl
theorem mw_308 : Cond.selects RX12 yX12_upOnes yX12_upOnes ∈ gw := gw_pv (n := 18) (List.mem_of_getElem? (i := 97) rfl)
theorem mw_309 : Cond.code yX12_lateOf cX12_lateOf 4 (some .int) ∈ gw := gw_t8 160 rfl rfl
theorem mw_310 : Cond.instanceMethod yX12_lateOf ∈ gw := gw_t8 159 rfl rfl
theorem mw_311 : Cond.methodLink RX12 361 yX12_lateOf ∈ gw := gw_t8 157 rfl rfl
theorem mw_312 : Cond.selects RX12 yX12_lateOf yX12_lateOf ∈ gw := gw_pv (n := 18) (List.mem_of_getElem? (i := 98) rfl)
theorem mw_313 : Cond.code yX12_isRing cX12_isRing 7 (some .boolean) ∈ gw := gw_t8 180 rfl rfl
theorem mw_314 : Cond.instanceMethod yX12_isRing ∈ gw := gw_t8 179 rfl rfl
theorem mw_315 : Cond.methodLink RX12 364 yX12_isRing ∈ gw := gw_t8 177 rfl rfl
theorem mw_316 : Cond.selects RX12 yX12_isRing yX12_isRing ∈ gw := gw_pv (n := 18) (List.mem_of_getElem? (i := 99) rfl)
theorem hdX12_goesOn : yX12_goesOn.cls = RX12 ∧ yX12_goesOn.cls ≠ "java/lang/invoke/MethodHandle" ∧ yX12_goesOn.cls ≠ "java/lang/invoke/VarHandle" ∧ (parseMethodDescriptor yX12_goesOn.desc).map (fun d => d.parameters.length) = some 1 := by decide +kernel
theorem hdX12_isRing : yX12_isRing.cls = RX12 ∧ yX12_isRing.cls ≠ "java/lang/invoke/MethodHandle" ∧ yX12_isRing.cls ≠ "java/lang/invoke/VarHandle" ∧ (parseMethodDescriptor yX12_isRing.desc).map (fun d => d.parameters.length) = some 3 := by decide +kernel
theorem hdX12_lateOf : yX12_lateOf.cls = RX12 ∧ yX12_lateOf.cls ≠ "java/lang/invoke/MethodHandle" ∧ yX12_lateOf.cls ≠ "java/lang/invoke/VarHandle" ∧ (parseMethodDescriptor yX12_lateOf.desc).map (fun d => d.parameters.length) = some 1 := by decide +kernel
theorem hdX12_upOnes : yX12_upOnes.cls = RX12 ∧ yX12_upOnes.cls ≠ "java/lang/invoke/MethodHandle" ∧ yX12_upOnes.cls ≠ "java/lang/invoke/VarHandle" ∧ (parseMethodDescriptor yX12_upOnes.desc).map (fun d => d.parameters.length) = some 0 := by decide +kernel
theorem dX12_upOnes_0 : decode cX12_upOnes 0 = .ok (.iconst 0, 1) := by decide +kernel
theorem dX12_upOnes_1 : decode cX12_upOnes 1 = .ok (.istore_n 1, 1) := by decide +kernel
theorem dX12_upOnes_2 : decode cX12_upOnes 2 = .ok (.iconst 0, 1) := by decide +kernel
theorem dX12_upOnes_3 : decode cX12_upOnes 3 = .ok (.istore_n 2, 1) := by decide +kernel
theorem dX12_upOnes_4 : decode cX12_upOnes 4 = .ok (.iload_n 2, 1) := by decide +kernel
theorem dX12_upOnes_5 : decode cX12_upOnes 5 = .ok (.aload_n 0, 1) := by decide +kernel
theorem dX12_upOnes_6 : decode cX12_upOnes 6 = .ok (.invokevirtual 66, 3) := by decide +kernel
theorem dX12_upOnes_9 : decode cX12_upOnes 9 = .ok (.if_icmp .ge 27, 3) := by decide +kernel
theorem dX12_upOnes_12 : decode cX12_upOnes 12 = .ok (.iload_n 1, 1) := by decide +kernel
theorem dX12_upOnes_13 : decode cX12_upOnes 13 = .ok (.aload_n 0, 1) := by decide +kernel
theorem dX12_upOnes_14 : decode cX12_upOnes 14 = .ok (.iload_n 2, 1) := by decide +kernel
theorem dX12_upOnes_15 : decode cX12_upOnes 15 = .ok (.invokevirtual 80, 3) := by decide +kernel
theorem dX12_upOnes_18 : decode cX12_upOnes 18 = .ok (.ifCond .eq 9, 3) := by decide +kernel
theorem dX12_upOnes_21 : decode cX12_upOnes 21 = .ok (.iconst 1, 1) := by decide +kernel
theorem dX12_upOnes_22 : decode cX12_upOnes 22 = .ok (.iload_n 2, 1) := by decide +kernel
theorem dX12_upOnes_23 : decode cX12_upOnes 23 = .ok (.ishl, 1) := by decide +kernel
theorem dX12_upOnes_24 : decode cX12_upOnes 24 = .ok (.goto 4, 3) := by decide +kernel
theorem dX12_upOnes_27 : decode cX12_upOnes 27 = .ok (.iconst 0, 1) := by decide +kernel
theorem dX12_upOnes_28 : decode cX12_upOnes 28 = .ok (.ior, 1) := by decide +kernel
theorem dX12_upOnes_29 : decode cX12_upOnes 29 = .ok (.istore_n 1, 1) := by decide +kernel
theorem dX12_upOnes_30 : decode cX12_upOnes 30 = .ok (.iinc 2 1, 3) := by decide +kernel
theorem dX12_upOnes_33 : decode cX12_upOnes 33 = .ok (.goto (-29), 3) := by decide +kernel
theorem dX12_upOnes_36 : decode cX12_upOnes 36 = .ok (.iload_n 1, 1) := by decide +kernel
theorem dX12_upOnes_37 : decode cX12_upOnes 37 = .ok (.ireturn, 1) := by decide +kernel
theorem dX12_after_0 : decode cX12_after 0 = .ok (.aload_n 0, 1) := by decide +kernel
theorem dX12_after_1 : decode cX12_after 1 = .ok (.iload_n 1, 1) := by decide +kernel
theorem dX12_after_2 : decode cX12_after 2 = .ok (.iload_n 2, 1) := by decide +kernel
theorem dX12_after_3 : decode cX12_after 3 = .ok (.invokevirtual 316, 3) := by decide +kernel
theorem dX12_after_6 : decode cX12_after 6 = .ok (.ifCond .eq 5, 3) := by decide +kernel
theorem dX12_after_9 : decode cX12_after 9 = .ok (.iconst 0, 1) := by decide +kernel
theorem dX12_after_10 : decode cX12_after 10 = .ok (.ireturn, 1) := by decide +kernel
theorem dX12_after_11 : decode cX12_after 11 = .ok (.aload_n 0, 1) := by decide +kernel
theorem dX12_after_12 : decode cX12_after 12 = .ok (.invokevirtual 349, 3) := by decide +kernel
theorem dX12_after_15 : decode cX12_after 15 = .ok (.aload_n 0, 1) := by decide +kernel
theorem dX12_after_16 : decode cX12_after 16 = .ok (.iload_n 1, 1) := by decide +kernel
theorem dX12_after_17 : decode cX12_after 17 = .ok (.invokevirtual 80, 3) := by decide +kernel
theorem dX12_after_20 : decode cX12_after 20 = .ok (.ifCond .eq 8, 3) := by decide +kernel
theorem dX12_after_23 : decode cX12_after 23 = .ok (.aload_n 0, 1) := by decide +kernel
theorem dX12_after_24 : decode cX12_after 24 = .ok (.iload_n 1, 1) := by decide +kernel
theorem dX12_after_25 : decode cX12_after 25 = .ok (.invokevirtual 264, 3) := by decide +kernel
theorem dX12_after_28 : decode cX12_after 28 = .ok (.aload_n 0, 1) := by decide +kernel
theorem dX12_after_29 : decode cX12_after 29 = .ok (.bipush 120, 2) := by decide +kernel
theorem dX12_after_31 : decode cX12_after 31 = .ok (.invokevirtual 355, 3) := by decide +kernel
theorem dX12_after_34 : decode cX12_after 34 = .ok (.aload_n 0, 1) := by decide +kernel
theorem dX12_after_35 : decode cX12_after 35 = .ok (.iload_n 2, 1) := by decide +kernel
theorem dX12_after_36 : decode cX12_after 36 = .ok (.invokevirtual 343, 3) := by decide +kernel
theorem dX12_after_39 : decode cX12_after 39 = .ok (.aload_n 0, 1) := by decide +kernel
theorem dX12_after_40 : decode cX12_after 40 = .ok (.invokevirtual 358, 3) := by decide +kernel
theorem dX12_after_43 : decode cX12_after 43 = .ok (.iand, 1) := by decide +kernel
theorem dX12_after_44 : decode cX12_after 44 = .ok (.aload_n 0, 1) := by decide +kernel
theorem dX12_after_45 : decode cX12_after 45 = .ok (.iload_n 2, 1) := by decide +kernel
theorem dX12_after_46 : decode cX12_after 46 = .ok (.iconst 1, 1) := by decide +kernel
theorem dX12_after_47 : decode cX12_after 47 = .ok (.invokevirtual 84, 3) := by decide +kernel
theorem dX12_after_50 : decode cX12_after 50 = .ok (.iand, 1) := by decide +kernel
theorem dX12_after_51 : decode cX12_after 51 = .ok (.istore_n 3, 1) := by decide +kernel
theorem dX12_after_52 : decode cX12_after 52 = .ok (.aload_n 0, 1) := by decide +kernel
theorem dX12_after_53 : decode cX12_after 53 = .ok (.invokevirtual 352, 3) := by decide +kernel
theorem dX12_after_56 : decode cX12_after 56 = .ok (.iload_n 3, 1) := by decide +kernel
theorem dX12_after_57 : decode cX12_after 57 = .ok (.ireturn, 1) := by decide +kernel
theorem dX12_takes_0 : decode cX12_takes 0 = .ok (.aload_n 0, 1) := by decide +kernel
theorem dX12_takes_1 : decode cX12_takes 1 = .ok (.iconst 0, 1) := by decide +kernel
theorem dX12_takes_2 : decode cX12_takes 2 = .ok (.putfield 3, 3) := by decide +kernel
theorem dX12_takes_5 : decode cX12_takes 5 = .ok (.aload_n 0, 1) := by decide +kernel
theorem dX12_takes_6 : decode cX12_takes 6 = .ok (.aload_n 0, 1) := by decide +kernel
theorem dX12_takes_7 : decode cX12_takes 7 = .ok (.iload_n 1, 1) := by decide +kernel
theorem dX12_takes_8 : decode cX12_takes 8 = .ok (.invokevirtual 296, 3) := by decide +kernel
theorem dX12_takes_11 : decode cX12_takes 11 = .ok (.iconst 1, 1) := by decide +kernel
theorem dX12_takes_12 : decode cX12_takes 12 = .ok (.invokevirtual 176, 3) := by decide +kernel
theorem dX12_takes_15 : decode cX12_takes 15 = .ok (.ifCond .eq 5, 3) := by decide +kernel
theorem dX12_takes_18 : decode cX12_takes 18 = .ok (.iconst 0, 1) := by decide +kernel
theorem dX12_takes_19 : decode cX12_takes 19 = .ok (.ireturn, 1) := by decide +kernel
theorem dX12_takes_20 : decode cX12_takes 20 = .ok (.aload_n 0, 1) := by decide +kernel
theorem dX12_takes_21 : decode cX12_takes 21 = .ok (.getfield 13, 3) := by decide +kernel
theorem dX12_takes_24 : decode cX12_takes 24 = .ok (.bipush 10, 2) := by decide +kernel
theorem dX12_takes_26 : decode cX12_takes 26 = .ok (.iaload, 1) := by decide +kernel
theorem dX12_takes_27 : decode cX12_takes 27 = .ok (.istore_n 2, 1) := by decide +kernel
theorem dX12_takes_28 : decode cX12_takes 28 = .ok (.aload_n 0, 1) := by decide +kernel
theorem dX12_takes_29 : decode cX12_takes 29 = .ok (.invokevirtual 349, 3) := by decide +kernel
theorem dX12_takes_32 : decode cX12_takes 32 = .ok (.aload_n 0, 1) := by decide +kernel
theorem dX12_takes_33 : decode cX12_takes 33 = .ok (.iload_n 1, 1) := by decide +kernel
theorem dX12_takes_34 : decode cX12_takes 34 = .ok (.invokevirtual 80, 3) := by decide +kernel
theorem dX12_takes_37 : decode cX12_takes 37 = .ok (.ifCond .eq 8, 3) := by decide +kernel
theorem dX12_takes_40 : decode cX12_takes 40 = .ok (.aload_n 0, 1) := by decide +kernel
theorem dX12_takes_41 : decode cX12_takes 41 = .ok (.iload_n 1, 1) := by decide +kernel
theorem dX12_takes_42 : decode cX12_takes 42 = .ok (.invokevirtual 264, 3) := by decide +kernel
theorem dX12_takes_45 : decode cX12_takes 45 = .ok (.aload_n 0, 1) := by decide +kernel
theorem dX12_takes_46 : decode cX12_takes 46 = .ok (.bipush 120, 2) := by decide +kernel
theorem dX12_takes_48 : decode cX12_takes 48 = .ok (.invokevirtual 355, 3) := by decide +kernel
theorem dX12_takes_51 : decode cX12_takes 51 = .ok (.aload_n 0, 1) := by decide +kernel
theorem dX12_takes_52 : decode cX12_takes 52 = .ok (.getfield 13, 3) := by decide +kernel
theorem dX12_takes_55 : decode cX12_takes 55 = .ok (.bipush 10, 2) := by decide +kernel
theorem dX12_takes_57 : decode cX12_takes 57 = .ok (.iaload, 1) := by decide +kernel
theorem dX12_takes_58 : decode cX12_takes 58 = .ok (.iload_n 2, 1) := by decide +kernel
theorem dX12_takes_59 : decode cX12_takes 59 = .ok (.isub, 1) := by decide +kernel
theorem dX12_takes_60 : decode cX12_takes 60 = .ok (.istore_n 3, 1) := by decide +kernel
theorem dX12_takes_61 : decode cX12_takes 61 = .ok (.aload_n 0, 1) := by decide +kernel
theorem dX12_takes_62 : decode cX12_takes 62 = .ok (.invokevirtual 352, 3) := by decide +kernel
theorem dX12_takes_65 : decode cX12_takes 65 = .ok (.iload_n 3, 1) := by decide +kernel
theorem dX12_takes_66 : decode cX12_takes 66 = .ok (.ireturn, 1) := by decide +kernel
theorem dX12_first_0 : decode cX12_first 0 = .ok (.aload_n 0, 1) := by decide +kernel
theorem dX12_first_1 : decode cX12_first 1 = .ok (.iconst 0, 1) := by decide +kernel
theorem dX12_first_2 : decode cX12_first 2 = .ok (.putfield 3, 3) := by decide +kernel
theorem dX12_first_5 : decode cX12_first 5 = .ok (.aload_n 0, 1) := by decide +kernel
theorem dX12_first_6 : decode cX12_first 6 = .ok (.aload_n 0, 1) := by decide +kernel
theorem dX12_first_7 : decode cX12_first 7 = .ok (.iload_n 1, 1) := by decide +kernel
theorem dX12_first_8 : decode cX12_first 8 = .ok (.invokevirtual 310, 3) := by decide +kernel
theorem dX12_first_11 : decode cX12_first 11 = .ok (.ifCond .ne 11, 3) := by decide +kernel
theorem dX12_first_14 : decode cX12_first 14 = .ok (.aload_n 0, 1) := by decide +kernel
theorem dX12_first_15 : decode cX12_first 15 = .ok (.iload_n 2, 1) := by decide +kernel
theorem dX12_first_16 : decode cX12_first 16 = .ok (.invokevirtual 310, 3) := by decide +kernel
theorem dX12_first_19 : decode cX12_first 19 = .ok (.ifCond .eq 7, 3) := by decide +kernel
theorem dX12_first_22 : decode cX12_first 22 = .ok (.iconst 1, 1) := by decide +kernel
theorem dX12_first_23 : decode cX12_first 23 = .ok (.goto 4, 3) := by decide +kernel
theorem dX12_first_26 : decode cX12_first 26 = .ok (.iconst 0, 1) := by decide +kernel
theorem dX12_first_27 : decode cX12_first 27 = .ok (.iconst 1, 1) := by decide +kernel
theorem dX12_first_28 : decode cX12_first 28 = .ok (.invokevirtual 176, 3) := by decide +kernel
theorem dX12_first_31 : decode cX12_first 31 = .ok (.ifCond .ne 21, 3) := by decide +kernel
theorem dX12_first_34 : decode cX12_first 34 = .ok (.aload_n 0, 1) := by decide +kernel
theorem dX12_first_35 : decode cX12_first 35 = .ok (.iload_n 1, 1) := by decide +kernel
theorem dX12_first_36 : decode cX12_first 36 = .ok (.iload_n 2, 1) := by decide +kernel
theorem dX12_first_37 : decode cX12_first 37 = .ok (.if_icmp .ne 7, 3) := by decide +kernel
theorem dX12_first_40 : decode cX12_first 40 = .ok (.iconst 1, 1) := by decide +kernel
theorem dX12_first_41 : decode cX12_first 41 = .ok (.goto 4, 3) := by decide +kernel
theorem dX12_first_44 : decode cX12_first 44 = .ok (.iconst 0, 1) := by decide +kernel
theorem dX12_first_45 : decode cX12_first 45 = .ok (.iconst 2, 1) := by decide +kernel
theorem dX12_first_46 : decode cX12_first 46 = .ok (.invokevirtual 176, 3) := by decide +kernel
theorem dX12_first_49 : decode cX12_first 49 = .ok (.ifCond .eq 5, 3) := by decide +kernel
theorem dX12_first_52 : decode cX12_first 52 = .ok (.iconst 0, 1) := by decide +kernel
theorem dX12_first_53 : decode cX12_first 53 = .ok (.ireturn, 1) := by decide +kernel
theorem dX12_first_54 : decode cX12_first 54 = .ok (.aload_n 0, 1) := by decide +kernel
theorem dX12_first_55 : decode cX12_first 55 = .ok (.invokevirtual 349, 3) := by decide +kernel
theorem dX12_first_58 : decode cX12_first 58 = .ok (.aload_n 0, 1) := by decide +kernel
theorem dX12_first_59 : decode cX12_first 59 = .ok (.bipush 120, 2) := by decide +kernel
theorem dX12_first_61 : decode cX12_first 61 = .ok (.invokevirtual 355, 3) := by decide +kernel
theorem dX12_first_64 : decode cX12_first 64 = .ok (.aload_n 0, 1) := by decide +kernel
theorem dX12_first_65 : decode cX12_first 65 = .ok (.iload_n 1, 1) := by decide +kernel
theorem dX12_first_66 : decode cX12_first 66 = .ok (.invokevirtual 343, 3) := by decide +kernel
theorem dX12_first_69 : decode cX12_first 69 = .ok (.aload_n 0, 1) := by decide +kernel
theorem dX12_first_70 : decode cX12_first 70 = .ok (.iload_n 2, 1) := by decide +kernel
theorem dX12_first_71 : decode cX12_first 71 = .ok (.invokevirtual 343, 3) := by decide +kernel
theorem dX12_first_74 : decode cX12_first 74 = .ok (.iand, 1) := by decide +kernel
theorem dX12_first_75 : decode cX12_first 75 = .ok (.istore_n 3, 1) := by decide +kernel
theorem dX12_first_76 : decode cX12_first 76 = .ok (.iload_n 3, 1) := by decide +kernel
theorem dX12_first_77 : decode cX12_first 77 = .ok (.ifCond .ne 7, 3) := by decide +kernel
theorem dX12_first_80 : decode cX12_first 80 = .ok (.iconst (-1), 1) := by decide +kernel
theorem dX12_first_81 : decode cX12_first 81 = .ok (.goto 21, 3) := by decide +kernel
theorem dX12_first_84 : decode cX12_first 84 = .ok (.aload_n 0, 1) := by decide +kernel
theorem dX12_first_85 : decode cX12_first 85 = .ok (.iload_n 3, 1) := by decide +kernel
theorem dX12_first_86 : decode cX12_first 86 = .ok (.invokestatic 331, 3) := by decide +kernel
theorem dX12_first_89 : decode cX12_first 89 = .ok (.iload_n 1, 1) := by decide +kernel
theorem dX12_first_90 : decode cX12_first 90 = .ok (.iload_n 2, 1) := by decide +kernel
theorem dX12_first_91 : decode cX12_first 91 = .ok (.invokevirtual 337, 3) := by decide +kernel
theorem dX12_first_94 : decode cX12_first 94 = .ok (.ifCond .eq 7, 3) := by decide +kernel
theorem dX12_first_97 : decode cX12_first 97 = .ok (.iload_n 1, 1) := by decide +kernel
theorem dX12_first_98 : decode cX12_first 98 = .ok (.goto 4, 3) := by decide +kernel
theorem dX12_first_101 : decode cX12_first 101 = .ok (.iload_n 2, 1) := by decide +kernel
theorem dX12_first_102 : decode cX12_first 102 = .ok (.istore 4, 2) := by decide +kernel
theorem dX12_first_104 : decode cX12_first 104 = .ok (.aload_n 0, 1) := by decide +kernel
theorem dX12_first_105 : decode cX12_first 105 = .ok (.invokevirtual 352, 3) := by decide +kernel
theorem dX12_first_108 : decode cX12_first 108 = .ok (.iload 4, 2) := by decide +kernel
theorem dX12_first_110 : decode cX12_first 110 = .ok (.ireturn, 1) := by decide +kernel
theorem dX12_outside_0 : decode cX12_outside 0 = .ok (.aload_n 0, 1) := by decide +kernel
theorem dX12_outside_1 : decode cX12_outside 1 = .ok (.iconst 0, 1) := by decide +kernel
theorem dX12_outside_2 : decode cX12_outside 2 = .ok (.putfield 3, 3) := by decide +kernel
theorem dX12_outside_5 : decode cX12_outside 5 = .ok (.aload_n 0, 1) := by decide +kernel
theorem dX12_outside_6 : decode cX12_outside 6 = .ok (.aload_n 0, 1) := by decide +kernel
theorem dX12_outside_7 : decode cX12_outside 7 = .ok (.iload_n 1, 1) := by decide +kernel
theorem dX12_outside_8 : decode cX12_outside 8 = .ok (.invokevirtual 310, 3) := by decide +kernel
theorem dX12_outside_11 : decode cX12_outside 11 = .ok (.iconst 1, 1) := by decide +kernel
theorem dX12_outside_12 : decode cX12_outside 12 = .ok (.invokevirtual 176, 3) := by decide +kernel
theorem dX12_outside_15 : decode cX12_outside 15 = .ok (.ifCond .eq 5, 3) := by decide +kernel
theorem dX12_outside_18 : decode cX12_outside 18 = .ok (.iconst 0, 1) := by decide +kernel
theorem dX12_outside_19 : decode cX12_outside 19 = .ok (.ireturn, 1) := by decide +kernel
theorem dX12_outside_20 : decode cX12_outside 20 = .ok (.aload_n 0, 1) := by decide +kernel
theorem dX12_outside_21 : decode cX12_outside 21 = .ok (.iload_n 1, 1) := by decide +kernel
theorem dX12_outside_22 : decode cX12_outside 22 = .ok (.iconst 4, 1) := by decide +kernel
theorem dX12_outside_23 : decode cX12_outside 23 = .ok (.invokevirtual 84, 3) := by decide +kernel
theorem dX12_outside_26 : decode cX12_outside 26 = .ok (.aload_n 0, 1) := by decide +kernel
theorem dX12_outside_27 : decode cX12_outside 27 = .ok (.iload_n 1, 1) := by decide +kernel
theorem dX12_outside_28 : decode cX12_outside 28 = .ok (.iconst 1, 1) := by decide +kernel
theorem dX12_outside_29 : decode cX12_outside 29 = .ok (.invokevirtual 84, 3) := by decide +kernel
theorem dX12_outside_32 : decode cX12_outside 32 = .ok (.iconst (-1), 1) := by decide +kernel
theorem dX12_outside_33 : decode cX12_outside 33 = .ok (.ixor, 1) := by decide +kernel
theorem dX12_outside_34 : decode cX12_outside 34 = .ok (.iand, 1) := by decide +kernel
theorem dX12_outside_35 : decode cX12_outside 35 = .ok (.iconst 1, 1) := by decide +kernel
theorem dX12_outside_36 : decode cX12_outside 36 = .ok (.aload_n 0, 1) := by decide +kernel
theorem dX12_outside_37 : decode cX12_outside 37 = .ok (.iload_n 1, 1) := by decide +kernel
theorem dX12_outside_38 : decode cX12_outside 38 = .ok (.iconst 0, 1) := by decide +kernel
theorem dX12_outside_39 : decode cX12_outside 39 = .ok (.invokevirtual 84, 3) := by decide +kernel
theorem dX12_outside_42 : decode cX12_outside 42 = .ok (.ishl, 1) := by decide +kernel
theorem dX12_outside_43 : decode cX12_outside 43 = .ok (.iconst (-1), 1) := by decide +kernel
theorem dX12_outside_44 : decode cX12_outside 44 = .ok (.ixor, 1) := by decide +kernel
theorem dX12_outside_45 : decode cX12_outside 45 = .ok (.iand, 1) := by decide +kernel
theorem dX12_outside_46 : decode cX12_outside 46 = .ok (.ireturn, 1) := by decide +kernel
theorem dX12_lateOf_0 : decode cX12_lateOf 0 = .ok (.aload_n 0, 1) := by decide +kernel
theorem dX12_lateOf_1 : decode cX12_lateOf 1 = .ok (.iload_n 1, 1) := by decide +kernel
theorem dX12_lateOf_2 : decode cX12_lateOf 2 = .ok (.invokevirtual 343, 3) := by decide +kernel
theorem dX12_lateOf_5 : decode cX12_lateOf 5 = .ok (.ifCond .eq 25, 3) := by decide +kernel
theorem dX12_lateOf_8 : decode cX12_lateOf 8 = .ok (.aload_n 0, 1) := by decide +kernel
theorem dX12_lateOf_9 : decode cX12_lateOf 9 = .ok (.iload_n 1, 1) := by decide +kernel
theorem dX12_lateOf_10 : decode cX12_lateOf 10 = .ok (.iconst 1, 1) := by decide +kernel
theorem dX12_lateOf_11 : decode cX12_lateOf 11 = .ok (.invokevirtual 84, 3) := by decide +kernel
theorem dX12_lateOf_14 : decode cX12_lateOf 14 = .ok (.aload_n 0, 1) := by decide +kernel
theorem dX12_lateOf_15 : decode cX12_lateOf 15 = .ok (.invokevirtual 358, 3) := by decide +kernel
theorem dX12_lateOf_18 : decode cX12_lateOf 18 = .ok (.iand, 1) := by decide +kernel
theorem dX12_lateOf_19 : decode cX12_lateOf 19 = .ok (.aload_n 0, 1) := by decide +kernel
theorem dX12_lateOf_20 : decode cX12_lateOf 20 = .ok (.iload_n 1, 1) := by decide +kernel
theorem dX12_lateOf_21 : decode cX12_lateOf 21 = .ok (.invokevirtual 343, 3) := by decide +kernel
theorem dX12_lateOf_24 : decode cX12_lateOf 24 = .ok (.iconst (-1), 1) := by decide +kernel
theorem dX12_lateOf_25 : decode cX12_lateOf 25 = .ok (.ixor, 1) := by decide +kernel
theorem dX12_lateOf_26 : decode cX12_lateOf 26 = .ok (.iand, 1) := by decide +kernel
theorem dX12_lateOf_27 : decode cX12_lateOf 27 = .ok (.ifCond .eq 5, 3) := by decide +kernel
theorem dX12_lateOf_30 : decode cX12_lateOf 30 = .ok (.iconst (-1), 1) := by decide +kernel
theorem dX12_lateOf_31 : decode cX12_lateOf 31 = .ok (.ireturn, 1) := by decide +kernel
theorem dX12_lateOf_32 : decode cX12_lateOf 32 = .ok (.iconst 0, 1) := by decide +kernel
theorem dX12_lateOf_33 : decode cX12_lateOf 33 = .ok (.istore_n 2, 1) := by decide +kernel
theorem dX12_lateOf_34 : decode cX12_lateOf 34 = .ok (.iconst 0, 1) := by decide +kernel
theorem dX12_lateOf_35 : decode cX12_lateOf 35 = .ok (.istore_n 3, 1) := by decide +kernel
theorem dX12_lateOf_36 : decode cX12_lateOf 36 = .ok (.iload_n 3, 1) := by decide +kernel
theorem dX12_lateOf_37 : decode cX12_lateOf 37 = .ok (.aload_n 0, 1) := by decide +kernel
theorem dX12_lateOf_38 : decode cX12_lateOf 38 = .ok (.invokevirtual 66, 3) := by decide +kernel
theorem dX12_lateOf_41 : decode cX12_lateOf 41 = .ok (.if_icmp .ge 36, 3) := by decide +kernel
theorem dX12_lateOf_44 : decode cX12_lateOf 44 = .ok (.aload_n 0, 1) := by decide +kernel
theorem dX12_lateOf_45 : decode cX12_lateOf 45 = .ok (.iload_n 3, 1) := by decide +kernel
theorem dX12_lateOf_46 : decode cX12_lateOf 46 = .ok (.iload_n 1, 1) := by decide +kernel
theorem dX12_lateOf_47 : decode cX12_lateOf 47 = .ok (.iconst 0, 1) := by decide +kernel
theorem dX12_lateOf_48 : decode cX12_lateOf 48 = .ok (.invokevirtual 219, 3) := by decide +kernel
theorem dX12_lateOf_51 : decode cX12_lateOf 51 = .ok (.iconst 3, 1) := by decide +kernel
theorem dX12_lateOf_52 : decode cX12_lateOf 52 = .ok (.if_icmp .ne 17, 3) := by decide +kernel
theorem dX12_lateOf_55 : decode cX12_lateOf 55 = .ok (.iload_n 2, 1) := by decide +kernel
theorem dX12_lateOf_56 : decode cX12_lateOf 56 = .ok (.aload_n 0, 1) := by decide +kernel
theorem dX12_lateOf_57 : decode cX12_lateOf 57 = .ok (.iload_n 3, 1) := by decide +kernel
theorem dX12_lateOf_58 : decode cX12_lateOf 58 = .ok (.iload_n 1, 1) := by decide +kernel
theorem dX12_lateOf_59 : decode cX12_lateOf 59 = .ok (.iconst 4, 1) := by decide +kernel
theorem dX12_lateOf_60 : decode cX12_lateOf 60 = .ok (.invokevirtual 219, 3) := by decide +kernel
theorem dX12_lateOf_63 : decode cX12_lateOf 63 = .ok (.invokestatic 189, 3) := by decide +kernel
theorem dX12_lateOf_66 : decode cX12_lateOf 66 = .ok (.goto 4, 3) := by decide +kernel
theorem dX12_lateOf_69 : decode cX12_lateOf 69 = .ok (.iload_n 2, 1) := by decide +kernel
theorem dX12_lateOf_70 : decode cX12_lateOf 70 = .ok (.istore_n 2, 1) := by decide +kernel
theorem dX12_lateOf_71 : decode cX12_lateOf 71 = .ok (.iinc 3 1, 3) := by decide +kernel
theorem dX12_lateOf_74 : decode cX12_lateOf 74 = .ok (.goto (-38), 3) := by decide +kernel
theorem dX12_lateOf_77 : decode cX12_lateOf 77 = .ok (.iload_n 2, 1) := by decide +kernel
theorem dX12_lateOf_78 : decode cX12_lateOf 78 = .ok (.aload_n 0, 1) := by decide +kernel
theorem dX12_lateOf_79 : decode cX12_lateOf 79 = .ok (.iload_n 1, 1) := by decide +kernel
theorem dX12_lateOf_80 : decode cX12_lateOf 80 = .ok (.iconst 3, 1) := by decide +kernel
theorem dX12_lateOf_81 : decode cX12_lateOf 81 = .ok (.invokevirtual 84, 3) := by decide +kernel
theorem dX12_lateOf_84 : decode cX12_lateOf 84 = .ok (.isub, 1) := by decide +kernel
theorem dX12_lateOf_85 : decode cX12_lateOf 85 = .ok (.ireturn, 1) := by decide +kernel
theorem dX12_late_0 : decode cX12_late 0 = .ok (.aload_n 0, 1) := by decide +kernel
theorem dX12_late_1 : decode cX12_late 1 = .ok (.iconst 0, 1) := by decide +kernel
theorem dX12_late_2 : decode cX12_late 2 = .ok (.putfield 3, 3) := by decide +kernel
theorem dX12_late_5 : decode cX12_late 5 = .ok (.aload_n 0, 1) := by decide +kernel
theorem dX12_late_6 : decode cX12_late 6 = .ok (.aload_n 0, 1) := by decide +kernel
theorem dX12_late_7 : decode cX12_late 7 = .ok (.iload_n 1, 1) := by decide +kernel
theorem dX12_late_8 : decode cX12_late 8 = .ok (.invokevirtual 310, 3) := by decide +kernel
theorem dX12_late_11 : decode cX12_late 11 = .ok (.iconst 1, 1) := by decide +kernel
theorem dX12_late_12 : decode cX12_late 12 = .ok (.invokevirtual 176, 3) := by decide +kernel
theorem dX12_late_15 : decode cX12_late 15 = .ok (.ifCond .eq 7, 3) := by decide +kernel
theorem dX12_late_18 : decode cX12_late 18 = .ok (.iconst 0, 1) := by decide +kernel
theorem dX12_late_19 : decode cX12_late 19 = .ok (.goto 8, 3) := by decide +kernel
theorem dX12_late_22 : decode cX12_late 22 = .ok (.aload_n 0, 1) := by decide +kernel
theorem dX12_late_23 : decode cX12_late 23 = .ok (.iload_n 1, 1) := by decide +kernel
theorem dX12_late_24 : decode cX12_late 24 = .ok (.invokevirtual 361, 3) := by decide +kernel
theorem dX12_late_27 : decode cX12_late 27 = .ok (.ireturn, 1) := by decide +kernel
theorem dX12_slowest_0 : decode cX12_slowest 0 = .ok (.aload_n 0, 1) := by decide +kernel
theorem dX12_slowest_1 : decode cX12_slowest 1 = .ok (.iconst 0, 1) := by decide +kernel
theorem dX12_slowest_2 : decode cX12_slowest 2 = .ok (.putfield 3, 3) := by decide +kernel
theorem dX12_slowest_5 : decode cX12_slowest 5 = .ok (.iconst (-1), 1) := by decide +kernel
theorem dX12_slowest_6 : decode cX12_slowest 6 = .ok (.istore_n 1, 1) := by decide +kernel
theorem dX12_slowest_7 : decode cX12_slowest 7 = .ok (.iconst (-1), 1) := by decide +kernel
theorem dX12_slowest_8 : decode cX12_slowest 8 = .ok (.istore_n 2, 1) := by decide +kernel
theorem dX12_slowest_9 : decode cX12_slowest 9 = .ok (.iconst 0, 1) := by decide +kernel
theorem dX12_slowest_10 : decode cX12_slowest 10 = .ok (.istore_n 3, 1) := by decide +kernel
theorem dX12_slowest_11 : decode cX12_slowest 11 = .ok (.iload_n 3, 1) := by decide +kernel
theorem dX12_slowest_12 : decode cX12_slowest 12 = .ok (.aload_n 0, 1) := by decide +kernel
theorem dX12_slowest_13 : decode cX12_slowest 13 = .ok (.invokevirtual 74, 3) := by decide +kernel
theorem dX12_slowest_16 : decode cX12_slowest 16 = .ok (.if_icmp .ge 29, 3) := by decide +kernel
theorem dX12_slowest_19 : decode cX12_slowest 19 = .ok (.aload_n 0, 1) := by decide +kernel
theorem dX12_slowest_20 : decode cX12_slowest 20 = .ok (.iload_n 3, 1) := by decide +kernel
theorem dX12_slowest_21 : decode cX12_slowest 21 = .ok (.invokevirtual 361, 3) := by decide +kernel
theorem dX12_slowest_24 : decode cX12_slowest 24 = .ok (.iload_n 2, 1) := by decide +kernel
theorem dX12_slowest_25 : decode cX12_slowest 25 = .ok (.if_icmp .gt 6, 3) := by decide +kernel
theorem dX12_slowest_28 : decode cX12_slowest 28 = .ok (.goto 11, 3) := by decide +kernel
theorem dX12_slowest_31 : decode cX12_slowest 31 = .ok (.aload_n 0, 1) := by decide +kernel
theorem dX12_slowest_32 : decode cX12_slowest 32 = .ok (.iload_n 3, 1) := by decide +kernel
theorem dX12_slowest_33 : decode cX12_slowest 33 = .ok (.invokevirtual 361, 3) := by decide +kernel
theorem dX12_slowest_36 : decode cX12_slowest 36 = .ok (.istore_n 2, 1) := by decide +kernel
theorem dX12_slowest_37 : decode cX12_slowest 37 = .ok (.iload_n 3, 1) := by decide +kernel
theorem dX12_slowest_38 : decode cX12_slowest 38 = .ok (.istore_n 1, 1) := by decide +kernel
theorem dX12_slowest_39 : decode cX12_slowest 39 = .ok (.iinc 3 1, 3) := by decide +kernel
theorem dX12_slowest_42 : decode cX12_slowest 42 = .ok (.goto (-31), 3) := by decide +kernel
theorem dX12_slowest_45 : decode cX12_slowest 45 = .ok (.iload_n 1, 1) := by decide +kernel
theorem dX12_slowest_46 : decode cX12_slowest 46 = .ok (.ireturn, 1) := by decide +kernel
theorem dX12_lag_0 : decode cX12_lag 0 = .ok (.aload_n 0, 1) := by decide +kernel
theorem dX12_lag_1 : decode cX12_lag 1 = .ok (.iconst 0, 1) := by decide +kernel
theorem dX12_lag_2 : decode cX12_lag 2 = .ok (.putfield 3, 3) := by decide +kernel
theorem dX12_lag_5 : decode cX12_lag 5 = .ok (.aload_n 0, 1) := by decide +kernel
theorem dX12_lag_6 : decode cX12_lag 6 = .ok (.aload_n 0, 1) := by decide +kernel
theorem dX12_lag_7 : decode cX12_lag 7 = .ok (.iload_n 1, 1) := by decide +kernel
theorem dX12_lag_8 : decode cX12_lag 8 = .ok (.invokevirtual 296, 3) := by decide +kernel
theorem dX12_lag_11 : decode cX12_lag 11 = .ok (.iconst 1, 1) := by decide +kernel
theorem dX12_lag_12 : decode cX12_lag 12 = .ok (.invokevirtual 176, 3) := by decide +kernel
theorem dX12_lag_15 : decode cX12_lag 15 = .ok (.ifCond .eq 5, 3) := by decide +kernel
theorem dX12_lag_18 : decode cX12_lag 18 = .ok (.iconst 0, 1) := by decide +kernel
theorem dX12_lag_19 : decode cX12_lag 19 = .ok (.ireturn, 1) := by decide +kernel
theorem dX12_lag_20 : decode cX12_lag 20 = .ok (.iconst 0, 1) := by decide +kernel
theorem dX12_lag_21 : decode cX12_lag 21 = .ok (.istore_n 2, 1) := by decide +kernel
theorem dX12_lag_22 : decode cX12_lag 22 = .ok (.iconst 0, 1) := by decide +kernel
theorem dX12_lag_23 : decode cX12_lag 23 = .ok (.istore_n 3, 1) := by decide +kernel
theorem dX12_lag_24 : decode cX12_lag 24 = .ok (.iload_n 3, 1) := by decide +kernel
theorem dX12_lag_25 : decode cX12_lag 25 = .ok (.aload_n 0, 1) := by decide +kernel
theorem dX12_lag_26 : decode cX12_lag 26 = .ok (.invokevirtual 74, 3) := by decide +kernel
theorem dX12_lag_29 : decode cX12_lag 29 = .ok (.if_icmp .ge 39, 3) := by decide +kernel
theorem dX12_lag_32 : decode cX12_lag 32 = .ok (.iload_n 2, 1) := by decide +kernel
theorem dX12_lag_33 : decode cX12_lag 33 = .ok (.aload_n 0, 1) := by decide +kernel
theorem dX12_lag_34 : decode cX12_lag 34 = .ok (.iload_n 3, 1) := by decide +kernel
theorem dX12_lag_35 : decode cX12_lag 35 = .ok (.iload_n 1, 1) := by decide +kernel
theorem dX12_lag_36 : decode cX12_lag 36 = .ok (.invokevirtual 196, 3) := by decide +kernel
theorem dX12_lag_39 : decode cX12_lag 39 = .ok (.ifCond .eq 20, 3) := by decide +kernel
theorem dX12_lag_42 : decode cX12_lag 42 = .ok (.aload_n 0, 1) := by decide +kernel
theorem dX12_lag_43 : decode cX12_lag 43 = .ok (.iload_n 1, 1) := by decide +kernel
theorem dX12_lag_44 : decode cX12_lag 44 = .ok (.iload_n 3, 1) := by decide +kernel
theorem dX12_lag_45 : decode cX12_lag 45 = .ok (.iconst 0, 1) := by decide +kernel
theorem dX12_lag_46 : decode cX12_lag 46 = .ok (.invokevirtual 219, 3) := by decide +kernel
theorem dX12_lag_49 : decode cX12_lag 49 = .ok (.iconst 3, 1) := by decide +kernel
theorem dX12_lag_50 : decode cX12_lag 50 = .ok (.if_icmp .eq 9, 3) := by decide +kernel
theorem dX12_lag_53 : decode cX12_lag 53 = .ok (.iconst 1, 1) := by decide +kernel
theorem dX12_lag_54 : decode cX12_lag 54 = .ok (.iload_n 3, 1) := by decide +kernel
theorem dX12_lag_55 : decode cX12_lag 55 = .ok (.ishl, 1) := by decide +kernel
theorem dX12_lag_56 : decode cX12_lag 56 = .ok (.goto 4, 3) := by decide +kernel
theorem dX12_lag_59 : decode cX12_lag 59 = .ok (.iconst 0, 1) := by decide +kernel
theorem dX12_lag_60 : decode cX12_lag 60 = .ok (.ior, 1) := by decide +kernel
theorem dX12_lag_61 : decode cX12_lag 61 = .ok (.istore_n 2, 1) := by decide +kernel
theorem dX12_lag_62 : decode cX12_lag 62 = .ok (.iinc 3 1, 3) := by decide +kernel
theorem dX12_lag_65 : decode cX12_lag 65 = .ok (.goto (-41), 3) := by decide +kernel
theorem dX12_lag_68 : decode cX12_lag 68 = .ok (.iload_n 2, 1) := by decide +kernel
theorem dX12_lag_69 : decode cX12_lag 69 = .ok (.ireturn, 1) := by decide +kernel
theorem dX12_knot_0 : decode cX12_knot 0 = .ok (.aload_n 0, 1) := by decide +kernel
theorem dX12_knot_1 : decode cX12_knot 1 = .ok (.iconst 0, 1) := by decide +kernel
theorem dX12_knot_2 : decode cX12_knot 2 = .ok (.putfield 3, 3) := by decide +kernel
theorem dX12_knot_5 : decode cX12_knot 5 = .ok (.aload_n 0, 1) := by decide +kernel
theorem dX12_knot_6 : decode cX12_knot 6 = .ok (.aload_n 0, 1) := by decide +kernel
theorem dX12_knot_7 : decode cX12_knot 7 = .ok (.iload_n 1, 1) := by decide +kernel
theorem dX12_knot_8 : decode cX12_knot 8 = .ok (.invokevirtual 299, 3) := by decide +kernel
theorem dX12_knot_11 : decode cX12_knot 11 = .ok (.ifCond .ne 11, 3) := by decide +kernel
theorem dX12_knot_14 : decode cX12_knot 14 = .ok (.aload_n 0, 1) := by decide +kernel
theorem dX12_knot_15 : decode cX12_knot 15 = .ok (.iload_n 2, 1) := by decide +kernel
theorem dX12_knot_16 : decode cX12_knot 16 = .ok (.invokevirtual 299, 3) := by decide +kernel
theorem dX12_knot_19 : decode cX12_knot 19 = .ok (.ifCond .eq 7, 3) := by decide +kernel
theorem dX12_knot_22 : decode cX12_knot 22 = .ok (.iconst 1, 1) := by decide +kernel
theorem dX12_knot_23 : decode cX12_knot 23 = .ok (.goto 4, 3) := by decide +kernel
theorem dX12_knot_26 : decode cX12_knot 26 = .ok (.iconst 0, 1) := by decide +kernel
theorem dX12_knot_27 : decode cX12_knot 27 = .ok (.iconst 1, 1) := by decide +kernel
theorem dX12_knot_28 : decode cX12_knot 28 = .ok (.invokevirtual 176, 3) := by decide +kernel
theorem dX12_knot_31 : decode cX12_knot 31 = .ok (.ifCond .ne 21, 3) := by decide +kernel
theorem dX12_knot_34 : decode cX12_knot 34 = .ok (.aload_n 0, 1) := by decide +kernel
theorem dX12_knot_35 : decode cX12_knot 35 = .ok (.iload_n 1, 1) := by decide +kernel
theorem dX12_knot_36 : decode cX12_knot 36 = .ok (.iload_n 2, 1) := by decide +kernel
theorem dX12_knot_37 : decode cX12_knot 37 = .ok (.if_icmp .ne 7, 3) := by decide +kernel
theorem dX12_knot_40 : decode cX12_knot 40 = .ok (.iconst 1, 1) := by decide +kernel
theorem dX12_knot_41 : decode cX12_knot 41 = .ok (.goto 4, 3) := by decide +kernel
theorem dX12_knot_44 : decode cX12_knot 44 = .ok (.iconst 0, 1) := by decide +kernel
theorem dX12_knot_45 : decode cX12_knot 45 = .ok (.iconst 2, 1) := by decide +kernel
theorem dX12_knot_46 : decode cX12_knot 46 = .ok (.invokevirtual 176, 3) := by decide +kernel
theorem dX12_knot_49 : decode cX12_knot 49 = .ok (.ifCond .eq 5, 3) := by decide +kernel
theorem dX12_knot_52 : decode cX12_knot 52 = .ok (.iconst 0, 1) := by decide +kernel
theorem dX12_knot_53 : decode cX12_knot 53 = .ok (.ireturn, 1) := by decide +kernel
theorem dX12_knot_54 : decode cX12_knot 54 = .ok (.aload_n 0, 1) := by decide +kernel
theorem dX12_knot_55 : decode cX12_knot 55 = .ok (.getfield 13, 3) := by decide +kernel
theorem dX12_knot_58 : decode cX12_knot 58 = .ok (.bipush 11, 2) := by decide +kernel
theorem dX12_knot_60 : decode cX12_knot 60 = .ok (.iload_n 1, 1) := by decide +kernel
theorem dX12_knot_61 : decode cX12_knot 61 = .ok (.iadd, 1) := by decide +kernel
theorem dX12_knot_62 : decode cX12_knot 62 = .ok (.iaload, 1) := by decide +kernel
theorem dX12_knot_63 : decode cX12_knot 63 = .ok (.aload_n 0, 1) := by decide +kernel
theorem dX12_knot_64 : decode cX12_knot 64 = .ok (.getfield 13, 3) := by decide +kernel
theorem dX12_knot_67 : decode cX12_knot 67 = .ok (.bipush 11, 2) := by decide +kernel
theorem dX12_knot_69 : decode cX12_knot 69 = .ok (.iload_n 2, 1) := by decide +kernel
theorem dX12_knot_70 : decode cX12_knot 70 = .ok (.iadd, 1) := by decide +kernel
theorem dX12_knot_71 : decode cX12_knot 71 = .ok (.iaload, 1) := by decide +kernel
theorem dX12_knot_72 : decode cX12_knot 72 = .ok (.iand, 1) := by decide +kernel
theorem dX12_knot_73 : decode cX12_knot 73 = .ok (.ireturn, 1) := by decide +kernel
theorem dX12_isRing_0 : decode cX12_isRing 0 = .ok (.aload_n 0, 1) := by decide +kernel
theorem dX12_isRing_1 : decode cX12_isRing 1 = .ok (.getfield 13, 3) := by decide +kernel
theorem dX12_isRing_4 : decode cX12_isRing 4 = .ok (.bipush 11, 2) := by decide +kernel
theorem dX12_isRing_6 : decode cX12_isRing 6 = .ok (.iload_n 1, 1) := by decide +kernel
theorem dX12_isRing_7 : decode cX12_isRing 7 = .ok (.iadd, 1) := by decide +kernel
theorem dX12_isRing_8 : decode cX12_isRing 8 = .ok (.iaload, 1) := by decide +kernel
theorem dX12_isRing_9 : decode cX12_isRing 9 = .ok (.istore 4, 2) := by decide +kernel
theorem dX12_isRing_11 : decode cX12_isRing 11 = .ok (.aload_n 0, 1) := by decide +kernel
theorem dX12_isRing_12 : decode cX12_isRing 12 = .ok (.getfield 13, 3) := by decide +kernel
theorem dX12_isRing_15 : decode cX12_isRing 15 = .ok (.bipush 11, 2) := by decide +kernel
theorem dX12_isRing_17 : decode cX12_isRing 17 = .ok (.iload_n 2, 1) := by decide +kernel
theorem dX12_isRing_18 : decode cX12_isRing 18 = .ok (.iadd, 1) := by decide +kernel
theorem dX12_isRing_19 : decode cX12_isRing 19 = .ok (.iaload, 1) := by decide +kernel
theorem dX12_isRing_20 : decode cX12_isRing 20 = .ok (.istore 5, 2) := by decide +kernel
theorem dX12_isRing_22 : decode cX12_isRing 22 = .ok (.aload_n 0, 1) := by decide +kernel
theorem dX12_isRing_23 : decode cX12_isRing 23 = .ok (.getfield 13, 3) := by decide +kernel
theorem dX12_isRing_26 : decode cX12_isRing 26 = .ok (.bipush 11, 2) := by decide +kernel
theorem dX12_isRing_28 : decode cX12_isRing 28 = .ok (.iload_n 3, 1) := by decide +kernel
theorem dX12_isRing_29 : decode cX12_isRing 29 = .ok (.iadd, 1) := by decide +kernel
theorem dX12_isRing_30 : decode cX12_isRing 30 = .ok (.iaload, 1) := by decide +kernel
theorem dX12_isRing_31 : decode cX12_isRing 31 = .ok (.istore 6, 2) := by decide +kernel
theorem dX12_isRing_33 : decode cX12_isRing 33 = .ok (.iload 4, 2) := by decide +kernel
theorem dX12_isRing_35 : decode cX12_isRing 35 = .ok (.iload 5, 2) := by decide +kernel
theorem dX12_isRing_37 : decode cX12_isRing 37 = .ok (.iand, 1) := by decide +kernel
theorem dX12_isRing_38 : decode cX12_isRing 38 = .ok (.ifCond .eq 34, 3) := by decide +kernel
theorem dX12_isRing_41 : decode cX12_isRing 41 = .ok (.iload 5, 2) := by decide +kernel
theorem dX12_isRing_43 : decode cX12_isRing 43 = .ok (.iload 6, 2) := by decide +kernel
theorem dX12_isRing_45 : decode cX12_isRing 45 = .ok (.iand, 1) := by decide +kernel
theorem dX12_isRing_46 : decode cX12_isRing 46 = .ok (.ifCond .eq 26, 3) := by decide +kernel
theorem dX12_isRing_49 : decode cX12_isRing 49 = .ok (.iload 4, 2) := by decide +kernel
theorem dX12_isRing_51 : decode cX12_isRing 51 = .ok (.iload 6, 2) := by decide +kernel
theorem dX12_isRing_53 : decode cX12_isRing 53 = .ok (.iand, 1) := by decide +kernel
theorem dX12_isRing_54 : decode cX12_isRing 54 = .ok (.ifCond .eq 18, 3) := by decide +kernel
theorem dX12_isRing_57 : decode cX12_isRing 57 = .ok (.iload 4, 2) := by decide +kernel
theorem dX12_isRing_59 : decode cX12_isRing 59 = .ok (.iload 5, 2) := by decide +kernel
theorem dX12_isRing_61 : decode cX12_isRing 61 = .ok (.iand, 1) := by decide +kernel
theorem dX12_isRing_62 : decode cX12_isRing 62 = .ok (.iload 6, 2) := by decide +kernel
theorem dX12_isRing_64 : decode cX12_isRing 64 = .ok (.iand, 1) := by decide +kernel
theorem dX12_isRing_65 : decode cX12_isRing 65 = .ok (.ifCond .ne 7, 3) := by decide +kernel
theorem dX12_isRing_68 : decode cX12_isRing 68 = .ok (.iconst 1, 1) := by decide +kernel
theorem dX12_isRing_69 : decode cX12_isRing 69 = .ok (.goto 4, 3) := by decide +kernel
theorem dX12_isRing_72 : decode cX12_isRing 72 = .ok (.iconst 0, 1) := by decide +kernel
theorem dX12_isRing_73 : decode cX12_isRing 73 = .ok (.ireturn, 1) := by decide +kernel
theorem dX12_ring_0 : decode cX12_ring 0 = .ok (.aload_n 0, 1) := by decide +kernel
theorem dX12_ring_1 : decode cX12_ring 1 = .ok (.iconst 0, 1) := by decide +kernel
theorem dX12_ring_2 : decode cX12_ring 2 = .ok (.putfield 3, 3) := by decide +kernel
theorem dX12_ring_5 : decode cX12_ring 5 = .ok (.aload_n 0, 1) := by decide +kernel
theorem dX12_ring_6 : decode cX12_ring 6 = .ok (.getfield 13, 3) := by decide +kernel
theorem dX12_ring_9 : decode cX12_ring 9 = .ok (.iconst 1, 1) := by decide +kernel
theorem dX12_ring_10 : decode cX12_ring 10 = .ok (.iaload, 1) := by decide +kernel
theorem dX12_ring_11 : decode cX12_ring 11 = .ok (.istore_n 1, 1) := by decide +kernel
theorem dX12_ring_12 : decode cX12_ring 12 = .ok (.iconst 0, 1) := by decide +kernel
theorem dX12_ring_13 : decode cX12_ring 13 = .ok (.istore_n 2, 1) := by decide +kernel
theorem dX12_ring_14 : decode cX12_ring 14 = .ok (.iload_n 2, 1) := by decide +kernel
theorem dX12_ring_15 : decode cX12_ring 15 = .ok (.iload_n 1, 1) := by decide +kernel
theorem dX12_ring_16 : decode cX12_ring 16 = .ok (.if_icmp .ge 65, 3) := by decide +kernel
theorem dX12_ring_19 : decode cX12_ring 19 = .ok (.iload_n 2, 1) := by decide +kernel
theorem dX12_ring_20 : decode cX12_ring 20 = .ok (.iconst 1, 1) := by decide +kernel
theorem dX12_ring_21 : decode cX12_ring 21 = .ok (.iadd, 1) := by decide +kernel
theorem dX12_ring_22 : decode cX12_ring 22 = .ok (.istore_n 3, 1) := by decide +kernel
theorem dX12_ring_23 : decode cX12_ring 23 = .ok (.iload_n 3, 1) := by decide +kernel
theorem dX12_ring_24 : decode cX12_ring 24 = .ok (.iload_n 1, 1) := by decide +kernel
theorem dX12_ring_25 : decode cX12_ring 25 = .ok (.if_icmp .ge 50, 3) := by decide +kernel
theorem dX12_ring_28 : decode cX12_ring 28 = .ok (.iload_n 3, 1) := by decide +kernel
theorem dX12_ring_29 : decode cX12_ring 29 = .ok (.iconst 1, 1) := by decide +kernel
theorem dX12_ring_30 : decode cX12_ring 30 = .ok (.iadd, 1) := by decide +kernel
theorem dX12_ring_31 : decode cX12_ring 31 = .ok (.istore 4, 2) := by decide +kernel
theorem dX12_ring_33 : decode cX12_ring 33 = .ok (.iload 4, 2) := by decide +kernel
theorem dX12_ring_35 : decode cX12_ring 35 = .ok (.iload_n 1, 1) := by decide +kernel
theorem dX12_ring_36 : decode cX12_ring 36 = .ok (.if_icmp .ge 33, 3) := by decide +kernel
theorem dX12_ring_39 : decode cX12_ring 39 = .ok (.aload_n 0, 1) := by decide +kernel
theorem dX12_ring_40 : decode cX12_ring 40 = .ok (.iload_n 2, 1) := by decide +kernel
theorem dX12_ring_41 : decode cX12_ring 41 = .ok (.iload_n 3, 1) := by decide +kernel
theorem dX12_ring_42 : decode cX12_ring 42 = .ok (.iload 4, 2) := by decide +kernel
theorem dX12_ring_44 : decode cX12_ring 44 = .ok (.invokevirtual 364, 3) := by decide +kernel
theorem dX12_ring_47 : decode cX12_ring 47 = .ok (.ifCond .eq 16, 3) := by decide +kernel
theorem dX12_ring_50 : decode cX12_ring 50 = .ok (.iconst 1, 1) := by decide +kernel
theorem dX12_ring_51 : decode cX12_ring 51 = .ok (.iload_n 2, 1) := by decide +kernel
theorem dX12_ring_52 : decode cX12_ring 52 = .ok (.ishl, 1) := by decide +kernel
theorem dX12_ring_53 : decode cX12_ring 53 = .ok (.iconst 1, 1) := by decide +kernel
theorem dX12_ring_54 : decode cX12_ring 54 = .ok (.iload_n 3, 1) := by decide +kernel
theorem dX12_ring_55 : decode cX12_ring 55 = .ok (.ishl, 1) := by decide +kernel
theorem dX12_ring_56 : decode cX12_ring 56 = .ok (.ior, 1) := by decide +kernel
theorem dX12_ring_57 : decode cX12_ring 57 = .ok (.iconst 1, 1) := by decide +kernel
theorem dX12_ring_58 : decode cX12_ring 58 = .ok (.iload 4, 2) := by decide +kernel
theorem dX12_ring_60 : decode cX12_ring 60 = .ok (.ishl, 1) := by decide +kernel
theorem dX12_ring_61 : decode cX12_ring 61 = .ok (.ior, 1) := by decide +kernel
theorem dX12_ring_62 : decode cX12_ring 62 = .ok (.ireturn, 1) := by decide +kernel
theorem dX12_ring_63 : decode cX12_ring 63 = .ok (.iinc 4 1, 3) := by decide +kernel
theorem dX12_ring_66 : decode cX12_ring 66 = .ok (.goto (-33), 3) := by decide +kernel
theorem dX12_ring_69 : decode cX12_ring 69 = .ok (.iinc 3 1, 3) := by decide +kernel
theorem dX12_ring_72 : decode cX12_ring 72 = .ok (.goto (-49), 3) := by decide +kernel
theorem dX12_ring_75 : decode cX12_ring 75 = .ok (.iinc 2 1, 3) := by decide +kernel
theorem dX12_ring_78 : decode cX12_ring 78 = .ok (.goto (-64), 3) := by decide +kernel
theorem dX12_ring_81 : decode cX12_ring 81 = .ok (.iconst (-1), 1) := by decide +kernel
theorem dX12_ring_82 : decode cX12_ring 82 = .ok (.ireturn, 1) := by decide +kernel
theorem dX12_spared_0 : decode cX12_spared 0 = .ok (.aload_n 0, 1) := by decide +kernel
theorem dX12_spared_1 : decode cX12_spared 1 = .ok (.iconst 0, 1) := by decide +kernel
theorem dX12_spared_2 : decode cX12_spared 2 = .ok (.putfield 3, 3) := by decide +kernel
theorem dX12_spared_5 : decode cX12_spared 5 = .ok (.aload_n 0, 1) := by decide +kernel
theorem dX12_spared_6 : decode cX12_spared 6 = .ok (.aload_n 0, 1) := by decide +kernel
theorem dX12_spared_7 : decode cX12_spared 7 = .ok (.iload_n 1, 1) := by decide +kernel
theorem dX12_spared_8 : decode cX12_spared 8 = .ok (.invokevirtual 310, 3) := by decide +kernel
theorem dX12_spared_11 : decode cX12_spared 11 = .ok (.iconst 1, 1) := by decide +kernel
theorem dX12_spared_12 : decode cX12_spared 12 = .ok (.invokevirtual 176, 3) := by decide +kernel
theorem dX12_spared_15 : decode cX12_spared 15 = .ok (.ifCond .eq 5, 3) := by decide +kernel
theorem dX12_spared_18 : decode cX12_spared 18 = .ok (.iconst 0, 1) := by decide +kernel
theorem dX12_spared_19 : decode cX12_spared 19 = .ok (.ireturn, 1) := by decide +kernel
theorem dX12_spared_20 : decode cX12_spared 20 = .ok (.iconst 3, 1) := by decide +kernel
theorem dX12_spared_21 : decode cX12_spared 21 = .ok (.aload_n 0, 1) := by decide +kernel
theorem dX12_spared_22 : decode cX12_spared 22 = .ok (.iload_n 1, 1) := by decide +kernel
theorem dX12_spared_23 : decode cX12_spared 23 = .ok (.iconst 1, 1) := by decide +kernel
theorem dX12_spared_24 : decode cX12_spared 24 = .ok (.invokevirtual 84, 3) := by decide +kernel
theorem dX12_spared_27 : decode cX12_spared 27 = .ok (.invokestatic 305, 3) := by decide +kernel
theorem dX12_spared_30 : decode cX12_spared 30 = .ok (.imul, 1) := by decide +kernel
theorem dX12_spared_31 : decode cX12_spared 31 = .ok (.aload_n 0, 1) := by decide +kernel
theorem dX12_spared_32 : decode cX12_spared 32 = .ok (.iload_n 1, 1) := by decide +kernel
theorem dX12_spared_33 : decode cX12_spared 33 = .ok (.iconst 2, 1) := by decide +kernel
theorem dX12_spared_34 : decode cX12_spared 34 = .ok (.invokevirtual 84, 3) := by decide +kernel
theorem dX12_spared_37 : decode cX12_spared 37 = .ok (.isub, 1) := by decide +kernel
theorem dX12_spared_38 : decode cX12_spared 38 = .ok (.ireturn, 1) := by decide +kernel
section S_16_m06
variable {p : Program} {l : Launch} {e : Env} {R : Room} {s : State} {m : MethodId} {args : Array Value} {below : List Frame} {meth : Method} {c : Code} {A : Nat → Prop} {D : va_G} {cI cB cL : ClassId} {ad : Nat → Nat} {pa pl : Nat}
noncomputable def fX12_upOnes_28 (K4 : Int32 → Int32 → Option Int32) (x2 : Int32) (t0 : Int32) (t1 : Int32) (u : Sg) : Option Int32 := bnd (t1 ||| t0) (fun v7 => bnd (x2 + 1) (fun v8 => K4 v7 v8))
noncomputable def fX12_upOnes_4 (u : Sg) : Nat → Int32 → Int32 → Option Int32
  | 0, _, _ => none
  | n + 1, x1, x2 => obr (fX12_nodes u) (fun r2 => cnd (r2 ≤ x2) (some x1) (obr (fX12_isUp x2 u) (fun r5 => cnd (r5 = 0) (fX12_upOnes_28 (fun a0 a1 => fX12_upOnes_4 u n a0 a1) x2 0 x1 u) (fX12_upOnes_28 (fun a0 a1 => fX12_upOnes_4 u n a0 a1) x2 ((1 : Int32) <<< ((x2 &&& 31 : Int32))) x1 u))))
noncomputable def fX12_upOnes_0 (u : Sg) : Option Int32 := fX12_upOnes_4 u FU 0 0
noncomputable def fX12_upOnes (u : Sg) : Option Int32 := fX12_upOnes_0 u
set_option maxRecDepth 10000 in
set_option maxHeartbeats 4000000 in
theorem wX12_upOnes_28 (C : cx D (tyl cI cB cL) A RX12 cX12_upOnes 3 (some .int) p s m args c meth) (hR : 3 ≤ R.frames ∧ 64 ≤ R.locals) {r : Int32} (u : Sg) {K4 : Int32 → Int32 → Option Int32} (hK4 : ∀ (y1 : Int32) (y2 : Int32) (H : Heap) (locs : List Loc) (ls : Array Slot), lv_has ls 3 [(0, .ref (ad 0)), (1, .int y1), (2, .int y2)] → st D (wM cI cB ad) A s u H locs → K4 y1 y2 = some r → W p l e R s m args below meth c H locs 0 0 (MQ below (qI D (tyl cI cB cL) (wM cI cB ad) A r u) args s 0 0 A) (F0 m 4 ls [])) (x2 : Int32) (t0 : Int32) (t1 : Int32) {H : Heap} {locs : List Loc} {ls : Array Slot} (hl : lv_has ls 3 [(0, .ref (ad 0)), (2, .int x2)]) (S : st D (wM cI cB ad) A s u H locs) (h : fX12_upOnes_28 K4 x2 t0 t1 u = some r) : W p l e R s m args below meth c H locs 0 0 (MQ below (qI D (tyl cI cB cL) (wM cI cB ad) A r u) args s 0 0 A) (F0 m 28 ls [.int t0, .int t1]) := by
  have hx := C.1
  have hb := C.2.1
  have hsz := hl.1
  unfold fX12_upOnes_28 at h
  refine lv_ior hx hb dX12_upOnes_28 ?_
  refine lv_topi (fun v7 ev7 => ?_)
  have h := bnd_of ev7 h
  refine lv_istore_n (lv' := [(1, .int v7), (0, .ref (ad 0)), (2, .int x2)]) hx hb dX12_upOnes_29 rfl hl (by decide) rfl (fun ls hl => ?_)
  have hsz := hl.1
  obtain ⟨v8, ev8⟩ : ∃ y : Int32, y = x2 + 1 := ⟨_, rfl⟩
  have h := bnd_of ev8 h
  refine lv_iinc (v := v8) (lv' := [(2, .int v8), (1, .int v7), (0, .ref (ad 0))]) hx hb dX12_upOnes_30 hl (k := 2) rfl (by rw [ev8]; rfl) (by decide) rfl (fun ls hl => ?_)
  have hsz := hl.1
  refine lv_goto (tgt := 4) hx hb dX12_upOnes_33 (by decide) ?_
  exact hK4 v7 v8 H locs ls (lv_sub hl [2, 1, 0] rfl) S h
set_option maxRecDepth 10000 in
set_option maxHeartbeats 4000000 in
theorem wX12_upOnes_4 (C : cx D (tyl cI cB cL) A RX12 cX12_upOnes 3 (some .int) p s m args c meth) (hR : 3 ≤ R.frames ∧ 64 ≤ R.locals) {r : Int32} (u : Sg) : ∀ (n : Nat) (x1 : Int32) (x2 : Int32) (H : Heap) (locs : List Loc) (ls : Array Slot), lv_has ls 3 [(0, .ref (ad 0)), (1, .int x1), (2, .int x2)] → st D (wM cI cB ad) A s u H locs → fX12_upOnes_4 u n x1 x2 = some r → W p l e R s m args below meth c H locs 0 0 (MQ below (qI D (tyl cI cB cL) (wM cI cB ad) A r u) args s 0 0 A) (F0 m 4 ls []) := by
  have hx := C.1
  have hb := C.2.1
  intro n
  induction n with
  | zero =>
    intro x1 x2 H locs ls hl S h
    cases h
  | succ n ih =>
    intro x1 x2 H locs ls hl S h
    rw [fX12_upOnes_4] at h
    have hsz := hl.1
    refine lv_iload_n hx hb dX12_upOnes_4 rfl (lv_at hl 2 rfl) ?_
    refine lv_aload_n hx hb dX12_upOnes_5 rfl (lv_at hl 0 rfl) ?_
    obtain ⟨r2, h1, h⟩ := obr_some h
    refine q_callVi (As := []) (na := 0) C S (oM0 cI cB ad) rfl (ct_X12_nodes l D cI cB cL ad u h1) mw_24 mw_23 mw_25 mw_5 mw_22 hdX12_nodes ⟨Nat.le_trans (Nat.le_of_ble_eq_true rfl) hR.1, Nat.le_trans (Nat.le_of_ble_eq_true rfl) hR.2⟩ rfl hsz ⟨Nat.zero_le _, Nat.zero_le _⟩ (Nat.le_of_ble_eq_true rfl) dX12_upOnes_6 rfl (fun H locs S => ?_)
    refine lv_icmp_ge (tgt := 36) hx hb dX12_upOnes_9 (by decide) (fun c3 => ?_) (fun c3 => ?_)
    · have h := cnd_t c3 h
      refine lv_iload_n hx hb dX12_upOnes_36 rfl (lv_at hl 1 rfl) ?_
      exact q_iret C S (rt_R h) dX12_upOnes_37
    · have h := cnd_f c3 h
      refine lv_iload_n hx hb dX12_upOnes_12 rfl (lv_at hl 1 rfl) ?_
      refine lv_aload_n hx hb dX12_upOnes_13 rfl (lv_at hl 0 rfl) ?_
      refine lv_iload_n hx hb dX12_upOnes_14 rfl (lv_at hl 2 rfl) ?_
      obtain ⟨r5, h4, h⟩ := obr_some h
      refine q_callVi (As := [.int x2]) (na := 1) C S (oM0 cI cB ad) rfl (ct_X12_isUp l D cI cB cL ad x2 u h4) mw_39 mw_38 mw_40 mw_5 mw_37 hdX12_isUp ⟨Nat.le_trans (Nat.le_of_ble_eq_true rfl) hR.1, Nat.le_trans (Nat.le_of_ble_eq_true rfl) hR.2⟩ rfl hsz ⟨Nat.zero_le _, Nat.zero_le _⟩ (Nat.le_of_ble_eq_true rfl) dX12_upOnes_15 rfl (fun H locs S => ?_)
      refine lv_if_eq (tgt := 27) hx hb dX12_upOnes_18 (by decide) (fun c6 => ?_) (fun c6 => ?_)
      · have h := cnd_t c6 h
        refine lv_iconst (v := 0) hx hb dX12_upOnes_27 (by decide) ?_
        exact wX12_upOnes_28 C hR u ih x2 0 x1 (lv_sub hl [0, 2] rfl) S h
      · have h := cnd_f c6 h
        refine lv_iconst (v := 1) hx hb dX12_upOnes_21 (by decide) ?_
        refine lv_iload_n hx hb dX12_upOnes_22 rfl (lv_at hl 2 rfl) ?_
        refine lv_ishl hx hb dX12_upOnes_23 ?_
        refine lv_goto (tgt := 28) hx hb dX12_upOnes_24 (by decide) ?_
        exact wX12_upOnes_28 C hR u ih x2 ((1 : Int32) <<< ((x2 &&& 31 : Int32))) x1 (lv_sub hl [0, 2] rfl) S h
set_option maxRecDepth 10000 in
set_option maxHeartbeats 4000000 in
theorem wX12_upOnes_0 (C : cx D (tyl cI cB cL) A RX12 cX12_upOnes 3 (some .int) p s m args c meth) (hR : 3 ≤ R.frames ∧ 64 ≤ R.locals) {r : Int32} (u : Sg) {H : Heap} {locs : List Loc} {ls : Array Slot} (hl : lv_has ls 3 [(0, .ref (ad 0))]) (S : st D (wM cI cB ad) A s u H locs) (h : fX12_upOnes_0 u = some r) : W p l e R s m args below meth c H locs 0 0 (MQ below (qI D (tyl cI cB cL) (wM cI cB ad) A r u) args s 0 0 A) (F0 m 0 ls []) := by
  have hx := C.1
  have hb := C.2.1
  have hsz := hl.1
  unfold fX12_upOnes_0 at h
  refine lv_iconst (v := 0) hx hb dX12_upOnes_0 (by decide) ?_
  refine lv_istore_n (lv' := [(1, .int 0), (0, .ref (ad 0))]) hx hb dX12_upOnes_1 rfl hl (by decide) rfl (fun ls hl => ?_)
  have hsz := hl.1
  refine lv_iconst (v := 0) hx hb dX12_upOnes_2 (by decide) ?_
  refine lv_istore_n (lv' := [(2, .int 0), (1, .int 0), (0, .ref (ad 0))]) hx hb dX12_upOnes_3 rfl hl (by decide) rfl (fun ls hl => ?_)
  have hsz := hl.1
  exact wX12_upOnes_4 C hR u FU 0 0 H locs ls (lv_sub hl [2, 1, 0] rfl) S h
set_option maxRecDepth 10000 in
set_option maxHeartbeats 4000000 in
theorem ct_X12_upOnes (l : Launch) (D : va_G) (cI cB cL : ClassId) (ad : Nat → Nat) (u : Sg) {r : Int32} (h : fX12_upOnes u = some r) : metI l D (tyl cI cB cL) yX12_upOnes cX12_upOnes 3 (some .int) 3 64 (wM cI cB ad) [.ref (ad 0)] u r u := by
  intro sz
  refine Met.ofW (cc := cX12_upOnes) (maxL := 3) (ret := (some .int)) (by decide) rfl ?_
  intro p e s m args below meth c s₁ B hml hv
  obtain ⟨rfl, C, S⟩ := q_entry B hml hv
  have hl := lv_entry ([.ref (ad 0)]) (n := 3) (Nat.le_of_ble_eq_true rfl)
  rw [lg_entry_eq]
  generalize (lg_sl ([.ref (ad 0)]) ++ List.replicate (3 - (lg_sl ([.ref (ad 0)])).length) Slot.unset).toArray = ls at hl ⊢
  exact wX12_upOnes_0 C ⟨Nat.le_refl _, Nat.le_refl _⟩ u (lv_sub hl [0] rfl) S h
noncomputable def fX12_after_28 (x2 : Int32) (u : Sg) : Option (Int32 × Sg) := obr (fX12_goesOn 120 u) (fun u11 => obr (fX12_deliveredBy x2 u11) (fun r13 => obr (fX12_upOnes u11) (fun r15 => obr (fX12_ofMessage x2 1 u11) (fun r17 => bnd ((r13 &&& r15) &&& r17) (fun v18 => obr (fX12_endsAhead u11) (fun u20 => some (v18, u20)))))))
noncomputable def fX12_after_0 (x1 : Int32) (x2 : Int32) (u : Sg) : Option (Int32 × Sg) := obd (fX12_noPair x1 x2 u) (fun r2 u3 => cnd (r2 = 0) (obr (fX12_beginsAhead u3) (fun u6 => obr (fX12_isUp x1 u6) (fun r8 => cnd (r8 = 0) (fX12_after_28 x2 u6) (obr (fX12_isDown x1 u6) (fun u22 => fX12_after_28 x2 u22))))) (some (0, u3)))
noncomputable def fX12_after (x1 : Int32) (x2 : Int32) (u : Sg) : Option (Int32 × Sg) := fX12_after_0 x1 x2 u
set_option maxRecDepth 10000 in
set_option maxHeartbeats 4000000 in
theorem wX12_after_28 (C : cx D (tyl cI cB cL) A RX12 cX12_after 4 (some .int) p s m args c meth) (hR : 11 ≤ R.frames ∧ 257 ≤ R.locals) {r : Int32} {σ' : Sg} (u : Sg) (x2 : Int32) {H : Heap} {locs : List Loc} {ls : Array Slot} (hl : lv_has ls 4 [(0, .ref (ad 0)), (2, .int x2)]) (S : st D (wM cI cB ad) A s u H locs) (h : fX12_after_28 x2 u = some (r, σ')) : W p l e R s m args below meth c H locs 0 0 (MQ below (qI D (tyl cI cB cL) (wM cI cB ad) A r σ') args s 0 0 A) (F0 m 28 ls []) := by
  have hx := C.1
  have hb := C.2.1
  have hsz := hl.1
  unfold fX12_after_28 at h
  refine lv_aload_n hx hb dX12_after_28 rfl (lv_at hl 0 rfl) ?_
  refine lv_bipush (v := 120) hx hb dX12_after_29 (by decide) ?_
  obtain ⟨u11, h10, h⟩ := obr_some h
  refine q_callVv (As := [.int 120]) (na := 1) C S (oM0 cI cB ad) rfl (ct_X12_goesOn l D cI cB cL ad 120 u h10) mw_303 mw_302 mw_304 mw_5 mw_301 hdX12_goesOn ⟨Nat.le_trans (Nat.le_of_ble_eq_true rfl) hR.1, Nat.le_trans (Nat.le_of_ble_eq_true rfl) hR.2⟩ rfl hsz ⟨Nat.zero_le _, Nat.zero_le _⟩ (Nat.le_of_ble_eq_true rfl) dX12_after_31 rfl (fun H locs S => ?_)
  refine lv_aload_n hx hb dX12_after_34 rfl (lv_at hl 0 rfl) ?_
  refine lv_iload_n hx hb dX12_after_35 rfl (lv_at hl 1 rfl) ?_
  obtain ⟨r13, h12, h⟩ := obr_some h
  refine q_callVi (As := [.int x2]) (na := 1) C S (oM0 cI cB ad) rfl (ct_X12_deliveredBy l D cI cB cL ad x2 u11 h12) mw_291 mw_290 mw_292 mw_5 mw_289 hdX12_deliveredBy ⟨Nat.le_trans (Nat.le_of_ble_eq_true rfl) hR.1, Nat.le_trans (Nat.le_of_ble_eq_true rfl) hR.2⟩ rfl hsz ⟨Nat.zero_le _, Nat.zero_le _⟩ (Nat.le_of_ble_eq_true rfl) dX12_after_36 rfl (fun H locs S => ?_)
  refine lv_aload_n hx hb dX12_after_39 rfl (lv_at hl 0 rfl) ?_
  obtain ⟨r15, h14, h⟩ := obr_some h
  refine q_callVi (As := []) (na := 0) C S (oM0 cI cB ad) rfl (ct_X12_upOnes l D cI cB cL ad u11 h14) mw_307 mw_306 mw_308 mw_5 mw_305 hdX12_upOnes ⟨Nat.le_trans (Nat.le_of_ble_eq_true rfl) hR.1, Nat.le_trans (Nat.le_of_ble_eq_true rfl) hR.2⟩ rfl hsz ⟨Nat.zero_le _, Nat.zero_le _⟩ (Nat.le_of_ble_eq_true rfl) dX12_after_40 rfl (fun H locs S => ?_)
  refine lv_iand hx hb dX12_after_43 ?_
  refine lv_aload_n hx hb dX12_after_44 rfl (lv_at hl 0 rfl) ?_
  refine lv_iload_n hx hb dX12_after_45 rfl (lv_at hl 1 rfl) ?_
  refine lv_iconst (v := 1) hx hb dX12_after_46 (by decide) ?_
  obtain ⟨r17, h16, h⟩ := obr_some h
  refine q_callVi (As := [.int x2, .int 1]) (na := 2) C S (oM0 cI cB ad) rfl (ct_X12_ofMessage l D cI cB cL ad x2 1 u11 h16) mw_43 mw_42 mw_44 mw_5 mw_41 hdX12_ofMessage ⟨Nat.le_trans (Nat.le_of_ble_eq_true rfl) hR.1, Nat.le_trans (Nat.le_of_ble_eq_true rfl) hR.2⟩ rfl hsz ⟨Nat.zero_le _, Nat.zero_le _⟩ (Nat.le_of_ble_eq_true rfl) dX12_after_47 rfl (fun H locs S => ?_)
  refine lv_iand hx hb dX12_after_50 ?_
  refine lv_topi (fun v18 ev18 => ?_)
  have h := bnd_of ev18 h
  refine lv_istore_n (lv' := [(3, .int v18), (0, .ref (ad 0)), (2, .int x2)]) hx hb dX12_after_51 rfl hl (by decide) rfl (fun ls hl => ?_)
  have hsz := hl.1
  refine lv_aload_n hx hb dX12_after_52 rfl (lv_at hl 1 rfl) ?_
  obtain ⟨u20, h19, h⟩ := obr_some h
  refine q_callVv (As := []) (na := 0) C S (oM0 cI cB ad) rfl (ct_X12_endsAhead l D cI cB cL ad u11 h19) mw_299 mw_298 mw_300 mw_5 mw_297 hdX12_endsAhead ⟨Nat.le_trans (Nat.le_of_ble_eq_true rfl) hR.1, Nat.le_trans (Nat.le_of_ble_eq_true rfl) hR.2⟩ rfl hsz ⟨Nat.zero_le _, Nat.zero_le _⟩ (Nat.le_of_ble_eq_true rfl) dX12_after_53 rfl (fun H locs S => ?_)
  refine lv_iload_n hx hb dX12_after_56 rfl (lv_at hl 0 rfl) ?_
  exact q_iret C S (rt_S h) dX12_after_57
set_option maxRecDepth 10000 in
set_option maxHeartbeats 4000000 in
theorem wX12_after_0 (C : cx D (tyl cI cB cL) A RX12 cX12_after 4 (some .int) p s m args c meth) (hR : 11 ≤ R.frames ∧ 257 ≤ R.locals) {r : Int32} {σ' : Sg} (u : Sg) (x1 : Int32) (x2 : Int32) {H : Heap} {locs : List Loc} {ls : Array Slot} (hl : lv_has ls 4 [(0, .ref (ad 0)), (1, .int x1), (2, .int x2)]) (S : st D (wM cI cB ad) A s u H locs) (h : fX12_after_0 x1 x2 u = some (r, σ')) : W p l e R s m args below meth c H locs 0 0 (MQ below (qI D (tyl cI cB cL) (wM cI cB ad) A r σ') args s 0 0 A) (F0 m 0 ls []) := by
  have hx := C.1
  have hb := C.2.1
  have hsz := hl.1
  unfold fX12_after_0 at h
  refine lv_aload_n hx hb dX12_after_0 rfl (lv_at hl 0 rfl) ?_
  refine lv_iload_n hx hb dX12_after_1 rfl (lv_at hl 1 rfl) ?_
  refine lv_iload_n hx hb dX12_after_2 rfl (lv_at hl 2 rfl) ?_
  obtain ⟨r2, u3, h1, h⟩ := obd_some h
  refine q_callVi (As := [.int x1, .int x2]) (na := 2) C S (oM0 cI cB ad) rfl (ct_X12_noPair l D cI cB cL ad x1 x2 u h1) mw_250 mw_249 mw_251 mw_5 mw_248 hdX12_noPair ⟨Nat.le_trans (Nat.le_of_ble_eq_true rfl) hR.1, Nat.le_trans (Nat.le_of_ble_eq_true rfl) hR.2⟩ rfl hsz ⟨Nat.zero_le _, Nat.zero_le _⟩ (Nat.le_of_ble_eq_true rfl) dX12_after_3 rfl (fun H locs S => ?_)
  refine lv_if_eq (tgt := 11) hx hb dX12_after_6 (by decide) (fun c4 => ?_) (fun c4 => ?_)
  · have h := cnd_t c4 h
    refine lv_aload_n hx hb dX12_after_11 rfl (lv_at hl 0 rfl) ?_
    obtain ⟨u6, h5, h⟩ := obr_some h
    refine q_callVv (As := []) (na := 0) C S (oM0 cI cB ad) rfl (ct_X12_beginsAhead l D cI cB cL ad u3 h5) mw_295 mw_294 mw_296 mw_5 mw_293 hdX12_beginsAhead ⟨Nat.le_trans (Nat.le_of_ble_eq_true rfl) hR.1, Nat.le_trans (Nat.le_of_ble_eq_true rfl) hR.2⟩ rfl hsz ⟨Nat.zero_le _, Nat.zero_le _⟩ (Nat.le_of_ble_eq_true rfl) dX12_after_12 rfl (fun H locs S => ?_)
    refine lv_aload_n hx hb dX12_after_15 rfl (lv_at hl 0 rfl) ?_
    refine lv_iload_n hx hb dX12_after_16 rfl (lv_at hl 1 rfl) ?_
    obtain ⟨r8, h7, h⟩ := obr_some h
    refine q_callVi (As := [.int x1]) (na := 1) C S (oM0 cI cB ad) rfl (ct_X12_isUp l D cI cB cL ad x1 u6 h7) mw_39 mw_38 mw_40 mw_5 mw_37 hdX12_isUp ⟨Nat.le_trans (Nat.le_of_ble_eq_true rfl) hR.1, Nat.le_trans (Nat.le_of_ble_eq_true rfl) hR.2⟩ rfl hsz ⟨Nat.zero_le _, Nat.zero_le _⟩ (Nat.le_of_ble_eq_true rfl) dX12_after_17 rfl (fun H locs S => ?_)
    refine lv_if_eq (tgt := 28) hx hb dX12_after_20 (by decide) (fun c9 => ?_) (fun c9 => ?_)
    · have h := cnd_t c9 h
      exact wX12_after_28 C hR u6 x2 (lv_sub hl [0, 2] rfl) S h
    · have h := cnd_f c9 h
      refine lv_aload_n hx hb dX12_after_23 rfl (lv_at hl 0 rfl) ?_
      refine lv_iload_n hx hb dX12_after_24 rfl (lv_at hl 1 rfl) ?_
      obtain ⟨u22, h21, h⟩ := obr_some h
      refine q_callVv (As := [.int x1]) (na := 1) C S (oM0 cI cB ad) rfl (ct_X12_isDown l D cI cB cL ad x1 u6 h21) mw_186 mw_185 mw_187 mw_5 mw_184 hdX12_isDown ⟨Nat.le_trans (Nat.le_of_ble_eq_true rfl) hR.1, Nat.le_trans (Nat.le_of_ble_eq_true rfl) hR.2⟩ rfl hsz ⟨Nat.zero_le _, Nat.zero_le _⟩ (Nat.le_of_ble_eq_true rfl) dX12_after_25 rfl (fun H locs S => ?_)
      exact wX12_after_28 C hR u22 x2 (lv_sub hl [0, 2] rfl) S h
  · have h := cnd_f c4 h
    refine lv_iconst (v := 0) hx hb dX12_after_9 (by decide) ?_
    exact q_iret C S (rt_S h) dX12_after_10
set_option maxRecDepth 10000 in
set_option maxHeartbeats 4000000 in
theorem ct_X12_after (l : Launch) (D : va_G) (cI cB cL : ClassId) (ad : Nat → Nat) (x1 : Int32) (x2 : Int32) (u : Sg) {r : Int32} {σ' : Sg} (h : fX12_after x1 x2 u = some (r, σ')) : metI l D (tyl cI cB cL) yX12_after cX12_after 4 (some .int) 11 257 (wM cI cB ad) [.ref (ad 0), .int x1, .int x2] u r σ' := by
  intro sz
  refine Met.ofW (cc := cX12_after) (maxL := 4) (ret := (some .int)) (by decide) rfl ?_
  intro p e s m args below meth c s₁ B hml hv
  obtain ⟨rfl, C, S⟩ := q_entry B hml hv
  have hl := lv_entry ([.ref (ad 0), .int x1, .int x2]) (n := 4) (Nat.le_of_ble_eq_true rfl)
  rw [lg_entry_eq]
  generalize (lg_sl ([.ref (ad 0), .int x1, .int x2]) ++ List.replicate (4 - (lg_sl ([.ref (ad 0), .int x1, .int x2])).length) Slot.unset).toArray = ls at hl ⊢
  exact wX12_after_0 C ⟨Nat.le_refl _, Nat.le_refl _⟩ u x1 x2 (lv_sub hl [0, 1, 2] rfl) S h
noncomputable def fX12_takes_45 (x2 : Int32) (u : Sg) : Option (Int32 × Sg) := obr (fX12_goesOn 120 u) (fun u15 => bnd ((u15 1 10) - x2) (fun v16 => obr (fX12_endsAhead u15) (fun u18 => some (v16, u18))))
noncomputable def fX12_takes_0 (x1 : Int32) (u : Sg) : Option (Int32 × Sg) := bnd (s2 u 0 0 0) (fun u1 => obr (fX12_noNode x1 u1) (fun r3 => obd (fX12_throwsIf r3 1 u1) (fun r5 u6 => cnd (r5 = 0) (bnd (u6 1 10) (fun v8 => obr (fX12_beginsAhead u6) (fun u10 => obr (fX12_isUp x1 u10) (fun r12 => cnd (r12 = 0) (fX12_takes_45 v8 u10) (obr (fX12_isDown x1 u10) (fun u20 => fX12_takes_45 v8 u20)))))) (some (0, u6)))))
noncomputable def fX12_takes (x1 : Int32) (u : Sg) : Option (Int32 × Sg) := fX12_takes_0 x1 u
set_option maxRecDepth 10000 in
set_option maxHeartbeats 4000000 in
theorem wX12_takes_45 (C : cx D (tyl cI cB cL) A RX12 cX12_takes 4 (some .int) p s m args c meth) (hR : 11 ≤ R.frames ∧ 257 ≤ R.locals) {r : Int32} {σ' : Sg} (u : Sg) (x2 : Int32) {H : Heap} {locs : List Loc} {ls : Array Slot} (hl : lv_has ls 4 [(0, .ref (ad 0)), (2, .int x2)]) (S : st D (wM cI cB ad) A s u H locs) (h : fX12_takes_45 x2 u = some (r, σ')) : W p l e R s m args below meth c H locs 0 0 (MQ below (qI D (tyl cI cB cL) (wM cI cB ad) A r σ') args s 0 0 A) (F0 m 45 ls []) := by
  have hx := C.1
  have hb := C.2.1
  have hsz := hl.1
  unfold fX12_takes_45 at h
  refine lv_aload_n hx hb dX12_takes_45 rfl (lv_at hl 0 rfl) ?_
  refine lv_bipush (v := 120) hx hb dX12_takes_46 (by decide) ?_
  obtain ⟨u15, h14, h⟩ := obr_some h
  refine q_callVv (As := [.int 120]) (na := 1) C S (oM0 cI cB ad) rfl (ct_X12_goesOn l D cI cB cL ad 120 u h14) mw_303 mw_302 mw_304 mw_5 mw_301 hdX12_goesOn ⟨Nat.le_trans (Nat.le_of_ble_eq_true rfl) hR.1, Nat.le_trans (Nat.le_of_ble_eq_true rfl) hR.2⟩ rfl hsz ⟨Nat.zero_le _, Nat.zero_le _⟩ (Nat.le_of_ble_eq_true rfl) dX12_takes_48 rfl (fun H locs S => ?_)
  refine lv_aload_n hx hb dX12_takes_51 rfl (lv_at hl 0 rfl) ?_
  refine q_get (v := .ref (ad 1)) C S (oM0 cI cB ad) rfl iwX12 1 (by decide) mw_14 rfl dX12_takes_52 ?_
  refine lv_bipush (v := 10) hx hb dX12_takes_55 (by decide) ?_
  refine q_iald C S (aM1 cI cB ad) 0 rfl (show vp_in 10 32243 by unfold vp_in; decide) dX12_takes_57 (j := 10) (by decide) ?_
  refine lv_iload_n hx hb dX12_takes_58 rfl (lv_at hl 1 rfl) ?_
  refine lv_isub hx hb dX12_takes_59 ?_
  refine lv_topi (fun v16 ev16 => ?_)
  have h := bnd_of ev16 h
  refine lv_istore_n (lv' := [(3, .int v16), (0, .ref (ad 0)), (2, .int x2)]) hx hb dX12_takes_60 rfl hl (by decide) rfl (fun ls hl => ?_)
  have hsz := hl.1
  refine lv_aload_n hx hb dX12_takes_61 rfl (lv_at hl 1 rfl) ?_
  obtain ⟨u18, h17, h⟩ := obr_some h
  refine q_callVv (As := []) (na := 0) C S (oM0 cI cB ad) rfl (ct_X12_endsAhead l D cI cB cL ad u15 h17) mw_299 mw_298 mw_300 mw_5 mw_297 hdX12_endsAhead ⟨Nat.le_trans (Nat.le_of_ble_eq_true rfl) hR.1, Nat.le_trans (Nat.le_of_ble_eq_true rfl) hR.2⟩ rfl hsz ⟨Nat.zero_le _, Nat.zero_le _⟩ (Nat.le_of_ble_eq_true rfl) dX12_takes_62 rfl (fun H locs S => ?_)
  refine lv_iload_n hx hb dX12_takes_65 rfl (lv_at hl 0 rfl) ?_
  exact q_iret C S (rt_S h) dX12_takes_66
set_option maxRecDepth 10000 in
set_option maxHeartbeats 4000000 in
theorem wX12_takes_0 (C : cx D (tyl cI cB cL) A RX12 cX12_takes 4 (some .int) p s m args c meth) (hR : 11 ≤ R.frames ∧ 257 ≤ R.locals) {r : Int32} {σ' : Sg} (u : Sg) (x1 : Int32) {H : Heap} {locs : List Loc} {ls : Array Slot} (hl : lv_has ls 4 [(0, .ref (ad 0)), (1, .int x1)]) (S : st D (wM cI cB ad) A s u H locs) (h : fX12_takes_0 x1 u = some (r, σ')) : W p l e R s m args below meth c H locs 0 0 (MQ below (qI D (tyl cI cB cL) (wM cI cB ad) A r σ') args s 0 0 A) (F0 m 0 ls []) := by
  have hx := C.1
  have hb := C.2.1
  have hsz := hl.1
  unfold fX12_takes_0 at h
  refine lv_aload_n hx hb dX12_takes_0 rfl (lv_at hl 0 rfl) ?_
  refine lv_iconst (v := 0) hx hb dX12_takes_1 (by decide) ?_
  obtain ⟨u1, eu1⟩ : ∃ z : Sg, z = s2 u 0 0 0 := ⟨_, rfl⟩
  have h := bnd_of eu1 h
  refine q_put C S (oM0 cI cB ad) rfl iwX12 tyX12 tyX12_ok nmX12 0 (by decide) mw_11 rfl (iM0_0 cI cB ad) rfl rfl dX12_takes_2 eu1 (fun H locs S => ?_)
  refine lv_aload_n hx hb dX12_takes_5 rfl (lv_at hl 0 rfl) ?_
  refine lv_aload_n hx hb dX12_takes_6 rfl (lv_at hl 0 rfl) ?_
  refine lv_iload_n hx hb dX12_takes_7 rfl (lv_at hl 1 rfl) ?_
  obtain ⟨r3, h2, h⟩ := obr_some h
  refine q_callVi (As := [.int x1]) (na := 1) C S (oM0 cI cB ad) rfl (ct_X12_noNode l D cI cB cL ad x1 u1 h2) mw_226 mw_225 mw_227 mw_5 mw_224 hdX12_noNode ⟨Nat.le_trans (Nat.le_of_ble_eq_true rfl) hR.1, Nat.le_trans (Nat.le_of_ble_eq_true rfl) hR.2⟩ rfl hsz ⟨Nat.zero_le _, Nat.zero_le _⟩ (Nat.le_of_ble_eq_true rfl) dX12_takes_8 rfl (fun H locs S => ?_)
  refine lv_iconst (v := 1) hx hb dX12_takes_11 (by decide) ?_
  obtain ⟨r5, u6, h4, h⟩ := obd_some h
  refine q_callVi (As := [.int r3, .int 1]) (na := 2) C S (oM0 cI cB ad) rfl (ct_X12_throwsIf l D cI cB cL ad r3 1 u1 h4) mw_210 mw_209 mw_211 mw_5 mw_208 hdX12_throwsIf ⟨Nat.le_trans (Nat.le_of_ble_eq_true rfl) hR.1, Nat.le_trans (Nat.le_of_ble_eq_true rfl) hR.2⟩ rfl hsz ⟨Nat.zero_le _, Nat.zero_le _⟩ (Nat.le_of_ble_eq_true rfl) dX12_takes_12 rfl (fun H locs S => ?_)
  refine lv_if_eq (tgt := 20) hx hb dX12_takes_15 (by decide) (fun c7 => ?_) (fun c7 => ?_)
  · have h := cnd_t c7 h
    refine lv_aload_n hx hb dX12_takes_20 rfl (lv_at hl 0 rfl) ?_
    refine q_get (v := .ref (ad 1)) C S (oM0 cI cB ad) rfl iwX12 1 (by decide) mw_14 rfl dX12_takes_21 ?_
    refine lv_bipush (v := 10) hx hb dX12_takes_24 (by decide) ?_
    refine q_iald C S (aM1 cI cB ad) 0 rfl (show vp_in 10 32243 by unfold vp_in; decide) dX12_takes_26 (j := 10) (by decide) ?_
    refine lv_topi (fun v8 ev8 => ?_)
    have h := bnd_of ev8 h
    refine lv_istore_n (lv' := [(2, .int v8), (0, .ref (ad 0)), (1, .int x1)]) hx hb dX12_takes_27 rfl hl (by decide) rfl (fun ls hl => ?_)
    have hsz := hl.1
    refine lv_aload_n hx hb dX12_takes_28 rfl (lv_at hl 1 rfl) ?_
    obtain ⟨u10, h9, h⟩ := obr_some h
    refine q_callVv (As := []) (na := 0) C S (oM0 cI cB ad) rfl (ct_X12_beginsAhead l D cI cB cL ad u6 h9) mw_295 mw_294 mw_296 mw_5 mw_293 hdX12_beginsAhead ⟨Nat.le_trans (Nat.le_of_ble_eq_true rfl) hR.1, Nat.le_trans (Nat.le_of_ble_eq_true rfl) hR.2⟩ rfl hsz ⟨Nat.zero_le _, Nat.zero_le _⟩ (Nat.le_of_ble_eq_true rfl) dX12_takes_29 rfl (fun H locs S => ?_)
    refine lv_aload_n hx hb dX12_takes_32 rfl (lv_at hl 1 rfl) ?_
    refine lv_iload_n hx hb dX12_takes_33 rfl (lv_at hl 2 rfl) ?_
    obtain ⟨r12, h11, h⟩ := obr_some h
    refine q_callVi (As := [.int x1]) (na := 1) C S (oM0 cI cB ad) rfl (ct_X12_isUp l D cI cB cL ad x1 u10 h11) mw_39 mw_38 mw_40 mw_5 mw_37 hdX12_isUp ⟨Nat.le_trans (Nat.le_of_ble_eq_true rfl) hR.1, Nat.le_trans (Nat.le_of_ble_eq_true rfl) hR.2⟩ rfl hsz ⟨Nat.zero_le _, Nat.zero_le _⟩ (Nat.le_of_ble_eq_true rfl) dX12_takes_34 rfl (fun H locs S => ?_)
    refine lv_if_eq (tgt := 45) hx hb dX12_takes_37 (by decide) (fun c13 => ?_) (fun c13 => ?_)
    · have h := cnd_t c13 h
      exact wX12_takes_45 C hR u10 v8 (lv_sub hl [1, 0] rfl) S h
    · have h := cnd_f c13 h
      refine lv_aload_n hx hb dX12_takes_40 rfl (lv_at hl 1 rfl) ?_
      refine lv_iload_n hx hb dX12_takes_41 rfl (lv_at hl 2 rfl) ?_
      obtain ⟨u20, h19, h⟩ := obr_some h
      refine q_callVv (As := [.int x1]) (na := 1) C S (oM0 cI cB ad) rfl (ct_X12_isDown l D cI cB cL ad x1 u10 h19) mw_186 mw_185 mw_187 mw_5 mw_184 hdX12_isDown ⟨Nat.le_trans (Nat.le_of_ble_eq_true rfl) hR.1, Nat.le_trans (Nat.le_of_ble_eq_true rfl) hR.2⟩ rfl hsz ⟨Nat.zero_le _, Nat.zero_le _⟩ (Nat.le_of_ble_eq_true rfl) dX12_takes_42 rfl (fun H locs S => ?_)
      exact wX12_takes_45 C hR u20 v8 (lv_sub hl [1, 0] rfl) S h
  · have h := cnd_f c7 h
    refine lv_iconst (v := 0) hx hb dX12_takes_18 (by decide) ?_
    exact q_iret C S (rt_S h) dX12_takes_19
set_option maxRecDepth 10000 in
set_option maxHeartbeats 4000000 in
theorem ct_X12_takes (l : Launch) (D : va_G) (cI cB cL : ClassId) (ad : Nat → Nat) (x1 : Int32) (u : Sg) {r : Int32} {σ' : Sg} (h : fX12_takes x1 u = some (r, σ')) : metI l D (tyl cI cB cL) yX12_takes cX12_takes 4 (some .int) 11 257 (wM cI cB ad) [.ref (ad 0), .int x1] u r σ' := by
  intro sz
  refine Met.ofW (cc := cX12_takes) (maxL := 4) (ret := (some .int)) (by decide) rfl ?_
  intro p e s m args below meth c s₁ B hml hv
  obtain ⟨rfl, C, S⟩ := q_entry B hml hv
  have hl := lv_entry ([.ref (ad 0), .int x1]) (n := 4) (Nat.le_of_ble_eq_true rfl)
  rw [lg_entry_eq]
  generalize (lg_sl ([.ref (ad 0), .int x1]) ++ List.replicate (4 - (lg_sl ([.ref (ad 0), .int x1])).length) Slot.unset).toArray = ls at hl ⊢
  exact wX12_takes_0 C ⟨Nat.le_refl _, Nat.le_refl _⟩ u x1 (lv_sub hl [0, 1] rfl) S h
noncomputable def fX12_first_102 (t0 : Int32) (u : Sg) : Option (Int32 × Sg) := obr (fX12_endsAhead u) (fun u28 => some (t0, u28))
noncomputable def fX12_first_45 (x1 : Int32) (x2 : Int32) (t0 : Int32) (u : Sg) : Option (Int32 × Sg) := obd (fX12_throwsIf t0 2 u) (fun r11 u12 => cnd (r11 = 0) (obr (fX12_beginsAhead u12) (fun u15 => obr (fX12_goesOn 120 u15) (fun u17 => obr (fX12_deliveredBy x1 u17) (fun r19 => obr (fX12_deliveredBy x2 u17) (fun r21 => bnd (r19 &&& r21) (fun v22 => cnd (v22 = 0) (fX12_first_102 (-1) u17) (obr (fX12_hasAhead (fJ6_numberOfTrailingZeros_0f7a4 v22) x1 x2 u17) (fun r25 => cnd (r25 = 0) (fX12_first_102 x2 u17) (fX12_first_102 x1 u17))))))))) (some (0, u12)))
noncomputable def fX12_first_27 (x1 : Int32) (x2 : Int32) (t0 : Int32) (u : Sg) : Option (Int32 × Sg) := obd (fX12_throwsIf t0 1 u) (fun r6 u7 => cnd (r6 = 0) (cnd (x1 = x2) (fX12_first_45 x1 x2 1 u7) (fX12_first_45 x1 x2 0 u7)) (some (0, u7)))
noncomputable def fX12_first_22 (x1 : Int32) (x2 : Int32) (u : Sg) : Option (Int32 × Sg) := fX12_first_27 x1 x2 1 u
noncomputable def fX12_first_0 (x1 : Int32) (x2 : Int32) (u : Sg) : Option (Int32 × Sg) := bnd (s2 u 0 0 0) (fun u1 => obr (fX12_noMessage x1 u1) (fun r3 => cnd (r3 = 0) (obr (fX12_noMessage x2 u1) (fun r30 => cnd (r30 = 0) (fX12_first_27 x1 x2 0 u1) (fX12_first_22 x1 x2 u1))) (fX12_first_22 x1 x2 u1)))
noncomputable def fX12_first (x1 : Int32) (x2 : Int32) (u : Sg) : Option (Int32 × Sg) := fX12_first_0 x1 x2 u
set_option maxRecDepth 10000 in
set_option maxHeartbeats 4000000 in
theorem wX12_first_102 (C : cx D (tyl cI cB cL) A RX12 cX12_first 5 (some .int) p s m args c meth) (hR : 11 ≤ R.frames ∧ 257 ≤ R.locals) {r : Int32} {σ' : Sg} (u : Sg) (t0 : Int32) {H : Heap} {locs : List Loc} {ls : Array Slot} (hl : lv_has ls 5 [(0, .ref (ad 0))]) (S : st D (wM cI cB ad) A s u H locs) (h : fX12_first_102 t0 u = some (r, σ')) : W p l e R s m args below meth c H locs 0 0 (MQ below (qI D (tyl cI cB cL) (wM cI cB ad) A r σ') args s 0 0 A) (F0 m 102 ls [.int t0]) := by
  have hx := C.1
  have hb := C.2.1
  have hsz := hl.1
  unfold fX12_first_102 at h
  refine lv_istore (lv' := [(4, .int t0), (0, .ref (ad 0))]) hx hb dX12_first_102 hl (by decide) rfl (fun ls hl => ?_)
  have hsz := hl.1
  refine lv_aload_n hx hb dX12_first_104 rfl (lv_at hl 1 rfl) ?_
  obtain ⟨u28, h27, h⟩ := obr_some h
  refine q_callVv (As := []) (na := 0) C S (oM0 cI cB ad) rfl (ct_X12_endsAhead l D cI cB cL ad u h27) mw_299 mw_298 mw_300 mw_5 mw_297 hdX12_endsAhead ⟨Nat.le_trans (Nat.le_of_ble_eq_true rfl) hR.1, Nat.le_trans (Nat.le_of_ble_eq_true rfl) hR.2⟩ rfl hsz ⟨Nat.zero_le _, Nat.zero_le _⟩ (Nat.le_of_ble_eq_true rfl) dX12_first_105 rfl (fun H locs S => ?_)
  refine lv_iload hx hb dX12_first_108 (lv_at hl 0 rfl) ?_
  exact q_iret C S (rt_S h) dX12_first_110
set_option maxRecDepth 10000 in
set_option maxHeartbeats 4000000 in
theorem wX12_first_45 (C : cx D (tyl cI cB cL) A RX12 cX12_first 5 (some .int) p s m args c meth) (hR : 11 ≤ R.frames ∧ 257 ≤ R.locals) {r : Int32} {σ' : Sg} (u : Sg) (x1 : Int32) (x2 : Int32) (t0 : Int32) {H : Heap} {locs : List Loc} {ls : Array Slot} (hl : lv_has ls 5 [(0, .ref (ad 0)), (1, .int x1), (2, .int x2)]) (S : st D (wM cI cB ad) A s u H locs) (h : fX12_first_45 x1 x2 t0 u = some (r, σ')) : W p l e R s m args below meth c H locs 0 0 (MQ below (qI D (tyl cI cB cL) (wM cI cB ad) A r σ') args s 0 0 A) (F0 m 45 ls [.int t0, .ref (ad 0)]) := by
  have hx := C.1
  have hb := C.2.1
  have hsz := hl.1
  unfold fX12_first_45 at h
  refine lv_iconst (v := 2) hx hb dX12_first_45 (by decide) ?_
  obtain ⟨r11, u12, h10, h⟩ := obd_some h
  refine q_callVi (As := [.int t0, .int 2]) (na := 2) C S (oM0 cI cB ad) rfl (ct_X12_throwsIf l D cI cB cL ad t0 2 u h10) mw_210 mw_209 mw_211 mw_5 mw_208 hdX12_throwsIf ⟨Nat.le_trans (Nat.le_of_ble_eq_true rfl) hR.1, Nat.le_trans (Nat.le_of_ble_eq_true rfl) hR.2⟩ rfl hsz ⟨Nat.zero_le _, Nat.zero_le _⟩ (Nat.le_of_ble_eq_true rfl) dX12_first_46 rfl (fun H locs S => ?_)
  refine lv_if_eq (tgt := 54) hx hb dX12_first_49 (by decide) (fun c13 => ?_) (fun c13 => ?_)
  · have h := cnd_t c13 h
    refine lv_aload_n hx hb dX12_first_54 rfl (lv_at hl 0 rfl) ?_
    obtain ⟨u15, h14, h⟩ := obr_some h
    refine q_callVv (As := []) (na := 0) C S (oM0 cI cB ad) rfl (ct_X12_beginsAhead l D cI cB cL ad u12 h14) mw_295 mw_294 mw_296 mw_5 mw_293 hdX12_beginsAhead ⟨Nat.le_trans (Nat.le_of_ble_eq_true rfl) hR.1, Nat.le_trans (Nat.le_of_ble_eq_true rfl) hR.2⟩ rfl hsz ⟨Nat.zero_le _, Nat.zero_le _⟩ (Nat.le_of_ble_eq_true rfl) dX12_first_55 rfl (fun H locs S => ?_)
    refine lv_aload_n hx hb dX12_first_58 rfl (lv_at hl 0 rfl) ?_
    refine lv_bipush (v := 120) hx hb dX12_first_59 (by decide) ?_
    obtain ⟨u17, h16, h⟩ := obr_some h
    refine q_callVv (As := [.int 120]) (na := 1) C S (oM0 cI cB ad) rfl (ct_X12_goesOn l D cI cB cL ad 120 u15 h16) mw_303 mw_302 mw_304 mw_5 mw_301 hdX12_goesOn ⟨Nat.le_trans (Nat.le_of_ble_eq_true rfl) hR.1, Nat.le_trans (Nat.le_of_ble_eq_true rfl) hR.2⟩ rfl hsz ⟨Nat.zero_le _, Nat.zero_le _⟩ (Nat.le_of_ble_eq_true rfl) dX12_first_61 rfl (fun H locs S => ?_)
    refine lv_aload_n hx hb dX12_first_64 rfl (lv_at hl 0 rfl) ?_
    refine lv_iload_n hx hb dX12_first_65 rfl (lv_at hl 1 rfl) ?_
    obtain ⟨r19, h18, h⟩ := obr_some h
    refine q_callVi (As := [.int x1]) (na := 1) C S (oM0 cI cB ad) rfl (ct_X12_deliveredBy l D cI cB cL ad x1 u17 h18) mw_291 mw_290 mw_292 mw_5 mw_289 hdX12_deliveredBy ⟨Nat.le_trans (Nat.le_of_ble_eq_true rfl) hR.1, Nat.le_trans (Nat.le_of_ble_eq_true rfl) hR.2⟩ rfl hsz ⟨Nat.zero_le _, Nat.zero_le _⟩ (Nat.le_of_ble_eq_true rfl) dX12_first_66 rfl (fun H locs S => ?_)
    refine lv_aload_n hx hb dX12_first_69 rfl (lv_at hl 0 rfl) ?_
    refine lv_iload_n hx hb dX12_first_70 rfl (lv_at hl 2 rfl) ?_
    obtain ⟨r21, h20, h⟩ := obr_some h
    refine q_callVi (As := [.int x2]) (na := 1) C S (oM0 cI cB ad) rfl (ct_X12_deliveredBy l D cI cB cL ad x2 u17 h20) mw_291 mw_290 mw_292 mw_5 mw_289 hdX12_deliveredBy ⟨Nat.le_trans (Nat.le_of_ble_eq_true rfl) hR.1, Nat.le_trans (Nat.le_of_ble_eq_true rfl) hR.2⟩ rfl hsz ⟨Nat.zero_le _, Nat.zero_le _⟩ (Nat.le_of_ble_eq_true rfl) dX12_first_71 rfl (fun H locs S => ?_)
    refine lv_iand hx hb dX12_first_74 ?_
    refine lv_topi (fun v22 ev22 => ?_)
    have h := bnd_of ev22 h
    refine lv_istore_n (lv' := [(3, .int v22), (0, .ref (ad 0)), (1, .int x1), (2, .int x2)]) hx hb dX12_first_75 rfl hl (by decide) rfl (fun ls hl => ?_)
    have hsz := hl.1
    refine lv_iload_n hx hb dX12_first_76 rfl (lv_at hl 0 rfl) ?_
    refine lv_if_ne (tgt := 84) hx hb dX12_first_77 (by decide) (fun c23 => ?_) (fun c23 => ?_)
    · have h := cnd_f c23 h
      refine lv_aload_n hx hb dX12_first_84 rfl (lv_at hl 1 rfl) ?_
      refine lv_iload_n hx hb dX12_first_85 rfl (lv_at hl 0 rfl) ?_
      refine q_callP (As := [.int v22]) (na := 1) C S (ct_J6_numberOfTrailingZeros_0f7a4 l D cI cB cL v22) mw_271 mw_270 mw_237 mw_269 hdJ6_numberOfTrailingZeros_0f7a4 ⟨Nat.le_trans (Nat.le_of_ble_eq_true rfl) hR.1, Nat.le_trans (Nat.le_of_ble_eq_true rfl) hR.2⟩ rfl hsz ⟨Nat.zero_le _, Nat.zero_le _⟩ (Nat.le_of_ble_eq_true rfl) dX12_first_86 rfl (fun H locs S => ?_)
      refine lv_iload_n hx hb dX12_first_89 rfl (lv_at hl 2 rfl) ?_
      refine lv_iload_n hx hb dX12_first_90 rfl (lv_at hl 3 rfl) ?_
      obtain ⟨r25, h24, h⟩ := obr_some h
      refine q_callVi (As := [.int (fJ6_numberOfTrailingZeros_0f7a4 v22), .int x1, .int x2]) (na := 3) C S (oM0 cI cB ad) rfl (ct_X12_hasAhead l D cI cB cL ad (fJ6_numberOfTrailingZeros_0f7a4 v22) x1 x2 u17 h24) mw_279 mw_278 mw_280 mw_5 mw_277 hdX12_hasAhead ⟨Nat.le_trans (Nat.le_of_ble_eq_true rfl) hR.1, Nat.le_trans (Nat.le_of_ble_eq_true rfl) hR.2⟩ rfl hsz ⟨Nat.zero_le _, Nat.zero_le _⟩ (Nat.le_of_ble_eq_true rfl) dX12_first_91 rfl (fun H locs S => ?_)
      refine lv_if_eq (tgt := 101) hx hb dX12_first_94 (by decide) (fun c26 => ?_) (fun c26 => ?_)
      · have h := cnd_t c26 h
        refine lv_iload_n hx hb dX12_first_101 rfl (lv_at hl 3 rfl) ?_
        exact wX12_first_102 C hR u17 x2 (lv_sub hl [1] rfl) S h
      · have h := cnd_f c26 h
        refine lv_iload_n hx hb dX12_first_97 rfl (lv_at hl 2 rfl) ?_
        refine lv_goto (tgt := 102) hx hb dX12_first_98 (by decide) ?_
        exact wX12_first_102 C hR u17 x1 (lv_sub hl [1] rfl) S h
    · have h := cnd_t c23 h
      refine lv_iconst (v := (-1)) hx hb dX12_first_80 (by decide) ?_
      refine lv_goto (tgt := 102) hx hb dX12_first_81 (by decide) ?_
      exact wX12_first_102 C hR u17 (-1) (lv_sub hl [1] rfl) S h
  · have h := cnd_f c13 h
    refine lv_iconst (v := 0) hx hb dX12_first_52 (by decide) ?_
    exact q_iret C S (rt_S h) dX12_first_53
set_option maxRecDepth 10000 in
set_option maxHeartbeats 4000000 in
theorem wX12_first_27 (C : cx D (tyl cI cB cL) A RX12 cX12_first 5 (some .int) p s m args c meth) (hR : 11 ≤ R.frames ∧ 257 ≤ R.locals) {r : Int32} {σ' : Sg} (u : Sg) (x1 : Int32) (x2 : Int32) (t0 : Int32) {H : Heap} {locs : List Loc} {ls : Array Slot} (hl : lv_has ls 5 [(0, .ref (ad 0)), (1, .int x1), (2, .int x2)]) (S : st D (wM cI cB ad) A s u H locs) (h : fX12_first_27 x1 x2 t0 u = some (r, σ')) : W p l e R s m args below meth c H locs 0 0 (MQ below (qI D (tyl cI cB cL) (wM cI cB ad) A r σ') args s 0 0 A) (F0 m 27 ls [.int t0, .ref (ad 0)]) := by
  have hx := C.1
  have hb := C.2.1
  have hsz := hl.1
  unfold fX12_first_27 at h
  refine lv_iconst (v := 1) hx hb dX12_first_27 (by decide) ?_
  obtain ⟨r6, u7, h5, h⟩ := obd_some h
  refine q_callVi (As := [.int t0, .int 1]) (na := 2) C S (oM0 cI cB ad) rfl (ct_X12_throwsIf l D cI cB cL ad t0 1 u h5) mw_210 mw_209 mw_211 mw_5 mw_208 hdX12_throwsIf ⟨Nat.le_trans (Nat.le_of_ble_eq_true rfl) hR.1, Nat.le_trans (Nat.le_of_ble_eq_true rfl) hR.2⟩ rfl hsz ⟨Nat.zero_le _, Nat.zero_le _⟩ (Nat.le_of_ble_eq_true rfl) dX12_first_28 rfl (fun H locs S => ?_)
  refine lv_if_ne (tgt := 52) hx hb dX12_first_31 (by decide) (fun c8 => ?_) (fun c8 => ?_)
  · have h := cnd_f c8 h
    refine lv_iconst (v := 0) hx hb dX12_first_52 (by decide) ?_
    exact q_iret C S (rt_S h) dX12_first_53
  · have h := cnd_t c8 h
    refine lv_aload_n hx hb dX12_first_34 rfl (lv_at hl 0 rfl) ?_
    refine lv_iload_n hx hb dX12_first_35 rfl (lv_at hl 1 rfl) ?_
    refine lv_iload_n hx hb dX12_first_36 rfl (lv_at hl 2 rfl) ?_
    refine lv_icmp_ne (tgt := 44) hx hb dX12_first_37 (by decide) (fun c9 => ?_) (fun c9 => ?_)
    · have h := cnd_f c9 h
      refine lv_iconst (v := 0) hx hb dX12_first_44 (by decide) ?_
      exact wX12_first_45 C hR u7 x1 x2 0 (lv_sub hl [0, 1, 2] rfl) S h
    · have h := cnd_t c9 h
      refine lv_iconst (v := 1) hx hb dX12_first_40 (by decide) ?_
      refine lv_goto (tgt := 45) hx hb dX12_first_41 (by decide) ?_
      exact wX12_first_45 C hR u7 x1 x2 1 (lv_sub hl [0, 1, 2] rfl) S h
set_option maxRecDepth 10000 in
set_option maxHeartbeats 4000000 in
theorem wX12_first_22 (C : cx D (tyl cI cB cL) A RX12 cX12_first 5 (some .int) p s m args c meth) (hR : 11 ≤ R.frames ∧ 257 ≤ R.locals) {r : Int32} {σ' : Sg} (u : Sg) (x1 : Int32) (x2 : Int32) {H : Heap} {locs : List Loc} {ls : Array Slot} (hl : lv_has ls 5 [(0, .ref (ad 0)), (1, .int x1), (2, .int x2)]) (S : st D (wM cI cB ad) A s u H locs) (h : fX12_first_22 x1 x2 u = some (r, σ')) : W p l e R s m args below meth c H locs 0 0 (MQ below (qI D (tyl cI cB cL) (wM cI cB ad) A r σ') args s 0 0 A) (F0 m 22 ls [.ref (ad 0)]) := by
  have hx := C.1
  have hb := C.2.1
  have hsz := hl.1
  unfold fX12_first_22 at h
  refine lv_iconst (v := 1) hx hb dX12_first_22 (by decide) ?_
  refine lv_goto (tgt := 27) hx hb dX12_first_23 (by decide) ?_
  exact wX12_first_27 C hR u x1 x2 1 (lv_sub hl [0, 1, 2] rfl) S h
set_option maxRecDepth 10000 in
set_option maxHeartbeats 4000000 in
theorem wX12_first_0 (C : cx D (tyl cI cB cL) A RX12 cX12_first 5 (some .int) p s m args c meth) (hR : 11 ≤ R.frames ∧ 257 ≤ R.locals) {r : Int32} {σ' : Sg} (u : Sg) (x1 : Int32) (x2 : Int32) {H : Heap} {locs : List Loc} {ls : Array Slot} (hl : lv_has ls 5 [(0, .ref (ad 0)), (1, .int x1), (2, .int x2)]) (S : st D (wM cI cB ad) A s u H locs) (h : fX12_first_0 x1 x2 u = some (r, σ')) : W p l e R s m args below meth c H locs 0 0 (MQ below (qI D (tyl cI cB cL) (wM cI cB ad) A r σ') args s 0 0 A) (F0 m 0 ls []) := by
  have hx := C.1
  have hb := C.2.1
  have hsz := hl.1
  unfold fX12_first_0 at h
  refine lv_aload_n hx hb dX12_first_0 rfl (lv_at hl 0 rfl) ?_
  refine lv_iconst (v := 0) hx hb dX12_first_1 (by decide) ?_
  obtain ⟨u1, eu1⟩ : ∃ z : Sg, z = s2 u 0 0 0 := ⟨_, rfl⟩
  have h := bnd_of eu1 h
  refine q_put C S (oM0 cI cB ad) rfl iwX12 tyX12 tyX12_ok nmX12 0 (by decide) mw_11 rfl (iM0_0 cI cB ad) rfl rfl dX12_first_2 eu1 (fun H locs S => ?_)
  refine lv_aload_n hx hb dX12_first_5 rfl (lv_at hl 0 rfl) ?_
  refine lv_aload_n hx hb dX12_first_6 rfl (lv_at hl 0 rfl) ?_
  refine lv_iload_n hx hb dX12_first_7 rfl (lv_at hl 1 rfl) ?_
  obtain ⟨r3, h2, h⟩ := obr_some h
  refine q_callVi (As := [.int x1]) (na := 1) C S (oM0 cI cB ad) rfl (ct_X12_noMessage l D cI cB cL ad x1 u1 h2) mw_242 mw_241 mw_243 mw_5 mw_240 hdX12_noMessage ⟨Nat.le_trans (Nat.le_of_ble_eq_true rfl) hR.1, Nat.le_trans (Nat.le_of_ble_eq_true rfl) hR.2⟩ rfl hsz ⟨Nat.zero_le _, Nat.zero_le _⟩ (Nat.le_of_ble_eq_true rfl) dX12_first_8 rfl (fun H locs S => ?_)
  refine lv_if_ne (tgt := 22) hx hb dX12_first_11 (by decide) (fun c4 => ?_) (fun c4 => ?_)
  · have h := cnd_f c4 h
    exact wX12_first_22 C hR u1 x1 x2 (lv_sub hl [0, 1, 2] rfl) S h
  · have h := cnd_t c4 h
    refine lv_aload_n hx hb dX12_first_14 rfl (lv_at hl 0 rfl) ?_
    refine lv_iload_n hx hb dX12_first_15 rfl (lv_at hl 2 rfl) ?_
    obtain ⟨r30, h29, h⟩ := obr_some h
    refine q_callVi (As := [.int x2]) (na := 1) C S (oM0 cI cB ad) rfl (ct_X12_noMessage l D cI cB cL ad x2 u1 h29) mw_242 mw_241 mw_243 mw_5 mw_240 hdX12_noMessage ⟨Nat.le_trans (Nat.le_of_ble_eq_true rfl) hR.1, Nat.le_trans (Nat.le_of_ble_eq_true rfl) hR.2⟩ rfl hsz ⟨Nat.zero_le _, Nat.zero_le _⟩ (Nat.le_of_ble_eq_true rfl) dX12_first_16 rfl (fun H locs S => ?_)
    refine lv_if_eq (tgt := 26) hx hb dX12_first_19 (by decide) (fun c31 => ?_) (fun c31 => ?_)
    · have h := cnd_t c31 h
      refine lv_iconst (v := 0) hx hb dX12_first_26 (by decide) ?_
      exact wX12_first_27 C hR u1 x1 x2 0 (lv_sub hl [0, 1, 2] rfl) S h
    · have h := cnd_f c31 h
      exact wX12_first_22 C hR u1 x1 x2 (lv_sub hl [0, 1, 2] rfl) S h
set_option maxRecDepth 10000 in
set_option maxHeartbeats 4000000 in
theorem ct_X12_first (l : Launch) (D : va_G) (cI cB cL : ClassId) (ad : Nat → Nat) (x1 : Int32) (x2 : Int32) (u : Sg) {r : Int32} {σ' : Sg} (h : fX12_first x1 x2 u = some (r, σ')) : metI l D (tyl cI cB cL) yX12_first cX12_first 5 (some .int) 11 257 (wM cI cB ad) [.ref (ad 0), .int x1, .int x2] u r σ' := by
  intro sz
  refine Met.ofW (cc := cX12_first) (maxL := 5) (ret := (some .int)) (by decide) rfl ?_
  intro p e s m args below meth c s₁ B hml hv
  obtain ⟨rfl, C, S⟩ := q_entry B hml hv
  have hl := lv_entry ([.ref (ad 0), .int x1, .int x2]) (n := 5) (Nat.le_of_ble_eq_true rfl)
  rw [lg_entry_eq]
  generalize (lg_sl ([.ref (ad 0), .int x1, .int x2]) ++ List.replicate (5 - (lg_sl ([.ref (ad 0), .int x1, .int x2])).length) Slot.unset).toArray = ls at hl ⊢
  exact wX12_first_0 C ⟨Nat.le_refl _, Nat.le_refl _⟩ u x1 x2 (lv_sub hl [0, 1, 2] rfl) S h
noncomputable def fX12_outside_0 (x1 : Int32) (u : Sg) : Option (Int32 × Sg) := bnd (s2 u 0 0 0) (fun u1 => obr (fX12_noMessage x1 u1) (fun r3 => obd (fX12_throwsIf r3 1 u1) (fun r5 u6 => cnd (r5 = 0) (obr (fX12_ofMessage x1 4 u6) (fun r9 => obr (fX12_ofMessage x1 1 u6) (fun r11 => obr (fX12_ofMessage x1 0 u6) (fun r13 => some (((r9 &&& (r11 ^^^ (-1))) &&& (((1 : Int32) <<< ((r13 &&& 31 : Int32))) ^^^ (-1))), u6))))) (some (0, u6)))))
noncomputable def fX12_outside (x1 : Int32) (u : Sg) : Option (Int32 × Sg) := fX12_outside_0 x1 u
set_option maxRecDepth 10000 in
set_option maxHeartbeats 4000000 in
theorem wX12_outside_0 (C : cx D (tyl cI cB cL) A RX12 cX12_outside 2 (some .int) p s m args c meth) (hR : 2 ≤ R.frames ∧ 43 ≤ R.locals) {r : Int32} {σ' : Sg} (u : Sg) (x1 : Int32) {H : Heap} {locs : List Loc} {ls : Array Slot} (hl : lv_has ls 2 [(0, .ref (ad 0)), (1, .int x1)]) (S : st D (wM cI cB ad) A s u H locs) (h : fX12_outside_0 x1 u = some (r, σ')) : W p l e R s m args below meth c H locs 0 0 (MQ below (qI D (tyl cI cB cL) (wM cI cB ad) A r σ') args s 0 0 A) (F0 m 0 ls []) := by
  have hx := C.1
  have hb := C.2.1
  have hsz := hl.1
  unfold fX12_outside_0 at h
  refine lv_aload_n hx hb dX12_outside_0 rfl (lv_at hl 0 rfl) ?_
  refine lv_iconst (v := 0) hx hb dX12_outside_1 (by decide) ?_
  obtain ⟨u1, eu1⟩ : ∃ z : Sg, z = s2 u 0 0 0 := ⟨_, rfl⟩
  have h := bnd_of eu1 h
  refine q_put C S (oM0 cI cB ad) rfl iwX12 tyX12 tyX12_ok nmX12 0 (by decide) mw_11 rfl (iM0_0 cI cB ad) rfl rfl dX12_outside_2 eu1 (fun H locs S => ?_)
  refine lv_aload_n hx hb dX12_outside_5 rfl (lv_at hl 0 rfl) ?_
  refine lv_aload_n hx hb dX12_outside_6 rfl (lv_at hl 0 rfl) ?_
  refine lv_iload_n hx hb dX12_outside_7 rfl (lv_at hl 1 rfl) ?_
  obtain ⟨r3, h2, h⟩ := obr_some h
  refine q_callVi (As := [.int x1]) (na := 1) C S (oM0 cI cB ad) rfl (ct_X12_noMessage l D cI cB cL ad x1 u1 h2) mw_242 mw_241 mw_243 mw_5 mw_240 hdX12_noMessage ⟨Nat.le_trans (Nat.le_of_ble_eq_true rfl) hR.1, Nat.le_trans (Nat.le_of_ble_eq_true rfl) hR.2⟩ rfl hsz ⟨Nat.zero_le _, Nat.zero_le _⟩ (Nat.le_of_ble_eq_true rfl) dX12_outside_8 rfl (fun H locs S => ?_)
  refine lv_iconst (v := 1) hx hb dX12_outside_11 (by decide) ?_
  obtain ⟨r5, u6, h4, h⟩ := obd_some h
  refine q_callVi (As := [.int r3, .int 1]) (na := 2) C S (oM0 cI cB ad) rfl (ct_X12_throwsIf l D cI cB cL ad r3 1 u1 h4) mw_210 mw_209 mw_211 mw_5 mw_208 hdX12_throwsIf ⟨Nat.le_trans (Nat.le_of_ble_eq_true rfl) hR.1, Nat.le_trans (Nat.le_of_ble_eq_true rfl) hR.2⟩ rfl hsz ⟨Nat.zero_le _, Nat.zero_le _⟩ (Nat.le_of_ble_eq_true rfl) dX12_outside_12 rfl (fun H locs S => ?_)
  refine lv_if_eq (tgt := 20) hx hb dX12_outside_15 (by decide) (fun c7 => ?_) (fun c7 => ?_)
  · have h := cnd_t c7 h
    refine lv_aload_n hx hb dX12_outside_20 rfl (lv_at hl 0 rfl) ?_
    refine lv_iload_n hx hb dX12_outside_21 rfl (lv_at hl 1 rfl) ?_
    refine lv_iconst (v := 4) hx hb dX12_outside_22 (by decide) ?_
    obtain ⟨r9, h8, h⟩ := obr_some h
    refine q_callVi (As := [.int x1, .int 4]) (na := 2) C S (oM0 cI cB ad) rfl (ct_X12_ofMessage l D cI cB cL ad x1 4 u6 h8) mw_43 mw_42 mw_44 mw_5 mw_41 hdX12_ofMessage ⟨Nat.le_trans (Nat.le_of_ble_eq_true rfl) hR.1, Nat.le_trans (Nat.le_of_ble_eq_true rfl) hR.2⟩ rfl hsz ⟨Nat.zero_le _, Nat.zero_le _⟩ (Nat.le_of_ble_eq_true rfl) dX12_outside_23 rfl (fun H locs S => ?_)
    refine lv_aload_n hx hb dX12_outside_26 rfl (lv_at hl 0 rfl) ?_
    refine lv_iload_n hx hb dX12_outside_27 rfl (lv_at hl 1 rfl) ?_
    refine lv_iconst (v := 1) hx hb dX12_outside_28 (by decide) ?_
    obtain ⟨r11, h10, h⟩ := obr_some h
    refine q_callVi (As := [.int x1, .int 1]) (na := 2) C S (oM0 cI cB ad) rfl (ct_X12_ofMessage l D cI cB cL ad x1 1 u6 h10) mw_43 mw_42 mw_44 mw_5 mw_41 hdX12_ofMessage ⟨Nat.le_trans (Nat.le_of_ble_eq_true rfl) hR.1, Nat.le_trans (Nat.le_of_ble_eq_true rfl) hR.2⟩ rfl hsz ⟨Nat.zero_le _, Nat.zero_le _⟩ (Nat.le_of_ble_eq_true rfl) dX12_outside_29 rfl (fun H locs S => ?_)
    refine lv_iconst (v := (-1)) hx hb dX12_outside_32 (by decide) ?_
    refine lv_ixor hx hb dX12_outside_33 ?_
    refine lv_iand hx hb dX12_outside_34 ?_
    refine lv_iconst (v := 1) hx hb dX12_outside_35 (by decide) ?_
    refine lv_aload_n hx hb dX12_outside_36 rfl (lv_at hl 0 rfl) ?_
    refine lv_iload_n hx hb dX12_outside_37 rfl (lv_at hl 1 rfl) ?_
    refine lv_iconst (v := 0) hx hb dX12_outside_38 (by decide) ?_
    obtain ⟨r13, h12, h⟩ := obr_some h
    refine q_callVi (As := [.int x1, .int 0]) (na := 2) C S (oM0 cI cB ad) rfl (ct_X12_ofMessage l D cI cB cL ad x1 0 u6 h12) mw_43 mw_42 mw_44 mw_5 mw_41 hdX12_ofMessage ⟨Nat.le_trans (Nat.le_of_ble_eq_true rfl) hR.1, Nat.le_trans (Nat.le_of_ble_eq_true rfl) hR.2⟩ rfl hsz ⟨Nat.zero_le _, Nat.zero_le _⟩ (Nat.le_of_ble_eq_true rfl) dX12_outside_39 rfl (fun H locs S => ?_)
    refine lv_ishl hx hb dX12_outside_42 ?_
    refine lv_iconst (v := (-1)) hx hb dX12_outside_43 (by decide) ?_
    refine lv_ixor hx hb dX12_outside_44 ?_
    refine lv_iand hx hb dX12_outside_45 ?_
    exact q_iret C S (rt_S h) dX12_outside_46
  · have h := cnd_f c7 h
    refine lv_iconst (v := 0) hx hb dX12_outside_18 (by decide) ?_
    exact q_iret C S (rt_S h) dX12_outside_19
set_option maxRecDepth 10000 in
set_option maxHeartbeats 4000000 in
theorem ct_X12_outside (l : Launch) (D : va_G) (cI cB cL : ClassId) (ad : Nat → Nat) (x1 : Int32) (u : Sg) {r : Int32} {σ' : Sg} (h : fX12_outside x1 u = some (r, σ')) : metI l D (tyl cI cB cL) yX12_outside cX12_outside 2 (some .int) 2 43 (wM cI cB ad) [.ref (ad 0), .int x1] u r σ' := by
  intro sz
  refine Met.ofW (cc := cX12_outside) (maxL := 2) (ret := (some .int)) (by decide) rfl ?_
  intro p e s m args below meth c s₁ B hml hv
  obtain ⟨rfl, C, S⟩ := q_entry B hml hv
  have hl := lv_entry ([.ref (ad 0), .int x1]) (n := 2) (Nat.le_of_ble_eq_true rfl)
  rw [lg_entry_eq]
  generalize (lg_sl ([.ref (ad 0), .int x1]) ++ List.replicate (2 - (lg_sl ([.ref (ad 0), .int x1])).length) Slot.unset).toArray = ls at hl ⊢
  exact wX12_outside_0 C ⟨Nat.le_refl _, Nat.le_refl _⟩ u x1 (lv_sub hl [0, 1] rfl) S h
noncomputable def fX12_lateOf_70 (K36 : Int32 → Int32 → Int32 → Option Int32) (x1 : Int32) (x3 : Int32) (t0 : Int32) (u : Sg) : Option Int32 := bnd (x3 + 1) (fun v19 => K36 x1 t0 v19)
noncomputable def fX12_lateOf_36 (u : Sg) : Nat → Int32 → Int32 → Int32 → Option Int32
  | 0, _, _, _ => none
  | n + 1, x1, x2, x3 => obr (fX12_nodes u) (fun r12 => cnd (r12 ≤ x3) (obr (fX12_ofMessage x1 3 u) (fun r15 => some (x2 - r15))) (obr (fX12_ofPair x3 x1 0 u) (fun r17 => cnd (r17 = 3) (obr (fX12_ofPair x3 x1 4 u) (fun r21 => fX12_lateOf_70 (fun a0 a1 a2 => fX12_lateOf_36 u n a0 a1 a2) x1 x3 (if x2 < r21 then r21 else x2) u)) (fX12_lateOf_70 (fun a0 a1 a2 => fX12_lateOf_36 u n a0 a1 a2) x1 x3 x2 u))))
noncomputable def fX12_lateOf_0 (x1 : Int32) (u : Sg) : Option Int32 := obr (fX12_deliveredBy x1 u) (fun r2 => cnd (r2 = 0) (some (-1)) (obr (fX12_ofMessage x1 1 u) (fun r5 => obr (fX12_upOnes u) (fun r7 => obr (fX12_deliveredBy x1 u) (fun r9 => cnd (((r5 &&& r7) &&& (r9 ^^^ (-1))) = 0) (fX12_lateOf_36 u FU x1 0 0) (some (-1)))))))
noncomputable def fX12_lateOf (x1 : Int32) (u : Sg) : Option Int32 := fX12_lateOf_0 x1 u
set_option maxRecDepth 10000 in
set_option maxHeartbeats 4000000 in
theorem wX12_lateOf_70 (C : cx D (tyl cI cB cL) A RX12 cX12_lateOf 4 (some .int) p s m args c meth) (hR : 5 ≤ R.frames ∧ 112 ≤ R.locals) {r : Int32} (u : Sg) {K36 : Int32 → Int32 → Int32 → Option Int32} (hK36 : ∀ (y1 : Int32) (y2 : Int32) (y3 : Int32) (H : Heap) (locs : List Loc) (ls : Array Slot), lv_has ls 4 [(0, .ref (ad 0)), (1, .int y1), (2, .int y2), (3, .int y3)] → st D (wM cI cB ad) A s u H locs → K36 y1 y2 y3 = some r → W p l e R s m args below meth c H locs 0 0 (MQ below (qI D (tyl cI cB cL) (wM cI cB ad) A r u) args s 0 0 A) (F0 m 36 ls [])) (x1 : Int32) (x3 : Int32) (t0 : Int32) {H : Heap} {locs : List Loc} {ls : Array Slot} (hl : lv_has ls 4 [(0, .ref (ad 0)), (1, .int x1), (3, .int x3)]) (S : st D (wM cI cB ad) A s u H locs) (h : fX12_lateOf_70 K36 x1 x3 t0 u = some r) : W p l e R s m args below meth c H locs 0 0 (MQ below (qI D (tyl cI cB cL) (wM cI cB ad) A r u) args s 0 0 A) (F0 m 70 ls [.int t0]) := by
  have hx := C.1
  have hb := C.2.1
  have hsz := hl.1
  unfold fX12_lateOf_70 at h
  refine lv_istore_n (lv' := [(2, .int t0), (0, .ref (ad 0)), (1, .int x1), (3, .int x3)]) hx hb dX12_lateOf_70 rfl hl (by decide) rfl (fun ls hl => ?_)
  have hsz := hl.1
  obtain ⟨v19, ev19⟩ : ∃ y : Int32, y = x3 + 1 := ⟨_, rfl⟩
  have h := bnd_of ev19 h
  refine lv_iinc (v := v19) (lv' := [(3, .int v19), (2, .int t0), (0, .ref (ad 0)), (1, .int x1)]) hx hb dX12_lateOf_71 hl (k := 3) rfl (by rw [ev19]; rfl) (by decide) rfl (fun ls hl => ?_)
  have hsz := hl.1
  refine lv_goto (tgt := 36) hx hb dX12_lateOf_74 (by decide) ?_
  exact hK36 x1 t0 v19 H locs ls (lv_sub hl [2, 3, 1, 0] rfl) S h
set_option maxRecDepth 10000 in
set_option maxHeartbeats 4000000 in
theorem wX12_lateOf_36 (C : cx D (tyl cI cB cL) A RX12 cX12_lateOf 4 (some .int) p s m args c meth) (hR : 5 ≤ R.frames ∧ 112 ≤ R.locals) {r : Int32} (u : Sg) : ∀ (n : Nat) (x1 : Int32) (x2 : Int32) (x3 : Int32) (H : Heap) (locs : List Loc) (ls : Array Slot), lv_has ls 4 [(0, .ref (ad 0)), (1, .int x1), (2, .int x2), (3, .int x3)] → st D (wM cI cB ad) A s u H locs → fX12_lateOf_36 u n x1 x2 x3 = some r → W p l e R s m args below meth c H locs 0 0 (MQ below (qI D (tyl cI cB cL) (wM cI cB ad) A r u) args s 0 0 A) (F0 m 36 ls []) := by
  have hx := C.1
  have hb := C.2.1
  intro n
  induction n with
  | zero =>
    intro x1 x2 x3 H locs ls hl S h
    cases h
  | succ n ih =>
    intro x1 x2 x3 H locs ls hl S h
    rw [fX12_lateOf_36] at h
    have hsz := hl.1
    refine lv_iload_n hx hb dX12_lateOf_36 rfl (lv_at hl 3 rfl) ?_
    refine lv_aload_n hx hb dX12_lateOf_37 rfl (lv_at hl 0 rfl) ?_
    obtain ⟨r12, h11, h⟩ := obr_some h
    refine q_callVi (As := []) (na := 0) C S (oM0 cI cB ad) rfl (ct_X12_nodes l D cI cB cL ad u h11) mw_24 mw_23 mw_25 mw_5 mw_22 hdX12_nodes ⟨Nat.le_trans (Nat.le_of_ble_eq_true rfl) hR.1, Nat.le_trans (Nat.le_of_ble_eq_true rfl) hR.2⟩ rfl hsz ⟨Nat.zero_le _, Nat.zero_le _⟩ (Nat.le_of_ble_eq_true rfl) dX12_lateOf_38 rfl (fun H locs S => ?_)
    refine lv_icmp_ge (tgt := 77) hx hb dX12_lateOf_41 (by decide) (fun c13 => ?_) (fun c13 => ?_)
    · have h := cnd_t c13 h
      refine lv_iload_n hx hb dX12_lateOf_77 rfl (lv_at hl 2 rfl) ?_
      refine lv_aload_n hx hb dX12_lateOf_78 rfl (lv_at hl 0 rfl) ?_
      refine lv_iload_n hx hb dX12_lateOf_79 rfl (lv_at hl 1 rfl) ?_
      refine lv_iconst (v := 3) hx hb dX12_lateOf_80 (by decide) ?_
      obtain ⟨r15, h14, h⟩ := obr_some h
      refine q_callVi (As := [.int x1, .int 3]) (na := 2) C S (oM0 cI cB ad) rfl (ct_X12_ofMessage l D cI cB cL ad x1 3 u h14) mw_43 mw_42 mw_44 mw_5 mw_41 hdX12_ofMessage ⟨Nat.le_trans (Nat.le_of_ble_eq_true rfl) hR.1, Nat.le_trans (Nat.le_of_ble_eq_true rfl) hR.2⟩ rfl hsz ⟨Nat.zero_le _, Nat.zero_le _⟩ (Nat.le_of_ble_eq_true rfl) dX12_lateOf_81 rfl (fun H locs S => ?_)
      refine lv_isub hx hb dX12_lateOf_84 ?_
      exact q_iret C S (rt_R h) dX12_lateOf_85
    · have h := cnd_f c13 h
      refine lv_aload_n hx hb dX12_lateOf_44 rfl (lv_at hl 0 rfl) ?_
      refine lv_iload_n hx hb dX12_lateOf_45 rfl (lv_at hl 3 rfl) ?_
      refine lv_iload_n hx hb dX12_lateOf_46 rfl (lv_at hl 1 rfl) ?_
      refine lv_iconst (v := 0) hx hb dX12_lateOf_47 (by decide) ?_
      obtain ⟨r17, h16, h⟩ := obr_some h
      refine q_callVi (As := [.int x3, .int x1, .int 0]) (na := 3) C S (oM0 cI cB ad) rfl (ct_X12_ofPair l D cI cB cL ad x3 x1 0 u h16) mw_126 mw_125 mw_127 mw_5 mw_124 hdX12_ofPair ⟨Nat.le_trans (Nat.le_of_ble_eq_true rfl) hR.1, Nat.le_trans (Nat.le_of_ble_eq_true rfl) hR.2⟩ rfl hsz ⟨Nat.zero_le _, Nat.zero_le _⟩ (Nat.le_of_ble_eq_true rfl) dX12_lateOf_48 rfl (fun H locs S => ?_)
      refine lv_iconst (v := 3) hx hb dX12_lateOf_51 (by decide) ?_
      refine lv_icmp_ne (tgt := 69) hx hb dX12_lateOf_52 (by decide) (fun c18 => ?_) (fun c18 => ?_)
      · have h := cnd_f c18 h
        refine lv_iload_n hx hb dX12_lateOf_69 rfl (lv_at hl 2 rfl) ?_
        exact wX12_lateOf_70 C hR u ih x1 x3 x2 (lv_sub hl [0, 1, 3] rfl) S h
      · have h := cnd_t c18 h
        refine lv_iload_n hx hb dX12_lateOf_55 rfl (lv_at hl 2 rfl) ?_
        refine lv_aload_n hx hb dX12_lateOf_56 rfl (lv_at hl 0 rfl) ?_
        refine lv_iload_n hx hb dX12_lateOf_57 rfl (lv_at hl 3 rfl) ?_
        refine lv_iload_n hx hb dX12_lateOf_58 rfl (lv_at hl 1 rfl) ?_
        refine lv_iconst (v := 4) hx hb dX12_lateOf_59 (by decide) ?_
        obtain ⟨r21, h20, h⟩ := obr_some h
        refine q_callVi (As := [.int x3, .int x1, .int 4]) (na := 3) C S (oM0 cI cB ad) rfl (ct_X12_ofPair l D cI cB cL ad x3 x1 4 u h20) mw_126 mw_125 mw_127 mw_5 mw_124 hdX12_ofPair ⟨Nat.le_trans (Nat.le_of_ble_eq_true rfl) hR.1, Nat.le_trans (Nat.le_of_ble_eq_true rfl) hR.2⟩ rfl hsz ⟨Nat.zero_le _, Nat.zero_le _⟩ (Nat.le_of_ble_eq_true rfl) dX12_lateOf_60 rfl (fun H locs S => ?_)
        refine q_mmax C mw_90 mw_91 mw_92 mw_93 ⟨Nat.le_trans (Nat.le_of_ble_eq_true rfl) hR.1, Nat.le_trans (Nat.le_of_ble_eq_true rfl) hR.2⟩ hsz ⟨Nat.zero_le _, Nat.zero_le _⟩ (Nat.le_of_ble_eq_true rfl) dX12_lateOf_63 ?_
        refine lv_goto (tgt := 70) hx hb dX12_lateOf_66 (by decide) ?_
        exact wX12_lateOf_70 C hR u ih x1 x3 (if x2 < r21 then r21 else x2) (lv_sub hl [0, 1, 3] rfl) S h
set_option maxRecDepth 10000 in
set_option maxHeartbeats 4000000 in
theorem wX12_lateOf_0 (C : cx D (tyl cI cB cL) A RX12 cX12_lateOf 4 (some .int) p s m args c meth) (hR : 5 ≤ R.frames ∧ 112 ≤ R.locals) {r : Int32} (u : Sg) (x1 : Int32) {H : Heap} {locs : List Loc} {ls : Array Slot} (hl : lv_has ls 4 [(0, .ref (ad 0)), (1, .int x1)]) (S : st D (wM cI cB ad) A s u H locs) (h : fX12_lateOf_0 x1 u = some r) : W p l e R s m args below meth c H locs 0 0 (MQ below (qI D (tyl cI cB cL) (wM cI cB ad) A r u) args s 0 0 A) (F0 m 0 ls []) := by
  have hx := C.1
  have hb := C.2.1
  have hsz := hl.1
  unfold fX12_lateOf_0 at h
  refine lv_aload_n hx hb dX12_lateOf_0 rfl (lv_at hl 0 rfl) ?_
  refine lv_iload_n hx hb dX12_lateOf_1 rfl (lv_at hl 1 rfl) ?_
  obtain ⟨r2, h1, h⟩ := obr_some h
  refine q_callVi (As := [.int x1]) (na := 1) C S (oM0 cI cB ad) rfl (ct_X12_deliveredBy l D cI cB cL ad x1 u h1) mw_291 mw_290 mw_292 mw_5 mw_289 hdX12_deliveredBy ⟨Nat.le_trans (Nat.le_of_ble_eq_true rfl) hR.1, Nat.le_trans (Nat.le_of_ble_eq_true rfl) hR.2⟩ rfl hsz ⟨Nat.zero_le _, Nat.zero_le _⟩ (Nat.le_of_ble_eq_true rfl) dX12_lateOf_2 rfl (fun H locs S => ?_)
  refine lv_if_eq (tgt := 30) hx hb dX12_lateOf_5 (by decide) (fun c3 => ?_) (fun c3 => ?_)
  · have h := cnd_t c3 h
    refine lv_iconst (v := (-1)) hx hb dX12_lateOf_30 (by decide) ?_
    exact q_iret C S (rt_R h) dX12_lateOf_31
  · have h := cnd_f c3 h
    refine lv_aload_n hx hb dX12_lateOf_8 rfl (lv_at hl 0 rfl) ?_
    refine lv_iload_n hx hb dX12_lateOf_9 rfl (lv_at hl 1 rfl) ?_
    refine lv_iconst (v := 1) hx hb dX12_lateOf_10 (by decide) ?_
    obtain ⟨r5, h4, h⟩ := obr_some h
    refine q_callVi (As := [.int x1, .int 1]) (na := 2) C S (oM0 cI cB ad) rfl (ct_X12_ofMessage l D cI cB cL ad x1 1 u h4) mw_43 mw_42 mw_44 mw_5 mw_41 hdX12_ofMessage ⟨Nat.le_trans (Nat.le_of_ble_eq_true rfl) hR.1, Nat.le_trans (Nat.le_of_ble_eq_true rfl) hR.2⟩ rfl hsz ⟨Nat.zero_le _, Nat.zero_le _⟩ (Nat.le_of_ble_eq_true rfl) dX12_lateOf_11 rfl (fun H locs S => ?_)
    refine lv_aload_n hx hb dX12_lateOf_14 rfl (lv_at hl 0 rfl) ?_
    obtain ⟨r7, h6, h⟩ := obr_some h
    refine q_callVi (As := []) (na := 0) C S (oM0 cI cB ad) rfl (ct_X12_upOnes l D cI cB cL ad u h6) mw_307 mw_306 mw_308 mw_5 mw_305 hdX12_upOnes ⟨Nat.le_trans (Nat.le_of_ble_eq_true rfl) hR.1, Nat.le_trans (Nat.le_of_ble_eq_true rfl) hR.2⟩ rfl hsz ⟨Nat.zero_le _, Nat.zero_le _⟩ (Nat.le_of_ble_eq_true rfl) dX12_lateOf_15 rfl (fun H locs S => ?_)
    refine lv_iand hx hb dX12_lateOf_18 ?_
    refine lv_aload_n hx hb dX12_lateOf_19 rfl (lv_at hl 0 rfl) ?_
    refine lv_iload_n hx hb dX12_lateOf_20 rfl (lv_at hl 1 rfl) ?_
    obtain ⟨r9, h8, h⟩ := obr_some h
    refine q_callVi (As := [.int x1]) (na := 1) C S (oM0 cI cB ad) rfl (ct_X12_deliveredBy l D cI cB cL ad x1 u h8) mw_291 mw_290 mw_292 mw_5 mw_289 hdX12_deliveredBy ⟨Nat.le_trans (Nat.le_of_ble_eq_true rfl) hR.1, Nat.le_trans (Nat.le_of_ble_eq_true rfl) hR.2⟩ rfl hsz ⟨Nat.zero_le _, Nat.zero_le _⟩ (Nat.le_of_ble_eq_true rfl) dX12_lateOf_21 rfl (fun H locs S => ?_)
    refine lv_iconst (v := (-1)) hx hb dX12_lateOf_24 (by decide) ?_
    refine lv_ixor hx hb dX12_lateOf_25 ?_
    refine lv_iand hx hb dX12_lateOf_26 ?_
    refine lv_if_eq (tgt := 32) hx hb dX12_lateOf_27 (by decide) (fun c10 => ?_) (fun c10 => ?_)
    · have h := cnd_t c10 h
      refine lv_iconst (v := 0) hx hb dX12_lateOf_32 (by decide) ?_
      refine lv_istore_n (lv' := [(2, .int 0), (0, .ref (ad 0)), (1, .int x1)]) hx hb dX12_lateOf_33 rfl hl (by decide) rfl (fun ls hl => ?_)
      have hsz := hl.1
      refine lv_iconst (v := 0) hx hb dX12_lateOf_34 (by decide) ?_
      refine lv_istore_n (lv' := [(3, .int 0), (2, .int 0), (0, .ref (ad 0)), (1, .int x1)]) hx hb dX12_lateOf_35 rfl hl (by decide) rfl (fun ls hl => ?_)
      have hsz := hl.1
      exact wX12_lateOf_36 C hR u FU x1 0 0 H locs ls (lv_sub hl [2, 3, 1, 0] rfl) S h
    · have h := cnd_f c10 h
      refine lv_iconst (v := (-1)) hx hb dX12_lateOf_30 (by decide) ?_
      exact q_iret C S (rt_R h) dX12_lateOf_31
set_option maxRecDepth 10000 in
set_option maxHeartbeats 4000000 in
theorem ct_X12_lateOf (l : Launch) (D : va_G) (cI cB cL : ClassId) (ad : Nat → Nat) (x1 : Int32) (u : Sg) {r : Int32} (h : fX12_lateOf x1 u = some r) : metI l D (tyl cI cB cL) yX12_lateOf cX12_lateOf 4 (some .int) 5 112 (wM cI cB ad) [.ref (ad 0), .int x1] u r u := by
  intro sz
  refine Met.ofW (cc := cX12_lateOf) (maxL := 4) (ret := (some .int)) (by decide) rfl ?_
  intro p e s m args below meth c s₁ B hml hv
  obtain ⟨rfl, C, S⟩ := q_entry B hml hv
  have hl := lv_entry ([.ref (ad 0), .int x1]) (n := 4) (Nat.le_of_ble_eq_true rfl)
  rw [lg_entry_eq]
  generalize (lg_sl ([.ref (ad 0), .int x1]) ++ List.replicate (4 - (lg_sl ([.ref (ad 0), .int x1])).length) Slot.unset).toArray = ls at hl ⊢
  exact wX12_lateOf_0 C ⟨Nat.le_refl _, Nat.le_refl _⟩ u x1 (lv_sub hl [0, 1] rfl) S h
noncomputable def fX12_late_0 (x1 : Int32) (u : Sg) : Option (Int32 × Sg) := bnd (s2 u 0 0 0) (fun u1 => obr (fX12_noMessage x1 u1) (fun r3 => obd (fX12_throwsIf r3 1 u1) (fun r5 u6 => cnd (r5 = 0) (obr (fX12_lateOf x1 u6) (fun r9 => some (r9, u6))) (some (0, u6)))))
noncomputable def fX12_late (x1 : Int32) (u : Sg) : Option (Int32 × Sg) := fX12_late_0 x1 u
set_option maxRecDepth 10000 in
set_option maxHeartbeats 4000000 in
theorem wX12_late_0 (C : cx D (tyl cI cB cL) A RX12 cX12_late 2 (some .int) p s m args c meth) (hR : 6 ≤ R.frames ∧ 135 ≤ R.locals) {r : Int32} {σ' : Sg} (u : Sg) (x1 : Int32) {H : Heap} {locs : List Loc} {ls : Array Slot} (hl : lv_has ls 2 [(0, .ref (ad 0)), (1, .int x1)]) (S : st D (wM cI cB ad) A s u H locs) (h : fX12_late_0 x1 u = some (r, σ')) : W p l e R s m args below meth c H locs 0 0 (MQ below (qI D (tyl cI cB cL) (wM cI cB ad) A r σ') args s 0 0 A) (F0 m 0 ls []) := by
  have hx := C.1
  have hb := C.2.1
  have hsz := hl.1
  unfold fX12_late_0 at h
  refine lv_aload_n hx hb dX12_late_0 rfl (lv_at hl 0 rfl) ?_
  refine lv_iconst (v := 0) hx hb dX12_late_1 (by decide) ?_
  obtain ⟨u1, eu1⟩ : ∃ z : Sg, z = s2 u 0 0 0 := ⟨_, rfl⟩
  have h := bnd_of eu1 h
  refine q_put C S (oM0 cI cB ad) rfl iwX12 tyX12 tyX12_ok nmX12 0 (by decide) mw_11 rfl (iM0_0 cI cB ad) rfl rfl dX12_late_2 eu1 (fun H locs S => ?_)
  refine lv_aload_n hx hb dX12_late_5 rfl (lv_at hl 0 rfl) ?_
  refine lv_aload_n hx hb dX12_late_6 rfl (lv_at hl 0 rfl) ?_
  refine lv_iload_n hx hb dX12_late_7 rfl (lv_at hl 1 rfl) ?_
  obtain ⟨r3, h2, h⟩ := obr_some h
  refine q_callVi (As := [.int x1]) (na := 1) C S (oM0 cI cB ad) rfl (ct_X12_noMessage l D cI cB cL ad x1 u1 h2) mw_242 mw_241 mw_243 mw_5 mw_240 hdX12_noMessage ⟨Nat.le_trans (Nat.le_of_ble_eq_true rfl) hR.1, Nat.le_trans (Nat.le_of_ble_eq_true rfl) hR.2⟩ rfl hsz ⟨Nat.zero_le _, Nat.zero_le _⟩ (Nat.le_of_ble_eq_true rfl) dX12_late_8 rfl (fun H locs S => ?_)
  refine lv_iconst (v := 1) hx hb dX12_late_11 (by decide) ?_
  obtain ⟨r5, u6, h4, h⟩ := obd_some h
  refine q_callVi (As := [.int r3, .int 1]) (na := 2) C S (oM0 cI cB ad) rfl (ct_X12_throwsIf l D cI cB cL ad r3 1 u1 h4) mw_210 mw_209 mw_211 mw_5 mw_208 hdX12_throwsIf ⟨Nat.le_trans (Nat.le_of_ble_eq_true rfl) hR.1, Nat.le_trans (Nat.le_of_ble_eq_true rfl) hR.2⟩ rfl hsz ⟨Nat.zero_le _, Nat.zero_le _⟩ (Nat.le_of_ble_eq_true rfl) dX12_late_12 rfl (fun H locs S => ?_)
  refine lv_if_eq (tgt := 22) hx hb dX12_late_15 (by decide) (fun c7 => ?_) (fun c7 => ?_)
  · have h := cnd_t c7 h
    refine lv_aload_n hx hb dX12_late_22 rfl (lv_at hl 0 rfl) ?_
    refine lv_iload_n hx hb dX12_late_23 rfl (lv_at hl 1 rfl) ?_
    obtain ⟨r9, h8, h⟩ := obr_some h
    refine q_callVi (As := [.int x1]) (na := 1) C S (oM0 cI cB ad) rfl (ct_X12_lateOf l D cI cB cL ad x1 u6 h8) mw_311 mw_310 mw_312 mw_5 mw_309 hdX12_lateOf ⟨Nat.le_trans (Nat.le_of_ble_eq_true rfl) hR.1, Nat.le_trans (Nat.le_of_ble_eq_true rfl) hR.2⟩ rfl hsz ⟨Nat.zero_le _, Nat.zero_le _⟩ (Nat.le_of_ble_eq_true rfl) dX12_late_24 rfl (fun H locs S => ?_)
    exact q_iret C S (rt_S h) dX12_late_27
  · have h := cnd_f c7 h
    refine lv_iconst (v := 0) hx hb dX12_late_18 (by decide) ?_
    refine lv_goto (tgt := 27) hx hb dX12_late_19 (by decide) ?_
    exact q_iret C S (rt_S h) dX12_late_27
set_option maxRecDepth 10000 in
set_option maxHeartbeats 4000000 in
theorem ct_X12_late (l : Launch) (D : va_G) (cI cB cL : ClassId) (ad : Nat → Nat) (x1 : Int32) (u : Sg) {r : Int32} {σ' : Sg} (h : fX12_late x1 u = some (r, σ')) : metI l D (tyl cI cB cL) yX12_late cX12_late 2 (some .int) 6 135 (wM cI cB ad) [.ref (ad 0), .int x1] u r σ' := by
  intro sz
  refine Met.ofW (cc := cX12_late) (maxL := 2) (ret := (some .int)) (by decide) rfl ?_
  intro p e s m args below meth c s₁ B hml hv
  obtain ⟨rfl, C, S⟩ := q_entry B hml hv
  have hl := lv_entry ([.ref (ad 0), .int x1]) (n := 2) (Nat.le_of_ble_eq_true rfl)
  rw [lg_entry_eq]
  generalize (lg_sl ([.ref (ad 0), .int x1]) ++ List.replicate (2 - (lg_sl ([.ref (ad 0), .int x1])).length) Slot.unset).toArray = ls at hl ⊢
  exact wX12_late_0 C ⟨Nat.le_refl _, Nat.le_refl _⟩ u x1 (lv_sub hl [0, 1] rfl) S h
noncomputable def fX12_slowest_39 (K11 : Int32 → Int32 → Int32 → Sg → Option (Int32 × Sg)) (x1 : Int32) (x2 : Int32) (x3 : Int32) (u : Sg) : Option (Int32 × Sg) := bnd (x3 + 1) (fun v10 => K11 x1 x2 v10 u)
noncomputable def fX12_slowest_11 : Nat → Int32 → Int32 → Int32 → Sg → Option (Int32 × Sg)
  | 0, _, _, _, _ => none
  | n + 1, x1, x2, x3, u => obr (fX12_messages u) (fun r3 => cnd (r3 ≤ x3) (some (x1, u)) (obr (fX12_lateOf x3 u) (fun r6 => cnd (x2 < r6) (obr (fX12_lateOf x3 u) (fun r9 => fX12_slowest_39 (fun a0 a1 a2 w => fX12_slowest_11 n a0 a1 a2 w) x3 r9 x3 u)) (fX12_slowest_39 (fun a0 a1 a2 w => fX12_slowest_11 n a0 a1 a2 w) x1 x2 x3 u))))
noncomputable def fX12_slowest_0 (u : Sg) : Option (Int32 × Sg) := bnd (s2 u 0 0 0) (fun u1 => fX12_slowest_11 FU (-1) (-1) 0 u1)
noncomputable def fX12_slowest (u : Sg) : Option (Int32 × Sg) := fX12_slowest_0 u
set_option maxRecDepth 10000 in
set_option maxHeartbeats 4000000 in
theorem wX12_slowest_39 (C : cx D (tyl cI cB cL) A RX12 cX12_slowest 4 (some .int) p s m args c meth) (hR : 6 ≤ R.frames ∧ 135 ≤ R.locals) {r : Int32} {σ' : Sg} (u : Sg) {K11 : Int32 → Int32 → Int32 → Sg → Option (Int32 × Sg)} (hK11 : ∀ (y1 : Int32) (y2 : Int32) (y3 : Int32) (v : Sg) (H : Heap) (locs : List Loc) (ls : Array Slot), lv_has ls 4 [(0, .ref (ad 0)), (1, .int y1), (2, .int y2), (3, .int y3)] → st D (wM cI cB ad) A s v H locs → K11 y1 y2 y3 v = some (r, σ') → W p l e R s m args below meth c H locs 0 0 (MQ below (qI D (tyl cI cB cL) (wM cI cB ad) A r σ') args s 0 0 A) (F0 m 11 ls [])) (x1 : Int32) (x2 : Int32) (x3 : Int32) {H : Heap} {locs : List Loc} {ls : Array Slot} (hl : lv_has ls 4 [(0, .ref (ad 0)), (1, .int x1), (2, .int x2), (3, .int x3)]) (S : st D (wM cI cB ad) A s u H locs) (h : fX12_slowest_39 K11 x1 x2 x3 u = some (r, σ')) : W p l e R s m args below meth c H locs 0 0 (MQ below (qI D (tyl cI cB cL) (wM cI cB ad) A r σ') args s 0 0 A) (F0 m 39 ls []) := by
  have hx := C.1
  have hb := C.2.1
  have hsz := hl.1
  unfold fX12_slowest_39 at h
  obtain ⟨v10, ev10⟩ : ∃ y : Int32, y = x3 + 1 := ⟨_, rfl⟩
  have h := bnd_of ev10 h
  refine lv_iinc (v := v10) (lv' := [(3, .int v10), (0, .ref (ad 0)), (1, .int x1), (2, .int x2)]) hx hb dX12_slowest_39 hl (k := 3) rfl (by rw [ev10]; rfl) (by decide) rfl (fun ls hl => ?_)
  have hsz := hl.1
  refine lv_goto (tgt := 11) hx hb dX12_slowest_42 (by decide) ?_
  exact hK11 x1 x2 v10 u H locs ls (lv_sub hl [1, 2, 3, 0] rfl) S h
set_option maxRecDepth 10000 in
set_option maxHeartbeats 4000000 in
theorem wX12_slowest_11 (C : cx D (tyl cI cB cL) A RX12 cX12_slowest 4 (some .int) p s m args c meth) (hR : 6 ≤ R.frames ∧ 135 ≤ R.locals) {r : Int32} {σ' : Sg} : ∀ (n : Nat) (x1 : Int32) (x2 : Int32) (x3 : Int32) (u : Sg) (H : Heap) (locs : List Loc) (ls : Array Slot), lv_has ls 4 [(0, .ref (ad 0)), (1, .int x1), (2, .int x2), (3, .int x3)] → st D (wM cI cB ad) A s u H locs → fX12_slowest_11 n x1 x2 x3 u = some (r, σ') → W p l e R s m args below meth c H locs 0 0 (MQ below (qI D (tyl cI cB cL) (wM cI cB ad) A r σ') args s 0 0 A) (F0 m 11 ls []) := by
  have hx := C.1
  have hb := C.2.1
  intro n
  induction n with
  | zero =>
    intro x1 x2 x3 u H locs ls hl S h
    cases h
  | succ n ih =>
    intro x1 x2 x3 u H locs ls hl S h
    rw [fX12_slowest_11] at h
    have hsz := hl.1
    refine lv_iload_n hx hb dX12_slowest_11 rfl (lv_at hl 3 rfl) ?_
    refine lv_aload_n hx hb dX12_slowest_12 rfl (lv_at hl 0 rfl) ?_
    obtain ⟨r3, h2, h⟩ := obr_some h
    refine q_callVi (As := []) (na := 0) C S (oM0 cI cB ad) rfl (ct_X12_messages l D cI cB cL ad u h2) mw_31 mw_30 mw_32 mw_5 mw_29 hdX12_messages ⟨Nat.le_trans (Nat.le_of_ble_eq_true rfl) hR.1, Nat.le_trans (Nat.le_of_ble_eq_true rfl) hR.2⟩ rfl hsz ⟨Nat.zero_le _, Nat.zero_le _⟩ (Nat.le_of_ble_eq_true rfl) dX12_slowest_13 rfl (fun H locs S => ?_)
    refine lv_icmp_ge (tgt := 45) hx hb dX12_slowest_16 (by decide) (fun c4 => ?_) (fun c4 => ?_)
    · have h := cnd_t c4 h
      refine lv_iload_n hx hb dX12_slowest_45 rfl (lv_at hl 1 rfl) ?_
      exact q_iret C S (rt_S h) dX12_slowest_46
    · have h := cnd_f c4 h
      refine lv_aload_n hx hb dX12_slowest_19 rfl (lv_at hl 0 rfl) ?_
      refine lv_iload_n hx hb dX12_slowest_20 rfl (lv_at hl 3 rfl) ?_
      obtain ⟨r6, h5, h⟩ := obr_some h
      refine q_callVi (As := [.int x3]) (na := 1) C S (oM0 cI cB ad) rfl (ct_X12_lateOf l D cI cB cL ad x3 u h5) mw_311 mw_310 mw_312 mw_5 mw_309 hdX12_lateOf ⟨Nat.le_trans (Nat.le_of_ble_eq_true rfl) hR.1, Nat.le_trans (Nat.le_of_ble_eq_true rfl) hR.2⟩ rfl hsz ⟨Nat.zero_le _, Nat.zero_le _⟩ (Nat.le_of_ble_eq_true rfl) dX12_slowest_21 rfl (fun H locs S => ?_)
      refine lv_iload_n hx hb dX12_slowest_24 rfl (lv_at hl 2 rfl) ?_
      refine lv_icmp_gt (tgt := 31) hx hb dX12_slowest_25 (by decide) (fun c7 => ?_) (fun c7 => ?_)
      · have h := cnd_t c7 h
        refine lv_aload_n hx hb dX12_slowest_31 rfl (lv_at hl 0 rfl) ?_
        refine lv_iload_n hx hb dX12_slowest_32 rfl (lv_at hl 3 rfl) ?_
        obtain ⟨r9, h8, h⟩ := obr_some h
        refine q_callVi (As := [.int x3]) (na := 1) C S (oM0 cI cB ad) rfl (ct_X12_lateOf l D cI cB cL ad x3 u h8) mw_311 mw_310 mw_312 mw_5 mw_309 hdX12_lateOf ⟨Nat.le_trans (Nat.le_of_ble_eq_true rfl) hR.1, Nat.le_trans (Nat.le_of_ble_eq_true rfl) hR.2⟩ rfl hsz ⟨Nat.zero_le _, Nat.zero_le _⟩ (Nat.le_of_ble_eq_true rfl) dX12_slowest_33 rfl (fun H locs S => ?_)
        refine lv_istore_n (lv' := [(2, .int r9), (0, .ref (ad 0)), (1, .int x1), (3, .int x3)]) hx hb dX12_slowest_36 rfl hl (by decide) rfl (fun ls hl => ?_)
        have hsz := hl.1
        refine lv_iload_n hx hb dX12_slowest_37 rfl (lv_at hl 3 rfl) ?_
        refine lv_istore_n (lv' := [(1, .int x3), (2, .int r9), (0, .ref (ad 0)), (3, .int x3)]) hx hb dX12_slowest_38 rfl hl (by decide) rfl (fun ls hl => ?_)
        have hsz := hl.1
        exact wX12_slowest_39 C hR u ih x3 r9 x3 (lv_sub hl [2, 0, 1, 3] rfl) S h
      · have h := cnd_f c7 h
        refine lv_goto (tgt := 39) hx hb dX12_slowest_28 (by decide) ?_
        exact wX12_slowest_39 C hR u ih x1 x2 x3 (lv_sub hl [0, 1, 2, 3] rfl) S h
set_option maxRecDepth 10000 in
set_option maxHeartbeats 4000000 in
theorem wX12_slowest_0 (C : cx D (tyl cI cB cL) A RX12 cX12_slowest 4 (some .int) p s m args c meth) (hR : 6 ≤ R.frames ∧ 135 ≤ R.locals) {r : Int32} {σ' : Sg} (u : Sg) {H : Heap} {locs : List Loc} {ls : Array Slot} (hl : lv_has ls 4 [(0, .ref (ad 0))]) (S : st D (wM cI cB ad) A s u H locs) (h : fX12_slowest_0 u = some (r, σ')) : W p l e R s m args below meth c H locs 0 0 (MQ below (qI D (tyl cI cB cL) (wM cI cB ad) A r σ') args s 0 0 A) (F0 m 0 ls []) := by
  have hx := C.1
  have hb := C.2.1
  have hsz := hl.1
  unfold fX12_slowest_0 at h
  refine lv_aload_n hx hb dX12_slowest_0 rfl (lv_at hl 0 rfl) ?_
  refine lv_iconst (v := 0) hx hb dX12_slowest_1 (by decide) ?_
  obtain ⟨u1, eu1⟩ : ∃ z : Sg, z = s2 u 0 0 0 := ⟨_, rfl⟩
  have h := bnd_of eu1 h
  refine q_put C S (oM0 cI cB ad) rfl iwX12 tyX12 tyX12_ok nmX12 0 (by decide) mw_11 rfl (iM0_0 cI cB ad) rfl rfl dX12_slowest_2 eu1 (fun H locs S => ?_)
  refine lv_iconst (v := (-1)) hx hb dX12_slowest_5 (by decide) ?_
  refine lv_istore_n (lv' := [(1, .int (-1)), (0, .ref (ad 0))]) hx hb dX12_slowest_6 rfl hl (by decide) rfl (fun ls hl => ?_)
  have hsz := hl.1
  refine lv_iconst (v := (-1)) hx hb dX12_slowest_7 (by decide) ?_
  refine lv_istore_n (lv' := [(2, .int (-1)), (1, .int (-1)), (0, .ref (ad 0))]) hx hb dX12_slowest_8 rfl hl (by decide) rfl (fun ls hl => ?_)
  have hsz := hl.1
  refine lv_iconst (v := 0) hx hb dX12_slowest_9 (by decide) ?_
  refine lv_istore_n (lv' := [(3, .int 0), (2, .int (-1)), (1, .int (-1)), (0, .ref (ad 0))]) hx hb dX12_slowest_10 rfl hl (by decide) rfl (fun ls hl => ?_)
  have hsz := hl.1
  exact wX12_slowest_11 C hR FU (-1) (-1) 0 u1 H locs ls (lv_sub hl [3, 2, 1, 0] rfl) S h
set_option maxRecDepth 10000 in
set_option maxHeartbeats 4000000 in
theorem ct_X12_slowest (l : Launch) (D : va_G) (cI cB cL : ClassId) (ad : Nat → Nat) (u : Sg) {r : Int32} {σ' : Sg} (h : fX12_slowest u = some (r, σ')) : metI l D (tyl cI cB cL) yX12_slowest cX12_slowest 4 (some .int) 6 135 (wM cI cB ad) [.ref (ad 0)] u r σ' := by
  intro sz
  refine Met.ofW (cc := cX12_slowest) (maxL := 4) (ret := (some .int)) (by decide) rfl ?_
  intro p e s m args below meth c s₁ B hml hv
  obtain ⟨rfl, C, S⟩ := q_entry B hml hv
  have hl := lv_entry ([.ref (ad 0)]) (n := 4) (Nat.le_of_ble_eq_true rfl)
  rw [lg_entry_eq]
  generalize (lg_sl ([.ref (ad 0)]) ++ List.replicate (4 - (lg_sl ([.ref (ad 0)])).length) Slot.unset).toArray = ls at hl ⊢
  exact wX12_slowest_0 C ⟨Nat.le_refl _, Nat.le_refl _⟩ u (lv_sub hl [0] rfl) S h
noncomputable def fX12_lag_60 (K24 : Int32 → Int32 → Int32 → Sg → Option (Int32 × Sg)) (x1 : Int32) (x3 : Int32) (t0 : Int32) (t1 : Int32) (u : Sg) : Option (Int32 × Sg) := bnd (t1 ||| t0) (fun v14 => bnd (x3 + 1) (fun v15 => K24 x1 v14 v15 u))
noncomputable def fX12_lag_59 (K24 : Int32 → Int32 → Int32 → Sg → Option (Int32 × Sg)) (x1 : Int32) (x3 : Int32) (t0 : Int32) (u : Sg) : Option (Int32 × Sg) := fX12_lag_60 K24 x1 x3 0 t0 u
noncomputable def fX12_lag_24 : Nat → Int32 → Int32 → Int32 → Sg → Option (Int32 × Sg)
  | 0, _, _, _, _ => none
  | n + 1, x1, x2, x3, u => obr (fX12_messages u) (fun r9 => cnd (r9 ≤ x3) (some (x2, u)) (obr (fX12_isTo x3 x1 u) (fun r12 => cnd (r12 = 0) (fX12_lag_59 (fun a0 a1 a2 w => fX12_lag_24 n a0 a1 a2 w) x1 x3 x2 u) (obr (fX12_ofPair x1 x3 0 u) (fun r17 => cnd (r17 = 3) (fX12_lag_59 (fun a0 a1 a2 w => fX12_lag_24 n a0 a1 a2 w) x1 x3 x2 u) (fX12_lag_60 (fun a0 a1 a2 w => fX12_lag_24 n a0 a1 a2 w) x1 x3 ((1 : Int32) <<< ((x3 &&& 31 : Int32))) x2 u))))))
noncomputable def fX12_lag_0 (x1 : Int32) (u : Sg) : Option (Int32 × Sg) := bnd (s2 u 0 0 0) (fun u1 => obr (fX12_noNode x1 u1) (fun r3 => obd (fX12_throwsIf r3 1 u1) (fun r5 u6 => cnd (r5 = 0) (fX12_lag_24 FU x1 0 0 u6) (some (0, u6)))))
noncomputable def fX12_lag (x1 : Int32) (u : Sg) : Option (Int32 × Sg) := fX12_lag_0 x1 u
set_option maxRecDepth 10000 in
set_option maxHeartbeats 4000000 in
theorem wX12_lag_60 (C : cx D (tyl cI cB cL) A RX12 cX12_lag 4 (some .int) p s m args c meth) (hR : 3 ≤ R.frames ∧ 66 ≤ R.locals) {r : Int32} {σ' : Sg} (u : Sg) {K24 : Int32 → Int32 → Int32 → Sg → Option (Int32 × Sg)} (hK24 : ∀ (y1 : Int32) (y2 : Int32) (y3 : Int32) (v : Sg) (H : Heap) (locs : List Loc) (ls : Array Slot), lv_has ls 4 [(0, .ref (ad 0)), (1, .int y1), (2, .int y2), (3, .int y3)] → st D (wM cI cB ad) A s v H locs → K24 y1 y2 y3 v = some (r, σ') → W p l e R s m args below meth c H locs 0 0 (MQ below (qI D (tyl cI cB cL) (wM cI cB ad) A r σ') args s 0 0 A) (F0 m 24 ls [])) (x1 : Int32) (x3 : Int32) (t0 : Int32) (t1 : Int32) {H : Heap} {locs : List Loc} {ls : Array Slot} (hl : lv_has ls 4 [(0, .ref (ad 0)), (1, .int x1), (3, .int x3)]) (S : st D (wM cI cB ad) A s u H locs) (h : fX12_lag_60 K24 x1 x3 t0 t1 u = some (r, σ')) : W p l e R s m args below meth c H locs 0 0 (MQ below (qI D (tyl cI cB cL) (wM cI cB ad) A r σ') args s 0 0 A) (F0 m 60 ls [.int t0, .int t1]) := by
  have hx := C.1
  have hb := C.2.1
  have hsz := hl.1
  unfold fX12_lag_60 at h
  refine lv_ior hx hb dX12_lag_60 ?_
  refine lv_topi (fun v14 ev14 => ?_)
  have h := bnd_of ev14 h
  refine lv_istore_n (lv' := [(2, .int v14), (0, .ref (ad 0)), (1, .int x1), (3, .int x3)]) hx hb dX12_lag_61 rfl hl (by decide) rfl (fun ls hl => ?_)
  have hsz := hl.1
  obtain ⟨v15, ev15⟩ : ∃ y : Int32, y = x3 + 1 := ⟨_, rfl⟩
  have h := bnd_of ev15 h
  refine lv_iinc (v := v15) (lv' := [(3, .int v15), (2, .int v14), (0, .ref (ad 0)), (1, .int x1)]) hx hb dX12_lag_62 hl (k := 3) rfl (by rw [ev15]; rfl) (by decide) rfl (fun ls hl => ?_)
  have hsz := hl.1
  refine lv_goto (tgt := 24) hx hb dX12_lag_65 (by decide) ?_
  exact hK24 x1 v14 v15 u H locs ls (lv_sub hl [2, 3, 1, 0] rfl) S h
set_option maxRecDepth 10000 in
set_option maxHeartbeats 4000000 in
theorem wX12_lag_59 (C : cx D (tyl cI cB cL) A RX12 cX12_lag 4 (some .int) p s m args c meth) (hR : 3 ≤ R.frames ∧ 66 ≤ R.locals) {r : Int32} {σ' : Sg} (u : Sg) {K24 : Int32 → Int32 → Int32 → Sg → Option (Int32 × Sg)} (hK24 : ∀ (y1 : Int32) (y2 : Int32) (y3 : Int32) (v : Sg) (H : Heap) (locs : List Loc) (ls : Array Slot), lv_has ls 4 [(0, .ref (ad 0)), (1, .int y1), (2, .int y2), (3, .int y3)] → st D (wM cI cB ad) A s v H locs → K24 y1 y2 y3 v = some (r, σ') → W p l e R s m args below meth c H locs 0 0 (MQ below (qI D (tyl cI cB cL) (wM cI cB ad) A r σ') args s 0 0 A) (F0 m 24 ls [])) (x1 : Int32) (x3 : Int32) (t0 : Int32) {H : Heap} {locs : List Loc} {ls : Array Slot} (hl : lv_has ls 4 [(0, .ref (ad 0)), (1, .int x1), (3, .int x3)]) (S : st D (wM cI cB ad) A s u H locs) (h : fX12_lag_59 K24 x1 x3 t0 u = some (r, σ')) : W p l e R s m args below meth c H locs 0 0 (MQ below (qI D (tyl cI cB cL) (wM cI cB ad) A r σ') args s 0 0 A) (F0 m 59 ls [.int t0]) := by
  have hx := C.1
  have hb := C.2.1
  have hsz := hl.1
  unfold fX12_lag_59 at h
  refine lv_iconst (v := 0) hx hb dX12_lag_59 (by decide) ?_
  exact wX12_lag_60 C hR u hK24 x1 x3 0 t0 (lv_sub hl [0, 1, 2] rfl) S h
set_option maxRecDepth 10000 in
set_option maxHeartbeats 4000000 in
theorem wX12_lag_24 (C : cx D (tyl cI cB cL) A RX12 cX12_lag 4 (some .int) p s m args c meth) (hR : 3 ≤ R.frames ∧ 66 ≤ R.locals) {r : Int32} {σ' : Sg} : ∀ (n : Nat) (x1 : Int32) (x2 : Int32) (x3 : Int32) (u : Sg) (H : Heap) (locs : List Loc) (ls : Array Slot), lv_has ls 4 [(0, .ref (ad 0)), (1, .int x1), (2, .int x2), (3, .int x3)] → st D (wM cI cB ad) A s u H locs → fX12_lag_24 n x1 x2 x3 u = some (r, σ') → W p l e R s m args below meth c H locs 0 0 (MQ below (qI D (tyl cI cB cL) (wM cI cB ad) A r σ') args s 0 0 A) (F0 m 24 ls []) := by
  have hx := C.1
  have hb := C.2.1
  intro n
  induction n with
  | zero =>
    intro x1 x2 x3 u H locs ls hl S h
    cases h
  | succ n ih =>
    intro x1 x2 x3 u H locs ls hl S h
    rw [fX12_lag_24] at h
    have hsz := hl.1
    refine lv_iload_n hx hb dX12_lag_24 rfl (lv_at hl 3 rfl) ?_
    refine lv_aload_n hx hb dX12_lag_25 rfl (lv_at hl 0 rfl) ?_
    obtain ⟨r9, h8, h⟩ := obr_some h
    refine q_callVi (As := []) (na := 0) C S (oM0 cI cB ad) rfl (ct_X12_messages l D cI cB cL ad u h8) mw_31 mw_30 mw_32 mw_5 mw_29 hdX12_messages ⟨Nat.le_trans (Nat.le_of_ble_eq_true rfl) hR.1, Nat.le_trans (Nat.le_of_ble_eq_true rfl) hR.2⟩ rfl hsz ⟨Nat.zero_le _, Nat.zero_le _⟩ (Nat.le_of_ble_eq_true rfl) dX12_lag_26 rfl (fun H locs S => ?_)
    refine lv_icmp_ge (tgt := 68) hx hb dX12_lag_29 (by decide) (fun c10 => ?_) (fun c10 => ?_)
    · have h := cnd_t c10 h
      refine lv_iload_n hx hb dX12_lag_68 rfl (lv_at hl 2 rfl) ?_
      exact q_iret C S (rt_S h) dX12_lag_69
    · have h := cnd_f c10 h
      refine lv_iload_n hx hb dX12_lag_32 rfl (lv_at hl 2 rfl) ?_
      refine lv_aload_n hx hb dX12_lag_33 rfl (lv_at hl 0 rfl) ?_
      refine lv_iload_n hx hb dX12_lag_34 rfl (lv_at hl 3 rfl) ?_
      refine lv_iload_n hx hb dX12_lag_35 rfl (lv_at hl 1 rfl) ?_
      obtain ⟨r12, h11, h⟩ := obr_some h
      refine q_callVi (As := [.int x3, .int x1]) (na := 2) C S (oM0 cI cB ad) rfl (ct_X12_isTo l D cI cB cL ad x3 x1 u h11) mw_99 mw_98 mw_100 mw_5 mw_97 hdX12_isTo ⟨Nat.le_trans (Nat.le_of_ble_eq_true rfl) hR.1, Nat.le_trans (Nat.le_of_ble_eq_true rfl) hR.2⟩ rfl hsz ⟨Nat.zero_le _, Nat.zero_le _⟩ (Nat.le_of_ble_eq_true rfl) dX12_lag_36 rfl (fun H locs S => ?_)
      refine lv_if_eq (tgt := 59) hx hb dX12_lag_39 (by decide) (fun c13 => ?_) (fun c13 => ?_)
      · have h := cnd_t c13 h
        exact wX12_lag_59 C hR u ih x1 x3 x2 (lv_sub hl [0, 1, 3] rfl) S h
      · have h := cnd_f c13 h
        refine lv_aload_n hx hb dX12_lag_42 rfl (lv_at hl 0 rfl) ?_
        refine lv_iload_n hx hb dX12_lag_43 rfl (lv_at hl 1 rfl) ?_
        refine lv_iload_n hx hb dX12_lag_44 rfl (lv_at hl 3 rfl) ?_
        refine lv_iconst (v := 0) hx hb dX12_lag_45 (by decide) ?_
        obtain ⟨r17, h16, h⟩ := obr_some h
        refine q_callVi (As := [.int x1, .int x3, .int 0]) (na := 3) C S (oM0 cI cB ad) rfl (ct_X12_ofPair l D cI cB cL ad x1 x3 0 u h16) mw_126 mw_125 mw_127 mw_5 mw_124 hdX12_ofPair ⟨Nat.le_trans (Nat.le_of_ble_eq_true rfl) hR.1, Nat.le_trans (Nat.le_of_ble_eq_true rfl) hR.2⟩ rfl hsz ⟨Nat.zero_le _, Nat.zero_le _⟩ (Nat.le_of_ble_eq_true rfl) dX12_lag_46 rfl (fun H locs S => ?_)
        refine lv_iconst (v := 3) hx hb dX12_lag_49 (by decide) ?_
        refine lv_icmp_eq (tgt := 59) hx hb dX12_lag_50 (by decide) (fun c18 => ?_) (fun c18 => ?_)
        · have h := cnd_t c18 h
          exact wX12_lag_59 C hR u ih x1 x3 x2 (lv_sub hl [0, 1, 3] rfl) S h
        · have h := cnd_f c18 h
          refine lv_iconst (v := 1) hx hb dX12_lag_53 (by decide) ?_
          refine lv_iload_n hx hb dX12_lag_54 rfl (lv_at hl 3 rfl) ?_
          refine lv_ishl hx hb dX12_lag_55 ?_
          refine lv_goto (tgt := 60) hx hb dX12_lag_56 (by decide) ?_
          exact wX12_lag_60 C hR u ih x1 x3 ((1 : Int32) <<< ((x3 &&& 31 : Int32))) x2 (lv_sub hl [0, 1, 3] rfl) S h
set_option maxRecDepth 10000 in
set_option maxHeartbeats 4000000 in
theorem wX12_lag_0 (C : cx D (tyl cI cB cL) A RX12 cX12_lag 4 (some .int) p s m args c meth) (hR : 3 ≤ R.frames ∧ 66 ≤ R.locals) {r : Int32} {σ' : Sg} (u : Sg) (x1 : Int32) {H : Heap} {locs : List Loc} {ls : Array Slot} (hl : lv_has ls 4 [(0, .ref (ad 0)), (1, .int x1)]) (S : st D (wM cI cB ad) A s u H locs) (h : fX12_lag_0 x1 u = some (r, σ')) : W p l e R s m args below meth c H locs 0 0 (MQ below (qI D (tyl cI cB cL) (wM cI cB ad) A r σ') args s 0 0 A) (F0 m 0 ls []) := by
  have hx := C.1
  have hb := C.2.1
  have hsz := hl.1
  unfold fX12_lag_0 at h
  refine lv_aload_n hx hb dX12_lag_0 rfl (lv_at hl 0 rfl) ?_
  refine lv_iconst (v := 0) hx hb dX12_lag_1 (by decide) ?_
  obtain ⟨u1, eu1⟩ : ∃ z : Sg, z = s2 u 0 0 0 := ⟨_, rfl⟩
  have h := bnd_of eu1 h
  refine q_put C S (oM0 cI cB ad) rfl iwX12 tyX12 tyX12_ok nmX12 0 (by decide) mw_11 rfl (iM0_0 cI cB ad) rfl rfl dX12_lag_2 eu1 (fun H locs S => ?_)
  refine lv_aload_n hx hb dX12_lag_5 rfl (lv_at hl 0 rfl) ?_
  refine lv_aload_n hx hb dX12_lag_6 rfl (lv_at hl 0 rfl) ?_
  refine lv_iload_n hx hb dX12_lag_7 rfl (lv_at hl 1 rfl) ?_
  obtain ⟨r3, h2, h⟩ := obr_some h
  refine q_callVi (As := [.int x1]) (na := 1) C S (oM0 cI cB ad) rfl (ct_X12_noNode l D cI cB cL ad x1 u1 h2) mw_226 mw_225 mw_227 mw_5 mw_224 hdX12_noNode ⟨Nat.le_trans (Nat.le_of_ble_eq_true rfl) hR.1, Nat.le_trans (Nat.le_of_ble_eq_true rfl) hR.2⟩ rfl hsz ⟨Nat.zero_le _, Nat.zero_le _⟩ (Nat.le_of_ble_eq_true rfl) dX12_lag_8 rfl (fun H locs S => ?_)
  refine lv_iconst (v := 1) hx hb dX12_lag_11 (by decide) ?_
  obtain ⟨r5, u6, h4, h⟩ := obd_some h
  refine q_callVi (As := [.int r3, .int 1]) (na := 2) C S (oM0 cI cB ad) rfl (ct_X12_throwsIf l D cI cB cL ad r3 1 u1 h4) mw_210 mw_209 mw_211 mw_5 mw_208 hdX12_throwsIf ⟨Nat.le_trans (Nat.le_of_ble_eq_true rfl) hR.1, Nat.le_trans (Nat.le_of_ble_eq_true rfl) hR.2⟩ rfl hsz ⟨Nat.zero_le _, Nat.zero_le _⟩ (Nat.le_of_ble_eq_true rfl) dX12_lag_12 rfl (fun H locs S => ?_)
  refine lv_if_eq (tgt := 20) hx hb dX12_lag_15 (by decide) (fun c7 => ?_) (fun c7 => ?_)
  · have h := cnd_t c7 h
    refine lv_iconst (v := 0) hx hb dX12_lag_20 (by decide) ?_
    refine lv_istore_n (lv' := [(2, .int 0), (0, .ref (ad 0)), (1, .int x1)]) hx hb dX12_lag_21 rfl hl (by decide) rfl (fun ls hl => ?_)
    have hsz := hl.1
    refine lv_iconst (v := 0) hx hb dX12_lag_22 (by decide) ?_
    refine lv_istore_n (lv' := [(3, .int 0), (2, .int 0), (0, .ref (ad 0)), (1, .int x1)]) hx hb dX12_lag_23 rfl hl (by decide) rfl (fun ls hl => ?_)
    have hsz := hl.1
    exact wX12_lag_24 C hR FU x1 0 0 u6 H locs ls (lv_sub hl [2, 3, 1, 0] rfl) S h
  · have h := cnd_f c7 h
    refine lv_iconst (v := 0) hx hb dX12_lag_18 (by decide) ?_
    exact q_iret C S (rt_S h) dX12_lag_19
set_option maxRecDepth 10000 in
set_option maxHeartbeats 4000000 in
theorem ct_X12_lag (l : Launch) (D : va_G) (cI cB cL : ClassId) (ad : Nat → Nat) (x1 : Int32) (u : Sg) {r : Int32} {σ' : Sg} (h : fX12_lag x1 u = some (r, σ')) : metI l D (tyl cI cB cL) yX12_lag cX12_lag 4 (some .int) 3 66 (wM cI cB ad) [.ref (ad 0), .int x1] u r σ' := by
  intro sz
  refine Met.ofW (cc := cX12_lag) (maxL := 4) (ret := (some .int)) (by decide) rfl ?_
  intro p e s m args below meth c s₁ B hml hv
  obtain ⟨rfl, C, S⟩ := q_entry B hml hv
  have hl := lv_entry ([.ref (ad 0), .int x1]) (n := 4) (Nat.le_of_ble_eq_true rfl)
  rw [lg_entry_eq]
  generalize (lg_sl ([.ref (ad 0), .int x1]) ++ List.replicate (4 - (lg_sl ([.ref (ad 0), .int x1])).length) Slot.unset).toArray = ls at hl ⊢
  exact wX12_lag_0 C ⟨Nat.le_refl _, Nat.le_refl _⟩ u x1 (lv_sub hl [0, 1] rfl) S h
noncomputable def fX12_knot_45 (x1 : Int32) (x2 : Int32) (t0 : Int32) (u : Sg) : Option (Int32 × Sg) := obd (fX12_throwsIf t0 2 u) (fun r11 u12 => cnd (r11 = 0) (grd (vp_in (11 + x1) 32243) (grd (vp_in (11 + x2) 32243) (some (((u12 1 (((11 + x1) : Int32).toNatClampNeg)) &&& (u12 1 (((11 + x2) : Int32).toNatClampNeg))), u12)))) (some (0, u12)))
noncomputable def fX12_knot_27 (x1 : Int32) (x2 : Int32) (t0 : Int32) (u : Sg) : Option (Int32 × Sg) := obd (fX12_throwsIf t0 1 u) (fun r6 u7 => cnd (r6 = 0) (cnd (x1 = x2) (fX12_knot_45 x1 x2 1 u7) (fX12_knot_45 x1 x2 0 u7)) (some (0, u7)))
noncomputable def fX12_knot_22 (x1 : Int32) (x2 : Int32) (u : Sg) : Option (Int32 × Sg) := fX12_knot_27 x1 x2 1 u
noncomputable def fX12_knot_0 (x1 : Int32) (x2 : Int32) (u : Sg) : Option (Int32 × Sg) := bnd (s2 u 0 0 0) (fun u1 => obr (fX12_noGroup x1 u1) (fun r3 => cnd (r3 = 0) (obr (fX12_noGroup x2 u1) (fun r17 => cnd (r17 = 0) (fX12_knot_27 x1 x2 0 u1) (fX12_knot_22 x1 x2 u1))) (fX12_knot_22 x1 x2 u1)))
noncomputable def fX12_knot (x1 : Int32) (x2 : Int32) (u : Sg) : Option (Int32 × Sg) := fX12_knot_0 x1 x2 u
set_option maxRecDepth 10000 in
set_option maxHeartbeats 4000000 in
theorem wX12_knot_45 (C : cx D (tyl cI cB cL) A RX12 cX12_knot 3 (some .int) p s m args c meth) (hR : 2 ≤ R.frames ∧ 43 ≤ R.locals) {r : Int32} {σ' : Sg} (u : Sg) (x1 : Int32) (x2 : Int32) (t0 : Int32) {H : Heap} {locs : List Loc} {ls : Array Slot} (hl : lv_has ls 3 [(0, .ref (ad 0)), (1, .int x1), (2, .int x2)]) (S : st D (wM cI cB ad) A s u H locs) (h : fX12_knot_45 x1 x2 t0 u = some (r, σ')) : W p l e R s m args below meth c H locs 0 0 (MQ below (qI D (tyl cI cB cL) (wM cI cB ad) A r σ') args s 0 0 A) (F0 m 45 ls [.int t0, .ref (ad 0)]) := by
  have hx := C.1
  have hb := C.2.1
  have hsz := hl.1
  unfold fX12_knot_45 at h
  refine lv_iconst (v := 2) hx hb dX12_knot_45 (by decide) ?_
  obtain ⟨r11, u12, h10, h⟩ := obd_some h
  refine q_callVi (As := [.int t0, .int 2]) (na := 2) C S (oM0 cI cB ad) rfl (ct_X12_throwsIf l D cI cB cL ad t0 2 u h10) mw_210 mw_209 mw_211 mw_5 mw_208 hdX12_throwsIf ⟨Nat.le_trans (Nat.le_of_ble_eq_true rfl) hR.1, Nat.le_trans (Nat.le_of_ble_eq_true rfl) hR.2⟩ rfl hsz ⟨Nat.zero_le _, Nat.zero_le _⟩ (Nat.le_of_ble_eq_true rfl) dX12_knot_46 rfl (fun H locs S => ?_)
  refine lv_if_eq (tgt := 54) hx hb dX12_knot_49 (by decide) (fun c13 => ?_) (fun c13 => ?_)
  · have h := cnd_t c13 h
    refine lv_aload_n hx hb dX12_knot_54 rfl (lv_at hl 0 rfl) ?_
    refine q_get (v := .ref (ad 1)) C S (oM0 cI cB ad) rfl iwX12 1 (by decide) mw_14 rfl dX12_knot_55 ?_
    refine lv_bipush (v := 11) hx hb dX12_knot_58 (by decide) ?_
    refine lv_iload_n hx hb dX12_knot_60 rfl (lv_at hl 1 rfl) ?_
    refine lv_iadd hx hb dX12_knot_61 ?_
    obtain ⟨g14, h⟩ := grd_some h
    refine q_iald C S (aM1 cI cB ad) 0 rfl g14 dX12_knot_62 (j := ((11 + x1) : Int32).toNatClampNeg) rfl ?_
    refine lv_aload_n hx hb dX12_knot_63 rfl (lv_at hl 0 rfl) ?_
    refine q_get (v := .ref (ad 1)) C S (oM0 cI cB ad) rfl iwX12 1 (by decide) mw_14 rfl dX12_knot_64 ?_
    refine lv_bipush (v := 11) hx hb dX12_knot_67 (by decide) ?_
    refine lv_iload_n hx hb dX12_knot_69 rfl (lv_at hl 2 rfl) ?_
    refine lv_iadd hx hb dX12_knot_70 ?_
    obtain ⟨g15, h⟩ := grd_some h
    refine q_iald C S (aM1 cI cB ad) 0 rfl g15 dX12_knot_71 (j := ((11 + x2) : Int32).toNatClampNeg) rfl ?_
    refine lv_iand hx hb dX12_knot_72 ?_
    exact q_iret C S (rt_S h) dX12_knot_73
  · have h := cnd_f c13 h
    refine lv_iconst (v := 0) hx hb dX12_knot_52 (by decide) ?_
    exact q_iret C S (rt_S h) dX12_knot_53
set_option maxRecDepth 10000 in
set_option maxHeartbeats 4000000 in
theorem wX12_knot_27 (C : cx D (tyl cI cB cL) A RX12 cX12_knot 3 (some .int) p s m args c meth) (hR : 2 ≤ R.frames ∧ 43 ≤ R.locals) {r : Int32} {σ' : Sg} (u : Sg) (x1 : Int32) (x2 : Int32) (t0 : Int32) {H : Heap} {locs : List Loc} {ls : Array Slot} (hl : lv_has ls 3 [(0, .ref (ad 0)), (1, .int x1), (2, .int x2)]) (S : st D (wM cI cB ad) A s u H locs) (h : fX12_knot_27 x1 x2 t0 u = some (r, σ')) : W p l e R s m args below meth c H locs 0 0 (MQ below (qI D (tyl cI cB cL) (wM cI cB ad) A r σ') args s 0 0 A) (F0 m 27 ls [.int t0, .ref (ad 0)]) := by
  have hx := C.1
  have hb := C.2.1
  have hsz := hl.1
  unfold fX12_knot_27 at h
  refine lv_iconst (v := 1) hx hb dX12_knot_27 (by decide) ?_
  obtain ⟨r6, u7, h5, h⟩ := obd_some h
  refine q_callVi (As := [.int t0, .int 1]) (na := 2) C S (oM0 cI cB ad) rfl (ct_X12_throwsIf l D cI cB cL ad t0 1 u h5) mw_210 mw_209 mw_211 mw_5 mw_208 hdX12_throwsIf ⟨Nat.le_trans (Nat.le_of_ble_eq_true rfl) hR.1, Nat.le_trans (Nat.le_of_ble_eq_true rfl) hR.2⟩ rfl hsz ⟨Nat.zero_le _, Nat.zero_le _⟩ (Nat.le_of_ble_eq_true rfl) dX12_knot_28 rfl (fun H locs S => ?_)
  refine lv_if_ne (tgt := 52) hx hb dX12_knot_31 (by decide) (fun c8 => ?_) (fun c8 => ?_)
  · have h := cnd_f c8 h
    refine lv_iconst (v := 0) hx hb dX12_knot_52 (by decide) ?_
    exact q_iret C S (rt_S h) dX12_knot_53
  · have h := cnd_t c8 h
    refine lv_aload_n hx hb dX12_knot_34 rfl (lv_at hl 0 rfl) ?_
    refine lv_iload_n hx hb dX12_knot_35 rfl (lv_at hl 1 rfl) ?_
    refine lv_iload_n hx hb dX12_knot_36 rfl (lv_at hl 2 rfl) ?_
    refine lv_icmp_ne (tgt := 44) hx hb dX12_knot_37 (by decide) (fun c9 => ?_) (fun c9 => ?_)
    · have h := cnd_f c9 h
      refine lv_iconst (v := 0) hx hb dX12_knot_44 (by decide) ?_
      exact wX12_knot_45 C hR u7 x1 x2 0 (lv_sub hl [0, 1, 2] rfl) S h
    · have h := cnd_t c9 h
      refine lv_iconst (v := 1) hx hb dX12_knot_40 (by decide) ?_
      refine lv_goto (tgt := 45) hx hb dX12_knot_41 (by decide) ?_
      exact wX12_knot_45 C hR u7 x1 x2 1 (lv_sub hl [0, 1, 2] rfl) S h
set_option maxRecDepth 10000 in
set_option maxHeartbeats 4000000 in
theorem wX12_knot_22 (C : cx D (tyl cI cB cL) A RX12 cX12_knot 3 (some .int) p s m args c meth) (hR : 2 ≤ R.frames ∧ 43 ≤ R.locals) {r : Int32} {σ' : Sg} (u : Sg) (x1 : Int32) (x2 : Int32) {H : Heap} {locs : List Loc} {ls : Array Slot} (hl : lv_has ls 3 [(0, .ref (ad 0)), (1, .int x1), (2, .int x2)]) (S : st D (wM cI cB ad) A s u H locs) (h : fX12_knot_22 x1 x2 u = some (r, σ')) : W p l e R s m args below meth c H locs 0 0 (MQ below (qI D (tyl cI cB cL) (wM cI cB ad) A r σ') args s 0 0 A) (F0 m 22 ls [.ref (ad 0)]) := by
  have hx := C.1
  have hb := C.2.1
  have hsz := hl.1
  unfold fX12_knot_22 at h
  refine lv_iconst (v := 1) hx hb dX12_knot_22 (by decide) ?_
  refine lv_goto (tgt := 27) hx hb dX12_knot_23 (by decide) ?_
  exact wX12_knot_27 C hR u x1 x2 1 (lv_sub hl [0, 1, 2] rfl) S h
set_option maxRecDepth 10000 in
set_option maxHeartbeats 4000000 in
theorem wX12_knot_0 (C : cx D (tyl cI cB cL) A RX12 cX12_knot 3 (some .int) p s m args c meth) (hR : 2 ≤ R.frames ∧ 43 ≤ R.locals) {r : Int32} {σ' : Sg} (u : Sg) (x1 : Int32) (x2 : Int32) {H : Heap} {locs : List Loc} {ls : Array Slot} (hl : lv_has ls 3 [(0, .ref (ad 0)), (1, .int x1), (2, .int x2)]) (S : st D (wM cI cB ad) A s u H locs) (h : fX12_knot_0 x1 x2 u = some (r, σ')) : W p l e R s m args below meth c H locs 0 0 (MQ below (qI D (tyl cI cB cL) (wM cI cB ad) A r σ') args s 0 0 A) (F0 m 0 ls []) := by
  have hx := C.1
  have hb := C.2.1
  have hsz := hl.1
  unfold fX12_knot_0 at h
  refine lv_aload_n hx hb dX12_knot_0 rfl (lv_at hl 0 rfl) ?_
  refine lv_iconst (v := 0) hx hb dX12_knot_1 (by decide) ?_
  obtain ⟨u1, eu1⟩ : ∃ z : Sg, z = s2 u 0 0 0 := ⟨_, rfl⟩
  have h := bnd_of eu1 h
  refine q_put C S (oM0 cI cB ad) rfl iwX12 tyX12 tyX12_ok nmX12 0 (by decide) mw_11 rfl (iM0_0 cI cB ad) rfl rfl dX12_knot_2 eu1 (fun H locs S => ?_)
  refine lv_aload_n hx hb dX12_knot_5 rfl (lv_at hl 0 rfl) ?_
  refine lv_aload_n hx hb dX12_knot_6 rfl (lv_at hl 0 rfl) ?_
  refine lv_iload_n hx hb dX12_knot_7 rfl (lv_at hl 1 rfl) ?_
  obtain ⟨r3, h2, h⟩ := obr_some h
  refine q_callVi (As := [.int x1]) (na := 1) C S (oM0 cI cB ad) rfl (ct_X12_noGroup l D cI cB cL ad x1 u1 h2) mw_230 mw_229 mw_231 mw_5 mw_228 hdX12_noGroup ⟨Nat.le_trans (Nat.le_of_ble_eq_true rfl) hR.1, Nat.le_trans (Nat.le_of_ble_eq_true rfl) hR.2⟩ rfl hsz ⟨Nat.zero_le _, Nat.zero_le _⟩ (Nat.le_of_ble_eq_true rfl) dX12_knot_8 rfl (fun H locs S => ?_)
  refine lv_if_ne (tgt := 22) hx hb dX12_knot_11 (by decide) (fun c4 => ?_) (fun c4 => ?_)
  · have h := cnd_f c4 h
    exact wX12_knot_22 C hR u1 x1 x2 (lv_sub hl [0, 1, 2] rfl) S h
  · have h := cnd_t c4 h
    refine lv_aload_n hx hb dX12_knot_14 rfl (lv_at hl 0 rfl) ?_
    refine lv_iload_n hx hb dX12_knot_15 rfl (lv_at hl 2 rfl) ?_
    obtain ⟨r17, h16, h⟩ := obr_some h
    refine q_callVi (As := [.int x2]) (na := 1) C S (oM0 cI cB ad) rfl (ct_X12_noGroup l D cI cB cL ad x2 u1 h16) mw_230 mw_229 mw_231 mw_5 mw_228 hdX12_noGroup ⟨Nat.le_trans (Nat.le_of_ble_eq_true rfl) hR.1, Nat.le_trans (Nat.le_of_ble_eq_true rfl) hR.2⟩ rfl hsz ⟨Nat.zero_le _, Nat.zero_le _⟩ (Nat.le_of_ble_eq_true rfl) dX12_knot_16 rfl (fun H locs S => ?_)
    refine lv_if_eq (tgt := 26) hx hb dX12_knot_19 (by decide) (fun c18 => ?_) (fun c18 => ?_)
    · have h := cnd_t c18 h
      refine lv_iconst (v := 0) hx hb dX12_knot_26 (by decide) ?_
      exact wX12_knot_27 C hR u1 x1 x2 0 (lv_sub hl [0, 1, 2] rfl) S h
    · have h := cnd_f c18 h
      exact wX12_knot_22 C hR u1 x1 x2 (lv_sub hl [0, 1, 2] rfl) S h
set_option maxRecDepth 10000 in
set_option maxHeartbeats 4000000 in
theorem ct_X12_knot (l : Launch) (D : va_G) (cI cB cL : ClassId) (ad : Nat → Nat) (x1 : Int32) (x2 : Int32) (u : Sg) {r : Int32} {σ' : Sg} (h : fX12_knot x1 x2 u = some (r, σ')) : metI l D (tyl cI cB cL) yX12_knot cX12_knot 3 (some .int) 2 43 (wM cI cB ad) [.ref (ad 0), .int x1, .int x2] u r σ' := by
  intro sz
  refine Met.ofW (cc := cX12_knot) (maxL := 3) (ret := (some .int)) (by decide) rfl ?_
  intro p e s m args below meth c s₁ B hml hv
  obtain ⟨rfl, C, S⟩ := q_entry B hml hv
  have hl := lv_entry ([.ref (ad 0), .int x1, .int x2]) (n := 3) (Nat.le_of_ble_eq_true rfl)
  rw [lg_entry_eq]
  generalize (lg_sl ([.ref (ad 0), .int x1, .int x2]) ++ List.replicate (3 - (lg_sl ([.ref (ad 0), .int x1, .int x2])).length) Slot.unset).toArray = ls at hl ⊢
  exact wX12_knot_0 C ⟨Nat.le_refl _, Nat.le_refl _⟩ u x1 x2 (lv_sub hl [0, 1, 2] rfl) S h
noncomputable def fX12_isRing_0 (x1 : Int32) (x2 : Int32) (x3 : Int32) (u : Sg) : Option Int32 := grd (vp_in (11 + x1) 32243) (bnd (u 1 (((11 + x1) : Int32).toNatClampNeg)) (fun v2 => grd (vp_in (11 + x2) 32243) (bnd (u 1 (((11 + x2) : Int32).toNatClampNeg)) (fun v4 => grd (vp_in (11 + x3) 32243) (bnd (u 1 (((11 + x3) : Int32).toNatClampNeg)) (fun v6 => cnd ((v2 &&& v4) = 0) (some 0) (cnd ((v4 &&& v6) = 0) (some 0) (cnd ((v2 &&& v6) = 0) (some 0) (cnd (((v2 &&& v4) &&& v6) = 0) (some 1) (some 0))))))))))
noncomputable def fX12_isRing (x1 : Int32) (x2 : Int32) (x3 : Int32) (u : Sg) : Option Int32 := fX12_isRing_0 x1 x2 x3 u
set_option maxRecDepth 10000 in
set_option maxHeartbeats 4000000 in
theorem wX12_isRing_0 (C : cx D (tyl cI cB cL) A RX12 cX12_isRing 7 (some .boolean) p s m args c meth) (hR : 0 ≤ R.frames ∧ 0 ≤ R.locals) {r : Int32} (u : Sg) (x1 : Int32) (x2 : Int32) (x3 : Int32) {H : Heap} {locs : List Loc} {ls : Array Slot} (hl : lv_has ls 7 [(0, .ref (ad 0)), (1, .int x1), (2, .int x2), (3, .int x3)]) (S : st D (wM cI cB ad) A s u H locs) (h : fX12_isRing_0 x1 x2 x3 u = some r) : W p l e R s m args below meth c H locs 0 0 (MQ below (qI D (tyl cI cB cL) (wM cI cB ad) A r u) args s 0 0 A) (F0 m 0 ls []) := by
  have hx := C.1
  have hb := C.2.1
  have hsz := hl.1
  unfold fX12_isRing_0 at h
  refine lv_aload_n hx hb dX12_isRing_0 rfl (lv_at hl 0 rfl) ?_
  refine q_get (v := .ref (ad 1)) C S (oM0 cI cB ad) rfl iwX12 1 (by decide) mw_14 rfl dX12_isRing_1 ?_
  refine lv_bipush (v := 11) hx hb dX12_isRing_4 (by decide) ?_
  refine lv_iload_n hx hb dX12_isRing_6 rfl (lv_at hl 1 rfl) ?_
  refine lv_iadd hx hb dX12_isRing_7 ?_
  obtain ⟨g1, h⟩ := grd_some h
  refine q_iald C S (aM1 cI cB ad) 0 rfl g1 dX12_isRing_8 (j := ((11 + x1) : Int32).toNatClampNeg) rfl ?_
  refine lv_topi (fun v2 ev2 => ?_)
  have h := bnd_of ev2 h
  refine lv_istore (lv' := [(4, .int v2), (0, .ref (ad 0)), (1, .int x1), (2, .int x2), (3, .int x3)]) hx hb dX12_isRing_9 hl (by decide) rfl (fun ls hl => ?_)
  have hsz := hl.1
  refine lv_aload_n hx hb dX12_isRing_11 rfl (lv_at hl 1 rfl) ?_
  refine q_get (v := .ref (ad 1)) C S (oM0 cI cB ad) rfl iwX12 1 (by decide) mw_14 rfl dX12_isRing_12 ?_
  refine lv_bipush (v := 11) hx hb dX12_isRing_15 (by decide) ?_
  refine lv_iload_n hx hb dX12_isRing_17 rfl (lv_at hl 3 rfl) ?_
  refine lv_iadd hx hb dX12_isRing_18 ?_
  obtain ⟨g3, h⟩ := grd_some h
  refine q_iald C S (aM1 cI cB ad) 0 rfl g3 dX12_isRing_19 (j := ((11 + x2) : Int32).toNatClampNeg) rfl ?_
  refine lv_topi (fun v4 ev4 => ?_)
  have h := bnd_of ev4 h
  refine lv_istore (lv' := [(5, .int v4), (4, .int v2), (0, .ref (ad 0)), (1, .int x1), (2, .int x2), (3, .int x3)]) hx hb dX12_isRing_20 hl (by decide) rfl (fun ls hl => ?_)
  have hsz := hl.1
  refine lv_aload_n hx hb dX12_isRing_22 rfl (lv_at hl 2 rfl) ?_
  refine q_get (v := .ref (ad 1)) C S (oM0 cI cB ad) rfl iwX12 1 (by decide) mw_14 rfl dX12_isRing_23 ?_
  refine lv_bipush (v := 11) hx hb dX12_isRing_26 (by decide) ?_
  refine lv_iload_n hx hb dX12_isRing_28 rfl (lv_at hl 5 rfl) ?_
  refine lv_iadd hx hb dX12_isRing_29 ?_
  obtain ⟨g5, h⟩ := grd_some h
  refine q_iald C S (aM1 cI cB ad) 0 rfl g5 dX12_isRing_30 (j := ((11 + x3) : Int32).toNatClampNeg) rfl ?_
  refine lv_topi (fun v6 ev6 => ?_)
  have h := bnd_of ev6 h
  refine lv_istore (lv' := [(6, .int v6), (5, .int v4), (4, .int v2), (0, .ref (ad 0)), (1, .int x1), (2, .int x2), (3, .int x3)]) hx hb dX12_isRing_31 hl (by decide) rfl (fun ls hl => ?_)
  have hsz := hl.1
  refine lv_iload hx hb dX12_isRing_33 (lv_at hl 2 rfl) ?_
  refine lv_iload hx hb dX12_isRing_35 (lv_at hl 1 rfl) ?_
  refine lv_iand hx hb dX12_isRing_37 ?_
  refine lv_if_eq (tgt := 72) hx hb dX12_isRing_38 (by decide) (fun c7 => ?_) (fun c7 => ?_)
  · have h := cnd_t c7 h
    refine lv_iconst (v := 0) hx hb dX12_isRing_72 (by decide) ?_
    exact q_zret C S rfl (rt_R h) dX12_isRing_73
  · have h := cnd_f c7 h
    refine lv_iload hx hb dX12_isRing_41 (lv_at hl 1 rfl) ?_
    refine lv_iload hx hb dX12_isRing_43 (lv_at hl 0 rfl) ?_
    refine lv_iand hx hb dX12_isRing_45 ?_
    refine lv_if_eq (tgt := 72) hx hb dX12_isRing_46 (by decide) (fun c8 => ?_) (fun c8 => ?_)
    · have h := cnd_t c8 h
      refine lv_iconst (v := 0) hx hb dX12_isRing_72 (by decide) ?_
      exact q_zret C S rfl (rt_R h) dX12_isRing_73
    · have h := cnd_f c8 h
      refine lv_iload hx hb dX12_isRing_49 (lv_at hl 2 rfl) ?_
      refine lv_iload hx hb dX12_isRing_51 (lv_at hl 0 rfl) ?_
      refine lv_iand hx hb dX12_isRing_53 ?_
      refine lv_if_eq (tgt := 72) hx hb dX12_isRing_54 (by decide) (fun c9 => ?_) (fun c9 => ?_)
      · have h := cnd_t c9 h
        refine lv_iconst (v := 0) hx hb dX12_isRing_72 (by decide) ?_
        exact q_zret C S rfl (rt_R h) dX12_isRing_73
      · have h := cnd_f c9 h
        refine lv_iload hx hb dX12_isRing_57 (lv_at hl 2 rfl) ?_
        refine lv_iload hx hb dX12_isRing_59 (lv_at hl 1 rfl) ?_
        refine lv_iand hx hb dX12_isRing_61 ?_
        refine lv_iload hx hb dX12_isRing_62 (lv_at hl 0 rfl) ?_
        refine lv_iand hx hb dX12_isRing_64 ?_
        refine lv_if_ne (tgt := 72) hx hb dX12_isRing_65 (by decide) (fun c10 => ?_) (fun c10 => ?_)
        · have h := cnd_f c10 h
          refine lv_iconst (v := 0) hx hb dX12_isRing_72 (by decide) ?_
          exact q_zret C S rfl (rt_R h) dX12_isRing_73
        · have h := cnd_t c10 h
          refine lv_iconst (v := 1) hx hb dX12_isRing_68 (by decide) ?_
          refine lv_goto (tgt := 73) hx hb dX12_isRing_69 (by decide) ?_
          exact q_zret C S rfl (rt_R h) dX12_isRing_73
set_option maxRecDepth 10000 in
set_option maxHeartbeats 4000000 in
theorem ct_X12_isRing (l : Launch) (D : va_G) (cI cB cL : ClassId) (ad : Nat → Nat) (x1 : Int32) (x2 : Int32) (x3 : Int32) (u : Sg) {r : Int32} (h : fX12_isRing x1 x2 x3 u = some r) : metI l D (tyl cI cB cL) yX12_isRing cX12_isRing 7 (some .boolean) 0 0 (wM cI cB ad) [.ref (ad 0), .int x1, .int x2, .int x3] u r u := by
  intro sz
  refine Met.ofW (cc := cX12_isRing) (maxL := 7) (ret := (some .boolean)) (by decide) rfl ?_
  intro p e s m args below meth c s₁ B hml hv
  obtain ⟨rfl, C, S⟩ := q_entry B hml hv
  have hl := lv_entry ([.ref (ad 0), .int x1, .int x2, .int x3]) (n := 7) (Nat.le_of_ble_eq_true rfl)
  rw [lg_entry_eq]
  generalize (lg_sl ([.ref (ad 0), .int x1, .int x2, .int x3]) ++ List.replicate (7 - (lg_sl ([.ref (ad 0), .int x1, .int x2, .int x3])).length) Slot.unset).toArray = ls at hl ⊢
  exact wX12_isRing_0 C ⟨Nat.le_refl _, Nat.le_refl _⟩ u x1 x2 x3 (lv_sub hl [0, 1, 2, 3] rfl) S h
noncomputable def fX12_ring_33 (K14 : Int32 → Int32 → Sg → Option (Int32 × Sg)) (K23 : Int32 → Int32 → Int32 → Sg → Option (Int32 × Sg)) : Nat → Int32 → Int32 → Int32 → Int32 → Sg → Option (Int32 × Sg)
  | 0, _, _, _, _, _ => none
  | n + 1, x1, x2, x3, x4, u => cnd (x1 ≤ x4) (bnd (x3 + 1) (fun v9 => K23 x1 x2 v9 u)) (obr (fX12_isRing x2 x3 x4 u) (fun r11 => cnd (r11 = 0) (bnd (x4 + 1) (fun v13 => fX12_ring_33 K14 K23 n x1 x2 x3 v13 u)) (some (((((1 : Int32) <<< ((x2 &&& 31 : Int32))) ||| ((1 : Int32) <<< ((x3 &&& 31 : Int32)))) ||| ((1 : Int32) <<< ((x4 &&& 31 : Int32)))), u))))
noncomputable def fX12_ring_23 (K14 : Int32 → Int32 → Sg → Option (Int32 × Sg)) : Nat → Int32 → Int32 → Int32 → Sg → Option (Int32 × Sg)
  | 0, _, _, _, _ => none
  | n + 1, x1, x2, x3, u => cnd (x1 ≤ x3) (bnd (x2 + 1) (fun v6 => K14 x1 v6 u)) (bnd (x3 + 1) (fun v7 => fX12_ring_33 K14 (fun a0 a1 a2 w => fX12_ring_23 K14 n a0 a1 a2 w) FU x1 x2 x3 v7 u))
noncomputable def fX12_ring_14 : Nat → Int32 → Int32 → Sg → Option (Int32 × Sg)
  | 0, _, _, _ => none
  | n + 1, x1, x2, u => cnd (x1 ≤ x2) (some ((-1), u)) (bnd (x2 + 1) (fun v4 => fX12_ring_23 (fun a0 a1 w => fX12_ring_14 n a0 a1 w) FU x1 x2 v4 u))
noncomputable def fX12_ring_0 (u : Sg) : Option (Int32 × Sg) := bnd (s2 u 0 0 0) (fun u1 => bnd (u1 1 1) (fun v2 => fX12_ring_14 FU v2 0 u1))
noncomputable def fX12_ring (u : Sg) : Option (Int32 × Sg) := fX12_ring_0 u
set_option maxRecDepth 10000 in
set_option maxHeartbeats 4000000 in
theorem wX12_ring_33 (C : cx D (tyl cI cB cL) A RX12 cX12_ring 5 (some .int) p s m args c meth) (hR : 1 ≤ R.frames ∧ 26 ≤ R.locals) {r : Int32} {σ' : Sg} {K14 : Int32 → Int32 → Sg → Option (Int32 × Sg)} (hK14 : ∀ (y1 : Int32) (y2 : Int32) (v : Sg) (H : Heap) (locs : List Loc) (ls : Array Slot), lv_has ls 5 [(0, .ref (ad 0)), (1, .int y1), (2, .int y2)] → st D (wM cI cB ad) A s v H locs → K14 y1 y2 v = some (r, σ') → W p l e R s m args below meth c H locs 0 0 (MQ below (qI D (tyl cI cB cL) (wM cI cB ad) A r σ') args s 0 0 A) (F0 m 14 ls [])) {K23 : Int32 → Int32 → Int32 → Sg → Option (Int32 × Sg)} (hK23 : ∀ (y1 : Int32) (y2 : Int32) (y3 : Int32) (v : Sg) (H : Heap) (locs : List Loc) (ls : Array Slot), lv_has ls 5 [(0, .ref (ad 0)), (1, .int y1), (2, .int y2), (3, .int y3)] → st D (wM cI cB ad) A s v H locs → K23 y1 y2 y3 v = some (r, σ') → W p l e R s m args below meth c H locs 0 0 (MQ below (qI D (tyl cI cB cL) (wM cI cB ad) A r σ') args s 0 0 A) (F0 m 23 ls [])) : ∀ (n : Nat) (x1 : Int32) (x2 : Int32) (x3 : Int32) (x4 : Int32) (u : Sg) (H : Heap) (locs : List Loc) (ls : Array Slot), lv_has ls 5 [(0, .ref (ad 0)), (1, .int x1), (2, .int x2), (3, .int x3), (4, .int x4)] → st D (wM cI cB ad) A s u H locs → fX12_ring_33 K14 K23 n x1 x2 x3 x4 u = some (r, σ') → W p l e R s m args below meth c H locs 0 0 (MQ below (qI D (tyl cI cB cL) (wM cI cB ad) A r σ') args s 0 0 A) (F0 m 33 ls []) := by
  have hx := C.1
  have hb := C.2.1
  intro n
  induction n with
  | zero =>
    intro x1 x2 x3 x4 u H locs ls hl S h
    cases h
  | succ n ih =>
    intro x1 x2 x3 x4 u H locs ls hl S h
    rw [fX12_ring_33] at h
    have hsz := hl.1
    refine lv_iload hx hb dX12_ring_33 (lv_at hl 4 rfl) ?_
    refine lv_iload_n hx hb dX12_ring_35 rfl (lv_at hl 1 rfl) ?_
    refine lv_icmp_ge (tgt := 69) hx hb dX12_ring_36 (by decide) (fun c8 => ?_) (fun c8 => ?_)
    · have h := cnd_t c8 h
      obtain ⟨v9, ev9⟩ : ∃ y : Int32, y = x3 + 1 := ⟨_, rfl⟩
      have h := bnd_of ev9 h
      refine lv_iinc (v := v9) (lv' := [(3, .int v9), (0, .ref (ad 0)), (1, .int x1), (2, .int x2), (4, .int x4)]) hx hb dX12_ring_69 hl (k := 3) rfl (by rw [ev9]; rfl) (by decide) rfl (fun ls hl => ?_)
      have hsz := hl.1
      refine lv_goto (tgt := 23) hx hb dX12_ring_72 (by decide) ?_
      exact hK23 x1 x2 v9 u H locs ls (lv_sub hl [1, 2, 3, 0] rfl) S h
    · have h := cnd_f c8 h
      refine lv_aload_n hx hb dX12_ring_39 rfl (lv_at hl 0 rfl) ?_
      refine lv_iload_n hx hb dX12_ring_40 rfl (lv_at hl 2 rfl) ?_
      refine lv_iload_n hx hb dX12_ring_41 rfl (lv_at hl 3 rfl) ?_
      refine lv_iload hx hb dX12_ring_42 (lv_at hl 4 rfl) ?_
      obtain ⟨r11, h10, h⟩ := obr_some h
      refine q_callVi (As := [.int x2, .int x3, .int x4]) (na := 3) C S (oM0 cI cB ad) rfl (ct_X12_isRing l D cI cB cL ad x2 x3 x4 u h10) mw_315 mw_314 mw_316 mw_5 mw_313 hdX12_isRing ⟨Nat.le_trans (Nat.le_of_ble_eq_true rfl) hR.1, Nat.le_trans (Nat.le_of_ble_eq_true rfl) hR.2⟩ rfl hsz ⟨Nat.zero_le _, Nat.zero_le _⟩ (Nat.le_of_ble_eq_true rfl) dX12_ring_44 rfl (fun H locs S => ?_)
      refine lv_if_eq (tgt := 63) hx hb dX12_ring_47 (by decide) (fun c12 => ?_) (fun c12 => ?_)
      · have h := cnd_t c12 h
        obtain ⟨v13, ev13⟩ : ∃ y : Int32, y = x4 + 1 := ⟨_, rfl⟩
        have h := bnd_of ev13 h
        refine lv_iinc (v := v13) (lv' := [(4, .int v13), (0, .ref (ad 0)), (1, .int x1), (2, .int x2), (3, .int x3)]) hx hb dX12_ring_63 hl (k := 4) rfl (by rw [ev13]; rfl) (by decide) rfl (fun ls hl => ?_)
        have hsz := hl.1
        refine lv_goto (tgt := 33) hx hb dX12_ring_66 (by decide) ?_
        exact ih x1 x2 x3 v13 u H locs ls (lv_sub hl [1, 2, 3, 4, 0] rfl) S h
      · have h := cnd_f c12 h
        refine lv_iconst (v := 1) hx hb dX12_ring_50 (by decide) ?_
        refine lv_iload_n hx hb dX12_ring_51 rfl (lv_at hl 2 rfl) ?_
        refine lv_ishl hx hb dX12_ring_52 ?_
        refine lv_iconst (v := 1) hx hb dX12_ring_53 (by decide) ?_
        refine lv_iload_n hx hb dX12_ring_54 rfl (lv_at hl 3 rfl) ?_
        refine lv_ishl hx hb dX12_ring_55 ?_
        refine lv_ior hx hb dX12_ring_56 ?_
        refine lv_iconst (v := 1) hx hb dX12_ring_57 (by decide) ?_
        refine lv_iload hx hb dX12_ring_58 (lv_at hl 4 rfl) ?_
        refine lv_ishl hx hb dX12_ring_60 ?_
        refine lv_ior hx hb dX12_ring_61 ?_
        exact q_iret C S (rt_S h) dX12_ring_62
set_option maxRecDepth 10000 in
set_option maxHeartbeats 4000000 in
theorem wX12_ring_23 (C : cx D (tyl cI cB cL) A RX12 cX12_ring 5 (some .int) p s m args c meth) (hR : 1 ≤ R.frames ∧ 26 ≤ R.locals) {r : Int32} {σ' : Sg} {K14 : Int32 → Int32 → Sg → Option (Int32 × Sg)} (hK14 : ∀ (y1 : Int32) (y2 : Int32) (v : Sg) (H : Heap) (locs : List Loc) (ls : Array Slot), lv_has ls 5 [(0, .ref (ad 0)), (1, .int y1), (2, .int y2)] → st D (wM cI cB ad) A s v H locs → K14 y1 y2 v = some (r, σ') → W p l e R s m args below meth c H locs 0 0 (MQ below (qI D (tyl cI cB cL) (wM cI cB ad) A r σ') args s 0 0 A) (F0 m 14 ls [])) : ∀ (n : Nat) (x1 : Int32) (x2 : Int32) (x3 : Int32) (u : Sg) (H : Heap) (locs : List Loc) (ls : Array Slot), lv_has ls 5 [(0, .ref (ad 0)), (1, .int x1), (2, .int x2), (3, .int x3)] → st D (wM cI cB ad) A s u H locs → fX12_ring_23 K14 n x1 x2 x3 u = some (r, σ') → W p l e R s m args below meth c H locs 0 0 (MQ below (qI D (tyl cI cB cL) (wM cI cB ad) A r σ') args s 0 0 A) (F0 m 23 ls []) := by
  have hx := C.1
  have hb := C.2.1
  intro n
  induction n with
  | zero =>
    intro x1 x2 x3 u H locs ls hl S h
    cases h
  | succ n ih =>
    intro x1 x2 x3 u H locs ls hl S h
    rw [fX12_ring_23] at h
    have hsz := hl.1
    refine lv_iload_n hx hb dX12_ring_23 rfl (lv_at hl 3 rfl) ?_
    refine lv_iload_n hx hb dX12_ring_24 rfl (lv_at hl 1 rfl) ?_
    refine lv_icmp_ge (tgt := 75) hx hb dX12_ring_25 (by decide) (fun c5 => ?_) (fun c5 => ?_)
    · have h := cnd_t c5 h
      obtain ⟨v6, ev6⟩ : ∃ y : Int32, y = x2 + 1 := ⟨_, rfl⟩
      have h := bnd_of ev6 h
      refine lv_iinc (v := v6) (lv' := [(2, .int v6), (0, .ref (ad 0)), (1, .int x1), (3, .int x3)]) hx hb dX12_ring_75 hl (k := 2) rfl (by rw [ev6]; rfl) (by decide) rfl (fun ls hl => ?_)
      have hsz := hl.1
      refine lv_goto (tgt := 14) hx hb dX12_ring_78 (by decide) ?_
      exact hK14 x1 v6 u H locs ls (lv_sub hl [1, 2, 0] rfl) S h
    · have h := cnd_f c5 h
      refine lv_iload_n hx hb dX12_ring_28 rfl (lv_at hl 3 rfl) ?_
      refine lv_iconst (v := 1) hx hb dX12_ring_29 (by decide) ?_
      refine lv_iadd hx hb dX12_ring_30 ?_
      refine lv_topi (fun v7 ev7 => ?_)
      have h := bnd_of ev7 h
      refine lv_istore (lv' := [(4, .int v7), (0, .ref (ad 0)), (1, .int x1), (2, .int x2), (3, .int x3)]) hx hb dX12_ring_31 hl (by decide) rfl (fun ls hl => ?_)
      have hsz := hl.1
      exact wX12_ring_33 C hR hK14 ih FU x1 x2 x3 v7 u H locs ls (lv_sub hl [1, 2, 3, 4, 0] rfl) S h
set_option maxRecDepth 10000 in
set_option maxHeartbeats 4000000 in
theorem wX12_ring_14 (C : cx D (tyl cI cB cL) A RX12 cX12_ring 5 (some .int) p s m args c meth) (hR : 1 ≤ R.frames ∧ 26 ≤ R.locals) {r : Int32} {σ' : Sg} : ∀ (n : Nat) (x1 : Int32) (x2 : Int32) (u : Sg) (H : Heap) (locs : List Loc) (ls : Array Slot), lv_has ls 5 [(0, .ref (ad 0)), (1, .int x1), (2, .int x2)] → st D (wM cI cB ad) A s u H locs → fX12_ring_14 n x1 x2 u = some (r, σ') → W p l e R s m args below meth c H locs 0 0 (MQ below (qI D (tyl cI cB cL) (wM cI cB ad) A r σ') args s 0 0 A) (F0 m 14 ls []) := by
  have hx := C.1
  have hb := C.2.1
  intro n
  induction n with
  | zero =>
    intro x1 x2 u H locs ls hl S h
    cases h
  | succ n ih =>
    intro x1 x2 u H locs ls hl S h
    rw [fX12_ring_14] at h
    have hsz := hl.1
    refine lv_iload_n hx hb dX12_ring_14 rfl (lv_at hl 2 rfl) ?_
    refine lv_iload_n hx hb dX12_ring_15 rfl (lv_at hl 1 rfl) ?_
    refine lv_icmp_ge (tgt := 81) hx hb dX12_ring_16 (by decide) (fun c3 => ?_) (fun c3 => ?_)
    · have h := cnd_t c3 h
      refine lv_iconst (v := (-1)) hx hb dX12_ring_81 (by decide) ?_
      exact q_iret C S (rt_S h) dX12_ring_82
    · have h := cnd_f c3 h
      refine lv_iload_n hx hb dX12_ring_19 rfl (lv_at hl 2 rfl) ?_
      refine lv_iconst (v := 1) hx hb dX12_ring_20 (by decide) ?_
      refine lv_iadd hx hb dX12_ring_21 ?_
      refine lv_topi (fun v4 ev4 => ?_)
      have h := bnd_of ev4 h
      refine lv_istore_n (lv' := [(3, .int v4), (0, .ref (ad 0)), (1, .int x1), (2, .int x2)]) hx hb dX12_ring_22 rfl hl (by decide) rfl (fun ls hl => ?_)
      have hsz := hl.1
      exact wX12_ring_23 C hR ih FU x1 x2 v4 u H locs ls (lv_sub hl [1, 2, 3, 0] rfl) S h
set_option maxRecDepth 10000 in
set_option maxHeartbeats 4000000 in
theorem wX12_ring_0 (C : cx D (tyl cI cB cL) A RX12 cX12_ring 5 (some .int) p s m args c meth) (hR : 1 ≤ R.frames ∧ 26 ≤ R.locals) {r : Int32} {σ' : Sg} (u : Sg) {H : Heap} {locs : List Loc} {ls : Array Slot} (hl : lv_has ls 5 [(0, .ref (ad 0))]) (S : st D (wM cI cB ad) A s u H locs) (h : fX12_ring_0 u = some (r, σ')) : W p l e R s m args below meth c H locs 0 0 (MQ below (qI D (tyl cI cB cL) (wM cI cB ad) A r σ') args s 0 0 A) (F0 m 0 ls []) := by
  have hx := C.1
  have hb := C.2.1
  have hsz := hl.1
  unfold fX12_ring_0 at h
  refine lv_aload_n hx hb dX12_ring_0 rfl (lv_at hl 0 rfl) ?_
  refine lv_iconst (v := 0) hx hb dX12_ring_1 (by decide) ?_
  obtain ⟨u1, eu1⟩ : ∃ z : Sg, z = s2 u 0 0 0 := ⟨_, rfl⟩
  have h := bnd_of eu1 h
  refine q_put C S (oM0 cI cB ad) rfl iwX12 tyX12 tyX12_ok nmX12 0 (by decide) mw_11 rfl (iM0_0 cI cB ad) rfl rfl dX12_ring_2 eu1 (fun H locs S => ?_)
  refine lv_aload_n hx hb dX12_ring_5 rfl (lv_at hl 0 rfl) ?_
  refine q_get (v := .ref (ad 1)) C S (oM0 cI cB ad) rfl iwX12 1 (by decide) mw_14 rfl dX12_ring_6 ?_
  refine lv_iconst (v := 1) hx hb dX12_ring_9 (by decide) ?_
  refine q_iald C S (aM1 cI cB ad) 0 rfl (show vp_in 1 32243 by unfold vp_in; decide) dX12_ring_10 (j := 1) (by decide) ?_
  refine lv_topi (fun v2 ev2 => ?_)
  have h := bnd_of ev2 h
  refine lv_istore_n (lv' := [(1, .int v2), (0, .ref (ad 0))]) hx hb dX12_ring_11 rfl hl (by decide) rfl (fun ls hl => ?_)
  have hsz := hl.1
  refine lv_iconst (v := 0) hx hb dX12_ring_12 (by decide) ?_
  refine lv_istore_n (lv' := [(2, .int 0), (1, .int v2), (0, .ref (ad 0))]) hx hb dX12_ring_13 rfl hl (by decide) rfl (fun ls hl => ?_)
  have hsz := hl.1
  exact wX12_ring_14 C hR FU v2 0 u1 H locs ls (lv_sub hl [2, 1, 0] rfl) S h
set_option maxRecDepth 10000 in
set_option maxHeartbeats 4000000 in
theorem ct_X12_ring (l : Launch) (D : va_G) (cI cB cL : ClassId) (ad : Nat → Nat) (u : Sg) {r : Int32} {σ' : Sg} (h : fX12_ring u = some (r, σ')) : metI l D (tyl cI cB cL) yX12_ring cX12_ring 5 (some .int) 1 26 (wM cI cB ad) [.ref (ad 0)] u r σ' := by
  intro sz
  refine Met.ofW (cc := cX12_ring) (maxL := 5) (ret := (some .int)) (by decide) rfl ?_
  intro p e s m args below meth c s₁ B hml hv
  obtain ⟨rfl, C, S⟩ := q_entry B hml hv
  have hl := lv_entry ([.ref (ad 0)]) (n := 5) (Nat.le_of_ble_eq_true rfl)
  rw [lg_entry_eq]
  generalize (lg_sl ([.ref (ad 0)]) ++ List.replicate (5 - (lg_sl ([.ref (ad 0)])).length) Slot.unset).toArray = ls at hl ⊢
  exact wX12_ring_0 C ⟨Nat.le_refl _, Nat.le_refl _⟩ u (lv_sub hl [0] rfl) S h
noncomputable def fX12_spared_0 (x1 : Int32) (u : Sg) : Option (Int32 × Sg) := bnd (s2 u 0 0 0) (fun u1 => obr (fX12_noMessage x1 u1) (fun r3 => obd (fX12_throwsIf r3 1 u1) (fun r5 u6 => cnd (r5 = 0) (obr (fX12_ofMessage x1 1 u6) (fun r9 => obr (fX12_ofMessage x1 2 u6) (fun r11 => some (((3 * (fJ6_bitCount_0f7a4 r9)) - r11), u6)))) (some (0, u6)))))
noncomputable def fX12_spared (x1 : Int32) (u : Sg) : Option (Int32 × Sg) := fX12_spared_0 x1 u
set_option maxRecDepth 10000 in
set_option maxHeartbeats 4000000 in
theorem wX12_spared_0 (C : cx D (tyl cI cB cL) A RX12 cX12_spared 2 (some .int) p s m args c meth) (hR : 2 ≤ R.frames ∧ 43 ≤ R.locals) {r : Int32} {σ' : Sg} (u : Sg) (x1 : Int32) {H : Heap} {locs : List Loc} {ls : Array Slot} (hl : lv_has ls 2 [(0, .ref (ad 0)), (1, .int x1)]) (S : st D (wM cI cB ad) A s u H locs) (h : fX12_spared_0 x1 u = some (r, σ')) : W p l e R s m args below meth c H locs 0 0 (MQ below (qI D (tyl cI cB cL) (wM cI cB ad) A r σ') args s 0 0 A) (F0 m 0 ls []) := by
  have hx := C.1
  have hb := C.2.1
  have hsz := hl.1
  unfold fX12_spared_0 at h
  refine lv_aload_n hx hb dX12_spared_0 rfl (lv_at hl 0 rfl) ?_
  refine lv_iconst (v := 0) hx hb dX12_spared_1 (by decide) ?_
  obtain ⟨u1, eu1⟩ : ∃ z : Sg, z = s2 u 0 0 0 := ⟨_, rfl⟩
  have h := bnd_of eu1 h
  refine q_put C S (oM0 cI cB ad) rfl iwX12 tyX12 tyX12_ok nmX12 0 (by decide) mw_11 rfl (iM0_0 cI cB ad) rfl rfl dX12_spared_2 eu1 (fun H locs S => ?_)
  refine lv_aload_n hx hb dX12_spared_5 rfl (lv_at hl 0 rfl) ?_
  refine lv_aload_n hx hb dX12_spared_6 rfl (lv_at hl 0 rfl) ?_
  refine lv_iload_n hx hb dX12_spared_7 rfl (lv_at hl 1 rfl) ?_
  obtain ⟨r3, h2, h⟩ := obr_some h
  refine q_callVi (As := [.int x1]) (na := 1) C S (oM0 cI cB ad) rfl (ct_X12_noMessage l D cI cB cL ad x1 u1 h2) mw_242 mw_241 mw_243 mw_5 mw_240 hdX12_noMessage ⟨Nat.le_trans (Nat.le_of_ble_eq_true rfl) hR.1, Nat.le_trans (Nat.le_of_ble_eq_true rfl) hR.2⟩ rfl hsz ⟨Nat.zero_le _, Nat.zero_le _⟩ (Nat.le_of_ble_eq_true rfl) dX12_spared_8 rfl (fun H locs S => ?_)
  refine lv_iconst (v := 1) hx hb dX12_spared_11 (by decide) ?_
  obtain ⟨r5, u6, h4, h⟩ := obd_some h
  refine q_callVi (As := [.int r3, .int 1]) (na := 2) C S (oM0 cI cB ad) rfl (ct_X12_throwsIf l D cI cB cL ad r3 1 u1 h4) mw_210 mw_209 mw_211 mw_5 mw_208 hdX12_throwsIf ⟨Nat.le_trans (Nat.le_of_ble_eq_true rfl) hR.1, Nat.le_trans (Nat.le_of_ble_eq_true rfl) hR.2⟩ rfl hsz ⟨Nat.zero_le _, Nat.zero_le _⟩ (Nat.le_of_ble_eq_true rfl) dX12_spared_12 rfl (fun H locs S => ?_)
  refine lv_if_eq (tgt := 20) hx hb dX12_spared_15 (by decide) (fun c7 => ?_) (fun c7 => ?_)
  · have h := cnd_t c7 h
    refine lv_iconst (v := 3) hx hb dX12_spared_20 (by decide) ?_
    refine lv_aload_n hx hb dX12_spared_21 rfl (lv_at hl 0 rfl) ?_
    refine lv_iload_n hx hb dX12_spared_22 rfl (lv_at hl 1 rfl) ?_
    refine lv_iconst (v := 1) hx hb dX12_spared_23 (by decide) ?_
    obtain ⟨r9, h8, h⟩ := obr_some h
    refine q_callVi (As := [.int x1, .int 1]) (na := 2) C S (oM0 cI cB ad) rfl (ct_X12_ofMessage l D cI cB cL ad x1 1 u6 h8) mw_43 mw_42 mw_44 mw_5 mw_41 hdX12_ofMessage ⟨Nat.le_trans (Nat.le_of_ble_eq_true rfl) hR.1, Nat.le_trans (Nat.le_of_ble_eq_true rfl) hR.2⟩ rfl hsz ⟨Nat.zero_le _, Nat.zero_le _⟩ (Nat.le_of_ble_eq_true rfl) dX12_spared_24 rfl (fun H locs S => ?_)
    refine q_callP (As := [.int r9]) (na := 1) C S (ct_J6_bitCount_0f7a4 l D cI cB cL r9) mw_239 mw_238 mw_237 mw_236 hdJ6_bitCount_0f7a4 ⟨Nat.le_trans (Nat.le_of_ble_eq_true rfl) hR.1, Nat.le_trans (Nat.le_of_ble_eq_true rfl) hR.2⟩ rfl hsz ⟨Nat.zero_le _, Nat.zero_le _⟩ (Nat.le_of_ble_eq_true rfl) dX12_spared_27 rfl (fun H locs S => ?_)
    refine lv_imul hx hb dX12_spared_30 ?_
    refine lv_aload_n hx hb dX12_spared_31 rfl (lv_at hl 0 rfl) ?_
    refine lv_iload_n hx hb dX12_spared_32 rfl (lv_at hl 1 rfl) ?_
    refine lv_iconst (v := 2) hx hb dX12_spared_33 (by decide) ?_
    obtain ⟨r11, h10, h⟩ := obr_some h
    refine q_callVi (As := [.int x1, .int 2]) (na := 2) C S (oM0 cI cB ad) rfl (ct_X12_ofMessage l D cI cB cL ad x1 2 u6 h10) mw_43 mw_42 mw_44 mw_5 mw_41 hdX12_ofMessage ⟨Nat.le_trans (Nat.le_of_ble_eq_true rfl) hR.1, Nat.le_trans (Nat.le_of_ble_eq_true rfl) hR.2⟩ rfl hsz ⟨Nat.zero_le _, Nat.zero_le _⟩ (Nat.le_of_ble_eq_true rfl) dX12_spared_34 rfl (fun H locs S => ?_)
    refine lv_isub hx hb dX12_spared_37 ?_
    exact q_iret C S (rt_S h) dX12_spared_38
  · have h := cnd_f c7 h
    refine lv_iconst (v := 0) hx hb dX12_spared_18 (by decide) ?_
    exact q_iret C S (rt_S h) dX12_spared_19
set_option maxRecDepth 10000 in
set_option maxHeartbeats 4000000 in
theorem ct_X12_spared (l : Launch) (D : va_G) (cI cB cL : ClassId) (ad : Nat → Nat) (x1 : Int32) (u : Sg) {r : Int32} {σ' : Sg} (h : fX12_spared x1 u = some (r, σ')) : metI l D (tyl cI cB cL) yX12_spared cX12_spared 2 (some .int) 2 43 (wM cI cB ad) [.ref (ad 0), .int x1] u r σ' := by
  intro sz
  refine Met.ofW (cc := cX12_spared) (maxL := 2) (ret := (some .int)) (by decide) rfl ?_
  intro p e s m args below meth c s₁ B hml hv
  obtain ⟨rfl, C, S⟩ := q_entry B hml hv
  have hl := lv_entry ([.ref (ad 0), .int x1]) (n := 2) (Nat.le_of_ble_eq_true rfl)
  rw [lg_entry_eq]
  generalize (lg_sl ([.ref (ad 0), .int x1]) ++ List.replicate (2 - (lg_sl ([.ref (ad 0), .int x1])).length) Slot.unset).toArray = ls at hl ⊢
  exact wX12_spared_0 C ⟨Nat.le_refl _, Nat.le_refl _⟩ u x1 (lv_sub hl [0, 1] rfl) S h
end S_16_m06
