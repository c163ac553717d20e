theorem mw_468 : Cond.fieldLink RX1 39 "LeastPending$Channels" "used" "I" ∈ gw := gw_t1 120 rfl rfl
theorem mw_469 : Cond.fieldLink RX1 24 "LeastPending$Channels" "last" "[I" ∈ gw := gw_t1 110 rfl rfl
theorem mw_470 : Cond.methodLink RX1 61 Lib.Math.max.name ∈ gw := gw_t5 38 rfl rfl
theorem mw_471 : Cond.constant RX1 56 262144 ∈ gw := gw_t5 25 rfl rfl
theorem mw_472 : Cond.methodLink RX1 57 yJ7_copyOf_59c91 ∈ gw := gw_t5 26 rfl rfl
theorem mw_473 : Cond.static yJ7_copyOf_59c91 ∈ gw := gw_t5 27 rfl rfl
theorem mw_474 : Cond.initialized RJ7 ∈ gw := gw_t1 6 rfl rfl
theorem mw_475 : Cond.code yJ7_copyOf_59c91 cJ7_copyOf_59c91 3 (some (.array .int)) ∈ gw := gw_t5 28 rfl rfl
theorem mw_476 : Cond.fieldLink RX7 299 "LeastPending$Channels" "delay" "[I" ∈ gw := gw_t1 107 rfl rfl
theorem mw_477 : Cond.fieldLink RX7 24 "LeastPending$Net" "jitter" "I" ∈ gw := gw_t2 60 rfl rfl
theorem mw_478 : Cond.code yX1_add cX1_add 8 none ∈ gw := gw_t5 24 rfl rfl
theorem mw_479 : Cond.instanceMethod yX1_add ∈ gw := gw_t5 22 rfl rfl
theorem mw_480 : Cond.methodLink RX7 305 yX1_add ∈ gw := gw_t5 21 rfl rfl
theorem mw_481 : Cond.selects RX1 yX1_add yX1_add ∈ gw := gw_t5 23 rfl rfl
theorem mw_482 : Cond.fieldLink RX7 308 "LeastPending$Mail" "cost" "[I" ∈ gw := gw_t1 159 rfl rfl
theorem mw_483 : Cond.fieldLink RX7 311 "LeastPending$Mail" "putters" "[I" ∈ gw := gw_t1 164 rfl rfl
theorem mw_484 : Cond.fieldLink RX7 56 "LeastPending$Net" "puts" "[I" ∈ gw := gw_t2 79 rfl rfl
theorem mw_485 : Cond.code yX7_draw cX7_draw 1 (some .int) ∈ gw := gw_t5 19 rfl rfl
theorem mw_486 : Cond.instanceMethod yX7_draw ∈ gw := gw_t5 18 rfl rfl
theorem mw_487 : Cond.methodLink RX7 302 yX7_draw ∈ gw := gw_t5 16 rfl rfl
theorem mw_488 : Cond.selects RX7 yX7_draw yX7_draw ∈ gw := gw_pv (n := 19) (List.mem_of_getElem? (i := 19) rfl)
theorem mw_489 : Cond.code yX7_propose cX7_propose 3 none ∈ gw := gw_t5 62 rfl rfl
theorem mw_490 : Cond.instanceMethod yX7_propose ∈ gw := gw_t5 61 rfl rfl
theorem mw_491 : Cond.methodLink RX7 231 yX7_propose ∈ gw := gw_t5 59 rfl rfl
theorem mw_492 : Cond.selects RX7 yX7_propose yX7_propose ∈ gw := gw_pv (n := 19) (List.mem_of_getElem? (i := 22) rfl)
theorem mw_493 : Cond.code yX7_put cX7_put 9 none ∈ gw := gw_t5 13 rfl rfl
theorem mw_494 : Cond.instanceMethod yX7_put ∈ gw := gw_t5 12 rfl rfl
theorem mw_495 : Cond.methodLink RX7 240 yX7_put ∈ gw := gw_t5 10 rfl rfl
theorem mw_496 : Cond.selects RX7 yX7_put yX7_put ∈ gw := gw_pv (n := 19) (List.mem_of_getElem? (i := 18) rfl)
theorem mw_497 : Cond.code yX3_hear cX3_hear 5 none ∈ gw := gw_t5 75 rfl rfl
theorem mw_498 : Cond.instanceMethod yX3_hear ∈ gw := gw_t5 73 rfl rfl
theorem mw_499 : Cond.methodLink RX7 256 yX3_hear ∈ gw := gw_t5 72 rfl rfl
theorem mw_500 : Cond.selects RX3 yX3_hear yX3_hear ∈ gw := gw_t5 74 rfl rfl
theorem mw_501 : Cond.code yX11_numberOf cX11_numberOf 1 (some .int) ∈ gw := gw_t4 137 rfl rfl
theorem mw_502 : Cond.static yX11_numberOf ∈ gw := gw_t4 136 rfl rfl
theorem mw_503 : Cond.methodLink RX7 247 Lib.Math.max.name ∈ gw := gw_t5 67 rfl rfl
theorem mw_504 : Cond.code yX4_settle cX4_settle 5 none ∈ gw := gw_t5 71 rfl rfl
theorem mw_505 : Cond.instanceMethod yX4_settle ∈ gw := gw_t5 69 rfl rfl
theorem mw_506 : Cond.methodLink RX7 252 yX4_settle ∈ gw := gw_t5 68 rfl rfl
theorem mw_507 : Cond.selects RX4 yX4_settle yX4_settle ∈ gw := gw_t5 70 rfl rfl
theorem mw_508 : Cond.fieldLink RX7 215 "LeastPending$Channels" "size" "[I" ∈ gw := gw_t1 114 rfl rfl
theorem mw_509 : Cond.code yX1_openCell cX1_openCell 4 (some .int) ∈ gw := gw_t5 50 rfl rfl
theorem mw_510 : Cond.instanceMethod yX1_openCell ∈ gw := gw_t5 48 rfl rfl
theorem mw_511 : Cond.methodLink RX7 218 yX1_openCell ∈ gw := gw_t5 47 rfl rfl
theorem mw_512 : Cond.selects RX1 yX1_openCell yX1_openCell ∈ gw := gw_t5 49 rfl rfl
theorem mw_513 : Cond.fieldLink RX7 221 "LeastPending$Channels" "pool" "[I" ∈ gw := gw_t1 117 rfl rfl
theorem mw_514 : Cond.methodLink RX7 224 yX1_dropFirst ∈ gw := gw_t5 51 rfl rfl
theorem mw_515 : Cond.code yX7_hear cX7_hear 8 none ∈ gw := gw_t5 58 rfl rfl
theorem mw_516 : Cond.instanceMethod yX7_hear ∈ gw := gw_t5 57 rfl rfl
theorem mw_517 : Cond.methodLink RX7 227 yX7_hear ∈ gw := gw_t5 55 rfl rfl
theorem mw_518 : Cond.selects RX7 yX7_hear yX7_hear ∈ gw := gw_pv (n := 19) (List.mem_of_getElem? (i := 21) rfl)
theorem mw_519 : Cond.fieldLink RX7 36 "LeastPending$Net" "stirred" "Z" ∈ gw := gw_t2 70 rfl rfl
theorem hdX1_add : yX1_add.cls = RX1 ∧ yX1_add.cls ≠ "java/lang/invoke/MethodHandle" ∧ yX1_add.cls ≠ "java/lang/invoke/VarHandle" ∧ (parseMethodDescriptor yX1_add.desc).map (fun d => d.parameters.length) = some 6 := by decide +kernel
theorem hdX1_openCell : yX1_openCell.cls = RX1 ∧ yX1_openCell.cls ≠ "java/lang/invoke/MethodHandle" ∧ yX1_openCell.cls ≠ "java/lang/invoke/VarHandle" ∧ (parseMethodDescriptor yX1_openCell.desc).map (fun d => d.parameters.length) = some 2 := by decide +kernel
theorem hdX3_hear : yX3_hear.cls = RX3 ∧ yX3_hear.cls ≠ "java/lang/invoke/MethodHandle" ∧ yX3_hear.cls ≠ "java/lang/invoke/VarHandle" ∧ (parseMethodDescriptor yX3_hear.desc).map (fun d => d.parameters.length) = some 4 := by decide +kernel
theorem hdX4_settle : yX4_settle.cls = RX4 ∧ yX4_settle.cls ≠ "java/lang/invoke/MethodHandle" ∧ yX4_settle.cls ≠ "java/lang/invoke/VarHandle" ∧ (parseMethodDescriptor yX4_settle.desc).map (fun d => d.parameters.length) = some 3 := by decide +kernel
theorem hdX7_draw : yX7_draw.cls = RX7 ∧ yX7_draw.cls ≠ "java/lang/invoke/MethodHandle" ∧ yX7_draw.cls ≠ "java/lang/invoke/VarHandle" ∧ (parseMethodDescriptor yX7_draw.desc).map (fun d => d.parameters.length) = some 0 := by decide +kernel
theorem hdX7_hear : yX7_hear.cls = RX7 ∧ yX7_hear.cls ≠ "java/lang/invoke/MethodHandle" ∧ yX7_hear.cls ≠ "java/lang/invoke/VarHandle" ∧ (parseMethodDescriptor yX7_hear.desc).map (fun d => d.parameters.length) = some 6 := by decide +kernel
theorem hdX7_propose : yX7_propose.cls = RX7 ∧ yX7_propose.cls ≠ "java/lang/invoke/MethodHandle" ∧ yX7_propose.cls ≠ "java/lang/invoke/VarHandle" ∧ (parseMethodDescriptor yX7_propose.desc).map (fun d => d.parameters.length) = some 2 := by decide +kernel
theorem hdX7_put : yX7_put.cls = RX7 ∧ yX7_put.cls ≠ "java/lang/invoke/MethodHandle" ∧ yX7_put.cls ≠ "java/lang/invoke/VarHandle" ∧ (parseMethodDescriptor yX7_put.desc).map (fun d => d.parameters.length) = some 6 := by decide +kernel
theorem hdX11_numberOf : yX11_numberOf.cls ≠ "java/lang/invoke/MethodHandle" ∧ yX11_numberOf.cls ≠ "java/lang/invoke/VarHandle" ∧ (parseMethodDescriptor yX11_numberOf.desc).map (fun d => d.parameters.length) = some 1 := by decide +kernel
theorem dX1_add_0 : decode cX1_add 0 = .ok (.aload_n 0, 1) := by decide +kernel
theorem dX1_add_1 : decode cX1_add 1 = .ok (.getfield 43, 3) := by decide +kernel
theorem dX1_add_4 : decode cX1_add 4 = .ok (.istore 7, 2) := by decide +kernel
theorem dX1_add_6 : decode cX1_add 6 = .ok (.iload 7, 2) := by decide +kernel
theorem dX1_add_8 : decode cX1_add 8 = .ok (.iconst (-1), 1) := by decide +kernel
theorem dX1_add_9 : decode cX1_add 9 = .ok (.if_icmp .eq 19, 3) := by decide +kernel
theorem dX1_add_12 : decode cX1_add 12 = .ok (.aload_n 0, 1) := by decide +kernel
theorem dX1_add_13 : decode cX1_add 13 = .ok (.aload_n 0, 1) := by decide +kernel
theorem dX1_add_14 : decode cX1_add 14 = .ok (.getfield 30, 3) := by decide +kernel
theorem dX1_add_17 : decode cX1_add 17 = .ok (.iload 7, 2) := by decide +kernel
theorem dX1_add_19 : decode cX1_add 19 = .ok (.iconst 5, 1) := by decide +kernel
theorem dX1_add_20 : decode cX1_add 20 = .ok (.iadd, 1) := by decide +kernel
theorem dX1_add_21 : decode cX1_add 21 = .ok (.iaload, 1) := by decide +kernel
theorem dX1_add_22 : decode cX1_add 22 = .ok (.putfield 43, 3) := by decide +kernel
theorem dX1_add_25 : decode cX1_add 25 = .ok (.goto 64, 3) := by decide +kernel
theorem dX1_add_28 : decode cX1_add 28 = .ok (.aload_n 0, 1) := by decide +kernel
theorem dX1_add_29 : decode cX1_add 29 = .ok (.getfield 39, 3) := by decide +kernel
theorem dX1_add_32 : decode cX1_add 32 = .ok (.bipush 6, 2) := by decide +kernel
theorem dX1_add_34 : decode cX1_add 34 = .ok (.iadd, 1) := by decide +kernel
theorem dX1_add_35 : decode cX1_add 35 = .ok (.aload_n 0, 1) := by decide +kernel
theorem dX1_add_36 : decode cX1_add 36 = .ok (.getfield 30, 3) := by decide +kernel
theorem dX1_add_39 : decode cX1_add 39 = .ok (.arraylength, 1) := by decide +kernel
theorem dX1_add_40 : decode cX1_add 40 = .ok (.if_icmp .le 32, 3) := by decide +kernel
theorem dX1_add_43 : decode cX1_add 43 = .ok (.aload_n 0, 1) := by decide +kernel
theorem dX1_add_44 : decode cX1_add 44 = .ok (.getfield 30, 3) := by decide +kernel
theorem dX1_add_47 : decode cX1_add 47 = .ok (.arraylength, 1) := by decide +kernel
theorem dX1_add_48 : decode cX1_add 48 = .ok (.ldc 56, 2) := by decide +kernel
theorem dX1_add_50 : decode cX1_add 50 = .ok (.if_icmp .le 4, 3) := by decide +kernel
theorem dX1_add_53 : decode cX1_add 53 = .ok (.return_, 1) := by decide +kernel
theorem dX1_add_54 : decode cX1_add 54 = .ok (.aload_n 0, 1) := by decide +kernel
theorem dX1_add_55 : decode cX1_add 55 = .ok (.aload_n 0, 1) := by decide +kernel
theorem dX1_add_56 : decode cX1_add 56 = .ok (.getfield 30, 3) := by decide +kernel
theorem dX1_add_59 : decode cX1_add 59 = .ok (.aload_n 0, 1) := by decide +kernel
theorem dX1_add_60 : decode cX1_add 60 = .ok (.getfield 30, 3) := by decide +kernel
theorem dX1_add_63 : decode cX1_add 63 = .ok (.arraylength, 1) := by decide +kernel
theorem dX1_add_64 : decode cX1_add 64 = .ok (.iconst 2, 1) := by decide +kernel
theorem dX1_add_65 : decode cX1_add 65 = .ok (.imul, 1) := by decide +kernel
theorem dX1_add_66 : decode cX1_add 66 = .ok (.invokestatic 57, 3) := by decide +kernel
theorem dX1_add_69 : decode cX1_add 69 = .ok (.putfield 30, 3) := by decide +kernel
theorem dX1_add_72 : decode cX1_add 72 = .ok (.aload_n 0, 1) := by decide +kernel
theorem dX1_add_73 : decode cX1_add 73 = .ok (.getfield 39, 3) := by decide +kernel
theorem dX1_add_76 : decode cX1_add 76 = .ok (.istore 7, 2) := by decide +kernel
theorem dX1_add_78 : decode cX1_add 78 = .ok (.aload_n 0, 1) := by decide +kernel
theorem dX1_add_79 : decode cX1_add 79 = .ok (.dup, 1) := by decide +kernel
theorem dX1_add_80 : decode cX1_add 80 = .ok (.getfield 39, 3) := by decide +kernel
theorem dX1_add_83 : decode cX1_add 83 = .ok (.bipush 6, 2) := by decide +kernel
theorem dX1_add_85 : decode cX1_add 85 = .ok (.iadd, 1) := by decide +kernel
theorem dX1_add_86 : decode cX1_add 86 = .ok (.putfield 39, 3) := by decide +kernel
theorem dX1_add_89 : decode cX1_add 89 = .ok (.aload_n 0, 1) := by decide +kernel
theorem dX1_add_90 : decode cX1_add 90 = .ok (.getfield 24, 3) := by decide +kernel
theorem dX1_add_93 : decode cX1_add 93 = .ok (.iload_n 1, 1) := by decide +kernel
theorem dX1_add_94 : decode cX1_add 94 = .ok (.aload_n 0, 1) := by decide +kernel
theorem dX1_add_95 : decode cX1_add 95 = .ok (.getfield 24, 3) := by decide +kernel
theorem dX1_add_98 : decode cX1_add 98 = .ok (.iload_n 1, 1) := by decide +kernel
theorem dX1_add_99 : decode cX1_add 99 = .ok (.iaload, 1) := by decide +kernel
theorem dX1_add_100 : decode cX1_add 100 = .ok (.iload_n 2, 1) := by decide +kernel
theorem dX1_add_101 : decode cX1_add 101 = .ok (.invokestatic 61, 3) := by decide +kernel
theorem dX1_add_104 : decode cX1_add 104 = .ok (.iastore, 1) := by decide +kernel
theorem dX1_add_105 : decode cX1_add 105 = .ok (.aload_n 0, 1) := by decide +kernel
theorem dX1_add_106 : decode cX1_add 106 = .ok (.getfield 30, 3) := by decide +kernel
theorem dX1_add_109 : decode cX1_add 109 = .ok (.iload 7, 2) := by decide +kernel
theorem dX1_add_111 : decode cX1_add 111 = .ok (.iconst 0, 1) := by decide +kernel
theorem dX1_add_112 : decode cX1_add 112 = .ok (.iadd, 1) := by decide +kernel
theorem dX1_add_113 : decode cX1_add 113 = .ok (.aload_n 0, 1) := by decide +kernel
theorem dX1_add_114 : decode cX1_add 114 = .ok (.getfield 24, 3) := by decide +kernel
theorem dX1_add_117 : decode cX1_add 117 = .ok (.iload_n 1, 1) := by decide +kernel
theorem dX1_add_118 : decode cX1_add 118 = .ok (.iaload, 1) := by decide +kernel
theorem dX1_add_119 : decode cX1_add 119 = .ok (.iastore, 1) := by decide +kernel
theorem dX1_add_120 : decode cX1_add 120 = .ok (.aload_n 0, 1) := by decide +kernel
theorem dX1_add_121 : decode cX1_add 121 = .ok (.getfield 30, 3) := by decide +kernel
theorem dX1_add_124 : decode cX1_add 124 = .ok (.iload 7, 2) := by decide +kernel
theorem dX1_add_126 : decode cX1_add 126 = .ok (.iconst 1, 1) := by decide +kernel
theorem dX1_add_127 : decode cX1_add 127 = .ok (.iadd, 1) := by decide +kernel
theorem dX1_add_128 : decode cX1_add 128 = .ok (.iload_n 3, 1) := by decide +kernel
theorem dX1_add_129 : decode cX1_add 129 = .ok (.iastore, 1) := by decide +kernel
theorem dX1_add_130 : decode cX1_add 130 = .ok (.aload_n 0, 1) := by decide +kernel
theorem dX1_add_131 : decode cX1_add 131 = .ok (.getfield 30, 3) := by decide +kernel
theorem dX1_add_134 : decode cX1_add 134 = .ok (.iload 7, 2) := by decide +kernel
theorem dX1_add_136 : decode cX1_add 136 = .ok (.iconst 2, 1) := by decide +kernel
theorem dX1_add_137 : decode cX1_add 137 = .ok (.iadd, 1) := by decide +kernel
theorem dX1_add_138 : decode cX1_add 138 = .ok (.iload 4, 2) := by decide +kernel
theorem dX1_add_140 : decode cX1_add 140 = .ok (.iastore, 1) := by decide +kernel
theorem dX1_add_141 : decode cX1_add 141 = .ok (.aload_n 0, 1) := by decide +kernel
theorem dX1_add_142 : decode cX1_add 142 = .ok (.getfield 30, 3) := by decide +kernel
theorem dX1_add_145 : decode cX1_add 145 = .ok (.iload 7, 2) := by decide +kernel
theorem dX1_add_147 : decode cX1_add 147 = .ok (.iconst 3, 1) := by decide +kernel
theorem dX1_add_148 : decode cX1_add 148 = .ok (.iadd, 1) := by decide +kernel
theorem dX1_add_149 : decode cX1_add 149 = .ok (.iload 5, 2) := by decide +kernel
theorem dX1_add_151 : decode cX1_add 151 = .ok (.iastore, 1) := by decide +kernel
theorem dX1_add_152 : decode cX1_add 152 = .ok (.aload_n 0, 1) := by decide +kernel
theorem dX1_add_153 : decode cX1_add 153 = .ok (.getfield 30, 3) := by decide +kernel
theorem dX1_add_156 : decode cX1_add 156 = .ok (.iload 7, 2) := by decide +kernel
theorem dX1_add_158 : decode cX1_add 158 = .ok (.iconst 4, 1) := by decide +kernel
theorem dX1_add_159 : decode cX1_add 159 = .ok (.iadd, 1) := by decide +kernel
theorem dX1_add_160 : decode cX1_add 160 = .ok (.iload 6, 2) := by decide +kernel
theorem dX1_add_162 : decode cX1_add 162 = .ok (.iastore, 1) := by decide +kernel
theorem dX1_add_163 : decode cX1_add 163 = .ok (.aload_n 0, 1) := by decide +kernel
theorem dX1_add_164 : decode cX1_add 164 = .ok (.getfield 30, 3) := by decide +kernel
theorem dX1_add_167 : decode cX1_add 167 = .ok (.iload 7, 2) := by decide +kernel
theorem dX1_add_169 : decode cX1_add 169 = .ok (.iconst 5, 1) := by decide +kernel
theorem dX1_add_170 : decode cX1_add 170 = .ok (.iadd, 1) := by decide +kernel
theorem dX1_add_171 : decode cX1_add 171 = .ok (.iconst (-1), 1) := by decide +kernel
theorem dX1_add_172 : decode cX1_add 172 = .ok (.iastore, 1) := by decide +kernel
theorem dX1_add_173 : decode cX1_add 173 = .ok (.aload_n 0, 1) := by decide +kernel
theorem dX1_add_174 : decode cX1_add 174 = .ok (.getfield 36, 3) := by decide +kernel
theorem dX1_add_177 : decode cX1_add 177 = .ok (.iload_n 1, 1) := by decide +kernel
theorem dX1_add_178 : decode cX1_add 178 = .ok (.iaload, 1) := by decide +kernel
theorem dX1_add_179 : decode cX1_add 179 = .ok (.iconst (-1), 1) := by decide +kernel
theorem dX1_add_180 : decode cX1_add 180 = .ok (.if_icmp .ne 14, 3) := by decide +kernel
theorem dX1_add_183 : decode cX1_add 183 = .ok (.aload_n 0, 1) := by decide +kernel
theorem dX1_add_184 : decode cX1_add 184 = .ok (.getfield 33, 3) := by decide +kernel
theorem dX1_add_187 : decode cX1_add 187 = .ok (.iload_n 1, 1) := by decide +kernel
theorem dX1_add_188 : decode cX1_add 188 = .ok (.iload 7, 2) := by decide +kernel
theorem dX1_add_190 : decode cX1_add 190 = .ok (.iastore, 1) := by decide +kernel
theorem dX1_add_191 : decode cX1_add 191 = .ok (.goto 18, 3) := by decide +kernel
theorem dX1_add_194 : decode cX1_add 194 = .ok (.aload_n 0, 1) := by decide +kernel
theorem dX1_add_195 : decode cX1_add 195 = .ok (.getfield 30, 3) := by decide +kernel
theorem dX1_add_198 : decode cX1_add 198 = .ok (.aload_n 0, 1) := by decide +kernel
theorem dX1_add_199 : decode cX1_add 199 = .ok (.getfield 36, 3) := by decide +kernel
theorem dX1_add_202 : decode cX1_add 202 = .ok (.iload_n 1, 1) := by decide +kernel
theorem dX1_add_203 : decode cX1_add 203 = .ok (.iaload, 1) := by decide +kernel
theorem dX1_add_204 : decode cX1_add 204 = .ok (.iconst 5, 1) := by decide +kernel
theorem dX1_add_205 : decode cX1_add 205 = .ok (.iadd, 1) := by decide +kernel
theorem dX1_add_206 : decode cX1_add 206 = .ok (.iload 7, 2) := by decide +kernel
theorem dX1_add_208 : decode cX1_add 208 = .ok (.iastore, 1) := by decide +kernel
theorem dX1_add_209 : decode cX1_add 209 = .ok (.aload_n 0, 1) := by decide +kernel
theorem dX1_add_210 : decode cX1_add 210 = .ok (.getfield 36, 3) := by decide +kernel
theorem dX1_add_213 : decode cX1_add 213 = .ok (.iload_n 1, 1) := by decide +kernel
theorem dX1_add_214 : decode cX1_add 214 = .ok (.iload 7, 2) := by decide +kernel
theorem dX1_add_216 : decode cX1_add 216 = .ok (.iastore, 1) := by decide +kernel
theorem dX1_add_217 : decode cX1_add 217 = .ok (.aload_n 0, 1) := by decide +kernel
theorem dX1_add_218 : decode cX1_add 218 = .ok (.getfield 27, 3) := by decide +kernel
theorem dX1_add_221 : decode cX1_add 221 = .ok (.iload_n 1, 1) := by decide +kernel
theorem dX1_add_222 : decode cX1_add 222 = .ok (.dup2, 1) := by decide +kernel
theorem dX1_add_223 : decode cX1_add 223 = .ok (.iaload, 1) := by decide +kernel
theorem dX1_add_224 : decode cX1_add 224 = .ok (.iconst 1, 1) := by decide +kernel
theorem dX1_add_225 : decode cX1_add 225 = .ok (.iadd, 1) := by decide +kernel
theorem dX1_add_226 : decode cX1_add 226 = .ok (.iastore, 1) := by decide +kernel
theorem dX1_add_227 : decode cX1_add 227 = .ok (.return_, 1) := by decide +kernel
theorem dX7_put_0 : decode cX7_put 0 = .ok (.aload_n 0, 1) := by decide +kernel
theorem dX7_put_1 : decode cX7_put 1 = .ok (.iload_n 2, 1) := by decide +kernel
theorem dX7_put_2 : decode cX7_put 2 = .ok (.invokevirtual 142, 3) := by decide +kernel
theorem dX7_put_5 : decode cX7_put 5 = .ok (.ifCond .eq 4, 3) := by decide +kernel
theorem dX7_put_8 : decode cX7_put 8 = .ok (.return_, 1) := by decide +kernel
theorem dX7_put_9 : decode cX7_put 9 = .ok (.iload_n 1, 1) := by decide +kernel
theorem dX7_put_10 : decode cX7_put 10 = .ok (.iload_n 2, 1) := by decide +kernel
theorem dX7_put_11 : decode cX7_put 11 = .ok (.invokestatic 212, 3) := by decide +kernel
theorem dX7_put_14 : decode cX7_put 14 = .ok (.istore 7, 2) := by decide +kernel
theorem dX7_put_16 : decode cX7_put 16 = .ok (.aload_n 0, 1) := by decide +kernel
theorem dX7_put_17 : decode cX7_put 17 = .ok (.getfield 21, 3) := by decide +kernel
theorem dX7_put_20 : decode cX7_put 20 = .ok (.aload_n 0, 1) := by decide +kernel
theorem dX7_put_21 : decode cX7_put 21 = .ok (.getfield 62, 3) := by decide +kernel
theorem dX7_put_24 : decode cX7_put 24 = .ok (.getfield 299, 3) := by decide +kernel
theorem dX7_put_27 : decode cX7_put 27 = .ok (.iload 7, 2) := by decide +kernel
theorem dX7_put_29 : decode cX7_put 29 = .ok (.iaload, 1) := by decide +kernel
theorem dX7_put_30 : decode cX7_put 30 = .ok (.iadd, 1) := by decide +kernel
theorem dX7_put_31 : decode cX7_put 31 = .ok (.istore 8, 2) := by decide +kernel
theorem dX7_put_33 : decode cX7_put 33 = .ok (.aload_n 0, 1) := by decide +kernel
theorem dX7_put_34 : decode cX7_put 34 = .ok (.getfield 24, 3) := by decide +kernel
theorem dX7_put_37 : decode cX7_put 37 = .ok (.ifCond .le 19, 3) := by decide +kernel
theorem dX7_put_40 : decode cX7_put 40 = .ok (.iload 8, 2) := by decide +kernel
theorem dX7_put_42 : decode cX7_put 42 = .ok (.aload_n 0, 1) := by decide +kernel
theorem dX7_put_43 : decode cX7_put 43 = .ok (.invokevirtual 302, 3) := by decide +kernel
theorem dX7_put_46 : decode cX7_put 46 = .ok (.aload_n 0, 1) := by decide +kernel
theorem dX7_put_47 : decode cX7_put 47 = .ok (.getfield 24, 3) := by decide +kernel
theorem dX7_put_50 : decode cX7_put 50 = .ok (.iconst 1, 1) := by decide +kernel
theorem dX7_put_51 : decode cX7_put 51 = .ok (.iadd, 1) := by decide +kernel
theorem dX7_put_52 : decode cX7_put 52 = .ok (.irem, 1) := by decide +kernel
theorem dX7_put_53 : decode cX7_put 53 = .ok (.iadd, 1) := by decide +kernel
theorem dX7_put_54 : decode cX7_put 54 = .ok (.istore 8, 2) := by decide +kernel
theorem dX7_put_56 : decode cX7_put 56 = .ok (.aload_n 0, 1) := by decide +kernel
theorem dX7_put_57 : decode cX7_put 57 = .ok (.getfield 62, 3) := by decide +kernel
theorem dX7_put_60 : decode cX7_put 60 = .ok (.iload 7, 2) := by decide +kernel
theorem dX7_put_62 : decode cX7_put 62 = .ok (.iload 8, 2) := by decide +kernel
theorem dX7_put_64 : decode cX7_put 64 = .ok (.iload_n 3, 1) := by decide +kernel
theorem dX7_put_65 : decode cX7_put 65 = .ok (.iload 4, 2) := by decide +kernel
theorem dX7_put_67 : decode cX7_put 67 = .ok (.iload 5, 2) := by decide +kernel
theorem dX7_put_69 : decode cX7_put 69 = .ok (.iload 6, 2) := by decide +kernel
theorem dX7_put_71 : decode cX7_put 71 = .ok (.ifCond .eq 7, 3) := by decide +kernel
theorem dX7_put_74 : decode cX7_put 74 = .ok (.iconst 1, 1) := by decide +kernel
theorem dX7_put_75 : decode cX7_put 75 = .ok (.goto 4, 3) := by decide +kernel
theorem dX7_put_78 : decode cX7_put 78 = .ok (.iconst 0, 1) := by decide +kernel
theorem dX7_put_79 : decode cX7_put 79 = .ok (.invokevirtual 305, 3) := by decide +kernel
theorem dX7_put_82 : decode cX7_put 82 = .ok (.aload_n 0, 1) := by decide +kernel
theorem dX7_put_83 : decode cX7_put 83 = .ok (.getfield 69, 3) := by decide +kernel
theorem dX7_put_86 : decode cX7_put 86 = .ok (.getfield 308, 3) := by decide +kernel
theorem dX7_put_89 : decode cX7_put 89 = .ok (.iload 4, 2) := by decide +kernel
theorem dX7_put_91 : decode cX7_put 91 = .ok (.dup2, 1) := by decide +kernel
theorem dX7_put_92 : decode cX7_put 92 = .ok (.iaload, 1) := by decide +kernel
theorem dX7_put_93 : decode cX7_put 93 = .ok (.iconst 1, 1) := by decide +kernel
theorem dX7_put_94 : decode cX7_put 94 = .ok (.iadd, 1) := by decide +kernel
theorem dX7_put_95 : decode cX7_put 95 = .ok (.iastore, 1) := by decide +kernel
theorem dX7_put_96 : decode cX7_put 96 = .ok (.aload_n 0, 1) := by decide +kernel
theorem dX7_put_97 : decode cX7_put 97 = .ok (.getfield 69, 3) := by decide +kernel
theorem dX7_put_100 : decode cX7_put 100 = .ok (.getfield 311, 3) := by decide +kernel
theorem dX7_put_103 : decode cX7_put 103 = .ok (.iload 4, 2) := by decide +kernel
theorem dX7_put_105 : decode cX7_put 105 = .ok (.dup2, 1) := by decide +kernel
theorem dX7_put_106 : decode cX7_put 106 = .ok (.iaload, 1) := by decide +kernel
theorem dX7_put_107 : decode cX7_put 107 = .ok (.iconst 1, 1) := by decide +kernel
theorem dX7_put_108 : decode cX7_put 108 = .ok (.iload_n 1, 1) := by decide +kernel
theorem dX7_put_109 : decode cX7_put 109 = .ok (.ishl, 1) := by decide +kernel
theorem dX7_put_110 : decode cX7_put 110 = .ok (.ior, 1) := by decide +kernel
theorem dX7_put_111 : decode cX7_put 111 = .ok (.iastore, 1) := by decide +kernel
theorem dX7_put_112 : decode cX7_put 112 = .ok (.aload_n 0, 1) := by decide +kernel
theorem dX7_put_113 : decode cX7_put 113 = .ok (.getfield 56, 3) := by decide +kernel
theorem dX7_put_116 : decode cX7_put 116 = .ok (.iload_n 1, 1) := by decide +kernel
theorem dX7_put_117 : decode cX7_put 117 = .ok (.dup2, 1) := by decide +kernel
theorem dX7_put_118 : decode cX7_put 118 = .ok (.iaload, 1) := by decide +kernel
theorem dX7_put_119 : decode cX7_put 119 = .ok (.iconst 1, 1) := by decide +kernel
theorem dX7_put_120 : decode cX7_put 120 = .ok (.iadd, 1) := by decide +kernel
theorem dX7_put_121 : decode cX7_put 121 = .ok (.iastore, 1) := by decide +kernel
theorem dX7_put_122 : decode cX7_put 122 = .ok (.return_, 1) := by decide +kernel
theorem dX7_hear_0 : decode cX7_hear 0 = .ok (.iload_n 2, 1) := by decide +kernel
theorem dX7_hear_1 : decode cX7_hear 1 = .ok (.iload 4, 2) := by decide +kernel
theorem dX7_hear_3 : decode cX7_hear 3 = .ok (.invokestatic 151, 3) := by decide +kernel
theorem dX7_hear_6 : decode cX7_hear 6 = .ok (.istore 7, 2) := by decide +kernel
theorem dX7_hear_8 : decode cX7_hear 8 = .ok (.iload_n 3, 1) := by decide +kernel
theorem dX7_hear_9 : decode cX7_hear 9 = .ok (.tableswitch 192 0 3 #[31, 192, 157, 85], 31) := by decide +kernel
theorem dX7_hear_40 : decode cX7_hear 40 = .ok (.aload_n 0, 1) := by decide +kernel
theorem dX7_hear_41 : decode cX7_hear 41 = .ok (.getfield 76, 3) := by decide +kernel
theorem dX7_hear_44 : decode cX7_hear 44 = .ok (.getfield 148, 3) := by decide +kernel
theorem dX7_hear_47 : decode cX7_hear 47 = .ok (.iload 7, 2) := by decide +kernel
theorem dX7_hear_49 : decode cX7_hear 49 = .ok (.iaload, 1) := by decide +kernel
theorem dX7_hear_50 : decode cX7_hear 50 = .ok (.ifCond .ne 165, 3) := by decide +kernel
theorem dX7_hear_53 : decode cX7_hear 53 = .ok (.aload_n 0, 1) := by decide +kernel
theorem dX7_hear_54 : decode cX7_hear 54 = .ok (.iload_n 2, 1) := by decide +kernel
theorem dX7_hear_55 : decode cX7_hear 55 = .ok (.iload 7, 2) := by decide +kernel
theorem dX7_hear_57 : decode cX7_hear 57 = .ok (.invokevirtual 231, 3) := by decide +kernel
theorem dX7_hear_60 : decode cX7_hear 60 = .ok (.aload_n 0, 1) := by decide +kernel
theorem dX7_hear_61 : decode cX7_hear 61 = .ok (.getfield 76, 3) := by decide +kernel
theorem dX7_hear_64 : decode cX7_hear 64 = .ok (.getfield 234, 3) := by decide +kernel
theorem dX7_hear_67 : decode cX7_hear 67 = .ok (.iload 7, 2) := by decide +kernel
theorem dX7_hear_69 : decode cX7_hear 69 = .ok (.iload_n 1, 1) := by decide +kernel
theorem dX7_hear_70 : decode cX7_hear 70 = .ok (.iastore, 1) := by decide +kernel
theorem dX7_hear_71 : decode cX7_hear 71 = .ok (.aload_n 0, 1) := by decide +kernel
theorem dX7_hear_72 : decode cX7_hear 72 = .ok (.iload_n 2, 1) := by decide +kernel
theorem dX7_hear_73 : decode cX7_hear 73 = .ok (.iload_n 1, 1) := by decide +kernel
theorem dX7_hear_74 : decode cX7_hear 74 = .ok (.iconst 1, 1) := by decide +kernel
theorem dX7_hear_75 : decode cX7_hear 75 = .ok (.iload 4, 2) := by decide +kernel
theorem dX7_hear_77 : decode cX7_hear 77 = .ok (.aload_n 0, 1) := by decide +kernel
theorem dX7_hear_78 : decode cX7_hear 78 = .ok (.getfield 76, 3) := by decide +kernel
theorem dX7_hear_81 : decode cX7_hear 81 = .ok (.getfield 237, 3) := by decide +kernel
theorem dX7_hear_84 : decode cX7_hear 84 = .ok (.iload 7, 2) := by decide +kernel
theorem dX7_hear_86 : decode cX7_hear 86 = .ok (.iaload, 1) := by decide +kernel
theorem dX7_hear_87 : decode cX7_hear 87 = .ok (.iconst 0, 1) := by decide +kernel
theorem dX7_hear_88 : decode cX7_hear 88 = .ok (.invokevirtual 240, 3) := by decide +kernel
theorem dX7_hear_91 : decode cX7_hear 91 = .ok (.goto 124, 3) := by decide +kernel
theorem dX7_hear_94 : decode cX7_hear 94 = .ok (.aload_n 0, 1) := by decide +kernel
theorem dX7_hear_95 : decode cX7_hear 95 = .ok (.getfield 76, 3) := by decide +kernel
theorem dX7_hear_98 : decode cX7_hear 98 = .ok (.getfield 148, 3) := by decide +kernel
theorem dX7_hear_101 : decode cX7_hear 101 = .ok (.iload 7, 2) := by decide +kernel
theorem dX7_hear_103 : decode cX7_hear 103 = .ok (.iaload, 1) := by decide +kernel
theorem dX7_hear_104 : decode cX7_hear 104 = .ok (.ifCond .ne 10, 3) := by decide +kernel
theorem dX7_hear_107 : decode cX7_hear 107 = .ok (.aload_n 0, 1) := by decide +kernel
theorem dX7_hear_108 : decode cX7_hear 108 = .ok (.iload_n 2, 1) := by decide +kernel
theorem dX7_hear_109 : decode cX7_hear 109 = .ok (.iload 7, 2) := by decide +kernel
theorem dX7_hear_111 : decode cX7_hear 111 = .ok (.invokevirtual 231, 3) := by decide +kernel
theorem dX7_hear_114 : decode cX7_hear 114 = .ok (.aload_n 0, 1) := by decide +kernel
theorem dX7_hear_115 : decode cX7_hear 115 = .ok (.getfield 76, 3) := by decide +kernel
theorem dX7_hear_118 : decode cX7_hear 118 = .ok (.getfield 234, 3) := by decide +kernel
theorem dX7_hear_121 : decode cX7_hear 121 = .ok (.iload 7, 2) := by decide +kernel
theorem dX7_hear_123 : decode cX7_hear 123 = .ok (.iload_n 1, 1) := by decide +kernel
theorem dX7_hear_124 : decode cX7_hear 124 = .ok (.iastore, 1) := by decide +kernel
theorem dX7_hear_125 : decode cX7_hear 125 = .ok (.aload_n 0, 1) := by decide +kernel
theorem dX7_hear_126 : decode cX7_hear 126 = .ok (.iload_n 2, 1) := by decide +kernel
theorem dX7_hear_127 : decode cX7_hear 127 = .ok (.iload_n 1, 1) := by decide +kernel
theorem dX7_hear_128 : decode cX7_hear 128 = .ok (.iconst 4, 1) := by decide +kernel
theorem dX7_hear_129 : decode cX7_hear 129 = .ok (.iload 4, 2) := by decide +kernel
theorem dX7_hear_131 : decode cX7_hear 131 = .ok (.aload_n 0, 1) := by decide +kernel
theorem dX7_hear_132 : decode cX7_hear 132 = .ok (.getfield 76, 3) := by decide +kernel
theorem dX7_hear_135 : decode cX7_hear 135 = .ok (.getfield 237, 3) := by decide +kernel
theorem dX7_hear_138 : decode cX7_hear 138 = .ok (.iload 7, 2) := by decide +kernel
theorem dX7_hear_140 : decode cX7_hear 140 = .ok (.iaload, 1) := by decide +kernel
theorem dX7_hear_141 : decode cX7_hear 141 = .ok (.aload_n 0, 1) := by decide +kernel
theorem dX7_hear_142 : decode cX7_hear 142 = .ok (.getfield 76, 3) := by decide +kernel
theorem dX7_hear_145 : decode cX7_hear 145 = .ok (.getfield 148, 3) := by decide +kernel
theorem dX7_hear_148 : decode cX7_hear 148 = .ok (.iload 7, 2) := by decide +kernel
theorem dX7_hear_150 : decode cX7_hear 150 = .ok (.iaload, 1) := by decide +kernel
theorem dX7_hear_151 : decode cX7_hear 151 = .ok (.iconst 1, 1) := by decide +kernel
theorem dX7_hear_152 : decode cX7_hear 152 = .ok (.if_icmp .eq 7, 3) := by decide +kernel
theorem dX7_hear_155 : decode cX7_hear 155 = .ok (.iconst 1, 1) := by decide +kernel
theorem dX7_hear_156 : decode cX7_hear 156 = .ok (.goto 4, 3) := by decide +kernel
theorem dX7_hear_159 : decode cX7_hear 159 = .ok (.iconst 0, 1) := by decide +kernel
theorem dX7_hear_160 : decode cX7_hear 160 = .ok (.invokevirtual 240, 3) := by decide +kernel
theorem dX7_hear_163 : decode cX7_hear 163 = .ok (.goto 52, 3) := by decide +kernel
theorem dX7_hear_166 : decode cX7_hear 166 = .ok (.aload_n 0, 1) := by decide +kernel
theorem dX7_hear_167 : decode cX7_hear 167 = .ok (.getfield 53, 3) := by decide +kernel
theorem dX7_hear_170 : decode cX7_hear 170 = .ok (.iload_n 2, 1) := by decide +kernel
theorem dX7_hear_171 : decode cX7_hear 171 = .ok (.aload_n 0, 1) := by decide +kernel
theorem dX7_hear_172 : decode cX7_hear 172 = .ok (.getfield 53, 3) := by decide +kernel
theorem dX7_hear_175 : decode cX7_hear 175 = .ok (.iload_n 2, 1) := by decide +kernel
theorem dX7_hear_176 : decode cX7_hear 176 = .ok (.iaload, 1) := by decide +kernel
theorem dX7_hear_177 : decode cX7_hear 177 = .ok (.iload 5, 2) := by decide +kernel
theorem dX7_hear_179 : decode cX7_hear 179 = .ok (.invokestatic 243, 3) := by decide +kernel
theorem dX7_hear_182 : decode cX7_hear 182 = .ok (.invokestatic 247, 3) := by decide +kernel
theorem dX7_hear_185 : decode cX7_hear 185 = .ok (.iastore, 1) := by decide +kernel
theorem dX7_hear_186 : decode cX7_hear 186 = .ok (.aload_n 0, 1) := by decide +kernel
theorem dX7_hear_187 : decode cX7_hear 187 = .ok (.getfield 76, 3) := by decide +kernel
theorem dX7_hear_190 : decode cX7_hear 190 = .ok (.iload 7, 2) := by decide +kernel
theorem dX7_hear_192 : decode cX7_hear 192 = .ok (.iload_n 1, 1) := by decide +kernel
theorem dX7_hear_193 : decode cX7_hear 193 = .ok (.iload 5, 2) := by decide +kernel
theorem dX7_hear_195 : decode cX7_hear 195 = .ok (.invokevirtual 252, 3) := by decide +kernel
theorem dX7_hear_198 : decode cX7_hear 198 = .ok (.goto 17, 3) := by decide +kernel
theorem dX7_hear_201 : decode cX7_hear 201 = .ok (.aload_n 0, 1) := by decide +kernel
theorem dX7_hear_202 : decode cX7_hear 202 = .ok (.getfield 83, 3) := by decide +kernel
theorem dX7_hear_205 : decode cX7_hear 205 = .ok (.iload 7, 2) := by decide +kernel
theorem dX7_hear_207 : decode cX7_hear 207 = .ok (.iload_n 1, 1) := by decide +kernel
theorem dX7_hear_208 : decode cX7_hear 208 = .ok (.iload 5, 2) := by decide +kernel
theorem dX7_hear_210 : decode cX7_hear 210 = .ok (.iload 6, 2) := by decide +kernel
theorem dX7_hear_212 : decode cX7_hear 212 = .ok (.invokevirtual 256, 3) := by decide +kernel
theorem dX7_hear_215 : decode cX7_hear 215 = .ok (.return_, 1) := by decide +kernel
theorem dX7_hearAll_0 : decode cX7_hearAll 0 = .ok (.iconst 0, 1) := by decide +kernel
theorem dX7_hearAll_1 : decode cX7_hearAll 1 = .ok (.istore_n 1, 1) := by decide +kernel
theorem dX7_hearAll_2 : decode cX7_hearAll 2 = .ok (.iload_n 1, 1) := by decide +kernel
theorem dX7_hearAll_3 : decode cX7_hearAll 3 = .ok (.aload_n 0, 1) := by decide +kernel
theorem dX7_hearAll_4 : decode cX7_hearAll 4 = .ok (.getfield 9, 3) := by decide +kernel
theorem dX7_hearAll_7 : decode cX7_hearAll 7 = .ok (.if_icmp .ge 175, 3) := by decide +kernel
theorem dX7_hearAll_10 : decode cX7_hearAll 10 = .ok (.iconst 0, 1) := by decide +kernel
theorem dX7_hearAll_11 : decode cX7_hearAll 11 = .ok (.istore_n 2, 1) := by decide +kernel
theorem dX7_hearAll_12 : decode cX7_hearAll 12 = .ok (.iload_n 2, 1) := by decide +kernel
theorem dX7_hearAll_13 : decode cX7_hearAll 13 = .ok (.aload_n 0, 1) := by decide +kernel
theorem dX7_hearAll_14 : decode cX7_hearAll 14 = .ok (.getfield 9, 3) := by decide +kernel
theorem dX7_hearAll_17 : decode cX7_hearAll 17 = .ok (.if_icmp .ge 159, 3) := by decide +kernel
theorem dX7_hearAll_20 : decode cX7_hearAll 20 = .ok (.aload_n 0, 1) := by decide +kernel
theorem dX7_hearAll_21 : decode cX7_hearAll 21 = .ok (.iload_n 1, 1) := by decide +kernel
theorem dX7_hearAll_22 : decode cX7_hearAll 22 = .ok (.invokevirtual 135, 3) := by decide +kernel
theorem dX7_hearAll_25 : decode cX7_hearAll 25 = .ok (.ifCond .eq 151, 3) := by decide +kernel
theorem dX7_hearAll_28 : decode cX7_hearAll 28 = .ok (.iload_n 2, 1) := by decide +kernel
theorem dX7_hearAll_29 : decode cX7_hearAll 29 = .ok (.iload_n 1, 1) := by decide +kernel
theorem dX7_hearAll_30 : decode cX7_hearAll 30 = .ok (.invokestatic 212, 3) := by decide +kernel
theorem dX7_hearAll_33 : decode cX7_hearAll 33 = .ok (.istore_n 3, 1) := by decide +kernel
theorem dX7_hearAll_34 : decode cX7_hearAll 34 = .ok (.aload_n 0, 1) := by decide +kernel
theorem dX7_hearAll_35 : decode cX7_hearAll 35 = .ok (.getfield 62, 3) := by decide +kernel
theorem dX7_hearAll_38 : decode cX7_hearAll 38 = .ok (.getfield 215, 3) := by decide +kernel
theorem dX7_hearAll_41 : decode cX7_hearAll 41 = .ok (.iload_n 3, 1) := by decide +kernel
theorem dX7_hearAll_42 : decode cX7_hearAll 42 = .ok (.iaload, 1) := by decide +kernel
theorem dX7_hearAll_43 : decode cX7_hearAll 43 = .ok (.istore 4, 2) := by decide +kernel
theorem dX7_hearAll_45 : decode cX7_hearAll 45 = .ok (.iload 4, 2) := by decide +kernel
theorem dX7_hearAll_47 : decode cX7_hearAll 47 = .ok (.ifCond .le 123, 3) := by decide +kernel
theorem dX7_hearAll_50 : decode cX7_hearAll 50 = .ok (.aload_n 0, 1) := by decide +kernel
theorem dX7_hearAll_51 : decode cX7_hearAll 51 = .ok (.getfield 62, 3) := by decide +kernel
theorem dX7_hearAll_54 : decode cX7_hearAll 54 = .ok (.iload_n 3, 1) := by decide +kernel
theorem dX7_hearAll_55 : decode cX7_hearAll 55 = .ok (.aload_n 0, 1) := by decide +kernel
theorem dX7_hearAll_56 : decode cX7_hearAll 56 = .ok (.getfield 21, 3) := by decide +kernel
theorem dX7_hearAll_59 : decode cX7_hearAll 59 = .ok (.invokevirtual 218, 3) := by decide +kernel
theorem dX7_hearAll_62 : decode cX7_hearAll 62 = .ok (.istore 5, 2) := by decide +kernel
theorem dX7_hearAll_64 : decode cX7_hearAll 64 = .ok (.iload 5, 2) := by decide +kernel
theorem dX7_hearAll_66 : decode cX7_hearAll 66 = .ok (.iconst (-1), 1) := by decide +kernel
theorem dX7_hearAll_67 : decode cX7_hearAll 67 = .ok (.if_icmp .ne 6, 3) := by decide +kernel
theorem dX7_hearAll_70 : decode cX7_hearAll 70 = .ok (.goto 100, 3) := by decide +kernel
theorem dX7_hearAll_73 : decode cX7_hearAll 73 = .ok (.aload_n 0, 1) := by decide +kernel
theorem dX7_hearAll_74 : decode cX7_hearAll 74 = .ok (.getfield 62, 3) := by decide +kernel
theorem dX7_hearAll_77 : decode cX7_hearAll 77 = .ok (.getfield 221, 3) := by decide +kernel
theorem dX7_hearAll_80 : decode cX7_hearAll 80 = .ok (.iload 5, 2) := by decide +kernel
theorem dX7_hearAll_82 : decode cX7_hearAll 82 = .ok (.iconst 1, 1) := by decide +kernel
theorem dX7_hearAll_83 : decode cX7_hearAll 83 = .ok (.iadd, 1) := by decide +kernel
theorem dX7_hearAll_84 : decode cX7_hearAll 84 = .ok (.iaload, 1) := by decide +kernel
theorem dX7_hearAll_85 : decode cX7_hearAll 85 = .ok (.istore 6, 2) := by decide +kernel
theorem dX7_hearAll_87 : decode cX7_hearAll 87 = .ok (.aload_n 0, 1) := by decide +kernel
theorem dX7_hearAll_88 : decode cX7_hearAll 88 = .ok (.getfield 62, 3) := by decide +kernel
theorem dX7_hearAll_91 : decode cX7_hearAll 91 = .ok (.getfield 221, 3) := by decide +kernel
theorem dX7_hearAll_94 : decode cX7_hearAll 94 = .ok (.iload 5, 2) := by decide +kernel
theorem dX7_hearAll_96 : decode cX7_hearAll 96 = .ok (.iconst 2, 1) := by decide +kernel
theorem dX7_hearAll_97 : decode cX7_hearAll 97 = .ok (.iadd, 1) := by decide +kernel
theorem dX7_hearAll_98 : decode cX7_hearAll 98 = .ok (.iaload, 1) := by decide +kernel
theorem dX7_hearAll_99 : decode cX7_hearAll 99 = .ok (.istore 7, 2) := by decide +kernel
theorem dX7_hearAll_101 : decode cX7_hearAll 101 = .ok (.aload_n 0, 1) := by decide +kernel
theorem dX7_hearAll_102 : decode cX7_hearAll 102 = .ok (.getfield 62, 3) := by decide +kernel
theorem dX7_hearAll_105 : decode cX7_hearAll 105 = .ok (.getfield 221, 3) := by decide +kernel
theorem dX7_hearAll_108 : decode cX7_hearAll 108 = .ok (.iload 5, 2) := by decide +kernel
theorem dX7_hearAll_110 : decode cX7_hearAll 110 = .ok (.iconst 3, 1) := by decide +kernel
theorem dX7_hearAll_111 : decode cX7_hearAll 111 = .ok (.iadd, 1) := by decide +kernel
theorem dX7_hearAll_112 : decode cX7_hearAll 112 = .ok (.iaload, 1) := by decide +kernel
theorem dX7_hearAll_113 : decode cX7_hearAll 113 = .ok (.istore 8, 2) := by decide +kernel
theorem dX7_hearAll_115 : decode cX7_hearAll 115 = .ok (.aload_n 0, 1) := by decide +kernel
theorem dX7_hearAll_116 : decode cX7_hearAll 116 = .ok (.getfield 62, 3) := by decide +kernel
theorem dX7_hearAll_119 : decode cX7_hearAll 119 = .ok (.getfield 221, 3) := by decide +kernel
theorem dX7_hearAll_122 : decode cX7_hearAll 122 = .ok (.iload 5, 2) := by decide +kernel
theorem dX7_hearAll_124 : decode cX7_hearAll 124 = .ok (.iconst 4, 1) := by decide +kernel
theorem dX7_hearAll_125 : decode cX7_hearAll 125 = .ok (.iadd, 1) := by decide +kernel
theorem dX7_hearAll_126 : decode cX7_hearAll 126 = .ok (.iaload, 1) := by decide +kernel
theorem dX7_hearAll_127 : decode cX7_hearAll 127 = .ok (.ifCond .eq 7, 3) := by decide +kernel
theorem dX7_hearAll_130 : decode cX7_hearAll 130 = .ok (.iconst 1, 1) := by decide +kernel
theorem dX7_hearAll_131 : decode cX7_hearAll 131 = .ok (.goto 4, 3) := by decide +kernel
theorem dX7_hearAll_134 : decode cX7_hearAll 134 = .ok (.iconst 0, 1) := by decide +kernel
theorem dX7_hearAll_135 : decode cX7_hearAll 135 = .ok (.istore 9, 2) := by decide +kernel
theorem dX7_hearAll_137 : decode cX7_hearAll 137 = .ok (.aload_n 0, 1) := by decide +kernel
theorem dX7_hearAll_138 : decode cX7_hearAll 138 = .ok (.getfield 62, 3) := by decide +kernel
theorem dX7_hearAll_141 : decode cX7_hearAll 141 = .ok (.iload_n 3, 1) := by decide +kernel
theorem dX7_hearAll_142 : decode cX7_hearAll 142 = .ok (.invokevirtual 224, 3) := by decide +kernel
theorem dX7_hearAll_145 : decode cX7_hearAll 145 = .ok (.aload_n 0, 1) := by decide +kernel
theorem dX7_hearAll_146 : decode cX7_hearAll 146 = .ok (.iload_n 2, 1) := by decide +kernel
theorem dX7_hearAll_147 : decode cX7_hearAll 147 = .ok (.iload_n 1, 1) := by decide +kernel
theorem dX7_hearAll_148 : decode cX7_hearAll 148 = .ok (.iload 6, 2) := by decide +kernel
theorem dX7_hearAll_150 : decode cX7_hearAll 150 = .ok (.iload 7, 2) := by decide +kernel
theorem dX7_hearAll_152 : decode cX7_hearAll 152 = .ok (.iload 8, 2) := by decide +kernel
theorem dX7_hearAll_154 : decode cX7_hearAll 154 = .ok (.iload 9, 2) := by decide +kernel
theorem dX7_hearAll_156 : decode cX7_hearAll 156 = .ok (.invokevirtual 227, 3) := by decide +kernel
theorem dX7_hearAll_159 : decode cX7_hearAll 159 = .ok (.aload_n 0, 1) := by decide +kernel
theorem dX7_hearAll_160 : decode cX7_hearAll 160 = .ok (.iconst 1, 1) := by decide +kernel
theorem dX7_hearAll_161 : decode cX7_hearAll 161 = .ok (.putfield 36, 3) := by decide +kernel
theorem dX7_hearAll_164 : decode cX7_hearAll 164 = .ok (.iinc 4 (-1), 3) := by decide +kernel
theorem dX7_hearAll_167 : decode cX7_hearAll 167 = .ok (.goto (-122), 3) := by decide +kernel
theorem dX7_hearAll_170 : decode cX7_hearAll 170 = .ok (.iinc 2 1, 3) := by decide +kernel
theorem dX7_hearAll_173 : decode cX7_hearAll 173 = .ok (.goto (-161), 3) := by decide +kernel
theorem dX7_hearAll_176 : decode cX7_hearAll 176 = .ok (.iinc 1 1, 3) := by decide +kernel
theorem dX7_hearAll_179 : decode cX7_hearAll 179 = .ok (.goto (-177), 3) := by decide +kernel
theorem dX7_hearAll_182 : decode cX7_hearAll 182 = .ok (.return_, 1) := by decide +kernel
section S_27_a00
variable {p : Program} {l : Launch} {e : Env} {R : Room} {s : State} {m : MethodId} {args : Array Value} {below : List Frame} {meth : Method} {c : Code} {A : Nat → Prop} {D : va_G} {cI cB cL : ClassId} {ad : Nat → Nat} {pa pl : Nat}
noncomputable def fX1_add_209 (x1 : Int32) (x7 : Int32) (u : Sg) (pl : Nat) : Option (Sg × Nat) := grd (vp_in x1 36) (bnd (s2 u 12 ((x1 : Int32).toNatClampNeg) x7) (fun u28 => grd (vp_in x1 36) (grd (vp_in x1 36) (bnd (s2 u28 9 ((x1 : Int32).toNatClampNeg) ((u28 9 ((x1 : Int32).toNatClampNeg)) + 1)) (fun u31 => some (u31, 0))))))
noncomputable def fX1_add_89 (x1 : Int32) (x2 : Int32) (x3 : Int32) (x4 : Int32) (x5 : Int32) (x6 : Int32) (x7 : Int32) (u : Sg) (pl : Nat) : Option (Sg × Nat) := grd (vp_in x1 36) (grd (vp_in x1 36) (bnd (s2 u 8 ((x1 : Int32).toNatClampNeg) (if (u 8 ((x1 : Int32).toNatClampNeg)) < x2 then x2 else (u 8 ((x1 : Int32).toNatClampNeg)))) (fun u8 => grd (vp_in x1 36) (grd (vp_in (x7 + 0) pl) (bnd (s2 u8 10 (((x7 + 0) : Int32).toNatClampNeg) (u8 8 ((x1 : Int32).toNatClampNeg))) (fun u11 => grd (vp_in (x7 + 1) pl) (bnd (s2 u11 10 (((x7 + 1) : Int32).toNatClampNeg) x3) (fun u13 => grd (vp_in (x7 + 2) pl) (bnd (s2 u13 10 (((x7 + 2) : Int32).toNatClampNeg) x4) (fun u15 => grd (vp_in (x7 + 3) pl) (bnd (s2 u15 10 (((x7 + 3) : Int32).toNatClampNeg) x5) (fun u17 => grd (vp_in (x7 + 4) pl) (bnd (s2 u17 10 (((x7 + 4) : Int32).toNatClampNeg) x6) (fun u19 => grd (vp_in (x7 + 5) pl) (bnd (s2 u19 10 (((x7 + 5) : Int32).toNatClampNeg) (-1)) (fun u21 => grd (vp_in x1 36) (cnd ((u21 12 ((x1 : Int32).toNatClampNeg)) = (-1)) (grd (vp_in x1 36) (bnd (s2 u21 11 ((x1 : Int32).toNatClampNeg) x7) (fun u33 => fX1_add_209 x1 x7 u33 pl))) (grd (vp_in x1 36) (grd (vp_in ((u21 12 ((x1 : Int32).toNatClampNeg)) + 5) pl) (bnd (s2 u21 10 ((((u21 12 ((x1 : Int32).toNatClampNeg)) + 5) : Int32).toNatClampNeg) x7) (fun u26 => fX1_add_209 x1 x7 u26 pl)))))))))))))))))))))
noncomputable def fX1_add_72 (x1 : Int32) (x2 : Int32) (x3 : Int32) (x4 : Int32) (x5 : Int32) (x6 : Int32) (u : Sg) (pl : Nat) : Option (Sg × Nat) := bnd (u 5 7) (fun v4 => bnd (s2 u 5 7 ((u 5 7) + 6)) (fun u5 => fX1_add_89 x1 x2 x3 x4 x5 x6 v4 u5 pl))
noncomputable def fX1_add_0 (x1 : Int32) (x2 : Int32) (x3 : Int32) (x4 : Int32) (x5 : Int32) (x6 : Int32) (u : Sg) (pl : Nat) : Option (Sg × Nat) := bnd (u 5 8) (fun v1 => cnd (v1 = (-1)) (cnd (((u 5 7) + 6) ≤ (Int32.ofNat pl)) (fX1_add_72 x1 x2 x3 x4 x5 x6 u pl) (cnd ((Int32.ofNat pl) ≤ 262144) (grd (1 ≤ pl ∧ pl ≤ 1000000) (bnd (sq u 10 (grw (u 10) pl)) (fun u36 => addB pl (fX1_add_72 x1 x2 x3 x4 x5 x6 u36 (pl + pl))))) (some (u, 0)))) (grd (vp_in (v1 + 5) pl) (bnd (s2 u 5 8 (u 10 (((v1 + 5) : Int32).toNatClampNeg))) (fun u40 => fX1_add_89 x1 x2 x3 x4 x5 x6 v1 u40 pl))))
noncomputable def fX1_add (x1 : Int32) (x2 : Int32) (x3 : Int32) (x4 : Int32) (x5 : Int32) (x6 : Int32) (u : Sg) (pl : Nat) : Option (Sg × Nat) := fX1_add_0 x1 x2 x3 x4 x5 x6 u pl
set_option maxRecDepth 10000 in
set_option maxHeartbeats 4000000 in
theorem wX1_add_209 (C : cx D (tyl cI cB cL) A RX1 cX1_add 8 none p s m args c meth) (hR : 2 ≤ R.frames ∧ 48 ≤ R.locals) {σ' : Sg} {dt pf : Nat} (hC : R.cells = dt ∧ R.slots = 2 * dt) (u : Sg) (x1 : Int32) (x7 : Int32) {pl pa a dz : Nat} {H : Heap} {locs : List Loc} {ls : Array Slot} (hl : lv_has ls 8 [(0, .ref (ad 5)), (1, .int x1), (7, .int x7)]) (S : st D (wN cI ad pa pl) A s u H locs) (ha : dt = a + dz) (hpf : pf = pl + dz) (h : fX1_add_209 x1 x7 u pl = some (σ', dz)) : W p l e R s m args below meth c H locs a (2 * a) (MQ below (qVA D cI cB cL (wN cI ad) pf A σ') args s dt (2 * dt) A) (F0 m 209 ls []) := by
  have hx := C.1
  have hb := C.2.1
  have hsz := hl.1
  unfold fX1_add_209 at h
  refine lv_aload_n hx hb dX1_add_209 rfl (lv_at hl 0 rfl) ?_
  refine q_get (v := .ref (ad 12)) C S (oN5 cI ad pa pl) rfl iwX1 6 (by decide) mw_399 rfl dX1_add_210 ?_
  refine lv_iload_n hx hb dX1_add_213 rfl (lv_at hl 1 rfl) ?_
  refine lv_iload hx hb dX1_add_214 (lv_at hl 2 rfl) ?_
  obtain ⟨g27, h⟩ := grd_some h
  obtain ⟨u28, eu28⟩ : ∃ z : Sg, z = s2 u 12 ((x1 : Int32).toNatClampNeg) x7 := ⟨_, rfl⟩
  have h := bnd_of eu28 h
  refine q_iast C S (aN12 cI ad pa pl) 0 rfl g27 dX1_add_216 (j := (x1 : Int32).toNatClampNeg) rfl eu28 (fun H locs S => ?_)
  refine lv_aload_n hx hb dX1_add_217 rfl (lv_at hl 0 rfl) ?_
  refine q_get (v := .ref (ad 9)) C S (oN5 cI ad pa pl) rfl iwX1 3 (by decide) mw_398 rfl dX1_add_218 ?_
  refine lv_iload_n hx hb dX1_add_221 rfl (lv_at hl 1 rfl) ?_
  refine lv_dup2_11 hx hb dX1_add_222 rfl rfl ?_
  obtain ⟨g29, h⟩ := grd_some h
  refine q_iald C S (aN9 cI ad pa pl) 0 rfl g29 dX1_add_223 (j := (x1 : Int32).toNatClampNeg) rfl ?_
  refine lv_iconst (v := 1) hx hb dX1_add_224 (by decide) ?_
  refine lv_iadd hx hb dX1_add_225 ?_
  obtain ⟨g30, h⟩ := grd_some h
  obtain ⟨u31, eu31⟩ : ∃ z : Sg, z = s2 u28 9 ((x1 : Int32).toNatClampNeg) ((u28 9 ((x1 : Int32).toNatClampNeg)) + 1) := ⟨_, rfl⟩
  have h := bnd_of eu31 h
  refine q_iast C S (aN9 cI ad pa pl) 0 rfl g30 dX1_add_226 (j := (x1 : Int32).toNatClampNeg) rfl eu31 (fun H locs S => ?_)
  exact q_vretA C S h ha hpf dX1_add_227
set_option maxRecDepth 10000 in
set_option maxHeartbeats 4000000 in
theorem wX1_add_89 (C : cx D (tyl cI cB cL) A RX1 cX1_add 8 none p s m args c meth) (hR : 2 ≤ R.frames ∧ 48 ≤ R.locals) {σ' : Sg} {dt pf : Nat} (hC : R.cells = dt ∧ R.slots = 2 * dt) (u : Sg) (x1 : Int32) (x2 : Int32) (x3 : Int32) (x4 : Int32) (x5 : Int32) (x6 : Int32) (x7 : Int32) {pl pa a dz : Nat} {H : Heap} {locs : List Loc} {ls : Array Slot} (hl : lv_has ls 8 [(0, .ref (ad 5)), (1, .int x1), (2, .int x2), (3, .int x3), (4, .int x4), (5, .int x5), (6, .int x6), (7, .int x7)]) (S : st D (wN cI ad pa pl) A s u H locs) (ha : dt = a + dz) (hpf : pf = pl + dz) (h : fX1_add_89 x1 x2 x3 x4 x5 x6 x7 u pl = some (σ', dz)) : W p l e R s m args below meth c H locs a (2 * a) (MQ below (qVA D cI cB cL (wN cI ad) pf A σ') args s dt (2 * dt) A) (F0 m 89 ls []) := by
  have hx := C.1
  have hb := C.2.1
  have hsz := hl.1
  unfold fX1_add_89 at h
  refine lv_aload_n hx hb dX1_add_89 rfl (lv_at hl 0 rfl) ?_
  refine q_get (v := .ref (ad 8)) C S (oN5 cI ad pa pl) rfl iwX1 2 (by decide) mw_469 rfl dX1_add_90 ?_
  refine lv_iload_n hx hb dX1_add_93 rfl (lv_at hl 1 rfl) ?_
  refine lv_aload_n hx hb dX1_add_94 rfl (lv_at hl 0 rfl) ?_
  refine q_get (v := .ref (ad 8)) C S (oN5 cI ad pa pl) rfl iwX1 2 (by decide) mw_469 rfl dX1_add_95 ?_
  refine lv_iload_n hx hb dX1_add_98 rfl (lv_at hl 1 rfl) ?_
  obtain ⟨g6, h⟩ := grd_some h
  refine q_iald C S (aN8 cI ad pa pl) 0 rfl g6 dX1_add_99 (j := (x1 : Int32).toNatClampNeg) rfl ?_
  refine lv_iload_n hx hb dX1_add_100 rfl (lv_at hl 2 rfl) ?_
  refine q_mmax C mw_470 mw_91 mw_92 mw_93 ⟨Nat.le_trans (Nat.le_of_ble_eq_true rfl) hR.1, Nat.le_trans (Nat.le_of_ble_eq_true rfl) hR.2⟩ hsz (capA hC ha) (Nat.le_of_ble_eq_true rfl) dX1_add_101 ?_
  obtain ⟨g7, h⟩ := grd_some h
  obtain ⟨u8, eu8⟩ : ∃ z : Sg, z = s2 u 8 ((x1 : Int32).toNatClampNeg) (if (u 8 ((x1 : Int32).toNatClampNeg)) < x2 then x2 else (u 8 ((x1 : Int32).toNatClampNeg))) := ⟨_, rfl⟩
  have h := bnd_of eu8 h
  refine q_iast C S (aN8 cI ad pa pl) 0 rfl g7 dX1_add_104 (j := (x1 : Int32).toNatClampNeg) rfl eu8 (fun H locs S => ?_)
  refine lv_aload_n hx hb dX1_add_105 rfl (lv_at hl 0 rfl) ?_
  refine q_get (v := .ref pa) C S (oN5 cI ad pa pl) rfl iwX1 4 (by decide) mw_395 rfl dX1_add_106 ?_
  refine lv_iload hx hb dX1_add_109 (lv_at hl 7 rfl) ?_
  refine lv_iconst (v := 0) hx hb dX1_add_111 (by decide) ?_
  refine lv_iadd hx hb dX1_add_112 ?_
  refine lv_aload_n hx hb dX1_add_113 rfl (lv_at hl 0 rfl) ?_
  refine q_get (v := .ref (ad 8)) C S (oN5 cI ad pa pl) rfl iwX1 2 (by decide) mw_469 rfl dX1_add_114 ?_
  refine lv_iload_n hx hb dX1_add_117 rfl (lv_at hl 1 rfl) ?_
  obtain ⟨g9, h⟩ := grd_some h
  refine q_iald C S (aN8 cI ad pa pl) 0 rfl g9 dX1_add_118 (j := (x1 : Int32).toNatClampNeg) rfl ?_
  obtain ⟨g10, h⟩ := grd_some h
  obtain ⟨u11, eu11⟩ : ∃ z : Sg, z = s2 u8 10 (((x7 + 0) : Int32).toNatClampNeg) (u8 8 ((x1 : Int32).toNatClampNeg)) := ⟨_, rfl⟩
  have h := bnd_of eu11 h
  refine q_iast C S (aN10 cI ad pa pl) 0 rfl g10 dX1_add_119 (j := ((x7 + 0) : Int32).toNatClampNeg) rfl eu11 (fun H locs S => ?_)
  refine lv_aload_n hx hb dX1_add_120 rfl (lv_at hl 0 rfl) ?_
  refine q_get (v := .ref pa) C S (oN5 cI ad pa pl) rfl iwX1 4 (by decide) mw_395 rfl dX1_add_121 ?_
  refine lv_iload hx hb dX1_add_124 (lv_at hl 7 rfl) ?_
  refine lv_iconst (v := 1) hx hb dX1_add_126 (by decide) ?_
  refine lv_iadd hx hb dX1_add_127 ?_
  refine lv_iload_n hx hb dX1_add_128 rfl (lv_at hl 3 rfl) ?_
  obtain ⟨g12, h⟩ := grd_some h
  obtain ⟨u13, eu13⟩ : ∃ z : Sg, z = s2 u11 10 (((x7 + 1) : Int32).toNatClampNeg) x3 := ⟨_, rfl⟩
  have h := bnd_of eu13 h
  refine q_iast C S (aN10 cI ad pa pl) 0 rfl g12 dX1_add_129 (j := ((x7 + 1) : Int32).toNatClampNeg) rfl eu13 (fun H locs S => ?_)
  refine lv_aload_n hx hb dX1_add_130 rfl (lv_at hl 0 rfl) ?_
  refine q_get (v := .ref pa) C S (oN5 cI ad pa pl) rfl iwX1 4 (by decide) mw_395 rfl dX1_add_131 ?_
  refine lv_iload hx hb dX1_add_134 (lv_at hl 7 rfl) ?_
  refine lv_iconst (v := 2) hx hb dX1_add_136 (by decide) ?_
  refine lv_iadd hx hb dX1_add_137 ?_
  refine lv_iload hx hb dX1_add_138 (lv_at hl 4 rfl) ?_
  obtain ⟨g14, h⟩ := grd_some h
  obtain ⟨u15, eu15⟩ : ∃ z : Sg, z = s2 u13 10 (((x7 + 2) : Int32).toNatClampNeg) x4 := ⟨_, rfl⟩
  have h := bnd_of eu15 h
  refine q_iast C S (aN10 cI ad pa pl) 0 rfl g14 dX1_add_140 (j := ((x7 + 2) : Int32).toNatClampNeg) rfl eu15 (fun H locs S => ?_)
  refine lv_aload_n hx hb dX1_add_141 rfl (lv_at hl 0 rfl) ?_
  refine q_get (v := .ref pa) C S (oN5 cI ad pa pl) rfl iwX1 4 (by decide) mw_395 rfl dX1_add_142 ?_
  refine lv_iload hx hb dX1_add_145 (lv_at hl 7 rfl) ?_
  refine lv_iconst (v := 3) hx hb dX1_add_147 (by decide) ?_
  refine lv_iadd hx hb dX1_add_148 ?_
  refine lv_iload hx hb dX1_add_149 (lv_at hl 5 rfl) ?_
  obtain ⟨g16, h⟩ := grd_some h
  obtain ⟨u17, eu17⟩ : ∃ z : Sg, z = s2 u15 10 (((x7 + 3) : Int32).toNatClampNeg) x5 := ⟨_, rfl⟩
  have h := bnd_of eu17 h
  refine q_iast C S (aN10 cI ad pa pl) 0 rfl g16 dX1_add_151 (j := ((x7 + 3) : Int32).toNatClampNeg) rfl eu17 (fun H locs S => ?_)
  refine lv_aload_n hx hb dX1_add_152 rfl (lv_at hl 0 rfl) ?_
  refine q_get (v := .ref pa) C S (oN5 cI ad pa pl) rfl iwX1 4 (by decide) mw_395 rfl dX1_add_153 ?_
  refine lv_iload hx hb dX1_add_156 (lv_at hl 7 rfl) ?_
  refine lv_iconst (v := 4) hx hb dX1_add_158 (by decide) ?_
  refine lv_iadd hx hb dX1_add_159 ?_
  refine lv_iload hx hb dX1_add_160 (lv_at hl 6 rfl) ?_
  obtain ⟨g18, h⟩ := grd_some h
  obtain ⟨u19, eu19⟩ : ∃ z : Sg, z = s2 u17 10 (((x7 + 4) : Int32).toNatClampNeg) x6 := ⟨_, rfl⟩
  have h := bnd_of eu19 h
  refine q_iast C S (aN10 cI ad pa pl) 0 rfl g18 dX1_add_162 (j := ((x7 + 4) : Int32).toNatClampNeg) rfl eu19 (fun H locs S => ?_)
  refine lv_aload_n hx hb dX1_add_163 rfl (lv_at hl 0 rfl) ?_
  refine q_get (v := .ref pa) C S (oN5 cI ad pa pl) rfl iwX1 4 (by decide) mw_395 rfl dX1_add_164 ?_
  refine lv_iload hx hb dX1_add_167 (lv_at hl 7 rfl) ?_
  refine lv_iconst (v := 5) hx hb dX1_add_169 (by decide) ?_
  refine lv_iadd hx hb dX1_add_170 ?_
  refine lv_iconst (v := (-1)) hx hb dX1_add_171 (by decide) ?_
  obtain ⟨g20, h⟩ := grd_some h
  obtain ⟨u21, eu21⟩ : ∃ z : Sg, z = s2 u19 10 (((x7 + 5) : Int32).toNatClampNeg) (-1) := ⟨_, rfl⟩
  have h := bnd_of eu21 h
  refine q_iast C S (aN10 cI ad pa pl) 0 rfl g20 dX1_add_172 (j := ((x7 + 5) : Int32).toNatClampNeg) rfl eu21 (fun H locs S => ?_)
  refine lv_aload_n hx hb dX1_add_173 rfl (lv_at hl 0 rfl) ?_
  refine q_get (v := .ref (ad 12)) C S (oN5 cI ad pa pl) rfl iwX1 6 (by decide) mw_399 rfl dX1_add_174 ?_
  refine lv_iload_n hx hb dX1_add_177 rfl (lv_at hl 1 rfl) ?_
  obtain ⟨g22, h⟩ := grd_some h
  refine q_iald C S (aN12 cI ad pa pl) 0 rfl g22 dX1_add_178 (j := (x1 : Int32).toNatClampNeg) rfl ?_
  refine lv_iconst (v := (-1)) hx hb dX1_add_179 (by decide) ?_
  refine lv_icmp_ne (tgt := 194) hx hb dX1_add_180 (by decide) (fun c23 => ?_) (fun c23 => ?_)
  · have h := cnd_f c23 h
    refine lv_aload_n hx hb dX1_add_194 rfl (lv_at hl 0 rfl) ?_
    refine q_get (v := .ref pa) C S (oN5 cI ad pa pl) rfl iwX1 4 (by decide) mw_395 rfl dX1_add_195 ?_
    refine lv_aload_n hx hb dX1_add_198 rfl (lv_at hl 0 rfl) ?_
    refine q_get (v := .ref (ad 12)) C S (oN5 cI ad pa pl) rfl iwX1 6 (by decide) mw_399 rfl dX1_add_199 ?_
    refine lv_iload_n hx hb dX1_add_202 rfl (lv_at hl 1 rfl) ?_
    obtain ⟨g24, h⟩ := grd_some h
    refine q_iald C S (aN12 cI ad pa pl) 0 rfl g24 dX1_add_203 (j := (x1 : Int32).toNatClampNeg) rfl ?_
    refine lv_iconst (v := 5) hx hb dX1_add_204 (by decide) ?_
    refine lv_iadd hx hb dX1_add_205 ?_
    refine lv_iload hx hb dX1_add_206 (lv_at hl 7 rfl) ?_
    obtain ⟨g25, h⟩ := grd_some h
    obtain ⟨u26, eu26⟩ : ∃ z : Sg, z = s2 u21 10 ((((u21 12 ((x1 : Int32).toNatClampNeg)) + 5) : Int32).toNatClampNeg) x7 := ⟨_, rfl⟩
    have h := bnd_of eu26 h
    refine q_iast C S (aN10 cI ad pa pl) 0 rfl g25 dX1_add_208 (j := (((u21 12 ((x1 : Int32).toNatClampNeg)) + 5) : Int32).toNatClampNeg) rfl eu26 (fun H locs S => ?_)
    exact wX1_add_209 C hR hC u26 x1 x7 (lv_sub hl [0, 1, 7] rfl) S ha hpf h
  · have h := cnd_t c23 h
    refine lv_aload_n hx hb dX1_add_183 rfl (lv_at hl 0 rfl) ?_
    refine q_get (v := .ref (ad 11)) C S (oN5 cI ad pa pl) rfl iwX1 5 (by decide) mw_394 rfl dX1_add_184 ?_
    refine lv_iload_n hx hb dX1_add_187 rfl (lv_at hl 1 rfl) ?_
    refine lv_iload hx hb dX1_add_188 (lv_at hl 7 rfl) ?_
    obtain ⟨g32, h⟩ := grd_some h
    obtain ⟨u33, eu33⟩ : ∃ z : Sg, z = s2 u21 11 ((x1 : Int32).toNatClampNeg) x7 := ⟨_, rfl⟩
    have h := bnd_of eu33 h
    refine q_iast C S (aN11 cI ad pa pl) 0 rfl g32 dX1_add_190 (j := (x1 : Int32).toNatClampNeg) rfl eu33 (fun H locs S => ?_)
    refine lv_goto (tgt := 209) hx hb dX1_add_191 (by decide) ?_
    exact wX1_add_209 C hR hC u33 x1 x7 (lv_sub hl [0, 1, 7] rfl) S ha hpf h
set_option maxRecDepth 10000 in
set_option maxHeartbeats 4000000 in
theorem wX1_add_72 (C : cx D (tyl cI cB cL) A RX1 cX1_add 8 none p s m args c meth) (hR : 2 ≤ R.frames ∧ 48 ≤ R.locals) {σ' : Sg} {dt pf : Nat} (hC : R.cells = dt ∧ R.slots = 2 * dt) (u : Sg) (x1 : Int32) (x2 : Int32) (x3 : Int32) (x4 : Int32) (x5 : Int32) (x6 : Int32) {pl pa a dz : Nat} {H : Heap} {locs : List Loc} {ls : Array Slot} (hl : lv_has ls 8 [(0, .ref (ad 5)), (1, .int x1), (2, .int x2), (3, .int x3), (4, .int x4), (5, .int x5), (6, .int x6)]) (S : st D (wN cI ad pa pl) A s u H locs) (ha : dt = a + dz) (hpf : pf = pl + dz) (h : fX1_add_72 x1 x2 x3 x4 x5 x6 u pl = some (σ', dz)) : W p l e R s m args below meth c H locs a (2 * a) (MQ below (qVA D cI cB cL (wN cI ad) pf A σ') args s dt (2 * dt) A) (F0 m 72 ls []) := by
  have hx := C.1
  have hb := C.2.1
  have hsz := hl.1
  unfold fX1_add_72 at h
  refine lv_aload_n hx hb dX1_add_72 rfl (lv_at hl 0 rfl) ?_
  refine q_get (v := .int (u 5 7)) C S (oN5 cI ad pa pl) rfl iwX1 7 (by decide) mw_468 rfl dX1_add_73 ?_
  refine lv_topi (fun v4 ev4 => ?_)
  have h := bnd_of ev4 h
  refine lv_istore (lv' := [(7, .int v4), (0, .ref (ad 5)), (1, .int x1), (2, .int x2), (3, .int x3), (4, .int x4), (5, .int x5), (6, .int x6)]) hx hb dX1_add_76 hl (by decide) rfl (fun ls hl => ?_)
  have hsz := hl.1
  refine lv_aload_n hx hb dX1_add_78 rfl (lv_at hl 1 rfl) ?_
  refine lv_dup hx hb dX1_add_79 rfl ?_
  refine q_get (v := .int (u 5 7)) C S (oN5 cI ad pa pl) rfl iwX1 7 (by decide) mw_468 rfl dX1_add_80 ?_
  refine lv_bipush (v := 6) hx hb dX1_add_83 (by decide) ?_
  refine lv_iadd hx hb dX1_add_85 ?_
  obtain ⟨u5, eu5⟩ : ∃ z : Sg, z = s2 u 5 7 ((u 5 7) + 6) := ⟨_, rfl⟩
  have h := bnd_of eu5 h
  refine q_put C S (oN5 cI ad pa pl) rfl iwX1 tyX1 tyX1_ok nmX1 7 (by decide) mw_468 rfl (iN5_7 cI ad pa pl) rfl rfl dX1_add_86 eu5 (fun H locs S => ?_)
  exact wX1_add_89 C hR hC u5 x1 x2 x3 x4 x5 x6 v4 (lv_sub hl [1, 2, 3, 4, 5, 6, 7, 0] rfl) S ha hpf h
set_option maxRecDepth 10000 in
set_option maxHeartbeats 4000000 in
theorem wX1_add_0 (C : cx D (tyl cI cB cL) A RX1 cX1_add 8 none p s m args c meth) (hR : 2 ≤ R.frames ∧ 48 ≤ R.locals) {σ' : Sg} {dt pf : Nat} (hC : R.cells = dt ∧ R.slots = 2 * dt) (u : Sg) (x1 : Int32) (x2 : Int32) (x3 : Int32) (x4 : Int32) (x5 : Int32) (x6 : Int32) {pl pa a dz : Nat} {H : Heap} {locs : List Loc} {ls : Array Slot} (hl : lv_has ls 8 [(0, .ref (ad 5)), (1, .int x1), (2, .int x2), (3, .int x3), (4, .int x4), (5, .int x5), (6, .int x6)]) (S : st D (wN cI ad pa pl) A s u H locs) (ha : dt = a + dz) (hpf : pf = pl + dz) (h : fX1_add_0 x1 x2 x3 x4 x5 x6 u pl = some (σ', dz)) : W p l e R s m args below meth c H locs a (2 * a) (MQ below (qVA D cI cB cL (wN cI ad) pf A σ') args s dt (2 * dt) A) (F0 m 0 ls []) := by
  have hx := C.1
  have hb := C.2.1
  have hsz := hl.1
  unfold fX1_add_0 at h
  refine lv_aload_n hx hb dX1_add_0 rfl (lv_at hl 0 rfl) ?_
  refine q_get (v := .int (u 5 8)) C S (oN5 cI ad pa pl) rfl iwX1 8 (by decide) mw_397 rfl dX1_add_1 ?_
  refine lv_topi (fun v1 ev1 => ?_)
  have h := bnd_of ev1 h
  refine lv_istore (lv' := [(7, .int v1), (0, .ref (ad 5)), (1, .int x1), (2, .int x2), (3, .int x3), (4, .int x4), (5, .int x5), (6, .int x6)]) hx hb dX1_add_4 hl (by decide) rfl (fun ls hl => ?_)
  have hsz := hl.1
  refine lv_iload hx hb dX1_add_6 (lv_at hl 0 rfl) ?_
  refine lv_iconst (v := (-1)) hx hb dX1_add_8 (by decide) ?_
  refine lv_icmp_eq (tgt := 28) hx hb dX1_add_9 (by decide) (fun c2 => ?_) (fun c2 => ?_)
  · have h := cnd_t c2 h
    refine lv_aload_n hx hb dX1_add_28 rfl (lv_at hl 1 rfl) ?_
    refine q_get (v := .int (u 5 7)) C S (oN5 cI ad pa pl) rfl iwX1 7 (by decide) mw_468 rfl dX1_add_29 ?_
    refine lv_bipush (v := 6) hx hb dX1_add_32 (by decide) ?_
    refine lv_iadd hx hb dX1_add_34 ?_
    refine lv_aload_n hx hb dX1_add_35 rfl (lv_at hl 1 rfl) ?_
    refine q_get (v := .ref pa) C S (oN5 cI ad pa pl) rfl iwX1 4 (by decide) mw_395 rfl dX1_add_36 ?_
    refine q_alen (v := (Int32.ofNat pl)) C S (aN10 cI ad pa pl) 0 rfl rfl dX1_add_39 ?_
    refine lv_icmp_le (tgt := 72) hx hb dX1_add_40 (by decide) (fun c3 => ?_) (fun c3 => ?_)
    · have h := cnd_t c3 h
      exact wX1_add_72 C hR hC u x1 x2 x3 x4 x5 x6 (lv_sub hl [1, 2, 3, 4, 5, 6, 7] rfl) S ha hpf h
    · have h := cnd_f c3 h
      refine lv_aload_n hx hb dX1_add_43 rfl (lv_at hl 1 rfl) ?_
      refine q_get (v := .ref pa) C S (oN5 cI ad pa pl) rfl iwX1 4 (by decide) mw_395 rfl dX1_add_44 ?_
      refine q_alen (v := (Int32.ofNat pl)) C S (aN10 cI ad pa pl) 0 rfl rfl dX1_add_47 ?_
      refine q_ldc (v := 262144) C mw_471 dX1_add_48 ?_
      refine lv_icmp_le (tgt := 54) hx hb dX1_add_50 (by decide) (fun c34 => ?_) (fun c34 => ?_)
      · have h := cnd_t c34 h
        refine lv_aload_n hx hb dX1_add_54 rfl (lv_at hl 1 rfl) ?_
        refine lv_aload_n hx hb dX1_add_55 rfl (lv_at hl 1 rfl) ?_
        refine q_get (v := .ref pa) C S (oN5 cI ad pa pl) rfl iwX1 4 (by decide) mw_395 rfl dX1_add_56 ?_
        refine lv_aload_n hx hb dX1_add_59 rfl (lv_at hl 1 rfl) ?_
        refine q_get (v := .ref pa) C S (oN5 cI ad pa pl) rfl iwX1 4 (by decide) mw_395 rfl dX1_add_60 ?_
        refine q_alen (v := (Int32.ofNat pl)) C S (aN10 cI ad pa pl) 0 rfl rfl dX1_add_63 ?_
        refine lv_iconst (v := 2) hx hb dX1_add_64 (by decide) ?_
        refine lv_imul hx hb dX1_add_65 ?_
        obtain ⟨g35, h⟩ := grd_some h
        obtain ⟨u36, eu36⟩ : ∃ z : Sg, z = sq u 10 (grw (u 10) pl) := ⟨_, rfl⟩
        have h := bnd_of eu36 h
        obtain ⟨dz37, h, edz37⟩ := addB_some h
        have ha38 : dt = (a + pl) + dz37 := by omega
        have hpf38 : pf = (pl + pl) + dz37 := by omega
        refine q_grow (dz := dz37) C S g35 mw_472 mw_473 mw_474 mw_475 mw_395 ⟨Nat.le_trans (Nat.le_of_ble_eq_true rfl) hR.1, Nat.le_trans (Nat.le_of_ble_eq_true rfl) hR.2⟩ hsz hC (by omega) (Nat.le_of_ble_eq_true rfl) dX1_add_66 dX1_add_69 (fun pa38 H locs S => ?_)
        rw [← eu36] at S
        exact wX1_add_72 C hR hC u36 x1 x2 x3 x4 x5 x6 (lv_sub hl [1, 2, 3, 4, 5, 6, 7] rfl) S ha38 hpf38 h
      · have h := cnd_f c34 h
        exact q_vretA C S h ha hpf dX1_add_53
  · have h := cnd_f c2 h
    refine lv_aload_n hx hb dX1_add_12 rfl (lv_at hl 1 rfl) ?_
    refine lv_aload_n hx hb dX1_add_13 rfl (lv_at hl 1 rfl) ?_
    refine q_get (v := .ref pa) C S (oN5 cI ad pa pl) rfl iwX1 4 (by decide) mw_395 rfl dX1_add_14 ?_
    refine lv_iload hx hb dX1_add_17 (lv_at hl 0 rfl) ?_
    refine lv_iconst (v := 5) hx hb dX1_add_19 (by decide) ?_
    refine lv_iadd hx hb dX1_add_20 ?_
    obtain ⟨g39, h⟩ := grd_some h
    refine q_iald C S (aN10 cI ad pa pl) 0 rfl g39 dX1_add_21 (j := ((v1 + 5) : Int32).toNatClampNeg) rfl ?_
    obtain ⟨u40, eu40⟩ : ∃ z : Sg, z = s2 u 5 8 (u 10 (((v1 + 5) : Int32).toNatClampNeg)) := ⟨_, rfl⟩
    have h := bnd_of eu40 h
    refine q_put C S (oN5 cI ad pa pl) rfl iwX1 tyX1 tyX1_ok nmX1 8 (by decide) mw_397 rfl (iN5_8 cI ad pa pl) rfl rfl dX1_add_22 eu40 (fun H locs S => ?_)
    refine lv_goto (tgt := 89) hx hb dX1_add_25 (by decide) ?_
    exact wX1_add_89 C hR hC u40 x1 x2 x3 x4 x5 x6 v1 (lv_sub hl [1, 2, 3, 4, 5, 6, 7, 0] rfl) S ha hpf h
set_option maxRecDepth 10000 in
set_option maxHeartbeats 4000000 in
theorem ct_X1_add (l : Launch) (D : va_G) (cI cB cL : ClassId) (ad : Nat → Nat) (x1 : Int32) (x2 : Int32) (x3 : Int32) (x4 : Int32) (x5 : Int32) (x6 : Int32) (u : Sg) (pl : Nat) {σ' : Sg} {dz : Nat} (h : fX1_add x1 x2 x3 x4 x5 x6 u pl = some (σ', dz)) : metVA l D cI cB cL yX1_add cX1_add 8 2 48 (wN cI ad) [.ref (ad 5), .int x1, .int x2, .int x3, .int x4, .int x5, .int x6] u pl σ' dz := by
  intro pa sz
  refine Met.ofW (cc := cX1_add) (maxL := 8) (ret := none) (by decide) rfl ?_
  intro p e s m args below meth c s₁ B hml hv
  obtain ⟨rfl, C, S⟩ := q_entryA B hml hv
  have hl := lv_entry ([.ref (ad 5), .int x1, .int x2, .int x3, .int x4, .int x5, .int x6]) (n := 8) (Nat.le_of_ble_eq_true rfl)
  rw [lg_entry_eq]
  generalize (lg_sl ([.ref (ad 5), .int x1, .int x2, .int x3, .int x4, .int x5, .int x6]) ++ List.replicate (8 - (lg_sl ([.ref (ad 5), .int x1, .int x2, .int x3, .int x4, .int x5, .int x6])).length) Slot.unset).toArray = ls at hl ⊢
  exact wX1_add_0 C ⟨Nat.le_refl _, Nat.le_refl _⟩ ⟨rfl, rfl⟩ u x1 x2 x3 x4 x5 x6 (lv_sub hl [0, 1, 2, 3, 4, 5, 6] rfl) S (Nat.zero_add _).symm rfl h
noncomputable def fX7_put_79 (x1 : Int32) (x4 : Int32) (t0 : Int32) (t1 : Int32) (t2 : Int32) (t3 : Int32) (t4 : Int32) (t5 : Int32) (u : Sg) (pl : Nat) : Option (Sg × Nat) := obd (fX1_add t5 t4 t3 t2 t1 t0 u pl) (fun u10 d11 => addB d11 (grd (vp_in x4 20) (grd (vp_in x4 20) (bnd (s2 u10 16 ((x4 : Int32).toNatClampNeg) ((u10 16 ((x4 : Int32).toNatClampNeg)) + 1)) (fun u16 => grd (vp_in x4 20) (grd (vp_in x4 20) (bnd (s2 u16 18 ((x4 : Int32).toNatClampNeg) ((u16 18 ((x4 : Int32).toNatClampNeg)) ||| ((1 : Int32) <<< ((x1 &&& 31 : Int32))))) (fun u19 => grd (vp_in x1 6) (grd (vp_in x1 6) (bnd (s2 u19 4 ((x1 : Int32).toNatClampNeg) ((u19 4 ((x1 : Int32).toNatClampNeg)) + 1)) (fun u22 => some (u22, 0))))))))))))
noncomputable def fX7_put_56 (x1 : Int32) (x3 : Int32) (x4 : Int32) (x5 : Int32) (x6 : Int32) (x7 : Int32) (x8 : Int32) (u : Sg) (pl : Nat) : Option (Sg × Nat) := cnd (x6 = 0) (fX7_put_79 x1 x4 0 x5 x4 x3 x8 x7 u pl) (fX7_put_79 x1 x4 1 x5 x4 x3 x8 x7 u pl)
noncomputable def fX7_put_0 (x1 : Int32) (x2 : Int32) (x3 : Int32) (x4 : Int32) (x5 : Int32) (x6 : Int32) (u : Sg) (pl : Nat) : Option (Sg × Nat) := obr (fX7_isNoticed x2 u) (fun r2 => cnd (r2 = 0) (bnd (fX11_channelOf x1 x2) (fun v4 => grd (vp_in v4 36) (bnd ((u 0 3) + (u 6 ((v4 : Int32).toNatClampNeg))) (fun v6 => cnd ((u 0 4) ≤ 0) (fX7_put_56 x1 x3 x4 x5 x6 v4 v6 u pl) (obd (fX7_draw u) (fun r24 u25 => grd (¬ ((u25 0 4) + 1) = 0) (bnd (v6 + (r24 - r24 / ((u25 0 4) + 1) * ((u25 0 4) + 1))) (fun v27 => fX7_put_56 x1 x3 x4 x5 x6 v4 v27 u25 pl)))))))) (some (u, 0)))
noncomputable def fX7_put (x1 : Int32) (x2 : Int32) (x3 : Int32) (x4 : Int32) (x5 : Int32) (x6 : Int32) (u : Sg) (pl : Nat) : Option (Sg × Nat) := fX7_put_0 x1 x2 x3 x4 x5 x6 u pl
set_option maxRecDepth 10000 in
set_option maxHeartbeats 4000000 in
theorem wX7_put_79 (C : cx D (tyl cI cB cL) A RX7 cX7_put 9 none p s m args c meth) (hR : 3 ≤ R.frames ∧ 75 ≤ R.locals) {σ' : Sg} {dt pf : Nat} (hC : R.cells = dt ∧ R.slots = 2 * dt) (u : Sg) (x1 : Int32) (x4 : Int32) (t0 : Int32) (t1 : Int32) (t2 : Int32) (t3 : Int32) (t4 : Int32) (t5 : Int32) {pl pa a dz : Nat} {H : Heap} {locs : List Loc} {ls : Array Slot} (hl : lv_has ls 9 [(0, .ref (ad 0)), (1, .int x1), (4, .int x4)]) (S : st D (wN cI ad pa pl) A s u H locs) (ha : dt = a + dz) (hpf : pf = pl + dz) (h : fX7_put_79 x1 x4 t0 t1 t2 t3 t4 t5 u pl = some (σ', dz)) : W p l e R s m args below meth c H locs a (2 * a) (MQ below (qVA D cI cB cL (wN cI ad) pf A σ') args s dt (2 * dt) A) (F0 m 79 ls [.int t0, .int t1, .int t2, .int t3, .int t4, .int t5, .ref (ad 5)]) := by
  have hx := C.1
  have hb := C.2.1
  have hsz := hl.1
  unfold fX7_put_79 at h
  obtain ⟨u10, d11, h9, h⟩ := obd_some h
  obtain ⟨dz12, h, edz12⟩ := addB_some h
  have ha13 : dt = (a + d11) + dz12 := by omega
  have hpf13 : pf = (pl + d11) + dz12 := by omega
  refine q_callVvA (As := [.int t5, .int t4, .int t3, .int t2, .int t1, .int t0]) (na := 6) C S (oN5 cI ad pa pl) rfl (ct_X1_add l D cI cB cL ad t5 t4 t3 t2 t1 t0 u pl h9) mw_480 mw_479 mw_481 mw_401 mw_478 hdX1_add ⟨Nat.le_trans (Nat.le_of_ble_eq_true rfl) hR.1, Nat.le_trans (Nat.le_of_ble_eq_true rfl) hR.2⟩ rfl hsz (dz := dz12) hC (by omega) (Nat.le_of_ble_eq_true rfl) dX7_put_79 rfl (fun pa13 H locs S => ?_)
  refine lv_aload_n hx hb dX7_put_82 rfl (lv_at hl 0 rfl) ?_
  refine q_get (v := .ref (ad 13)) C S (oN0 cI ad pa13 (pl + d11)) rfl iwX7 14 (by decide) mw_434 rfl dX7_put_83 ?_
  refine q_get (v := .ref (ad 16)) C S (oN13 cI ad pa13 (pl + d11)) rfl iwX6 3 (by decide) mw_482 rfl dX7_put_86 ?_
  refine lv_iload hx hb dX7_put_89 (lv_at hl 2 rfl) ?_
  refine lv_dup2_11 hx hb dX7_put_91 rfl rfl ?_
  obtain ⟨g14, h⟩ := grd_some h
  refine q_iald C S (aN16 cI ad pa13 (pl + d11)) 0 rfl g14 dX7_put_92 (j := (x4 : Int32).toNatClampNeg) rfl ?_
  refine lv_iconst (v := 1) hx hb dX7_put_93 (by decide) ?_
  refine lv_iadd hx hb dX7_put_94 ?_
  obtain ⟨g15, h⟩ := grd_some h
  obtain ⟨u16, eu16⟩ : ∃ z : Sg, z = s2 u10 16 ((x4 : Int32).toNatClampNeg) ((u10 16 ((x4 : Int32).toNatClampNeg)) + 1) := ⟨_, rfl⟩
  have h := bnd_of eu16 h
  refine q_iast C S (aN16 cI ad pa13 (pl + d11)) 0 rfl g15 dX7_put_95 (j := (x4 : Int32).toNatClampNeg) rfl eu16 (fun H locs S => ?_)
  refine lv_aload_n hx hb dX7_put_96 rfl (lv_at hl 0 rfl) ?_
  refine q_get (v := .ref (ad 13)) C S (oN0 cI ad pa13 (pl + d11)) rfl iwX7 14 (by decide) mw_434 rfl dX7_put_97 ?_
  refine q_get (v := .ref (ad 18)) C S (oN13 cI ad pa13 (pl + d11)) rfl iwX6 5 (by decide) mw_483 rfl dX7_put_100 ?_
  refine lv_iload hx hb dX7_put_103 (lv_at hl 2 rfl) ?_
  refine lv_dup2_11 hx hb dX7_put_105 rfl rfl ?_
  obtain ⟨g17, h⟩ := grd_some h
  refine q_iald C S (aN18 cI ad pa13 (pl + d11)) 0 rfl g17 dX7_put_106 (j := (x4 : Int32).toNatClampNeg) rfl ?_
  refine lv_iconst (v := 1) hx hb dX7_put_107 (by decide) ?_
  refine lv_iload_n hx hb dX7_put_108 rfl (lv_at hl 1 rfl) ?_
  refine lv_ishl hx hb dX7_put_109 ?_
  refine lv_ior hx hb dX7_put_110 ?_
  obtain ⟨g18, h⟩ := grd_some h
  obtain ⟨u19, eu19⟩ : ∃ z : Sg, z = s2 u16 18 ((x4 : Int32).toNatClampNeg) ((u16 18 ((x4 : Int32).toNatClampNeg)) ||| ((1 : Int32) <<< ((x1 &&& 31 : Int32)))) := ⟨_, rfl⟩
  have h := bnd_of eu19 h
  refine q_iast C S (aN18 cI ad pa13 (pl + d11)) 0 rfl g18 dX7_put_111 (j := (x4 : Int32).toNatClampNeg) rfl eu19 (fun H locs S => ?_)
  refine lv_aload_n hx hb dX7_put_112 rfl (lv_at hl 0 rfl) ?_
  refine q_get (v := .ref (ad 4)) C S (oN0 cI ad pa13 (pl + d11)) rfl iwX7 12 (by decide) mw_484 rfl dX7_put_113 ?_
  refine lv_iload_n hx hb dX7_put_116 rfl (lv_at hl 1 rfl) ?_
  refine lv_dup2_11 hx hb dX7_put_117 rfl rfl ?_
  obtain ⟨g20, h⟩ := grd_some h
  refine q_iald C S (aN4 cI ad pa13 (pl + d11)) 0 rfl g20 dX7_put_118 (j := (x1 : Int32).toNatClampNeg) rfl ?_
  refine lv_iconst (v := 1) hx hb dX7_put_119 (by decide) ?_
  refine lv_iadd hx hb dX7_put_120 ?_
  obtain ⟨g21, h⟩ := grd_some h
  obtain ⟨u22, eu22⟩ : ∃ z : Sg, z = s2 u19 4 ((x1 : Int32).toNatClampNeg) ((u19 4 ((x1 : Int32).toNatClampNeg)) + 1) := ⟨_, rfl⟩
  have h := bnd_of eu22 h
  refine q_iast C S (aN4 cI ad pa13 (pl + d11)) 0 rfl g21 dX7_put_121 (j := (x1 : Int32).toNatClampNeg) rfl eu22 (fun H locs S => ?_)
  exact q_vretA C S h ha13 hpf13 dX7_put_122
set_option maxRecDepth 10000 in
set_option maxHeartbeats 4000000 in
theorem wX7_put_56 (C : cx D (tyl cI cB cL) A RX7 cX7_put 9 none p s m args c meth) (hR : 3 ≤ R.frames ∧ 75 ≤ R.locals) {σ' : Sg} {dt pf : Nat} (hC : R.cells = dt ∧ R.slots = 2 * dt) (u : Sg) (x1 : Int32) (x3 : Int32) (x4 : Int32) (x5 : Int32) (x6 : Int32) (x7 : Int32) (x8 : Int32) {pl pa a dz : Nat} {H : Heap} {locs : List Loc} {ls : Array Slot} (hl : lv_has ls 9 [(0, .ref (ad 0)), (1, .int x1), (3, .int x3), (4, .int x4), (5, .int x5), (6, .int x6), (7, .int x7), (8, .int x8)]) (S : st D (wN cI ad pa pl) A s u H locs) (ha : dt = a + dz) (hpf : pf = pl + dz) (h : fX7_put_56 x1 x3 x4 x5 x6 x7 x8 u pl = some (σ', dz)) : W p l e R s m args below meth c H locs a (2 * a) (MQ below (qVA D cI cB cL (wN cI ad) pf A σ') args s dt (2 * dt) A) (F0 m 56 ls []) := by
  have hx := C.1
  have hb := C.2.1
  have hsz := hl.1
  unfold fX7_put_56 at h
  refine lv_aload_n hx hb dX7_put_56 rfl (lv_at hl 0 rfl) ?_
  refine q_get (v := .ref (ad 5)) C S (oN0 cI ad pa pl) rfl iwX7 13 (by decide) mw_429 rfl dX7_put_57 ?_
  refine lv_iload hx hb dX7_put_60 (lv_at hl 6 rfl) ?_
  refine lv_iload hx hb dX7_put_62 (lv_at hl 7 rfl) ?_
  refine lv_iload_n hx hb dX7_put_64 rfl (lv_at hl 2 rfl) ?_
  refine lv_iload hx hb dX7_put_65 (lv_at hl 3 rfl) ?_
  refine lv_iload hx hb dX7_put_67 (lv_at hl 4 rfl) ?_
  refine lv_iload hx hb dX7_put_69 (lv_at hl 5 rfl) ?_
  refine lv_if_eq (tgt := 78) hx hb dX7_put_71 (by decide) (fun c8 => ?_) (fun c8 => ?_)
  · have h := cnd_t c8 h
    refine lv_iconst (v := 0) hx hb dX7_put_78 (by decide) ?_
    exact wX7_put_79 C hR hC u x1 x4 0 x5 x4 x3 x8 x7 (lv_sub hl [0, 1, 3] rfl) S ha hpf h
  · have h := cnd_f c8 h
    refine lv_iconst (v := 1) hx hb dX7_put_74 (by decide) ?_
    refine lv_goto (tgt := 79) hx hb dX7_put_75 (by decide) ?_
    exact wX7_put_79 C hR hC u x1 x4 1 x5 x4 x3 x8 x7 (lv_sub hl [0, 1, 3] rfl) S ha hpf h
set_option maxRecDepth 10000 in
set_option maxHeartbeats 4000000 in
theorem wX7_put_0 (C : cx D (tyl cI cB cL) A RX7 cX7_put 9 none p s m args c meth) (hR : 3 ≤ R.frames ∧ 75 ≤ R.locals) {σ' : Sg} {dt pf : Nat} (hC : R.cells = dt ∧ R.slots = 2 * dt) (u : Sg) (x1 : Int32) (x2 : Int32) (x3 : Int32) (x4 : Int32) (x5 : Int32) (x6 : Int32) {pl pa a dz : Nat} {H : Heap} {locs : List Loc} {ls : Array Slot} (hl : lv_has ls 9 [(0, .ref (ad 0)), (1, .int x1), (2, .int x2), (3, .int x3), (4, .int x4), (5, .int x5), (6, .int x6)]) (S : st D (wN cI ad pa pl) A s u H locs) (ha : dt = a + dz) (hpf : pf = pl + dz) (h : fX7_put_0 x1 x2 x3 x4 x5 x6 u pl = some (σ', dz)) : W p l e R s m args below meth c H locs a (2 * a) (MQ below (qVA D cI cB cL (wN cI ad) pf A σ') args s dt (2 * dt) A) (F0 m 0 ls []) := by
  have hx := C.1
  have hb := C.2.1
  have hsz := hl.1
  unfold fX7_put_0 at h
  refine lv_aload_n hx hb dX7_put_0 rfl (lv_at hl 0 rfl) ?_
  refine lv_iload_n hx hb dX7_put_1 rfl (lv_at hl 2 rfl) ?_
  obtain ⟨r2, h1, h⟩ := obr_some h
  refine q_callVi (As := [.int x2]) (na := 1) C S (oN0 cI ad pa pl) rfl (ct_X7_isNoticed l D cI cB cL ad pa pl x2 u h1) mw_350 mw_349 mw_351 mw_341 mw_348 hdX7_isNoticed ⟨Nat.le_trans (Nat.le_of_ble_eq_true rfl) hR.1, Nat.le_trans (Nat.le_of_ble_eq_true rfl) hR.2⟩ rfl hsz (capA hC ha) (Nat.le_of_ble_eq_true rfl) dX7_put_2 rfl (fun H locs S => ?_)
  refine lv_if_eq (tgt := 9) hx hb dX7_put_5 (by decide) (fun c3 => ?_) (fun c3 => ?_)
  · have h := cnd_t c3 h
    refine lv_iload_n hx hb dX7_put_9 rfl (lv_at hl 1 rfl) ?_
    refine lv_iload_n hx hb dX7_put_10 rfl (lv_at hl 2 rfl) ?_
    refine q_callPN (As := [.int x1, .int x2]) (na := 2) C S (ct_X11_channelOf l D cI cB cL x1 x2) (List.mem_of_getElem? (i := 15) rfl) mw_406 mw_321 mw_405 hdX11_channelOf ⟨Nat.le_trans (Nat.le_of_ble_eq_true rfl) hR.1, Nat.le_trans (Nat.le_of_ble_eq_true rfl) hR.2⟩ rfl hsz (capA hC ha) (Nat.le_of_ble_eq_true rfl) dX7_put_11 rfl (fun H locs S => ?_)
    refine lv_topi (fun v4 ev4 => ?_)
    have h := bnd_of ev4 h
    refine lv_istore (lv' := [(7, .int v4), (0, .ref (ad 0)), (1, .int x1), (2, .int x2), (3, .int x3), (4, .int x4), (5, .int x5), (6, .int x6)]) hx hb dX7_put_14 hl (by decide) rfl (fun ls hl => ?_)
    have hsz := hl.1
    refine lv_aload_n hx hb dX7_put_16 rfl (lv_at hl 1 rfl) ?_
    refine q_get (v := .int (u 0 3)) C S (oN0 cI ad pa pl) rfl iwX7 3 (by decide) mw_345 rfl dX7_put_17 ?_
    refine lv_aload_n hx hb dX7_put_20 rfl (lv_at hl 1 rfl) ?_
    refine q_get (v := .ref (ad 5)) C S (oN0 cI ad pa pl) rfl iwX7 13 (by decide) mw_429 rfl dX7_put_21 ?_
    refine q_get (v := .ref (ad 6)) C S (oN5 cI ad pa pl) rfl iwX1 0 (by decide) mw_476 rfl dX7_put_24 ?_
    refine lv_iload hx hb dX7_put_27 (lv_at hl 0 rfl) ?_
    obtain ⟨g5, h⟩ := grd_some h
    refine q_iald C S (aN6 cI ad pa pl) 0 rfl g5 dX7_put_29 (j := (v4 : Int32).toNatClampNeg) rfl ?_
    refine lv_iadd hx hb dX7_put_30 ?_
    refine lv_topi (fun v6 ev6 => ?_)
    have h := bnd_of ev6 h
    refine lv_istore (lv' := [(8, .int v6), (7, .int v4), (0, .ref (ad 0)), (1, .int x1), (2, .int x2), (3, .int x3), (4, .int x4), (5, .int x5), (6, .int x6)]) hx hb dX7_put_31 hl (by decide) rfl (fun ls hl => ?_)
    have hsz := hl.1
    refine lv_aload_n hx hb dX7_put_33 rfl (lv_at hl 2 rfl) ?_
    refine q_get (v := .int (u 0 4)) C S (oN0 cI ad pa pl) rfl iwX7 4 (by decide) mw_477 rfl dX7_put_34 ?_
    refine lv_if_le (tgt := 56) hx hb dX7_put_37 (by decide) (fun c7 => ?_) (fun c7 => ?_)
    · have h := cnd_t c7 h
      exact wX7_put_56 C hR hC u x1 x3 x4 x5 x6 v4 v6 (lv_sub hl [2, 3, 5, 6, 7, 8, 1, 0] rfl) S ha hpf h
    · have h := cnd_f c7 h
      refine lv_iload hx hb dX7_put_40 (lv_at hl 0 rfl) ?_
      refine lv_aload_n hx hb dX7_put_42 rfl (lv_at hl 2 rfl) ?_
      obtain ⟨r24, u25, h23, h⟩ := obd_some h
      refine q_callVi (As := []) (na := 0) C S (oN0 cI ad pa pl) rfl (ct_X7_draw l D cI cB cL ad pa pl u h23) mw_487 mw_486 mw_488 mw_341 mw_485 hdX7_draw ⟨Nat.le_trans (Nat.le_of_ble_eq_true rfl) hR.1, Nat.le_trans (Nat.le_of_ble_eq_true rfl) hR.2⟩ rfl hsz (capA hC ha) (Nat.le_of_ble_eq_true rfl) dX7_put_43 rfl (fun H locs S => ?_)
      refine lv_aload_n hx hb dX7_put_46 rfl (lv_at hl 2 rfl) ?_
      refine q_get (v := .int (u25 0 4)) C S (oN0 cI ad pa pl) rfl iwX7 4 (by decide) mw_477 rfl dX7_put_47 ?_
      refine lv_iconst (v := 1) hx hb dX7_put_50 (by decide) ?_
      refine lv_iadd hx hb dX7_put_51 ?_
      obtain ⟨g26, h⟩ := grd_some h
      refine lv_irem hx hb dX7_put_52 g26 ?_
      refine lv_iadd hx hb dX7_put_53 ?_
      refine lv_topi (fun v27 ev27 => ?_)
      have h := bnd_of ev27 h
      refine lv_istore (lv' := [(8, .int v27), (7, .int v4), (0, .ref (ad 0)), (1, .int x1), (2, .int x2), (3, .int x3), (4, .int x4), (5, .int x5), (6, .int x6)]) hx hb dX7_put_54 hl (by decide) rfl (fun ls hl => ?_)
      have hsz := hl.1
      exact wX7_put_56 C hR hC u25 x1 x3 x4 x5 x6 v4 v27 (lv_sub hl [2, 3, 5, 6, 7, 8, 1, 0] rfl) S ha hpf h
  · have h := cnd_f c3 h
    exact q_vretA C S h ha hpf dX7_put_8
set_option maxRecDepth 10000 in
set_option maxHeartbeats 4000000 in
theorem ct_X7_put (l : Launch) (D : va_G) (cI cB cL : ClassId) (ad : Nat → Nat) (x1 : Int32) (x2 : Int32) (x3 : Int32) (x4 : Int32) (x5 : Int32) (x6 : Int32) (u : Sg) (pl : Nat) {σ' : Sg} {dz : Nat} (h : fX7_put x1 x2 x3 x4 x5 x6 u pl = some (σ', dz)) : metVA l D cI cB cL yX7_put cX7_put 9 3 75 (wN cI ad) [.ref (ad 0), .int x1, .int x2, .int x3, .int x4, .int x5, .int x6] u pl σ' dz := by
  intro pa sz
  refine Met.ofW (cc := cX7_put) (maxL := 9) (ret := none) (by decide) rfl ?_
  intro p e s m args below meth c s₁ B hml hv
  obtain ⟨rfl, C, S⟩ := q_entryA B hml hv
  have hl := lv_entry ([.ref (ad 0), .int x1, .int x2, .int x3, .int x4, .int x5, .int x6]) (n := 9) (Nat.le_of_ble_eq_true rfl)
  rw [lg_entry_eq]
  generalize (lg_sl ([.ref (ad 0), .int x1, .int x2, .int x3, .int x4, .int x5, .int x6]) ++ List.replicate (9 - (lg_sl ([.ref (ad 0), .int x1, .int x2, .int x3, .int x4, .int x5, .int x6])).length) Slot.unset).toArray = ls at hl ⊢
  exact wX7_put_0 C ⟨Nat.le_refl _, Nat.le_refl _⟩ ⟨rfl, rfl⟩ u x1 x2 x3 x4 x5 x6 (lv_sub hl [0, 1, 2, 3, 4, 5, 6] rfl) S (Nat.zero_add _).symm rfl h
noncomputable def fX7_hear_160 (t0 : Int32) (t1 : Int32) (t2 : Int32) (t3 : Int32) (t4 : Int32) (t5 : Int32) (u : Sg) (pl : Nat) : Option (Sg × Nat) := obd (fX7_put t5 t4 t3 t2 t1 t0 u pl) (fun u33 d34 => addB d34 (some (u33, 0)))
noncomputable def fX7_hear_114 (x1 : Int32) (x2 : Int32) (x4 : Int32) (x7 : Int32) (u : Sg) (pl : Nat) : Option (Sg × Nat) := grd (vp_in x7 120) (bnd (s2 u 22 ((x7 : Int32).toNatClampNeg) x1) (fun u28 => grd (vp_in x7 120) (grd (vp_in x7 120) (cnd ((u28 20 ((x7 : Int32).toNatClampNeg)) = 1) (fX7_hear_160 0 (u28 21 ((x7 : Int32).toNatClampNeg)) x4 4 x1 x2 u28 pl) (fX7_hear_160 1 (u28 21 ((x7 : Int32).toNatClampNeg)) x4 4 x1 x2 u28 pl)))))
noncomputable def fX7_hear_0 (x1 : Int32) (x2 : Int32) (x3 : Int32) (x4 : Int32) (x5 : Int32) (x6 : Int32) (u : Sg) (pl : Nat) : Option (Sg × Nat) := bnd (fX11_spotOf x2 x4) (fun v1 => cnd (x3 = 0) (grd (vp_in v1 120) (cnd ((u 20 ((v1 : Int32).toNatClampNeg)) = 0) (obr (fX7_propose x2 v1 u) (fun u6 => grd (vp_in v1 120) (bnd (s2 u6 22 ((v1 : Int32).toNatClampNeg) x1) (fun u8 => grd (vp_in v1 120) (obd (fX7_put x2 x1 1 x4 (u8 21 ((v1 : Int32).toNatClampNeg)) 0 u8 pl) (fun u11 d12 => addB d12 (some (u11, 0)))))))) (some (u, 0)))) (cnd (x3 = 1) (obr (fX3_hear v1 x1 x5 x6 u) (fun u17 => some (u17, 0))) (cnd (x3 = 2) (grd (vp_in x2 6) (grd (vp_in x2 6) (bnd (s2 u 3 ((x2 : Int32).toNatClampNeg) (if (u 3 ((x2 : Int32).toNatClampNeg)) < (fX11_numberOf x5) then (fX11_numberOf x5) else (u 3 ((x2 : Int32).toNatClampNeg)))) (fun u21 => obr (fX4_settle v1 x1 x5 u21) (fun u23 => some (u23, 0)))))) (cnd (x3 = 3) (grd (vp_in v1 120) (cnd ((u 20 ((v1 : Int32).toNatClampNeg)) = 0) (obr (fX7_propose x2 v1 u) (fun u38 => fX7_hear_114 x1 x2 x4 v1 u38 pl)) (fX7_hear_114 x1 x2 x4 v1 u pl))) (obr (fX3_hear v1 x1 x5 x6 u) (fun u40 => some (u40, 0)))))))
noncomputable def fX7_hear (x1 : Int32) (x2 : Int32) (x3 : Int32) (x4 : Int32) (x5 : Int32) (x6 : Int32) (u : Sg) (pl : Nat) : Option (Sg × Nat) := fX7_hear_0 x1 x2 x3 x4 x5 x6 u pl
set_option maxRecDepth 10000 in
set_option maxHeartbeats 4000000 in
theorem wX7_hear_160 (C : cx D (tyl cI cB cL) A RX7 cX7_hear 8 none p s m args c meth) (hR : 4 ≤ R.frames ∧ 103 ≤ R.locals) {σ' : Sg} {dt pf : Nat} (hC : R.cells = dt ∧ R.slots = 2 * dt) (u : Sg) (t0 : Int32) (t1 : Int32) (t2 : Int32) (t3 : Int32) (t4 : Int32) (t5 : Int32) {pl pa a dz : Nat} {H : Heap} {locs : List Loc} {ls : Array Slot} (hl : lv_has ls 8 []) (S : st D (wN cI ad pa pl) A s u H locs) (ha : dt = a + dz) (hpf : pf = pl + dz) (h : fX7_hear_160 t0 t1 t2 t3 t4 t5 u pl = some (σ', dz)) : W p l e R s m args below meth c H locs a (2 * a) (MQ below (qVA D cI cB cL (wN cI ad) pf A σ') args s dt (2 * dt) A) (F0 m 160 ls [.int t0, .int t1, .int t2, .int t3, .int t4, .int t5, .ref (ad 0)]) := by
  have hx := C.1
  have hb := C.2.1
  have hsz := hl.1
  unfold fX7_hear_160 at h
  obtain ⟨u33, d34, h32, h⟩ := obd_some h
  obtain ⟨dz35, h, edz35⟩ := addB_some h
  have ha36 : dt = (a + d34) + dz35 := by omega
  have hpf36 : pf = (pl + d34) + dz35 := by omega
  refine q_callVvA (As := [.int t5, .int t4, .int t3, .int t2, .int t1, .int t0]) (na := 6) C S (oN0 cI ad pa pl) rfl (ct_X7_put l D cI cB cL ad t5 t4 t3 t2 t1 t0 u pl h32) mw_495 mw_494 mw_496 mw_341 mw_493 hdX7_put ⟨Nat.le_trans (Nat.le_of_ble_eq_true rfl) hR.1, Nat.le_trans (Nat.le_of_ble_eq_true rfl) hR.2⟩ rfl hsz (dz := dz35) hC (by omega) (Nat.le_of_ble_eq_true rfl) dX7_hear_160 rfl (fun pa36 H locs S => ?_)
  refine lv_goto (tgt := 215) hx hb dX7_hear_163 (by decide) ?_
  exact q_vretA C S h ha36 hpf36 dX7_hear_215
set_option maxRecDepth 10000 in
set_option maxHeartbeats 4000000 in
theorem wX7_hear_114 (C : cx D (tyl cI cB cL) A RX7 cX7_hear 8 none p s m args c meth) (hR : 4 ≤ R.frames ∧ 103 ≤ R.locals) {σ' : Sg} {dt pf : Nat} (hC : R.cells = dt ∧ R.slots = 2 * dt) (u : Sg) (x1 : Int32) (x2 : Int32) (x4 : Int32) (x7 : Int32) {pl pa a dz : Nat} {H : Heap} {locs : List Loc} {ls : Array Slot} (hl : lv_has ls 8 [(0, .ref (ad 0)), (1, .int x1), (2, .int x2), (4, .int x4), (7, .int x7)]) (S : st D (wN cI ad pa pl) A s u H locs) (ha : dt = a + dz) (hpf : pf = pl + dz) (h : fX7_hear_114 x1 x2 x4 x7 u pl = some (σ', dz)) : W p l e R s m args below meth c H locs a (2 * a) (MQ below (qVA D cI cB cL (wN cI ad) pf A σ') args s dt (2 * dt) A) (F0 m 114 ls []) := by
  have hx := C.1
  have hb := C.2.1
  have hsz := hl.1
  unfold fX7_hear_114 at h
  refine lv_aload_n hx hb dX7_hear_114 rfl (lv_at hl 0 rfl) ?_
  refine q_get (v := .ref (ad 19)) C S (oN0 cI ad pa pl) rfl iwX7 15 (by decide) mw_436 rfl dX7_hear_115 ?_
  refine q_get (v := .ref (ad 22)) C S (oN19 cI ad pa pl) rfl iwX4 2 (by decide) mw_450 rfl dX7_hear_118 ?_
  refine lv_iload hx hb dX7_hear_121 (lv_at hl 4 rfl) ?_
  refine lv_iload_n hx hb dX7_hear_123 rfl (lv_at hl 1 rfl) ?_
  obtain ⟨g27, h⟩ := grd_some h
  obtain ⟨u28, eu28⟩ : ∃ z : Sg, z = s2 u 22 ((x7 : Int32).toNatClampNeg) x1 := ⟨_, rfl⟩
  have h := bnd_of eu28 h
  refine q_iast C S (aN22 cI ad pa pl) 0 rfl g27 dX7_hear_124 (j := (x7 : Int32).toNatClampNeg) rfl eu28 (fun H locs S => ?_)
  refine lv_aload_n hx hb dX7_hear_125 rfl (lv_at hl 0 rfl) ?_
  refine lv_iload_n hx hb dX7_hear_126 rfl (lv_at hl 2 rfl) ?_
  refine lv_iload_n hx hb dX7_hear_127 rfl (lv_at hl 1 rfl) ?_
  refine lv_iconst (v := 4) hx hb dX7_hear_128 (by decide) ?_
  refine lv_iload hx hb dX7_hear_129 (lv_at hl 3 rfl) ?_
  refine lv_aload_n hx hb dX7_hear_131 rfl (lv_at hl 0 rfl) ?_
  refine q_get (v := .ref (ad 19)) C S (oN0 cI ad pa pl) rfl iwX7 15 (by decide) mw_436 rfl dX7_hear_132 ?_
  refine q_get (v := .ref (ad 21)) C S (oN19 cI ad pa pl) rfl iwX4 1 (by decide) mw_445 rfl dX7_hear_135 ?_
  refine lv_iload hx hb dX7_hear_138 (lv_at hl 4 rfl) ?_
  obtain ⟨g29, h⟩ := grd_some h
  refine q_iald C S (aN21 cI ad pa pl) 0 rfl g29 dX7_hear_140 (j := (x7 : Int32).toNatClampNeg) rfl ?_
  refine lv_aload_n hx hb dX7_hear_141 rfl (lv_at hl 0 rfl) ?_
  refine q_get (v := .ref (ad 19)) C S (oN0 cI ad pa pl) rfl iwX7 15 (by decide) mw_436 rfl dX7_hear_142 ?_
  refine q_get (v := .ref (ad 20)) C S (oN19 cI ad pa pl) rfl iwX4 0 (by decide) mw_437 rfl dX7_hear_145 ?_
  refine lv_iload hx hb dX7_hear_148 (lv_at hl 4 rfl) ?_
  obtain ⟨g30, h⟩ := grd_some h
  refine q_iald C S (aN20 cI ad pa pl) 0 rfl g30 dX7_hear_150 (j := (x7 : Int32).toNatClampNeg) rfl ?_
  refine lv_iconst (v := 1) hx hb dX7_hear_151 (by decide) ?_
  refine lv_icmp_eq (tgt := 159) hx hb dX7_hear_152 (by decide) (fun c31 => ?_) (fun c31 => ?_)
  · have h := cnd_t c31 h
    refine lv_iconst (v := 0) hx hb dX7_hear_159 (by decide) ?_
    exact wX7_hear_160 C hR hC u28 0 (u28 21 ((x7 : Int32).toNatClampNeg)) x4 4 x1 x2 (lv_sub hl [] rfl) S ha hpf h
  · have h := cnd_f c31 h
    refine lv_iconst (v := 1) hx hb dX7_hear_155 (by decide) ?_
    refine lv_goto (tgt := 160) hx hb dX7_hear_156 (by decide) ?_
    exact wX7_hear_160 C hR hC u28 1 (u28 21 ((x7 : Int32).toNatClampNeg)) x4 4 x1 x2 (lv_sub hl [] rfl) S ha hpf h
set_option maxRecDepth 10000 in
set_option maxHeartbeats 4000000 in
theorem wX7_hear_0 (C : cx D (tyl cI cB cL) A RX7 cX7_hear 8 none p s m args c meth) (hR : 4 ≤ R.frames ∧ 103 ≤ R.locals) {σ' : Sg} {dt pf : Nat} (hC : R.cells = dt ∧ R.slots = 2 * dt) (u : Sg) (x1 : Int32) (x2 : Int32) (x3 : Int32) (x4 : Int32) (x5 : Int32) (x6 : Int32) {pl pa a dz : Nat} {H : Heap} {locs : List Loc} {ls : Array Slot} (hl : lv_has ls 8 [(0, .ref (ad 0)), (1, .int x1), (2, .int x2), (3, .int x3), (4, .int x4), (5, .int x5), (6, .int x6)]) (S : st D (wN cI ad pa pl) A s u H locs) (ha : dt = a + dz) (hpf : pf = pl + dz) (h : fX7_hear_0 x1 x2 x3 x4 x5 x6 u pl = some (σ', dz)) : W p l e R s m args below meth c H locs a (2 * a) (MQ below (qVA D cI cB cL (wN cI ad) pf A σ') args s dt (2 * dt) A) (F0 m 0 ls []) := by
  have hx := C.1
  have hb := C.2.1
  have hsz := hl.1
  unfold fX7_hear_0 at h
  refine lv_iload_n hx hb dX7_hear_0 rfl (lv_at hl 2 rfl) ?_
  refine lv_iload hx hb dX7_hear_1 (lv_at hl 4 rfl) ?_
  refine q_callPN (As := [.int x2, .int x4]) (na := 2) C S (ct_X11_spotOf l D cI cB cL x2 x4) (List.mem_of_getElem? (i := 13) rfl) mw_322 mw_321 mw_320 hdX11_spotOf ⟨Nat.le_trans (Nat.le_of_ble_eq_true rfl) hR.1, Nat.le_trans (Nat.le_of_ble_eq_true rfl) hR.2⟩ rfl hsz (capA hC ha) (Nat.le_of_ble_eq_true rfl) dX7_hear_3 rfl (fun H locs S => ?_)
  refine lv_topi (fun v1 ev1 => ?_)
  have h := bnd_of ev1 h
  refine lv_istore (lv' := [(7, .int v1), (0, .ref (ad 0)), (1, .int x1), (2, .int x2), (3, .int x3), (4, .int x4), (5, .int x5), (6, .int x6)]) hx hb dX7_hear_6 hl (by decide) rfl (fun ls hl => ?_)
  have hsz := hl.1
  refine lv_iload_n hx hb dX7_hear_8 rfl (lv_at hl 4 rfl) ?_
  by_cases c2 : x3 = 0
  · have h := cnd_t c2 h
    refine lv_tableIn (off := 31) (tgt := 40) hx hb dX7_hear_9 (by rw [c2]; decide) (by rw [c2]; decide) (by rw [c2]; rfl) (by decide) ?_
    refine lv_aload_n hx hb dX7_hear_40 rfl (lv_at hl 1 rfl) ?_
    refine q_get (v := .ref (ad 19)) C S (oN0 cI ad pa pl) rfl iwX7 15 (by decide) mw_436 rfl dX7_hear_41 ?_
    refine q_get (v := .ref (ad 20)) C S (oN19 cI ad pa pl) rfl iwX4 0 (by decide) mw_437 rfl dX7_hear_44 ?_
    refine lv_iload hx hb dX7_hear_47 (lv_at hl 0 rfl) ?_
    obtain ⟨g3, h⟩ := grd_some h
    refine q_iald C S (aN20 cI ad pa pl) 0 rfl g3 dX7_hear_49 (j := (v1 : Int32).toNatClampNeg) rfl ?_
    refine lv_if_ne (tgt := 215) hx hb dX7_hear_50 (by decide) (fun c4 => ?_) (fun c4 => ?_)
    · have h := cnd_f c4 h
      exact q_vretA C S h ha hpf dX7_hear_215
    · have h := cnd_t c4 h
      refine lv_aload_n hx hb dX7_hear_53 rfl (lv_at hl 1 rfl) ?_
      refine lv_iload_n hx hb dX7_hear_54 rfl (lv_at hl 3 rfl) ?_
      refine lv_iload hx hb dX7_hear_55 (lv_at hl 0 rfl) ?_
      obtain ⟨u6, h5, h⟩ := obr_some h
      refine q_callVv (As := [.int x2, .int v1]) (na := 2) C S (oN0 cI ad pa pl) rfl (ct_X7_propose l D cI cB cL ad pa pl x2 v1 u h5) mw_491 mw_490 mw_492 mw_341 mw_489 hdX7_propose ⟨Nat.le_trans (Nat.le_of_ble_eq_true rfl) hR.1, Nat.le_trans (Nat.le_of_ble_eq_true rfl) hR.2⟩ rfl hsz (capA hC ha) (Nat.le_of_ble_eq_true rfl) dX7_hear_57 rfl (fun H locs S => ?_)
      refine lv_aload_n hx hb dX7_hear_60 rfl (lv_at hl 1 rfl) ?_
      refine q_get (v := .ref (ad 19)) C S (oN0 cI ad pa pl) rfl iwX7 15 (by decide) mw_436 rfl dX7_hear_61 ?_
      refine q_get (v := .ref (ad 22)) C S (oN19 cI ad pa pl) rfl iwX4 2 (by decide) mw_450 rfl dX7_hear_64 ?_
      refine lv_iload hx hb dX7_hear_67 (lv_at hl 0 rfl) ?_
      refine lv_iload_n hx hb dX7_hear_69 rfl (lv_at hl 2 rfl) ?_
      obtain ⟨g7, h⟩ := grd_some h
      obtain ⟨u8, eu8⟩ : ∃ z : Sg, z = s2 u6 22 ((v1 : Int32).toNatClampNeg) x1 := ⟨_, rfl⟩
      have h := bnd_of eu8 h
      refine q_iast C S (aN22 cI ad pa pl) 0 rfl g7 dX7_hear_70 (j := (v1 : Int32).toNatClampNeg) rfl eu8 (fun H locs S => ?_)
      refine lv_aload_n hx hb dX7_hear_71 rfl (lv_at hl 1 rfl) ?_
      refine lv_iload_n hx hb dX7_hear_72 rfl (lv_at hl 3 rfl) ?_
      refine lv_iload_n hx hb dX7_hear_73 rfl (lv_at hl 2 rfl) ?_
      refine lv_iconst (v := 1) hx hb dX7_hear_74 (by decide) ?_
      refine lv_iload hx hb dX7_hear_75 (lv_at hl 5 rfl) ?_
      refine lv_aload_n hx hb dX7_hear_77 rfl (lv_at hl 1 rfl) ?_
      refine q_get (v := .ref (ad 19)) C S (oN0 cI ad pa pl) rfl iwX7 15 (by decide) mw_436 rfl dX7_hear_78 ?_
      refine q_get (v := .ref (ad 21)) C S (oN19 cI ad pa pl) rfl iwX4 1 (by decide) mw_445 rfl dX7_hear_81 ?_
      refine lv_iload hx hb dX7_hear_84 (lv_at hl 0 rfl) ?_
      obtain ⟨g9, h⟩ := grd_some h
      refine q_iald C S (aN21 cI ad pa pl) 0 rfl g9 dX7_hear_86 (j := (v1 : Int32).toNatClampNeg) rfl ?_
      refine lv_iconst (v := 0) hx hb dX7_hear_87 (by decide) ?_
      obtain ⟨u11, d12, h10, h⟩ := obd_some h
      obtain ⟨dz13, h, edz13⟩ := addB_some h
      have ha14 : dt = (a + d12) + dz13 := by omega
      have hpf14 : pf = (pl + d12) + dz13 := by omega
      refine q_callVvA (As := [.int x2, .int x1, .int 1, .int x4, .int (u8 21 ((v1 : Int32).toNatClampNeg)), .int 0]) (na := 6) C S (oN0 cI ad pa pl) rfl (ct_X7_put l D cI cB cL ad x2 x1 1 x4 (u8 21 ((v1 : Int32).toNatClampNeg)) 0 u8 pl h10) mw_495 mw_494 mw_496 mw_341 mw_493 hdX7_put ⟨Nat.le_trans (Nat.le_of_ble_eq_true rfl) hR.1, Nat.le_trans (Nat.le_of_ble_eq_true rfl) hR.2⟩ rfl hsz (dz := dz13) hC (by omega) (Nat.le_of_ble_eq_true rfl) dX7_hear_88 rfl (fun pa14 H locs S => ?_)
      refine lv_goto (tgt := 215) hx hb dX7_hear_91 (by decide) ?_
      exact q_vretA C S h ha14 hpf14 dX7_hear_215
  · have h := cnd_f c2 h
    by_cases c15 : x3 = 1
    · have h := cnd_t c15 h
      refine lv_tableIn (off := 192) (tgt := 201) hx hb dX7_hear_9 (by rw [c15]; decide) (by rw [c15]; decide) (by rw [c15]; rfl) (by decide) ?_
      refine lv_aload_n hx hb dX7_hear_201 rfl (lv_at hl 1 rfl) ?_
      refine q_get (v := .ref (ad 26)) C S (oN0 cI ad pa pl) rfl iwX7 16 (by decide) mw_448 rfl dX7_hear_202 ?_
      refine lv_iload hx hb dX7_hear_205 (lv_at hl 0 rfl) ?_
      refine lv_iload_n hx hb dX7_hear_207 rfl (lv_at hl 2 rfl) ?_
      refine lv_iload hx hb dX7_hear_208 (lv_at hl 6 rfl) ?_
      refine lv_iload hx hb dX7_hear_210 (lv_at hl 7 rfl) ?_
      obtain ⟨u17, h16, h⟩ := obr_some h
      refine q_callVv (As := [.int v1, .int x1, .int x5, .int x6]) (na := 4) C S (oN26 cI ad pa pl) rfl (ct_X3_hear l D cI cB cL ad pa pl v1 x1 x5 x6 u h16) mw_499 mw_498 mw_500 mw_326 mw_497 hdX3_hear ⟨Nat.le_trans (Nat.le_of_ble_eq_true rfl) hR.1, Nat.le_trans (Nat.le_of_ble_eq_true rfl) hR.2⟩ rfl hsz (capA hC ha) (Nat.le_of_ble_eq_true rfl) dX7_hear_212 rfl (fun H locs S => ?_)
      exact q_vretA C S h ha hpf dX7_hear_215
    · have h := cnd_f c15 h
      by_cases c18 : x3 = 2
      · have h := cnd_t c18 h
        refine lv_tableIn (off := 157) (tgt := 166) hx hb dX7_hear_9 (by rw [c18]; decide) (by rw [c18]; decide) (by rw [c18]; rfl) (by decide) ?_
        refine lv_aload_n hx hb dX7_hear_166 rfl (lv_at hl 1 rfl) ?_
        refine q_get (v := .ref (ad 3)) C S (oN0 cI ad pa pl) rfl iwX7 11 (by decide) mw_444 rfl dX7_hear_167 ?_
        refine lv_iload_n hx hb dX7_hear_170 rfl (lv_at hl 3 rfl) ?_
        refine lv_aload_n hx hb dX7_hear_171 rfl (lv_at hl 1 rfl) ?_
        refine q_get (v := .ref (ad 3)) C S (oN0 cI ad pa pl) rfl iwX7 11 (by decide) mw_444 rfl dX7_hear_172 ?_
        refine lv_iload_n hx hb dX7_hear_175 rfl (lv_at hl 3 rfl) ?_
        obtain ⟨g19, h⟩ := grd_some h
        refine q_iald C S (aN3 cI ad pa pl) 0 rfl g19 dX7_hear_176 (j := (x2 : Int32).toNatClampNeg) rfl ?_
        refine lv_iload hx hb dX7_hear_177 (lv_at hl 6 rfl) ?_
        refine q_callPN (As := [.int x5]) (na := 1) C S (ct_X11_numberOf l D cI cB cL x5) (List.mem_of_getElem? (i := 17) rfl) mw_502 mw_321 mw_501 hdX11_numberOf ⟨Nat.le_trans (Nat.le_of_ble_eq_true rfl) hR.1, Nat.le_trans (Nat.le_of_ble_eq_true rfl) hR.2⟩ rfl hsz (capA hC ha) (Nat.le_of_ble_eq_true rfl) dX7_hear_179 rfl (fun H locs S => ?_)
        refine q_mmax C mw_503 mw_91 mw_92 mw_93 ⟨Nat.le_trans (Nat.le_of_ble_eq_true rfl) hR.1, Nat.le_trans (Nat.le_of_ble_eq_true rfl) hR.2⟩ hsz (capA hC ha) (Nat.le_of_ble_eq_true rfl) dX7_hear_182 ?_
        obtain ⟨g20, h⟩ := grd_some h
        obtain ⟨u21, eu21⟩ : ∃ z : Sg, z = s2 u 3 ((x2 : Int32).toNatClampNeg) (if (u 3 ((x2 : Int32).toNatClampNeg)) < (fX11_numberOf x5) then (fX11_numberOf x5) else (u 3 ((x2 : Int32).toNatClampNeg))) := ⟨_, rfl⟩
        have h := bnd_of eu21 h
        refine q_iast C S (aN3 cI ad pa pl) 0 rfl g20 dX7_hear_185 (j := (x2 : Int32).toNatClampNeg) rfl eu21 (fun H locs S => ?_)
        refine lv_aload_n hx hb dX7_hear_186 rfl (lv_at hl 1 rfl) ?_
        refine q_get (v := .ref (ad 19)) C S (oN0 cI ad pa pl) rfl iwX7 15 (by decide) mw_436 rfl dX7_hear_187 ?_
        refine lv_iload hx hb dX7_hear_190 (lv_at hl 0 rfl) ?_
        refine lv_iload_n hx hb dX7_hear_192 rfl (lv_at hl 2 rfl) ?_
        refine lv_iload hx hb dX7_hear_193 (lv_at hl 6 rfl) ?_
        obtain ⟨u23, h22, h⟩ := obr_some h
        refine q_callVv (As := [.int v1, .int x1, .int x5]) (na := 3) C S (oN19 cI ad pa pl) rfl (ct_X4_settle l D cI cB cL ad pa pl v1 x1 x5 u21 h22) mw_506 mw_505 mw_507 mw_332 mw_504 hdX4_settle ⟨Nat.le_trans (Nat.le_of_ble_eq_true rfl) hR.1, Nat.le_trans (Nat.le_of_ble_eq_true rfl) hR.2⟩ rfl hsz (capA hC ha) (Nat.le_of_ble_eq_true rfl) dX7_hear_195 rfl (fun H locs S => ?_)
        refine lv_goto (tgt := 215) hx hb dX7_hear_198 (by decide) ?_
        exact q_vretA C S h ha hpf dX7_hear_215
      · have h := cnd_f c18 h
        by_cases c24 : x3 = 3
        · have h := cnd_t c24 h
          refine lv_tableIn (off := 85) (tgt := 94) hx hb dX7_hear_9 (by rw [c24]; decide) (by rw [c24]; decide) (by rw [c24]; rfl) (by decide) ?_
          refine lv_aload_n hx hb dX7_hear_94 rfl (lv_at hl 1 rfl) ?_
          refine q_get (v := .ref (ad 19)) C S (oN0 cI ad pa pl) rfl iwX7 15 (by decide) mw_436 rfl dX7_hear_95 ?_
          refine q_get (v := .ref (ad 20)) C S (oN19 cI ad pa pl) rfl iwX4 0 (by decide) mw_437 rfl dX7_hear_98 ?_
          refine lv_iload hx hb dX7_hear_101 (lv_at hl 0 rfl) ?_
          obtain ⟨g25, h⟩ := grd_some h
          refine q_iald C S (aN20 cI ad pa pl) 0 rfl g25 dX7_hear_103 (j := (v1 : Int32).toNatClampNeg) rfl ?_
          refine lv_if_ne (tgt := 114) hx hb dX7_hear_104 (by decide) (fun c26 => ?_) (fun c26 => ?_)
          · have h := cnd_f c26 h
            exact wX7_hear_114 C hR hC u x1 x2 x4 v1 (lv_sub hl [1, 2, 3, 5, 0] rfl) S ha hpf h
          · have h := cnd_t c26 h
            refine lv_aload_n hx hb dX7_hear_107 rfl (lv_at hl 1 rfl) ?_
            refine lv_iload_n hx hb dX7_hear_108 rfl (lv_at hl 3 rfl) ?_
            refine lv_iload hx hb dX7_hear_109 (lv_at hl 0 rfl) ?_
            obtain ⟨u38, h37, h⟩ := obr_some h
            refine q_callVv (As := [.int x2, .int v1]) (na := 2) C S (oN0 cI ad pa pl) rfl (ct_X7_propose l D cI cB cL ad pa pl x2 v1 u h37) mw_491 mw_490 mw_492 mw_341 mw_489 hdX7_propose ⟨Nat.le_trans (Nat.le_of_ble_eq_true rfl) hR.1, Nat.le_trans (Nat.le_of_ble_eq_true rfl) hR.2⟩ rfl hsz (capA hC ha) (Nat.le_of_ble_eq_true rfl) dX7_hear_111 rfl (fun H locs S => ?_)
            exact wX7_hear_114 C hR hC u38 x1 x2 x4 v1 (lv_sub hl [1, 2, 3, 5, 0] rfl) S ha hpf h
        · have h := cnd_f c24 h
          refine lv_tableOut (tgt := 201) hx hb dX7_hear_9 (sw_out (0) 4 (fun k hk => by
            rcases (show k = 0 ∨ k = 1 ∨ k = 2 ∨ k = 3 by omega) with rfl | rfl | rfl | rfl
            · exact sw_ne 0 _ (by decide) c2
            · exact sw_ne 1 _ (by decide) c15
            · exact sw_ne 2 _ (by decide) c18
            · exact sw_ne 3 _ (by decide) c24)) (by decide) ?_
          refine lv_aload_n hx hb dX7_hear_201 rfl (lv_at hl 1 rfl) ?_
          refine q_get (v := .ref (ad 26)) C S (oN0 cI ad pa pl) rfl iwX7 16 (by decide) mw_448 rfl dX7_hear_202 ?_
          refine lv_iload hx hb dX7_hear_205 (lv_at hl 0 rfl) ?_
          refine lv_iload_n hx hb dX7_hear_207 rfl (lv_at hl 2 rfl) ?_
          refine lv_iload hx hb dX7_hear_208 (lv_at hl 6 rfl) ?_
          refine lv_iload hx hb dX7_hear_210 (lv_at hl 7 rfl) ?_
          obtain ⟨u40, h39, h⟩ := obr_some h
          refine q_callVv (As := [.int v1, .int x1, .int x5, .int x6]) (na := 4) C S (oN26 cI ad pa pl) rfl (ct_X3_hear l D cI cB cL ad pa pl v1 x1 x5 x6 u h39) mw_499 mw_498 mw_500 mw_326 mw_497 hdX3_hear ⟨Nat.le_trans (Nat.le_of_ble_eq_true rfl) hR.1, Nat.le_trans (Nat.le_of_ble_eq_true rfl) hR.2⟩ rfl hsz (capA hC ha) (Nat.le_of_ble_eq_true rfl) dX7_hear_212 rfl (fun H locs S => ?_)
          exact q_vretA C S h ha hpf dX7_hear_215
set_option maxRecDepth 10000 in
set_option maxHeartbeats 4000000 in
theorem ct_X7_hear (l : Launch) (D : va_G) (cI cB cL : ClassId) (ad : Nat → Nat) (x1 : Int32) (x2 : Int32) (x3 : Int32) (x4 : Int32) (x5 : Int32) (x6 : Int32) (u : Sg) (pl : Nat) {σ' : Sg} {dz : Nat} (h : fX7_hear x1 x2 x3 x4 x5 x6 u pl = some (σ', dz)) : metVA l D cI cB cL yX7_hear cX7_hear 8 4 103 (wN cI ad) [.ref (ad 0), .int x1, .int x2, .int x3, .int x4, .int x5, .int x6] u pl σ' dz := by
  intro pa sz
  refine Met.ofW (cc := cX7_hear) (maxL := 8) (ret := none) (by decide) rfl ?_
  intro p e s m args below meth c s₁ B hml hv
  obtain ⟨rfl, C, S⟩ := q_entryA B hml hv
  have hl := lv_entry ([.ref (ad 0), .int x1, .int x2, .int x3, .int x4, .int x5, .int x6]) (n := 8) (Nat.le_of_ble_eq_true rfl)
  rw [lg_entry_eq]
  generalize (lg_sl ([.ref (ad 0), .int x1, .int x2, .int x3, .int x4, .int x5, .int x6]) ++ List.replicate (8 - (lg_sl ([.ref (ad 0), .int x1, .int x2, .int x3, .int x4, .int x5, .int x6])).length) Slot.unset).toArray = ls at hl ⊢
  exact wX7_hear_0 C ⟨Nat.le_refl _, Nat.le_refl _⟩ ⟨rfl, rfl⟩ u x1 x2 x3 x4 x5 x6 (lv_sub hl [0, 1, 2, 3, 4, 5, 6] rfl) S (Nat.zero_add _).symm rfl h
noncomputable def fX7_hearAll_176 (K2 : Int32 → Sg → Nat → Option (Sg × Nat)) (x1 : Int32) (u : Sg) (pl : Nat) : Option (Sg × Nat) := bnd (x1 + 1) (fun v3 => K2 v3 u pl)
noncomputable def fX7_hearAll_170 (K2 : Int32 → Sg → Nat → Option (Sg × Nat)) (K12 : Int32 → Int32 → Sg → Nat → Option (Sg × Nat)) (x1 : Int32) (x2 : Int32) (u : Sg) (pl : Nat) : Option (Sg × Nat) := bnd (x2 + 1) (fun v11 => K12 x1 v11 u pl)
noncomputable def fX7_hearAll_135 (K2 : Int32 → Sg → Nat → Option (Sg × Nat)) (K12 : Int32 → Int32 → Sg → Nat → Option (Sg × Nat)) (K45 : Int32 → Int32 → Int32 → Int32 → Sg → Nat → Option (Sg × Nat)) (x1 : Int32) (x2 : Int32) (x3 : Int32) (x4 : Int32) (x6 : Int32) (x7 : Int32) (x8 : Int32) (t0 : Int32) (u : Sg) (pl : Nat) : Option (Sg × Nat) := obr (fX1_dropFirst pl x3 u) (fun u24 => obd (fX7_hear x2 x1 x6 x7 x8 t0 u24 pl) (fun u26 d27 => addB d27 (bnd (s2 u26 0 8 1) (fun u30 => bnd (x4 + (-1)) (fun v31 => K45 x1 x2 x3 v31 u30 (pl + d27))))))
noncomputable def fX7_hearAll_45 (K2 : Int32 → Sg → Nat → Option (Sg × Nat)) (K12 : Int32 → Int32 → Sg → Nat → Option (Sg × Nat)) : Nat → Int32 → Int32 → Int32 → Int32 → Sg → Nat → Option (Sg × Nat)
  | 0, _, _, _, _, _, _ => none
  | n + 1, x1, x2, x3, x4, u, pl => cnd (x4 ≤ 0) (fX7_hearAll_170 K2 K12 x1 x2 u pl) (obr (fX1_openCell pl x3 (u 0 3) u) (fun r13 => cnd (r13 = (-1)) (fX7_hearAll_170 K2 K12 x1 x2 u pl) (grd (vp_in (r13 + 1) pl) (bnd (u 10 (((r13 + 1) : Int32).toNatClampNeg)) (fun v16 => grd (vp_in (r13 + 2) pl) (bnd (u 10 (((r13 + 2) : Int32).toNatClampNeg)) (fun v18 => grd (vp_in (r13 + 3) pl) (bnd (u 10 (((r13 + 3) : Int32).toNatClampNeg)) (fun v20 => grd (vp_in (r13 + 4) pl) (cnd ((u 10 (((r13 + 4) : Int32).toNatClampNeg)) = 0) (fX7_hearAll_135 K2 K12 (fun a0 a1 a2 a3 w z => fX7_hearAll_45 K2 K12 n a0 a1 a2 a3 w z) x1 x2 x3 x4 v16 v18 v20 0 u pl) (fX7_hearAll_135 K2 K12 (fun a0 a1 a2 a3 w z => fX7_hearAll_45 K2 K12 n a0 a1 a2 a3 w z) x1 x2 x3 x4 v16 v18 v20 1 u pl)))))))))))
noncomputable def fX7_hearAll_12 (K2 : Int32 → Sg → Nat → Option (Sg × Nat)) : Nat → Int32 → Int32 → Sg → Nat → Option (Sg × Nat)
  | 0, _, _, _, _ => none
  | n + 1, x1, x2, u, pl => cnd ((u 0 0) ≤ x2) (fX7_hearAll_176 K2 x1 u pl) (obr (fX7_isUp x1 u) (fun r5 => cnd (r5 = 0) (fX7_hearAll_176 K2 x1 u pl) (bnd (fX11_channelOf x2 x1) (fun v7 => grd (vp_in v7 36) (bnd (u 9 ((v7 : Int32).toNatClampNeg)) (fun v9 => fX7_hearAll_45 K2 (fun a0 a1 w z => fX7_hearAll_12 K2 n a0 a1 w z) FU x1 x2 v7 v9 u pl))))))
noncomputable def fX7_hearAll_2 : Nat → Int32 → Sg → Nat → Option (Sg × Nat)
  | 0, _, _, _ => none
  | n + 1, x1, u, pl => cnd ((u 0 0) ≤ x1) (some (u, 0)) (fX7_hearAll_12 (fun a0 w z => fX7_hearAll_2 n a0 w z) FU x1 0 u pl)
noncomputable def fX7_hearAll_0 (u : Sg) (pl : Nat) : Option (Sg × Nat) := fX7_hearAll_2 FU 0 u pl
noncomputable def fX7_hearAll (u : Sg) (pl : Nat) : Option (Sg × Nat) := fX7_hearAll_0 u pl
set_option maxRecDepth 10000 in
set_option maxHeartbeats 4000000 in
theorem wX7_hearAll_176 (C : cx D (tyl cI cB cL) A RX7 cX7_hearAll 10 none p s m args c meth) (hR : 5 ≤ R.frames ∧ 130 ≤ R.locals) {σ' : Sg} {dt pf : Nat} (hC : R.cells = dt ∧ R.slots = 2 * dt) (u : Sg) {K2 : Int32 → Sg → Nat → Option (Sg × Nat)} (hK2 : ∀ (y1 : Int32) (v : Sg) (pl pa a dz : Nat) (H : Heap) (locs : List Loc) (ls : Array Slot), lv_has ls 10 [(0, .ref (ad 0)), (1, .int y1)] → st D (wN cI ad pa pl) A s v H locs → dt = a + dz → pf = pl + dz → K2 y1 v pl = some (σ', dz) → W p l e R s m args below meth c H locs a (2 * a) (MQ below (qVA D cI cB cL (wN cI ad) pf A σ') args s dt (2 * dt) A) (F0 m 2 ls [])) (x1 : Int32) {pl pa a dz : Nat} {H : Heap} {locs : List Loc} {ls : Array Slot} (hl : lv_has ls 10 [(0, .ref (ad 0)), (1, .int x1)]) (S : st D (wN cI ad pa pl) A s u H locs) (ha : dt = a + dz) (hpf : pf = pl + dz) (h : fX7_hearAll_176 K2 x1 u pl = some (σ', dz)) : W p l e R s m args below meth c H locs a (2 * a) (MQ below (qVA D cI cB cL (wN cI ad) pf A σ') args s dt (2 * dt) A) (F0 m 176 ls []) := by
  have hx := C.1
  have hb := C.2.1
  have hsz := hl.1
  unfold fX7_hearAll_176 at h
  obtain ⟨v3, ev3⟩ : ∃ y : Int32, y = x1 + 1 := ⟨_, rfl⟩
  have h := bnd_of ev3 h
  refine lv_iinc (v := v3) (lv' := [(1, .int v3), (0, .ref (ad 0))]) hx hb dX7_hearAll_176 hl (k := 1) rfl (by rw [ev3]; rfl) (by decide) rfl (fun ls hl => ?_)
  have hsz := hl.1
  refine lv_goto (tgt := 2) hx hb dX7_hearAll_179 (by decide) ?_
  exact hK2 v3 u pl pa a dz H locs ls (lv_sub hl [1, 0] rfl) S ha hpf h
set_option maxRecDepth 10000 in
set_option maxHeartbeats 4000000 in
theorem wX7_hearAll_170 (C : cx D (tyl cI cB cL) A RX7 cX7_hearAll 10 none p s m args c meth) (hR : 5 ≤ R.frames ∧ 130 ≤ R.locals) {σ' : Sg} {dt pf : Nat} (hC : R.cells = dt ∧ R.slots = 2 * dt) (u : Sg) {K2 : Int32 → Sg → Nat → Option (Sg × Nat)} (hK2 : ∀ (y1 : Int32) (v : Sg) (pl pa a dz : Nat) (H : Heap) (locs : List Loc) (ls : Array Slot), lv_has ls 10 [(0, .ref (ad 0)), (1, .int y1)] → st D (wN cI ad pa pl) A s v H locs → dt = a + dz → pf = pl + dz → K2 y1 v pl = some (σ', dz) → W p l e R s m args below meth c H locs a (2 * a) (MQ below (qVA D cI cB cL (wN cI ad) pf A σ') args s dt (2 * dt) A) (F0 m 2 ls [])) {K12 : Int32 → Int32 → Sg → Nat → Option (Sg × Nat)} (hK12 : ∀ (y1 : Int32) (y2 : Int32) (v : Sg) (pl pa a dz : Nat) (H : Heap) (locs : List Loc) (ls : Array Slot), lv_has ls 10 [(0, .ref (ad 0)), (1, .int y1), (2, .int y2)] → st D (wN cI ad pa pl) A s v H locs → dt = a + dz → pf = pl + dz → K12 y1 y2 v pl = some (σ', dz) → W p l e R s m args below meth c H locs a (2 * a) (MQ below (qVA D cI cB cL (wN cI ad) pf A σ') args s dt (2 * dt) A) (F0 m 12 ls [])) (x1 : Int32) (x2 : Int32) {pl pa a dz : Nat} {H : Heap} {locs : List Loc} {ls : Array Slot} (hl : lv_has ls 10 [(0, .ref (ad 0)), (1, .int x1), (2, .int x2)]) (S : st D (wN cI ad pa pl) A s u H locs) (ha : dt = a + dz) (hpf : pf = pl + dz) (h : fX7_hearAll_170 K2 K12 x1 x2 u pl = some (σ', dz)) : W p l e R s m args below meth c H locs a (2 * a) (MQ below (qVA D cI cB cL (wN cI ad) pf A σ') args s dt (2 * dt) A) (F0 m 170 ls []) := by
  have hx := C.1
  have hb := C.2.1
  have hsz := hl.1
  unfold fX7_hearAll_170 at h
  obtain ⟨v11, ev11⟩ : ∃ y : Int32, y = x2 + 1 := ⟨_, rfl⟩
  have h := bnd_of ev11 h
  refine lv_iinc (v := v11) (lv' := [(2, .int v11), (0, .ref (ad 0)), (1, .int x1)]) hx hb dX7_hearAll_170 hl (k := 2) rfl (by rw [ev11]; rfl) (by decide) rfl (fun ls hl => ?_)
  have hsz := hl.1
  refine lv_goto (tgt := 12) hx hb dX7_hearAll_173 (by decide) ?_
  exact hK12 x1 v11 u pl pa a dz H locs ls (lv_sub hl [1, 2, 0] rfl) S ha hpf h
set_option maxRecDepth 10000 in
set_option maxHeartbeats 4000000 in
theorem wX7_hearAll_135 (C : cx D (tyl cI cB cL) A RX7 cX7_hearAll 10 none p s m args c meth) (hR : 5 ≤ R.frames ∧ 130 ≤ R.locals) {σ' : Sg} {dt pf : Nat} (hC : R.cells = dt ∧ R.slots = 2 * dt) (u : Sg) {K2 : Int32 → Sg → Nat → Option (Sg × Nat)} (hK2 : ∀ (y1 : Int32) (v : Sg) (pl pa a dz : Nat) (H : Heap) (locs : List Loc) (ls : Array Slot), lv_has ls 10 [(0, .ref (ad 0)), (1, .int y1)] → st D (wN cI ad pa pl) A s v H locs → dt = a + dz → pf = pl + dz → K2 y1 v pl = some (σ', dz) → W p l e R s m args below meth c H locs a (2 * a) (MQ below (qVA D cI cB cL (wN cI ad) pf A σ') args s dt (2 * dt) A) (F0 m 2 ls [])) {K12 : Int32 → Int32 → Sg → Nat → Option (Sg × Nat)} (hK12 : ∀ (y1 : Int32) (y2 : Int32) (v : Sg) (pl pa a dz : Nat) (H : Heap) (locs : List Loc) (ls : Array Slot), lv_has ls 10 [(0, .ref (ad 0)), (1, .int y1), (2, .int y2)] → st D (wN cI ad pa pl) A s v H locs → dt = a + dz → pf = pl + dz → K12 y1 y2 v pl = some (σ', dz) → W p l e R s m args below meth c H locs a (2 * a) (MQ below (qVA D cI cB cL (wN cI ad) pf A σ') args s dt (2 * dt) A) (F0 m 12 ls [])) {K45 : Int32 → Int32 → Int32 → Int32 → Sg → Nat → Option (Sg × Nat)} (hK45 : ∀ (y1 : Int32) (y2 : Int32) (y3 : Int32) (y4 : Int32) (v : Sg) (pl pa a dz : Nat) (H : Heap) (locs : List Loc) (ls : Array Slot), lv_has ls 10 [(0, .ref (ad 0)), (1, .int y1), (2, .int y2), (3, .int y3), (4, .int y4)] → st D (wN cI ad pa pl) A s v H locs → dt = a + dz → pf = pl + dz → K45 y1 y2 y3 y4 v pl = some (σ', dz) → W p l e R s m args below meth c H locs a (2 * a) (MQ below (qVA D cI cB cL (wN cI ad) pf A σ') args s dt (2 * dt) A) (F0 m 45 ls [])) (x1 : Int32) (x2 : Int32) (x3 : Int32) (x4 : Int32) (x6 : Int32) (x7 : Int32) (x8 : Int32) (t0 : Int32) {pl pa a dz : Nat} {H : Heap} {locs : List Loc} {ls : Array Slot} (hl : lv_has ls 10 [(0, .ref (ad 0)), (1, .int x1), (2, .int x2), (3, .int x3), (4, .int x4), (6, .int x6), (7, .int x7), (8, .int x8)]) (S : st D (wN cI ad pa pl) A s u H locs) (ha : dt = a + dz) (hpf : pf = pl + dz) (h : fX7_hearAll_135 K2 K12 K45 x1 x2 x3 x4 x6 x7 x8 t0 u pl = some (σ', dz)) : W p l e R s m args below meth c H locs a (2 * a) (MQ below (qVA D cI cB cL (wN cI ad) pf A σ') args s dt (2 * dt) A) (F0 m 135 ls [.int t0]) := by
  have hx := C.1
  have hb := C.2.1
  have hsz := hl.1
  unfold fX7_hearAll_135 at h
  refine lv_istore (lv' := [(9, .int t0), (0, .ref (ad 0)), (1, .int x1), (2, .int x2), (3, .int x3), (4, .int x4), (6, .int x6), (7, .int x7), (8, .int x8)]) hx hb dX7_hearAll_135 hl (by decide) rfl (fun ls hl => ?_)
  have hsz := hl.1
  refine lv_aload_n hx hb dX7_hearAll_137 rfl (lv_at hl 1 rfl) ?_
  refine q_get (v := .ref (ad 5)) C S (oN0 cI ad pa pl) rfl iwX7 13 (by decide) mw_429 rfl dX7_hearAll_138 ?_
  refine lv_iload_n hx hb dX7_hearAll_141 rfl (lv_at hl 4 rfl) ?_
  obtain ⟨u24, h23, h⟩ := obr_some h
  refine q_callVv (As := [.int x3]) (na := 1) C S (oN5 cI ad pa pl) rfl (ct_X1_dropFirst l D cI cB cL ad pa pl x3 u h23) mw_514 mw_402 mw_404 mw_401 mw_400 hdX1_dropFirst ⟨Nat.le_trans (Nat.le_of_ble_eq_true rfl) hR.1, Nat.le_trans (Nat.le_of_ble_eq_true rfl) hR.2⟩ rfl hsz (capA hC ha) (Nat.le_of_ble_eq_true rfl) dX7_hearAll_142 rfl (fun H locs S => ?_)
  refine lv_aload_n hx hb dX7_hearAll_145 rfl (lv_at hl 1 rfl) ?_
  refine lv_iload_n hx hb dX7_hearAll_146 rfl (lv_at hl 3 rfl) ?_
  refine lv_iload_n hx hb dX7_hearAll_147 rfl (lv_at hl 2 rfl) ?_
  refine lv_iload hx hb dX7_hearAll_148 (lv_at hl 6 rfl) ?_
  refine lv_iload hx hb dX7_hearAll_150 (lv_at hl 7 rfl) ?_
  refine lv_iload hx hb dX7_hearAll_152 (lv_at hl 8 rfl) ?_
  refine lv_iload hx hb dX7_hearAll_154 (lv_at hl 0 rfl) ?_
  obtain ⟨u26, d27, h25, h⟩ := obd_some h
  obtain ⟨dz28, h, edz28⟩ := addB_some h
  have ha29 : dt = (a + d27) + dz28 := by omega
  have hpf29 : pf = (pl + d27) + dz28 := by omega
  refine q_callVvA (As := [.int x2, .int x1, .int x6, .int x7, .int x8, .int t0]) (na := 6) C S (oN0 cI ad pa pl) rfl (ct_X7_hear l D cI cB cL ad x2 x1 x6 x7 x8 t0 u24 pl h25) mw_517 mw_516 mw_518 mw_341 mw_515 hdX7_hear ⟨Nat.le_trans (Nat.le_of_ble_eq_true rfl) hR.1, Nat.le_trans (Nat.le_of_ble_eq_true rfl) hR.2⟩ rfl hsz (dz := dz28) hC (by omega) (Nat.le_of_ble_eq_true rfl) dX7_hearAll_156 rfl (fun pa29 H locs S => ?_)
  refine lv_aload_n hx hb dX7_hearAll_159 rfl (lv_at hl 1 rfl) ?_
  refine lv_iconst (v := 1) hx hb dX7_hearAll_160 (by decide) ?_
  obtain ⟨u30, eu30⟩ : ∃ z : Sg, z = s2 u26 0 8 1 := ⟨_, rfl⟩
  have h := bnd_of eu30 h
  refine q_put C S (oN0 cI ad pa29 (pl + d27)) rfl iwX7 tyX7 tyX7_ok nmX7 8 (by decide) mw_519 rfl (iN0_8 cI ad pa29 (pl + d27)) rfl rfl dX7_hearAll_161 eu30 (fun H locs S => ?_)
  obtain ⟨v31, ev31⟩ : ∃ y : Int32, y = x4 + (-1) := ⟨_, rfl⟩
  have h := bnd_of ev31 h
  refine lv_iinc (v := v31) (lv' := [(4, .int v31), (9, .int t0), (0, .ref (ad 0)), (1, .int x1), (2, .int x2), (3, .int x3), (6, .int x6), (7, .int x7), (8, .int x8)]) hx hb dX7_hearAll_164 hl (k := 5) rfl (by rw [ev31]; rfl) (by decide) rfl (fun ls hl => ?_)
  have hsz := hl.1
  refine lv_goto (tgt := 45) hx hb dX7_hearAll_167 (by decide) ?_
  exact hK45 x1 x2 x3 v31 u30 (pl + d27) pa29 (a + d27) dz28 H locs ls (lv_sub hl [2, 3, 4, 5, 0] rfl) S ha29 hpf29 h
set_option maxRecDepth 10000 in
set_option maxHeartbeats 4000000 in
theorem wX7_hearAll_45 (C : cx D (tyl cI cB cL) A RX7 cX7_hearAll 10 none p s m args c meth) (hR : 5 ≤ R.frames ∧ 130 ≤ R.locals) {σ' : Sg} {dt pf : Nat} (hC : R.cells = dt ∧ R.slots = 2 * dt) {K2 : Int32 → Sg → Nat → Option (Sg × Nat)} (hK2 : ∀ (y1 : Int32) (v : Sg) (pl pa a dz : Nat) (H : Heap) (locs : List Loc) (ls : Array Slot), lv_has ls 10 [(0, .ref (ad 0)), (1, .int y1)] → st D (wN cI ad pa pl) A s v H locs → dt = a + dz → pf = pl + dz → K2 y1 v pl = some (σ', dz) → W p l e R s m args below meth c H locs a (2 * a) (MQ below (qVA D cI cB cL (wN cI ad) pf A σ') args s dt (2 * dt) A) (F0 m 2 ls [])) {K12 : Int32 → Int32 → Sg → Nat → Option (Sg × Nat)} (hK12 : ∀ (y1 : Int32) (y2 : Int32) (v : Sg) (pl pa a dz : Nat) (H : Heap) (locs : List Loc) (ls : Array Slot), lv_has ls 10 [(0, .ref (ad 0)), (1, .int y1), (2, .int y2)] → st D (wN cI ad pa pl) A s v H locs → dt = a + dz → pf = pl + dz → K12 y1 y2 v pl = some (σ', dz) → W p l e R s m args below meth c H locs a (2 * a) (MQ below (qVA D cI cB cL (wN cI ad) pf A σ') args s dt (2 * dt) A) (F0 m 12 ls [])) : ∀ (n : Nat) (x1 : Int32) (x2 : Int32) (x3 : Int32) (x4 : Int32) (u : Sg) (pl pa a dz : Nat) (H : Heap) (locs : List Loc) (ls : Array Slot), lv_has ls 10 [(0, .ref (ad 0)), (1, .int x1), (2, .int x2), (3, .int x3), (4, .int x4)] → st D (wN cI ad pa pl) A s u H locs → dt = a + dz → pf = pl + dz → fX7_hearAll_45 K2 K12 n x1 x2 x3 x4 u pl = some (σ', dz) → W p l e R s m args below meth c H locs a (2 * a) (MQ below (qVA D cI cB cL (wN cI ad) pf A σ') args s dt (2 * dt) A) (F0 m 45 ls []) := by
  have hx := C.1
  have hb := C.2.1
  intro n
  induction n with
  | zero =>
    intro x1 x2 x3 x4 u pl pa a dz H locs ls hl S ha hpf h
    cases h
  | succ n ih =>
    intro x1 x2 x3 x4 u pl pa a dz H locs ls hl S ha hpf h
    rw [fX7_hearAll_45] at h
    have hsz := hl.1
    refine lv_iload hx hb dX7_hearAll_45 (lv_at hl 4 rfl) ?_
    refine lv_if_le (tgt := 170) hx hb dX7_hearAll_47 (by decide) (fun c10 => ?_) (fun c10 => ?_)
    · have h := cnd_t c10 h
      exact wX7_hearAll_170 C hR hC u hK2 hK12 x1 x2 (lv_sub hl [0, 1, 2] rfl) S ha hpf h
    · have h := cnd_f c10 h
      refine lv_aload_n hx hb dX7_hearAll_50 rfl (lv_at hl 0 rfl) ?_
      refine q_get (v := .ref (ad 5)) C S (oN0 cI ad pa pl) rfl iwX7 13 (by decide) mw_429 rfl dX7_hearAll_51 ?_
      refine lv_iload_n hx hb dX7_hearAll_54 rfl (lv_at hl 3 rfl) ?_
      refine lv_aload_n hx hb dX7_hearAll_55 rfl (lv_at hl 0 rfl) ?_
      refine q_get (v := .int (u 0 3)) C S (oN0 cI ad pa pl) rfl iwX7 3 (by decide) mw_345 rfl dX7_hearAll_56 ?_
      obtain ⟨r13, h12, h⟩ := obr_some h
      refine q_callVi (As := [.int x3, .int (u 0 3)]) (na := 2) C S (oN5 cI ad pa pl) rfl (ct_X1_openCell l D cI cB cL ad pa pl x3 (u 0 3) u h12) mw_511 mw_510 mw_512 mw_401 mw_509 hdX1_openCell ⟨Nat.le_trans (Nat.le_of_ble_eq_true rfl) hR.1, Nat.le_trans (Nat.le_of_ble_eq_true rfl) hR.2⟩ rfl hsz (capA hC ha) (Nat.le_of_ble_eq_true rfl) dX7_hearAll_59 rfl (fun H locs S => ?_)
      refine lv_istore (lv' := [(5, .int r13), (0, .ref (ad 0)), (1, .int x1), (2, .int x2), (3, .int x3), (4, .int x4)]) hx hb dX7_hearAll_62 hl (by decide) rfl (fun ls hl => ?_)
      have hsz := hl.1
      refine lv_iload hx hb dX7_hearAll_64 (lv_at hl 0 rfl) ?_
      refine lv_iconst (v := (-1)) hx hb dX7_hearAll_66 (by decide) ?_
      refine lv_icmp_ne (tgt := 73) hx hb dX7_hearAll_67 (by decide) (fun c14 => ?_) (fun c14 => ?_)
      · have h := cnd_f c14 h
        refine lv_aload_n hx hb dX7_hearAll_73 rfl (lv_at hl 1 rfl) ?_
        refine q_get (v := .ref (ad 5)) C S (oN0 cI ad pa pl) rfl iwX7 13 (by decide) mw_429 rfl dX7_hearAll_74 ?_
        refine q_get (v := .ref pa) C S (oN5 cI ad pa pl) rfl iwX1 4 (by decide) mw_513 rfl dX7_hearAll_77 ?_
        refine lv_iload hx hb dX7_hearAll_80 (lv_at hl 0 rfl) ?_
        refine lv_iconst (v := 1) hx hb dX7_hearAll_82 (by decide) ?_
        refine lv_iadd hx hb dX7_hearAll_83 ?_
        obtain ⟨g15, h⟩ := grd_some h
        refine q_iald C S (aN10 cI ad pa pl) 0 rfl g15 dX7_hearAll_84 (j := ((r13 + 1) : Int32).toNatClampNeg) rfl ?_
        refine lv_topi (fun v16 ev16 => ?_)
        have h := bnd_of ev16 h
        refine lv_istore (lv' := [(6, .int v16), (5, .int r13), (0, .ref (ad 0)), (1, .int x1), (2, .int x2), (3, .int x3), (4, .int x4)]) hx hb dX7_hearAll_85 hl (by decide) rfl (fun ls hl => ?_)
        have hsz := hl.1
        refine lv_aload_n hx hb dX7_hearAll_87 rfl (lv_at hl 2 rfl) ?_
        refine q_get (v := .ref (ad 5)) C S (oN0 cI ad pa pl) rfl iwX7 13 (by decide) mw_429 rfl dX7_hearAll_88 ?_
        refine q_get (v := .ref pa) C S (oN5 cI ad pa pl) rfl iwX1 4 (by decide) mw_513 rfl dX7_hearAll_91 ?_
        refine lv_iload hx hb dX7_hearAll_94 (lv_at hl 1 rfl) ?_
        refine lv_iconst (v := 2) hx hb dX7_hearAll_96 (by decide) ?_
        refine lv_iadd hx hb dX7_hearAll_97 ?_
        obtain ⟨g17, h⟩ := grd_some h
        refine q_iald C S (aN10 cI ad pa pl) 0 rfl g17 dX7_hearAll_98 (j := ((r13 + 2) : Int32).toNatClampNeg) rfl ?_
        refine lv_topi (fun v18 ev18 => ?_)
        have h := bnd_of ev18 h
        refine lv_istore (lv' := [(7, .int v18), (6, .int v16), (5, .int r13), (0, .ref (ad 0)), (1, .int x1), (2, .int x2), (3, .int x3), (4, .int x4)]) hx hb dX7_hearAll_99 hl (by decide) rfl (fun ls hl => ?_)
        have hsz := hl.1
        refine lv_aload_n hx hb dX7_hearAll_101 rfl (lv_at hl 3 rfl) ?_
        refine q_get (v := .ref (ad 5)) C S (oN0 cI ad pa pl) rfl iwX7 13 (by decide) mw_429 rfl dX7_hearAll_102 ?_
        refine q_get (v := .ref pa) C S (oN5 cI ad pa pl) rfl iwX1 4 (by decide) mw_513 rfl dX7_hearAll_105 ?_
        refine lv_iload hx hb dX7_hearAll_108 (lv_at hl 2 rfl) ?_
        refine lv_iconst (v := 3) hx hb dX7_hearAll_110 (by decide) ?_
        refine lv_iadd hx hb dX7_hearAll_111 ?_
        obtain ⟨g19, h⟩ := grd_some h
        refine q_iald C S (aN10 cI ad pa pl) 0 rfl g19 dX7_hearAll_112 (j := ((r13 + 3) : Int32).toNatClampNeg) rfl ?_
        refine lv_topi (fun v20 ev20 => ?_)
        have h := bnd_of ev20 h
        refine lv_istore (lv' := [(8, .int v20), (7, .int v18), (6, .int v16), (5, .int r13), (0, .ref (ad 0)), (1, .int x1), (2, .int x2), (3, .int x3), (4, .int x4)]) hx hb dX7_hearAll_113 hl (by decide) rfl (fun ls hl => ?_)
        have hsz := hl.1
        refine lv_aload_n hx hb dX7_hearAll_115 rfl (lv_at hl 4 rfl) ?_
        refine q_get (v := .ref (ad 5)) C S (oN0 cI ad pa pl) rfl iwX7 13 (by decide) mw_429 rfl dX7_hearAll_116 ?_
        refine q_get (v := .ref pa) C S (oN5 cI ad pa pl) rfl iwX1 4 (by decide) mw_513 rfl dX7_hearAll_119 ?_
        refine lv_iload hx hb dX7_hearAll_122 (lv_at hl 3 rfl) ?_
        refine lv_iconst (v := 4) hx hb dX7_hearAll_124 (by decide) ?_
        refine lv_iadd hx hb dX7_hearAll_125 ?_
        obtain ⟨g21, h⟩ := grd_some h
        refine q_iald C S (aN10 cI ad pa pl) 0 rfl g21 dX7_hearAll_126 (j := ((r13 + 4) : Int32).toNatClampNeg) rfl ?_
        refine lv_if_eq (tgt := 134) hx hb dX7_hearAll_127 (by decide) (fun c22 => ?_) (fun c22 => ?_)
        · have h := cnd_t c22 h
          refine lv_iconst (v := 0) hx hb dX7_hearAll_134 (by decide) ?_
          exact wX7_hearAll_135 C hR hC u hK2 hK12 ih x1 x2 x3 x4 v16 v18 v20 0 (lv_sub hl [4, 5, 6, 7, 8, 2, 1, 0] rfl) S ha hpf h
        · have h := cnd_f c22 h
          refine lv_iconst (v := 1) hx hb dX7_hearAll_130 (by decide) ?_
          refine lv_goto (tgt := 135) hx hb dX7_hearAll_131 (by decide) ?_
          exact wX7_hearAll_135 C hR hC u hK2 hK12 ih x1 x2 x3 x4 v16 v18 v20 1 (lv_sub hl [4, 5, 6, 7, 8, 2, 1, 0] rfl) S ha hpf h
      · have h := cnd_t c14 h
        refine lv_goto (tgt := 170) hx hb dX7_hearAll_70 (by decide) ?_
        exact wX7_hearAll_170 C hR hC u hK2 hK12 x1 x2 (lv_sub hl [1, 2, 3] rfl) S ha hpf h
set_option maxRecDepth 10000 in
set_option maxHeartbeats 4000000 in
theorem wX7_hearAll_12 (C : cx D (tyl cI cB cL) A RX7 cX7_hearAll 10 none p s m args c meth) (hR : 5 ≤ R.frames ∧ 130 ≤ R.locals) {σ' : Sg} {dt pf : Nat} (hC : R.cells = dt ∧ R.slots = 2 * dt) {K2 : Int32 → Sg → Nat → Option (Sg × Nat)} (hK2 : ∀ (y1 : Int32) (v : Sg) (pl pa a dz : Nat) (H : Heap) (locs : List Loc) (ls : Array Slot), lv_has ls 10 [(0, .ref (ad 0)), (1, .int y1)] → st D (wN cI ad pa pl) A s v H locs → dt = a + dz → pf = pl + dz → K2 y1 v pl = some (σ', dz) → W p l e R s m args below meth c H locs a (2 * a) (MQ below (qVA D cI cB cL (wN cI ad) pf A σ') args s dt (2 * dt) A) (F0 m 2 ls [])) : ∀ (n : Nat) (x1 : Int32) (x2 : Int32) (u : Sg) (pl pa a dz : Nat) (H : Heap) (locs : List Loc) (ls : Array Slot), lv_has ls 10 [(0, .ref (ad 0)), (1, .int x1), (2, .int x2)] → st D (wN cI ad pa pl) A s u H locs → dt = a + dz → pf = pl + dz → fX7_hearAll_12 K2 n x1 x2 u pl = some (σ', dz) → W p l e R s m args below meth c H locs a (2 * a) (MQ below (qVA D cI cB cL (wN cI ad) pf A σ') args s dt (2 * dt) A) (F0 m 12 ls []) := by
  have hx := C.1
  have hb := C.2.1
  intro n
  induction n with
  | zero =>
    intro x1 x2 u pl pa a dz H locs ls hl S ha hpf h
    cases h
  | succ n ih =>
    intro x1 x2 u pl pa a dz H locs ls hl S ha hpf h
    rw [fX7_hearAll_12] at h
    have hsz := hl.1
    refine lv_iload_n hx hb dX7_hearAll_12 rfl (lv_at hl 2 rfl) ?_
    refine lv_aload_n hx hb dX7_hearAll_13 rfl (lv_at hl 0 rfl) ?_
    refine q_get (v := .int (u 0 0)) C S (oN0 cI ad pa pl) rfl iwX7 0 (by decide) mw_347 rfl dX7_hearAll_14 ?_
    refine lv_icmp_ge (tgt := 176) hx hb dX7_hearAll_17 (by decide) (fun c2 => ?_) (fun c2 => ?_)
    · have h := cnd_t c2 h
      exact wX7_hearAll_176 C hR hC u hK2 x1 (lv_sub hl [0, 1] rfl) S ha hpf h
    · have h := cnd_f c2 h
      refine lv_aload_n hx hb dX7_hearAll_20 rfl (lv_at hl 0 rfl) ?_
      refine lv_iload_n hx hb dX7_hearAll_21 rfl (lv_at hl 1 rfl) ?_
      obtain ⟨r5, h4, h⟩ := obr_some h
      refine q_callVi (As := [.int x1]) (na := 1) C S (oN0 cI ad pa pl) rfl (ct_X7_isUp l D cI cB cL ad pa pl x1 u h4) mw_343 mw_342 mw_344 mw_341 mw_340 hdX7_isUp ⟨Nat.le_trans (Nat.le_of_ble_eq_true rfl) hR.1, Nat.le_trans (Nat.le_of_ble_eq_true rfl) hR.2⟩ rfl hsz (capA hC ha) (Nat.le_of_ble_eq_true rfl) dX7_hearAll_22 rfl (fun H locs S => ?_)
      refine lv_if_eq (tgt := 176) hx hb dX7_hearAll_25 (by decide) (fun c6 => ?_) (fun c6 => ?_)
      · have h := cnd_t c6 h
        exact wX7_hearAll_176 C hR hC u hK2 x1 (lv_sub hl [0, 1] rfl) S ha hpf h
      · have h := cnd_f c6 h
        refine lv_iload_n hx hb dX7_hearAll_28 rfl (lv_at hl 2 rfl) ?_
        refine lv_iload_n hx hb dX7_hearAll_29 rfl (lv_at hl 1 rfl) ?_
        refine q_callPN (As := [.int x2, .int x1]) (na := 2) C S (ct_X11_channelOf l D cI cB cL x2 x1) (List.mem_of_getElem? (i := 15) rfl) mw_406 mw_321 mw_405 hdX11_channelOf ⟨Nat.le_trans (Nat.le_of_ble_eq_true rfl) hR.1, Nat.le_trans (Nat.le_of_ble_eq_true rfl) hR.2⟩ rfl hsz (capA hC ha) (Nat.le_of_ble_eq_true rfl) dX7_hearAll_30 rfl (fun H locs S => ?_)
        refine lv_topi (fun v7 ev7 => ?_)
        have h := bnd_of ev7 h
        refine lv_istore_n (lv' := [(3, .int v7), (0, .ref (ad 0)), (1, .int x1), (2, .int x2)]) hx hb dX7_hearAll_33 rfl hl (by decide) rfl (fun ls hl => ?_)
        have hsz := hl.1
        refine lv_aload_n hx hb dX7_hearAll_34 rfl (lv_at hl 1 rfl) ?_
        refine q_get (v := .ref (ad 5)) C S (oN0 cI ad pa pl) rfl iwX7 13 (by decide) mw_429 rfl dX7_hearAll_35 ?_
        refine q_get (v := .ref (ad 9)) C S (oN5 cI ad pa pl) rfl iwX1 3 (by decide) mw_508 rfl dX7_hearAll_38 ?_
        refine lv_iload_n hx hb dX7_hearAll_41 rfl (lv_at hl 0 rfl) ?_
        obtain ⟨g8, h⟩ := grd_some h
        refine q_iald C S (aN9 cI ad pa pl) 0 rfl g8 dX7_hearAll_42 (j := (v7 : Int32).toNatClampNeg) rfl ?_
        refine lv_topi (fun v9 ev9 => ?_)
        have h := bnd_of ev9 h
        refine lv_istore (lv' := [(4, .int v9), (3, .int v7), (0, .ref (ad 0)), (1, .int x1), (2, .int x2)]) hx hb dX7_hearAll_43 hl (by decide) rfl (fun ls hl => ?_)
        have hsz := hl.1
        exact wX7_hearAll_45 C hR hC hK2 ih FU x1 x2 v7 v9 u pl pa a dz H locs ls (lv_sub hl [2, 3, 4, 1, 0] rfl) S ha hpf h
set_option maxRecDepth 10000 in
set_option maxHeartbeats 4000000 in
theorem wX7_hearAll_2 (C : cx D (tyl cI cB cL) A RX7 cX7_hearAll 10 none p s m args c meth) (hR : 5 ≤ R.frames ∧ 130 ≤ R.locals) {σ' : Sg} {dt pf : Nat} (hC : R.cells = dt ∧ R.slots = 2 * dt) : ∀ (n : Nat) (x1 : Int32) (u : Sg) (pl pa a dz : Nat) (H : Heap) (locs : List Loc) (ls : Array Slot), lv_has ls 10 [(0, .ref (ad 0)), (1, .int x1)] → st D (wN cI ad pa pl) A s u H locs → dt = a + dz → pf = pl + dz → fX7_hearAll_2 n x1 u pl = some (σ', dz) → W p l e R s m args below meth c H locs a (2 * a) (MQ below (qVA D cI cB cL (wN cI ad) pf A σ') args s dt (2 * dt) A) (F0 m 2 ls []) := by
  have hx := C.1
  have hb := C.2.1
  intro n
  induction n with
  | zero =>
    intro x1 u pl pa a dz H locs ls hl S ha hpf h
    cases h
  | succ n ih =>
    intro x1 u pl pa a dz H locs ls hl S ha hpf h
    rw [fX7_hearAll_2] at h
    have hsz := hl.1
    refine lv_iload_n hx hb dX7_hearAll_2 rfl (lv_at hl 1 rfl) ?_
    refine lv_aload_n hx hb dX7_hearAll_3 rfl (lv_at hl 0 rfl) ?_
    refine q_get (v := .int (u 0 0)) C S (oN0 cI ad pa pl) rfl iwX7 0 (by decide) mw_347 rfl dX7_hearAll_4 ?_
    refine lv_icmp_ge (tgt := 182) hx hb dX7_hearAll_7 (by decide) (fun c1 => ?_) (fun c1 => ?_)
    · have h := cnd_t c1 h
      exact q_vretA C S h ha hpf dX7_hearAll_182
    · have h := cnd_f c1 h
      refine lv_iconst (v := 0) hx hb dX7_hearAll_10 (by decide) ?_
      refine lv_istore_n (lv' := [(2, .int 0), (0, .ref (ad 0)), (1, .int x1)]) hx hb dX7_hearAll_11 rfl hl (by decide) rfl (fun ls hl => ?_)
      have hsz := hl.1
      exact wX7_hearAll_12 C hR hC ih FU x1 0 u pl pa a dz H locs ls (lv_sub hl [1, 2, 0] rfl) S ha hpf h
set_option maxRecDepth 10000 in
set_option maxHeartbeats 4000000 in
theorem wX7_hearAll_0 (C : cx D (tyl cI cB cL) A RX7 cX7_hearAll 10 none p s m args c meth) (hR : 5 ≤ R.frames ∧ 130 ≤ R.locals) {σ' : Sg} {dt pf : Nat} (hC : R.cells = dt ∧ R.slots = 2 * dt) (u : Sg) {pl pa a dz : Nat} {H : Heap} {locs : List Loc} {ls : Array Slot} (hl : lv_has ls 10 [(0, .ref (ad 0))]) (S : st D (wN cI ad pa pl) A s u H locs) (ha : dt = a + dz) (hpf : pf = pl + dz) (h : fX7_hearAll_0 u pl = some (σ', dz)) : W p l e R s m args below meth c H locs a (2 * a) (MQ below (qVA D cI cB cL (wN cI ad) pf A σ') args s dt (2 * dt) A) (F0 m 0 ls []) := by
  have hx := C.1
  have hb := C.2.1
  have hsz := hl.1
  unfold fX7_hearAll_0 at h
  refine lv_iconst (v := 0) hx hb dX7_hearAll_0 (by decide) ?_
  refine lv_istore_n (lv' := [(1, .int 0), (0, .ref (ad 0))]) hx hb dX7_hearAll_1 rfl hl (by decide) rfl (fun ls hl => ?_)
  have hsz := hl.1
  exact wX7_hearAll_2 C hR hC FU 0 u pl pa a dz H locs ls (lv_sub hl [1, 0] rfl) S ha hpf h
set_option maxRecDepth 10000 in
set_option maxHeartbeats 4000000 in
theorem ct_X7_hearAll (l : Launch) (D : va_G) (cI cB cL : ClassId) (ad : Nat → Nat) (u : Sg) (pl : Nat) {σ' : Sg} {dz : Nat} (h : fX7_hearAll u pl = some (σ', dz)) : metVA l D cI cB cL yX7_hearAll cX7_hearAll 10 5 130 (wN cI ad) [.ref (ad 0)] u pl σ' dz := by
  intro pa sz
  refine Met.ofW (cc := cX7_hearAll) (maxL := 10) (ret := none) (by decide) rfl ?_
  intro p e s m args below meth c s₁ B hml hv
  obtain ⟨rfl, C, S⟩ := q_entryA B hml hv
  have hl := lv_entry ([.ref (ad 0)]) (n := 10) (Nat.le_of_ble_eq_true rfl)
  rw [lg_entry_eq]
  generalize (lg_sl ([.ref (ad 0)]) ++ List.replicate (10 - (lg_sl ([.ref (ad 0)])).length) Slot.unset).toArray = ls at hl ⊢
  exact wX7_hearAll_0 C ⟨Nat.le_refl _, Nat.le_refl _⟩ ⟨rfl, rfl⟩ u (lv_sub hl [0] rfl) S (Nat.zero_add _).symm rfl h
end S_27_a00
