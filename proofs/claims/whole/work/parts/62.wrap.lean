theorem cst_0 : ∀ w ∈ [Cond.castable "java/lang/IndexOutOfBoundsException" "java/lang/IndexOutOfBoundsException"], w ∈ lw_tbl := by decide +kernel
theorem cst_0a : [Cond.castable "java/lang/IndexOutOfBoundsException" "java/lang/IndexOutOfBoundsException"].all (fun w => goodWord w || (w.onTables && w.faceAtom)) = true := by decide +kernel
theorem cst_1 : ∀ w ∈ [Cond.castable "java/util/NoSuchElementException" "java/util/NoSuchElementException"], w ∈ lw_tbl := by decide +kernel
theorem cst_1a : [Cond.castable "java/util/NoSuchElementException" "java/util/NoSuchElementException"].all (fun w => goodWord w || (w.onTables && w.faceAtom)) = true := by decide +kernel
theorem cst_2 : ∀ w ∈ [Cond.castable "java/lang/IllegalStateException" "java/lang/IllegalStateException"], w ∈ lw_tbl := by decide +kernel
theorem cst_2a : [Cond.castable "java/lang/IllegalStateException" "java/lang/IllegalStateException"].all (fun w => goodWord w || (w.onTables && w.faceAtom)) = true := by decide +kernel
theorem cst_3 : ∀ w ∈ [Cond.castable "java/lang/IllegalArgumentException" "java/lang/IllegalArgumentException"], w ∈ lw_tbl := by decide +kernel
theorem cst_3a : [Cond.castable "java/lang/IllegalArgumentException" "java/lang/IllegalArgumentException"].all (fun w => goodWord w || (w.onTables && w.faceAtom)) = true := by decide +kernel
theorem cst_4 : ∀ w ∈ [Cond.castable "java/lang/UnsupportedOperationException" "java/lang/UnsupportedOperationException"], w ∈ lw_tbl := by decide +kernel
theorem cst_4a : [Cond.castable "java/lang/UnsupportedOperationException" "java/lang/UnsupportedOperationException"].all (fun w => goodWord w || (w.onTables && w.faceAtom)) = true := by decide +kernel
theorem mw_985 : Cond.methodLink RL 7 yX11_net ∈ gw := gw_t3 72 rfl rfl
theorem mw_986 : Cond.instanceMethod yX11_net ∈ gw := gw_t3 73 rfl rfl
theorem mw_987 : Cond.selects RX11 yX11_net yX11_net ∈ gw := gw_t3 74 rfl rfl
theorem mw_988 : Cond.code yX11_net cX11_net 2 (some .int) ∈ gw := gw_t3 75 rfl rfl
theorem mw_989 : Cond.classLink RL 13 "java/lang/IllegalArgumentException" ∈ gw := gw_t3 70 rfl rfl
theorem mw_990 : Cond.classLink RL 15 "java/lang/UnsupportedOperationException" ∈ gw := gw_t3 71 rfl rfl
theorem mw_991 : Cond.methodLink RL 17 yX11_node ∈ gw := gw_t4 34 rfl rfl
theorem mw_992 : Cond.instanceMethod yX11_node ∈ gw := gw_t4 35 rfl rfl
theorem mw_993 : Cond.selects RX11 yX11_node yX11_node ∈ gw := gw_t4 36 rfl rfl
theorem mw_994 : Cond.code yX11_node cX11_node 3 (some .int) ∈ gw := gw_t4 37 rfl rfl
theorem mw_995 : Cond.classLink RL 21 "java/lang/IndexOutOfBoundsException" ∈ gw := gw_t4 32 rfl rfl
theorem mw_996 : Cond.classLink RL 23 "java/util/NoSuchElementException" ∈ gw := gw_t4 33 rfl rfl
theorem mw_997 : Cond.methodLink RL 25 yX11_group ∈ gw := gw_t4 93 rfl rfl
theorem mw_998 : Cond.instanceMethod yX11_group ∈ gw := gw_t4 94 rfl rfl
theorem mw_999 : Cond.selects RX11 yX11_group yX11_group ∈ gw := gw_t4 95 rfl rfl
theorem mw_1000 : Cond.code yX11_group cX11_group 2 (some .int) ∈ gw := gw_t4 96 rfl rfl
theorem mw_1001 : Cond.methodLink RL 29 yX11_message ∈ gw := gw_t4 105 rfl rfl
theorem mw_1002 : Cond.instanceMethod yX11_message ∈ gw := gw_t4 106 rfl rfl
theorem mw_1003 : Cond.selects RX11 yX11_message yX11_message ∈ gw := gw_t4 107 rfl rfl
theorem mw_1004 : Cond.code yX11_message cX11_message 3 (some .int) ∈ gw := gw_t4 108 rfl rfl
theorem mw_1005 : Cond.methodLink RL 32 yX11_has ∈ gw := gw_t4 126 rfl rfl
theorem mw_1006 : Cond.instanceMethod yX11_has ∈ gw := gw_t4 127 rfl rfl
theorem mw_1007 : Cond.selects RX11 yX11_has yX11_has ∈ gw := gw_t4 128 rfl rfl
theorem mw_1008 : Cond.code yX11_has cX11_has 7 (some .int) ∈ gw := gw_t4 129 rfl rfl
theorem mw_1009 : Cond.methodLink RL 36 yX11_delivered ∈ gw := gw_t4 144 rfl rfl
theorem mw_1010 : Cond.instanceMethod yX11_delivered ∈ gw := gw_t4 145 rfl rfl
theorem mw_1011 : Cond.selects RX11 yX11_delivered yX11_delivered ∈ gw := gw_t4 146 rfl rfl
theorem mw_1012 : Cond.code yX11_delivered cX11_delivered 3 (some .int) ∈ gw := gw_t4 147 rfl rfl
theorem mw_1013 : Cond.methodLink RL 39 yX11_channel ∈ gw := gw_t4 151 rfl rfl
theorem mw_1014 : Cond.instanceMethod yX11_channel ∈ gw := gw_t4 152 rfl rfl
theorem mw_1015 : Cond.selects RX11 yX11_channel yX11_channel ∈ gw := gw_t4 153 rfl rfl
theorem mw_1016 : Cond.code yX11_channel cX11_channel 5 (some .int) ∈ gw := gw_t4 154 rfl rfl
theorem mw_1017 : Cond.methodLink RL 42 yX11_packet ∈ gw := gw_t4 160 rfl rfl
theorem mw_1018 : Cond.instanceMethod yX11_packet ∈ gw := gw_t4 161 rfl rfl
theorem mw_1019 : Cond.selects RX11 yX11_packet yX11_packet ∈ gw := gw_t4 162 rfl rfl
theorem mw_1020 : Cond.code yX11_packet cX11_packet 7 (some .int) ∈ gw := gw_t4 163 rfl rfl
theorem mw_1021 : Cond.methodLink RL 46 yX11_gather ∈ gw := gw_t4 174 rfl rfl
theorem mw_1022 : Cond.instanceMethod yX11_gather ∈ gw := gw_t4 175 rfl rfl
theorem mw_1023 : Cond.selects RX11 yX11_gather yX11_gather ∈ gw := gw_t4 176 rfl rfl
theorem mw_1024 : Cond.code yX11_gather cX11_gather 5 (some .int) ∈ gw := gw_t4 177 rfl rfl
theorem mw_1025 : Cond.classLink RL 49 "java/lang/IllegalStateException" ∈ gw := gw_t4 173 rfl rfl
theorem mw_1026 : Cond.methodLink RL 51 yX11_ticks ∈ gw := gw_t4 199 rfl rfl
theorem mw_1027 : Cond.instanceMethod yX11_ticks ∈ gw := gw_t4 200 rfl rfl
theorem mw_1028 : Cond.selects RX11 yX11_ticks yX11_ticks ∈ gw := gw_t4 201 rfl rfl
theorem mw_1029 : Cond.code yX11_ticks cX11_ticks 4 (some .int) ∈ gw := gw_t4 202 rfl rfl
theorem mw_1030 : Cond.methodLink RL 54 yX11_send ∈ gw := gw_t5 132 rfl rfl
theorem mw_1031 : Cond.instanceMethod yX11_send ∈ gw := gw_t5 133 rfl rfl
theorem mw_1032 : Cond.selects RX11 yX11_send yX11_send ∈ gw := gw_t5 134 rfl rfl
theorem mw_1033 : Cond.code yX11_send cX11_send 3 (some .int) ∈ gw := gw_t5 135 rfl rfl
theorem mw_1034 : Cond.methodLink RL 57 yX11_crash ∈ gw := gw_t5 142 rfl rfl
theorem mw_1035 : Cond.instanceMethod yX11_crash ∈ gw := gw_t5 143 rfl rfl
theorem mw_1036 : Cond.selects RX11 yX11_crash yX11_crash ∈ gw := gw_t5 144 rfl rfl
theorem mw_1037 : Cond.code yX11_crash cX11_crash 2 none ∈ gw := gw_t5 145 rfl rfl
theorem mw_1038 : Cond.methodLink RL 61 yX11_hold ∈ gw := gw_t5 151 rfl rfl
theorem mw_1039 : Cond.instanceMethod yX11_hold ∈ gw := gw_t5 152 rfl rfl
theorem mw_1040 : Cond.selects RX11 yX11_hold yX11_hold ∈ gw := gw_t5 153 rfl rfl
theorem mw_1041 : Cond.code yX11_hold cX11_hold 7 (some .boolean) ∈ gw := gw_t5 154 rfl rfl
theorem mw_1042 : Cond.methodLink RL 65 yX11_due ∈ gw := gw_t5 158 rfl rfl
theorem mw_1043 : Cond.instanceMethod yX11_due ∈ gw := gw_t5 159 rfl rfl
theorem mw_1044 : Cond.selects RX11 yX11_due yX11_due ∈ gw := gw_t5 160 rfl rfl
theorem mw_1045 : Cond.code yX11_due cX11_due 6 (some .int) ∈ gw := gw_t5 161 rfl rfl
theorem mw_1046 : Cond.methodLink RL 68 yX11_block ∈ gw := gw_t5 180 rfl rfl
theorem mw_1047 : Cond.instanceMethod yX11_block ∈ gw := gw_t5 181 rfl rfl
theorem mw_1048 : Cond.selects RX11 yX11_block yX11_block ∈ gw := gw_t5 182 rfl rfl
theorem mw_1049 : Cond.code yX11_block cX11_block 3 (some .int) ∈ gw := gw_t5 183 rfl rfl
theorem mw_1050 : Cond.methodLink RL 71 yX11_waits ∈ gw := gw_t5 191 rfl rfl
theorem mw_1051 : Cond.instanceMethod yX11_waits ∈ gw := gw_t5 192 rfl rfl
theorem mw_1052 : Cond.selects RX11 yX11_waits yX11_waits ∈ gw := gw_t5 193 rfl rfl
theorem mw_1053 : Cond.code yX11_waits cX11_waits 2 (some .int) ∈ gw := gw_t5 194 rfl rfl
theorem mw_1054 : Cond.methodLink RL 74 yX11_ahead ∈ gw := gw_t5 203 rfl rfl
theorem mw_1055 : Cond.instanceMethod yX11_ahead ∈ gw := gw_t5 204 rfl rfl
theorem mw_1056 : Cond.selects RX11 yX11_ahead yX11_ahead ∈ gw := gw_t5 205 rfl rfl
theorem mw_1057 : Cond.code yX11_ahead cX11_ahead 3 (some .boolean) ∈ gw := gw_t5 206 rfl rfl
theorem mw_1058 : Cond.methodLink RL 78 yX11_after ∈ gw := gw_t5 215 rfl rfl
theorem mw_1059 : Cond.instanceMethod yX11_after ∈ gw := gw_t5 216 rfl rfl
theorem mw_1060 : Cond.selects RX11 yX11_after yX11_after ∈ gw := gw_t5 217 rfl rfl
theorem mw_1061 : Cond.code yX11_after cX11_after 3 (some .int) ∈ gw := gw_t5 218 rfl rfl
theorem mw_1062 : Cond.methodLink RL 81 yX11_outside ∈ gw := gw_t5 228 rfl rfl
theorem mw_1063 : Cond.instanceMethod yX11_outside ∈ gw := gw_t5 229 rfl rfl
theorem mw_1064 : Cond.selects RX11 yX11_outside yX11_outside ∈ gw := gw_t5 230 rfl rfl
theorem mw_1065 : Cond.code yX11_outside cX11_outside 3 (some .int) ∈ gw := gw_t5 231 rfl rfl
theorem mw_1066 : Cond.methodLink RL 84 yX11_parted ∈ gw := gw_t5 235 rfl rfl
theorem mw_1067 : Cond.instanceMethod yX11_parted ∈ gw := gw_t5 236 rfl rfl
theorem mw_1068 : Cond.selects RX11 yX11_parted yX11_parted ∈ gw := gw_t5 237 rfl rfl
theorem mw_1069 : Cond.code yX11_parted cX11_parted 3 (some .int) ∈ gw := gw_t5 238 rfl rfl
theorem mw_1070 : Cond.methodLink RL 87 yX11_when ∈ gw := gw_t6 9 rfl rfl
theorem mw_1071 : Cond.instanceMethod yX11_when ∈ gw := gw_t6 10 rfl rfl
theorem mw_1072 : Cond.selects RX11 yX11_when yX11_when ∈ gw := gw_t6 11 rfl rfl
theorem mw_1073 : Cond.code yX11_when cX11_when 4 (some .int) ∈ gw := gw_t6 12 rfl rfl
theorem mw_1074 : Cond.methodLink RL 90 yX11_chain ∈ gw := gw_t6 16 rfl rfl
theorem mw_1075 : Cond.instanceMethod yX11_chain ∈ gw := gw_t6 17 rfl rfl
theorem mw_1076 : Cond.selects RX11 yX11_chain yX11_chain ∈ gw := gw_t6 18 rfl rfl
theorem mw_1077 : Cond.code yX11_chain cX11_chain 4 (some .int) ∈ gw := gw_t6 19 rfl rfl
theorem mw_1078 : Cond.methodLink RL 93 yX11_late ∈ gw := gw_t6 31 rfl rfl
theorem mw_1079 : Cond.instanceMethod yX11_late ∈ gw := gw_t6 32 rfl rfl
theorem mw_1080 : Cond.selects RX11 yX11_late yX11_late ∈ gw := gw_t6 33 rfl rfl
theorem mw_1081 : Cond.code yX11_late cX11_late 2 (some .int) ∈ gw := gw_t6 34 rfl rfl
theorem mw_1082 : Cond.methodLink RL 96 yX11_first ∈ gw := gw_t6 38 rfl rfl
theorem mw_1083 : Cond.instanceMethod yX11_first ∈ gw := gw_t6 39 rfl rfl
theorem mw_1084 : Cond.selects RX11 yX11_first yX11_first ∈ gw := gw_t6 40 rfl rfl
theorem mw_1085 : Cond.code yX11_first cX11_first 3 (some .int) ∈ gw := gw_t6 41 rfl rfl
theorem mw_1086 : Cond.methodLink RL 99 yX11_lag ∈ gw := gw_t6 48 rfl rfl
theorem mw_1087 : Cond.instanceMethod yX11_lag ∈ gw := gw_t6 49 rfl rfl
theorem mw_1088 : Cond.selects RX11 yX11_lag yX11_lag ∈ gw := gw_t6 50 rfl rfl
theorem mw_1089 : Cond.code yX11_lag cX11_lag 2 (some .int) ∈ gw := gw_t6 51 rfl rfl
theorem mw_1090 : Cond.methodLink RL 102 yX11_takes ∈ gw := gw_t6 60 rfl rfl
theorem mw_1091 : Cond.instanceMethod yX11_takes ∈ gw := gw_t6 61 rfl rfl
theorem mw_1092 : Cond.selects RX11 yX11_takes yX11_takes ∈ gw := gw_t6 62 rfl rfl
theorem mw_1093 : Cond.code yX11_takes cX11_takes 2 (some .int) ∈ gw := gw_t6 63 rfl rfl
theorem mw_1094 : Cond.methodLink RL 105 yX11_knot ∈ gw := gw_t6 67 rfl rfl
theorem mw_1095 : Cond.instanceMethod yX11_knot ∈ gw := gw_t6 68 rfl rfl
theorem mw_1096 : Cond.selects RX11 yX11_knot yX11_knot ∈ gw := gw_t6 69 rfl rfl
theorem mw_1097 : Cond.code yX11_knot cX11_knot 3 (some .int) ∈ gw := gw_t6 70 rfl rfl
theorem mw_1098 : Cond.methodLink RL 108 yX11_spared ∈ gw := gw_t6 74 rfl rfl
theorem mw_1099 : Cond.instanceMethod yX11_spared ∈ gw := gw_t6 75 rfl rfl
theorem mw_1100 : Cond.selects RX11 yX11_spared yX11_spared ∈ gw := gw_t6 76 rfl rfl
theorem mw_1101 : Cond.code yX11_spared cX11_spared 2 (some .int) ∈ gw := gw_t6 77 rfl rfl
theorem mw_1102 : Cond.methodLink RL 111 yX11_those ∈ gw := gw_t6 81 rfl rfl
theorem mw_1103 : Cond.instanceMethod yX11_those ∈ gw := gw_t6 82 rfl rfl
theorem mw_1104 : Cond.selects RX11 yX11_those yX11_those ∈ gw := gw_t6 83 rfl rfl
theorem mw_1105 : Cond.code yX11_those cX11_those 3 (some .int) ∈ gw := gw_t6 84 rfl rfl
theorem mw_1106 : Cond.methodLink RL 114 yX11_event ∈ gw := gw_t6 88 rfl rfl
theorem mw_1107 : Cond.instanceMethod yX11_event ∈ gw := gw_t6 89 rfl rfl
theorem mw_1108 : Cond.selects RX11 yX11_event yX11_event ∈ gw := gw_t6 90 rfl rfl
theorem mw_1109 : Cond.code yX11_event cX11_event 3 (some .int) ∈ gw := gw_t6 91 rfl rfl
theorem mw_1110 : Cond.methodLink RL 117 yX11_log ∈ gw := gw_t6 98 rfl rfl
theorem mw_1111 : Cond.instanceMethod yX11_log ∈ gw := gw_t6 99 rfl rfl
theorem mw_1112 : Cond.selects RX11 yX11_log yX11_log ∈ gw := gw_t6 100 rfl rfl
theorem mw_1113 : Cond.code yX11_log cX11_log 3 (some .int) ∈ gw := gw_t6 101 rfl rfl
theorem hdX11_after : yX11_after.cls = RX11 ∧ yX11_after.cls ≠ "java/lang/invoke/MethodHandle" ∧ yX11_after.cls ≠ "java/lang/invoke/VarHandle" ∧ (parseMethodDescriptor yX11_after.desc).map (fun d => d.parameters.length) = some 2 := by decide +kernel
theorem hdX11_ahead : yX11_ahead.cls = RX11 ∧ yX11_ahead.cls ≠ "java/lang/invoke/MethodHandle" ∧ yX11_ahead.cls ≠ "java/lang/invoke/VarHandle" ∧ (parseMethodDescriptor yX11_ahead.desc).map (fun d => d.parameters.length) = some 2 := by decide +kernel
theorem hdX11_block : yX11_block.cls = RX11 ∧ yX11_block.cls ≠ "java/lang/invoke/MethodHandle" ∧ yX11_block.cls ≠ "java/lang/invoke/VarHandle" ∧ (parseMethodDescriptor yX11_block.desc).map (fun d => d.parameters.length) = some 2 := by decide +kernel
theorem hdX11_chain : yX11_chain.cls = RX11 ∧ yX11_chain.cls ≠ "java/lang/invoke/MethodHandle" ∧ yX11_chain.cls ≠ "java/lang/invoke/VarHandle" ∧ (parseMethodDescriptor yX11_chain.desc).map (fun d => d.parameters.length) = some 3 := by decide +kernel
theorem hdX11_channel : yX11_channel.cls = RX11 ∧ yX11_channel.cls ≠ "java/lang/invoke/MethodHandle" ∧ yX11_channel.cls ≠ "java/lang/invoke/VarHandle" ∧ (parseMethodDescriptor yX11_channel.desc).map (fun d => d.parameters.length) = some 3 := by decide +kernel
theorem hdX11_crash : yX11_crash.cls = RX11 ∧ yX11_crash.cls ≠ "java/lang/invoke/MethodHandle" ∧ yX11_crash.cls ≠ "java/lang/invoke/VarHandle" ∧ (parseMethodDescriptor yX11_crash.desc).map (fun d => d.parameters.length) = some 1 := by decide +kernel
theorem hdX11_delivered : yX11_delivered.cls = RX11 ∧ yX11_delivered.cls ≠ "java/lang/invoke/MethodHandle" ∧ yX11_delivered.cls ≠ "java/lang/invoke/VarHandle" ∧ (parseMethodDescriptor yX11_delivered.desc).map (fun d => d.parameters.length) = some 2 := by decide +kernel
theorem hdX11_due : yX11_due.cls = RX11 ∧ yX11_due.cls ≠ "java/lang/invoke/MethodHandle" ∧ yX11_due.cls ≠ "java/lang/invoke/VarHandle" ∧ (parseMethodDescriptor yX11_due.desc).map (fun d => d.parameters.length) = some 2 := by decide +kernel
theorem hdX11_event : yX11_event.cls = RX11 ∧ yX11_event.cls ≠ "java/lang/invoke/MethodHandle" ∧ yX11_event.cls ≠ "java/lang/invoke/VarHandle" ∧ (parseMethodDescriptor yX11_event.desc).map (fun d => d.parameters.length) = some 2 := by decide +kernel
theorem hdX11_first : yX11_first.cls = RX11 ∧ yX11_first.cls ≠ "java/lang/invoke/MethodHandle" ∧ yX11_first.cls ≠ "java/lang/invoke/VarHandle" ∧ (parseMethodDescriptor yX11_first.desc).map (fun d => d.parameters.length) = some 2 := by decide +kernel
theorem hdX11_gather : yX11_gather.cls = RX11 ∧ yX11_gather.cls ≠ "java/lang/invoke/MethodHandle" ∧ yX11_gather.cls ≠ "java/lang/invoke/VarHandle" ∧ (parseMethodDescriptor yX11_gather.desc).map (fun d => d.parameters.length) = some 3 := by decide +kernel
theorem hdX11_group : yX11_group.cls = RX11 ∧ yX11_group.cls ≠ "java/lang/invoke/MethodHandle" ∧ yX11_group.cls ≠ "java/lang/invoke/VarHandle" ∧ (parseMethodDescriptor yX11_group.desc).map (fun d => d.parameters.length) = some 1 := by decide +kernel
theorem hdX11_has : yX11_has.cls = RX11 ∧ yX11_has.cls ≠ "java/lang/invoke/MethodHandle" ∧ yX11_has.cls ≠ "java/lang/invoke/VarHandle" ∧ (parseMethodDescriptor yX11_has.desc).map (fun d => d.parameters.length) = some 3 := by decide +kernel
theorem hdX11_hold : yX11_hold.cls = RX11 ∧ yX11_hold.cls ≠ "java/lang/invoke/MethodHandle" ∧ yX11_hold.cls ≠ "java/lang/invoke/VarHandle" ∧ (parseMethodDescriptor yX11_hold.desc).map (fun d => d.parameters.length) = some 3 := by decide +kernel
theorem hdX11_knot : yX11_knot.cls = RX11 ∧ yX11_knot.cls ≠ "java/lang/invoke/MethodHandle" ∧ yX11_knot.cls ≠ "java/lang/invoke/VarHandle" ∧ (parseMethodDescriptor yX11_knot.desc).map (fun d => d.parameters.length) = some 2 := by decide +kernel
theorem hdX11_lag : yX11_lag.cls = RX11 ∧ yX11_lag.cls ≠ "java/lang/invoke/MethodHandle" ∧ yX11_lag.cls ≠ "java/lang/invoke/VarHandle" ∧ (parseMethodDescriptor yX11_lag.desc).map (fun d => d.parameters.length) = some 1 := by decide +kernel
theorem hdX11_late : yX11_late.cls = RX11 ∧ yX11_late.cls ≠ "java/lang/invoke/MethodHandle" ∧ yX11_late.cls ≠ "java/lang/invoke/VarHandle" ∧ (parseMethodDescriptor yX11_late.desc).map (fun d => d.parameters.length) = some 1 := by decide +kernel
theorem hdX11_log : yX11_log.cls = RX11 ∧ yX11_log.cls ≠ "java/lang/invoke/MethodHandle" ∧ yX11_log.cls ≠ "java/lang/invoke/VarHandle" ∧ (parseMethodDescriptor yX11_log.desc).map (fun d => d.parameters.length) = some 2 := by decide +kernel
theorem hdX11_message : yX11_message.cls = RX11 ∧ yX11_message.cls ≠ "java/lang/invoke/MethodHandle" ∧ yX11_message.cls ≠ "java/lang/invoke/VarHandle" ∧ (parseMethodDescriptor yX11_message.desc).map (fun d => d.parameters.length) = some 2 := by decide +kernel
theorem hdX11_net : yX11_net.cls = RX11 ∧ yX11_net.cls ≠ "java/lang/invoke/MethodHandle" ∧ yX11_net.cls ≠ "java/lang/invoke/VarHandle" ∧ (parseMethodDescriptor yX11_net.desc).map (fun d => d.parameters.length) = some 0 := by decide +kernel
theorem hdX11_node : yX11_node.cls = RX11 ∧ yX11_node.cls ≠ "java/lang/invoke/MethodHandle" ∧ yX11_node.cls ≠ "java/lang/invoke/VarHandle" ∧ (parseMethodDescriptor yX11_node.desc).map (fun d => d.parameters.length) = some 2 := by decide +kernel
theorem hdX11_outside : yX11_outside.cls = RX11 ∧ yX11_outside.cls ≠ "java/lang/invoke/MethodHandle" ∧ yX11_outside.cls ≠ "java/lang/invoke/VarHandle" ∧ (parseMethodDescriptor yX11_outside.desc).map (fun d => d.parameters.length) = some 1 := by decide +kernel
theorem hdX11_packet : yX11_packet.cls = RX11 ∧ yX11_packet.cls ≠ "java/lang/invoke/MethodHandle" ∧ yX11_packet.cls ≠ "java/lang/invoke/VarHandle" ∧ (parseMethodDescriptor yX11_packet.desc).map (fun d => d.parameters.length) = some 4 := by decide +kernel
theorem hdX11_parted : yX11_parted.cls = RX11 ∧ yX11_parted.cls ≠ "java/lang/invoke/MethodHandle" ∧ yX11_parted.cls ≠ "java/lang/invoke/VarHandle" ∧ (parseMethodDescriptor yX11_parted.desc).map (fun d => d.parameters.length) = some 2 := by decide +kernel
theorem hdX11_send : yX11_send.cls = RX11 ∧ yX11_send.cls ≠ "java/lang/invoke/MethodHandle" ∧ yX11_send.cls ≠ "java/lang/invoke/VarHandle" ∧ (parseMethodDescriptor yX11_send.desc).map (fun d => d.parameters.length) = some 2 := by decide +kernel
theorem hdX11_spared : yX11_spared.cls = RX11 ∧ yX11_spared.cls ≠ "java/lang/invoke/MethodHandle" ∧ yX11_spared.cls ≠ "java/lang/invoke/VarHandle" ∧ (parseMethodDescriptor yX11_spared.desc).map (fun d => d.parameters.length) = some 1 := by decide +kernel
theorem hdX11_takes : yX11_takes.cls = RX11 ∧ yX11_takes.cls ≠ "java/lang/invoke/MethodHandle" ∧ yX11_takes.cls ≠ "java/lang/invoke/VarHandle" ∧ (parseMethodDescriptor yX11_takes.desc).map (fun d => d.parameters.length) = some 1 := by decide +kernel
theorem hdX11_those : yX11_those.cls = RX11 ∧ yX11_those.cls ≠ "java/lang/invoke/MethodHandle" ∧ yX11_those.cls ≠ "java/lang/invoke/VarHandle" ∧ (parseMethodDescriptor yX11_those.desc).map (fun d => d.parameters.length) = some 2 := by decide +kernel
theorem hdX11_ticks : yX11_ticks.cls = RX11 ∧ yX11_ticks.cls ≠ "java/lang/invoke/MethodHandle" ∧ yX11_ticks.cls ≠ "java/lang/invoke/VarHandle" ∧ (parseMethodDescriptor yX11_ticks.desc).map (fun d => d.parameters.length) = some 1 := by decide +kernel
theorem hdX11_waits : yX11_waits.cls = RX11 ∧ yX11_waits.cls ≠ "java/lang/invoke/MethodHandle" ∧ yX11_waits.cls ≠ "java/lang/invoke/VarHandle" ∧ (parseMethodDescriptor yX11_waits.desc).map (fun d => d.parameters.length) = some 1 := by decide +kernel
theorem hdX11_when : yX11_when.cls = RX11 ∧ yX11_when.cls ≠ "java/lang/invoke/MethodHandle" ∧ yX11_when.cls ≠ "java/lang/invoke/VarHandle" ∧ (parseMethodDescriptor yX11_when.desc).map (fun d => d.parameters.length) = some 2 := by decide +kernel
theorem dL_net_0 : decode cL_net 0 = .ok (.aload_n 1, 1) := by decide +kernel
theorem dL_net_1 : decode cL_net 1 = .ok (.iconst 0, 1) := by decide +kernel
theorem dL_net_2 : decode cL_net 2 = .ok (.aload_n 0, 1) := by decide +kernel
theorem dL_net_3 : decode cL_net 3 = .ok (.invokevirtual 7, 3) := by decide +kernel
theorem dL_net_6 : decode cL_net 6 = .ok (.i2l, 1) := by decide +kernel
theorem dL_net_7 : decode cL_net 7 = .ok (.lastore, 1) := by decide +kernel
theorem dL_net_8 : decode cL_net 8 = .ok (.goto 9, 3) := by decide +kernel
theorem dL_net_11 : decode cL_net 11 = .ok (.astore_n 2, 1) := by decide +kernel
theorem dL_net_12 : decode cL_net 12 = .ok (.iconst 1, 1) := by decide +kernel
theorem dL_net_13 : decode cL_net 13 = .ok (.ireturn, 1) := by decide +kernel
theorem dL_net_14 : decode cL_net 14 = .ok (.astore_n 2, 1) := by decide +kernel
theorem dL_net_15 : decode cL_net 15 = .ok (.iconst 2, 1) := by decide +kernel
theorem dL_net_16 : decode cL_net 16 = .ok (.ireturn, 1) := by decide +kernel
theorem dL_net_17 : decode cL_net 17 = .ok (.iconst 0, 1) := by decide +kernel
theorem dL_net_18 : decode cL_net 18 = .ok (.ireturn, 1) := by decide +kernel
theorem dL_node_0 : decode cL_node 0 = .ok (.aload_n 3, 1) := by decide +kernel
theorem dL_node_1 : decode cL_node 1 = .ok (.iconst 0, 1) := by decide +kernel
theorem dL_node_2 : decode cL_node 2 = .ok (.aload_n 0, 1) := by decide +kernel
theorem dL_node_3 : decode cL_node 3 = .ok (.iload_n 1, 1) := by decide +kernel
theorem dL_node_4 : decode cL_node 4 = .ok (.iload_n 2, 1) := by decide +kernel
theorem dL_node_5 : decode cL_node 5 = .ok (.invokevirtual 17, 3) := by decide +kernel
theorem dL_node_8 : decode cL_node 8 = .ok (.i2l, 1) := by decide +kernel
theorem dL_node_9 : decode cL_node 9 = .ok (.lastore, 1) := by decide +kernel
theorem dL_node_10 : decode cL_node 10 = .ok (.goto 11, 3) := by decide +kernel
theorem dL_node_13 : decode cL_node 13 = .ok (.astore 4, 2) := by decide +kernel
theorem dL_node_15 : decode cL_node 15 = .ok (.iconst 1, 1) := by decide +kernel
theorem dL_node_16 : decode cL_node 16 = .ok (.ireturn, 1) := by decide +kernel
theorem dL_node_17 : decode cL_node 17 = .ok (.astore 4, 2) := by decide +kernel
theorem dL_node_19 : decode cL_node 19 = .ok (.iconst 2, 1) := by decide +kernel
theorem dL_node_20 : decode cL_node 20 = .ok (.ireturn, 1) := by decide +kernel
theorem dL_node_21 : decode cL_node 21 = .ok (.iconst 0, 1) := by decide +kernel
theorem dL_node_22 : decode cL_node 22 = .ok (.ireturn, 1) := by decide +kernel
theorem dL_group_0 : decode cL_group 0 = .ok (.aload_n 2, 1) := by decide +kernel
theorem dL_group_1 : decode cL_group 1 = .ok (.iconst 0, 1) := by decide +kernel
theorem dL_group_2 : decode cL_group 2 = .ok (.aload_n 0, 1) := by decide +kernel
theorem dL_group_3 : decode cL_group 3 = .ok (.iload_n 1, 1) := by decide +kernel
theorem dL_group_4 : decode cL_group 4 = .ok (.invokevirtual 25, 3) := by decide +kernel
theorem dL_group_7 : decode cL_group 7 = .ok (.i2l, 1) := by decide +kernel
theorem dL_group_8 : decode cL_group 8 = .ok (.lastore, 1) := by decide +kernel
theorem dL_group_9 : decode cL_group 9 = .ok (.goto 6, 3) := by decide +kernel
theorem dL_group_12 : decode cL_group 12 = .ok (.astore_n 3, 1) := by decide +kernel
theorem dL_group_13 : decode cL_group 13 = .ok (.iconst 1, 1) := by decide +kernel
theorem dL_group_14 : decode cL_group 14 = .ok (.ireturn, 1) := by decide +kernel
theorem dL_group_15 : decode cL_group 15 = .ok (.iconst 0, 1) := by decide +kernel
theorem dL_group_16 : decode cL_group 16 = .ok (.ireturn, 1) := by decide +kernel
theorem dL_message_0 : decode cL_message 0 = .ok (.aload_n 3, 1) := by decide +kernel
theorem dL_message_1 : decode cL_message 1 = .ok (.iconst 0, 1) := by decide +kernel
theorem dL_message_2 : decode cL_message 2 = .ok (.aload_n 0, 1) := by decide +kernel
theorem dL_message_3 : decode cL_message 3 = .ok (.iload_n 1, 1) := by decide +kernel
theorem dL_message_4 : decode cL_message 4 = .ok (.iload_n 2, 1) := by decide +kernel
theorem dL_message_5 : decode cL_message 5 = .ok (.invokevirtual 29, 3) := by decide +kernel
theorem dL_message_8 : decode cL_message 8 = .ok (.i2l, 1) := by decide +kernel
theorem dL_message_9 : decode cL_message 9 = .ok (.lastore, 1) := by decide +kernel
theorem dL_message_10 : decode cL_message 10 = .ok (.goto 11, 3) := by decide +kernel
theorem dL_message_13 : decode cL_message 13 = .ok (.astore 4, 2) := by decide +kernel
theorem dL_message_15 : decode cL_message 15 = .ok (.iconst 1, 1) := by decide +kernel
theorem dL_message_16 : decode cL_message 16 = .ok (.ireturn, 1) := by decide +kernel
theorem dL_message_17 : decode cL_message 17 = .ok (.astore 4, 2) := by decide +kernel
theorem dL_message_19 : decode cL_message 19 = .ok (.iconst 2, 1) := by decide +kernel
theorem dL_message_20 : decode cL_message 20 = .ok (.ireturn, 1) := by decide +kernel
theorem dL_message_21 : decode cL_message 21 = .ok (.iconst 0, 1) := by decide +kernel
theorem dL_message_22 : decode cL_message 22 = .ok (.ireturn, 1) := by decide +kernel
theorem dL_has_0 : decode cL_has 0 = .ok (.aload 4, 2) := by decide +kernel
theorem dL_has_2 : decode cL_has 2 = .ok (.iconst 0, 1) := by decide +kernel
theorem dL_has_3 : decode cL_has 3 = .ok (.aload_n 0, 1) := by decide +kernel
theorem dL_has_4 : decode cL_has 4 = .ok (.iload_n 1, 1) := by decide +kernel
theorem dL_has_5 : decode cL_has 5 = .ok (.iload_n 2, 1) := by decide +kernel
theorem dL_has_6 : decode cL_has 6 = .ok (.iload_n 3, 1) := by decide +kernel
theorem dL_has_7 : decode cL_has 7 = .ok (.invokevirtual 32, 3) := by decide +kernel
theorem dL_has_10 : decode cL_has 10 = .ok (.i2l, 1) := by decide +kernel
theorem dL_has_11 : decode cL_has 11 = .ok (.lastore, 1) := by decide +kernel
theorem dL_has_12 : decode cL_has 12 = .ok (.goto 11, 3) := by decide +kernel
theorem dL_has_15 : decode cL_has 15 = .ok (.astore 5, 2) := by decide +kernel
theorem dL_has_17 : decode cL_has 17 = .ok (.iconst 1, 1) := by decide +kernel
theorem dL_has_18 : decode cL_has 18 = .ok (.ireturn, 1) := by decide +kernel
theorem dL_has_19 : decode cL_has 19 = .ok (.astore 5, 2) := by decide +kernel
theorem dL_has_21 : decode cL_has 21 = .ok (.iconst 2, 1) := by decide +kernel
theorem dL_has_22 : decode cL_has 22 = .ok (.ireturn, 1) := by decide +kernel
theorem dL_has_23 : decode cL_has 23 = .ok (.iconst 0, 1) := by decide +kernel
theorem dL_has_24 : decode cL_has 24 = .ok (.ireturn, 1) := by decide +kernel
theorem dL_delivered_0 : decode cL_delivered 0 = .ok (.aload_n 3, 1) := by decide +kernel
theorem dL_delivered_1 : decode cL_delivered 1 = .ok (.iconst 0, 1) := by decide +kernel
theorem dL_delivered_2 : decode cL_delivered 2 = .ok (.aload_n 0, 1) := by decide +kernel
theorem dL_delivered_3 : decode cL_delivered 3 = .ok (.iload_n 1, 1) := by decide +kernel
theorem dL_delivered_4 : decode cL_delivered 4 = .ok (.iload_n 2, 1) := by decide +kernel
theorem dL_delivered_5 : decode cL_delivered 5 = .ok (.invokevirtual 36, 3) := by decide +kernel
theorem dL_delivered_8 : decode cL_delivered 8 = .ok (.i2l, 1) := by decide +kernel
theorem dL_delivered_9 : decode cL_delivered 9 = .ok (.lastore, 1) := by decide +kernel
theorem dL_delivered_10 : decode cL_delivered 10 = .ok (.goto 7, 3) := by decide +kernel
theorem dL_delivered_13 : decode cL_delivered 13 = .ok (.astore 4, 2) := by decide +kernel
theorem dL_delivered_15 : decode cL_delivered 15 = .ok (.iconst 1, 1) := by decide +kernel
theorem dL_delivered_16 : decode cL_delivered 16 = .ok (.ireturn, 1) := by decide +kernel
theorem dL_delivered_17 : decode cL_delivered 17 = .ok (.iconst 0, 1) := by decide +kernel
theorem dL_delivered_18 : decode cL_delivered 18 = .ok (.ireturn, 1) := by decide +kernel
theorem dL_channel_0 : decode cL_channel 0 = .ok (.aload 4, 2) := by decide +kernel
theorem dL_channel_2 : decode cL_channel 2 = .ok (.iconst 0, 1) := by decide +kernel
theorem dL_channel_3 : decode cL_channel 3 = .ok (.aload_n 0, 1) := by decide +kernel
theorem dL_channel_4 : decode cL_channel 4 = .ok (.iload_n 1, 1) := by decide +kernel
theorem dL_channel_5 : decode cL_channel 5 = .ok (.iload_n 2, 1) := by decide +kernel
theorem dL_channel_6 : decode cL_channel 6 = .ok (.iload_n 3, 1) := by decide +kernel
theorem dL_channel_7 : decode cL_channel 7 = .ok (.invokevirtual 39, 3) := by decide +kernel
theorem dL_channel_10 : decode cL_channel 10 = .ok (.i2l, 1) := by decide +kernel
theorem dL_channel_11 : decode cL_channel 11 = .ok (.lastore, 1) := by decide +kernel
theorem dL_channel_12 : decode cL_channel 12 = .ok (.goto 11, 3) := by decide +kernel
theorem dL_channel_15 : decode cL_channel 15 = .ok (.astore 5, 2) := by decide +kernel
theorem dL_channel_17 : decode cL_channel 17 = .ok (.iconst 1, 1) := by decide +kernel
theorem dL_channel_18 : decode cL_channel 18 = .ok (.ireturn, 1) := by decide +kernel
theorem dL_channel_19 : decode cL_channel 19 = .ok (.astore 5, 2) := by decide +kernel
theorem dL_channel_21 : decode cL_channel 21 = .ok (.iconst 2, 1) := by decide +kernel
theorem dL_channel_22 : decode cL_channel 22 = .ok (.ireturn, 1) := by decide +kernel
theorem dL_channel_23 : decode cL_channel 23 = .ok (.iconst 0, 1) := by decide +kernel
theorem dL_channel_24 : decode cL_channel 24 = .ok (.ireturn, 1) := by decide +kernel
theorem dL_packet_0 : decode cL_packet 0 = .ok (.aload 5, 2) := by decide +kernel
theorem dL_packet_2 : decode cL_packet 2 = .ok (.iconst 0, 1) := by decide +kernel
theorem dL_packet_3 : decode cL_packet 3 = .ok (.aload_n 0, 1) := by decide +kernel
theorem dL_packet_4 : decode cL_packet 4 = .ok (.iload_n 1, 1) := by decide +kernel
theorem dL_packet_5 : decode cL_packet 5 = .ok (.iload_n 2, 1) := by decide +kernel
theorem dL_packet_6 : decode cL_packet 6 = .ok (.iload_n 3, 1) := by decide +kernel
theorem dL_packet_7 : decode cL_packet 7 = .ok (.iload 4, 2) := by decide +kernel
theorem dL_packet_9 : decode cL_packet 9 = .ok (.invokevirtual 42, 3) := by decide +kernel
theorem dL_packet_12 : decode cL_packet 12 = .ok (.i2l, 1) := by decide +kernel
theorem dL_packet_13 : decode cL_packet 13 = .ok (.lastore, 1) := by decide +kernel
theorem dL_packet_14 : decode cL_packet 14 = .ok (.goto 11, 3) := by decide +kernel
theorem dL_packet_17 : decode cL_packet 17 = .ok (.astore 6, 2) := by decide +kernel
theorem dL_packet_19 : decode cL_packet 19 = .ok (.iconst 1, 1) := by decide +kernel
theorem dL_packet_20 : decode cL_packet 20 = .ok (.ireturn, 1) := by decide +kernel
theorem dL_packet_21 : decode cL_packet 21 = .ok (.astore 6, 2) := by decide +kernel
theorem dL_packet_23 : decode cL_packet 23 = .ok (.iconst 2, 1) := by decide +kernel
theorem dL_packet_24 : decode cL_packet 24 = .ok (.ireturn, 1) := by decide +kernel
theorem dL_packet_25 : decode cL_packet 25 = .ok (.iconst 0, 1) := by decide +kernel
theorem dL_packet_26 : decode cL_packet 26 = .ok (.ireturn, 1) := by decide +kernel
theorem dL_gather_0 : decode cL_gather 0 = .ok (.aload 4, 2) := by decide +kernel
theorem dL_gather_2 : decode cL_gather 2 = .ok (.iconst 0, 1) := by decide +kernel
theorem dL_gather_3 : decode cL_gather 3 = .ok (.aload_n 0, 1) := by decide +kernel
theorem dL_gather_4 : decode cL_gather 4 = .ok (.iload_n 1, 1) := by decide +kernel
theorem dL_gather_5 : decode cL_gather 5 = .ok (.iload_n 2, 1) := by decide +kernel
theorem dL_gather_6 : decode cL_gather 6 = .ok (.iload_n 3, 1) := by decide +kernel
theorem dL_gather_7 : decode cL_gather 7 = .ok (.invokevirtual 46, 3) := by decide +kernel
theorem dL_gather_10 : decode cL_gather 10 = .ok (.i2l, 1) := by decide +kernel
theorem dL_gather_11 : decode cL_gather 11 = .ok (.lastore, 1) := by decide +kernel
theorem dL_gather_12 : decode cL_gather 12 = .ok (.goto 15, 3) := by decide +kernel
theorem dL_gather_15 : decode cL_gather 15 = .ok (.astore 5, 2) := by decide +kernel
theorem dL_gather_17 : decode cL_gather 17 = .ok (.iconst 1, 1) := by decide +kernel
theorem dL_gather_18 : decode cL_gather 18 = .ok (.ireturn, 1) := by decide +kernel
theorem dL_gather_19 : decode cL_gather 19 = .ok (.astore 5, 2) := by decide +kernel
theorem dL_gather_21 : decode cL_gather 21 = .ok (.iconst 2, 1) := by decide +kernel
theorem dL_gather_22 : decode cL_gather 22 = .ok (.ireturn, 1) := by decide +kernel
theorem dL_gather_23 : decode cL_gather 23 = .ok (.astore 5, 2) := by decide +kernel
theorem dL_gather_25 : decode cL_gather 25 = .ok (.iconst 3, 1) := by decide +kernel
theorem dL_gather_26 : decode cL_gather 26 = .ok (.ireturn, 1) := by decide +kernel
theorem dL_gather_27 : decode cL_gather 27 = .ok (.iconst 0, 1) := by decide +kernel
theorem dL_gather_28 : decode cL_gather 28 = .ok (.ireturn, 1) := by decide +kernel
theorem dL_ticks_0 : decode cL_ticks 0 = .ok (.aload_n 2, 1) := by decide +kernel
theorem dL_ticks_1 : decode cL_ticks 1 = .ok (.iconst 0, 1) := by decide +kernel
theorem dL_ticks_2 : decode cL_ticks 2 = .ok (.aload_n 0, 1) := by decide +kernel
theorem dL_ticks_3 : decode cL_ticks 3 = .ok (.iload_n 1, 1) := by decide +kernel
theorem dL_ticks_4 : decode cL_ticks 4 = .ok (.invokevirtual 51, 3) := by decide +kernel
theorem dL_ticks_7 : decode cL_ticks 7 = .ok (.i2l, 1) := by decide +kernel
theorem dL_ticks_8 : decode cL_ticks 8 = .ok (.lastore, 1) := by decide +kernel
theorem dL_ticks_9 : decode cL_ticks 9 = .ok (.goto 6, 3) := by decide +kernel
theorem dL_ticks_12 : decode cL_ticks 12 = .ok (.astore_n 3, 1) := by decide +kernel
theorem dL_ticks_13 : decode cL_ticks 13 = .ok (.iconst 1, 1) := by decide +kernel
theorem dL_ticks_14 : decode cL_ticks 14 = .ok (.ireturn, 1) := by decide +kernel
theorem dL_ticks_15 : decode cL_ticks 15 = .ok (.iconst 0, 1) := by decide +kernel
theorem dL_ticks_16 : decode cL_ticks 16 = .ok (.ireturn, 1) := by decide +kernel
theorem dL_send_0 : decode cL_send 0 = .ok (.aload_n 3, 1) := by decide +kernel
theorem dL_send_1 : decode cL_send 1 = .ok (.iconst 0, 1) := by decide +kernel
theorem dL_send_2 : decode cL_send 2 = .ok (.aload_n 0, 1) := by decide +kernel
theorem dL_send_3 : decode cL_send 3 = .ok (.iload_n 1, 1) := by decide +kernel
theorem dL_send_4 : decode cL_send 4 = .ok (.iload_n 2, 1) := by decide +kernel
theorem dL_send_5 : decode cL_send 5 = .ok (.invokevirtual 54, 3) := by decide +kernel
theorem dL_send_8 : decode cL_send 8 = .ok (.i2l, 1) := by decide +kernel
theorem dL_send_9 : decode cL_send 9 = .ok (.lastore, 1) := by decide +kernel
theorem dL_send_10 : decode cL_send 10 = .ok (.goto 11, 3) := by decide +kernel
theorem dL_send_13 : decode cL_send 13 = .ok (.astore 4, 2) := by decide +kernel
theorem dL_send_15 : decode cL_send 15 = .ok (.iconst 1, 1) := by decide +kernel
theorem dL_send_16 : decode cL_send 16 = .ok (.ireturn, 1) := by decide +kernel
theorem dL_send_17 : decode cL_send 17 = .ok (.astore 4, 2) := by decide +kernel
theorem dL_send_19 : decode cL_send 19 = .ok (.iconst 2, 1) := by decide +kernel
theorem dL_send_20 : decode cL_send 20 = .ok (.ireturn, 1) := by decide +kernel
theorem dL_send_21 : decode cL_send 21 = .ok (.iconst 0, 1) := by decide +kernel
theorem dL_send_22 : decode cL_send 22 = .ok (.ireturn, 1) := by decide +kernel
theorem dL_crash_0 : decode cL_crash 0 = .ok (.aload_n 0, 1) := by decide +kernel
theorem dL_crash_1 : decode cL_crash 1 = .ok (.iload_n 1, 1) := by decide +kernel
theorem dL_crash_2 : decode cL_crash 2 = .ok (.invokevirtual 57, 3) := by decide +kernel
theorem dL_crash_5 : decode cL_crash 5 = .ok (.goto 9, 3) := by decide +kernel
theorem dL_crash_8 : decode cL_crash 8 = .ok (.astore_n 2, 1) := by decide +kernel
theorem dL_crash_9 : decode cL_crash 9 = .ok (.iconst 1, 1) := by decide +kernel
theorem dL_crash_10 : decode cL_crash 10 = .ok (.ireturn, 1) := by decide +kernel
theorem dL_crash_11 : decode cL_crash 11 = .ok (.astore_n 2, 1) := by decide +kernel
theorem dL_crash_12 : decode cL_crash 12 = .ok (.iconst 2, 1) := by decide +kernel
theorem dL_crash_13 : decode cL_crash 13 = .ok (.ireturn, 1) := by decide +kernel
theorem dL_crash_14 : decode cL_crash 14 = .ok (.iconst 0, 1) := by decide +kernel
theorem dL_crash_15 : decode cL_crash 15 = .ok (.ireturn, 1) := by decide +kernel
theorem dL_hold_0 : decode cL_hold 0 = .ok (.aload 4, 2) := by decide +kernel
theorem dL_hold_2 : decode cL_hold 2 = .ok (.iconst 0, 1) := by decide +kernel
theorem dL_hold_3 : decode cL_hold 3 = .ok (.aload_n 0, 1) := by decide +kernel
theorem dL_hold_4 : decode cL_hold 4 = .ok (.iload_n 1, 1) := by decide +kernel
theorem dL_hold_5 : decode cL_hold 5 = .ok (.iload_n 2, 1) := by decide +kernel
theorem dL_hold_6 : decode cL_hold 6 = .ok (.iload_n 3, 1) := by decide +kernel
theorem dL_hold_7 : decode cL_hold 7 = .ok (.invokevirtual 61, 3) := by decide +kernel
theorem dL_hold_10 : decode cL_hold 10 = .ok (.ifCond .eq 7, 3) := by decide +kernel
theorem dL_hold_13 : decode cL_hold 13 = .ok (.lconst 1, 1) := by decide +kernel
theorem dL_hold_14 : decode cL_hold 14 = .ok (.goto 4, 3) := by decide +kernel
theorem dL_hold_17 : decode cL_hold 17 = .ok (.lconst 0, 1) := by decide +kernel
theorem dL_hold_18 : decode cL_hold 18 = .ok (.lastore, 1) := by decide +kernel
theorem dL_hold_19 : decode cL_hold 19 = .ok (.goto 7, 3) := by decide +kernel
theorem dL_hold_22 : decode cL_hold 22 = .ok (.astore 5, 2) := by decide +kernel
theorem dL_hold_24 : decode cL_hold 24 = .ok (.iconst 1, 1) := by decide +kernel
theorem dL_hold_25 : decode cL_hold 25 = .ok (.ireturn, 1) := by decide +kernel
theorem dL_hold_26 : decode cL_hold 26 = .ok (.iconst 0, 1) := by decide +kernel
theorem dL_hold_27 : decode cL_hold 27 = .ok (.ireturn, 1) := by decide +kernel
theorem dL_due_0 : decode cL_due 0 = .ok (.aload_n 3, 1) := by decide +kernel
theorem dL_due_1 : decode cL_due 1 = .ok (.iconst 0, 1) := by decide +kernel
theorem dL_due_2 : decode cL_due 2 = .ok (.aload_n 0, 1) := by decide +kernel
theorem dL_due_3 : decode cL_due 3 = .ok (.iload_n 1, 1) := by decide +kernel
theorem dL_due_4 : decode cL_due 4 = .ok (.iload_n 2, 1) := by decide +kernel
theorem dL_due_5 : decode cL_due 5 = .ok (.invokevirtual 65, 3) := by decide +kernel
theorem dL_due_8 : decode cL_due 8 = .ok (.i2l, 1) := by decide +kernel
theorem dL_due_9 : decode cL_due 9 = .ok (.lastore, 1) := by decide +kernel
theorem dL_due_10 : decode cL_due 10 = .ok (.goto 7, 3) := by decide +kernel
theorem dL_due_13 : decode cL_due 13 = .ok (.astore 4, 2) := by decide +kernel
theorem dL_due_15 : decode cL_due 15 = .ok (.iconst 1, 1) := by decide +kernel
theorem dL_due_16 : decode cL_due 16 = .ok (.ireturn, 1) := by decide +kernel
theorem dL_due_17 : decode cL_due 17 = .ok (.iconst 0, 1) := by decide +kernel
theorem dL_due_18 : decode cL_due 18 = .ok (.ireturn, 1) := by decide +kernel
theorem dL_block_0 : decode cL_block 0 = .ok (.aload_n 3, 1) := by decide +kernel
theorem dL_block_1 : decode cL_block 1 = .ok (.iconst 0, 1) := by decide +kernel
theorem dL_block_2 : decode cL_block 2 = .ok (.aload_n 0, 1) := by decide +kernel
theorem dL_block_3 : decode cL_block 3 = .ok (.iload_n 1, 1) := by decide +kernel
theorem dL_block_4 : decode cL_block 4 = .ok (.iload_n 2, 1) := by decide +kernel
theorem dL_block_5 : decode cL_block 5 = .ok (.invokevirtual 68, 3) := by decide +kernel
theorem dL_block_8 : decode cL_block 8 = .ok (.i2l, 1) := by decide +kernel
theorem dL_block_9 : decode cL_block 9 = .ok (.lastore, 1) := by decide +kernel
theorem dL_block_10 : decode cL_block 10 = .ok (.goto 7, 3) := by decide +kernel
theorem dL_block_13 : decode cL_block 13 = .ok (.astore 4, 2) := by decide +kernel
theorem dL_block_15 : decode cL_block 15 = .ok (.iconst 1, 1) := by decide +kernel
theorem dL_block_16 : decode cL_block 16 = .ok (.ireturn, 1) := by decide +kernel
theorem dL_block_17 : decode cL_block 17 = .ok (.iconst 0, 1) := by decide +kernel
theorem dL_block_18 : decode cL_block 18 = .ok (.ireturn, 1) := by decide +kernel
theorem dL_waits_0 : decode cL_waits 0 = .ok (.aload_n 2, 1) := by decide +kernel
theorem dL_waits_1 : decode cL_waits 1 = .ok (.iconst 0, 1) := by decide +kernel
theorem dL_waits_2 : decode cL_waits 2 = .ok (.aload_n 0, 1) := by decide +kernel
theorem dL_waits_3 : decode cL_waits 3 = .ok (.iload_n 1, 1) := by decide +kernel
theorem dL_waits_4 : decode cL_waits 4 = .ok (.invokevirtual 71, 3) := by decide +kernel
theorem dL_waits_7 : decode cL_waits 7 = .ok (.i2l, 1) := by decide +kernel
theorem dL_waits_8 : decode cL_waits 8 = .ok (.lastore, 1) := by decide +kernel
theorem dL_waits_9 : decode cL_waits 9 = .ok (.goto 6, 3) := by decide +kernel
theorem dL_waits_12 : decode cL_waits 12 = .ok (.astore_n 3, 1) := by decide +kernel
theorem dL_waits_13 : decode cL_waits 13 = .ok (.iconst 1, 1) := by decide +kernel
theorem dL_waits_14 : decode cL_waits 14 = .ok (.ireturn, 1) := by decide +kernel
theorem dL_waits_15 : decode cL_waits 15 = .ok (.iconst 0, 1) := by decide +kernel
theorem dL_waits_16 : decode cL_waits 16 = .ok (.ireturn, 1) := by decide +kernel
theorem dL_ahead_0 : decode cL_ahead 0 = .ok (.aload_n 3, 1) := by decide +kernel
theorem dL_ahead_1 : decode cL_ahead 1 = .ok (.iconst 0, 1) := by decide +kernel
theorem dL_ahead_2 : decode cL_ahead 2 = .ok (.aload_n 0, 1) := by decide +kernel
theorem dL_ahead_3 : decode cL_ahead 3 = .ok (.iload_n 1, 1) := by decide +kernel
theorem dL_ahead_4 : decode cL_ahead 4 = .ok (.iload_n 2, 1) := by decide +kernel
theorem dL_ahead_5 : decode cL_ahead 5 = .ok (.invokevirtual 74, 3) := by decide +kernel
theorem dL_ahead_8 : decode cL_ahead 8 = .ok (.ifCond .eq 7, 3) := by decide +kernel
theorem dL_ahead_11 : decode cL_ahead 11 = .ok (.lconst 1, 1) := by decide +kernel
theorem dL_ahead_12 : decode cL_ahead 12 = .ok (.goto 4, 3) := by decide +kernel
theorem dL_ahead_15 : decode cL_ahead 15 = .ok (.lconst 0, 1) := by decide +kernel
theorem dL_ahead_16 : decode cL_ahead 16 = .ok (.lastore, 1) := by decide +kernel
theorem dL_ahead_17 : decode cL_ahead 17 = .ok (.goto 11, 3) := by decide +kernel
theorem dL_ahead_20 : decode cL_ahead 20 = .ok (.astore 4, 2) := by decide +kernel
theorem dL_ahead_22 : decode cL_ahead 22 = .ok (.iconst 1, 1) := by decide +kernel
theorem dL_ahead_23 : decode cL_ahead 23 = .ok (.ireturn, 1) := by decide +kernel
theorem dL_ahead_24 : decode cL_ahead 24 = .ok (.astore 4, 2) := by decide +kernel
theorem dL_ahead_26 : decode cL_ahead 26 = .ok (.iconst 2, 1) := by decide +kernel
theorem dL_ahead_27 : decode cL_ahead 27 = .ok (.ireturn, 1) := by decide +kernel
theorem dL_ahead_28 : decode cL_ahead 28 = .ok (.iconst 0, 1) := by decide +kernel
theorem dL_ahead_29 : decode cL_ahead 29 = .ok (.ireturn, 1) := by decide +kernel
theorem dL_after_0 : decode cL_after 0 = .ok (.aload_n 3, 1) := by decide +kernel
theorem dL_after_1 : decode cL_after 1 = .ok (.iconst 0, 1) := by decide +kernel
theorem dL_after_2 : decode cL_after 2 = .ok (.aload_n 0, 1) := by decide +kernel
theorem dL_after_3 : decode cL_after 3 = .ok (.iload_n 1, 1) := by decide +kernel
theorem dL_after_4 : decode cL_after 4 = .ok (.iload_n 2, 1) := by decide +kernel
theorem dL_after_5 : decode cL_after 5 = .ok (.invokevirtual 78, 3) := by decide +kernel
theorem dL_after_8 : decode cL_after 8 = .ok (.i2l, 1) := by decide +kernel
theorem dL_after_9 : decode cL_after 9 = .ok (.lastore, 1) := by decide +kernel
theorem dL_after_10 : decode cL_after 10 = .ok (.goto 7, 3) := by decide +kernel
theorem dL_after_13 : decode cL_after 13 = .ok (.astore 4, 2) := by decide +kernel
theorem dL_after_15 : decode cL_after 15 = .ok (.iconst 1, 1) := by decide +kernel
theorem dL_after_16 : decode cL_after 16 = .ok (.ireturn, 1) := by decide +kernel
theorem dL_after_17 : decode cL_after 17 = .ok (.iconst 0, 1) := by decide +kernel
theorem dL_after_18 : decode cL_after 18 = .ok (.ireturn, 1) := by decide +kernel
theorem dL_outside_0 : decode cL_outside 0 = .ok (.aload_n 2, 1) := by decide +kernel
theorem dL_outside_1 : decode cL_outside 1 = .ok (.iconst 0, 1) := by decide +kernel
theorem dL_outside_2 : decode cL_outside 2 = .ok (.aload_n 0, 1) := by decide +kernel
theorem dL_outside_3 : decode cL_outside 3 = .ok (.iload_n 1, 1) := by decide +kernel
theorem dL_outside_4 : decode cL_outside 4 = .ok (.invokevirtual 81, 3) := by decide +kernel
theorem dL_outside_7 : decode cL_outside 7 = .ok (.i2l, 1) := by decide +kernel
theorem dL_outside_8 : decode cL_outside 8 = .ok (.lastore, 1) := by decide +kernel
theorem dL_outside_9 : decode cL_outside 9 = .ok (.goto 6, 3) := by decide +kernel
theorem dL_outside_12 : decode cL_outside 12 = .ok (.astore_n 3, 1) := by decide +kernel
theorem dL_outside_13 : decode cL_outside 13 = .ok (.iconst 1, 1) := by decide +kernel
theorem dL_outside_14 : decode cL_outside 14 = .ok (.ireturn, 1) := by decide +kernel
theorem dL_outside_15 : decode cL_outside 15 = .ok (.iconst 0, 1) := by decide +kernel
theorem dL_outside_16 : decode cL_outside 16 = .ok (.ireturn, 1) := by decide +kernel
theorem dL_parted_0 : decode cL_parted 0 = .ok (.aload_n 3, 1) := by decide +kernel
theorem dL_parted_1 : decode cL_parted 1 = .ok (.iconst 0, 1) := by decide +kernel
theorem dL_parted_2 : decode cL_parted 2 = .ok (.aload_n 0, 1) := by decide +kernel
theorem dL_parted_3 : decode cL_parted 3 = .ok (.iload_n 1, 1) := by decide +kernel
theorem dL_parted_4 : decode cL_parted 4 = .ok (.iload_n 2, 1) := by decide +kernel
theorem dL_parted_5 : decode cL_parted 5 = .ok (.invokevirtual 84, 3) := by decide +kernel
theorem dL_parted_8 : decode cL_parted 8 = .ok (.i2l, 1) := by decide +kernel
theorem dL_parted_9 : decode cL_parted 9 = .ok (.lastore, 1) := by decide +kernel
theorem dL_parted_10 : decode cL_parted 10 = .ok (.goto 11, 3) := by decide +kernel
theorem dL_parted_13 : decode cL_parted 13 = .ok (.astore 4, 2) := by decide +kernel
theorem dL_parted_15 : decode cL_parted 15 = .ok (.iconst 1, 1) := by decide +kernel
theorem dL_parted_16 : decode cL_parted 16 = .ok (.ireturn, 1) := by decide +kernel
theorem dL_parted_17 : decode cL_parted 17 = .ok (.astore 4, 2) := by decide +kernel
theorem dL_parted_19 : decode cL_parted 19 = .ok (.iconst 2, 1) := by decide +kernel
theorem dL_parted_20 : decode cL_parted 20 = .ok (.ireturn, 1) := by decide +kernel
theorem dL_parted_21 : decode cL_parted 21 = .ok (.iconst 0, 1) := by decide +kernel
theorem dL_parted_22 : decode cL_parted 22 = .ok (.ireturn, 1) := by decide +kernel
theorem dL_when_0 : decode cL_when 0 = .ok (.aload_n 3, 1) := by decide +kernel
theorem dL_when_1 : decode cL_when 1 = .ok (.iconst 0, 1) := by decide +kernel
theorem dL_when_2 : decode cL_when 2 = .ok (.aload_n 0, 1) := by decide +kernel
theorem dL_when_3 : decode cL_when 3 = .ok (.iload_n 1, 1) := by decide +kernel
theorem dL_when_4 : decode cL_when 4 = .ok (.iload_n 2, 1) := by decide +kernel
theorem dL_when_5 : decode cL_when 5 = .ok (.invokevirtual 87, 3) := by decide +kernel
theorem dL_when_8 : decode cL_when 8 = .ok (.i2l, 1) := by decide +kernel
theorem dL_when_9 : decode cL_when 9 = .ok (.lastore, 1) := by decide +kernel
theorem dL_when_10 : decode cL_when 10 = .ok (.goto 7, 3) := by decide +kernel
theorem dL_when_13 : decode cL_when 13 = .ok (.astore 4, 2) := by decide +kernel
theorem dL_when_15 : decode cL_when 15 = .ok (.iconst 1, 1) := by decide +kernel
theorem dL_when_16 : decode cL_when 16 = .ok (.ireturn, 1) := by decide +kernel
theorem dL_when_17 : decode cL_when 17 = .ok (.iconst 0, 1) := by decide +kernel
theorem dL_when_18 : decode cL_when 18 = .ok (.ireturn, 1) := by decide +kernel
theorem dL_chain_0 : decode cL_chain 0 = .ok (.aload 4, 2) := by decide +kernel
theorem dL_chain_2 : decode cL_chain 2 = .ok (.iconst 0, 1) := by decide +kernel
theorem dL_chain_3 : decode cL_chain 3 = .ok (.aload_n 0, 1) := by decide +kernel
theorem dL_chain_4 : decode cL_chain 4 = .ok (.iload_n 1, 1) := by decide +kernel
theorem dL_chain_5 : decode cL_chain 5 = .ok (.iload_n 2, 1) := by decide +kernel
theorem dL_chain_6 : decode cL_chain 6 = .ok (.iload_n 3, 1) := by decide +kernel
theorem dL_chain_7 : decode cL_chain 7 = .ok (.invokevirtual 90, 3) := by decide +kernel
theorem dL_chain_10 : decode cL_chain 10 = .ok (.i2l, 1) := by decide +kernel
theorem dL_chain_11 : decode cL_chain 11 = .ok (.lastore, 1) := by decide +kernel
theorem dL_chain_12 : decode cL_chain 12 = .ok (.goto 7, 3) := by decide +kernel
theorem dL_chain_15 : decode cL_chain 15 = .ok (.astore 5, 2) := by decide +kernel
theorem dL_chain_17 : decode cL_chain 17 = .ok (.iconst 1, 1) := by decide +kernel
theorem dL_chain_18 : decode cL_chain 18 = .ok (.ireturn, 1) := by decide +kernel
theorem dL_chain_19 : decode cL_chain 19 = .ok (.iconst 0, 1) := by decide +kernel
theorem dL_chain_20 : decode cL_chain 20 = .ok (.ireturn, 1) := by decide +kernel
theorem dL_late_0 : decode cL_late 0 = .ok (.aload_n 2, 1) := by decide +kernel
theorem dL_late_1 : decode cL_late 1 = .ok (.iconst 0, 1) := by decide +kernel
theorem dL_late_2 : decode cL_late 2 = .ok (.aload_n 0, 1) := by decide +kernel
theorem dL_late_3 : decode cL_late 3 = .ok (.iload_n 1, 1) := by decide +kernel
theorem dL_late_4 : decode cL_late 4 = .ok (.invokevirtual 93, 3) := by decide +kernel
theorem dL_late_7 : decode cL_late 7 = .ok (.i2l, 1) := by decide +kernel
theorem dL_late_8 : decode cL_late 8 = .ok (.lastore, 1) := by decide +kernel
theorem dL_late_9 : decode cL_late 9 = .ok (.goto 6, 3) := by decide +kernel
theorem dL_late_12 : decode cL_late 12 = .ok (.astore_n 3, 1) := by decide +kernel
theorem dL_late_13 : decode cL_late 13 = .ok (.iconst 1, 1) := by decide +kernel
theorem dL_late_14 : decode cL_late 14 = .ok (.ireturn, 1) := by decide +kernel
theorem dL_late_15 : decode cL_late 15 = .ok (.iconst 0, 1) := by decide +kernel
theorem dL_late_16 : decode cL_late 16 = .ok (.ireturn, 1) := by decide +kernel
theorem dL_first_0 : decode cL_first 0 = .ok (.aload_n 3, 1) := by decide +kernel
theorem dL_first_1 : decode cL_first 1 = .ok (.iconst 0, 1) := by decide +kernel
theorem dL_first_2 : decode cL_first 2 = .ok (.aload_n 0, 1) := by decide +kernel
theorem dL_first_3 : decode cL_first 3 = .ok (.iload_n 1, 1) := by decide +kernel
theorem dL_first_4 : decode cL_first 4 = .ok (.iload_n 2, 1) := by decide +kernel
theorem dL_first_5 : decode cL_first 5 = .ok (.invokevirtual 96, 3) := by decide +kernel
theorem dL_first_8 : decode cL_first 8 = .ok (.i2l, 1) := by decide +kernel
theorem dL_first_9 : decode cL_first 9 = .ok (.lastore, 1) := by decide +kernel
theorem dL_first_10 : decode cL_first 10 = .ok (.goto 11, 3) := by decide +kernel
theorem dL_first_13 : decode cL_first 13 = .ok (.astore 4, 2) := by decide +kernel
theorem dL_first_15 : decode cL_first 15 = .ok (.iconst 1, 1) := by decide +kernel
theorem dL_first_16 : decode cL_first 16 = .ok (.ireturn, 1) := by decide +kernel
theorem dL_first_17 : decode cL_first 17 = .ok (.astore 4, 2) := by decide +kernel
theorem dL_first_19 : decode cL_first 19 = .ok (.iconst 2, 1) := by decide +kernel
theorem dL_first_20 : decode cL_first 20 = .ok (.ireturn, 1) := by decide +kernel
theorem dL_first_21 : decode cL_first 21 = .ok (.iconst 0, 1) := by decide +kernel
theorem dL_first_22 : decode cL_first 22 = .ok (.ireturn, 1) := by decide +kernel
theorem dL_lag_0 : decode cL_lag 0 = .ok (.aload_n 2, 1) := by decide +kernel
theorem dL_lag_1 : decode cL_lag 1 = .ok (.iconst 0, 1) := by decide +kernel
theorem dL_lag_2 : decode cL_lag 2 = .ok (.aload_n 0, 1) := by decide +kernel
theorem dL_lag_3 : decode cL_lag 3 = .ok (.iload_n 1, 1) := by decide +kernel
theorem dL_lag_4 : decode cL_lag 4 = .ok (.invokevirtual 99, 3) := by decide +kernel
theorem dL_lag_7 : decode cL_lag 7 = .ok (.i2l, 1) := by decide +kernel
theorem dL_lag_8 : decode cL_lag 8 = .ok (.lastore, 1) := by decide +kernel
theorem dL_lag_9 : decode cL_lag 9 = .ok (.goto 6, 3) := by decide +kernel
theorem dL_lag_12 : decode cL_lag 12 = .ok (.astore_n 3, 1) := by decide +kernel
theorem dL_lag_13 : decode cL_lag 13 = .ok (.iconst 1, 1) := by decide +kernel
theorem dL_lag_14 : decode cL_lag 14 = .ok (.ireturn, 1) := by decide +kernel
theorem dL_lag_15 : decode cL_lag 15 = .ok (.iconst 0, 1) := by decide +kernel
theorem dL_lag_16 : decode cL_lag 16 = .ok (.ireturn, 1) := by decide +kernel
theorem dL_takes_0 : decode cL_takes 0 = .ok (.aload_n 2, 1) := by decide +kernel
theorem dL_takes_1 : decode cL_takes 1 = .ok (.iconst 0, 1) := by decide +kernel
theorem dL_takes_2 : decode cL_takes 2 = .ok (.aload_n 0, 1) := by decide +kernel
theorem dL_takes_3 : decode cL_takes 3 = .ok (.iload_n 1, 1) := by decide +kernel
theorem dL_takes_4 : decode cL_takes 4 = .ok (.invokevirtual 102, 3) := by decide +kernel
theorem dL_takes_7 : decode cL_takes 7 = .ok (.i2l, 1) := by decide +kernel
theorem dL_takes_8 : decode cL_takes 8 = .ok (.lastore, 1) := by decide +kernel
theorem dL_takes_9 : decode cL_takes 9 = .ok (.goto 6, 3) := by decide +kernel
theorem dL_takes_12 : decode cL_takes 12 = .ok (.astore_n 3, 1) := by decide +kernel
theorem dL_takes_13 : decode cL_takes 13 = .ok (.iconst 1, 1) := by decide +kernel
theorem dL_takes_14 : decode cL_takes 14 = .ok (.ireturn, 1) := by decide +kernel
theorem dL_takes_15 : decode cL_takes 15 = .ok (.iconst 0, 1) := by decide +kernel
theorem dL_takes_16 : decode cL_takes 16 = .ok (.ireturn, 1) := by decide +kernel
theorem dL_knot_0 : decode cL_knot 0 = .ok (.aload_n 3, 1) := by decide +kernel
theorem dL_knot_1 : decode cL_knot 1 = .ok (.iconst 0, 1) := by decide +kernel
theorem dL_knot_2 : decode cL_knot 2 = .ok (.aload_n 0, 1) := by decide +kernel
theorem dL_knot_3 : decode cL_knot 3 = .ok (.iload_n 1, 1) := by decide +kernel
theorem dL_knot_4 : decode cL_knot 4 = .ok (.iload_n 2, 1) := by decide +kernel
theorem dL_knot_5 : decode cL_knot 5 = .ok (.invokevirtual 105, 3) := by decide +kernel
theorem dL_knot_8 : decode cL_knot 8 = .ok (.i2l, 1) := by decide +kernel
theorem dL_knot_9 : decode cL_knot 9 = .ok (.lastore, 1) := by decide +kernel
theorem dL_knot_10 : decode cL_knot 10 = .ok (.goto 11, 3) := by decide +kernel
theorem dL_knot_13 : decode cL_knot 13 = .ok (.astore 4, 2) := by decide +kernel
theorem dL_knot_15 : decode cL_knot 15 = .ok (.iconst 1, 1) := by decide +kernel
theorem dL_knot_16 : decode cL_knot 16 = .ok (.ireturn, 1) := by decide +kernel
theorem dL_knot_17 : decode cL_knot 17 = .ok (.astore 4, 2) := by decide +kernel
theorem dL_knot_19 : decode cL_knot 19 = .ok (.iconst 2, 1) := by decide +kernel
theorem dL_knot_20 : decode cL_knot 20 = .ok (.ireturn, 1) := by decide +kernel
theorem dL_knot_21 : decode cL_knot 21 = .ok (.iconst 0, 1) := by decide +kernel
theorem dL_knot_22 : decode cL_knot 22 = .ok (.ireturn, 1) := by decide +kernel
theorem dL_spared_0 : decode cL_spared 0 = .ok (.aload_n 2, 1) := by decide +kernel
theorem dL_spared_1 : decode cL_spared 1 = .ok (.iconst 0, 1) := by decide +kernel
theorem dL_spared_2 : decode cL_spared 2 = .ok (.aload_n 0, 1) := by decide +kernel
theorem dL_spared_3 : decode cL_spared 3 = .ok (.iload_n 1, 1) := by decide +kernel
theorem dL_spared_4 : decode cL_spared 4 = .ok (.invokevirtual 108, 3) := by decide +kernel
theorem dL_spared_7 : decode cL_spared 7 = .ok (.i2l, 1) := by decide +kernel
theorem dL_spared_8 : decode cL_spared 8 = .ok (.lastore, 1) := by decide +kernel
theorem dL_spared_9 : decode cL_spared 9 = .ok (.goto 6, 3) := by decide +kernel
theorem dL_spared_12 : decode cL_spared 12 = .ok (.astore_n 3, 1) := by decide +kernel
theorem dL_spared_13 : decode cL_spared 13 = .ok (.iconst 1, 1) := by decide +kernel
theorem dL_spared_14 : decode cL_spared 14 = .ok (.ireturn, 1) := by decide +kernel
theorem dL_spared_15 : decode cL_spared 15 = .ok (.iconst 0, 1) := by decide +kernel
theorem dL_spared_16 : decode cL_spared 16 = .ok (.ireturn, 1) := by decide +kernel
theorem dL_those_0 : decode cL_those 0 = .ok (.aload_n 3, 1) := by decide +kernel
theorem dL_those_1 : decode cL_those 1 = .ok (.iconst 0, 1) := by decide +kernel
theorem dL_those_2 : decode cL_those 2 = .ok (.aload_n 0, 1) := by decide +kernel
theorem dL_those_3 : decode cL_those 3 = .ok (.iload_n 1, 1) := by decide +kernel
theorem dL_those_4 : decode cL_those 4 = .ok (.iload_n 2, 1) := by decide +kernel
theorem dL_those_5 : decode cL_those 5 = .ok (.invokevirtual 111, 3) := by decide +kernel
theorem dL_those_8 : decode cL_those 8 = .ok (.i2l, 1) := by decide +kernel
theorem dL_those_9 : decode cL_those 9 = .ok (.lastore, 1) := by decide +kernel
theorem dL_those_10 : decode cL_those 10 = .ok (.goto 11, 3) := by decide +kernel
theorem dL_those_13 : decode cL_those 13 = .ok (.astore 4, 2) := by decide +kernel
theorem dL_those_15 : decode cL_those 15 = .ok (.iconst 1, 1) := by decide +kernel
theorem dL_those_16 : decode cL_those 16 = .ok (.ireturn, 1) := by decide +kernel
theorem dL_those_17 : decode cL_those 17 = .ok (.astore 4, 2) := by decide +kernel
theorem dL_those_19 : decode cL_those 19 = .ok (.iconst 2, 1) := by decide +kernel
theorem dL_those_20 : decode cL_those 20 = .ok (.ireturn, 1) := by decide +kernel
theorem dL_those_21 : decode cL_those 21 = .ok (.iconst 0, 1) := by decide +kernel
theorem dL_those_22 : decode cL_those 22 = .ok (.ireturn, 1) := by decide +kernel
theorem dL_event_0 : decode cL_event 0 = .ok (.aload_n 3, 1) := by decide +kernel
theorem dL_event_1 : decode cL_event 1 = .ok (.iconst 0, 1) := by decide +kernel
theorem dL_event_2 : decode cL_event 2 = .ok (.aload_n 0, 1) := by decide +kernel
theorem dL_event_3 : decode cL_event 3 = .ok (.iload_n 1, 1) := by decide +kernel
theorem dL_event_4 : decode cL_event 4 = .ok (.iload_n 2, 1) := by decide +kernel
theorem dL_event_5 : decode cL_event 5 = .ok (.invokevirtual 114, 3) := by decide +kernel
theorem dL_event_8 : decode cL_event 8 = .ok (.i2l, 1) := by decide +kernel
theorem dL_event_9 : decode cL_event 9 = .ok (.lastore, 1) := by decide +kernel
theorem dL_event_10 : decode cL_event 10 = .ok (.goto 11, 3) := by decide +kernel
theorem dL_event_13 : decode cL_event 13 = .ok (.astore 4, 2) := by decide +kernel
theorem dL_event_15 : decode cL_event 15 = .ok (.iconst 1, 1) := by decide +kernel
theorem dL_event_16 : decode cL_event 16 = .ok (.ireturn, 1) := by decide +kernel
theorem dL_event_17 : decode cL_event 17 = .ok (.astore 4, 2) := by decide +kernel
theorem dL_event_19 : decode cL_event 19 = .ok (.iconst 2, 1) := by decide +kernel
theorem dL_event_20 : decode cL_event 20 = .ok (.ireturn, 1) := by decide +kernel
theorem dL_event_21 : decode cL_event 21 = .ok (.iconst 0, 1) := by decide +kernel
theorem dL_event_22 : decode cL_event 22 = .ok (.ireturn, 1) := by decide +kernel
theorem dL_log_0 : decode cL_log 0 = .ok (.aload_n 3, 1) := by decide +kernel
theorem dL_log_1 : decode cL_log 1 = .ok (.iconst 0, 1) := by decide +kernel
theorem dL_log_2 : decode cL_log 2 = .ok (.aload_n 0, 1) := by decide +kernel
theorem dL_log_3 : decode cL_log 3 = .ok (.iload_n 1, 1) := by decide +kernel
theorem dL_log_4 : decode cL_log 4 = .ok (.iload_n 2, 1) := by decide +kernel
theorem dL_log_5 : decode cL_log 5 = .ok (.invokevirtual 117, 3) := by decide +kernel
theorem dL_log_8 : decode cL_log 8 = .ok (.i2l, 1) := by decide +kernel
theorem dL_log_9 : decode cL_log 9 = .ok (.lastore, 1) := by decide +kernel
theorem dL_log_10 : decode cL_log 10 = .ok (.goto 7, 3) := by decide +kernel
theorem dL_log_13 : decode cL_log 13 = .ok (.astore 4, 2) := by decide +kernel
theorem dL_log_15 : decode cL_log 15 = .ok (.iconst 1, 1) := by decide +kernel
theorem dL_log_16 : decode cL_log 16 = .ok (.ireturn, 1) := by decide +kernel
theorem dL_log_17 : decode cL_log 17 = .ok (.iconst 0, 1) := by decide +kernel
theorem dL_log_18 : decode cL_log 18 = .ok (.ireturn, 1) := by decide +kernel
set_option maxRecDepth 10000 in
set_option maxHeartbeats 4000000 in
theorem wl_net (l : Launch) (D : va_G) (cI cB cL : ClassId) (ka kv : Nat → Nat) (fv : Value) (x o : Nat) (f : Nat → Int64) {X : va_W} {q : Nat} {fs : List Value} (O : X[q]? = some (x, .inr (10, fs))) {rf rl mc ms : Nat} {RI : Int32 → va_W → Prop} {RX : Nat → va_W → Prop} (hM : metG l D (tyl cI cB cL) ka kv fv yX11_net cX11_net 2 (some .int) rf rl mc ms [.ref x] X RI RX) (hE : ∀ E X', RX E X' → E = 3 ∨ E = 4) : metW l D (tyl cI cB cL) ka kv fv yL_net cL_net 3 (some .int) [(0, 8, 11, 13), (0, 8, 14, 15)] (rf + 1) (8 + (2 + 11) + rl) mc ms [.ref x, .ref o] (X ++ oc cL o f) (rW (kc [3, 4]) cL o f Int32.toInt64 RI RX) := by
  intro sz
  refine va_MetW (cc := cL_net) (maxL := 3) (ret := some .int) (hh := [(0, 8, 11, 13), (0, 8, 14, 15)]) (by decide) rfl ?_
  intro p e s m args below meth c s₁ B hml hv
  obtain ⟨rfl, C, S, Kx, Np, hT⟩ := w_entry B hml hv
  have hx := C.1
  have hb := C.2.1
  have hl := lv_entry ([.ref x, .ref o]) (n := 3) (Nat.le_of_ble_eq_true rfl)
  rw [lg_entry_eq]
  generalize (lg_sl ([.ref x, .ref o]) ++ List.replicate (3 - (lg_sl ([.ref x, .ref o])).length) Slot.unset).toArray = ls at hl ⊢
  have hl : lv_has ls 3 [(0, .ref x), (1, .ref o)] := hl
  have hsz := hl.1
  refine lv_aload_n hx hb dL_net_0 rfl (lv_at hl 1 rfl) ?_
  refine lv_iconst (v := 0) hx hb dL_net_1 (by decide) ?_
  refine lv_aload_n hx hb dL_net_2 rfl (lv_at hl 0 rfl) ?_
  refine g_callVi (As := []) (na := 0) C Kx S O rfl hM mw_985 mw_986 mw_987 mw_321 mw_988 hdX11_net ⟨Nat.le_refl _, Nat.le_refl _⟩ rfl hsz ⟨Nat.le_of_eq (Nat.zero_add _), Nat.le_of_eq (Nat.zero_add _)⟩ (Nat.le_of_ble_eq_true rfl) dL_net_3 rfl (fun E X' ce q9 H locs hX S hce hcv hcl => ?_) (fun r X' H locs hI S => ?_)
  · rcases hE E X' hX with rfl | rfl
    · refine vx_catch C.2.2.2.1 [] (⟨0, 8, 11, 13⟩ : ExceptionTableEntry) [(⟨0, 8, 14, 15⟩ : ExceptionTableEntry)] hT (fun z hz => by cases hz) rfl (by decide) (C.2.2.2.2.1 _ mw_989) (x_hat cst_3 cst_3a C.2.2.2.2.1 Kx.2.2.2.2.2.2 _ (List.mem_singleton.mpr rfl)) hce hcv hcl ?_
      refine W.eq (g2 := F0 m 11 ls [.ref q9]) rfl ?_
      refine lv_astore_n hx hb dL_net_11 rfl hl (by decide) rfl (fun ls hl => ?_)
      refine lv_iconst (v := 1) hx hb dL_net_12 (by decide) ?_
      exact w_iret C S (Or.inr ⟨_, X', hX, rfl, rfl⟩) ⟨Nat.le_of_eq (Nat.zero_add _), Nat.le_of_eq (Nat.zero_add _)⟩ dL_net_13
    · refine vx_catch C.2.2.2.1 [(⟨0, 8, 11, 13⟩ : ExceptionTableEntry)] (⟨0, 8, 14, 15⟩ : ExceptionTableEntry) [] hT (fun z hz => by
      simp only [List.mem_cons, List.not_mem_nil, or_false] at hz
      rcases hz with rfl
      · exact Or.inr ⟨by decide, _, C.2.2.2.2.1 _ mw_989, Np 4 3 (by decide) (by decide) (by decide)⟩) rfl (by decide) (C.2.2.2.2.1 _ mw_990) (x_hat cst_4 cst_4a C.2.2.2.2.1 Kx.2.2.2.2.2.2 _ (List.mem_singleton.mpr rfl)) hce hcv hcl ?_
      refine W.eq (g2 := F0 m 14 ls [.ref q9]) rfl ?_
      refine lv_astore_n hx hb dL_net_14 rfl hl (by decide) rfl (fun ls hl => ?_)
      refine lv_iconst (v := 2) hx hb dL_net_15 (by decide) ?_
      exact w_iret C S (Or.inr ⟨_, X', hX, rfl, rfl⟩) ⟨Nat.le_of_eq (Nat.zero_add _), Nat.le_of_eq (Nat.zero_add _)⟩ dL_net_16
  · refine lv_i2l (v := r.toInt64) hx hb dL_net_6 rfl ?_
    refine g_last C S dL_net_7 (fun g H locs hg S => ?_)
    refine lv_goto (tgt := 17) hx hb dL_net_8 (by decide) ?_
    refine lv_iconst (v := 0) hx hb dL_net_17 (by decide) ?_
    exact w_iret C S (Or.inl ⟨rfl, r, X', g, hI, hg, rfl⟩) ⟨Nat.le_of_eq (Nat.zero_add _), Nat.le_of_eq (Nat.zero_add _)⟩ dL_net_18
set_option maxRecDepth 10000 in
set_option maxHeartbeats 4000000 in
theorem wl_node (l : Launch) (D : va_G) (cI cB cL : ClassId) (ka kv : Nat → Nat) (fv : Value) (x o : Nat) (f : Nat → Int64) (x1 : Int32) (x2 : Int32) {X : va_W} {q : Nat} {fs : List Value} (O : X[q]? = some (x, .inr (10, fs))) {rf rl mc ms : Nat} {RI : Int32 → va_W → Prop} {RX : Nat → va_W → Prop} (hM : metG l D (tyl cI cB cL) ka kv fv yX11_node cX11_node 3 (some .int) rf rl mc ms [.ref x, .int x1, .int x2] X RI RX) (hE : ∀ E X', RX E X' → E = 0 ∨ E = 1) : metW l D (tyl cI cB cL) ka kv fv yL_node cL_node 5 (some .int) [(0, 10, 13, 21), (0, 10, 17, 23)] (rf + 1) (8 + (3 + 11) + rl) mc ms [.ref x, .int x1, .int x2, .ref o] (X ++ oc cL o f) (rW (kc [0, 1]) cL o f Int32.toInt64 RI RX) := by
  intro sz
  refine va_MetW (cc := cL_node) (maxL := 5) (ret := some .int) (hh := [(0, 10, 13, 21), (0, 10, 17, 23)]) (by decide) rfl ?_
  intro p e s m args below meth c s₁ B hml hv
  obtain ⟨rfl, C, S, Kx, Np, hT⟩ := w_entry B hml hv
  have hx := C.1
  have hb := C.2.1
  have hl := lv_entry ([.ref x, .int x1, .int x2, .ref o]) (n := 5) (Nat.le_of_ble_eq_true rfl)
  rw [lg_entry_eq]
  generalize (lg_sl ([.ref x, .int x1, .int x2, .ref o]) ++ List.replicate (5 - (lg_sl ([.ref x, .int x1, .int x2, .ref o])).length) Slot.unset).toArray = ls at hl ⊢
  have hl : lv_has ls 5 [(0, .ref x), (1, .int x1), (2, .int x2), (3, .ref o)] := hl
  have hsz := hl.1
  refine lv_aload_n hx hb dL_node_0 rfl (lv_at hl 3 rfl) ?_
  refine lv_iconst (v := 0) hx hb dL_node_1 (by decide) ?_
  refine lv_aload_n hx hb dL_node_2 rfl (lv_at hl 0 rfl) ?_
  refine lv_iload_n hx hb dL_node_3 rfl (lv_at hl 1 rfl) ?_
  refine lv_iload_n hx hb dL_node_4 rfl (lv_at hl 2 rfl) ?_
  refine g_callVi (As := [.int x1, .int x2]) (na := 2) C Kx S O rfl hM mw_991 mw_992 mw_993 mw_321 mw_994 hdX11_node ⟨Nat.le_refl _, Nat.le_refl _⟩ rfl hsz ⟨Nat.le_of_eq (Nat.zero_add _), Nat.le_of_eq (Nat.zero_add _)⟩ (Nat.le_of_ble_eq_true rfl) dL_node_5 rfl (fun E X' ce q9 H locs hX S hce hcv hcl => ?_) (fun r X' H locs hI S => ?_)
  · rcases hE E X' hX with rfl | rfl
    · refine vx_catch C.2.2.2.1 [] (⟨0, 10, 13, 21⟩ : ExceptionTableEntry) [(⟨0, 10, 17, 23⟩ : ExceptionTableEntry)] hT (fun z hz => by cases hz) rfl (by decide) (C.2.2.2.2.1 _ mw_995) (x_hat cst_0 cst_0a C.2.2.2.2.1 Kx.2.2.2.2.2.2 _ (List.mem_singleton.mpr rfl)) hce hcv hcl ?_
      refine W.eq (g2 := F0 m 13 ls [.ref q9]) rfl ?_
      refine lv_astore hx hb dL_node_13 hl (by decide) rfl (fun ls hl => ?_)
      refine lv_iconst (v := 1) hx hb dL_node_15 (by decide) ?_
      exact w_iret C S (Or.inr ⟨_, X', hX, rfl, rfl⟩) ⟨Nat.le_of_eq (Nat.zero_add _), Nat.le_of_eq (Nat.zero_add _)⟩ dL_node_16
    · refine vx_catch C.2.2.2.1 [(⟨0, 10, 13, 21⟩ : ExceptionTableEntry)] (⟨0, 10, 17, 23⟩ : ExceptionTableEntry) [] hT (fun z hz => by
      simp only [List.mem_cons, List.not_mem_nil, or_false] at hz
      rcases hz with rfl
      · exact Or.inr ⟨by decide, _, C.2.2.2.2.1 _ mw_995, Np 1 0 (by decide) (by decide) (by decide)⟩) rfl (by decide) (C.2.2.2.2.1 _ mw_996) (x_hat cst_1 cst_1a C.2.2.2.2.1 Kx.2.2.2.2.2.2 _ (List.mem_singleton.mpr rfl)) hce hcv hcl ?_
      refine W.eq (g2 := F0 m 17 ls [.ref q9]) rfl ?_
      refine lv_astore hx hb dL_node_17 hl (by decide) rfl (fun ls hl => ?_)
      refine lv_iconst (v := 2) hx hb dL_node_19 (by decide) ?_
      exact w_iret C S (Or.inr ⟨_, X', hX, rfl, rfl⟩) ⟨Nat.le_of_eq (Nat.zero_add _), Nat.le_of_eq (Nat.zero_add _)⟩ dL_node_20
  · refine lv_i2l (v := r.toInt64) hx hb dL_node_8 rfl ?_
    refine g_last C S dL_node_9 (fun g H locs hg S => ?_)
    refine lv_goto (tgt := 21) hx hb dL_node_10 (by decide) ?_
    refine lv_iconst (v := 0) hx hb dL_node_21 (by decide) ?_
    exact w_iret C S (Or.inl ⟨rfl, r, X', g, hI, hg, rfl⟩) ⟨Nat.le_of_eq (Nat.zero_add _), Nat.le_of_eq (Nat.zero_add _)⟩ dL_node_22
set_option maxRecDepth 10000 in
set_option maxHeartbeats 4000000 in
theorem wl_group (l : Launch) (D : va_G) (cI cB cL : ClassId) (ka kv : Nat → Nat) (fv : Value) (x o : Nat) (f : Nat → Int64) (x1 : Int32) {X : va_W} {q : Nat} {fs : List Value} (O : X[q]? = some (x, .inr (10, fs))) {rf rl mc ms : Nat} {RI : Int32 → va_W → Prop} {RX : Nat → va_W → Prop} (hM : metG l D (tyl cI cB cL) ka kv fv yX11_group cX11_group 2 (some .int) rf rl mc ms [.ref x, .int x1] X RI RX) (hE : ∀ E X', RX E X' → E = 0) : metW l D (tyl cI cB cL) ka kv fv yL_group cL_group 4 (some .int) [(0, 9, 12, 21)] (rf + 1) (8 + (2 + 11) + rl) mc ms [.ref x, .int x1, .ref o] (X ++ oc cL o f) (rW (kc [0]) cL o f Int32.toInt64 RI RX) := by
  intro sz
  refine va_MetW (cc := cL_group) (maxL := 4) (ret := some .int) (hh := [(0, 9, 12, 21)]) (by decide) rfl ?_
  intro p e s m args below meth c s₁ B hml hv
  obtain ⟨rfl, C, S, Kx, Np, hT⟩ := w_entry B hml hv
  have hx := C.1
  have hb := C.2.1
  have hl := lv_entry ([.ref x, .int x1, .ref o]) (n := 4) (Nat.le_of_ble_eq_true rfl)
  rw [lg_entry_eq]
  generalize (lg_sl ([.ref x, .int x1, .ref o]) ++ List.replicate (4 - (lg_sl ([.ref x, .int x1, .ref o])).length) Slot.unset).toArray = ls at hl ⊢
  have hl : lv_has ls 4 [(0, .ref x), (1, .int x1), (2, .ref o)] := hl
  have hsz := hl.1
  refine lv_aload_n hx hb dL_group_0 rfl (lv_at hl 2 rfl) ?_
  refine lv_iconst (v := 0) hx hb dL_group_1 (by decide) ?_
  refine lv_aload_n hx hb dL_group_2 rfl (lv_at hl 0 rfl) ?_
  refine lv_iload_n hx hb dL_group_3 rfl (lv_at hl 1 rfl) ?_
  refine g_callVi (As := [.int x1]) (na := 1) C Kx S O rfl hM mw_997 mw_998 mw_999 mw_321 mw_1000 hdX11_group ⟨Nat.le_refl _, Nat.le_refl _⟩ rfl hsz ⟨Nat.le_of_eq (Nat.zero_add _), Nat.le_of_eq (Nat.zero_add _)⟩ (Nat.le_of_ble_eq_true rfl) dL_group_4 rfl (fun E X' ce q9 H locs hX S hce hcv hcl => ?_) (fun r X' H locs hI S => ?_)
  · rcases hE E X' hX with rfl
    · refine vx_catch C.2.2.2.1 [] (⟨0, 9, 12, 21⟩ : ExceptionTableEntry) [] hT (fun z hz => by cases hz) rfl (by decide) (C.2.2.2.2.1 _ mw_995) (x_hat cst_0 cst_0a C.2.2.2.2.1 Kx.2.2.2.2.2.2 _ (List.mem_singleton.mpr rfl)) hce hcv hcl ?_
      refine W.eq (g2 := F0 m 12 ls [.ref q9]) rfl ?_
      refine lv_astore_n hx hb dL_group_12 rfl hl (by decide) rfl (fun ls hl => ?_)
      refine lv_iconst (v := 1) hx hb dL_group_13 (by decide) ?_
      exact w_iret C S (Or.inr ⟨_, X', hX, rfl, rfl⟩) ⟨Nat.le_of_eq (Nat.zero_add _), Nat.le_of_eq (Nat.zero_add _)⟩ dL_group_14
  · refine lv_i2l (v := r.toInt64) hx hb dL_group_7 rfl ?_
    refine g_last C S dL_group_8 (fun g H locs hg S => ?_)
    refine lv_goto (tgt := 15) hx hb dL_group_9 (by decide) ?_
    refine lv_iconst (v := 0) hx hb dL_group_15 (by decide) ?_
    exact w_iret C S (Or.inl ⟨rfl, r, X', g, hI, hg, rfl⟩) ⟨Nat.le_of_eq (Nat.zero_add _), Nat.le_of_eq (Nat.zero_add _)⟩ dL_group_16
set_option maxRecDepth 10000 in
set_option maxHeartbeats 4000000 in
theorem wl_message (l : Launch) (D : va_G) (cI cB cL : ClassId) (ka kv : Nat → Nat) (fv : Value) (x o : Nat) (f : Nat → Int64) (x1 : Int32) (x2 : Int32) {X : va_W} {q : Nat} {fs : List Value} (O : X[q]? = some (x, .inr (10, fs))) {rf rl mc ms : Nat} {RI : Int32 → va_W → Prop} {RX : Nat → va_W → Prop} (hM : metG l D (tyl cI cB cL) ka kv fv yX11_message cX11_message 3 (some .int) rf rl mc ms [.ref x, .int x1, .int x2] X RI RX) (hE : ∀ E X', RX E X' → E = 0 ∨ E = 1) : metW l D (tyl cI cB cL) ka kv fv yL_message cL_message 5 (some .int) [(0, 10, 13, 21), (0, 10, 17, 23)] (rf + 1) (8 + (3 + 11) + rl) mc ms [.ref x, .int x1, .int x2, .ref o] (X ++ oc cL o f) (rW (kc [0, 1]) cL o f Int32.toInt64 RI RX) := by
  intro sz
  refine va_MetW (cc := cL_message) (maxL := 5) (ret := some .int) (hh := [(0, 10, 13, 21), (0, 10, 17, 23)]) (by decide) rfl ?_
  intro p e s m args below meth c s₁ B hml hv
  obtain ⟨rfl, C, S, Kx, Np, hT⟩ := w_entry B hml hv
  have hx := C.1
  have hb := C.2.1
  have hl := lv_entry ([.ref x, .int x1, .int x2, .ref o]) (n := 5) (Nat.le_of_ble_eq_true rfl)
  rw [lg_entry_eq]
  generalize (lg_sl ([.ref x, .int x1, .int x2, .ref o]) ++ List.replicate (5 - (lg_sl ([.ref x, .int x1, .int x2, .ref o])).length) Slot.unset).toArray = ls at hl ⊢
  have hl : lv_has ls 5 [(0, .ref x), (1, .int x1), (2, .int x2), (3, .ref o)] := hl
  have hsz := hl.1
  refine lv_aload_n hx hb dL_message_0 rfl (lv_at hl 3 rfl) ?_
  refine lv_iconst (v := 0) hx hb dL_message_1 (by decide) ?_
  refine lv_aload_n hx hb dL_message_2 rfl (lv_at hl 0 rfl) ?_
  refine lv_iload_n hx hb dL_message_3 rfl (lv_at hl 1 rfl) ?_
  refine lv_iload_n hx hb dL_message_4 rfl (lv_at hl 2 rfl) ?_
  refine g_callVi (As := [.int x1, .int x2]) (na := 2) C Kx S O rfl hM mw_1001 mw_1002 mw_1003 mw_321 mw_1004 hdX11_message ⟨Nat.le_refl _, Nat.le_refl _⟩ rfl hsz ⟨Nat.le_of_eq (Nat.zero_add _), Nat.le_of_eq (Nat.zero_add _)⟩ (Nat.le_of_ble_eq_true rfl) dL_message_5 rfl (fun E X' ce q9 H locs hX S hce hcv hcl => ?_) (fun r X' H locs hI S => ?_)
  · rcases hE E X' hX with rfl | rfl
    · refine vx_catch C.2.2.2.1 [] (⟨0, 10, 13, 21⟩ : ExceptionTableEntry) [(⟨0, 10, 17, 23⟩ : ExceptionTableEntry)] hT (fun z hz => by cases hz) rfl (by decide) (C.2.2.2.2.1 _ mw_995) (x_hat cst_0 cst_0a C.2.2.2.2.1 Kx.2.2.2.2.2.2 _ (List.mem_singleton.mpr rfl)) hce hcv hcl ?_
      refine W.eq (g2 := F0 m 13 ls [.ref q9]) rfl ?_
      refine lv_astore hx hb dL_message_13 hl (by decide) rfl (fun ls hl => ?_)
      refine lv_iconst (v := 1) hx hb dL_message_15 (by decide) ?_
      exact w_iret C S (Or.inr ⟨_, X', hX, rfl, rfl⟩) ⟨Nat.le_of_eq (Nat.zero_add _), Nat.le_of_eq (Nat.zero_add _)⟩ dL_message_16
    · refine vx_catch C.2.2.2.1 [(⟨0, 10, 13, 21⟩ : ExceptionTableEntry)] (⟨0, 10, 17, 23⟩ : ExceptionTableEntry) [] hT (fun z hz => by
      simp only [List.mem_cons, List.not_mem_nil, or_false] at hz
      rcases hz with rfl
      · exact Or.inr ⟨by decide, _, C.2.2.2.2.1 _ mw_995, Np 1 0 (by decide) (by decide) (by decide)⟩) rfl (by decide) (C.2.2.2.2.1 _ mw_996) (x_hat cst_1 cst_1a C.2.2.2.2.1 Kx.2.2.2.2.2.2 _ (List.mem_singleton.mpr rfl)) hce hcv hcl ?_
      refine W.eq (g2 := F0 m 17 ls [.ref q9]) rfl ?_
      refine lv_astore hx hb dL_message_17 hl (by decide) rfl (fun ls hl => ?_)
      refine lv_iconst (v := 2) hx hb dL_message_19 (by decide) ?_
      exact w_iret C S (Or.inr ⟨_, X', hX, rfl, rfl⟩) ⟨Nat.le_of_eq (Nat.zero_add _), Nat.le_of_eq (Nat.zero_add _)⟩ dL_message_20
  · refine lv_i2l (v := r.toInt64) hx hb dL_message_8 rfl ?_
    refine g_last C S dL_message_9 (fun g H locs hg S => ?_)
    refine lv_goto (tgt := 21) hx hb dL_message_10 (by decide) ?_
    refine lv_iconst (v := 0) hx hb dL_message_21 (by decide) ?_
    exact w_iret C S (Or.inl ⟨rfl, r, X', g, hI, hg, rfl⟩) ⟨Nat.le_of_eq (Nat.zero_add _), Nat.le_of_eq (Nat.zero_add _)⟩ dL_message_22
set_option maxRecDepth 10000 in
set_option maxHeartbeats 4000000 in
theorem wl_has (l : Launch) (D : va_G) (cI cB cL : ClassId) (ka kv : Nat → Nat) (fv : Value) (x o : Nat) (f : Nat → Int64) (x1 : Int32) (x2 : Int32) (x3 : Int32) {X : va_W} {q : Nat} {fs : List Value} (O : X[q]? = some (x, .inr (10, fs))) {rf rl mc ms : Nat} {RI : Int32 → va_W → Prop} {RX : Nat → va_W → Prop} (hM : metG l D (tyl cI cB cL) ka kv fv yX11_has cX11_has 7 (some .int) rf rl mc ms [.ref x, .int x1, .int x2, .int x3] X RI RX) (hE : ∀ E X', RX E X' → E = 0 ∨ E = 1) : metW l D (tyl cI cB cL) ka kv fv yL_has cL_has 6 (some .int) [(0, 12, 15, 21), (0, 12, 19, 23)] (rf + 1) (8 + (7 + 11) + rl) mc ms [.ref x, .int x1, .int x2, .int x3, .ref o] (X ++ oc cL o f) (rW (kc [0, 1]) cL o f Int32.toInt64 RI RX) := by
  intro sz
  refine va_MetW (cc := cL_has) (maxL := 6) (ret := some .int) (hh := [(0, 12, 15, 21), (0, 12, 19, 23)]) (by decide) rfl ?_
  intro p e s m args below meth c s₁ B hml hv
  obtain ⟨rfl, C, S, Kx, Np, hT⟩ := w_entry B hml hv
  have hx := C.1
  have hb := C.2.1
  have hl := lv_entry ([.ref x, .int x1, .int x2, .int x3, .ref o]) (n := 6) (Nat.le_of_ble_eq_true rfl)
  rw [lg_entry_eq]
  generalize (lg_sl ([.ref x, .int x1, .int x2, .int x3, .ref o]) ++ List.replicate (6 - (lg_sl ([.ref x, .int x1, .int x2, .int x3, .ref o])).length) Slot.unset).toArray = ls at hl ⊢
  have hl : lv_has ls 6 [(0, .ref x), (1, .int x1), (2, .int x2), (3, .int x3), (4, .ref o)] := hl
  have hsz := hl.1
  refine lv_aload hx hb dL_has_0 (lv_at hl 4 rfl) ?_
  refine lv_iconst (v := 0) hx hb dL_has_2 (by decide) ?_
  refine lv_aload_n hx hb dL_has_3 rfl (lv_at hl 0 rfl) ?_
  refine lv_iload_n hx hb dL_has_4 rfl (lv_at hl 1 rfl) ?_
  refine lv_iload_n hx hb dL_has_5 rfl (lv_at hl 2 rfl) ?_
  refine lv_iload_n hx hb dL_has_6 rfl (lv_at hl 3 rfl) ?_
  refine g_callVi (As := [.int x1, .int x2, .int x3]) (na := 3) C Kx S O rfl hM mw_1005 mw_1006 mw_1007 mw_321 mw_1008 hdX11_has ⟨Nat.le_refl _, Nat.le_refl _⟩ rfl hsz ⟨Nat.le_of_eq (Nat.zero_add _), Nat.le_of_eq (Nat.zero_add _)⟩ (Nat.le_of_ble_eq_true rfl) dL_has_7 rfl (fun E X' ce q9 H locs hX S hce hcv hcl => ?_) (fun r X' H locs hI S => ?_)
  · rcases hE E X' hX with rfl | rfl
    · refine vx_catch C.2.2.2.1 [] (⟨0, 12, 15, 21⟩ : ExceptionTableEntry) [(⟨0, 12, 19, 23⟩ : ExceptionTableEntry)] hT (fun z hz => by cases hz) rfl (by decide) (C.2.2.2.2.1 _ mw_995) (x_hat cst_0 cst_0a C.2.2.2.2.1 Kx.2.2.2.2.2.2 _ (List.mem_singleton.mpr rfl)) hce hcv hcl ?_
      refine W.eq (g2 := F0 m 15 ls [.ref q9]) rfl ?_
      refine lv_astore hx hb dL_has_15 hl (by decide) rfl (fun ls hl => ?_)
      refine lv_iconst (v := 1) hx hb dL_has_17 (by decide) ?_
      exact w_iret C S (Or.inr ⟨_, X', hX, rfl, rfl⟩) ⟨Nat.le_of_eq (Nat.zero_add _), Nat.le_of_eq (Nat.zero_add _)⟩ dL_has_18
    · refine vx_catch C.2.2.2.1 [(⟨0, 12, 15, 21⟩ : ExceptionTableEntry)] (⟨0, 12, 19, 23⟩ : ExceptionTableEntry) [] hT (fun z hz => by
      simp only [List.mem_cons, List.not_mem_nil, or_false] at hz
      rcases hz with rfl
      · exact Or.inr ⟨by decide, _, C.2.2.2.2.1 _ mw_995, Np 1 0 (by decide) (by decide) (by decide)⟩) rfl (by decide) (C.2.2.2.2.1 _ mw_996) (x_hat cst_1 cst_1a C.2.2.2.2.1 Kx.2.2.2.2.2.2 _ (List.mem_singleton.mpr rfl)) hce hcv hcl ?_
      refine W.eq (g2 := F0 m 19 ls [.ref q9]) rfl ?_
      refine lv_astore hx hb dL_has_19 hl (by decide) rfl (fun ls hl => ?_)
      refine lv_iconst (v := 2) hx hb dL_has_21 (by decide) ?_
      exact w_iret C S (Or.inr ⟨_, X', hX, rfl, rfl⟩) ⟨Nat.le_of_eq (Nat.zero_add _), Nat.le_of_eq (Nat.zero_add _)⟩ dL_has_22
  · refine lv_i2l (v := r.toInt64) hx hb dL_has_10 rfl ?_
    refine g_last C S dL_has_11 (fun g H locs hg S => ?_)
    refine lv_goto (tgt := 23) hx hb dL_has_12 (by decide) ?_
    refine lv_iconst (v := 0) hx hb dL_has_23 (by decide) ?_
    exact w_iret C S (Or.inl ⟨rfl, r, X', g, hI, hg, rfl⟩) ⟨Nat.le_of_eq (Nat.zero_add _), Nat.le_of_eq (Nat.zero_add _)⟩ dL_has_24
set_option maxRecDepth 10000 in
set_option maxHeartbeats 4000000 in
theorem wl_delivered (l : Launch) (D : va_G) (cI cB cL : ClassId) (ka kv : Nat → Nat) (fv : Value) (x o : Nat) (f : Nat → Int64) (x1 : Int32) (x2 : Int32) {X : va_W} {q : Nat} {fs : List Value} (O : X[q]? = some (x, .inr (10, fs))) {rf rl mc ms : Nat} {RI : Int32 → va_W → Prop} {RX : Nat → va_W → Prop} (hM : metG l D (tyl cI cB cL) ka kv fv yX11_delivered cX11_delivered 3 (some .int) rf rl mc ms [.ref x, .int x1, .int x2] X RI RX) (hE : ∀ E X', RX E X' → E = 0) : metW l D (tyl cI cB cL) ka kv fv yL_delivered cL_delivered 5 (some .int) [(0, 10, 13, 21)] (rf + 1) (8 + (3 + 11) + rl) mc ms [.ref x, .int x1, .int x2, .ref o] (X ++ oc cL o f) (rW (kc [0]) cL o f Int32.toInt64 RI RX) := by
  intro sz
  refine va_MetW (cc := cL_delivered) (maxL := 5) (ret := some .int) (hh := [(0, 10, 13, 21)]) (by decide) rfl ?_
  intro p e s m args below meth c s₁ B hml hv
  obtain ⟨rfl, C, S, Kx, Np, hT⟩ := w_entry B hml hv
  have hx := C.1
  have hb := C.2.1
  have hl := lv_entry ([.ref x, .int x1, .int x2, .ref o]) (n := 5) (Nat.le_of_ble_eq_true rfl)
  rw [lg_entry_eq]
  generalize (lg_sl ([.ref x, .int x1, .int x2, .ref o]) ++ List.replicate (5 - (lg_sl ([.ref x, .int x1, .int x2, .ref o])).length) Slot.unset).toArray = ls at hl ⊢
  have hl : lv_has ls 5 [(0, .ref x), (1, .int x1), (2, .int x2), (3, .ref o)] := hl
  have hsz := hl.1
  refine lv_aload_n hx hb dL_delivered_0 rfl (lv_at hl 3 rfl) ?_
  refine lv_iconst (v := 0) hx hb dL_delivered_1 (by decide) ?_
  refine lv_aload_n hx hb dL_delivered_2 rfl (lv_at hl 0 rfl) ?_
  refine lv_iload_n hx hb dL_delivered_3 rfl (lv_at hl 1 rfl) ?_
  refine lv_iload_n hx hb dL_delivered_4 rfl (lv_at hl 2 rfl) ?_
  refine g_callVi (As := [.int x1, .int x2]) (na := 2) C Kx S O rfl hM mw_1009 mw_1010 mw_1011 mw_321 mw_1012 hdX11_delivered ⟨Nat.le_refl _, Nat.le_refl _⟩ rfl hsz ⟨Nat.le_of_eq (Nat.zero_add _), Nat.le_of_eq (Nat.zero_add _)⟩ (Nat.le_of_ble_eq_true rfl) dL_delivered_5 rfl (fun E X' ce q9 H locs hX S hce hcv hcl => ?_) (fun r X' H locs hI S => ?_)
  · rcases hE E X' hX with rfl
    · refine vx_catch C.2.2.2.1 [] (⟨0, 10, 13, 21⟩ : ExceptionTableEntry) [] hT (fun z hz => by cases hz) rfl (by decide) (C.2.2.2.2.1 _ mw_995) (x_hat cst_0 cst_0a C.2.2.2.2.1 Kx.2.2.2.2.2.2 _ (List.mem_singleton.mpr rfl)) hce hcv hcl ?_
      refine W.eq (g2 := F0 m 13 ls [.ref q9]) rfl ?_
      refine lv_astore hx hb dL_delivered_13 hl (by decide) rfl (fun ls hl => ?_)
      refine lv_iconst (v := 1) hx hb dL_delivered_15 (by decide) ?_
      exact w_iret C S (Or.inr ⟨_, X', hX, rfl, rfl⟩) ⟨Nat.le_of_eq (Nat.zero_add _), Nat.le_of_eq (Nat.zero_add _)⟩ dL_delivered_16
  · refine lv_i2l (v := r.toInt64) hx hb dL_delivered_8 rfl ?_
    refine g_last C S dL_delivered_9 (fun g H locs hg S => ?_)
    refine lv_goto (tgt := 17) hx hb dL_delivered_10 (by decide) ?_
    refine lv_iconst (v := 0) hx hb dL_delivered_17 (by decide) ?_
    exact w_iret C S (Or.inl ⟨rfl, r, X', g, hI, hg, rfl⟩) ⟨Nat.le_of_eq (Nat.zero_add _), Nat.le_of_eq (Nat.zero_add _)⟩ dL_delivered_18
set_option maxRecDepth 10000 in
set_option maxHeartbeats 4000000 in
theorem wl_channel (l : Launch) (D : va_G) (cI cB cL : ClassId) (ka kv : Nat → Nat) (fv : Value) (x o : Nat) (f : Nat → Int64) (x1 : Int32) (x2 : Int32) (x3 : Int32) {X : va_W} {q : Nat} {fs : List Value} (O : X[q]? = some (x, .inr (10, fs))) {rf rl mc ms : Nat} {RI : Int32 → va_W → Prop} {RX : Nat → va_W → Prop} (hM : metG l D (tyl cI cB cL) ka kv fv yX11_channel cX11_channel 5 (some .int) rf rl mc ms [.ref x, .int x1, .int x2, .int x3] X RI RX) (hE : ∀ E X', RX E X' → E = 0 ∨ E = 1) : metW l D (tyl cI cB cL) ka kv fv yL_channel cL_channel 6 (some .int) [(0, 12, 15, 21), (0, 12, 19, 23)] (rf + 1) (8 + (5 + 11) + rl) mc ms [.ref x, .int x1, .int x2, .int x3, .ref o] (X ++ oc cL o f) (rW (kc [0, 1]) cL o f Int32.toInt64 RI RX) := by
  intro sz
  refine va_MetW (cc := cL_channel) (maxL := 6) (ret := some .int) (hh := [(0, 12, 15, 21), (0, 12, 19, 23)]) (by decide) rfl ?_
  intro p e s m args below meth c s₁ B hml hv
  obtain ⟨rfl, C, S, Kx, Np, hT⟩ := w_entry B hml hv
  have hx := C.1
  have hb := C.2.1
  have hl := lv_entry ([.ref x, .int x1, .int x2, .int x3, .ref o]) (n := 6) (Nat.le_of_ble_eq_true rfl)
  rw [lg_entry_eq]
  generalize (lg_sl ([.ref x, .int x1, .int x2, .int x3, .ref o]) ++ List.replicate (6 - (lg_sl ([.ref x, .int x1, .int x2, .int x3, .ref o])).length) Slot.unset).toArray = ls at hl ⊢
  have hl : lv_has ls 6 [(0, .ref x), (1, .int x1), (2, .int x2), (3, .int x3), (4, .ref o)] := hl
  have hsz := hl.1
  refine lv_aload hx hb dL_channel_0 (lv_at hl 4 rfl) ?_
  refine lv_iconst (v := 0) hx hb dL_channel_2 (by decide) ?_
  refine lv_aload_n hx hb dL_channel_3 rfl (lv_at hl 0 rfl) ?_
  refine lv_iload_n hx hb dL_channel_4 rfl (lv_at hl 1 rfl) ?_
  refine lv_iload_n hx hb dL_channel_5 rfl (lv_at hl 2 rfl) ?_
  refine lv_iload_n hx hb dL_channel_6 rfl (lv_at hl 3 rfl) ?_
  refine g_callVi (As := [.int x1, .int x2, .int x3]) (na := 3) C Kx S O rfl hM mw_1013 mw_1014 mw_1015 mw_321 mw_1016 hdX11_channel ⟨Nat.le_refl _, Nat.le_refl _⟩ rfl hsz ⟨Nat.le_of_eq (Nat.zero_add _), Nat.le_of_eq (Nat.zero_add _)⟩ (Nat.le_of_ble_eq_true rfl) dL_channel_7 rfl (fun E X' ce q9 H locs hX S hce hcv hcl => ?_) (fun r X' H locs hI S => ?_)
  · rcases hE E X' hX with rfl | rfl
    · refine vx_catch C.2.2.2.1 [] (⟨0, 12, 15, 21⟩ : ExceptionTableEntry) [(⟨0, 12, 19, 23⟩ : ExceptionTableEntry)] hT (fun z hz => by cases hz) rfl (by decide) (C.2.2.2.2.1 _ mw_995) (x_hat cst_0 cst_0a C.2.2.2.2.1 Kx.2.2.2.2.2.2 _ (List.mem_singleton.mpr rfl)) hce hcv hcl ?_
      refine W.eq (g2 := F0 m 15 ls [.ref q9]) rfl ?_
      refine lv_astore hx hb dL_channel_15 hl (by decide) rfl (fun ls hl => ?_)
      refine lv_iconst (v := 1) hx hb dL_channel_17 (by decide) ?_
      exact w_iret C S (Or.inr ⟨_, X', hX, rfl, rfl⟩) ⟨Nat.le_of_eq (Nat.zero_add _), Nat.le_of_eq (Nat.zero_add _)⟩ dL_channel_18
    · refine vx_catch C.2.2.2.1 [(⟨0, 12, 15, 21⟩ : ExceptionTableEntry)] (⟨0, 12, 19, 23⟩ : ExceptionTableEntry) [] hT (fun z hz => by
      simp only [List.mem_cons, List.not_mem_nil, or_false] at hz
      rcases hz with rfl
      · exact Or.inr ⟨by decide, _, C.2.2.2.2.1 _ mw_995, Np 1 0 (by decide) (by decide) (by decide)⟩) rfl (by decide) (C.2.2.2.2.1 _ mw_996) (x_hat cst_1 cst_1a C.2.2.2.2.1 Kx.2.2.2.2.2.2 _ (List.mem_singleton.mpr rfl)) hce hcv hcl ?_
      refine W.eq (g2 := F0 m 19 ls [.ref q9]) rfl ?_
      refine lv_astore hx hb dL_channel_19 hl (by decide) rfl (fun ls hl => ?_)
      refine lv_iconst (v := 2) hx hb dL_channel_21 (by decide) ?_
      exact w_iret C S (Or.inr ⟨_, X', hX, rfl, rfl⟩) ⟨Nat.le_of_eq (Nat.zero_add _), Nat.le_of_eq (Nat.zero_add _)⟩ dL_channel_22
  · refine lv_i2l (v := r.toInt64) hx hb dL_channel_10 rfl ?_
    refine g_last C S dL_channel_11 (fun g H locs hg S => ?_)
    refine lv_goto (tgt := 23) hx hb dL_channel_12 (by decide) ?_
    refine lv_iconst (v := 0) hx hb dL_channel_23 (by decide) ?_
    exact w_iret C S (Or.inl ⟨rfl, r, X', g, hI, hg, rfl⟩) ⟨Nat.le_of_eq (Nat.zero_add _), Nat.le_of_eq (Nat.zero_add _)⟩ dL_channel_24
set_option maxRecDepth 10000 in
set_option maxHeartbeats 4000000 in
theorem wl_packet (l : Launch) (D : va_G) (cI cB cL : ClassId) (ka kv : Nat → Nat) (fv : Value) (x o : Nat) (f : Nat → Int64) (x1 : Int32) (x2 : Int32) (x3 : Int32) (x4 : Int32) {X : va_W} {q : Nat} {fs : List Value} (O : X[q]? = some (x, .inr (10, fs))) {rf rl mc ms : Nat} {RI : Int32 → va_W → Prop} {RX : Nat → va_W → Prop} (hM : metG l D (tyl cI cB cL) ka kv fv yX11_packet cX11_packet 7 (some .int) rf rl mc ms [.ref x, .int x1, .int x2, .int x3, .int x4] X RI RX) (hE : ∀ E X', RX E X' → E = 0 ∨ E = 1) : metW l D (tyl cI cB cL) ka kv fv yL_packet cL_packet 7 (some .int) [(0, 14, 17, 21), (0, 14, 21, 23)] (rf + 1) (8 + (7 + 11) + rl) mc ms [.ref x, .int x1, .int x2, .int x3, .int x4, .ref o] (X ++ oc cL o f) (rW (kc [0, 1]) cL o f Int32.toInt64 RI RX) := by
  intro sz
  refine va_MetW (cc := cL_packet) (maxL := 7) (ret := some .int) (hh := [(0, 14, 17, 21), (0, 14, 21, 23)]) (by decide) rfl ?_
  intro p e s m args below meth c s₁ B hml hv
  obtain ⟨rfl, C, S, Kx, Np, hT⟩ := w_entry B hml hv
  have hx := C.1
  have hb := C.2.1
  have hl := lv_entry ([.ref x, .int x1, .int x2, .int x3, .int x4, .ref o]) (n := 7) (Nat.le_of_ble_eq_true rfl)
  rw [lg_entry_eq]
  generalize (lg_sl ([.ref x, .int x1, .int x2, .int x3, .int x4, .ref o]) ++ List.replicate (7 - (lg_sl ([.ref x, .int x1, .int x2, .int x3, .int x4, .ref o])).length) Slot.unset).toArray = ls at hl ⊢
  have hl : lv_has ls 7 [(0, .ref x), (1, .int x1), (2, .int x2), (3, .int x3), (4, .int x4), (5, .ref o)] := hl
  have hsz := hl.1
  refine lv_aload hx hb dL_packet_0 (lv_at hl 5 rfl) ?_
  refine lv_iconst (v := 0) hx hb dL_packet_2 (by decide) ?_
  refine lv_aload_n hx hb dL_packet_3 rfl (lv_at hl 0 rfl) ?_
  refine lv_iload_n hx hb dL_packet_4 rfl (lv_at hl 1 rfl) ?_
  refine lv_iload_n hx hb dL_packet_5 rfl (lv_at hl 2 rfl) ?_
  refine lv_iload_n hx hb dL_packet_6 rfl (lv_at hl 3 rfl) ?_
  refine lv_iload hx hb dL_packet_7 (lv_at hl 4 rfl) ?_
  refine g_callVi (As := [.int x1, .int x2, .int x3, .int x4]) (na := 4) C Kx S O rfl hM mw_1017 mw_1018 mw_1019 mw_321 mw_1020 hdX11_packet ⟨Nat.le_refl _, Nat.le_refl _⟩ rfl hsz ⟨Nat.le_of_eq (Nat.zero_add _), Nat.le_of_eq (Nat.zero_add _)⟩ (Nat.le_of_ble_eq_true rfl) dL_packet_9 rfl (fun E X' ce q9 H locs hX S hce hcv hcl => ?_) (fun r X' H locs hI S => ?_)
  · rcases hE E X' hX with rfl | rfl
    · refine vx_catch C.2.2.2.1 [] (⟨0, 14, 17, 21⟩ : ExceptionTableEntry) [(⟨0, 14, 21, 23⟩ : ExceptionTableEntry)] hT (fun z hz => by cases hz) rfl (by decide) (C.2.2.2.2.1 _ mw_995) (x_hat cst_0 cst_0a C.2.2.2.2.1 Kx.2.2.2.2.2.2 _ (List.mem_singleton.mpr rfl)) hce hcv hcl ?_
      refine W.eq (g2 := F0 m 17 ls [.ref q9]) rfl ?_
      refine lv_astore hx hb dL_packet_17 hl (by decide) rfl (fun ls hl => ?_)
      refine lv_iconst (v := 1) hx hb dL_packet_19 (by decide) ?_
      exact w_iret C S (Or.inr ⟨_, X', hX, rfl, rfl⟩) ⟨Nat.le_of_eq (Nat.zero_add _), Nat.le_of_eq (Nat.zero_add _)⟩ dL_packet_20
    · refine vx_catch C.2.2.2.1 [(⟨0, 14, 17, 21⟩ : ExceptionTableEntry)] (⟨0, 14, 21, 23⟩ : ExceptionTableEntry) [] hT (fun z hz => by
      simp only [List.mem_cons, List.not_mem_nil, or_false] at hz
      rcases hz with rfl
      · exact Or.inr ⟨by decide, _, C.2.2.2.2.1 _ mw_995, Np 1 0 (by decide) (by decide) (by decide)⟩) rfl (by decide) (C.2.2.2.2.1 _ mw_996) (x_hat cst_1 cst_1a C.2.2.2.2.1 Kx.2.2.2.2.2.2 _ (List.mem_singleton.mpr rfl)) hce hcv hcl ?_
      refine W.eq (g2 := F0 m 21 ls [.ref q9]) rfl ?_
      refine lv_astore hx hb dL_packet_21 hl (by decide) rfl (fun ls hl => ?_)
      refine lv_iconst (v := 2) hx hb dL_packet_23 (by decide) ?_
      exact w_iret C S (Or.inr ⟨_, X', hX, rfl, rfl⟩) ⟨Nat.le_of_eq (Nat.zero_add _), Nat.le_of_eq (Nat.zero_add _)⟩ dL_packet_24
  · refine lv_i2l (v := r.toInt64) hx hb dL_packet_12 rfl ?_
    refine g_last C S dL_packet_13 (fun g H locs hg S => ?_)
    refine lv_goto (tgt := 25) hx hb dL_packet_14 (by decide) ?_
    refine lv_iconst (v := 0) hx hb dL_packet_25 (by decide) ?_
    exact w_iret C S (Or.inl ⟨rfl, r, X', g, hI, hg, rfl⟩) ⟨Nat.le_of_eq (Nat.zero_add _), Nat.le_of_eq (Nat.zero_add _)⟩ dL_packet_26
set_option maxRecDepth 10000 in
set_option maxHeartbeats 4000000 in
theorem wl_gather (l : Launch) (D : va_G) (cI cB cL : ClassId) (ka kv : Nat → Nat) (fv : Value) (x o : Nat) (f : Nat → Int64) (x1 : Int32) (x2 : Int32) (x3 : Int32) {X : va_W} {q : Nat} {fs : List Value} (O : X[q]? = some (x, .inr (10, fs))) {rf rl mc ms : Nat} {RI : Int32 → va_W → Prop} {RX : Nat → va_W → Prop} (hM : metG l D (tyl cI cB cL) ka kv fv yX11_gather cX11_gather 5 (some .int) rf rl mc ms [.ref x, .int x1, .int x2, .int x3] X RI RX) (hE : ∀ E X', RX E X' → E = 0 ∨ E = 2 ∨ E = 1) : metW l D (tyl cI cB cL) ka kv fv yL_gather cL_gather 6 (some .int) [(0, 12, 15, 21), (0, 12, 19, 49), (0, 12, 23, 23)] (rf + 1) (8 + (5 + 11) + rl) mc ms [.ref x, .int x1, .int x2, .int x3, .ref o] (X ++ oc cL o f) (rW (kc [0, 2, 1]) cL o f Int32.toInt64 RI RX) := by
  intro sz
  refine va_MetW (cc := cL_gather) (maxL := 6) (ret := some .int) (hh := [(0, 12, 15, 21), (0, 12, 19, 49), (0, 12, 23, 23)]) (by decide) rfl ?_
  intro p e s m args below meth c s₁ B hml hv
  obtain ⟨rfl, C, S, Kx, Np, hT⟩ := w_entry B hml hv
  have hx := C.1
  have hb := C.2.1
  have hl := lv_entry ([.ref x, .int x1, .int x2, .int x3, .ref o]) (n := 6) (Nat.le_of_ble_eq_true rfl)
  rw [lg_entry_eq]
  generalize (lg_sl ([.ref x, .int x1, .int x2, .int x3, .ref o]) ++ List.replicate (6 - (lg_sl ([.ref x, .int x1, .int x2, .int x3, .ref o])).length) Slot.unset).toArray = ls at hl ⊢
  have hl : lv_has ls 6 [(0, .ref x), (1, .int x1), (2, .int x2), (3, .int x3), (4, .ref o)] := hl
  have hsz := hl.1
  refine lv_aload hx hb dL_gather_0 (lv_at hl 4 rfl) ?_
  refine lv_iconst (v := 0) hx hb dL_gather_2 (by decide) ?_
  refine lv_aload_n hx hb dL_gather_3 rfl (lv_at hl 0 rfl) ?_
  refine lv_iload_n hx hb dL_gather_4 rfl (lv_at hl 1 rfl) ?_
  refine lv_iload_n hx hb dL_gather_5 rfl (lv_at hl 2 rfl) ?_
  refine lv_iload_n hx hb dL_gather_6 rfl (lv_at hl 3 rfl) ?_
  refine g_callVi (As := [.int x1, .int x2, .int x3]) (na := 3) C Kx S O rfl hM mw_1021 mw_1022 mw_1023 mw_321 mw_1024 hdX11_gather ⟨Nat.le_refl _, Nat.le_refl _⟩ rfl hsz ⟨Nat.le_of_eq (Nat.zero_add _), Nat.le_of_eq (Nat.zero_add _)⟩ (Nat.le_of_ble_eq_true rfl) dL_gather_7 rfl (fun E X' ce q9 H locs hX S hce hcv hcl => ?_) (fun r X' H locs hI S => ?_)
  · rcases hE E X' hX with rfl | rfl | rfl
    · refine vx_catch C.2.2.2.1 [] (⟨0, 12, 15, 21⟩ : ExceptionTableEntry) [(⟨0, 12, 19, 49⟩ : ExceptionTableEntry), (⟨0, 12, 23, 23⟩ : ExceptionTableEntry)] hT (fun z hz => by cases hz) rfl (by decide) (C.2.2.2.2.1 _ mw_995) (x_hat cst_0 cst_0a C.2.2.2.2.1 Kx.2.2.2.2.2.2 _ (List.mem_singleton.mpr rfl)) hce hcv hcl ?_
      refine W.eq (g2 := F0 m 15 ls [.ref q9]) rfl ?_
      refine lv_astore hx hb dL_gather_15 hl (by decide) rfl (fun ls hl => ?_)
      refine lv_iconst (v := 1) hx hb dL_gather_17 (by decide) ?_
      exact w_iret C S (Or.inr ⟨_, X', hX, rfl, rfl⟩) ⟨Nat.le_of_eq (Nat.zero_add _), Nat.le_of_eq (Nat.zero_add _)⟩ dL_gather_18
    · refine vx_catch C.2.2.2.1 [(⟨0, 12, 15, 21⟩ : ExceptionTableEntry)] (⟨0, 12, 19, 49⟩ : ExceptionTableEntry) [(⟨0, 12, 23, 23⟩ : ExceptionTableEntry)] hT (fun z hz => by
      simp only [List.mem_cons, List.not_mem_nil, or_false] at hz
      rcases hz with rfl
      · exact Or.inr ⟨by decide, _, C.2.2.2.2.1 _ mw_995, Np 2 0 (by decide) (by decide) (by decide)⟩) rfl (by decide) (C.2.2.2.2.1 _ mw_1025) (x_hat cst_2 cst_2a C.2.2.2.2.1 Kx.2.2.2.2.2.2 _ (List.mem_singleton.mpr rfl)) hce hcv hcl ?_
      refine W.eq (g2 := F0 m 19 ls [.ref q9]) rfl ?_
      refine lv_astore hx hb dL_gather_19 hl (by decide) rfl (fun ls hl => ?_)
      refine lv_iconst (v := 2) hx hb dL_gather_21 (by decide) ?_
      exact w_iret C S (Or.inr ⟨_, X', hX, rfl, rfl⟩) ⟨Nat.le_of_eq (Nat.zero_add _), Nat.le_of_eq (Nat.zero_add _)⟩ dL_gather_22
    · refine vx_catch C.2.2.2.1 [(⟨0, 12, 15, 21⟩ : ExceptionTableEntry), (⟨0, 12, 19, 49⟩ : ExceptionTableEntry)] (⟨0, 12, 23, 23⟩ : ExceptionTableEntry) [] hT (fun z hz => by
      simp only [List.mem_cons, List.not_mem_nil, or_false] at hz
      rcases hz with rfl | rfl
      · exact Or.inr ⟨by decide, _, C.2.2.2.2.1 _ mw_995, Np 1 0 (by decide) (by decide) (by decide)⟩
      · exact Or.inr ⟨by decide, _, C.2.2.2.2.1 _ mw_1025, Np 1 2 (by decide) (by decide) (by decide)⟩) rfl (by decide) (C.2.2.2.2.1 _ mw_996) (x_hat cst_1 cst_1a C.2.2.2.2.1 Kx.2.2.2.2.2.2 _ (List.mem_singleton.mpr rfl)) hce hcv hcl ?_
      refine W.eq (g2 := F0 m 23 ls [.ref q9]) rfl ?_
      refine lv_astore hx hb dL_gather_23 hl (by decide) rfl (fun ls hl => ?_)
      refine lv_iconst (v := 3) hx hb dL_gather_25 (by decide) ?_
      exact w_iret C S (Or.inr ⟨_, X', hX, rfl, rfl⟩) ⟨Nat.le_of_eq (Nat.zero_add _), Nat.le_of_eq (Nat.zero_add _)⟩ dL_gather_26
  · refine lv_i2l (v := r.toInt64) hx hb dL_gather_10 rfl ?_
    refine g_last C S dL_gather_11 (fun g H locs hg S => ?_)
    refine lv_goto (tgt := 27) hx hb dL_gather_12 (by decide) ?_
    refine lv_iconst (v := 0) hx hb dL_gather_27 (by decide) ?_
    exact w_iret C S (Or.inl ⟨rfl, r, X', g, hI, hg, rfl⟩) ⟨Nat.le_of_eq (Nat.zero_add _), Nat.le_of_eq (Nat.zero_add _)⟩ dL_gather_28
set_option maxRecDepth 10000 in
set_option maxHeartbeats 4000000 in
theorem wl_ticks (l : Launch) (D : va_G) (cI cB cL : ClassId) (ka kv : Nat → Nat) (fv : Value) (x o : Nat) (f : Nat → Int64) (x1 : Int32) {X : va_W} {q : Nat} {fs : List Value} (O : X[q]? = some (x, .inr (10, fs))) {rf rl mc ms : Nat} {RI : Int32 → va_W → Prop} {RX : Nat → va_W → Prop} (hM : metG l D (tyl cI cB cL) ka kv fv yX11_ticks cX11_ticks 4 (some .int) rf rl mc ms [.ref x, .int x1] X RI RX) (hE : ∀ E X', RX E X' → E = 3) : metW l D (tyl cI cB cL) ka kv fv yL_ticks cL_ticks 4 (some .int) [(0, 9, 12, 13)] (rf + 1) (8 + (4 + 11) + rl) mc ms [.ref x, .int x1, .ref o] (X ++ oc cL o f) (rW (kc [3]) cL o f Int32.toInt64 RI RX) := by
  intro sz
  refine va_MetW (cc := cL_ticks) (maxL := 4) (ret := some .int) (hh := [(0, 9, 12, 13)]) (by decide) rfl ?_
  intro p e s m args below meth c s₁ B hml hv
  obtain ⟨rfl, C, S, Kx, Np, hT⟩ := w_entry B hml hv
  have hx := C.1
  have hb := C.2.1
  have hl := lv_entry ([.ref x, .int x1, .ref o]) (n := 4) (Nat.le_of_ble_eq_true rfl)
  rw [lg_entry_eq]
  generalize (lg_sl ([.ref x, .int x1, .ref o]) ++ List.replicate (4 - (lg_sl ([.ref x, .int x1, .ref o])).length) Slot.unset).toArray = ls at hl ⊢
  have hl : lv_has ls 4 [(0, .ref x), (1, .int x1), (2, .ref o)] := hl
  have hsz := hl.1
  refine lv_aload_n hx hb dL_ticks_0 rfl (lv_at hl 2 rfl) ?_
  refine lv_iconst (v := 0) hx hb dL_ticks_1 (by decide) ?_
  refine lv_aload_n hx hb dL_ticks_2 rfl (lv_at hl 0 rfl) ?_
  refine lv_iload_n hx hb dL_ticks_3 rfl (lv_at hl 1 rfl) ?_
  refine g_callVi (As := [.int x1]) (na := 1) C Kx S O rfl hM mw_1026 mw_1027 mw_1028 mw_321 mw_1029 hdX11_ticks ⟨Nat.le_refl _, Nat.le_refl _⟩ rfl hsz ⟨Nat.le_of_eq (Nat.zero_add _), Nat.le_of_eq (Nat.zero_add _)⟩ (Nat.le_of_ble_eq_true rfl) dL_ticks_4 rfl (fun E X' ce q9 H locs hX S hce hcv hcl => ?_) (fun r X' H locs hI S => ?_)
  · rcases hE E X' hX with rfl
    · refine vx_catch C.2.2.2.1 [] (⟨0, 9, 12, 13⟩ : ExceptionTableEntry) [] hT (fun z hz => by cases hz) rfl (by decide) (C.2.2.2.2.1 _ mw_989) (x_hat cst_3 cst_3a C.2.2.2.2.1 Kx.2.2.2.2.2.2 _ (List.mem_singleton.mpr rfl)) hce hcv hcl ?_
      refine W.eq (g2 := F0 m 12 ls [.ref q9]) rfl ?_
      refine lv_astore_n hx hb dL_ticks_12 rfl hl (by decide) rfl (fun ls hl => ?_)
      refine lv_iconst (v := 1) hx hb dL_ticks_13 (by decide) ?_
      exact w_iret C S (Or.inr ⟨_, X', hX, rfl, rfl⟩) ⟨Nat.le_of_eq (Nat.zero_add _), Nat.le_of_eq (Nat.zero_add _)⟩ dL_ticks_14
  · refine lv_i2l (v := r.toInt64) hx hb dL_ticks_7 rfl ?_
    refine g_last C S dL_ticks_8 (fun g H locs hg S => ?_)
    refine lv_goto (tgt := 15) hx hb dL_ticks_9 (by decide) ?_
    refine lv_iconst (v := 0) hx hb dL_ticks_15 (by decide) ?_
    exact w_iret C S (Or.inl ⟨rfl, r, X', g, hI, hg, rfl⟩) ⟨Nat.le_of_eq (Nat.zero_add _), Nat.le_of_eq (Nat.zero_add _)⟩ dL_ticks_16
set_option maxRecDepth 10000 in
set_option maxHeartbeats 4000000 in
theorem wl_send (l : Launch) (D : va_G) (cI cB cL : ClassId) (ka kv : Nat → Nat) (fv : Value) (x o : Nat) (f : Nat → Int64) (x1 : Int32) (x2 : Int32) {X : va_W} {q : Nat} {fs : List Value} (O : X[q]? = some (x, .inr (10, fs))) {rf rl mc ms : Nat} {RI : Int32 → va_W → Prop} {RX : Nat → va_W → Prop} (hM : metG l D (tyl cI cB cL) ka kv fv yX11_send cX11_send 3 (some .int) rf rl mc ms [.ref x, .int x1, .int x2] X RI RX) (hE : ∀ E X', RX E X' → E = 0 ∨ E = 2) : metW l D (tyl cI cB cL) ka kv fv yL_send cL_send 5 (some .int) [(0, 10, 13, 21), (0, 10, 17, 49)] (rf + 1) (8 + (3 + 11) + rl) mc ms [.ref x, .int x1, .int x2, .ref o] (X ++ oc cL o f) (rW (kc [0, 2]) cL o f Int32.toInt64 RI RX) := by
  intro sz
  refine va_MetW (cc := cL_send) (maxL := 5) (ret := some .int) (hh := [(0, 10, 13, 21), (0, 10, 17, 49)]) (by decide) rfl ?_
  intro p e s m args below meth c s₁ B hml hv
  obtain ⟨rfl, C, S, Kx, Np, hT⟩ := w_entry B hml hv
  have hx := C.1
  have hb := C.2.1
  have hl := lv_entry ([.ref x, .int x1, .int x2, .ref o]) (n := 5) (Nat.le_of_ble_eq_true rfl)
  rw [lg_entry_eq]
  generalize (lg_sl ([.ref x, .int x1, .int x2, .ref o]) ++ List.replicate (5 - (lg_sl ([.ref x, .int x1, .int x2, .ref o])).length) Slot.unset).toArray = ls at hl ⊢
  have hl : lv_has ls 5 [(0, .ref x), (1, .int x1), (2, .int x2), (3, .ref o)] := hl
  have hsz := hl.1
  refine lv_aload_n hx hb dL_send_0 rfl (lv_at hl 3 rfl) ?_
  refine lv_iconst (v := 0) hx hb dL_send_1 (by decide) ?_
  refine lv_aload_n hx hb dL_send_2 rfl (lv_at hl 0 rfl) ?_
  refine lv_iload_n hx hb dL_send_3 rfl (lv_at hl 1 rfl) ?_
  refine lv_iload_n hx hb dL_send_4 rfl (lv_at hl 2 rfl) ?_
  refine g_callVi (As := [.int x1, .int x2]) (na := 2) C Kx S O rfl hM mw_1030 mw_1031 mw_1032 mw_321 mw_1033 hdX11_send ⟨Nat.le_refl _, Nat.le_refl _⟩ rfl hsz ⟨Nat.le_of_eq (Nat.zero_add _), Nat.le_of_eq (Nat.zero_add _)⟩ (Nat.le_of_ble_eq_true rfl) dL_send_5 rfl (fun E X' ce q9 H locs hX S hce hcv hcl => ?_) (fun r X' H locs hI S => ?_)
  · rcases hE E X' hX with rfl | rfl
    · refine vx_catch C.2.2.2.1 [] (⟨0, 10, 13, 21⟩ : ExceptionTableEntry) [(⟨0, 10, 17, 49⟩ : ExceptionTableEntry)] hT (fun z hz => by cases hz) rfl (by decide) (C.2.2.2.2.1 _ mw_995) (x_hat cst_0 cst_0a C.2.2.2.2.1 Kx.2.2.2.2.2.2 _ (List.mem_singleton.mpr rfl)) hce hcv hcl ?_
      refine W.eq (g2 := F0 m 13 ls [.ref q9]) rfl ?_
      refine lv_astore hx hb dL_send_13 hl (by decide) rfl (fun ls hl => ?_)
      refine lv_iconst (v := 1) hx hb dL_send_15 (by decide) ?_
      exact w_iret C S (Or.inr ⟨_, X', hX, rfl, rfl⟩) ⟨Nat.le_of_eq (Nat.zero_add _), Nat.le_of_eq (Nat.zero_add _)⟩ dL_send_16
    · refine vx_catch C.2.2.2.1 [(⟨0, 10, 13, 21⟩ : ExceptionTableEntry)] (⟨0, 10, 17, 49⟩ : ExceptionTableEntry) [] hT (fun z hz => by
      simp only [List.mem_cons, List.not_mem_nil, or_false] at hz
      rcases hz with rfl
      · exact Or.inr ⟨by decide, _, C.2.2.2.2.1 _ mw_995, Np 2 0 (by decide) (by decide) (by decide)⟩) rfl (by decide) (C.2.2.2.2.1 _ mw_1025) (x_hat cst_2 cst_2a C.2.2.2.2.1 Kx.2.2.2.2.2.2 _ (List.mem_singleton.mpr rfl)) hce hcv hcl ?_
      refine W.eq (g2 := F0 m 17 ls [.ref q9]) rfl ?_
      refine lv_astore hx hb dL_send_17 hl (by decide) rfl (fun ls hl => ?_)
      refine lv_iconst (v := 2) hx hb dL_send_19 (by decide) ?_
      exact w_iret C S (Or.inr ⟨_, X', hX, rfl, rfl⟩) ⟨Nat.le_of_eq (Nat.zero_add _), Nat.le_of_eq (Nat.zero_add _)⟩ dL_send_20
  · refine lv_i2l (v := r.toInt64) hx hb dL_send_8 rfl ?_
    refine g_last C S dL_send_9 (fun g H locs hg S => ?_)
    refine lv_goto (tgt := 21) hx hb dL_send_10 (by decide) ?_
    refine lv_iconst (v := 0) hx hb dL_send_21 (by decide) ?_
    exact w_iret C S (Or.inl ⟨rfl, r, X', g, hI, hg, rfl⟩) ⟨Nat.le_of_eq (Nat.zero_add _), Nat.le_of_eq (Nat.zero_add _)⟩ dL_send_22
set_option maxRecDepth 10000 in
set_option maxHeartbeats 4000000 in
theorem wl_crash (l : Launch) (D : va_G) (cI cB cL : ClassId) (ka kv : Nat → Nat) (fv : Value) (x : Nat) (x1 : Int32) {X : va_W} {q : Nat} {fs : List Value} (O : X[q]? = some (x, .inr (10, fs))) {rf rl mc ms : Nat} {RV : va_W → Prop} {RX : Nat → va_W → Prop} (hM : metGV l D (tyl cI cB cL) ka kv fv yX11_crash cX11_crash 2 rf rl mc ms [.ref x, .int x1] X RV RX) (hE : ∀ E X', RX E X' → E = 0 ∨ E = 2) : metW l D (tyl cI cB cL) ka kv fv yL_crash cL_crash 3 (some .int) [(0, 5, 8, 21), (0, 5, 11, 49)] (rf + 1) (8 + (2 + 11) + rl) mc ms [.ref x, .int x1] (X ++ []) (fun k W' => (k = 0 ∧ ∃ X', RV X' ∧ W' = X' ++ []) ∨ ∃ E X', RX E X' ∧ k = (kc [0, 2]) E ∧ W' = X' ++ []) := by
  intro sz
  refine va_MetW (cc := cL_crash) (maxL := 3) (ret := some .int) (hh := [(0, 5, 8, 21), (0, 5, 11, 49)]) (by decide) rfl ?_
  intro p e s m args below meth c s₁ B hml hv
  obtain ⟨rfl, C, S, Kx, Np, hT⟩ := w_entry B hml hv
  have hx := C.1
  have hb := C.2.1
  have hl := lv_entry ([.ref x, .int x1]) (n := 3) (Nat.le_of_ble_eq_true rfl)
  rw [lg_entry_eq]
  generalize (lg_sl ([.ref x, .int x1]) ++ List.replicate (3 - (lg_sl ([.ref x, .int x1])).length) Slot.unset).toArray = ls at hl ⊢
  have hl : lv_has ls 3 [(0, .ref x), (1, .int x1)] := hl
  have hsz := hl.1
  refine lv_aload_n hx hb dL_crash_0 rfl (lv_at hl 0 rfl) ?_
  refine lv_iload_n hx hb dL_crash_1 rfl (lv_at hl 1 rfl) ?_
  refine g_callVv (As := [.int x1]) (na := 1) C Kx S O rfl hM mw_1034 mw_1035 mw_1036 mw_321 mw_1037 hdX11_crash ⟨Nat.le_refl _, Nat.le_refl _⟩ rfl hsz ⟨Nat.le_of_eq (Nat.zero_add _), Nat.le_of_eq (Nat.zero_add _)⟩ (Nat.le_of_ble_eq_true rfl) dL_crash_2 rfl (fun E X' ce q9 H locs hX S hce hcv hcl => ?_) (fun X' H locs hI S => ?_)
  · rcases hE E X' hX with rfl | rfl
    · refine vx_catch C.2.2.2.1 [] (⟨0, 5, 8, 21⟩ : ExceptionTableEntry) [(⟨0, 5, 11, 49⟩ : ExceptionTableEntry)] hT (fun z hz => by cases hz) rfl (by decide) (C.2.2.2.2.1 _ mw_995) (x_hat cst_0 cst_0a C.2.2.2.2.1 Kx.2.2.2.2.2.2 _ (List.mem_singleton.mpr rfl)) hce hcv hcl ?_
      refine W.eq (g2 := F0 m 8 ls [.ref q9]) rfl ?_
      refine lv_astore_n hx hb dL_crash_8 rfl hl (by decide) rfl (fun ls hl => ?_)
      refine lv_iconst (v := 1) hx hb dL_crash_9 (by decide) ?_
      exact w_iret C S (Or.inr ⟨_, X', hX, rfl, rfl⟩) ⟨Nat.le_of_eq (Nat.zero_add _), Nat.le_of_eq (Nat.zero_add _)⟩ dL_crash_10
    · refine vx_catch C.2.2.2.1 [(⟨0, 5, 8, 21⟩ : ExceptionTableEntry)] (⟨0, 5, 11, 49⟩ : ExceptionTableEntry) [] hT (fun z hz => by
      simp only [List.mem_cons, List.not_mem_nil, or_false] at hz
      rcases hz with rfl
      · exact Or.inr ⟨by decide, _, C.2.2.2.2.1 _ mw_995, Np 2 0 (by decide) (by decide) (by decide)⟩) rfl (by decide) (C.2.2.2.2.1 _ mw_1025) (x_hat cst_2 cst_2a C.2.2.2.2.1 Kx.2.2.2.2.2.2 _ (List.mem_singleton.mpr rfl)) hce hcv hcl ?_
      refine W.eq (g2 := F0 m 11 ls [.ref q9]) rfl ?_
      refine lv_astore_n hx hb dL_crash_11 rfl hl (by decide) rfl (fun ls hl => ?_)
      refine lv_iconst (v := 2) hx hb dL_crash_12 (by decide) ?_
      exact w_iret C S (Or.inr ⟨_, X', hX, rfl, rfl⟩) ⟨Nat.le_of_eq (Nat.zero_add _), Nat.le_of_eq (Nat.zero_add _)⟩ dL_crash_13
  · skip
    refine lv_goto (tgt := 14) hx hb dL_crash_5 (by decide) ?_
    refine lv_iconst (v := 0) hx hb dL_crash_14 (by decide) ?_
    exact w_iret C S (Or.inl ⟨rfl, X', hI, rfl⟩) ⟨Nat.le_of_eq (Nat.zero_add _), Nat.le_of_eq (Nat.zero_add _)⟩ dL_crash_15
set_option maxRecDepth 10000 in
set_option maxHeartbeats 4000000 in
theorem wl_hold (l : Launch) (D : va_G) (cI cB cL : ClassId) (ka kv : Nat → Nat) (fv : Value) (x o : Nat) (f : Nat → Int64) (x1 : Int32) (x2 : Int32) (x3 : Int32) {X : va_W} {q : Nat} {fs : List Value} (O : X[q]? = some (x, .inr (10, fs))) {rf rl mc ms : Nat} {RI : Int32 → va_W → Prop} {RX : Nat → va_W → Prop} (hM : metG l D (tyl cI cB cL) ka kv fv yX11_hold cX11_hold 7 (some .boolean) rf rl mc ms [.ref x, .int x1, .int x2, .int x3] X RI RX) (hE : ∀ E X', RX E X' → E = 0) : metW l D (tyl cI cB cL) ka kv fv yL_hold cL_hold 6 (some .int) [(0, 19, 22, 21)] (rf + 1) (8 + (7 + 11) + rl) mc ms [.ref x, .int x1, .int x2, .int x3, .ref o] (X ++ oc cL o f) (rW (kc [0]) cL o f (fun r => if r = 0 then 0 else 1) RI RX) := by
  intro sz
  refine va_MetW (cc := cL_hold) (maxL := 6) (ret := some .int) (hh := [(0, 19, 22, 21)]) (by decide) rfl ?_
  intro p e s m args below meth c s₁ B hml hv
  obtain ⟨rfl, C, S, Kx, Np, hT⟩ := w_entry B hml hv
  have hx := C.1
  have hb := C.2.1
  have hl := lv_entry ([.ref x, .int x1, .int x2, .int x3, .ref o]) (n := 6) (Nat.le_of_ble_eq_true rfl)
  rw [lg_entry_eq]
  generalize (lg_sl ([.ref x, .int x1, .int x2, .int x3, .ref o]) ++ List.replicate (6 - (lg_sl ([.ref x, .int x1, .int x2, .int x3, .ref o])).length) Slot.unset).toArray = ls at hl ⊢
  have hl : lv_has ls 6 [(0, .ref x), (1, .int x1), (2, .int x2), (3, .int x3), (4, .ref o)] := hl
  have hsz := hl.1
  refine lv_aload hx hb dL_hold_0 (lv_at hl 4 rfl) ?_
  refine lv_iconst (v := 0) hx hb dL_hold_2 (by decide) ?_
  refine lv_aload_n hx hb dL_hold_3 rfl (lv_at hl 0 rfl) ?_
  refine lv_iload_n hx hb dL_hold_4 rfl (lv_at hl 1 rfl) ?_
  refine lv_iload_n hx hb dL_hold_5 rfl (lv_at hl 2 rfl) ?_
  refine lv_iload_n hx hb dL_hold_6 rfl (lv_at hl 3 rfl) ?_
  refine g_callVi (As := [.int x1, .int x2, .int x3]) (na := 3) C Kx S O rfl hM mw_1038 mw_1039 mw_1040 mw_321 mw_1041 hdX11_hold ⟨Nat.le_refl _, Nat.le_refl _⟩ rfl hsz ⟨Nat.le_of_eq (Nat.zero_add _), Nat.le_of_eq (Nat.zero_add _)⟩ (Nat.le_of_ble_eq_true rfl) dL_hold_7 rfl (fun E X' ce q9 H locs hX S hce hcv hcl => ?_) (fun r X' H locs hI S => ?_)
  · rcases hE E X' hX with rfl
    · refine vx_catch C.2.2.2.1 [] (⟨0, 19, 22, 21⟩ : ExceptionTableEntry) [] hT (fun z hz => by cases hz) rfl (by decide) (C.2.2.2.2.1 _ mw_995) (x_hat cst_0 cst_0a C.2.2.2.2.1 Kx.2.2.2.2.2.2 _ (List.mem_singleton.mpr rfl)) hce hcv hcl ?_
      refine W.eq (g2 := F0 m 22 ls [.ref q9]) rfl ?_
      refine lv_astore hx hb dL_hold_22 hl (by decide) rfl (fun ls hl => ?_)
      refine lv_iconst (v := 1) hx hb dL_hold_24 (by decide) ?_
      exact w_iret C S (Or.inr ⟨_, X', hX, rfl, rfl⟩) ⟨Nat.le_of_eq (Nat.zero_add _), Nat.le_of_eq (Nat.zero_add _)⟩ dL_hold_25
  · refine lv_if_eq (tgt := 17) hx hb dL_hold_10 (by decide) (fun c0 => ?_) (fun c0 => ?_)
    · refine lv_lconst (v := 0) hx hb dL_hold_17 rfl ?_
      refine g_last C S dL_hold_18 (fun g H locs hg S => ?_)
      refine lv_goto (tgt := 26) hx hb dL_hold_19 (by decide) ?_
      refine lv_iconst (v := 0) hx hb dL_hold_26 (by decide) ?_
      exact w_iret C S (Or.inl ⟨rfl, r, X', g, hI, hg.trans (if_pos c0).symm, rfl⟩) ⟨Nat.le_of_eq (Nat.zero_add _), Nat.le_of_eq (Nat.zero_add _)⟩ dL_hold_27
    · refine lv_lconst (v := 1) hx hb dL_hold_13 rfl ?_
      refine lv_goto (tgt := 18) hx hb dL_hold_14 (by decide) ?_
      refine g_last C S dL_hold_18 (fun g H locs hg S => ?_)
      refine lv_goto (tgt := 26) hx hb dL_hold_19 (by decide) ?_
      refine lv_iconst (v := 0) hx hb dL_hold_26 (by decide) ?_
      exact w_iret C S (Or.inl ⟨rfl, r, X', g, hI, hg.trans (if_neg c0).symm, rfl⟩) ⟨Nat.le_of_eq (Nat.zero_add _), Nat.le_of_eq (Nat.zero_add _)⟩ dL_hold_27
set_option maxRecDepth 10000 in
set_option maxHeartbeats 4000000 in
theorem wl_due (l : Launch) (D : va_G) (cI cB cL : ClassId) (ka kv : Nat → Nat) (fv : Value) (x o : Nat) (f : Nat → Int64) (x1 : Int32) (x2 : Int32) {X : va_W} {q : Nat} {fs : List Value} (O : X[q]? = some (x, .inr (10, fs))) {rf rl mc ms : Nat} {RI : Int32 → va_W → Prop} {RX : Nat → va_W → Prop} (hM : metG l D (tyl cI cB cL) ka kv fv yX11_due cX11_due 6 (some .int) rf rl mc ms [.ref x, .int x1, .int x2] X RI RX) (hE : ∀ E X', RX E X' → E = 0) : metW l D (tyl cI cB cL) ka kv fv yL_due cL_due 5 (some .int) [(0, 10, 13, 21)] (rf + 1) (8 + (6 + 11) + rl) mc ms [.ref x, .int x1, .int x2, .ref o] (X ++ oc cL o f) (rW (kc [0]) cL o f Int32.toInt64 RI RX) := by
  intro sz
  refine va_MetW (cc := cL_due) (maxL := 5) (ret := some .int) (hh := [(0, 10, 13, 21)]) (by decide) rfl ?_
  intro p e s m args below meth c s₁ B hml hv
  obtain ⟨rfl, C, S, Kx, Np, hT⟩ := w_entry B hml hv
  have hx := C.1
  have hb := C.2.1
  have hl := lv_entry ([.ref x, .int x1, .int x2, .ref o]) (n := 5) (Nat.le_of_ble_eq_true rfl)
  rw [lg_entry_eq]
  generalize (lg_sl ([.ref x, .int x1, .int x2, .ref o]) ++ List.replicate (5 - (lg_sl ([.ref x, .int x1, .int x2, .ref o])).length) Slot.unset).toArray = ls at hl ⊢
  have hl : lv_has ls 5 [(0, .ref x), (1, .int x1), (2, .int x2), (3, .ref o)] := hl
  have hsz := hl.1
  refine lv_aload_n hx hb dL_due_0 rfl (lv_at hl 3 rfl) ?_
  refine lv_iconst (v := 0) hx hb dL_due_1 (by decide) ?_
  refine lv_aload_n hx hb dL_due_2 rfl (lv_at hl 0 rfl) ?_
  refine lv_iload_n hx hb dL_due_3 rfl (lv_at hl 1 rfl) ?_
  refine lv_iload_n hx hb dL_due_4 rfl (lv_at hl 2 rfl) ?_
  refine g_callVi (As := [.int x1, .int x2]) (na := 2) C Kx S O rfl hM mw_1042 mw_1043 mw_1044 mw_321 mw_1045 hdX11_due ⟨Nat.le_refl _, Nat.le_refl _⟩ rfl hsz ⟨Nat.le_of_eq (Nat.zero_add _), Nat.le_of_eq (Nat.zero_add _)⟩ (Nat.le_of_ble_eq_true rfl) dL_due_5 rfl (fun E X' ce q9 H locs hX S hce hcv hcl => ?_) (fun r X' H locs hI S => ?_)
  · rcases hE E X' hX with rfl
    · refine vx_catch C.2.2.2.1 [] (⟨0, 10, 13, 21⟩ : ExceptionTableEntry) [] hT (fun z hz => by cases hz) rfl (by decide) (C.2.2.2.2.1 _ mw_995) (x_hat cst_0 cst_0a C.2.2.2.2.1 Kx.2.2.2.2.2.2 _ (List.mem_singleton.mpr rfl)) hce hcv hcl ?_
      refine W.eq (g2 := F0 m 13 ls [.ref q9]) rfl ?_
      refine lv_astore hx hb dL_due_13 hl (by decide) rfl (fun ls hl => ?_)
      refine lv_iconst (v := 1) hx hb dL_due_15 (by decide) ?_
      exact w_iret C S (Or.inr ⟨_, X', hX, rfl, rfl⟩) ⟨Nat.le_of_eq (Nat.zero_add _), Nat.le_of_eq (Nat.zero_add _)⟩ dL_due_16
  · refine lv_i2l (v := r.toInt64) hx hb dL_due_8 rfl ?_
    refine g_last C S dL_due_9 (fun g H locs hg S => ?_)
    refine lv_goto (tgt := 17) hx hb dL_due_10 (by decide) ?_
    refine lv_iconst (v := 0) hx hb dL_due_17 (by decide) ?_
    exact w_iret C S (Or.inl ⟨rfl, r, X', g, hI, hg, rfl⟩) ⟨Nat.le_of_eq (Nat.zero_add _), Nat.le_of_eq (Nat.zero_add _)⟩ dL_due_18
set_option maxRecDepth 10000 in
set_option maxHeartbeats 4000000 in
theorem wl_block (l : Launch) (D : va_G) (cI cB cL : ClassId) (ka kv : Nat → Nat) (fv : Value) (x o : Nat) (f : Nat → Int64) (x1 : Int32) (x2 : Int32) {X : va_W} {q : Nat} {fs : List Value} (O : X[q]? = some (x, .inr (10, fs))) {rf rl mc ms : Nat} {RI : Int32 → va_W → Prop} {RX : Nat → va_W → Prop} (hM : metG l D (tyl cI cB cL) ka kv fv yX11_block cX11_block 3 (some .int) rf rl mc ms [.ref x, .int x1, .int x2] X RI RX) (hE : ∀ E X', RX E X' → E = 0) : metW l D (tyl cI cB cL) ka kv fv yL_block cL_block 5 (some .int) [(0, 10, 13, 21)] (rf + 1) (8 + (3 + 11) + rl) mc ms [.ref x, .int x1, .int x2, .ref o] (X ++ oc cL o f) (rW (kc [0]) cL o f Int32.toInt64 RI RX) := by
  intro sz
  refine va_MetW (cc := cL_block) (maxL := 5) (ret := some .int) (hh := [(0, 10, 13, 21)]) (by decide) rfl ?_
  intro p e s m args below meth c s₁ B hml hv
  obtain ⟨rfl, C, S, Kx, Np, hT⟩ := w_entry B hml hv
  have hx := C.1
  have hb := C.2.1
  have hl := lv_entry ([.ref x, .int x1, .int x2, .ref o]) (n := 5) (Nat.le_of_ble_eq_true rfl)
  rw [lg_entry_eq]
  generalize (lg_sl ([.ref x, .int x1, .int x2, .ref o]) ++ List.replicate (5 - (lg_sl ([.ref x, .int x1, .int x2, .ref o])).length) Slot.unset).toArray = ls at hl ⊢
  have hl : lv_has ls 5 [(0, .ref x), (1, .int x1), (2, .int x2), (3, .ref o)] := hl
  have hsz := hl.1
  refine lv_aload_n hx hb dL_block_0 rfl (lv_at hl 3 rfl) ?_
  refine lv_iconst (v := 0) hx hb dL_block_1 (by decide) ?_
  refine lv_aload_n hx hb dL_block_2 rfl (lv_at hl 0 rfl) ?_
  refine lv_iload_n hx hb dL_block_3 rfl (lv_at hl 1 rfl) ?_
  refine lv_iload_n hx hb dL_block_4 rfl (lv_at hl 2 rfl) ?_
  refine g_callVi (As := [.int x1, .int x2]) (na := 2) C Kx S O rfl hM mw_1046 mw_1047 mw_1048 mw_321 mw_1049 hdX11_block ⟨Nat.le_refl _, Nat.le_refl _⟩ rfl hsz ⟨Nat.le_of_eq (Nat.zero_add _), Nat.le_of_eq (Nat.zero_add _)⟩ (Nat.le_of_ble_eq_true rfl) dL_block_5 rfl (fun E X' ce q9 H locs hX S hce hcv hcl => ?_) (fun r X' H locs hI S => ?_)
  · rcases hE E X' hX with rfl
    · refine vx_catch C.2.2.2.1 [] (⟨0, 10, 13, 21⟩ : ExceptionTableEntry) [] hT (fun z hz => by cases hz) rfl (by decide) (C.2.2.2.2.1 _ mw_995) (x_hat cst_0 cst_0a C.2.2.2.2.1 Kx.2.2.2.2.2.2 _ (List.mem_singleton.mpr rfl)) hce hcv hcl ?_
      refine W.eq (g2 := F0 m 13 ls [.ref q9]) rfl ?_
      refine lv_astore hx hb dL_block_13 hl (by decide) rfl (fun ls hl => ?_)
      refine lv_iconst (v := 1) hx hb dL_block_15 (by decide) ?_
      exact w_iret C S (Or.inr ⟨_, X', hX, rfl, rfl⟩) ⟨Nat.le_of_eq (Nat.zero_add _), Nat.le_of_eq (Nat.zero_add _)⟩ dL_block_16
  · refine lv_i2l (v := r.toInt64) hx hb dL_block_8 rfl ?_
    refine g_last C S dL_block_9 (fun g H locs hg S => ?_)
    refine lv_goto (tgt := 17) hx hb dL_block_10 (by decide) ?_
    refine lv_iconst (v := 0) hx hb dL_block_17 (by decide) ?_
    exact w_iret C S (Or.inl ⟨rfl, r, X', g, hI, hg, rfl⟩) ⟨Nat.le_of_eq (Nat.zero_add _), Nat.le_of_eq (Nat.zero_add _)⟩ dL_block_18
set_option maxRecDepth 10000 in
set_option maxHeartbeats 4000000 in
theorem wl_waits (l : Launch) (D : va_G) (cI cB cL : ClassId) (ka kv : Nat → Nat) (fv : Value) (x o : Nat) (f : Nat → Int64) (x1 : Int32) {X : va_W} {q : Nat} {fs : List Value} (O : X[q]? = some (x, .inr (10, fs))) {rf rl mc ms : Nat} {RI : Int32 → va_W → Prop} {RX : Nat → va_W → Prop} (hM : metG l D (tyl cI cB cL) ka kv fv yX11_waits cX11_waits 2 (some .int) rf rl mc ms [.ref x, .int x1] X RI RX) (hE : ∀ E X', RX E X' → E = 0) : metW l D (tyl cI cB cL) ka kv fv yL_waits cL_waits 4 (some .int) [(0, 9, 12, 21)] (rf + 1) (8 + (2 + 11) + rl) mc ms [.ref x, .int x1, .ref o] (X ++ oc cL o f) (rW (kc [0]) cL o f Int32.toInt64 RI RX) := by
  intro sz
  refine va_MetW (cc := cL_waits) (maxL := 4) (ret := some .int) (hh := [(0, 9, 12, 21)]) (by decide) rfl ?_
  intro p e s m args below meth c s₁ B hml hv
  obtain ⟨rfl, C, S, Kx, Np, hT⟩ := w_entry B hml hv
  have hx := C.1
  have hb := C.2.1
  have hl := lv_entry ([.ref x, .int x1, .ref o]) (n := 4) (Nat.le_of_ble_eq_true rfl)
  rw [lg_entry_eq]
  generalize (lg_sl ([.ref x, .int x1, .ref o]) ++ List.replicate (4 - (lg_sl ([.ref x, .int x1, .ref o])).length) Slot.unset).toArray = ls at hl ⊢
  have hl : lv_has ls 4 [(0, .ref x), (1, .int x1), (2, .ref o)] := hl
  have hsz := hl.1
  refine lv_aload_n hx hb dL_waits_0 rfl (lv_at hl 2 rfl) ?_
  refine lv_iconst (v := 0) hx hb dL_waits_1 (by decide) ?_
  refine lv_aload_n hx hb dL_waits_2 rfl (lv_at hl 0 rfl) ?_
  refine lv_iload_n hx hb dL_waits_3 rfl (lv_at hl 1 rfl) ?_
  refine g_callVi (As := [.int x1]) (na := 1) C Kx S O rfl hM mw_1050 mw_1051 mw_1052 mw_321 mw_1053 hdX11_waits ⟨Nat.le_refl _, Nat.le_refl _⟩ rfl hsz ⟨Nat.le_of_eq (Nat.zero_add _), Nat.le_of_eq (Nat.zero_add _)⟩ (Nat.le_of_ble_eq_true rfl) dL_waits_4 rfl (fun E X' ce q9 H locs hX S hce hcv hcl => ?_) (fun r X' H locs hI S => ?_)
  · rcases hE E X' hX with rfl
    · refine vx_catch C.2.2.2.1 [] (⟨0, 9, 12, 21⟩ : ExceptionTableEntry) [] hT (fun z hz => by cases hz) rfl (by decide) (C.2.2.2.2.1 _ mw_995) (x_hat cst_0 cst_0a C.2.2.2.2.1 Kx.2.2.2.2.2.2 _ (List.mem_singleton.mpr rfl)) hce hcv hcl ?_
      refine W.eq (g2 := F0 m 12 ls [.ref q9]) rfl ?_
      refine lv_astore_n hx hb dL_waits_12 rfl hl (by decide) rfl (fun ls hl => ?_)
      refine lv_iconst (v := 1) hx hb dL_waits_13 (by decide) ?_
      exact w_iret C S (Or.inr ⟨_, X', hX, rfl, rfl⟩) ⟨Nat.le_of_eq (Nat.zero_add _), Nat.le_of_eq (Nat.zero_add _)⟩ dL_waits_14
  · refine lv_i2l (v := r.toInt64) hx hb dL_waits_7 rfl ?_
    refine g_last C S dL_waits_8 (fun g H locs hg S => ?_)
    refine lv_goto (tgt := 15) hx hb dL_waits_9 (by decide) ?_
    refine lv_iconst (v := 0) hx hb dL_waits_15 (by decide) ?_
    exact w_iret C S (Or.inl ⟨rfl, r, X', g, hI, hg, rfl⟩) ⟨Nat.le_of_eq (Nat.zero_add _), Nat.le_of_eq (Nat.zero_add _)⟩ dL_waits_16
set_option maxRecDepth 10000 in
set_option maxHeartbeats 4000000 in
theorem wl_ahead (l : Launch) (D : va_G) (cI cB cL : ClassId) (ka kv : Nat → Nat) (fv : Value) (x o : Nat) (f : Nat → Int64) (x1 : Int32) (x2 : Int32) {X : va_W} {q : Nat} {fs : List Value} (O : X[q]? = some (x, .inr (10, fs))) {rf rl mc ms : Nat} {RI : Int32 → va_W → Prop} {RX : Nat → va_W → Prop} (hM : metG l D (tyl cI cB cL) ka kv fv yX11_ahead cX11_ahead 3 (some .boolean) rf rl mc ms [.ref x, .int x1, .int x2] X RI RX) (hE : ∀ E X', RX E X' → E = 0 ∨ E = 3) : metW l D (tyl cI cB cL) ka kv fv yL_ahead cL_ahead 5 (some .int) [(0, 17, 20, 21), (0, 17, 24, 13)] (rf + 1) (8 + (3 + 11) + rl) mc ms [.ref x, .int x1, .int x2, .ref o] (X ++ oc cL o f) (rW (kc [0, 3]) cL o f (fun r => if r = 0 then 0 else 1) RI RX) := by
  intro sz
  refine va_MetW (cc := cL_ahead) (maxL := 5) (ret := some .int) (hh := [(0, 17, 20, 21), (0, 17, 24, 13)]) (by decide) rfl ?_
  intro p e s m args below meth c s₁ B hml hv
  obtain ⟨rfl, C, S, Kx, Np, hT⟩ := w_entry B hml hv
  have hx := C.1
  have hb := C.2.1
  have hl := lv_entry ([.ref x, .int x1, .int x2, .ref o]) (n := 5) (Nat.le_of_ble_eq_true rfl)
  rw [lg_entry_eq]
  generalize (lg_sl ([.ref x, .int x1, .int x2, .ref o]) ++ List.replicate (5 - (lg_sl ([.ref x, .int x1, .int x2, .ref o])).length) Slot.unset).toArray = ls at hl ⊢
  have hl : lv_has ls 5 [(0, .ref x), (1, .int x1), (2, .int x2), (3, .ref o)] := hl
  have hsz := hl.1
  refine lv_aload_n hx hb dL_ahead_0 rfl (lv_at hl 3 rfl) ?_
  refine lv_iconst (v := 0) hx hb dL_ahead_1 (by decide) ?_
  refine lv_aload_n hx hb dL_ahead_2 rfl (lv_at hl 0 rfl) ?_
  refine lv_iload_n hx hb dL_ahead_3 rfl (lv_at hl 1 rfl) ?_
  refine lv_iload_n hx hb dL_ahead_4 rfl (lv_at hl 2 rfl) ?_
  refine g_callVi (As := [.int x1, .int x2]) (na := 2) C Kx S O rfl hM mw_1054 mw_1055 mw_1056 mw_321 mw_1057 hdX11_ahead ⟨Nat.le_refl _, Nat.le_refl _⟩ rfl hsz ⟨Nat.le_of_eq (Nat.zero_add _), Nat.le_of_eq (Nat.zero_add _)⟩ (Nat.le_of_ble_eq_true rfl) dL_ahead_5 rfl (fun E X' ce q9 H locs hX S hce hcv hcl => ?_) (fun r X' H locs hI S => ?_)
  · rcases hE E X' hX with rfl | rfl
    · refine vx_catch C.2.2.2.1 [] (⟨0, 17, 20, 21⟩ : ExceptionTableEntry) [(⟨0, 17, 24, 13⟩ : ExceptionTableEntry)] hT (fun z hz => by cases hz) rfl (by decide) (C.2.2.2.2.1 _ mw_995) (x_hat cst_0 cst_0a C.2.2.2.2.1 Kx.2.2.2.2.2.2 _ (List.mem_singleton.mpr rfl)) hce hcv hcl ?_
      refine W.eq (g2 := F0 m 20 ls [.ref q9]) rfl ?_
      refine lv_astore hx hb dL_ahead_20 hl (by decide) rfl (fun ls hl => ?_)
      refine lv_iconst (v := 1) hx hb dL_ahead_22 (by decide) ?_
      exact w_iret C S (Or.inr ⟨_, X', hX, rfl, rfl⟩) ⟨Nat.le_of_eq (Nat.zero_add _), Nat.le_of_eq (Nat.zero_add _)⟩ dL_ahead_23
    · refine vx_catch C.2.2.2.1 [(⟨0, 17, 20, 21⟩ : ExceptionTableEntry)] (⟨0, 17, 24, 13⟩ : ExceptionTableEntry) [] hT (fun z hz => by
      simp only [List.mem_cons, List.not_mem_nil, or_false] at hz
      rcases hz with rfl
      · exact Or.inr ⟨by decide, _, C.2.2.2.2.1 _ mw_995, Np 3 0 (by decide) (by decide) (by decide)⟩) rfl (by decide) (C.2.2.2.2.1 _ mw_989) (x_hat cst_3 cst_3a C.2.2.2.2.1 Kx.2.2.2.2.2.2 _ (List.mem_singleton.mpr rfl)) hce hcv hcl ?_
      refine W.eq (g2 := F0 m 24 ls [.ref q9]) rfl ?_
      refine lv_astore hx hb dL_ahead_24 hl (by decide) rfl (fun ls hl => ?_)
      refine lv_iconst (v := 2) hx hb dL_ahead_26 (by decide) ?_
      exact w_iret C S (Or.inr ⟨_, X', hX, rfl, rfl⟩) ⟨Nat.le_of_eq (Nat.zero_add _), Nat.le_of_eq (Nat.zero_add _)⟩ dL_ahead_27
  · refine lv_if_eq (tgt := 15) hx hb dL_ahead_8 (by decide) (fun c0 => ?_) (fun c0 => ?_)
    · refine lv_lconst (v := 0) hx hb dL_ahead_15 rfl ?_
      refine g_last C S dL_ahead_16 (fun g H locs hg S => ?_)
      refine lv_goto (tgt := 28) hx hb dL_ahead_17 (by decide) ?_
      refine lv_iconst (v := 0) hx hb dL_ahead_28 (by decide) ?_
      exact w_iret C S (Or.inl ⟨rfl, r, X', g, hI, hg.trans (if_pos c0).symm, rfl⟩) ⟨Nat.le_of_eq (Nat.zero_add _), Nat.le_of_eq (Nat.zero_add _)⟩ dL_ahead_29
    · refine lv_lconst (v := 1) hx hb dL_ahead_11 rfl ?_
      refine lv_goto (tgt := 16) hx hb dL_ahead_12 (by decide) ?_
      refine g_last C S dL_ahead_16 (fun g H locs hg S => ?_)
      refine lv_goto (tgt := 28) hx hb dL_ahead_17 (by decide) ?_
      refine lv_iconst (v := 0) hx hb dL_ahead_28 (by decide) ?_
      exact w_iret C S (Or.inl ⟨rfl, r, X', g, hI, hg.trans (if_neg c0).symm, rfl⟩) ⟨Nat.le_of_eq (Nat.zero_add _), Nat.le_of_eq (Nat.zero_add _)⟩ dL_ahead_29
set_option maxRecDepth 10000 in
set_option maxHeartbeats 4000000 in
theorem wl_after (l : Launch) (D : va_G) (cI cB cL : ClassId) (ka kv : Nat → Nat) (fv : Value) (x o : Nat) (f : Nat → Int64) (x1 : Int32) (x2 : Int32) {X : va_W} {q : Nat} {fs : List Value} (O : X[q]? = some (x, .inr (10, fs))) {rf rl mc ms : Nat} {RI : Int32 → va_W → Prop} {RX : Nat → va_W → Prop} (hM : metG l D (tyl cI cB cL) ka kv fv yX11_after cX11_after 3 (some .int) rf rl mc ms [.ref x, .int x1, .int x2] X RI RX) (hE : ∀ E X', RX E X' → E = 0) : metW l D (tyl cI cB cL) ka kv fv yL_after cL_after 5 (some .int) [(0, 10, 13, 21)] (rf + 1) (8 + (3 + 11) + rl) mc ms [.ref x, .int x1, .int x2, .ref o] (X ++ oc cL o f) (rW (kc [0]) cL o f Int32.toInt64 RI RX) := by
  intro sz
  refine va_MetW (cc := cL_after) (maxL := 5) (ret := some .int) (hh := [(0, 10, 13, 21)]) (by decide) rfl ?_
  intro p e s m args below meth c s₁ B hml hv
  obtain ⟨rfl, C, S, Kx, Np, hT⟩ := w_entry B hml hv
  have hx := C.1
  have hb := C.2.1
  have hl := lv_entry ([.ref x, .int x1, .int x2, .ref o]) (n := 5) (Nat.le_of_ble_eq_true rfl)
  rw [lg_entry_eq]
  generalize (lg_sl ([.ref x, .int x1, .int x2, .ref o]) ++ List.replicate (5 - (lg_sl ([.ref x, .int x1, .int x2, .ref o])).length) Slot.unset).toArray = ls at hl ⊢
  have hl : lv_has ls 5 [(0, .ref x), (1, .int x1), (2, .int x2), (3, .ref o)] := hl
  have hsz := hl.1
  refine lv_aload_n hx hb dL_after_0 rfl (lv_at hl 3 rfl) ?_
  refine lv_iconst (v := 0) hx hb dL_after_1 (by decide) ?_
  refine lv_aload_n hx hb dL_after_2 rfl (lv_at hl 0 rfl) ?_
  refine lv_iload_n hx hb dL_after_3 rfl (lv_at hl 1 rfl) ?_
  refine lv_iload_n hx hb dL_after_4 rfl (lv_at hl 2 rfl) ?_
  refine g_callVi (As := [.int x1, .int x2]) (na := 2) C Kx S O rfl hM mw_1058 mw_1059 mw_1060 mw_321 mw_1061 hdX11_after ⟨Nat.le_refl _, Nat.le_refl _⟩ rfl hsz ⟨Nat.le_of_eq (Nat.zero_add _), Nat.le_of_eq (Nat.zero_add _)⟩ (Nat.le_of_ble_eq_true rfl) dL_after_5 rfl (fun E X' ce q9 H locs hX S hce hcv hcl => ?_) (fun r X' H locs hI S => ?_)
  · rcases hE E X' hX with rfl
    · refine vx_catch C.2.2.2.1 [] (⟨0, 10, 13, 21⟩ : ExceptionTableEntry) [] hT (fun z hz => by cases hz) rfl (by decide) (C.2.2.2.2.1 _ mw_995) (x_hat cst_0 cst_0a C.2.2.2.2.1 Kx.2.2.2.2.2.2 _ (List.mem_singleton.mpr rfl)) hce hcv hcl ?_
      refine W.eq (g2 := F0 m 13 ls [.ref q9]) rfl ?_
      refine lv_astore hx hb dL_after_13 hl (by decide) rfl (fun ls hl => ?_)
      refine lv_iconst (v := 1) hx hb dL_after_15 (by decide) ?_
      exact w_iret C S (Or.inr ⟨_, X', hX, rfl, rfl⟩) ⟨Nat.le_of_eq (Nat.zero_add _), Nat.le_of_eq (Nat.zero_add _)⟩ dL_after_16
  · refine lv_i2l (v := r.toInt64) hx hb dL_after_8 rfl ?_
    refine g_last C S dL_after_9 (fun g H locs hg S => ?_)
    refine lv_goto (tgt := 17) hx hb dL_after_10 (by decide) ?_
    refine lv_iconst (v := 0) hx hb dL_after_17 (by decide) ?_
    exact w_iret C S (Or.inl ⟨rfl, r, X', g, hI, hg, rfl⟩) ⟨Nat.le_of_eq (Nat.zero_add _), Nat.le_of_eq (Nat.zero_add _)⟩ dL_after_18
set_option maxRecDepth 10000 in
set_option maxHeartbeats 4000000 in
theorem wl_outside (l : Launch) (D : va_G) (cI cB cL : ClassId) (ka kv : Nat → Nat) (fv : Value) (x o : Nat) (f : Nat → Int64) (x1 : Int32) {X : va_W} {q : Nat} {fs : List Value} (O : X[q]? = some (x, .inr (10, fs))) {rf rl mc ms : Nat} {RI : Int32 → va_W → Prop} {RX : Nat → va_W → Prop} (hM : metG l D (tyl cI cB cL) ka kv fv yX11_outside cX11_outside 3 (some .int) rf rl mc ms [.ref x, .int x1] X RI RX) (hE : ∀ E X', RX E X' → E = 0) : metW l D (tyl cI cB cL) ka kv fv yL_outside cL_outside 4 (some .int) [(0, 9, 12, 21)] (rf + 1) (8 + (3 + 11) + rl) mc ms [.ref x, .int x1, .ref o] (X ++ oc cL o f) (rW (kc [0]) cL o f Int32.toInt64 RI RX) := by
  intro sz
  refine va_MetW (cc := cL_outside) (maxL := 4) (ret := some .int) (hh := [(0, 9, 12, 21)]) (by decide) rfl ?_
  intro p e s m args below meth c s₁ B hml hv
  obtain ⟨rfl, C, S, Kx, Np, hT⟩ := w_entry B hml hv
  have hx := C.1
  have hb := C.2.1
  have hl := lv_entry ([.ref x, .int x1, .ref o]) (n := 4) (Nat.le_of_ble_eq_true rfl)
  rw [lg_entry_eq]
  generalize (lg_sl ([.ref x, .int x1, .ref o]) ++ List.replicate (4 - (lg_sl ([.ref x, .int x1, .ref o])).length) Slot.unset).toArray = ls at hl ⊢
  have hl : lv_has ls 4 [(0, .ref x), (1, .int x1), (2, .ref o)] := hl
  have hsz := hl.1
  refine lv_aload_n hx hb dL_outside_0 rfl (lv_at hl 2 rfl) ?_
  refine lv_iconst (v := 0) hx hb dL_outside_1 (by decide) ?_
  refine lv_aload_n hx hb dL_outside_2 rfl (lv_at hl 0 rfl) ?_
  refine lv_iload_n hx hb dL_outside_3 rfl (lv_at hl 1 rfl) ?_
  refine g_callVi (As := [.int x1]) (na := 1) C Kx S O rfl hM mw_1062 mw_1063 mw_1064 mw_321 mw_1065 hdX11_outside ⟨Nat.le_refl _, Nat.le_refl _⟩ rfl hsz ⟨Nat.le_of_eq (Nat.zero_add _), Nat.le_of_eq (Nat.zero_add _)⟩ (Nat.le_of_ble_eq_true rfl) dL_outside_4 rfl (fun E X' ce q9 H locs hX S hce hcv hcl => ?_) (fun r X' H locs hI S => ?_)
  · rcases hE E X' hX with rfl
    · refine vx_catch C.2.2.2.1 [] (⟨0, 9, 12, 21⟩ : ExceptionTableEntry) [] hT (fun z hz => by cases hz) rfl (by decide) (C.2.2.2.2.1 _ mw_995) (x_hat cst_0 cst_0a C.2.2.2.2.1 Kx.2.2.2.2.2.2 _ (List.mem_singleton.mpr rfl)) hce hcv hcl ?_
      refine W.eq (g2 := F0 m 12 ls [.ref q9]) rfl ?_
      refine lv_astore_n hx hb dL_outside_12 rfl hl (by decide) rfl (fun ls hl => ?_)
      refine lv_iconst (v := 1) hx hb dL_outside_13 (by decide) ?_
      exact w_iret C S (Or.inr ⟨_, X', hX, rfl, rfl⟩) ⟨Nat.le_of_eq (Nat.zero_add _), Nat.le_of_eq (Nat.zero_add _)⟩ dL_outside_14
  · refine lv_i2l (v := r.toInt64) hx hb dL_outside_7 rfl ?_
    refine g_last C S dL_outside_8 (fun g H locs hg S => ?_)
    refine lv_goto (tgt := 15) hx hb dL_outside_9 (by decide) ?_
    refine lv_iconst (v := 0) hx hb dL_outside_15 (by decide) ?_
    exact w_iret C S (Or.inl ⟨rfl, r, X', g, hI, hg, rfl⟩) ⟨Nat.le_of_eq (Nat.zero_add _), Nat.le_of_eq (Nat.zero_add _)⟩ dL_outside_16
set_option maxRecDepth 10000 in
set_option maxHeartbeats 4000000 in
theorem wl_parted (l : Launch) (D : va_G) (cI cB cL : ClassId) (ka kv : Nat → Nat) (fv : Value) (x o : Nat) (f : Nat → Int64) (x1 : Int32) (x2 : Int32) {X : va_W} {q : Nat} {fs : List Value} (O : X[q]? = some (x, .inr (10, fs))) {rf rl mc ms : Nat} {RI : Int32 → va_W → Prop} {RX : Nat → va_W → Prop} (hM : metG l D (tyl cI cB cL) ka kv fv yX11_parted cX11_parted 3 (some .int) rf rl mc ms [.ref x, .int x1, .int x2] X RI RX) (hE : ∀ E X', RX E X' → E = 0 ∨ E = 3) : metW l D (tyl cI cB cL) ka kv fv yL_parted cL_parted 5 (some .int) [(0, 10, 13, 21), (0, 10, 17, 13)] (rf + 1) (8 + (3 + 11) + rl) mc ms [.ref x, .int x1, .int x2, .ref o] (X ++ oc cL o f) (rW (kc [0, 3]) cL o f Int32.toInt64 RI RX) := by
  intro sz
  refine va_MetW (cc := cL_parted) (maxL := 5) (ret := some .int) (hh := [(0, 10, 13, 21), (0, 10, 17, 13)]) (by decide) rfl ?_
  intro p e s m args below meth c s₁ B hml hv
  obtain ⟨rfl, C, S, Kx, Np, hT⟩ := w_entry B hml hv
  have hx := C.1
  have hb := C.2.1
  have hl := lv_entry ([.ref x, .int x1, .int x2, .ref o]) (n := 5) (Nat.le_of_ble_eq_true rfl)
  rw [lg_entry_eq]
  generalize (lg_sl ([.ref x, .int x1, .int x2, .ref o]) ++ List.replicate (5 - (lg_sl ([.ref x, .int x1, .int x2, .ref o])).length) Slot.unset).toArray = ls at hl ⊢
  have hl : lv_has ls 5 [(0, .ref x), (1, .int x1), (2, .int x2), (3, .ref o)] := hl
  have hsz := hl.1
  refine lv_aload_n hx hb dL_parted_0 rfl (lv_at hl 3 rfl) ?_
  refine lv_iconst (v := 0) hx hb dL_parted_1 (by decide) ?_
  refine lv_aload_n hx hb dL_parted_2 rfl (lv_at hl 0 rfl) ?_
  refine lv_iload_n hx hb dL_parted_3 rfl (lv_at hl 1 rfl) ?_
  refine lv_iload_n hx hb dL_parted_4 rfl (lv_at hl 2 rfl) ?_
  refine g_callVi (As := [.int x1, .int x2]) (na := 2) C Kx S O rfl hM mw_1066 mw_1067 mw_1068 mw_321 mw_1069 hdX11_parted ⟨Nat.le_refl _, Nat.le_refl _⟩ rfl hsz ⟨Nat.le_of_eq (Nat.zero_add _), Nat.le_of_eq (Nat.zero_add _)⟩ (Nat.le_of_ble_eq_true rfl) dL_parted_5 rfl (fun E X' ce q9 H locs hX S hce hcv hcl => ?_) (fun r X' H locs hI S => ?_)
  · rcases hE E X' hX with rfl | rfl
    · refine vx_catch C.2.2.2.1 [] (⟨0, 10, 13, 21⟩ : ExceptionTableEntry) [(⟨0, 10, 17, 13⟩ : ExceptionTableEntry)] hT (fun z hz => by cases hz) rfl (by decide) (C.2.2.2.2.1 _ mw_995) (x_hat cst_0 cst_0a C.2.2.2.2.1 Kx.2.2.2.2.2.2 _ (List.mem_singleton.mpr rfl)) hce hcv hcl ?_
      refine W.eq (g2 := F0 m 13 ls [.ref q9]) rfl ?_
      refine lv_astore hx hb dL_parted_13 hl (by decide) rfl (fun ls hl => ?_)
      refine lv_iconst (v := 1) hx hb dL_parted_15 (by decide) ?_
      exact w_iret C S (Or.inr ⟨_, X', hX, rfl, rfl⟩) ⟨Nat.le_of_eq (Nat.zero_add _), Nat.le_of_eq (Nat.zero_add _)⟩ dL_parted_16
    · refine vx_catch C.2.2.2.1 [(⟨0, 10, 13, 21⟩ : ExceptionTableEntry)] (⟨0, 10, 17, 13⟩ : ExceptionTableEntry) [] hT (fun z hz => by
      simp only [List.mem_cons, List.not_mem_nil, or_false] at hz
      rcases hz with rfl
      · exact Or.inr ⟨by decide, _, C.2.2.2.2.1 _ mw_995, Np 3 0 (by decide) (by decide) (by decide)⟩) rfl (by decide) (C.2.2.2.2.1 _ mw_989) (x_hat cst_3 cst_3a C.2.2.2.2.1 Kx.2.2.2.2.2.2 _ (List.mem_singleton.mpr rfl)) hce hcv hcl ?_
      refine W.eq (g2 := F0 m 17 ls [.ref q9]) rfl ?_
      refine lv_astore hx hb dL_parted_17 hl (by decide) rfl (fun ls hl => ?_)
      refine lv_iconst (v := 2) hx hb dL_parted_19 (by decide) ?_
      exact w_iret C S (Or.inr ⟨_, X', hX, rfl, rfl⟩) ⟨Nat.le_of_eq (Nat.zero_add _), Nat.le_of_eq (Nat.zero_add _)⟩ dL_parted_20
  · refine lv_i2l (v := r.toInt64) hx hb dL_parted_8 rfl ?_
    refine g_last C S dL_parted_9 (fun g H locs hg S => ?_)
    refine lv_goto (tgt := 21) hx hb dL_parted_10 (by decide) ?_
    refine lv_iconst (v := 0) hx hb dL_parted_21 (by decide) ?_
    exact w_iret C S (Or.inl ⟨rfl, r, X', g, hI, hg, rfl⟩) ⟨Nat.le_of_eq (Nat.zero_add _), Nat.le_of_eq (Nat.zero_add _)⟩ dL_parted_22
set_option maxRecDepth 10000 in
set_option maxHeartbeats 4000000 in
theorem wl_when (l : Launch) (D : va_G) (cI cB cL : ClassId) (ka kv : Nat → Nat) (fv : Value) (x o : Nat) (f : Nat → Int64) (x1 : Int32) (x2 : Int32) {X : va_W} {q : Nat} {fs : List Value} (O : X[q]? = some (x, .inr (10, fs))) {rf rl mc ms : Nat} {RI : Int32 → va_W → Prop} {RX : Nat → va_W → Prop} (hM : metG l D (tyl cI cB cL) ka kv fv yX11_when cX11_when 4 (some .int) rf rl mc ms [.ref x, .int x1, .int x2] X RI RX) (hE : ∀ E X', RX E X' → E = 0) : metW l D (tyl cI cB cL) ka kv fv yL_when cL_when 5 (some .int) [(0, 10, 13, 21)] (rf + 1) (8 + (4 + 11) + rl) mc ms [.ref x, .int x1, .int x2, .ref o] (X ++ oc cL o f) (rW (kc [0]) cL o f Int32.toInt64 RI RX) := by
  intro sz
  refine va_MetW (cc := cL_when) (maxL := 5) (ret := some .int) (hh := [(0, 10, 13, 21)]) (by decide) rfl ?_
  intro p e s m args below meth c s₁ B hml hv
  obtain ⟨rfl, C, S, Kx, Np, hT⟩ := w_entry B hml hv
  have hx := C.1
  have hb := C.2.1
  have hl := lv_entry ([.ref x, .int x1, .int x2, .ref o]) (n := 5) (Nat.le_of_ble_eq_true rfl)
  rw [lg_entry_eq]
  generalize (lg_sl ([.ref x, .int x1, .int x2, .ref o]) ++ List.replicate (5 - (lg_sl ([.ref x, .int x1, .int x2, .ref o])).length) Slot.unset).toArray = ls at hl ⊢
  have hl : lv_has ls 5 [(0, .ref x), (1, .int x1), (2, .int x2), (3, .ref o)] := hl
  have hsz := hl.1
  refine lv_aload_n hx hb dL_when_0 rfl (lv_at hl 3 rfl) ?_
  refine lv_iconst (v := 0) hx hb dL_when_1 (by decide) ?_
  refine lv_aload_n hx hb dL_when_2 rfl (lv_at hl 0 rfl) ?_
  refine lv_iload_n hx hb dL_when_3 rfl (lv_at hl 1 rfl) ?_
  refine lv_iload_n hx hb dL_when_4 rfl (lv_at hl 2 rfl) ?_
  refine g_callVi (As := [.int x1, .int x2]) (na := 2) C Kx S O rfl hM mw_1070 mw_1071 mw_1072 mw_321 mw_1073 hdX11_when ⟨Nat.le_refl _, Nat.le_refl _⟩ rfl hsz ⟨Nat.le_of_eq (Nat.zero_add _), Nat.le_of_eq (Nat.zero_add _)⟩ (Nat.le_of_ble_eq_true rfl) dL_when_5 rfl (fun E X' ce q9 H locs hX S hce hcv hcl => ?_) (fun r X' H locs hI S => ?_)
  · rcases hE E X' hX with rfl
    · refine vx_catch C.2.2.2.1 [] (⟨0, 10, 13, 21⟩ : ExceptionTableEntry) [] hT (fun z hz => by cases hz) rfl (by decide) (C.2.2.2.2.1 _ mw_995) (x_hat cst_0 cst_0a C.2.2.2.2.1 Kx.2.2.2.2.2.2 _ (List.mem_singleton.mpr rfl)) hce hcv hcl ?_
      refine W.eq (g2 := F0 m 13 ls [.ref q9]) rfl ?_
      refine lv_astore hx hb dL_when_13 hl (by decide) rfl (fun ls hl => ?_)
      refine lv_iconst (v := 1) hx hb dL_when_15 (by decide) ?_
      exact w_iret C S (Or.inr ⟨_, X', hX, rfl, rfl⟩) ⟨Nat.le_of_eq (Nat.zero_add _), Nat.le_of_eq (Nat.zero_add _)⟩ dL_when_16
  · refine lv_i2l (v := r.toInt64) hx hb dL_when_8 rfl ?_
    refine g_last C S dL_when_9 (fun g H locs hg S => ?_)
    refine lv_goto (tgt := 17) hx hb dL_when_10 (by decide) ?_
    refine lv_iconst (v := 0) hx hb dL_when_17 (by decide) ?_
    exact w_iret C S (Or.inl ⟨rfl, r, X', g, hI, hg, rfl⟩) ⟨Nat.le_of_eq (Nat.zero_add _), Nat.le_of_eq (Nat.zero_add _)⟩ dL_when_18
set_option maxRecDepth 10000 in
set_option maxHeartbeats 4000000 in
theorem wl_chain (l : Launch) (D : va_G) (cI cB cL : ClassId) (ka kv : Nat → Nat) (fv : Value) (x o : Nat) (f : Nat → Int64) (x1 : Int32) (x2 : Int32) (x3 : Int32) {X : va_W} {q : Nat} {fs : List Value} (O : X[q]? = some (x, .inr (10, fs))) {rf rl mc ms : Nat} {RI : Int32 → va_W → Prop} {RX : Nat → va_W → Prop} (hM : metG l D (tyl cI cB cL) ka kv fv yX11_chain cX11_chain 4 (some .int) rf rl mc ms [.ref x, .int x1, .int x2, .int x3] X RI RX) (hE : ∀ E X', RX E X' → E = 0) : metW l D (tyl cI cB cL) ka kv fv yL_chain cL_chain 6 (some .int) [(0, 12, 15, 21)] (rf + 1) (8 + (4 + 11) + rl) mc ms [.ref x, .int x1, .int x2, .int x3, .ref o] (X ++ oc cL o f) (rW (kc [0]) cL o f Int32.toInt64 RI RX) := by
  intro sz
  refine va_MetW (cc := cL_chain) (maxL := 6) (ret := some .int) (hh := [(0, 12, 15, 21)]) (by decide) rfl ?_
  intro p e s m args below meth c s₁ B hml hv
  obtain ⟨rfl, C, S, Kx, Np, hT⟩ := w_entry B hml hv
  have hx := C.1
  have hb := C.2.1
  have hl := lv_entry ([.ref x, .int x1, .int x2, .int x3, .ref o]) (n := 6) (Nat.le_of_ble_eq_true rfl)
  rw [lg_entry_eq]
  generalize (lg_sl ([.ref x, .int x1, .int x2, .int x3, .ref o]) ++ List.replicate (6 - (lg_sl ([.ref x, .int x1, .int x2, .int x3, .ref o])).length) Slot.unset).toArray = ls at hl ⊢
  have hl : lv_has ls 6 [(0, .ref x), (1, .int x1), (2, .int x2), (3, .int x3), (4, .ref o)] := hl
  have hsz := hl.1
  refine lv_aload hx hb dL_chain_0 (lv_at hl 4 rfl) ?_
  refine lv_iconst (v := 0) hx hb dL_chain_2 (by decide) ?_
  refine lv_aload_n hx hb dL_chain_3 rfl (lv_at hl 0 rfl) ?_
  refine lv_iload_n hx hb dL_chain_4 rfl (lv_at hl 1 rfl) ?_
  refine lv_iload_n hx hb dL_chain_5 rfl (lv_at hl 2 rfl) ?_
  refine lv_iload_n hx hb dL_chain_6 rfl (lv_at hl 3 rfl) ?_
  refine g_callVi (As := [.int x1, .int x2, .int x3]) (na := 3) C Kx S O rfl hM mw_1074 mw_1075 mw_1076 mw_321 mw_1077 hdX11_chain ⟨Nat.le_refl _, Nat.le_refl _⟩ rfl hsz ⟨Nat.le_of_eq (Nat.zero_add _), Nat.le_of_eq (Nat.zero_add _)⟩ (Nat.le_of_ble_eq_true rfl) dL_chain_7 rfl (fun E X' ce q9 H locs hX S hce hcv hcl => ?_) (fun r X' H locs hI S => ?_)
  · rcases hE E X' hX with rfl
    · refine vx_catch C.2.2.2.1 [] (⟨0, 12, 15, 21⟩ : ExceptionTableEntry) [] hT (fun z hz => by cases hz) rfl (by decide) (C.2.2.2.2.1 _ mw_995) (x_hat cst_0 cst_0a C.2.2.2.2.1 Kx.2.2.2.2.2.2 _ (List.mem_singleton.mpr rfl)) hce hcv hcl ?_
      refine W.eq (g2 := F0 m 15 ls [.ref q9]) rfl ?_
      refine lv_astore hx hb dL_chain_15 hl (by decide) rfl (fun ls hl => ?_)
      refine lv_iconst (v := 1) hx hb dL_chain_17 (by decide) ?_
      exact w_iret C S (Or.inr ⟨_, X', hX, rfl, rfl⟩) ⟨Nat.le_of_eq (Nat.zero_add _), Nat.le_of_eq (Nat.zero_add _)⟩ dL_chain_18
  · refine lv_i2l (v := r.toInt64) hx hb dL_chain_10 rfl ?_
    refine g_last C S dL_chain_11 (fun g H locs hg S => ?_)
    refine lv_goto (tgt := 19) hx hb dL_chain_12 (by decide) ?_
    refine lv_iconst (v := 0) hx hb dL_chain_19 (by decide) ?_
    exact w_iret C S (Or.inl ⟨rfl, r, X', g, hI, hg, rfl⟩) ⟨Nat.le_of_eq (Nat.zero_add _), Nat.le_of_eq (Nat.zero_add _)⟩ dL_chain_20
set_option maxRecDepth 10000 in
set_option maxHeartbeats 4000000 in
theorem wl_late (l : Launch) (D : va_G) (cI cB cL : ClassId) (ka kv : Nat → Nat) (fv : Value) (x o : Nat) (f : Nat → Int64) (x1 : Int32) {X : va_W} {q : Nat} {fs : List Value} (O : X[q]? = some (x, .inr (10, fs))) {rf rl mc ms : Nat} {RI : Int32 → va_W → Prop} {RX : Nat → va_W → Prop} (hM : metG l D (tyl cI cB cL) ka kv fv yX11_late cX11_late 2 (some .int) rf rl mc ms [.ref x, .int x1] X RI RX) (hE : ∀ E X', RX E X' → E = 0) : metW l D (tyl cI cB cL) ka kv fv yL_late cL_late 4 (some .int) [(0, 9, 12, 21)] (rf + 1) (8 + (2 + 11) + rl) mc ms [.ref x, .int x1, .ref o] (X ++ oc cL o f) (rW (kc [0]) cL o f Int32.toInt64 RI RX) := by
  intro sz
  refine va_MetW (cc := cL_late) (maxL := 4) (ret := some .int) (hh := [(0, 9, 12, 21)]) (by decide) rfl ?_
  intro p e s m args below meth c s₁ B hml hv
  obtain ⟨rfl, C, S, Kx, Np, hT⟩ := w_entry B hml hv
  have hx := C.1
  have hb := C.2.1
  have hl := lv_entry ([.ref x, .int x1, .ref o]) (n := 4) (Nat.le_of_ble_eq_true rfl)
  rw [lg_entry_eq]
  generalize (lg_sl ([.ref x, .int x1, .ref o]) ++ List.replicate (4 - (lg_sl ([.ref x, .int x1, .ref o])).length) Slot.unset).toArray = ls at hl ⊢
  have hl : lv_has ls 4 [(0, .ref x), (1, .int x1), (2, .ref o)] := hl
  have hsz := hl.1
  refine lv_aload_n hx hb dL_late_0 rfl (lv_at hl 2 rfl) ?_
  refine lv_iconst (v := 0) hx hb dL_late_1 (by decide) ?_
  refine lv_aload_n hx hb dL_late_2 rfl (lv_at hl 0 rfl) ?_
  refine lv_iload_n hx hb dL_late_3 rfl (lv_at hl 1 rfl) ?_
  refine g_callVi (As := [.int x1]) (na := 1) C Kx S O rfl hM mw_1078 mw_1079 mw_1080 mw_321 mw_1081 hdX11_late ⟨Nat.le_refl _, Nat.le_refl _⟩ rfl hsz ⟨Nat.le_of_eq (Nat.zero_add _), Nat.le_of_eq (Nat.zero_add _)⟩ (Nat.le_of_ble_eq_true rfl) dL_late_4 rfl (fun E X' ce q9 H locs hX S hce hcv hcl => ?_) (fun r X' H locs hI S => ?_)
  · rcases hE E X' hX with rfl
    · refine vx_catch C.2.2.2.1 [] (⟨0, 9, 12, 21⟩ : ExceptionTableEntry) [] hT (fun z hz => by cases hz) rfl (by decide) (C.2.2.2.2.1 _ mw_995) (x_hat cst_0 cst_0a C.2.2.2.2.1 Kx.2.2.2.2.2.2 _ (List.mem_singleton.mpr rfl)) hce hcv hcl ?_
      refine W.eq (g2 := F0 m 12 ls [.ref q9]) rfl ?_
      refine lv_astore_n hx hb dL_late_12 rfl hl (by decide) rfl (fun ls hl => ?_)
      refine lv_iconst (v := 1) hx hb dL_late_13 (by decide) ?_
      exact w_iret C S (Or.inr ⟨_, X', hX, rfl, rfl⟩) ⟨Nat.le_of_eq (Nat.zero_add _), Nat.le_of_eq (Nat.zero_add _)⟩ dL_late_14
  · refine lv_i2l (v := r.toInt64) hx hb dL_late_7 rfl ?_
    refine g_last C S dL_late_8 (fun g H locs hg S => ?_)
    refine lv_goto (tgt := 15) hx hb dL_late_9 (by decide) ?_
    refine lv_iconst (v := 0) hx hb dL_late_15 (by decide) ?_
    exact w_iret C S (Or.inl ⟨rfl, r, X', g, hI, hg, rfl⟩) ⟨Nat.le_of_eq (Nat.zero_add _), Nat.le_of_eq (Nat.zero_add _)⟩ dL_late_16
set_option maxRecDepth 10000 in
set_option maxHeartbeats 4000000 in
theorem wl_first (l : Launch) (D : va_G) (cI cB cL : ClassId) (ka kv : Nat → Nat) (fv : Value) (x o : Nat) (f : Nat → Int64) (x1 : Int32) (x2 : Int32) {X : va_W} {q : Nat} {fs : List Value} (O : X[q]? = some (x, .inr (10, fs))) {rf rl mc ms : Nat} {RI : Int32 → va_W → Prop} {RX : Nat → va_W → Prop} (hM : metG l D (tyl cI cB cL) ka kv fv yX11_first cX11_first 3 (some .int) rf rl mc ms [.ref x, .int x1, .int x2] X RI RX) (hE : ∀ E X', RX E X' → E = 0 ∨ E = 3) : metW l D (tyl cI cB cL) ka kv fv yL_first cL_first 5 (some .int) [(0, 10, 13, 21), (0, 10, 17, 13)] (rf + 1) (8 + (3 + 11) + rl) mc ms [.ref x, .int x1, .int x2, .ref o] (X ++ oc cL o f) (rW (kc [0, 3]) cL o f Int32.toInt64 RI RX) := by
  intro sz
  refine va_MetW (cc := cL_first) (maxL := 5) (ret := some .int) (hh := [(0, 10, 13, 21), (0, 10, 17, 13)]) (by decide) rfl ?_
  intro p e s m args below meth c s₁ B hml hv
  obtain ⟨rfl, C, S, Kx, Np, hT⟩ := w_entry B hml hv
  have hx := C.1
  have hb := C.2.1
  have hl := lv_entry ([.ref x, .int x1, .int x2, .ref o]) (n := 5) (Nat.le_of_ble_eq_true rfl)
  rw [lg_entry_eq]
  generalize (lg_sl ([.ref x, .int x1, .int x2, .ref o]) ++ List.replicate (5 - (lg_sl ([.ref x, .int x1, .int x2, .ref o])).length) Slot.unset).toArray = ls at hl ⊢
  have hl : lv_has ls 5 [(0, .ref x), (1, .int x1), (2, .int x2), (3, .ref o)] := hl
  have hsz := hl.1
  refine lv_aload_n hx hb dL_first_0 rfl (lv_at hl 3 rfl) ?_
  refine lv_iconst (v := 0) hx hb dL_first_1 (by decide) ?_
  refine lv_aload_n hx hb dL_first_2 rfl (lv_at hl 0 rfl) ?_
  refine lv_iload_n hx hb dL_first_3 rfl (lv_at hl 1 rfl) ?_
  refine lv_iload_n hx hb dL_first_4 rfl (lv_at hl 2 rfl) ?_
  refine g_callVi (As := [.int x1, .int x2]) (na := 2) C Kx S O rfl hM mw_1082 mw_1083 mw_1084 mw_321 mw_1085 hdX11_first ⟨Nat.le_refl _, Nat.le_refl _⟩ rfl hsz ⟨Nat.le_of_eq (Nat.zero_add _), Nat.le_of_eq (Nat.zero_add _)⟩ (Nat.le_of_ble_eq_true rfl) dL_first_5 rfl (fun E X' ce q9 H locs hX S hce hcv hcl => ?_) (fun r X' H locs hI S => ?_)
  · rcases hE E X' hX with rfl | rfl
    · refine vx_catch C.2.2.2.1 [] (⟨0, 10, 13, 21⟩ : ExceptionTableEntry) [(⟨0, 10, 17, 13⟩ : ExceptionTableEntry)] hT (fun z hz => by cases hz) rfl (by decide) (C.2.2.2.2.1 _ mw_995) (x_hat cst_0 cst_0a C.2.2.2.2.1 Kx.2.2.2.2.2.2 _ (List.mem_singleton.mpr rfl)) hce hcv hcl ?_
      refine W.eq (g2 := F0 m 13 ls [.ref q9]) rfl ?_
      refine lv_astore hx hb dL_first_13 hl (by decide) rfl (fun ls hl => ?_)
      refine lv_iconst (v := 1) hx hb dL_first_15 (by decide) ?_
      exact w_iret C S (Or.inr ⟨_, X', hX, rfl, rfl⟩) ⟨Nat.le_of_eq (Nat.zero_add _), Nat.le_of_eq (Nat.zero_add _)⟩ dL_first_16
    · refine vx_catch C.2.2.2.1 [(⟨0, 10, 13, 21⟩ : ExceptionTableEntry)] (⟨0, 10, 17, 13⟩ : ExceptionTableEntry) [] hT (fun z hz => by
      simp only [List.mem_cons, List.not_mem_nil, or_false] at hz
      rcases hz with rfl
      · exact Or.inr ⟨by decide, _, C.2.2.2.2.1 _ mw_995, Np 3 0 (by decide) (by decide) (by decide)⟩) rfl (by decide) (C.2.2.2.2.1 _ mw_989) (x_hat cst_3 cst_3a C.2.2.2.2.1 Kx.2.2.2.2.2.2 _ (List.mem_singleton.mpr rfl)) hce hcv hcl ?_
      refine W.eq (g2 := F0 m 17 ls [.ref q9]) rfl ?_
      refine lv_astore hx hb dL_first_17 hl (by decide) rfl (fun ls hl => ?_)
      refine lv_iconst (v := 2) hx hb dL_first_19 (by decide) ?_
      exact w_iret C S (Or.inr ⟨_, X', hX, rfl, rfl⟩) ⟨Nat.le_of_eq (Nat.zero_add _), Nat.le_of_eq (Nat.zero_add _)⟩ dL_first_20
  · refine lv_i2l (v := r.toInt64) hx hb dL_first_8 rfl ?_
    refine g_last C S dL_first_9 (fun g H locs hg S => ?_)
    refine lv_goto (tgt := 21) hx hb dL_first_10 (by decide) ?_
    refine lv_iconst (v := 0) hx hb dL_first_21 (by decide) ?_
    exact w_iret C S (Or.inl ⟨rfl, r, X', g, hI, hg, rfl⟩) ⟨Nat.le_of_eq (Nat.zero_add _), Nat.le_of_eq (Nat.zero_add _)⟩ dL_first_22
set_option maxRecDepth 10000 in
set_option maxHeartbeats 4000000 in
theorem wl_lag (l : Launch) (D : va_G) (cI cB cL : ClassId) (ka kv : Nat → Nat) (fv : Value) (x o : Nat) (f : Nat → Int64) (x1 : Int32) {X : va_W} {q : Nat} {fs : List Value} (O : X[q]? = some (x, .inr (10, fs))) {rf rl mc ms : Nat} {RI : Int32 → va_W → Prop} {RX : Nat → va_W → Prop} (hM : metG l D (tyl cI cB cL) ka kv fv yX11_lag cX11_lag 2 (some .int) rf rl mc ms [.ref x, .int x1] X RI RX) (hE : ∀ E X', RX E X' → E = 0) : metW l D (tyl cI cB cL) ka kv fv yL_lag cL_lag 4 (some .int) [(0, 9, 12, 21)] (rf + 1) (8 + (2 + 11) + rl) mc ms [.ref x, .int x1, .ref o] (X ++ oc cL o f) (rW (kc [0]) cL o f Int32.toInt64 RI RX) := by
  intro sz
  refine va_MetW (cc := cL_lag) (maxL := 4) (ret := some .int) (hh := [(0, 9, 12, 21)]) (by decide) rfl ?_
  intro p e s m args below meth c s₁ B hml hv
  obtain ⟨rfl, C, S, Kx, Np, hT⟩ := w_entry B hml hv
  have hx := C.1
  have hb := C.2.1
  have hl := lv_entry ([.ref x, .int x1, .ref o]) (n := 4) (Nat.le_of_ble_eq_true rfl)
  rw [lg_entry_eq]
  generalize (lg_sl ([.ref x, .int x1, .ref o]) ++ List.replicate (4 - (lg_sl ([.ref x, .int x1, .ref o])).length) Slot.unset).toArray = ls at hl ⊢
  have hl : lv_has ls 4 [(0, .ref x), (1, .int x1), (2, .ref o)] := hl
  have hsz := hl.1
  refine lv_aload_n hx hb dL_lag_0 rfl (lv_at hl 2 rfl) ?_
  refine lv_iconst (v := 0) hx hb dL_lag_1 (by decide) ?_
  refine lv_aload_n hx hb dL_lag_2 rfl (lv_at hl 0 rfl) ?_
  refine lv_iload_n hx hb dL_lag_3 rfl (lv_at hl 1 rfl) ?_
  refine g_callVi (As := [.int x1]) (na := 1) C Kx S O rfl hM mw_1086 mw_1087 mw_1088 mw_321 mw_1089 hdX11_lag ⟨Nat.le_refl _, Nat.le_refl _⟩ rfl hsz ⟨Nat.le_of_eq (Nat.zero_add _), Nat.le_of_eq (Nat.zero_add _)⟩ (Nat.le_of_ble_eq_true rfl) dL_lag_4 rfl (fun E X' ce q9 H locs hX S hce hcv hcl => ?_) (fun r X' H locs hI S => ?_)
  · rcases hE E X' hX with rfl
    · refine vx_catch C.2.2.2.1 [] (⟨0, 9, 12, 21⟩ : ExceptionTableEntry) [] hT (fun z hz => by cases hz) rfl (by decide) (C.2.2.2.2.1 _ mw_995) (x_hat cst_0 cst_0a C.2.2.2.2.1 Kx.2.2.2.2.2.2 _ (List.mem_singleton.mpr rfl)) hce hcv hcl ?_
      refine W.eq (g2 := F0 m 12 ls [.ref q9]) rfl ?_
      refine lv_astore_n hx hb dL_lag_12 rfl hl (by decide) rfl (fun ls hl => ?_)
      refine lv_iconst (v := 1) hx hb dL_lag_13 (by decide) ?_
      exact w_iret C S (Or.inr ⟨_, X', hX, rfl, rfl⟩) ⟨Nat.le_of_eq (Nat.zero_add _), Nat.le_of_eq (Nat.zero_add _)⟩ dL_lag_14
  · refine lv_i2l (v := r.toInt64) hx hb dL_lag_7 rfl ?_
    refine g_last C S dL_lag_8 (fun g H locs hg S => ?_)
    refine lv_goto (tgt := 15) hx hb dL_lag_9 (by decide) ?_
    refine lv_iconst (v := 0) hx hb dL_lag_15 (by decide) ?_
    exact w_iret C S (Or.inl ⟨rfl, r, X', g, hI, hg, rfl⟩) ⟨Nat.le_of_eq (Nat.zero_add _), Nat.le_of_eq (Nat.zero_add _)⟩ dL_lag_16
set_option maxRecDepth 10000 in
set_option maxHeartbeats 4000000 in
theorem wl_takes (l : Launch) (D : va_G) (cI cB cL : ClassId) (ka kv : Nat → Nat) (fv : Value) (x o : Nat) (f : Nat → Int64) (x1 : Int32) {X : va_W} {q : Nat} {fs : List Value} (O : X[q]? = some (x, .inr (10, fs))) {rf rl mc ms : Nat} {RI : Int32 → va_W → Prop} {RX : Nat → va_W → Prop} (hM : metG l D (tyl cI cB cL) ka kv fv yX11_takes cX11_takes 2 (some .int) rf rl mc ms [.ref x, .int x1] X RI RX) (hE : ∀ E X', RX E X' → E = 0) : metW l D (tyl cI cB cL) ka kv fv yL_takes cL_takes 4 (some .int) [(0, 9, 12, 21)] (rf + 1) (8 + (2 + 11) + rl) mc ms [.ref x, .int x1, .ref o] (X ++ oc cL o f) (rW (kc [0]) cL o f Int32.toInt64 RI RX) := by
  intro sz
  refine va_MetW (cc := cL_takes) (maxL := 4) (ret := some .int) (hh := [(0, 9, 12, 21)]) (by decide) rfl ?_
  intro p e s m args below meth c s₁ B hml hv
  obtain ⟨rfl, C, S, Kx, Np, hT⟩ := w_entry B hml hv
  have hx := C.1
  have hb := C.2.1
  have hl := lv_entry ([.ref x, .int x1, .ref o]) (n := 4) (Nat.le_of_ble_eq_true rfl)
  rw [lg_entry_eq]
  generalize (lg_sl ([.ref x, .int x1, .ref o]) ++ List.replicate (4 - (lg_sl ([.ref x, .int x1, .ref o])).length) Slot.unset).toArray = ls at hl ⊢
  have hl : lv_has ls 4 [(0, .ref x), (1, .int x1), (2, .ref o)] := hl
  have hsz := hl.1
  refine lv_aload_n hx hb dL_takes_0 rfl (lv_at hl 2 rfl) ?_
  refine lv_iconst (v := 0) hx hb dL_takes_1 (by decide) ?_
  refine lv_aload_n hx hb dL_takes_2 rfl (lv_at hl 0 rfl) ?_
  refine lv_iload_n hx hb dL_takes_3 rfl (lv_at hl 1 rfl) ?_
  refine g_callVi (As := [.int x1]) (na := 1) C Kx S O rfl hM mw_1090 mw_1091 mw_1092 mw_321 mw_1093 hdX11_takes ⟨Nat.le_refl _, Nat.le_refl _⟩ rfl hsz ⟨Nat.le_of_eq (Nat.zero_add _), Nat.le_of_eq (Nat.zero_add _)⟩ (Nat.le_of_ble_eq_true rfl) dL_takes_4 rfl (fun E X' ce q9 H locs hX S hce hcv hcl => ?_) (fun r X' H locs hI S => ?_)
  · rcases hE E X' hX with rfl
    · refine vx_catch C.2.2.2.1 [] (⟨0, 9, 12, 21⟩ : ExceptionTableEntry) [] hT (fun z hz => by cases hz) rfl (by decide) (C.2.2.2.2.1 _ mw_995) (x_hat cst_0 cst_0a C.2.2.2.2.1 Kx.2.2.2.2.2.2 _ (List.mem_singleton.mpr rfl)) hce hcv hcl ?_
      refine W.eq (g2 := F0 m 12 ls [.ref q9]) rfl ?_
      refine lv_astore_n hx hb dL_takes_12 rfl hl (by decide) rfl (fun ls hl => ?_)
      refine lv_iconst (v := 1) hx hb dL_takes_13 (by decide) ?_
      exact w_iret C S (Or.inr ⟨_, X', hX, rfl, rfl⟩) ⟨Nat.le_of_eq (Nat.zero_add _), Nat.le_of_eq (Nat.zero_add _)⟩ dL_takes_14
  · refine lv_i2l (v := r.toInt64) hx hb dL_takes_7 rfl ?_
    refine g_last C S dL_takes_8 (fun g H locs hg S => ?_)
    refine lv_goto (tgt := 15) hx hb dL_takes_9 (by decide) ?_
    refine lv_iconst (v := 0) hx hb dL_takes_15 (by decide) ?_
    exact w_iret C S (Or.inl ⟨rfl, r, X', g, hI, hg, rfl⟩) ⟨Nat.le_of_eq (Nat.zero_add _), Nat.le_of_eq (Nat.zero_add _)⟩ dL_takes_16
set_option maxRecDepth 10000 in
set_option maxHeartbeats 4000000 in
theorem wl_knot (l : Launch) (D : va_G) (cI cB cL : ClassId) (ka kv : Nat → Nat) (fv : Value) (x o : Nat) (f : Nat → Int64) (x1 : Int32) (x2 : Int32) {X : va_W} {q : Nat} {fs : List Value} (O : X[q]? = some (x, .inr (10, fs))) {rf rl mc ms : Nat} {RI : Int32 → va_W → Prop} {RX : Nat → va_W → Prop} (hM : metG l D (tyl cI cB cL) ka kv fv yX11_knot cX11_knot 3 (some .int) rf rl mc ms [.ref x, .int x1, .int x2] X RI RX) (hE : ∀ E X', RX E X' → E = 0 ∨ E = 3) : metW l D (tyl cI cB cL) ka kv fv yL_knot cL_knot 5 (some .int) [(0, 10, 13, 21), (0, 10, 17, 13)] (rf + 1) (8 + (3 + 11) + rl) mc ms [.ref x, .int x1, .int x2, .ref o] (X ++ oc cL o f) (rW (kc [0, 3]) cL o f Int32.toInt64 RI RX) := by
  intro sz
  refine va_MetW (cc := cL_knot) (maxL := 5) (ret := some .int) (hh := [(0, 10, 13, 21), (0, 10, 17, 13)]) (by decide) rfl ?_
  intro p e s m args below meth c s₁ B hml hv
  obtain ⟨rfl, C, S, Kx, Np, hT⟩ := w_entry B hml hv
  have hx := C.1
  have hb := C.2.1
  have hl := lv_entry ([.ref x, .int x1, .int x2, .ref o]) (n := 5) (Nat.le_of_ble_eq_true rfl)
  rw [lg_entry_eq]
  generalize (lg_sl ([.ref x, .int x1, .int x2, .ref o]) ++ List.replicate (5 - (lg_sl ([.ref x, .int x1, .int x2, .ref o])).length) Slot.unset).toArray = ls at hl ⊢
  have hl : lv_has ls 5 [(0, .ref x), (1, .int x1), (2, .int x2), (3, .ref o)] := hl
  have hsz := hl.1
  refine lv_aload_n hx hb dL_knot_0 rfl (lv_at hl 3 rfl) ?_
  refine lv_iconst (v := 0) hx hb dL_knot_1 (by decide) ?_
  refine lv_aload_n hx hb dL_knot_2 rfl (lv_at hl 0 rfl) ?_
  refine lv_iload_n hx hb dL_knot_3 rfl (lv_at hl 1 rfl) ?_
  refine lv_iload_n hx hb dL_knot_4 rfl (lv_at hl 2 rfl) ?_
  refine g_callVi (As := [.int x1, .int x2]) (na := 2) C Kx S O rfl hM mw_1094 mw_1095 mw_1096 mw_321 mw_1097 hdX11_knot ⟨Nat.le_refl _, Nat.le_refl _⟩ rfl hsz ⟨Nat.le_of_eq (Nat.zero_add _), Nat.le_of_eq (Nat.zero_add _)⟩ (Nat.le_of_ble_eq_true rfl) dL_knot_5 rfl (fun E X' ce q9 H locs hX S hce hcv hcl => ?_) (fun r X' H locs hI S => ?_)
  · rcases hE E X' hX with rfl | rfl
    · refine vx_catch C.2.2.2.1 [] (⟨0, 10, 13, 21⟩ : ExceptionTableEntry) [(⟨0, 10, 17, 13⟩ : ExceptionTableEntry)] hT (fun z hz => by cases hz) rfl (by decide) (C.2.2.2.2.1 _ mw_995) (x_hat cst_0 cst_0a C.2.2.2.2.1 Kx.2.2.2.2.2.2 _ (List.mem_singleton.mpr rfl)) hce hcv hcl ?_
      refine W.eq (g2 := F0 m 13 ls [.ref q9]) rfl ?_
      refine lv_astore hx hb dL_knot_13 hl (by decide) rfl (fun ls hl => ?_)
      refine lv_iconst (v := 1) hx hb dL_knot_15 (by decide) ?_
      exact w_iret C S (Or.inr ⟨_, X', hX, rfl, rfl⟩) ⟨Nat.le_of_eq (Nat.zero_add _), Nat.le_of_eq (Nat.zero_add _)⟩ dL_knot_16
    · refine vx_catch C.2.2.2.1 [(⟨0, 10, 13, 21⟩ : ExceptionTableEntry)] (⟨0, 10, 17, 13⟩ : ExceptionTableEntry) [] hT (fun z hz => by
      simp only [List.mem_cons, List.not_mem_nil, or_false] at hz
      rcases hz with rfl
      · exact Or.inr ⟨by decide, _, C.2.2.2.2.1 _ mw_995, Np 3 0 (by decide) (by decide) (by decide)⟩) rfl (by decide) (C.2.2.2.2.1 _ mw_989) (x_hat cst_3 cst_3a C.2.2.2.2.1 Kx.2.2.2.2.2.2 _ (List.mem_singleton.mpr rfl)) hce hcv hcl ?_
      refine W.eq (g2 := F0 m 17 ls [.ref q9]) rfl ?_
      refine lv_astore hx hb dL_knot_17 hl (by decide) rfl (fun ls hl => ?_)
      refine lv_iconst (v := 2) hx hb dL_knot_19 (by decide) ?_
      exact w_iret C S (Or.inr ⟨_, X', hX, rfl, rfl⟩) ⟨Nat.le_of_eq (Nat.zero_add _), Nat.le_of_eq (Nat.zero_add _)⟩ dL_knot_20
  · refine lv_i2l (v := r.toInt64) hx hb dL_knot_8 rfl ?_
    refine g_last C S dL_knot_9 (fun g H locs hg S => ?_)
    refine lv_goto (tgt := 21) hx hb dL_knot_10 (by decide) ?_
    refine lv_iconst (v := 0) hx hb dL_knot_21 (by decide) ?_
    exact w_iret C S (Or.inl ⟨rfl, r, X', g, hI, hg, rfl⟩) ⟨Nat.le_of_eq (Nat.zero_add _), Nat.le_of_eq (Nat.zero_add _)⟩ dL_knot_22
set_option maxRecDepth 10000 in
set_option maxHeartbeats 4000000 in
theorem wl_spared (l : Launch) (D : va_G) (cI cB cL : ClassId) (ka kv : Nat → Nat) (fv : Value) (x o : Nat) (f : Nat → Int64) (x1 : Int32) {X : va_W} {q : Nat} {fs : List Value} (O : X[q]? = some (x, .inr (10, fs))) {rf rl mc ms : Nat} {RI : Int32 → va_W → Prop} {RX : Nat → va_W → Prop} (hM : metG l D (tyl cI cB cL) ka kv fv yX11_spared cX11_spared 2 (some .int) rf rl mc ms [.ref x, .int x1] X RI RX) (hE : ∀ E X', RX E X' → E = 0) : metW l D (tyl cI cB cL) ka kv fv yL_spared cL_spared 4 (some .int) [(0, 9, 12, 21)] (rf + 1) (8 + (2 + 11) + rl) mc ms [.ref x, .int x1, .ref o] (X ++ oc cL o f) (rW (kc [0]) cL o f Int32.toInt64 RI RX) := by
  intro sz
  refine va_MetW (cc := cL_spared) (maxL := 4) (ret := some .int) (hh := [(0, 9, 12, 21)]) (by decide) rfl ?_
  intro p e s m args below meth c s₁ B hml hv
  obtain ⟨rfl, C, S, Kx, Np, hT⟩ := w_entry B hml hv
  have hx := C.1
  have hb := C.2.1
  have hl := lv_entry ([.ref x, .int x1, .ref o]) (n := 4) (Nat.le_of_ble_eq_true rfl)
  rw [lg_entry_eq]
  generalize (lg_sl ([.ref x, .int x1, .ref o]) ++ List.replicate (4 - (lg_sl ([.ref x, .int x1, .ref o])).length) Slot.unset).toArray = ls at hl ⊢
  have hl : lv_has ls 4 [(0, .ref x), (1, .int x1), (2, .ref o)] := hl
  have hsz := hl.1
  refine lv_aload_n hx hb dL_spared_0 rfl (lv_at hl 2 rfl) ?_
  refine lv_iconst (v := 0) hx hb dL_spared_1 (by decide) ?_
  refine lv_aload_n hx hb dL_spared_2 rfl (lv_at hl 0 rfl) ?_
  refine lv_iload_n hx hb dL_spared_3 rfl (lv_at hl 1 rfl) ?_
  refine g_callVi (As := [.int x1]) (na := 1) C Kx S O rfl hM mw_1098 mw_1099 mw_1100 mw_321 mw_1101 hdX11_spared ⟨Nat.le_refl _, Nat.le_refl _⟩ rfl hsz ⟨Nat.le_of_eq (Nat.zero_add _), Nat.le_of_eq (Nat.zero_add _)⟩ (Nat.le_of_ble_eq_true rfl) dL_spared_4 rfl (fun E X' ce q9 H locs hX S hce hcv hcl => ?_) (fun r X' H locs hI S => ?_)
  · rcases hE E X' hX with rfl
    · refine vx_catch C.2.2.2.1 [] (⟨0, 9, 12, 21⟩ : ExceptionTableEntry) [] hT (fun z hz => by cases hz) rfl (by decide) (C.2.2.2.2.1 _ mw_995) (x_hat cst_0 cst_0a C.2.2.2.2.1 Kx.2.2.2.2.2.2 _ (List.mem_singleton.mpr rfl)) hce hcv hcl ?_
      refine W.eq (g2 := F0 m 12 ls [.ref q9]) rfl ?_
      refine lv_astore_n hx hb dL_spared_12 rfl hl (by decide) rfl (fun ls hl => ?_)
      refine lv_iconst (v := 1) hx hb dL_spared_13 (by decide) ?_
      exact w_iret C S (Or.inr ⟨_, X', hX, rfl, rfl⟩) ⟨Nat.le_of_eq (Nat.zero_add _), Nat.le_of_eq (Nat.zero_add _)⟩ dL_spared_14
  · refine lv_i2l (v := r.toInt64) hx hb dL_spared_7 rfl ?_
    refine g_last C S dL_spared_8 (fun g H locs hg S => ?_)
    refine lv_goto (tgt := 15) hx hb dL_spared_9 (by decide) ?_
    refine lv_iconst (v := 0) hx hb dL_spared_15 (by decide) ?_
    exact w_iret C S (Or.inl ⟨rfl, r, X', g, hI, hg, rfl⟩) ⟨Nat.le_of_eq (Nat.zero_add _), Nat.le_of_eq (Nat.zero_add _)⟩ dL_spared_16
set_option maxRecDepth 10000 in
set_option maxHeartbeats 4000000 in
theorem wl_those (l : Launch) (D : va_G) (cI cB cL : ClassId) (ka kv : Nat → Nat) (fv : Value) (x o : Nat) (f : Nat → Int64) (x1 : Int32) (x2 : Int32) {X : va_W} {q : Nat} {fs : List Value} (O : X[q]? = some (x, .inr (10, fs))) {rf rl mc ms : Nat} {RI : Int32 → va_W → Prop} {RX : Nat → va_W → Prop} (hM : metG l D (tyl cI cB cL) ka kv fv yX11_those cX11_those 3 (some .int) rf rl mc ms [.ref x, .int x1, .int x2] X RI RX) (hE : ∀ E X', RX E X' → E = 0 ∨ E = 1) : metW l D (tyl cI cB cL) ka kv fv yL_those cL_those 5 (some .int) [(0, 10, 13, 21), (0, 10, 17, 23)] (rf + 1) (8 + (3 + 11) + rl) mc ms [.ref x, .int x1, .int x2, .ref o] (X ++ oc cL o f) (rW (kc [0, 1]) cL o f Int32.toInt64 RI RX) := by
  intro sz
  refine va_MetW (cc := cL_those) (maxL := 5) (ret := some .int) (hh := [(0, 10, 13, 21), (0, 10, 17, 23)]) (by decide) rfl ?_
  intro p e s m args below meth c s₁ B hml hv
  obtain ⟨rfl, C, S, Kx, Np, hT⟩ := w_entry B hml hv
  have hx := C.1
  have hb := C.2.1
  have hl := lv_entry ([.ref x, .int x1, .int x2, .ref o]) (n := 5) (Nat.le_of_ble_eq_true rfl)
  rw [lg_entry_eq]
  generalize (lg_sl ([.ref x, .int x1, .int x2, .ref o]) ++ List.replicate (5 - (lg_sl ([.ref x, .int x1, .int x2, .ref o])).length) Slot.unset).toArray = ls at hl ⊢
  have hl : lv_has ls 5 [(0, .ref x), (1, .int x1), (2, .int x2), (3, .ref o)] := hl
  have hsz := hl.1
  refine lv_aload_n hx hb dL_those_0 rfl (lv_at hl 3 rfl) ?_
  refine lv_iconst (v := 0) hx hb dL_those_1 (by decide) ?_
  refine lv_aload_n hx hb dL_those_2 rfl (lv_at hl 0 rfl) ?_
  refine lv_iload_n hx hb dL_those_3 rfl (lv_at hl 1 rfl) ?_
  refine lv_iload_n hx hb dL_those_4 rfl (lv_at hl 2 rfl) ?_
  refine g_callVi (As := [.int x1, .int x2]) (na := 2) C Kx S O rfl hM mw_1102 mw_1103 mw_1104 mw_321 mw_1105 hdX11_those ⟨Nat.le_refl _, Nat.le_refl _⟩ rfl hsz ⟨Nat.le_of_eq (Nat.zero_add _), Nat.le_of_eq (Nat.zero_add _)⟩ (Nat.le_of_ble_eq_true rfl) dL_those_5 rfl (fun E X' ce q9 H locs hX S hce hcv hcl => ?_) (fun r X' H locs hI S => ?_)
  · rcases hE E X' hX with rfl | rfl
    · refine vx_catch C.2.2.2.1 [] (⟨0, 10, 13, 21⟩ : ExceptionTableEntry) [(⟨0, 10, 17, 23⟩ : ExceptionTableEntry)] hT (fun z hz => by cases hz) rfl (by decide) (C.2.2.2.2.1 _ mw_995) (x_hat cst_0 cst_0a C.2.2.2.2.1 Kx.2.2.2.2.2.2 _ (List.mem_singleton.mpr rfl)) hce hcv hcl ?_
      refine W.eq (g2 := F0 m 13 ls [.ref q9]) rfl ?_
      refine lv_astore hx hb dL_those_13 hl (by decide) rfl (fun ls hl => ?_)
      refine lv_iconst (v := 1) hx hb dL_those_15 (by decide) ?_
      exact w_iret C S (Or.inr ⟨_, X', hX, rfl, rfl⟩) ⟨Nat.le_of_eq (Nat.zero_add _), Nat.le_of_eq (Nat.zero_add _)⟩ dL_those_16
    · refine vx_catch C.2.2.2.1 [(⟨0, 10, 13, 21⟩ : ExceptionTableEntry)] (⟨0, 10, 17, 23⟩ : ExceptionTableEntry) [] hT (fun z hz => by
      simp only [List.mem_cons, List.not_mem_nil, or_false] at hz
      rcases hz with rfl
      · exact Or.inr ⟨by decide, _, C.2.2.2.2.1 _ mw_995, Np 1 0 (by decide) (by decide) (by decide)⟩) rfl (by decide) (C.2.2.2.2.1 _ mw_996) (x_hat cst_1 cst_1a C.2.2.2.2.1 Kx.2.2.2.2.2.2 _ (List.mem_singleton.mpr rfl)) hce hcv hcl ?_
      refine W.eq (g2 := F0 m 17 ls [.ref q9]) rfl ?_
      refine lv_astore hx hb dL_those_17 hl (by decide) rfl (fun ls hl => ?_)
      refine lv_iconst (v := 2) hx hb dL_those_19 (by decide) ?_
      exact w_iret C S (Or.inr ⟨_, X', hX, rfl, rfl⟩) ⟨Nat.le_of_eq (Nat.zero_add _), Nat.le_of_eq (Nat.zero_add _)⟩ dL_those_20
  · refine lv_i2l (v := r.toInt64) hx hb dL_those_8 rfl ?_
    refine g_last C S dL_those_9 (fun g H locs hg S => ?_)
    refine lv_goto (tgt := 21) hx hb dL_those_10 (by decide) ?_
    refine lv_iconst (v := 0) hx hb dL_those_21 (by decide) ?_
    exact w_iret C S (Or.inl ⟨rfl, r, X', g, hI, hg, rfl⟩) ⟨Nat.le_of_eq (Nat.zero_add _), Nat.le_of_eq (Nat.zero_add _)⟩ dL_those_22
set_option maxRecDepth 10000 in
set_option maxHeartbeats 4000000 in
theorem wl_event (l : Launch) (D : va_G) (cI cB cL : ClassId) (ka kv : Nat → Nat) (fv : Value) (x o : Nat) (f : Nat → Int64) (x1 : Int32) (x2 : Int32) {X : va_W} {q : Nat} {fs : List Value} (O : X[q]? = some (x, .inr (10, fs))) {rf rl mc ms : Nat} {RI : Int32 → va_W → Prop} {RX : Nat → va_W → Prop} (hM : metG l D (tyl cI cB cL) ka kv fv yX11_event cX11_event 3 (some .int) rf rl mc ms [.ref x, .int x1, .int x2] X RI RX) (hE : ∀ E X', RX E X' → E = 0 ∨ E = 1) : metW l D (tyl cI cB cL) ka kv fv yL_event cL_event 5 (some .int) [(0, 10, 13, 21), (0, 10, 17, 23)] (rf + 1) (8 + (3 + 11) + rl) mc ms [.ref x, .int x1, .int x2, .ref o] (X ++ oc cL o f) (rW (kc [0, 1]) cL o f Int32.toInt64 RI RX) := by
  intro sz
  refine va_MetW (cc := cL_event) (maxL := 5) (ret := some .int) (hh := [(0, 10, 13, 21), (0, 10, 17, 23)]) (by decide) rfl ?_
  intro p e s m args below meth c s₁ B hml hv
  obtain ⟨rfl, C, S, Kx, Np, hT⟩ := w_entry B hml hv
  have hx := C.1
  have hb := C.2.1
  have hl := lv_entry ([.ref x, .int x1, .int x2, .ref o]) (n := 5) (Nat.le_of_ble_eq_true rfl)
  rw [lg_entry_eq]
  generalize (lg_sl ([.ref x, .int x1, .int x2, .ref o]) ++ List.replicate (5 - (lg_sl ([.ref x, .int x1, .int x2, .ref o])).length) Slot.unset).toArray = ls at hl ⊢
  have hl : lv_has ls 5 [(0, .ref x), (1, .int x1), (2, .int x2), (3, .ref o)] := hl
  have hsz := hl.1
  refine lv_aload_n hx hb dL_event_0 rfl (lv_at hl 3 rfl) ?_
  refine lv_iconst (v := 0) hx hb dL_event_1 (by decide) ?_
  refine lv_aload_n hx hb dL_event_2 rfl (lv_at hl 0 rfl) ?_
  refine lv_iload_n hx hb dL_event_3 rfl (lv_at hl 1 rfl) ?_
  refine lv_iload_n hx hb dL_event_4 rfl (lv_at hl 2 rfl) ?_
  refine g_callVi (As := [.int x1, .int x2]) (na := 2) C Kx S O rfl hM mw_1106 mw_1107 mw_1108 mw_321 mw_1109 hdX11_event ⟨Nat.le_refl _, Nat.le_refl _⟩ rfl hsz ⟨Nat.le_of_eq (Nat.zero_add _), Nat.le_of_eq (Nat.zero_add _)⟩ (Nat.le_of_ble_eq_true rfl) dL_event_5 rfl (fun E X' ce q9 H locs hX S hce hcv hcl => ?_) (fun r X' H locs hI S => ?_)
  · rcases hE E X' hX with rfl | rfl
    · refine vx_catch C.2.2.2.1 [] (⟨0, 10, 13, 21⟩ : ExceptionTableEntry) [(⟨0, 10, 17, 23⟩ : ExceptionTableEntry)] hT (fun z hz => by cases hz) rfl (by decide) (C.2.2.2.2.1 _ mw_995) (x_hat cst_0 cst_0a C.2.2.2.2.1 Kx.2.2.2.2.2.2 _ (List.mem_singleton.mpr rfl)) hce hcv hcl ?_
      refine W.eq (g2 := F0 m 13 ls [.ref q9]) rfl ?_
      refine lv_astore hx hb dL_event_13 hl (by decide) rfl (fun ls hl => ?_)
      refine lv_iconst (v := 1) hx hb dL_event_15 (by decide) ?_
      exact w_iret C S (Or.inr ⟨_, X', hX, rfl, rfl⟩) ⟨Nat.le_of_eq (Nat.zero_add _), Nat.le_of_eq (Nat.zero_add _)⟩ dL_event_16
    · refine vx_catch C.2.2.2.1 [(⟨0, 10, 13, 21⟩ : ExceptionTableEntry)] (⟨0, 10, 17, 23⟩ : ExceptionTableEntry) [] hT (fun z hz => by
      simp only [List.mem_cons, List.not_mem_nil, or_false] at hz
      rcases hz with rfl
      · exact Or.inr ⟨by decide, _, C.2.2.2.2.1 _ mw_995, Np 1 0 (by decide) (by decide) (by decide)⟩) rfl (by decide) (C.2.2.2.2.1 _ mw_996) (x_hat cst_1 cst_1a C.2.2.2.2.1 Kx.2.2.2.2.2.2 _ (List.mem_singleton.mpr rfl)) hce hcv hcl ?_
      refine W.eq (g2 := F0 m 17 ls [.ref q9]) rfl ?_
      refine lv_astore hx hb dL_event_17 hl (by decide) rfl (fun ls hl => ?_)
      refine lv_iconst (v := 2) hx hb dL_event_19 (by decide) ?_
      exact w_iret C S (Or.inr ⟨_, X', hX, rfl, rfl⟩) ⟨Nat.le_of_eq (Nat.zero_add _), Nat.le_of_eq (Nat.zero_add _)⟩ dL_event_20
  · refine lv_i2l (v := r.toInt64) hx hb dL_event_8 rfl ?_
    refine g_last C S dL_event_9 (fun g H locs hg S => ?_)
    refine lv_goto (tgt := 21) hx hb dL_event_10 (by decide) ?_
    refine lv_iconst (v := 0) hx hb dL_event_21 (by decide) ?_
    exact w_iret C S (Or.inl ⟨rfl, r, X', g, hI, hg, rfl⟩) ⟨Nat.le_of_eq (Nat.zero_add _), Nat.le_of_eq (Nat.zero_add _)⟩ dL_event_22
set_option maxRecDepth 10000 in
set_option maxHeartbeats 4000000 in
theorem wl_log (l : Launch) (D : va_G) (cI cB cL : ClassId) (ka kv : Nat → Nat) (fv : Value) (x o : Nat) (f : Nat → Int64) (x1 : Int32) (x2 : Int32) {X : va_W} {q : Nat} {fs : List Value} (O : X[q]? = some (x, .inr (10, fs))) {rf rl mc ms : Nat} {RI : Int32 → va_W → Prop} {RX : Nat → va_W → Prop} (hM : metG l D (tyl cI cB cL) ka kv fv yX11_log cX11_log 3 (some .int) rf rl mc ms [.ref x, .int x1, .int x2] X RI RX) (hE : ∀ E X', RX E X' → E = 1) : metW l D (tyl cI cB cL) ka kv fv yL_log cL_log 5 (some .int) [(0, 10, 13, 23)] (rf + 1) (8 + (3 + 11) + rl) mc ms [.ref x, .int x1, .int x2, .ref o] (X ++ oc cL o f) (rW (kc [1]) cL o f Int32.toInt64 RI RX) := by
  intro sz
  refine va_MetW (cc := cL_log) (maxL := 5) (ret := some .int) (hh := [(0, 10, 13, 23)]) (by decide) rfl ?_
  intro p e s m args below meth c s₁ B hml hv
  obtain ⟨rfl, C, S, Kx, Np, hT⟩ := w_entry B hml hv
  have hx := C.1
  have hb := C.2.1
  have hl := lv_entry ([.ref x, .int x1, .int x2, .ref o]) (n := 5) (Nat.le_of_ble_eq_true rfl)
  rw [lg_entry_eq]
  generalize (lg_sl ([.ref x, .int x1, .int x2, .ref o]) ++ List.replicate (5 - (lg_sl ([.ref x, .int x1, .int x2, .ref o])).length) Slot.unset).toArray = ls at hl ⊢
  have hl : lv_has ls 5 [(0, .ref x), (1, .int x1), (2, .int x2), (3, .ref o)] := hl
  have hsz := hl.1
  refine lv_aload_n hx hb dL_log_0 rfl (lv_at hl 3 rfl) ?_
  refine lv_iconst (v := 0) hx hb dL_log_1 (by decide) ?_
  refine lv_aload_n hx hb dL_log_2 rfl (lv_at hl 0 rfl) ?_
  refine lv_iload_n hx hb dL_log_3 rfl (lv_at hl 1 rfl) ?_
  refine lv_iload_n hx hb dL_log_4 rfl (lv_at hl 2 rfl) ?_
  refine g_callVi (As := [.int x1, .int x2]) (na := 2) C Kx S O rfl hM mw_1110 mw_1111 mw_1112 mw_321 mw_1113 hdX11_log ⟨Nat.le_refl _, Nat.le_refl _⟩ rfl hsz ⟨Nat.le_of_eq (Nat.zero_add _), Nat.le_of_eq (Nat.zero_add _)⟩ (Nat.le_of_ble_eq_true rfl) dL_log_5 rfl (fun E X' ce q9 H locs hX S hce hcv hcl => ?_) (fun r X' H locs hI S => ?_)
  · rcases hE E X' hX with rfl
    · refine vx_catch C.2.2.2.1 [] (⟨0, 10, 13, 23⟩ : ExceptionTableEntry) [] hT (fun z hz => by cases hz) rfl (by decide) (C.2.2.2.2.1 _ mw_996) (x_hat cst_1 cst_1a C.2.2.2.2.1 Kx.2.2.2.2.2.2 _ (List.mem_singleton.mpr rfl)) hce hcv hcl ?_
      refine W.eq (g2 := F0 m 13 ls [.ref q9]) rfl ?_
      refine lv_astore hx hb dL_log_13 hl (by decide) rfl (fun ls hl => ?_)
      refine lv_iconst (v := 1) hx hb dL_log_15 (by decide) ?_
      exact w_iret C S (Or.inr ⟨_, X', hX, rfl, rfl⟩) ⟨Nat.le_of_eq (Nat.zero_add _), Nat.le_of_eq (Nat.zero_add _)⟩ dL_log_16
  · refine lv_i2l (v := r.toInt64) hx hb dL_log_8 rfl ?_
    refine g_last C S dL_log_9 (fun g H locs hg S => ?_)
    refine lv_goto (tgt := 17) hx hb dL_log_10 (by decide) ?_
    refine lv_iconst (v := 0) hx hb dL_log_17 (by decide) ?_
    exact w_iret C S (Or.inl ⟨rfl, r, X', g, hI, hg, rfl⟩) ⟨Nat.le_of_eq (Nat.zero_add _), Nat.le_of_eq (Nat.zero_add _)⟩ dL_log_18
