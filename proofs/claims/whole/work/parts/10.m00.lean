def flM0 (cI cB : ClassId) (ad : Nat → Nat) (σ : Sg) : List Value := [.int (σ 0 0), .ref (ad 1), .ref (ad 2), .ref (ad 3), .ref (ad 4), .int (σ 0 5), .ref (ad 5), .int (σ 0 7), .int (σ 0 8), .int (σ 0 9), .int (σ 0 10), .int (σ 0 11), .ref (ad 6), .int (σ 0 13), .int (σ 0 14), .ref (ad 7), .ref (ad 8), .ref (ad 9)]
def wM (cI cB : ClassId) (ad : Nat → Nat) (σ : Sg) : va_W := [((ad 0), .inr (11, flM0 cI cB ad σ)), ((ad 1), .inl (cI, 32243, .inl (σ 1))), ((ad 2), .inl (cI, 32243, .inl (σ 2))), ((ad 3), .inl (cI, 32243, .inl (σ 3))), ((ad 4), .inl (cI, 32243, .inl (σ 4))), ((ad 5), .inl (cB, 400, .inl (σ 5))), ((ad 6), .inl (cI, 5, .inl (σ 6))), ((ad 7), .inl (cI, 6, .inl (σ 7))), ((ad 8), .inl (cI, 21, .inl (σ 8))), ((ad 9), .inl (cI, 20, .inl (σ 9)))]
theorem oM0 (cI cB : ClassId) (ad : Nat → Nat) : objAt (wM cI cB ad) 0 (ad 0) 11 (flM0 cI cB ad) := fun _ => rfl
theorem iM0_0 (cI cB : ClassId) (ad : Nat → Nat) : intAt (wM cI cB ad) 0 (ad 0) 11 (flM0 cI cB ad) 0 := ⟨fun _ => rfl, fun _ _ => rfl⟩
theorem iM0_5 (cI cB : ClassId) (ad : Nat → Nat) : intAt (wM cI cB ad) 0 (ad 0) 11 (flM0 cI cB ad) 5 := ⟨fun _ => rfl, fun _ _ => rfl⟩
theorem iM0_7 (cI cB : ClassId) (ad : Nat → Nat) : intAt (wM cI cB ad) 0 (ad 0) 11 (flM0 cI cB ad) 7 := ⟨fun _ => rfl, fun _ _ => rfl⟩
theorem iM0_8 (cI cB : ClassId) (ad : Nat → Nat) : intAt (wM cI cB ad) 0 (ad 0) 11 (flM0 cI cB ad) 8 := ⟨fun _ => rfl, fun _ _ => rfl⟩
theorem iM0_9 (cI cB : ClassId) (ad : Nat → Nat) : intAt (wM cI cB ad) 0 (ad 0) 11 (flM0 cI cB ad) 9 := ⟨fun _ => rfl, fun _ _ => rfl⟩
theorem iM0_10 (cI cB : ClassId) (ad : Nat → Nat) : intAt (wM cI cB ad) 0 (ad 0) 11 (flM0 cI cB ad) 10 := ⟨fun _ => rfl, fun _ _ => rfl⟩
theorem iM0_11 (cI cB : ClassId) (ad : Nat → Nat) : intAt (wM cI cB ad) 0 (ad 0) 11 (flM0 cI cB ad) 11 := ⟨fun _ => rfl, fun _ _ => rfl⟩
theorem iM0_13 (cI cB : ClassId) (ad : Nat → Nat) : intAt (wM cI cB ad) 0 (ad 0) 11 (flM0 cI cB ad) 13 := ⟨fun _ => rfl, fun _ _ => rfl⟩
theorem iM0_14 (cI cB : ClassId) (ad : Nat → Nat) : intAt (wM cI cB ad) 0 (ad 0) 11 (flM0 cI cB ad) 14 := ⟨fun _ => rfl, fun _ _ => rfl⟩
theorem aM1 (cI cB : ClassId) (ad : Nat → Nat) : arrAt (wM cI cB ad) 1 (ad 1) cI 32243 := ⟨fun _ => rfl, fun _ _ => rfl⟩
theorem aM2 (cI cB : ClassId) (ad : Nat → Nat) : arrAt (wM cI cB ad) 2 (ad 2) cI 32243 := ⟨fun _ => rfl, fun _ _ => rfl⟩
theorem aM3 (cI cB : ClassId) (ad : Nat → Nat) : arrAt (wM cI cB ad) 3 (ad 3) cI 32243 := ⟨fun _ => rfl, fun _ _ => rfl⟩
theorem aM4 (cI cB : ClassId) (ad : Nat → Nat) : arrAt (wM cI cB ad) 4 (ad 4) cI 32243 := ⟨fun _ => rfl, fun _ _ => rfl⟩
theorem aM5 (cI cB : ClassId) (ad : Nat → Nat) : arrAt (wM cI cB ad) 5 (ad 5) cB 400 := ⟨fun _ => rfl, fun _ _ => rfl⟩
theorem aM6 (cI cB : ClassId) (ad : Nat → Nat) : arrAt (wM cI cB ad) 6 (ad 6) cI 5 := ⟨fun _ => rfl, fun _ _ => rfl⟩
theorem aM7 (cI cB : ClassId) (ad : Nat → Nat) : arrAt (wM cI cB ad) 7 (ad 7) cI 6 := ⟨fun _ => rfl, fun _ _ => rfl⟩
theorem aM8 (cI cB : ClassId) (ad : Nat → Nat) : arrAt (wM cI cB ad) 8 (ad 8) cI 21 := ⟨fun _ => rfl, fun _ _ => rfl⟩
theorem aM9 (cI cB : ClassId) (ad : Nat → Nat) : arrAt (wM cI cB ad) 9 (ad 9) cI 20 := ⟨fun _ => rfl, fun _ _ => rfl⟩
theorem iwX12 : ∀ w ∈ u_ws RX12 TX12 18, w ∈ gw := by
  intro w hw
  obtain ⟨k, hk, rfl⟩ := List.mem_map.mp hw
  have hk := List.mem_range.mp hk
  rcases (show k = 0 ∨ k = 1 ∨ k = 2 ∨ k = 3 ∨ k = 4 ∨ k = 5 ∨ k = 6 ∨ k = 7 ∨ k = 8 ∨ k = 9 ∨ k = 10 ∨ k = 11 ∨ k = 12 ∨ k = 13 ∨ k = 14 ∨ k = 15 ∨ k = 16 ∨ k = 17 by omega) with rfl | rfl | rfl | rfl | rfl | rfl | rfl | rfl | rfl | rfl | rfl | rfl | rfl | rfl | rfl | rfl | rfl | rfl
  · exact gw_t6 137 rfl rfl
  · exact gw_t6 139 rfl rfl
  · exact gw_t6 141 rfl rfl
  · exact gw_t6 143 rfl rfl
  · exact gw_t6 145 rfl rfl
  · exact gw_t6 147 rfl rfl
  · exact gw_t6 149 rfl rfl
  · exact gw_t6 151 rfl rfl
  · exact gw_t6 153 rfl rfl
  · exact gw_t6 155 rfl rfl
  · exact gw_t6 157 rfl rfl
  · exact gw_t6 159 rfl rfl
  · exact gw_t6 161 rfl rfl
  · exact gw_t6 163 rfl rfl
  · exact gw_t6 165 rfl rfl
  · exact gw_t6 167 rfl rfl
  · exact gw_t6 169 rfl rfl
  · exact gw_t6 171 rfl rfl
theorem mw_11 : Cond.fieldLink RX12 3 "LeastPendingModel" "thrown" "I" ∈ gw := gw_t6 119 rfl rfl
theorem mw_12 : Cond.fieldLink RX12 53 "LeastPendingModel" "hasImage" "Z" ∈ gw := gw_t6 124 rfl rfl
theorem mw_13 : Cond.fieldLink RX12 17 "LeastPendingModel" "image" "[I" ∈ gw := gw_t6 121 rfl rfl
theorem mw_14 : Cond.fieldLink RX12 13 "LeastPendingModel" "world" "[I" ∈ gw := gw_t6 120 rfl rfl
theorem mw_15 : Cond.fieldLink RX12 23 "LeastPendingModel" "trial" "[I" ∈ gw := gw_t6 123 rfl rfl
theorem mw_16 : Cond.code yX12_pairAt cX12_pairAt 3 (some .int) ∈ gw := gw_t7 87 rfl rfl
theorem mw_17 : Cond.static yX12_pairAt ∈ gw := gw_t7 86 rfl rfl
theorem mw_18 : Cond.methodLink RX12 60 yX12_pairAt ∈ gw := gw_t7 85 rfl rfl
theorem mw_19 : Cond.code yX12_messageAt cX12_messageAt 2 (some .int) ∈ gw := gw_t7 80 rfl rfl
theorem mw_20 : Cond.static yX12_messageAt ∈ gw := gw_t7 79 rfl rfl
theorem mw_21 : Cond.methodLink RX12 63 yX12_messageAt ∈ gw := gw_t7 78 rfl rfl
theorem mw_22 : Cond.code yX12_nodes cX12_nodes 1 (some .int) ∈ gw := gw_t6 232 rfl rfl
theorem mw_23 : Cond.instanceMethod yX12_nodes ∈ gw := gw_t6 231 rfl rfl
theorem mw_24 : Cond.methodLink RX12 66 yX12_nodes ∈ gw := gw_t6 229 rfl rfl
theorem mw_25 : Cond.selects RX12 yX12_nodes yX12_nodes ∈ gw := gw_pv (n := 18) (List.mem_of_getElem? (i := 35) rfl)
theorem mw_26 : Cond.code yX12_in cX12_in 3 (some .boolean) ∈ gw := gw_t7 41 rfl rfl
theorem mw_27 : Cond.static yX12_in ∈ gw := gw_t7 40 rfl rfl
theorem mw_28 : Cond.methodLink RX12 70 yX12_in ∈ gw := gw_t7 39 rfl rfl
theorem mw_29 : Cond.code yX12_messages cX12_messages 1 (some .int) ∈ gw := gw_t7 73 rfl rfl
theorem mw_30 : Cond.instanceMethod yX12_messages ∈ gw := gw_t7 72 rfl rfl
theorem mw_31 : Cond.methodLink RX12 74 yX12_messages ∈ gw := gw_t7 70 rfl rfl
theorem mw_32 : Cond.selects RX12 yX12_messages yX12_messages ∈ gw := gw_pv (n := 18) (List.mem_of_getElem? (i := 50) rfl)
theorem hdX12_in : yX12_in.cls ≠ "java/lang/invoke/MethodHandle" ∧ yX12_in.cls ≠ "java/lang/invoke/VarHandle" ∧ (parseMethodDescriptor yX12_in.desc).map (fun d => d.parameters.length) = some 3 := by decide +kernel
theorem hdX12_messageAt : yX12_messageAt.cls ≠ "java/lang/invoke/MethodHandle" ∧ yX12_messageAt.cls ≠ "java/lang/invoke/VarHandle" ∧ (parseMethodDescriptor yX12_messageAt.desc).map (fun d => d.parameters.length) = some 2 := by decide +kernel
theorem hdX12_messages : yX12_messages.cls = RX12 ∧ yX12_messages.cls ≠ "java/lang/invoke/MethodHandle" ∧ yX12_messages.cls ≠ "java/lang/invoke/VarHandle" ∧ (parseMethodDescriptor yX12_messages.desc).map (fun d => d.parameters.length) = some 0 := by decide +kernel
theorem hdX12_nodes : yX12_nodes.cls = RX12 ∧ yX12_nodes.cls ≠ "java/lang/invoke/MethodHandle" ∧ yX12_nodes.cls ≠ "java/lang/invoke/VarHandle" ∧ (parseMethodDescriptor yX12_nodes.desc).map (fun d => d.parameters.length) = some 0 := by decide +kernel
theorem hdX12_pairAt : yX12_pairAt.cls ≠ "java/lang/invoke/MethodHandle" ∧ yX12_pairAt.cls ≠ "java/lang/invoke/VarHandle" ∧ (parseMethodDescriptor yX12_pairAt.desc).map (fun d => d.parameters.length) = some 3 := by decide +kernel
theorem dX12_thrown_0 : decode cX12_thrown 0 = .ok (.aload_n 0, 1) := by decide +kernel
theorem dX12_thrown_1 : decode cX12_thrown 1 = .ok (.getfield 3, 3) := by decide +kernel
theorem dX12_thrown_4 : decode cX12_thrown 4 = .ok (.ireturn, 1) := by decide +kernel
theorem dX12_throwsIf_0 : decode cX12_throwsIf 0 = .ok (.iload_n 1, 1) := by decide +kernel
theorem dX12_throwsIf_1 : decode cX12_throwsIf 1 = .ok (.ifCond .eq 8, 3) := by decide +kernel
theorem dX12_throwsIf_4 : decode cX12_throwsIf 4 = .ok (.aload_n 0, 1) := by decide +kernel
theorem dX12_throwsIf_5 : decode cX12_throwsIf 5 = .ok (.iload_n 2, 1) := by decide +kernel
theorem dX12_throwsIf_6 : decode cX12_throwsIf 6 = .ok (.putfield 3, 3) := by decide +kernel
theorem dX12_throwsIf_9 : decode cX12_throwsIf 9 = .ok (.iload_n 1, 1) := by decide +kernel
theorem dX12_throwsIf_10 : decode cX12_throwsIf 10 = .ok (.ireturn, 1) := by decide +kernel
theorem dX12_image_0 : decode cX12_image 0 = .ok (.aload_n 0, 1) := by decide +kernel
theorem dX12_image_1 : decode cX12_image 1 = .ok (.iconst 0, 1) := by decide +kernel
theorem dX12_image_2 : decode cX12_image 2 = .ok (.putfield 3, 3) := by decide +kernel
theorem dX12_image_5 : decode cX12_image 5 = .ok (.iconst 0, 1) := by decide +kernel
theorem dX12_image_6 : decode cX12_image 6 = .ok (.istore_n 1, 1) := by decide +kernel
theorem dX12_image_7 : decode cX12_image 7 = .ok (.iload_n 1, 1) := by decide +kernel
theorem dX12_image_8 : decode cX12_image 8 = .ok (.sipush 32243, 3) := by decide +kernel
theorem dX12_image_11 : decode cX12_image 11 = .ok (.if_icmp .ge 21, 3) := by decide +kernel
theorem dX12_image_14 : decode cX12_image 14 = .ok (.aload_n 0, 1) := by decide +kernel
theorem dX12_image_15 : decode cX12_image 15 = .ok (.getfield 17, 3) := by decide +kernel
theorem dX12_image_18 : decode cX12_image 18 = .ok (.iload_n 1, 1) := by decide +kernel
theorem dX12_image_19 : decode cX12_image 19 = .ok (.aload_n 0, 1) := by decide +kernel
theorem dX12_image_20 : decode cX12_image 20 = .ok (.getfield 13, 3) := by decide +kernel
theorem dX12_image_23 : decode cX12_image 23 = .ok (.iload_n 1, 1) := by decide +kernel
theorem dX12_image_24 : decode cX12_image 24 = .ok (.iaload, 1) := by decide +kernel
theorem dX12_image_25 : decode cX12_image 25 = .ok (.iastore, 1) := by decide +kernel
theorem dX12_image_26 : decode cX12_image 26 = .ok (.iinc 1 1, 3) := by decide +kernel
theorem dX12_image_29 : decode cX12_image 29 = .ok (.goto (-22), 3) := by decide +kernel
theorem dX12_image_32 : decode cX12_image 32 = .ok (.aload_n 0, 1) := by decide +kernel
theorem dX12_image_33 : decode cX12_image 33 = .ok (.iconst 1, 1) := by decide +kernel
theorem dX12_image_34 : decode cX12_image 34 = .ok (.putfield 53, 3) := by decide +kernel
theorem dX12_image_37 : decode cX12_image 37 = .ok (.return_, 1) := by decide +kernel
theorem dX12_back_0 : decode cX12_back 0 = .ok (.aload_n 0, 1) := by decide +kernel
theorem dX12_back_1 : decode cX12_back 1 = .ok (.iconst 0, 1) := by decide +kernel
theorem dX12_back_2 : decode cX12_back 2 = .ok (.putfield 3, 3) := by decide +kernel
theorem dX12_back_5 : decode cX12_back 5 = .ok (.aload_n 0, 1) := by decide +kernel
theorem dX12_back_6 : decode cX12_back 6 = .ok (.getfield 53, 3) := by decide +kernel
theorem dX12_back_9 : decode cX12_back 9 = .ok (.ifCond .ne 5, 3) := by decide +kernel
theorem dX12_back_12 : decode cX12_back 12 = .ok (.iconst 0, 1) := by decide +kernel
theorem dX12_back_13 : decode cX12_back 13 = .ok (.ireturn, 1) := by decide +kernel
theorem dX12_back_14 : decode cX12_back 14 = .ok (.iconst 0, 1) := by decide +kernel
theorem dX12_back_15 : decode cX12_back 15 = .ok (.istore_n 1, 1) := by decide +kernel
theorem dX12_back_16 : decode cX12_back 16 = .ok (.iload_n 1, 1) := by decide +kernel
theorem dX12_back_17 : decode cX12_back 17 = .ok (.sipush 32243, 3) := by decide +kernel
theorem dX12_back_20 : decode cX12_back 20 = .ok (.if_icmp .ge 21, 3) := by decide +kernel
theorem dX12_back_23 : decode cX12_back 23 = .ok (.aload_n 0, 1) := by decide +kernel
theorem dX12_back_24 : decode cX12_back 24 = .ok (.getfield 13, 3) := by decide +kernel
theorem dX12_back_27 : decode cX12_back 27 = .ok (.iload_n 1, 1) := by decide +kernel
theorem dX12_back_28 : decode cX12_back 28 = .ok (.aload_n 0, 1) := by decide +kernel
theorem dX12_back_29 : decode cX12_back 29 = .ok (.getfield 17, 3) := by decide +kernel
theorem dX12_back_32 : decode cX12_back 32 = .ok (.iload_n 1, 1) := by decide +kernel
theorem dX12_back_33 : decode cX12_back 33 = .ok (.iaload, 1) := by decide +kernel
theorem dX12_back_34 : decode cX12_back 34 = .ok (.iastore, 1) := by decide +kernel
theorem dX12_back_35 : decode cX12_back 35 = .ok (.iinc 1 1, 3) := by decide +kernel
theorem dX12_back_38 : decode cX12_back 38 = .ok (.goto (-22), 3) := by decide +kernel
theorem dX12_back_41 : decode cX12_back 41 = .ok (.iconst 1, 1) := by decide +kernel
theorem dX12_back_42 : decode cX12_back 42 = .ok (.ireturn, 1) := by decide +kernel
theorem dX12_keepsAll_0 : decode cX12_keepsAll 0 = .ok (.iconst 0, 1) := by decide +kernel
theorem dX12_keepsAll_1 : decode cX12_keepsAll 1 = .ok (.istore_n 1, 1) := by decide +kernel
theorem dX12_keepsAll_2 : decode cX12_keepsAll 2 = .ok (.iload_n 1, 1) := by decide +kernel
theorem dX12_keepsAll_3 : decode cX12_keepsAll 3 = .ok (.sipush 32243, 3) := by decide +kernel
theorem dX12_keepsAll_6 : decode cX12_keepsAll 6 = .ok (.if_icmp .ge 21, 3) := by decide +kernel
theorem dX12_keepsAll_9 : decode cX12_keepsAll 9 = .ok (.aload_n 0, 1) := by decide +kernel
theorem dX12_keepsAll_10 : decode cX12_keepsAll 10 = .ok (.getfield 23, 3) := by decide +kernel
theorem dX12_keepsAll_13 : decode cX12_keepsAll 13 = .ok (.iload_n 1, 1) := by decide +kernel
theorem dX12_keepsAll_14 : decode cX12_keepsAll 14 = .ok (.aload_n 0, 1) := by decide +kernel
theorem dX12_keepsAll_15 : decode cX12_keepsAll 15 = .ok (.getfield 13, 3) := by decide +kernel
theorem dX12_keepsAll_18 : decode cX12_keepsAll 18 = .ok (.iload_n 1, 1) := by decide +kernel
theorem dX12_keepsAll_19 : decode cX12_keepsAll 19 = .ok (.iaload, 1) := by decide +kernel
theorem dX12_keepsAll_20 : decode cX12_keepsAll 20 = .ok (.iastore, 1) := by decide +kernel
theorem dX12_keepsAll_21 : decode cX12_keepsAll 21 = .ok (.iinc 1 1, 3) := by decide +kernel
theorem dX12_keepsAll_24 : decode cX12_keepsAll 24 = .ok (.goto (-22), 3) := by decide +kernel
theorem dX12_keepsAll_27 : decode cX12_keepsAll 27 = .ok (.return_, 1) := by decide +kernel
theorem dX12_bringsBack_0 : decode cX12_bringsBack 0 = .ok (.iconst 0, 1) := by decide +kernel
theorem dX12_bringsBack_1 : decode cX12_bringsBack 1 = .ok (.istore_n 1, 1) := by decide +kernel
theorem dX12_bringsBack_2 : decode cX12_bringsBack 2 = .ok (.iload_n 1, 1) := by decide +kernel
theorem dX12_bringsBack_3 : decode cX12_bringsBack 3 = .ok (.sipush 32243, 3) := by decide +kernel
theorem dX12_bringsBack_6 : decode cX12_bringsBack 6 = .ok (.if_icmp .ge 21, 3) := by decide +kernel
theorem dX12_bringsBack_9 : decode cX12_bringsBack 9 = .ok (.aload_n 0, 1) := by decide +kernel
theorem dX12_bringsBack_10 : decode cX12_bringsBack 10 = .ok (.getfield 13, 3) := by decide +kernel
theorem dX12_bringsBack_13 : decode cX12_bringsBack 13 = .ok (.iload_n 1, 1) := by decide +kernel
theorem dX12_bringsBack_14 : decode cX12_bringsBack 14 = .ok (.aload_n 0, 1) := by decide +kernel
theorem dX12_bringsBack_15 : decode cX12_bringsBack 15 = .ok (.getfield 23, 3) := by decide +kernel
theorem dX12_bringsBack_18 : decode cX12_bringsBack 18 = .ok (.iload_n 1, 1) := by decide +kernel
theorem dX12_bringsBack_19 : decode cX12_bringsBack 19 = .ok (.iaload, 1) := by decide +kernel
theorem dX12_bringsBack_20 : decode cX12_bringsBack 20 = .ok (.iastore, 1) := by decide +kernel
theorem dX12_bringsBack_21 : decode cX12_bringsBack 21 = .ok (.iinc 1 1, 3) := by decide +kernel
theorem dX12_bringsBack_24 : decode cX12_bringsBack 24 = .ok (.goto (-22), 3) := by decide +kernel
theorem dX12_bringsBack_27 : decode cX12_bringsBack 27 = .ok (.return_, 1) := by decide +kernel
theorem dX12_nodes_0 : decode cX12_nodes 0 = .ok (.aload_n 0, 1) := by decide +kernel
theorem dX12_nodes_1 : decode cX12_nodes 1 = .ok (.getfield 13, 3) := by decide +kernel
theorem dX12_nodes_4 : decode cX12_nodes 4 = .ok (.iconst 0, 1) := by decide +kernel
theorem dX12_nodes_5 : decode cX12_nodes 5 = .ok (.iaload, 1) := by decide +kernel
theorem dX12_nodes_6 : decode cX12_nodes 6 = .ok (.ireturn, 1) := by decide +kernel
theorem dX12_messages_0 : decode cX12_messages 0 = .ok (.aload_n 0, 1) := by decide +kernel
theorem dX12_messages_1 : decode cX12_messages 1 = .ok (.getfield 13, 3) := by decide +kernel
theorem dX12_messages_4 : decode cX12_messages 4 = .ok (.iconst 3, 1) := by decide +kernel
theorem dX12_messages_5 : decode cX12_messages 5 = .ok (.iaload, 1) := by decide +kernel
theorem dX12_messages_6 : decode cX12_messages 6 = .ok (.ireturn, 1) := by decide +kernel
theorem dX12_of_0 : decode cX12_of 0 = .ok (.aload_n 0, 1) := by decide +kernel
theorem dX12_of_1 : decode cX12_of 1 = .ok (.getfield 13, 3) := by decide +kernel
theorem dX12_of_4 : decode cX12_of 4 = .ok (.iload_n 1, 1) := by decide +kernel
theorem dX12_of_5 : decode cX12_of 5 = .ok (.iload_n 2, 1) := by decide +kernel
theorem dX12_of_6 : decode cX12_of 6 = .ok (.invokestatic 56, 3) := by decide +kernel
theorem dX12_of_9 : decode cX12_of 9 = .ok (.iaload, 1) := by decide +kernel
theorem dX12_of_10 : decode cX12_of 10 = .ok (.ireturn, 1) := by decide +kernel
theorem dX12_ofPair_0 : decode cX12_ofPair 0 = .ok (.aload_n 0, 1) := by decide +kernel
theorem dX12_ofPair_1 : decode cX12_ofPair 1 = .ok (.getfield 13, 3) := by decide +kernel
theorem dX12_ofPair_4 : decode cX12_ofPair 4 = .ok (.iload_n 1, 1) := by decide +kernel
theorem dX12_ofPair_5 : decode cX12_ofPair 5 = .ok (.iload_n 2, 1) := by decide +kernel
theorem dX12_ofPair_6 : decode cX12_ofPair 6 = .ok (.iload_n 3, 1) := by decide +kernel
theorem dX12_ofPair_7 : decode cX12_ofPair 7 = .ok (.invokestatic 60, 3) := by decide +kernel
theorem dX12_ofPair_10 : decode cX12_ofPair 10 = .ok (.iaload, 1) := by decide +kernel
theorem dX12_ofPair_11 : decode cX12_ofPair 11 = .ok (.ireturn, 1) := by decide +kernel
theorem dX12_lays_0 : decode cX12_lays 0 = .ok (.aload_n 0, 1) := by decide +kernel
theorem dX12_lays_1 : decode cX12_lays 1 = .ok (.getfield 13, 3) := by decide +kernel
theorem dX12_lays_4 : decode cX12_lays 4 = .ok (.iload_n 1, 1) := by decide +kernel
theorem dX12_lays_5 : decode cX12_lays 5 = .ok (.iload_n 2, 1) := by decide +kernel
theorem dX12_lays_6 : decode cX12_lays 6 = .ok (.iload_n 3, 1) := by decide +kernel
theorem dX12_lays_7 : decode cX12_lays 7 = .ok (.invokestatic 60, 3) := by decide +kernel
theorem dX12_lays_10 : decode cX12_lays 10 = .ok (.iload 4, 2) := by decide +kernel
theorem dX12_lays_12 : decode cX12_lays 12 = .ok (.iastore, 1) := by decide +kernel
theorem dX12_lays_13 : decode cX12_lays 13 = .ok (.return_, 1) := by decide +kernel
theorem dX12_ofMessage_0 : decode cX12_ofMessage 0 = .ok (.aload_n 0, 1) := by decide +kernel
theorem dX12_ofMessage_1 : decode cX12_ofMessage 1 = .ok (.getfield 13, 3) := by decide +kernel
theorem dX12_ofMessage_4 : decode cX12_ofMessage 4 = .ok (.iload_n 1, 1) := by decide +kernel
theorem dX12_ofMessage_5 : decode cX12_ofMessage 5 = .ok (.iload_n 2, 1) := by decide +kernel
theorem dX12_ofMessage_6 : decode cX12_ofMessage 6 = .ok (.invokestatic 63, 3) := by decide +kernel
theorem dX12_ofMessage_9 : decode cX12_ofMessage 9 = .ok (.iaload, 1) := by decide +kernel
theorem dX12_ofMessage_10 : decode cX12_ofMessage 10 = .ok (.ireturn, 1) := by decide +kernel
theorem dX12_ofChannel_0 : decode cX12_ofChannel 0 = .ok (.aload_n 0, 1) := by decide +kernel
theorem dX12_ofChannel_1 : decode cX12_ofChannel 1 = .ok (.getfield 13, 3) := by decide +kernel
theorem dX12_ofChannel_4 : decode cX12_ofChannel 4 = .ok (.iload_n 1, 1) := by decide +kernel
theorem dX12_ofChannel_5 : decode cX12_ofChannel 5 = .ok (.iload_n 2, 1) := by decide +kernel
theorem dX12_ofChannel_6 : decode cX12_ofChannel 6 = .ok (.iload_n 3, 1) := by decide +kernel
theorem dX12_ofChannel_7 : decode cX12_ofChannel 7 = .ok (.invokestatic 49, 3) := by decide +kernel
theorem dX12_ofChannel_10 : decode cX12_ofChannel 10 = .ok (.iaload, 1) := by decide +kernel
theorem dX12_ofChannel_11 : decode cX12_ofChannel 11 = .ok (.ireturn, 1) := by decide +kernel
theorem dX12_noNode_0 : decode cX12_noNode 0 = .ok (.iload_n 1, 1) := by decide +kernel
theorem dX12_noNode_1 : decode cX12_noNode 1 = .ok (.iconst 0, 1) := by decide +kernel
theorem dX12_noNode_2 : decode cX12_noNode 2 = .ok (.aload_n 0, 1) := by decide +kernel
theorem dX12_noNode_3 : decode cX12_noNode 3 = .ok (.invokevirtual 66, 3) := by decide +kernel
theorem dX12_noNode_6 : decode cX12_noNode 6 = .ok (.iconst 1, 1) := by decide +kernel
theorem dX12_noNode_7 : decode cX12_noNode 7 = .ok (.isub, 1) := by decide +kernel
theorem dX12_noNode_8 : decode cX12_noNode 8 = .ok (.invokestatic 70, 3) := by decide +kernel
theorem dX12_noNode_11 : decode cX12_noNode 11 = .ok (.ifCond .ne 7, 3) := by decide +kernel
theorem dX12_noNode_14 : decode cX12_noNode 14 = .ok (.iconst 1, 1) := by decide +kernel
theorem dX12_noNode_15 : decode cX12_noNode 15 = .ok (.goto 4, 3) := by decide +kernel
theorem dX12_noNode_18 : decode cX12_noNode 18 = .ok (.iconst 0, 1) := by decide +kernel
theorem dX12_noNode_19 : decode cX12_noNode 19 = .ok (.ireturn, 1) := by decide +kernel
theorem dX12_noMessage_0 : decode cX12_noMessage 0 = .ok (.iload_n 1, 1) := by decide +kernel
theorem dX12_noMessage_1 : decode cX12_noMessage 1 = .ok (.iconst 0, 1) := by decide +kernel
theorem dX12_noMessage_2 : decode cX12_noMessage 2 = .ok (.aload_n 0, 1) := by decide +kernel
theorem dX12_noMessage_3 : decode cX12_noMessage 3 = .ok (.invokevirtual 74, 3) := by decide +kernel
theorem dX12_noMessage_6 : decode cX12_noMessage 6 = .ok (.iconst 1, 1) := by decide +kernel
theorem dX12_noMessage_7 : decode cX12_noMessage 7 = .ok (.isub, 1) := by decide +kernel
theorem dX12_noMessage_8 : decode cX12_noMessage 8 = .ok (.invokestatic 70, 3) := by decide +kernel
theorem dX12_noMessage_11 : decode cX12_noMessage 11 = .ok (.ifCond .ne 7, 3) := by decide +kernel
theorem dX12_noMessage_14 : decode cX12_noMessage 14 = .ok (.iconst 1, 1) := by decide +kernel
theorem dX12_noMessage_15 : decode cX12_noMessage 15 = .ok (.goto 4, 3) := by decide +kernel
theorem dX12_noMessage_18 : decode cX12_noMessage 18 = .ok (.iconst 0, 1) := by decide +kernel
theorem dX12_noMessage_19 : decode cX12_noMessage 19 = .ok (.ireturn, 1) := by decide +kernel
theorem dX12_noGroup_0 : decode cX12_noGroup 0 = .ok (.iload_n 1, 1) := by decide +kernel
theorem dX12_noGroup_1 : decode cX12_noGroup 1 = .ok (.iconst 0, 1) := by decide +kernel
theorem dX12_noGroup_2 : decode cX12_noGroup 2 = .ok (.aload_n 0, 1) := by decide +kernel
theorem dX12_noGroup_3 : decode cX12_noGroup 3 = .ok (.getfield 13, 3) := by decide +kernel
theorem dX12_noGroup_6 : decode cX12_noGroup 6 = .ok (.iconst 1, 1) := by decide +kernel
theorem dX12_noGroup_7 : decode cX12_noGroup 7 = .ok (.iaload, 1) := by decide +kernel
theorem dX12_noGroup_8 : decode cX12_noGroup 8 = .ok (.iconst 1, 1) := by decide +kernel
theorem dX12_noGroup_9 : decode cX12_noGroup 9 = .ok (.isub, 1) := by decide +kernel
theorem dX12_noGroup_10 : decode cX12_noGroup 10 = .ok (.invokestatic 70, 3) := by decide +kernel
theorem dX12_noGroup_13 : decode cX12_noGroup 13 = .ok (.ifCond .ne 7, 3) := by decide +kernel
theorem dX12_noGroup_16 : decode cX12_noGroup 16 = .ok (.iconst 1, 1) := by decide +kernel
theorem dX12_noGroup_17 : decode cX12_noGroup 17 = .ok (.goto 4, 3) := by decide +kernel
theorem dX12_noGroup_20 : decode cX12_noGroup 20 = .ok (.iconst 0, 1) := by decide +kernel
theorem dX12_noGroup_21 : decode cX12_noGroup 21 = .ok (.ireturn, 1) := by decide +kernel
section S_10_m00
variable {p : Program} {l : Launch} {e : Env} {R : Room} {s : State} {m : MethodId} {args : Array Value} {below : List Frame} {meth : Method} {c : Code} {A : Nat → Prop} {D : va_G} {cI cB cL : ClassId} {ad : Nat → Nat} {pa pl : Nat}
noncomputable def fX12_thrown_0 (u : Sg) : Option Int32 := some (u 0 0)
noncomputable def fX12_thrown (u : Sg) : Option Int32 := fX12_thrown_0 u
set_option maxRecDepth 10000 in
set_option maxHeartbeats 4000000 in
theorem wX12_thrown_0 (C : cx D (tyl cI cB cL) A RX12 cX12_thrown 1 (some .int) p s m args c meth) (hR : 0 ≤ R.frames ∧ 0 ≤ R.locals) {r : Int32} (u : Sg) {H : Heap} {locs : List Loc} {ls : Array Slot} (hl : lv_has ls 1 [(0, .ref (ad 0))]) (S : st D (wM cI cB ad) A s u H locs) (h : fX12_thrown_0 u = some r) : W p l e R s m args below meth c H locs 0 0 (MQ below (qI D (tyl cI cB cL) (wM cI cB ad) A r u) args s 0 0 A) (F0 m 0 ls []) := by
  have hx := C.1
  have hb := C.2.1
  have hsz := hl.1
  unfold fX12_thrown_0 at h
  refine lv_aload_n hx hb dX12_thrown_0 rfl (lv_at hl 0 rfl) ?_
  refine q_get (v := .int (u 0 0)) C S (oM0 cI cB ad) rfl iwX12 0 (by decide) mw_11 rfl dX12_thrown_1 ?_
  exact q_iret C S (rt_R h) dX12_thrown_4
set_option maxRecDepth 10000 in
set_option maxHeartbeats 4000000 in
theorem ct_X12_thrown (l : Launch) (D : va_G) (cI cB cL : ClassId) (ad : Nat → Nat) (u : Sg) {r : Int32} (h : fX12_thrown u = some r) : metI l D (tyl cI cB cL) yX12_thrown cX12_thrown 1 (some .int) 0 0 (wM cI cB ad) [.ref (ad 0)] u r u := by
  intro sz
  refine Met.ofW (cc := cX12_thrown) (maxL := 1) (ret := (some .int)) (by decide) rfl ?_
  intro p e s m args below meth c s₁ B hml hv
  obtain ⟨rfl, C, S⟩ := q_entry B hml hv
  have hl := lv_entry ([.ref (ad 0)]) (n := 1) (Nat.le_of_ble_eq_true rfl)
  rw [lg_entry_eq]
  generalize (lg_sl ([.ref (ad 0)]) ++ List.replicate (1 - (lg_sl ([.ref (ad 0)])).length) Slot.unset).toArray = ls at hl ⊢
  exact wX12_thrown_0 C ⟨Nat.le_refl _, Nat.le_refl _⟩ u (lv_sub hl [0] rfl) S h
noncomputable def fX12_throwsIf_0 (x1 : Int32) (x2 : Int32) (u : Sg) : Option (Int32 × Sg) := cnd (x1 = 0) (grd (isB x1) (some (x1, u))) (bnd (s2 u 0 0 x2) (fun u3 => grd (isB x1) (some (x1, u3))))
noncomputable def fX12_throwsIf (x1 : Int32) (x2 : Int32) (u : Sg) : Option (Int32 × Sg) := fX12_throwsIf_0 x1 x2 u
set_option maxRecDepth 10000 in
set_option maxHeartbeats 4000000 in
theorem wX12_throwsIf_0 (C : cx D (tyl cI cB cL) A RX12 cX12_throwsIf 3 (some .boolean) p s m args c meth) (hR : 0 ≤ R.frames ∧ 0 ≤ R.locals) {r : Int32} {σ' : Sg} (u : Sg) (x1 : Int32) (x2 : Int32) {H : Heap} {locs : List Loc} {ls : Array Slot} (hl : lv_has ls 3 [(0, .ref (ad 0)), (1, .int x1), (2, .int x2)]) (S : st D (wM cI cB ad) A s u H locs) (h : fX12_throwsIf_0 x1 x2 u = some (r, σ')) : W p l e R s m args below meth c H locs 0 0 (MQ below (qI D (tyl cI cB cL) (wM cI cB ad) A r σ') args s 0 0 A) (F0 m 0 ls []) := by
  have hx := C.1
  have hb := C.2.1
  have hsz := hl.1
  unfold fX12_throwsIf_0 at h
  refine lv_iload_n hx hb dX12_throwsIf_0 rfl (lv_at hl 1 rfl) ?_
  refine lv_if_eq (tgt := 9) hx hb dX12_throwsIf_1 (by decide) (fun c1 => ?_) (fun c1 => ?_)
  · have h := cnd_t c1 h
    refine lv_iload_n hx hb dX12_throwsIf_9 rfl (lv_at hl 1 rfl) ?_
    obtain ⟨g2, h⟩ := grd_some h
    exact q_zret C S (isB_n g2) (rt_S h) dX12_throwsIf_10
  · have h := cnd_f c1 h
    refine lv_aload_n hx hb dX12_throwsIf_4 rfl (lv_at hl 0 rfl) ?_
    refine lv_iload_n hx hb dX12_throwsIf_5 rfl (lv_at hl 2 rfl) ?_
    obtain ⟨u3, eu3⟩ : ∃ z : Sg, z = s2 u 0 0 x2 := ⟨_, rfl⟩
    have h := bnd_of eu3 h
    refine q_put C S (oM0 cI cB ad) rfl iwX12 tyX12 tyX12_ok nmX12 0 (by decide) mw_11 rfl (iM0_0 cI cB ad) rfl rfl dX12_throwsIf_6 eu3 (fun H locs S => ?_)
    refine lv_iload_n hx hb dX12_throwsIf_9 rfl (lv_at hl 1 rfl) ?_
    obtain ⟨g4, h⟩ := grd_some h
    exact q_zret C S (isB_n g4) (rt_S h) dX12_throwsIf_10
set_option maxRecDepth 10000 in
set_option maxHeartbeats 4000000 in
theorem ct_X12_throwsIf (l : Launch) (D : va_G) (cI cB cL : ClassId) (ad : Nat → Nat) (x1 : Int32) (x2 : Int32) (u : Sg) {r : Int32} {σ' : Sg} (h : fX12_throwsIf x1 x2 u = some (r, σ')) : metI l D (tyl cI cB cL) yX12_throwsIf cX12_throwsIf 3 (some .boolean) 0 0 (wM cI cB ad) [.ref (ad 0), .int x1, .int x2] u r σ' := by
  intro sz
  refine Met.ofW (cc := cX12_throwsIf) (maxL := 3) (ret := (some .boolean)) (by decide) rfl ?_
  intro p e s m args below meth c s₁ B hml hv
  obtain ⟨rfl, C, S⟩ := q_entry B hml hv
  have hl := lv_entry ([.ref (ad 0), .int x1, .int x2]) (n := 3) (Nat.le_of_ble_eq_true rfl)
  rw [lg_entry_eq]
  generalize (lg_sl ([.ref (ad 0), .int x1, .int x2]) ++ List.replicate (3 - (lg_sl ([.ref (ad 0), .int x1, .int x2])).length) Slot.unset).toArray = ls at hl ⊢
  exact wX12_throwsIf_0 C ⟨Nat.le_refl _, Nat.le_refl _⟩ u x1 x2 (lv_sub hl [0, 1, 2] rfl) S h
noncomputable def fX12_image_7 : Nat → Int32 → Sg → Option Sg
  | 0, _, _ => none
  | n + 1, x1, u => cnd (32243 ≤ x1) (bnd (s2 u 0 5 1) (fun u3 => some u3)) (grd (vp_in x1 32243) (grd (vp_in x1 32243) (bnd (s2 u 2 ((x1 : Int32).toNatClampNeg) (u 1 ((x1 : Int32).toNatClampNeg))) (fun u6 => bnd (x1 + 1) (fun v7 => fX12_image_7 n v7 u6)))))
noncomputable def fX12_image_0 (u : Sg) : Option Sg := bnd (s2 u 0 0 0) (fun u1 => fX12_image_7 FU 0 u1)
noncomputable def fX12_image (u : Sg) : Option Sg := fX12_image_0 u
set_option maxRecDepth 10000 in
set_option maxHeartbeats 4000000 in
theorem wX12_image_7 (C : cx D (tyl cI cB cL) A RX12 cX12_image 2 none p s m args c meth) (hR : 0 ≤ R.frames ∧ 0 ≤ R.locals) {σ' : Sg} : ∀ (n : Nat) (x1 : Int32) (u : Sg) (H : Heap) (locs : List Loc) (ls : Array Slot), lv_has ls 2 [(0, .ref (ad 0)), (1, .int x1)] → st D (wM cI cB ad) A s u H locs → fX12_image_7 n x1 u = some σ' → W p l e R s m args below meth c H locs 0 0 (MQ below (qV D (tyl cI cB cL) (wM cI cB ad) A σ') args s 0 0 A) (F0 m 7 ls []) := by
  have hx := C.1
  have hb := C.2.1
  intro n
  induction n with
  | zero =>
    intro x1 u H locs ls hl S h
    cases h
  | succ n ih =>
    intro x1 u H locs ls hl S h
    rw [fX12_image_7] at h
    have hsz := hl.1
    refine lv_iload_n hx hb dX12_image_7 rfl (lv_at hl 1 rfl) ?_
    refine lv_sipush (v := 32243) hx hb dX12_image_8 (by decide) ?_
    refine lv_icmp_ge (tgt := 32) hx hb dX12_image_11 (by decide) (fun c2 => ?_) (fun c2 => ?_)
    · have h := cnd_t c2 h
      refine lv_aload_n hx hb dX12_image_32 rfl (lv_at hl 0 rfl) ?_
      refine lv_iconst (v := 1) hx hb dX12_image_33 (by decide) ?_
      obtain ⟨u3, eu3⟩ : ∃ z : Sg, z = s2 u 0 5 1 := ⟨_, rfl⟩
      have h := bnd_of eu3 h
      refine q_put C S (oM0 cI cB ad) rfl iwX12 tyX12 tyX12_ok nmX12 5 (by decide) mw_12 rfl (iM0_5 cI cB ad) rfl rfl dX12_image_34 eu3 (fun H locs S => ?_)
      exact q_vret C S (Option.some.inj h) dX12_image_37
    · have h := cnd_f c2 h
      refine lv_aload_n hx hb dX12_image_14 rfl (lv_at hl 0 rfl) ?_
      refine q_get (v := .ref (ad 2)) C S (oM0 cI cB ad) rfl iwX12 2 (by decide) mw_13 rfl dX12_image_15 ?_
      refine lv_iload_n hx hb dX12_image_18 rfl (lv_at hl 1 rfl) ?_
      refine lv_aload_n hx hb dX12_image_19 rfl (lv_at hl 0 rfl) ?_
      refine q_get (v := .ref (ad 1)) C S (oM0 cI cB ad) rfl iwX12 1 (by decide) mw_14 rfl dX12_image_20 ?_
      refine lv_iload_n hx hb dX12_image_23 rfl (lv_at hl 1 rfl) ?_
      obtain ⟨g4, h⟩ := grd_some h
      refine q_iald C S (aM1 cI cB ad) 0 rfl g4 dX12_image_24 (j := (x1 : Int32).toNatClampNeg) rfl ?_
      obtain ⟨g5, h⟩ := grd_some h
      obtain ⟨u6, eu6⟩ : ∃ z : Sg, z = s2 u 2 ((x1 : Int32).toNatClampNeg) (u 1 ((x1 : Int32).toNatClampNeg)) := ⟨_, rfl⟩
      have h := bnd_of eu6 h
      refine q_iast C S (aM2 cI cB ad) 0 rfl g5 dX12_image_25 (j := (x1 : Int32).toNatClampNeg) rfl eu6 (fun H locs S => ?_)
      obtain ⟨v7, ev7⟩ : ∃ y : Int32, y = x1 + 1 := ⟨_, rfl⟩
      have h := bnd_of ev7 h
      refine lv_iinc (v := v7) (lv' := [(1, .int v7), (0, .ref (ad 0))]) hx hb dX12_image_26 hl (k := 1) rfl (by rw [ev7]; rfl) (by decide) rfl (fun ls hl => ?_)
      have hsz := hl.1
      refine lv_goto (tgt := 7) hx hb dX12_image_29 (by decide) ?_
      exact ih v7 u6 H locs ls (lv_sub hl [1, 0] rfl) S h
set_option maxRecDepth 10000 in
set_option maxHeartbeats 4000000 in
theorem wX12_image_0 (C : cx D (tyl cI cB cL) A RX12 cX12_image 2 none p s m args c meth) (hR : 0 ≤ R.frames ∧ 0 ≤ R.locals) {σ' : Sg} (u : Sg) {H : Heap} {locs : List Loc} {ls : Array Slot} (hl : lv_has ls 2 [(0, .ref (ad 0))]) (S : st D (wM cI cB ad) A s u H locs) (h : fX12_image_0 u = some σ') : W p l e R s m args below meth c H locs 0 0 (MQ below (qV D (tyl cI cB cL) (wM cI cB ad) A σ') args s 0 0 A) (F0 m 0 ls []) := by
  have hx := C.1
  have hb := C.2.1
  have hsz := hl.1
  unfold fX12_image_0 at h
  refine lv_aload_n hx hb dX12_image_0 rfl (lv_at hl 0 rfl) ?_
  refine lv_iconst (v := 0) hx hb dX12_image_1 (by decide) ?_
  obtain ⟨u1, eu1⟩ : ∃ z : Sg, z = s2 u 0 0 0 := ⟨_, rfl⟩
  have h := bnd_of eu1 h
  refine q_put C S (oM0 cI cB ad) rfl iwX12 tyX12 tyX12_ok nmX12 0 (by decide) mw_11 rfl (iM0_0 cI cB ad) rfl rfl dX12_image_2 eu1 (fun H locs S => ?_)
  refine lv_iconst (v := 0) hx hb dX12_image_5 (by decide) ?_
  refine lv_istore_n (lv' := [(1, .int 0), (0, .ref (ad 0))]) hx hb dX12_image_6 rfl hl (by decide) rfl (fun ls hl => ?_)
  have hsz := hl.1
  exact wX12_image_7 C hR FU 0 u1 H locs ls (lv_sub hl [1, 0] rfl) S h
set_option maxRecDepth 10000 in
set_option maxHeartbeats 4000000 in
theorem ct_X12_image (l : Launch) (D : va_G) (cI cB cL : ClassId) (ad : Nat → Nat) (u : Sg) {σ' : Sg} (h : fX12_image u = some σ') : metV l D (tyl cI cB cL) yX12_image cX12_image 2 0 0 (wM cI cB ad) [.ref (ad 0)] u σ' := by
  intro sz
  refine Met.ofW (cc := cX12_image) (maxL := 2) (ret := none) (by decide) rfl ?_
  intro p e s m args below meth c s₁ B hml hv
  obtain ⟨rfl, C, S⟩ := q_entry B hml hv
  have hl := lv_entry ([.ref (ad 0)]) (n := 2) (Nat.le_of_ble_eq_true rfl)
  rw [lg_entry_eq]
  generalize (lg_sl ([.ref (ad 0)]) ++ List.replicate (2 - (lg_sl ([.ref (ad 0)])).length) Slot.unset).toArray = ls at hl ⊢
  exact wX12_image_0 C ⟨Nat.le_refl _, Nat.le_refl _⟩ u (lv_sub hl [0] rfl) S h
noncomputable def fX12_back_16 : Nat → Int32 → Sg → Option (Int32 × Sg)
  | 0, _, _ => none
  | n + 1, x1, u => cnd (32243 ≤ x1) (some (1, u)) (grd (vp_in x1 32243) (grd (vp_in x1 32243) (bnd (s2 u 1 ((x1 : Int32).toNatClampNeg) (u 2 ((x1 : Int32).toNatClampNeg))) (fun u6 => bnd (x1 + 1) (fun v7 => fX12_back_16 n v7 u6)))))
noncomputable def fX12_back_0 (u : Sg) : Option (Int32 × Sg) := bnd (s2 u 0 0 0) (fun u1 => cnd ((u1 0 5) = 0) (some (0, u1)) (fX12_back_16 FU 0 u1))
noncomputable def fX12_back (u : Sg) : Option (Int32 × Sg) := fX12_back_0 u
set_option maxRecDepth 10000 in
set_option maxHeartbeats 4000000 in
theorem wX12_back_16 (C : cx D (tyl cI cB cL) A RX12 cX12_back 2 (some .boolean) p s m args c meth) (hR : 0 ≤ R.frames ∧ 0 ≤ R.locals) {r : Int32} {σ' : Sg} : ∀ (n : Nat) (x1 : Int32) (u : Sg) (H : Heap) (locs : List Loc) (ls : Array Slot), lv_has ls 2 [(0, .ref (ad 0)), (1, .int x1)] → st D (wM cI cB ad) A s u H locs → fX12_back_16 n x1 u = some (r, σ') → W p l e R s m args below meth c H locs 0 0 (MQ below (qI D (tyl cI cB cL) (wM cI cB ad) A r σ') args s 0 0 A) (F0 m 16 ls []) := by
  have hx := C.1
  have hb := C.2.1
  intro n
  induction n with
  | zero =>
    intro x1 u H locs ls hl S h
    cases h
  | succ n ih =>
    intro x1 u H locs ls hl S h
    rw [fX12_back_16] at h
    have hsz := hl.1
    refine lv_iload_n hx hb dX12_back_16 rfl (lv_at hl 1 rfl) ?_
    refine lv_sipush (v := 32243) hx hb dX12_back_17 (by decide) ?_
    refine lv_icmp_ge (tgt := 41) hx hb dX12_back_20 (by decide) (fun c3 => ?_) (fun c3 => ?_)
    · have h := cnd_t c3 h
      refine lv_iconst (v := 1) hx hb dX12_back_41 (by decide) ?_
      exact q_zret C S rfl (rt_S h) dX12_back_42
    · have h := cnd_f c3 h
      refine lv_aload_n hx hb dX12_back_23 rfl (lv_at hl 0 rfl) ?_
      refine q_get (v := .ref (ad 1)) C S (oM0 cI cB ad) rfl iwX12 1 (by decide) mw_14 rfl dX12_back_24 ?_
      refine lv_iload_n hx hb dX12_back_27 rfl (lv_at hl 1 rfl) ?_
      refine lv_aload_n hx hb dX12_back_28 rfl (lv_at hl 0 rfl) ?_
      refine q_get (v := .ref (ad 2)) C S (oM0 cI cB ad) rfl iwX12 2 (by decide) mw_13 rfl dX12_back_29 ?_
      refine lv_iload_n hx hb dX12_back_32 rfl (lv_at hl 1 rfl) ?_
      obtain ⟨g4, h⟩ := grd_some h
      refine q_iald C S (aM2 cI cB ad) 0 rfl g4 dX12_back_33 (j := (x1 : Int32).toNatClampNeg) rfl ?_
      obtain ⟨g5, h⟩ := grd_some h
      obtain ⟨u6, eu6⟩ : ∃ z : Sg, z = s2 u 1 ((x1 : Int32).toNatClampNeg) (u 2 ((x1 : Int32).toNatClampNeg)) := ⟨_, rfl⟩
      have h := bnd_of eu6 h
      refine q_iast C S (aM1 cI cB ad) 0 rfl g5 dX12_back_34 (j := (x1 : Int32).toNatClampNeg) rfl eu6 (fun H locs S => ?_)
      obtain ⟨v7, ev7⟩ : ∃ y : Int32, y = x1 + 1 := ⟨_, rfl⟩
      have h := bnd_of ev7 h
      refine lv_iinc (v := v7) (lv' := [(1, .int v7), (0, .ref (ad 0))]) hx hb dX12_back_35 hl (k := 1) rfl (by rw [ev7]; rfl) (by decide) rfl (fun ls hl => ?_)
      have hsz := hl.1
      refine lv_goto (tgt := 16) hx hb dX12_back_38 (by decide) ?_
      exact ih v7 u6 H locs ls (lv_sub hl [1, 0] rfl) S h
set_option maxRecDepth 10000 in
set_option maxHeartbeats 4000000 in
theorem wX12_back_0 (C : cx D (tyl cI cB cL) A RX12 cX12_back 2 (some .boolean) p s m args c meth) (hR : 0 ≤ R.frames ∧ 0 ≤ R.locals) {r : Int32} {σ' : Sg} (u : Sg) {H : Heap} {locs : List Loc} {ls : Array Slot} (hl : lv_has ls 2 [(0, .ref (ad 0))]) (S : st D (wM cI cB ad) A s u H locs) (h : fX12_back_0 u = some (r, σ')) : W p l e R s m args below meth c H locs 0 0 (MQ below (qI D (tyl cI cB cL) (wM cI cB ad) A r σ') args s 0 0 A) (F0 m 0 ls []) := by
  have hx := C.1
  have hb := C.2.1
  have hsz := hl.1
  unfold fX12_back_0 at h
  refine lv_aload_n hx hb dX12_back_0 rfl (lv_at hl 0 rfl) ?_
  refine lv_iconst (v := 0) hx hb dX12_back_1 (by decide) ?_
  obtain ⟨u1, eu1⟩ : ∃ z : Sg, z = s2 u 0 0 0 := ⟨_, rfl⟩
  have h := bnd_of eu1 h
  refine q_put C S (oM0 cI cB ad) rfl iwX12 tyX12 tyX12_ok nmX12 0 (by decide) mw_11 rfl (iM0_0 cI cB ad) rfl rfl dX12_back_2 eu1 (fun H locs S => ?_)
  refine lv_aload_n hx hb dX12_back_5 rfl (lv_at hl 0 rfl) ?_
  refine q_get (v := .int (u1 0 5)) C S (oM0 cI cB ad) rfl iwX12 5 (by decide) mw_12 rfl dX12_back_6 ?_
  refine lv_if_ne (tgt := 14) hx hb dX12_back_9 (by decide) (fun c2 => ?_) (fun c2 => ?_)
  · have h := cnd_f c2 h
    refine lv_iconst (v := 0) hx hb dX12_back_14 (by decide) ?_
    refine lv_istore_n (lv' := [(1, .int 0), (0, .ref (ad 0))]) hx hb dX12_back_15 rfl hl (by decide) rfl (fun ls hl => ?_)
    have hsz := hl.1
    exact wX12_back_16 C hR FU 0 u1 H locs ls (lv_sub hl [1, 0] rfl) S h
  · have h := cnd_t c2 h
    refine lv_iconst (v := 0) hx hb dX12_back_12 (by decide) ?_
    exact q_zret C S rfl (rt_S h) dX12_back_13
set_option maxRecDepth 10000 in
set_option maxHeartbeats 4000000 in
theorem ct_X12_back (l : Launch) (D : va_G) (cI cB cL : ClassId) (ad : Nat → Nat) (u : Sg) {r : Int32} {σ' : Sg} (h : fX12_back u = some (r, σ')) : metI l D (tyl cI cB cL) yX12_back cX12_back 2 (some .boolean) 0 0 (wM cI cB ad) [.ref (ad 0)] u r σ' := by
  intro sz
  refine Met.ofW (cc := cX12_back) (maxL := 2) (ret := (some .boolean)) (by decide) rfl ?_
  intro p e s m args below meth c s₁ B hml hv
  obtain ⟨rfl, C, S⟩ := q_entry B hml hv
  have hl := lv_entry ([.ref (ad 0)]) (n := 2) (Nat.le_of_ble_eq_true rfl)
  rw [lg_entry_eq]
  generalize (lg_sl ([.ref (ad 0)]) ++ List.replicate (2 - (lg_sl ([.ref (ad 0)])).length) Slot.unset).toArray = ls at hl ⊢
  exact wX12_back_0 C ⟨Nat.le_refl _, Nat.le_refl _⟩ u (lv_sub hl [0] rfl) S h
noncomputable def fX12_keepsAll_2 : Nat → Int32 → Sg → Option Sg
  | 0, _, _ => none
  | n + 1, x1, u => cnd (32243 ≤ x1) (some u) (grd (vp_in x1 32243) (grd (vp_in x1 32243) (bnd (s2 u 4 ((x1 : Int32).toNatClampNeg) (u 1 ((x1 : Int32).toNatClampNeg))) (fun u4 => bnd (x1 + 1) (fun v5 => fX12_keepsAll_2 n v5 u4)))))
noncomputable def fX12_keepsAll_0 (u : Sg) : Option Sg := fX12_keepsAll_2 FU 0 u
noncomputable def fX12_keepsAll (u : Sg) : Option Sg := fX12_keepsAll_0 u
set_option maxRecDepth 10000 in
set_option maxHeartbeats 4000000 in
theorem wX12_keepsAll_2 (C : cx D (tyl cI cB cL) A RX12 cX12_keepsAll 2 none p s m args c meth) (hR : 0 ≤ R.frames ∧ 0 ≤ R.locals) {σ' : Sg} : ∀ (n : Nat) (x1 : Int32) (u : Sg) (H : Heap) (locs : List Loc) (ls : Array Slot), lv_has ls 2 [(0, .ref (ad 0)), (1, .int x1)] → st D (wM cI cB ad) A s u H locs → fX12_keepsAll_2 n x1 u = some σ' → W p l e R s m args below meth c H locs 0 0 (MQ below (qV D (tyl cI cB cL) (wM cI cB ad) A σ') args s 0 0 A) (F0 m 2 ls []) := by
  have hx := C.1
  have hb := C.2.1
  intro n
  induction n with
  | zero =>
    intro x1 u H locs ls hl S h
    cases h
  | succ n ih =>
    intro x1 u H locs ls hl S h
    rw [fX12_keepsAll_2] at h
    have hsz := hl.1
    refine lv_iload_n hx hb dX12_keepsAll_2 rfl (lv_at hl 1 rfl) ?_
    refine lv_sipush (v := 32243) hx hb dX12_keepsAll_3 (by decide) ?_
    refine lv_icmp_ge (tgt := 27) hx hb dX12_keepsAll_6 (by decide) (fun c1 => ?_) (fun c1 => ?_)
    · have h := cnd_t c1 h
      exact q_vret C S (Option.some.inj h) dX12_keepsAll_27
    · have h := cnd_f c1 h
      refine lv_aload_n hx hb dX12_keepsAll_9 rfl (lv_at hl 0 rfl) ?_
      refine q_get (v := .ref (ad 4)) C S (oM0 cI cB ad) rfl iwX12 4 (by decide) mw_15 rfl dX12_keepsAll_10 ?_
      refine lv_iload_n hx hb dX12_keepsAll_13 rfl (lv_at hl 1 rfl) ?_
      refine lv_aload_n hx hb dX12_keepsAll_14 rfl (lv_at hl 0 rfl) ?_
      refine q_get (v := .ref (ad 1)) C S (oM0 cI cB ad) rfl iwX12 1 (by decide) mw_14 rfl dX12_keepsAll_15 ?_
      refine lv_iload_n hx hb dX12_keepsAll_18 rfl (lv_at hl 1 rfl) ?_
      obtain ⟨g2, h⟩ := grd_some h
      refine q_iald C S (aM1 cI cB ad) 0 rfl g2 dX12_keepsAll_19 (j := (x1 : Int32).toNatClampNeg) rfl ?_
      obtain ⟨g3, h⟩ := grd_some h
      obtain ⟨u4, eu4⟩ : ∃ z : Sg, z = s2 u 4 ((x1 : Int32).toNatClampNeg) (u 1 ((x1 : Int32).toNatClampNeg)) := ⟨_, rfl⟩
      have h := bnd_of eu4 h
      refine q_iast C S (aM4 cI cB ad) 0 rfl g3 dX12_keepsAll_20 (j := (x1 : Int32).toNatClampNeg) rfl eu4 (fun H locs S => ?_)
      obtain ⟨v5, ev5⟩ : ∃ y : Int32, y = x1 + 1 := ⟨_, rfl⟩
      have h := bnd_of ev5 h
      refine lv_iinc (v := v5) (lv' := [(1, .int v5), (0, .ref (ad 0))]) hx hb dX12_keepsAll_21 hl (k := 1) rfl (by rw [ev5]; rfl) (by decide) rfl (fun ls hl => ?_)
      have hsz := hl.1
      refine lv_goto (tgt := 2) hx hb dX12_keepsAll_24 (by decide) ?_
      exact ih v5 u4 H locs ls (lv_sub hl [1, 0] rfl) S h
set_option maxRecDepth 10000 in
set_option maxHeartbeats 4000000 in
theorem wX12_keepsAll_0 (C : cx D (tyl cI cB cL) A RX12 cX12_keepsAll 2 none p s m args c meth) (hR : 0 ≤ R.frames ∧ 0 ≤ R.locals) {σ' : Sg} (u : Sg) {H : Heap} {locs : List Loc} {ls : Array Slot} (hl : lv_has ls 2 [(0, .ref (ad 0))]) (S : st D (wM cI cB ad) A s u H locs) (h : fX12_keepsAll_0 u = some σ') : W p l e R s m args below meth c H locs 0 0 (MQ below (qV D (tyl cI cB cL) (wM cI cB ad) A σ') args s 0 0 A) (F0 m 0 ls []) := by
  have hx := C.1
  have hb := C.2.1
  have hsz := hl.1
  unfold fX12_keepsAll_0 at h
  refine lv_iconst (v := 0) hx hb dX12_keepsAll_0 (by decide) ?_
  refine lv_istore_n (lv' := [(1, .int 0), (0, .ref (ad 0))]) hx hb dX12_keepsAll_1 rfl hl (by decide) rfl (fun ls hl => ?_)
  have hsz := hl.1
  exact wX12_keepsAll_2 C hR FU 0 u H locs ls (lv_sub hl [1, 0] rfl) S h
set_option maxRecDepth 10000 in
set_option maxHeartbeats 4000000 in
theorem ct_X12_keepsAll (l : Launch) (D : va_G) (cI cB cL : ClassId) (ad : Nat → Nat) (u : Sg) {σ' : Sg} (h : fX12_keepsAll u = some σ') : metV l D (tyl cI cB cL) yX12_keepsAll cX12_keepsAll 2 0 0 (wM cI cB ad) [.ref (ad 0)] u σ' := by
  intro sz
  refine Met.ofW (cc := cX12_keepsAll) (maxL := 2) (ret := none) (by decide) rfl ?_
  intro p e s m args below meth c s₁ B hml hv
  obtain ⟨rfl, C, S⟩ := q_entry B hml hv
  have hl := lv_entry ([.ref (ad 0)]) (n := 2) (Nat.le_of_ble_eq_true rfl)
  rw [lg_entry_eq]
  generalize (lg_sl ([.ref (ad 0)]) ++ List.replicate (2 - (lg_sl ([.ref (ad 0)])).length) Slot.unset).toArray = ls at hl ⊢
  exact wX12_keepsAll_0 C ⟨Nat.le_refl _, Nat.le_refl _⟩ u (lv_sub hl [0] rfl) S h
noncomputable def fX12_bringsBack_2 : Nat → Int32 → Sg → Option Sg
  | 0, _, _ => none
  | n + 1, x1, u => cnd (32243 ≤ x1) (some u) (grd (vp_in x1 32243) (grd (vp_in x1 32243) (bnd (s2 u 1 ((x1 : Int32).toNatClampNeg) (u 4 ((x1 : Int32).toNatClampNeg))) (fun u4 => bnd (x1 + 1) (fun v5 => fX12_bringsBack_2 n v5 u4)))))
noncomputable def fX12_bringsBack_0 (u : Sg) : Option Sg := fX12_bringsBack_2 FU 0 u
noncomputable def fX12_bringsBack (u : Sg) : Option Sg := fX12_bringsBack_0 u
set_option maxRecDepth 10000 in
set_option maxHeartbeats 4000000 in
theorem wX12_bringsBack_2 (C : cx D (tyl cI cB cL) A RX12 cX12_bringsBack 2 none p s m args c meth) (hR : 0 ≤ R.frames ∧ 0 ≤ R.locals) {σ' : Sg} : ∀ (n : Nat) (x1 : Int32) (u : Sg) (H : Heap) (locs : List Loc) (ls : Array Slot), lv_has ls 2 [(0, .ref (ad 0)), (1, .int x1)] → st D (wM cI cB ad) A s u H locs → fX12_bringsBack_2 n x1 u = some σ' → W p l e R s m args below meth c H locs 0 0 (MQ below (qV D (tyl cI cB cL) (wM cI cB ad) A σ') args s 0 0 A) (F0 m 2 ls []) := by
  have hx := C.1
  have hb := C.2.1
  intro n
  induction n with
  | zero =>
    intro x1 u H locs ls hl S h
    cases h
  | succ n ih =>
    intro x1 u H locs ls hl S h
    rw [fX12_bringsBack_2] at h
    have hsz := hl.1
    refine lv_iload_n hx hb dX12_bringsBack_2 rfl (lv_at hl 1 rfl) ?_
    refine lv_sipush (v := 32243) hx hb dX12_bringsBack_3 (by decide) ?_
    refine lv_icmp_ge (tgt := 27) hx hb dX12_bringsBack_6 (by decide) (fun c1 => ?_) (fun c1 => ?_)
    · have h := cnd_t c1 h
      exact q_vret C S (Option.some.inj h) dX12_bringsBack_27
    · have h := cnd_f c1 h
      refine lv_aload_n hx hb dX12_bringsBack_9 rfl (lv_at hl 0 rfl) ?_
      refine q_get (v := .ref (ad 1)) C S (oM0 cI cB ad) rfl iwX12 1 (by decide) mw_14 rfl dX12_bringsBack_10 ?_
      refine lv_iload_n hx hb dX12_bringsBack_13 rfl (lv_at hl 1 rfl) ?_
      refine lv_aload_n hx hb dX12_bringsBack_14 rfl (lv_at hl 0 rfl) ?_
      refine q_get (v := .ref (ad 4)) C S (oM0 cI cB ad) rfl iwX12 4 (by decide) mw_15 rfl dX12_bringsBack_15 ?_
      refine lv_iload_n hx hb dX12_bringsBack_18 rfl (lv_at hl 1 rfl) ?_
      obtain ⟨g2, h⟩ := grd_some h
      refine q_iald C S (aM4 cI cB ad) 0 rfl g2 dX12_bringsBack_19 (j := (x1 : Int32).toNatClampNeg) rfl ?_
      obtain ⟨g3, h⟩ := grd_some h
      obtain ⟨u4, eu4⟩ : ∃ z : Sg, z = s2 u 1 ((x1 : Int32).toNatClampNeg) (u 4 ((x1 : Int32).toNatClampNeg)) := ⟨_, rfl⟩
      have h := bnd_of eu4 h
      refine q_iast C S (aM1 cI cB ad) 0 rfl g3 dX12_bringsBack_20 (j := (x1 : Int32).toNatClampNeg) rfl eu4 (fun H locs S => ?_)
      obtain ⟨v5, ev5⟩ : ∃ y : Int32, y = x1 + 1 := ⟨_, rfl⟩
      have h := bnd_of ev5 h
      refine lv_iinc (v := v5) (lv' := [(1, .int v5), (0, .ref (ad 0))]) hx hb dX12_bringsBack_21 hl (k := 1) rfl (by rw [ev5]; rfl) (by decide) rfl (fun ls hl => ?_)
      have hsz := hl.1
      refine lv_goto (tgt := 2) hx hb dX12_bringsBack_24 (by decide) ?_
      exact ih v5 u4 H locs ls (lv_sub hl [1, 0] rfl) S h
set_option maxRecDepth 10000 in
set_option maxHeartbeats 4000000 in
theorem wX12_bringsBack_0 (C : cx D (tyl cI cB cL) A RX12 cX12_bringsBack 2 none p s m args c meth) (hR : 0 ≤ R.frames ∧ 0 ≤ R.locals) {σ' : Sg} (u : Sg) {H : Heap} {locs : List Loc} {ls : Array Slot} (hl : lv_has ls 2 [(0, .ref (ad 0))]) (S : st D (wM cI cB ad) A s u H locs) (h : fX12_bringsBack_0 u = some σ') : W p l e R s m args below meth c H locs 0 0 (MQ below (qV D (tyl cI cB cL) (wM cI cB ad) A σ') args s 0 0 A) (F0 m 0 ls []) := by
  have hx := C.1
  have hb := C.2.1
  have hsz := hl.1
  unfold fX12_bringsBack_0 at h
  refine lv_iconst (v := 0) hx hb dX12_bringsBack_0 (by decide) ?_
  refine lv_istore_n (lv' := [(1, .int 0), (0, .ref (ad 0))]) hx hb dX12_bringsBack_1 rfl hl (by decide) rfl (fun ls hl => ?_)
  have hsz := hl.1
  exact wX12_bringsBack_2 C hR FU 0 u H locs ls (lv_sub hl [1, 0] rfl) S h
set_option maxRecDepth 10000 in
set_option maxHeartbeats 4000000 in
theorem ct_X12_bringsBack (l : Launch) (D : va_G) (cI cB cL : ClassId) (ad : Nat → Nat) (u : Sg) {σ' : Sg} (h : fX12_bringsBack u = some σ') : metV l D (tyl cI cB cL) yX12_bringsBack cX12_bringsBack 2 0 0 (wM cI cB ad) [.ref (ad 0)] u σ' := by
  intro sz
  refine Met.ofW (cc := cX12_bringsBack) (maxL := 2) (ret := none) (by decide) rfl ?_
  intro p e s m args below meth c s₁ B hml hv
  obtain ⟨rfl, C, S⟩ := q_entry B hml hv
  have hl := lv_entry ([.ref (ad 0)]) (n := 2) (Nat.le_of_ble_eq_true rfl)
  rw [lg_entry_eq]
  generalize (lg_sl ([.ref (ad 0)]) ++ List.replicate (2 - (lg_sl ([.ref (ad 0)])).length) Slot.unset).toArray = ls at hl ⊢
  exact wX12_bringsBack_0 C ⟨Nat.le_refl _, Nat.le_refl _⟩ u (lv_sub hl [0] rfl) S h
noncomputable def fX12_nodes_0 (u : Sg) : Option Int32 := some (u 1 0)
noncomputable def fX12_nodes (u : Sg) : Option Int32 := fX12_nodes_0 u
set_option maxRecDepth 10000 in
set_option maxHeartbeats 4000000 in
theorem wX12_nodes_0 (C : cx D (tyl cI cB cL) A RX12 cX12_nodes 1 (some .int) p s m args c meth) (hR : 0 ≤ R.frames ∧ 0 ≤ R.locals) {r : Int32} (u : Sg) {H : Heap} {locs : List Loc} {ls : Array Slot} (hl : lv_has ls 1 [(0, .ref (ad 0))]) (S : st D (wM cI cB ad) A s u H locs) (h : fX12_nodes_0 u = some r) : W p l e R s m args below meth c H locs 0 0 (MQ below (qI D (tyl cI cB cL) (wM cI cB ad) A r u) args s 0 0 A) (F0 m 0 ls []) := by
  have hx := C.1
  have hb := C.2.1
  have hsz := hl.1
  unfold fX12_nodes_0 at h
  refine lv_aload_n hx hb dX12_nodes_0 rfl (lv_at hl 0 rfl) ?_
  refine q_get (v := .ref (ad 1)) C S (oM0 cI cB ad) rfl iwX12 1 (by decide) mw_14 rfl dX12_nodes_1 ?_
  refine lv_iconst (v := 0) hx hb dX12_nodes_4 (by decide) ?_
  refine q_iald C S (aM1 cI cB ad) 0 rfl (show vp_in 0 32243 by unfold vp_in; decide) dX12_nodes_5 (j := 0) (by decide) ?_
  exact q_iret C S (rt_R h) dX12_nodes_6
set_option maxRecDepth 10000 in
set_option maxHeartbeats 4000000 in
theorem ct_X12_nodes (l : Launch) (D : va_G) (cI cB cL : ClassId) (ad : Nat → Nat) (u : Sg) {r : Int32} (h : fX12_nodes u = some r) : metI l D (tyl cI cB cL) yX12_nodes cX12_nodes 1 (some .int) 0 0 (wM cI cB ad) [.ref (ad 0)] u r u := by
  intro sz
  refine Met.ofW (cc := cX12_nodes) (maxL := 1) (ret := (some .int)) (by decide) rfl ?_
  intro p e s m args below meth c s₁ B hml hv
  obtain ⟨rfl, C, S⟩ := q_entry B hml hv
  have hl := lv_entry ([.ref (ad 0)]) (n := 1) (Nat.le_of_ble_eq_true rfl)
  rw [lg_entry_eq]
  generalize (lg_sl ([.ref (ad 0)]) ++ List.replicate (1 - (lg_sl ([.ref (ad 0)])).length) Slot.unset).toArray = ls at hl ⊢
  exact wX12_nodes_0 C ⟨Nat.le_refl _, Nat.le_refl _⟩ u (lv_sub hl [0] rfl) S h
noncomputable def fX12_messages_0 (u : Sg) : Option Int32 := some (u 1 3)
noncomputable def fX12_messages (u : Sg) : Option Int32 := fX12_messages_0 u
set_option maxRecDepth 10000 in
set_option maxHeartbeats 4000000 in
theorem wX12_messages_0 (C : cx D (tyl cI cB cL) A RX12 cX12_messages 1 (some .int) p s m args c meth) (hR : 0 ≤ R.frames ∧ 0 ≤ R.locals) {r : Int32} (u : Sg) {H : Heap} {locs : List Loc} {ls : Array Slot} (hl : lv_has ls 1 [(0, .ref (ad 0))]) (S : st D (wM cI cB ad) A s u H locs) (h : fX12_messages_0 u = some r) : W p l e R s m args below meth c H locs 0 0 (MQ below (qI D (tyl cI cB cL) (wM cI cB ad) A r u) args s 0 0 A) (F0 m 0 ls []) := by
  have hx := C.1
  have hb := C.2.1
  have hsz := hl.1
  unfold fX12_messages_0 at h
  refine lv_aload_n hx hb dX12_messages_0 rfl (lv_at hl 0 rfl) ?_
  refine q_get (v := .ref (ad 1)) C S (oM0 cI cB ad) rfl iwX12 1 (by decide) mw_14 rfl dX12_messages_1 ?_
  refine lv_iconst (v := 3) hx hb dX12_messages_4 (by decide) ?_
  refine q_iald C S (aM1 cI cB ad) 0 rfl (show vp_in 3 32243 by unfold vp_in; decide) dX12_messages_5 (j := 3) (by decide) ?_
  exact q_iret C S (rt_R h) dX12_messages_6
set_option maxRecDepth 10000 in
set_option maxHeartbeats 4000000 in
theorem ct_X12_messages (l : Launch) (D : va_G) (cI cB cL : ClassId) (ad : Nat → Nat) (u : Sg) {r : Int32} (h : fX12_messages u = some r) : metI l D (tyl cI cB cL) yX12_messages cX12_messages 1 (some .int) 0 0 (wM cI cB ad) [.ref (ad 0)] u r u := by
  intro sz
  refine Met.ofW (cc := cX12_messages) (maxL := 1) (ret := (some .int)) (by decide) rfl ?_
  intro p e s m args below meth c s₁ B hml hv
  obtain ⟨rfl, C, S⟩ := q_entry B hml hv
  have hl := lv_entry ([.ref (ad 0)]) (n := 1) (Nat.le_of_ble_eq_true rfl)
  rw [lg_entry_eq]
  generalize (lg_sl ([.ref (ad 0)]) ++ List.replicate (1 - (lg_sl ([.ref (ad 0)])).length) Slot.unset).toArray = ls at hl ⊢
  exact wX12_messages_0 C ⟨Nat.le_refl _, Nat.le_refl _⟩ u (lv_sub hl [0] rfl) S h
noncomputable def fX12_of_0 (x1 : Int32) (x2 : Int32) (u : Sg) : Option Int32 := grd (vp_in (fX12_nodeAt x1 x2) 32243) (some (u 1 (((fX12_nodeAt x1 x2) : Int32).toNatClampNeg)))
noncomputable def fX12_of (x1 : Int32) (x2 : Int32) (u : Sg) : Option Int32 := fX12_of_0 x1 x2 u
set_option maxRecDepth 10000 in
set_option maxHeartbeats 4000000 in
theorem wX12_of_0 (C : cx D (tyl cI cB cL) A RX12 cX12_of 3 (some .int) p s m args c meth) (hR : 1 ≤ R.frames ∧ 21 ≤ R.locals) {r : Int32} (u : Sg) (x1 : Int32) (x2 : Int32) {H : Heap} {locs : List Loc} {ls : Array Slot} (hl : lv_has ls 3 [(0, .ref (ad 0)), (1, .int x1), (2, .int x2)]) (S : st D (wM cI cB ad) A s u H locs) (h : fX12_of_0 x1 x2 u = some r) : W p l e R s m args below meth c H locs 0 0 (MQ below (qI D (tyl cI cB cL) (wM cI cB ad) A r u) args s 0 0 A) (F0 m 0 ls []) := by
  have hx := C.1
  have hb := C.2.1
  have hsz := hl.1
  unfold fX12_of_0 at h
  refine lv_aload_n hx hb dX12_of_0 rfl (lv_at hl 0 rfl) ?_
  refine q_get (v := .ref (ad 1)) C S (oM0 cI cB ad) rfl iwX12 1 (by decide) mw_14 rfl dX12_of_1 ?_
  refine lv_iload_n hx hb dX12_of_4 rfl (lv_at hl 1 rfl) ?_
  refine lv_iload_n hx hb dX12_of_5 rfl (lv_at hl 2 rfl) ?_
  refine q_callP (As := [.int x1, .int x2]) (na := 2) C S (ct_X12_nodeAt l D cI cB cL x1 x2) mw_7 mw_6 mw_5 mw_4 hdX12_nodeAt ⟨Nat.le_trans (Nat.le_of_ble_eq_true rfl) hR.1, Nat.le_trans (Nat.le_of_ble_eq_true rfl) hR.2⟩ rfl hsz ⟨Nat.zero_le _, Nat.zero_le _⟩ (Nat.le_of_ble_eq_true rfl) dX12_of_6 rfl (fun H locs S => ?_)
  obtain ⟨g1, h⟩ := grd_some h
  refine q_iald C S (aM1 cI cB ad) 0 rfl g1 dX12_of_9 (j := ((fX12_nodeAt x1 x2) : Int32).toNatClampNeg) rfl ?_
  exact q_iret C S (rt_R h) dX12_of_10
set_option maxRecDepth 10000 in
set_option maxHeartbeats 4000000 in
theorem ct_X12_of (l : Launch) (D : va_G) (cI cB cL : ClassId) (ad : Nat → Nat) (x1 : Int32) (x2 : Int32) (u : Sg) {r : Int32} (h : fX12_of x1 x2 u = some r) : metI l D (tyl cI cB cL) yX12_of cX12_of 3 (some .int) 1 21 (wM cI cB ad) [.ref (ad 0), .int x1, .int x2] u r u := by
  intro sz
  refine Met.ofW (cc := cX12_of) (maxL := 3) (ret := (some .int)) (by decide) rfl ?_
  intro p e s m args below meth c s₁ B hml hv
  obtain ⟨rfl, C, S⟩ := q_entry B hml hv
  have hl := lv_entry ([.ref (ad 0), .int x1, .int x2]) (n := 3) (Nat.le_of_ble_eq_true rfl)
  rw [lg_entry_eq]
  generalize (lg_sl ([.ref (ad 0), .int x1, .int x2]) ++ List.replicate (3 - (lg_sl ([.ref (ad 0), .int x1, .int x2])).length) Slot.unset).toArray = ls at hl ⊢
  exact wX12_of_0 C ⟨Nat.le_refl _, Nat.le_refl _⟩ u x1 x2 (lv_sub hl [0, 1, 2] rfl) S h
noncomputable def fX12_ofPair_0 (x1 : Int32) (x2 : Int32) (x3 : Int32) (u : Sg) : Option Int32 := grd (vp_in (fX12_pairAt x1 x2 x3) 32243) (some (u 1 (((fX12_pairAt x1 x2 x3) : Int32).toNatClampNeg)))
noncomputable def fX12_ofPair (x1 : Int32) (x2 : Int32) (x3 : Int32) (u : Sg) : Option Int32 := fX12_ofPair_0 x1 x2 x3 u
set_option maxRecDepth 10000 in
set_option maxHeartbeats 4000000 in
theorem wX12_ofPair_0 (C : cx D (tyl cI cB cL) A RX12 cX12_ofPair 4 (some .int) p s m args c meth) (hR : 2 ≤ R.frames ∧ 43 ≤ R.locals) {r : Int32} (u : Sg) (x1 : Int32) (x2 : Int32) (x3 : Int32) {H : Heap} {locs : List Loc} {ls : Array Slot} (hl : lv_has ls 4 [(0, .ref (ad 0)), (1, .int x1), (2, .int x2), (3, .int x3)]) (S : st D (wM cI cB ad) A s u H locs) (h : fX12_ofPair_0 x1 x2 x3 u = some r) : W p l e R s m args below meth c H locs 0 0 (MQ below (qI D (tyl cI cB cL) (wM cI cB ad) A r u) args s 0 0 A) (F0 m 0 ls []) := by
  have hx := C.1
  have hb := C.2.1
  have hsz := hl.1
  unfold fX12_ofPair_0 at h
  refine lv_aload_n hx hb dX12_ofPair_0 rfl (lv_at hl 0 rfl) ?_
  refine q_get (v := .ref (ad 1)) C S (oM0 cI cB ad) rfl iwX12 1 (by decide) mw_14 rfl dX12_ofPair_1 ?_
  refine lv_iload_n hx hb dX12_ofPair_4 rfl (lv_at hl 1 rfl) ?_
  refine lv_iload_n hx hb dX12_ofPair_5 rfl (lv_at hl 2 rfl) ?_
  refine lv_iload_n hx hb dX12_ofPair_6 rfl (lv_at hl 3 rfl) ?_
  refine q_callP (As := [.int x1, .int x2, .int x3]) (na := 3) C S (ct_X12_pairAt l D cI cB cL x1 x2 x3) mw_18 mw_17 mw_5 mw_16 hdX12_pairAt ⟨Nat.le_trans (Nat.le_of_ble_eq_true rfl) hR.1, Nat.le_trans (Nat.le_of_ble_eq_true rfl) hR.2⟩ rfl hsz ⟨Nat.zero_le _, Nat.zero_le _⟩ (Nat.le_of_ble_eq_true rfl) dX12_ofPair_7 rfl (fun H locs S => ?_)
  obtain ⟨g1, h⟩ := grd_some h
  refine q_iald C S (aM1 cI cB ad) 0 rfl g1 dX12_ofPair_10 (j := ((fX12_pairAt x1 x2 x3) : Int32).toNatClampNeg) rfl ?_
  exact q_iret C S (rt_R h) dX12_ofPair_11
set_option maxRecDepth 10000 in
set_option maxHeartbeats 4000000 in
theorem ct_X12_ofPair (l : Launch) (D : va_G) (cI cB cL : ClassId) (ad : Nat → Nat) (x1 : Int32) (x2 : Int32) (x3 : Int32) (u : Sg) {r : Int32} (h : fX12_ofPair x1 x2 x3 u = some r) : metI l D (tyl cI cB cL) yX12_ofPair cX12_ofPair 4 (some .int) 2 43 (wM cI cB ad) [.ref (ad 0), .int x1, .int x2, .int x3] u r u := by
  intro sz
  refine Met.ofW (cc := cX12_ofPair) (maxL := 4) (ret := (some .int)) (by decide) rfl ?_
  intro p e s m args below meth c s₁ B hml hv
  obtain ⟨rfl, C, S⟩ := q_entry B hml hv
  have hl := lv_entry ([.ref (ad 0), .int x1, .int x2, .int x3]) (n := 4) (Nat.le_of_ble_eq_true rfl)
  rw [lg_entry_eq]
  generalize (lg_sl ([.ref (ad 0), .int x1, .int x2, .int x3]) ++ List.replicate (4 - (lg_sl ([.ref (ad 0), .int x1, .int x2, .int x3])).length) Slot.unset).toArray = ls at hl ⊢
  exact wX12_ofPair_0 C ⟨Nat.le_refl _, Nat.le_refl _⟩ u x1 x2 x3 (lv_sub hl [0, 1, 2, 3] rfl) S h
noncomputable def fX12_lays_0 (x1 : Int32) (x2 : Int32) (x3 : Int32) (x4 : Int32) (u : Sg) : Option Sg := grd (vp_in (fX12_pairAt x1 x2 x3) 32243) (bnd (s2 u 1 (((fX12_pairAt x1 x2 x3) : Int32).toNatClampNeg) x4) (fun u2 => some u2))
noncomputable def fX12_lays (x1 : Int32) (x2 : Int32) (x3 : Int32) (x4 : Int32) (u : Sg) : Option Sg := fX12_lays_0 x1 x2 x3 x4 u
set_option maxRecDepth 10000 in
set_option maxHeartbeats 4000000 in
theorem wX12_lays_0 (C : cx D (tyl cI cB cL) A RX12 cX12_lays 5 none p s m args c meth) (hR : 2 ≤ R.frames ∧ 43 ≤ R.locals) {σ' : Sg} (u : Sg) (x1 : Int32) (x2 : Int32) (x3 : Int32) (x4 : Int32) {H : Heap} {locs : List Loc} {ls : Array Slot} (hl : lv_has ls 5 [(0, .ref (ad 0)), (1, .int x1), (2, .int x2), (3, .int x3), (4, .int x4)]) (S : st D (wM cI cB ad) A s u H locs) (h : fX12_lays_0 x1 x2 x3 x4 u = some σ') : W p l e R s m args below meth c H locs 0 0 (MQ below (qV D (tyl cI cB cL) (wM cI cB ad) A σ') args s 0 0 A) (F0 m 0 ls []) := by
  have hx := C.1
  have hb := C.2.1
  have hsz := hl.1
  unfold fX12_lays_0 at h
  refine lv_aload_n hx hb dX12_lays_0 rfl (lv_at hl 0 rfl) ?_
  refine q_get (v := .ref (ad 1)) C S (oM0 cI cB ad) rfl iwX12 1 (by decide) mw_14 rfl dX12_lays_1 ?_
  refine lv_iload_n hx hb dX12_lays_4 rfl (lv_at hl 1 rfl) ?_
  refine lv_iload_n hx hb dX12_lays_5 rfl (lv_at hl 2 rfl) ?_
  refine lv_iload_n hx hb dX12_lays_6 rfl (lv_at hl 3 rfl) ?_
  refine q_callP (As := [.int x1, .int x2, .int x3]) (na := 3) C S (ct_X12_pairAt l D cI cB cL x1 x2 x3) mw_18 mw_17 mw_5 mw_16 hdX12_pairAt ⟨Nat.le_trans (Nat.le_of_ble_eq_true rfl) hR.1, Nat.le_trans (Nat.le_of_ble_eq_true rfl) hR.2⟩ rfl hsz ⟨Nat.zero_le _, Nat.zero_le _⟩ (Nat.le_of_ble_eq_true rfl) dX12_lays_7 rfl (fun H locs S => ?_)
  refine lv_iload hx hb dX12_lays_10 (lv_at hl 4 rfl) ?_
  obtain ⟨g1, h⟩ := grd_some h
  obtain ⟨u2, eu2⟩ : ∃ z : Sg, z = s2 u 1 (((fX12_pairAt x1 x2 x3) : Int32).toNatClampNeg) x4 := ⟨_, rfl⟩
  have h := bnd_of eu2 h
  refine q_iast C S (aM1 cI cB ad) 0 rfl g1 dX12_lays_12 (j := ((fX12_pairAt x1 x2 x3) : Int32).toNatClampNeg) rfl eu2 (fun H locs S => ?_)
  exact q_vret C S (Option.some.inj h) dX12_lays_13
set_option maxRecDepth 10000 in
set_option maxHeartbeats 4000000 in
theorem ct_X12_lays (l : Launch) (D : va_G) (cI cB cL : ClassId) (ad : Nat → Nat) (x1 : Int32) (x2 : Int32) (x3 : Int32) (x4 : Int32) (u : Sg) {σ' : Sg} (h : fX12_lays x1 x2 x3 x4 u = some σ') : metV l D (tyl cI cB cL) yX12_lays cX12_lays 5 2 43 (wM cI cB ad) [.ref (ad 0), .int x1, .int x2, .int x3, .int x4] u σ' := by
  intro sz
  refine Met.ofW (cc := cX12_lays) (maxL := 5) (ret := none) (by decide) rfl ?_
  intro p e s m args below meth c s₁ B hml hv
  obtain ⟨rfl, C, S⟩ := q_entry B hml hv
  have hl := lv_entry ([.ref (ad 0), .int x1, .int x2, .int x3, .int x4]) (n := 5) (Nat.le_of_ble_eq_true rfl)
  rw [lg_entry_eq]
  generalize (lg_sl ([.ref (ad 0), .int x1, .int x2, .int x3, .int x4]) ++ List.replicate (5 - (lg_sl ([.ref (ad 0), .int x1, .int x2, .int x3, .int x4])).length) Slot.unset).toArray = ls at hl ⊢
  exact wX12_lays_0 C ⟨Nat.le_refl _, Nat.le_refl _⟩ u x1 x2 x3 x4 (lv_sub hl [0, 1, 2, 3, 4] rfl) S h
noncomputable def fX12_ofMessage_0 (x1 : Int32) (x2 : Int32) (u : Sg) : Option Int32 := grd (vp_in (fX12_messageAt x1 x2) 32243) (some (u 1 (((fX12_messageAt x1 x2) : Int32).toNatClampNeg)))
noncomputable def fX12_ofMessage (x1 : Int32) (x2 : Int32) (u : Sg) : Option Int32 := fX12_ofMessage_0 x1 x2 u
set_option maxRecDepth 10000 in
set_option maxHeartbeats 4000000 in
theorem wX12_ofMessage_0 (C : cx D (tyl cI cB cL) A RX12 cX12_ofMessage 3 (some .int) p s m args c meth) (hR : 1 ≤ R.frames ∧ 21 ≤ R.locals) {r : Int32} (u : Sg) (x1 : Int32) (x2 : Int32) {H : Heap} {locs : List Loc} {ls : Array Slot} (hl : lv_has ls 3 [(0, .ref (ad 0)), (1, .int x1), (2, .int x2)]) (S : st D (wM cI cB ad) A s u H locs) (h : fX12_ofMessage_0 x1 x2 u = some r) : W p l e R s m args below meth c H locs 0 0 (MQ below (qI D (tyl cI cB cL) (wM cI cB ad) A r u) args s 0 0 A) (F0 m 0 ls []) := by
  have hx := C.1
  have hb := C.2.1
  have hsz := hl.1
  unfold fX12_ofMessage_0 at h
  refine lv_aload_n hx hb dX12_ofMessage_0 rfl (lv_at hl 0 rfl) ?_
  refine q_get (v := .ref (ad 1)) C S (oM0 cI cB ad) rfl iwX12 1 (by decide) mw_14 rfl dX12_ofMessage_1 ?_
  refine lv_iload_n hx hb dX12_ofMessage_4 rfl (lv_at hl 1 rfl) ?_
  refine lv_iload_n hx hb dX12_ofMessage_5 rfl (lv_at hl 2 rfl) ?_
  refine q_callP (As := [.int x1, .int x2]) (na := 2) C S (ct_X12_messageAt l D cI cB cL x1 x2) mw_21 mw_20 mw_5 mw_19 hdX12_messageAt ⟨Nat.le_trans (Nat.le_of_ble_eq_true rfl) hR.1, Nat.le_trans (Nat.le_of_ble_eq_true rfl) hR.2⟩ rfl hsz ⟨Nat.zero_le _, Nat.zero_le _⟩ (Nat.le_of_ble_eq_true rfl) dX12_ofMessage_6 rfl (fun H locs S => ?_)
  obtain ⟨g1, h⟩ := grd_some h
  refine q_iald C S (aM1 cI cB ad) 0 rfl g1 dX12_ofMessage_9 (j := ((fX12_messageAt x1 x2) : Int32).toNatClampNeg) rfl ?_
  exact q_iret C S (rt_R h) dX12_ofMessage_10
set_option maxRecDepth 10000 in
set_option maxHeartbeats 4000000 in
theorem ct_X12_ofMessage (l : Launch) (D : va_G) (cI cB cL : ClassId) (ad : Nat → Nat) (x1 : Int32) (x2 : Int32) (u : Sg) {r : Int32} (h : fX12_ofMessage x1 x2 u = some r) : metI l D (tyl cI cB cL) yX12_ofMessage cX12_ofMessage 3 (some .int) 1 21 (wM cI cB ad) [.ref (ad 0), .int x1, .int x2] u r u := by
  intro sz
  refine Met.ofW (cc := cX12_ofMessage) (maxL := 3) (ret := (some .int)) (by decide) rfl ?_
  intro p e s m args below meth c s₁ B hml hv
  obtain ⟨rfl, C, S⟩ := q_entry B hml hv
  have hl := lv_entry ([.ref (ad 0), .int x1, .int x2]) (n := 3) (Nat.le_of_ble_eq_true rfl)
  rw [lg_entry_eq]
  generalize (lg_sl ([.ref (ad 0), .int x1, .int x2]) ++ List.replicate (3 - (lg_sl ([.ref (ad 0), .int x1, .int x2])).length) Slot.unset).toArray = ls at hl ⊢
  exact wX12_ofMessage_0 C ⟨Nat.le_refl _, Nat.le_refl _⟩ u x1 x2 (lv_sub hl [0, 1, 2] rfl) S h
noncomputable def fX12_ofChannel_0 (x1 : Int32) (x2 : Int32) (x3 : Int32) (u : Sg) : Option Int32 := grd (vp_in (fX12_channelAt x1 x2 x3) 32243) (some (u 1 (((fX12_channelAt x1 x2 x3) : Int32).toNatClampNeg)))
noncomputable def fX12_ofChannel (x1 : Int32) (x2 : Int32) (x3 : Int32) (u : Sg) : Option Int32 := fX12_ofChannel_0 x1 x2 x3 u
set_option maxRecDepth 10000 in
set_option maxHeartbeats 4000000 in
theorem wX12_ofChannel_0 (C : cx D (tyl cI cB cL) A RX12 cX12_ofChannel 4 (some .int) p s m args c meth) (hR : 1 ≤ R.frames ∧ 22 ≤ R.locals) {r : Int32} (u : Sg) (x1 : Int32) (x2 : Int32) (x3 : Int32) {H : Heap} {locs : List Loc} {ls : Array Slot} (hl : lv_has ls 4 [(0, .ref (ad 0)), (1, .int x1), (2, .int x2), (3, .int x3)]) (S : st D (wM cI cB ad) A s u H locs) (h : fX12_ofChannel_0 x1 x2 x3 u = some r) : W p l e R s m args below meth c H locs 0 0 (MQ below (qI D (tyl cI cB cL) (wM cI cB ad) A r u) args s 0 0 A) (F0 m 0 ls []) := by
  have hx := C.1
  have hb := C.2.1
  have hsz := hl.1
  unfold fX12_ofChannel_0 at h
  refine lv_aload_n hx hb dX12_ofChannel_0 rfl (lv_at hl 0 rfl) ?_
  refine q_get (v := .ref (ad 1)) C S (oM0 cI cB ad) rfl iwX12 1 (by decide) mw_14 rfl dX12_ofChannel_1 ?_
  refine lv_iload_n hx hb dX12_ofChannel_4 rfl (lv_at hl 1 rfl) ?_
  refine lv_iload_n hx hb dX12_ofChannel_5 rfl (lv_at hl 2 rfl) ?_
  refine lv_iload_n hx hb dX12_ofChannel_6 rfl (lv_at hl 3 rfl) ?_
  refine q_callP (As := [.int x1, .int x2, .int x3]) (na := 3) C S (ct_X12_channelAt l D cI cB cL x1 x2 x3) mw_10 mw_9 mw_5 mw_8 hdX12_channelAt ⟨Nat.le_trans (Nat.le_of_ble_eq_true rfl) hR.1, Nat.le_trans (Nat.le_of_ble_eq_true rfl) hR.2⟩ rfl hsz ⟨Nat.zero_le _, Nat.zero_le _⟩ (Nat.le_of_ble_eq_true rfl) dX12_ofChannel_7 rfl (fun H locs S => ?_)
  obtain ⟨g1, h⟩ := grd_some h
  refine q_iald C S (aM1 cI cB ad) 0 rfl g1 dX12_ofChannel_10 (j := ((fX12_channelAt x1 x2 x3) : Int32).toNatClampNeg) rfl ?_
  exact q_iret C S (rt_R h) dX12_ofChannel_11
set_option maxRecDepth 10000 in
set_option maxHeartbeats 4000000 in
theorem ct_X12_ofChannel (l : Launch) (D : va_G) (cI cB cL : ClassId) (ad : Nat → Nat) (x1 : Int32) (x2 : Int32) (x3 : Int32) (u : Sg) {r : Int32} (h : fX12_ofChannel x1 x2 x3 u = some r) : metI l D (tyl cI cB cL) yX12_ofChannel cX12_ofChannel 4 (some .int) 1 22 (wM cI cB ad) [.ref (ad 0), .int x1, .int x2, .int x3] u r u := by
  intro sz
  refine Met.ofW (cc := cX12_ofChannel) (maxL := 4) (ret := (some .int)) (by decide) rfl ?_
  intro p e s m args below meth c s₁ B hml hv
  obtain ⟨rfl, C, S⟩ := q_entry B hml hv
  have hl := lv_entry ([.ref (ad 0), .int x1, .int x2, .int x3]) (n := 4) (Nat.le_of_ble_eq_true rfl)
  rw [lg_entry_eq]
  generalize (lg_sl ([.ref (ad 0), .int x1, .int x2, .int x3]) ++ List.replicate (4 - (lg_sl ([.ref (ad 0), .int x1, .int x2, .int x3])).length) Slot.unset).toArray = ls at hl ⊢
  exact wX12_ofChannel_0 C ⟨Nat.le_refl _, Nat.le_refl _⟩ u x1 x2 x3 (lv_sub hl [0, 1, 2, 3] rfl) S h
noncomputable def fX12_noNode_0 (x1 : Int32) (u : Sg) : Option Int32 := obr (fX12_nodes u) (fun r2 => cnd ((fX12_in x1 0 (r2 - 1)) = 0) (some 1) (some 0))
noncomputable def fX12_noNode (x1 : Int32) (u : Sg) : Option Int32 := fX12_noNode_0 x1 u
set_option maxRecDepth 10000 in
set_option maxHeartbeats 4000000 in
theorem wX12_noNode_0 (C : cx D (tyl cI cB cL) A RX12 cX12_noNode 2 (some .boolean) p s m args c meth) (hR : 1 ≤ R.frames ∧ 22 ≤ R.locals) {r : Int32} (u : Sg) (x1 : Int32) {H : Heap} {locs : List Loc} {ls : Array Slot} (hl : lv_has ls 2 [(0, .ref (ad 0)), (1, .int x1)]) (S : st D (wM cI cB ad) A s u H locs) (h : fX12_noNode_0 x1 u = some r) : W p l e R s m args below meth c H locs 0 0 (MQ below (qI D (tyl cI cB cL) (wM cI cB ad) A r u) args s 0 0 A) (F0 m 0 ls []) := by
  have hx := C.1
  have hb := C.2.1
  have hsz := hl.1
  unfold fX12_noNode_0 at h
  refine lv_iload_n hx hb dX12_noNode_0 rfl (lv_at hl 1 rfl) ?_
  refine lv_iconst (v := 0) hx hb dX12_noNode_1 (by decide) ?_
  refine lv_aload_n hx hb dX12_noNode_2 rfl (lv_at hl 0 rfl) ?_
  obtain ⟨r2, h1, h⟩ := obr_some h
  refine q_callVi (As := []) (na := 0) C S (oM0 cI cB ad) rfl (ct_X12_nodes l D cI cB cL ad u h1) mw_24 mw_23 mw_25 mw_5 mw_22 hdX12_nodes ⟨Nat.le_trans (Nat.le_of_ble_eq_true rfl) hR.1, Nat.le_trans (Nat.le_of_ble_eq_true rfl) hR.2⟩ rfl hsz ⟨Nat.zero_le _, Nat.zero_le _⟩ (Nat.le_of_ble_eq_true rfl) dX12_noNode_3 rfl (fun H locs S => ?_)
  refine lv_iconst (v := 1) hx hb dX12_noNode_6 (by decide) ?_
  refine lv_isub hx hb dX12_noNode_7 ?_
  refine q_callP (As := [.int x1, .int 0, .int (r2 - 1)]) (na := 3) C S (ct_X12_in l D cI cB cL x1 0 (r2 - 1)) mw_28 mw_27 mw_5 mw_26 hdX12_in ⟨Nat.le_trans (Nat.le_of_ble_eq_true rfl) hR.1, Nat.le_trans (Nat.le_of_ble_eq_true rfl) hR.2⟩ rfl hsz ⟨Nat.zero_le _, Nat.zero_le _⟩ (Nat.le_of_ble_eq_true rfl) dX12_noNode_8 rfl (fun H locs S => ?_)
  refine lv_if_ne (tgt := 18) hx hb dX12_noNode_11 (by decide) (fun c3 => ?_) (fun c3 => ?_)
  · have h := cnd_f c3 h
    refine lv_iconst (v := 0) hx hb dX12_noNode_18 (by decide) ?_
    exact q_zret C S rfl (rt_R h) dX12_noNode_19
  · have h := cnd_t c3 h
    refine lv_iconst (v := 1) hx hb dX12_noNode_14 (by decide) ?_
    refine lv_goto (tgt := 19) hx hb dX12_noNode_15 (by decide) ?_
    exact q_zret C S rfl (rt_R h) dX12_noNode_19
set_option maxRecDepth 10000 in
set_option maxHeartbeats 4000000 in
theorem ct_X12_noNode (l : Launch) (D : va_G) (cI cB cL : ClassId) (ad : Nat → Nat) (x1 : Int32) (u : Sg) {r : Int32} (h : fX12_noNode x1 u = some r) : metI l D (tyl cI cB cL) yX12_noNode cX12_noNode 2 (some .boolean) 1 22 (wM cI cB ad) [.ref (ad 0), .int x1] u r u := by
  intro sz
  refine Met.ofW (cc := cX12_noNode) (maxL := 2) (ret := (some .boolean)) (by decide) rfl ?_
  intro p e s m args below meth c s₁ B hml hv
  obtain ⟨rfl, C, S⟩ := q_entry B hml hv
  have hl := lv_entry ([.ref (ad 0), .int x1]) (n := 2) (Nat.le_of_ble_eq_true rfl)
  rw [lg_entry_eq]
  generalize (lg_sl ([.ref (ad 0), .int x1]) ++ List.replicate (2 - (lg_sl ([.ref (ad 0), .int x1])).length) Slot.unset).toArray = ls at hl ⊢
  exact wX12_noNode_0 C ⟨Nat.le_refl _, Nat.le_refl _⟩ u x1 (lv_sub hl [0, 1] rfl) S h
noncomputable def fX12_noMessage_0 (x1 : Int32) (u : Sg) : Option Int32 := obr (fX12_messages u) (fun r2 => cnd ((fX12_in x1 0 (r2 - 1)) = 0) (some 1) (some 0))
noncomputable def fX12_noMessage (x1 : Int32) (u : Sg) : Option Int32 := fX12_noMessage_0 x1 u
set_option maxRecDepth 10000 in
set_option maxHeartbeats 4000000 in
theorem wX12_noMessage_0 (C : cx D (tyl cI cB cL) A RX12 cX12_noMessage 2 (some .boolean) p s m args c meth) (hR : 1 ≤ R.frames ∧ 22 ≤ R.locals) {r : Int32} (u : Sg) (x1 : Int32) {H : Heap} {locs : List Loc} {ls : Array Slot} (hl : lv_has ls 2 [(0, .ref (ad 0)), (1, .int x1)]) (S : st D (wM cI cB ad) A s u H locs) (h : fX12_noMessage_0 x1 u = some r) : W p l e R s m args below meth c H locs 0 0 (MQ below (qI D (tyl cI cB cL) (wM cI cB ad) A r u) args s 0 0 A) (F0 m 0 ls []) := by
  have hx := C.1
  have hb := C.2.1
  have hsz := hl.1
  unfold fX12_noMessage_0 at h
  refine lv_iload_n hx hb dX12_noMessage_0 rfl (lv_at hl 1 rfl) ?_
  refine lv_iconst (v := 0) hx hb dX12_noMessage_1 (by decide) ?_
  refine lv_aload_n hx hb dX12_noMessage_2 rfl (lv_at hl 0 rfl) ?_
  obtain ⟨r2, h1, h⟩ := obr_some h
  refine q_callVi (As := []) (na := 0) C S (oM0 cI cB ad) rfl (ct_X12_messages l D cI cB cL ad u h1) mw_31 mw_30 mw_32 mw_5 mw_29 hdX12_messages ⟨Nat.le_trans (Nat.le_of_ble_eq_true rfl) hR.1, Nat.le_trans (Nat.le_of_ble_eq_true rfl) hR.2⟩ rfl hsz ⟨Nat.zero_le _, Nat.zero_le _⟩ (Nat.le_of_ble_eq_true rfl) dX12_noMessage_3 rfl (fun H locs S => ?_)
  refine lv_iconst (v := 1) hx hb dX12_noMessage_6 (by decide) ?_
  refine lv_isub hx hb dX12_noMessage_7 ?_
  refine q_callP (As := [.int x1, .int 0, .int (r2 - 1)]) (na := 3) C S (ct_X12_in l D cI cB cL x1 0 (r2 - 1)) mw_28 mw_27 mw_5 mw_26 hdX12_in ⟨Nat.le_trans (Nat.le_of_ble_eq_true rfl) hR.1, Nat.le_trans (Nat.le_of_ble_eq_true rfl) hR.2⟩ rfl hsz ⟨Nat.zero_le _, Nat.zero_le _⟩ (Nat.le_of_ble_eq_true rfl) dX12_noMessage_8 rfl (fun H locs S => ?_)
  refine lv_if_ne (tgt := 18) hx hb dX12_noMessage_11 (by decide) (fun c3 => ?_) (fun c3 => ?_)
  · have h := cnd_f c3 h
    refine lv_iconst (v := 0) hx hb dX12_noMessage_18 (by decide) ?_
    exact q_zret C S rfl (rt_R h) dX12_noMessage_19
  · have h := cnd_t c3 h
    refine lv_iconst (v := 1) hx hb dX12_noMessage_14 (by decide) ?_
    refine lv_goto (tgt := 19) hx hb dX12_noMessage_15 (by decide) ?_
    exact q_zret C S rfl (rt_R h) dX12_noMessage_19
set_option maxRecDepth 10000 in
set_option maxHeartbeats 4000000 in
theorem ct_X12_noMessage (l : Launch) (D : va_G) (cI cB cL : ClassId) (ad : Nat → Nat) (x1 : Int32) (u : Sg) {r : Int32} (h : fX12_noMessage x1 u = some r) : metI l D (tyl cI cB cL) yX12_noMessage cX12_noMessage 2 (some .boolean) 1 22 (wM cI cB ad) [.ref (ad 0), .int x1] u r u := by
  intro sz
  refine Met.ofW (cc := cX12_noMessage) (maxL := 2) (ret := (some .boolean)) (by decide) rfl ?_
  intro p e s m args below meth c s₁ B hml hv
  obtain ⟨rfl, C, S⟩ := q_entry B hml hv
  have hl := lv_entry ([.ref (ad 0), .int x1]) (n := 2) (Nat.le_of_ble_eq_true rfl)
  rw [lg_entry_eq]
  generalize (lg_sl ([.ref (ad 0), .int x1]) ++ List.replicate (2 - (lg_sl ([.ref (ad 0), .int x1])).length) Slot.unset).toArray = ls at hl ⊢
  exact wX12_noMessage_0 C ⟨Nat.le_refl _, Nat.le_refl _⟩ u x1 (lv_sub hl [0, 1] rfl) S h
noncomputable def fX12_noGroup_0 (x1 : Int32) (u : Sg) : Option Int32 := cnd ((fX12_in x1 0 ((u 1 1) - 1)) = 0) (some 1) (some 0)
noncomputable def fX12_noGroup (x1 : Int32) (u : Sg) : Option Int32 := fX12_noGroup_0 x1 u
set_option maxRecDepth 10000 in
set_option maxHeartbeats 4000000 in
theorem wX12_noGroup_0 (C : cx D (tyl cI cB cL) A RX12 cX12_noGroup 2 (some .boolean) p s m args c meth) (hR : 1 ≤ R.frames ∧ 22 ≤ R.locals) {r : Int32} (u : Sg) (x1 : Int32) {H : Heap} {locs : List Loc} {ls : Array Slot} (hl : lv_has ls 2 [(0, .ref (ad 0)), (1, .int x1)]) (S : st D (wM cI cB ad) A s u H locs) (h : fX12_noGroup_0 x1 u = some r) : W p l e R s m args below meth c H locs 0 0 (MQ below (qI D (tyl cI cB cL) (wM cI cB ad) A r u) args s 0 0 A) (F0 m 0 ls []) := by
  have hx := C.1
  have hb := C.2.1
  have hsz := hl.1
  unfold fX12_noGroup_0 at h
  refine lv_iload_n hx hb dX12_noGroup_0 rfl (lv_at hl 1 rfl) ?_
  refine lv_iconst (v := 0) hx hb dX12_noGroup_1 (by decide) ?_
  refine lv_aload_n hx hb dX12_noGroup_2 rfl (lv_at hl 0 rfl) ?_
  refine q_get (v := .ref (ad 1)) C S (oM0 cI cB ad) rfl iwX12 1 (by decide) mw_14 rfl dX12_noGroup_3 ?_
  refine lv_iconst (v := 1) hx hb dX12_noGroup_6 (by decide) ?_
  refine q_iald C S (aM1 cI cB ad) 0 rfl (show vp_in 1 32243 by unfold vp_in; decide) dX12_noGroup_7 (j := 1) (by decide) ?_
  refine lv_iconst (v := 1) hx hb dX12_noGroup_8 (by decide) ?_
  refine lv_isub hx hb dX12_noGroup_9 ?_
  refine q_callP (As := [.int x1, .int 0, .int ((u 1 1) - 1)]) (na := 3) C S (ct_X12_in l D cI cB cL x1 0 ((u 1 1) - 1)) mw_28 mw_27 mw_5 mw_26 hdX12_in ⟨Nat.le_trans (Nat.le_of_ble_eq_true rfl) hR.1, Nat.le_trans (Nat.le_of_ble_eq_true rfl) hR.2⟩ rfl hsz ⟨Nat.zero_le _, Nat.zero_le _⟩ (Nat.le_of_ble_eq_true rfl) dX12_noGroup_10 rfl (fun H locs S => ?_)
  refine lv_if_ne (tgt := 20) hx hb dX12_noGroup_13 (by decide) (fun c1 => ?_) (fun c1 => ?_)
  · have h := cnd_f c1 h
    refine lv_iconst (v := 0) hx hb dX12_noGroup_20 (by decide) ?_
    exact q_zret C S rfl (rt_R h) dX12_noGroup_21
  · have h := cnd_t c1 h
    refine lv_iconst (v := 1) hx hb dX12_noGroup_16 (by decide) ?_
    refine lv_goto (tgt := 21) hx hb dX12_noGroup_17 (by decide) ?_
    exact q_zret C S rfl (rt_R h) dX12_noGroup_21
set_option maxRecDepth 10000 in
set_option maxHeartbeats 4000000 in
theorem ct_X12_noGroup (l : Launch) (D : va_G) (cI cB cL : ClassId) (ad : Nat → Nat) (x1 : Int32) (u : Sg) {r : Int32} (h : fX12_noGroup x1 u = some r) : metI l D (tyl cI cB cL) yX12_noGroup cX12_noGroup 2 (some .boolean) 1 22 (wM cI cB ad) [.ref (ad 0), .int x1] u r u := by
  intro sz
  refine Met.ofW (cc := cX12_noGroup) (maxL := 2) (ret := (some .boolean)) (by decide) rfl ?_
  intro p e s m args below meth c s₁ B hml hv
  obtain ⟨rfl, C, S⟩ := q_entry B hml hv
  have hl := lv_entry ([.ref (ad 0), .int x1]) (n := 2) (Nat.le_of_ble_eq_true rfl)
  rw [lg_entry_eq]
  generalize (lg_sl ([.ref (ad 0), .int x1]) ++ List.replicate (2 - (lg_sl ([.ref (ad 0), .int x1])).length) Slot.unset).toArray = ls at hl ⊢
  exact wX12_noGroup_0 C ⟨Nat.le_refl _, Nat.le_refl _⟩ u x1 (lv_sub hl [0, 1] rfl) S h
end S_10_m00
