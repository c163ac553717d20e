theorem ks_cs : Cond.fieldLink RJ0 38 "java/lang/String" "COMPACT_STRINGS" "Z" ∈ gw := gw_t3 105 rfl rfl
theorem ks_fm : Cond.fieldLink RJ0 1053 "jdk/internal/util/Preconditions" "SIOOBE_FORMATTER" "Ljava/util/function/BiFunction;" ∈ gw := gw_t3 121 rfl rfl
theorem ks_va : Cond.fieldLink RJ0 9 "java/lang/String" "value" "[B" ∈ gw := gw_t8 206 rfl rfl
theorem ks_co : Cond.fieldLink RJ0 15 "java/lang/String" "coder" "B" ∈ gw := gw_t8 207 rfl rfl
theorem ks_c_coder : Cond.code yJ0_coder_7d493 cJ0_coder_7d493 1 (some .byte) ∈ gw := gw_t3 104 rfl rfl
theorem ks_i_coder : Cond.instanceMethod yJ0_coder_7d493 ∈ gw := gw_t3 102 rfl rfl
theorem ks_s_coder : Cond.selects "java/lang/String" yJ0_coder_7d493 yJ0_coder_7d493 ∈ gw := gw_t3 103 rfl rfl
theorem ks_c_isLatin1 : Cond.code yJ0_isLatin1_aae02 cJ0_isLatin1_aae02 1 (some .boolean) ∈ gw := gw_t3 114 rfl rfl
theorem ks_i_isLatin1 : Cond.instanceMethod yJ0_isLatin1_aae02 ∈ gw := gw_t3 112 rfl rfl
theorem ks_s_isLatin1 : Cond.selects "java/lang/String" yJ0_isLatin1_aae02 yJ0_isLatin1_aae02 ∈ gw := gw_t3 113 rfl rfl
theorem ks_c_length : Cond.code yJ0_length_8abf5 cJ0_length_8abf5 1 (some .int) ∈ gw := gw_t3 100 rfl rfl
theorem ks_i_length : Cond.instanceMethod yJ0_length_8abf5 ∈ gw := gw_t3 98 rfl rfl
theorem ks_s_length : Cond.selects "java/lang/String" yJ0_length_8abf5 yJ0_length_8abf5 ∈ gw := gw_t3 99 rfl rfl
theorem ks_c_charAt : Cond.code yJ0_charAt_5068e cJ0_charAt_5068e 2 (some .char) ∈ gw := gw_t3 110 rfl rfl
theorem ks_i_charAt : Cond.instanceMethod yJ0_charAt_5068e ∈ gw := gw_t3 108 rfl rfl
theorem ks_s_charAt : Cond.selects "java/lang/String" yJ0_charAt_5068e yJ0_charAt_5068e ∈ gw := gw_t3 109 rfl rfl
theorem ks_c_charAt1 : Cond.code yJ1_charAt_3b067 cJ1_charAt_3b067 2 (some .char) ∈ gw := gw_t3 117 rfl rfl
theorem ks_t_charAt1 : Cond.static yJ1_charAt_3b067 ∈ gw := gw_t3 116 rfl rfl
theorem ks_c_checkIndex : Cond.code yJ0_checkIndex_df160 cJ0_checkIndex_df160 2 none ∈ gw := gw_t3 120 rfl rfl
theorem ks_t_checkIndex : Cond.static yJ0_checkIndex_df160 ∈ gw := gw_t3 119 rfl rfl
theorem ks_c_pcheck : Cond.code yJ3_checkIndex_8e157 cJ3_checkIndex_8e157 3 (some .int) ∈ gw := gw_t3 125 rfl rfl
theorem ks_t_pcheck : Cond.static yJ3_checkIndex_8e157 ∈ gw := gw_t3 124 rfl rfl
theorem ks_l_coder : Cond.methodLink RJ0 335 yJ0_coder_7d493 ∈ gw := gw_t3 101 rfl rfl
theorem ks_l_isLatin1 : Cond.methodLink RJ0 492 yJ0_isLatin1_aae02 ∈ gw := gw_t3 111 rfl rfl
theorem ks_l_charAt1 : Cond.methodLink RJ0 495 yJ1_charAt_3b067 ∈ gw := gw_t3 115 rfl rfl
theorem ks_l_checkIndex : Cond.methodLink RJ1 9 yJ0_checkIndex_df160 ∈ gw := gw_t3 118 rfl rfl
theorem ks_l_pcheck : Cond.methodLink RJ0 1059 yJ3_checkIndex_8e157 ∈ gw := gw_t3 123 rfl rfl
theorem ks_n_S : Cond.initialized "java/lang/String" ∈ gw := gw_t1 16 rfl rfl
theorem ks_n_L1 : Cond.initialized RJ1 ∈ gw := gw_t1 17 rfl rfl
theorem ks_n_P : Cond.initialized RJ3 ∈ gw := gw_t1 18 rfl rfl
theorem dJ0_coder_7d493_0 : decode cJ0_coder_7d493 0 = .ok (.getstatic 38, 3) := by decide +kernel
theorem dJ0_coder_7d493_3 : decode cJ0_coder_7d493 3 = .ok (.ifCond .eq 10, 3) := by decide +kernel
theorem dJ0_coder_7d493_6 : decode cJ0_coder_7d493 6 = .ok (.aload_n 0, 1) := by decide +kernel
theorem dJ0_coder_7d493_7 : decode cJ0_coder_7d493 7 = .ok (.getfield 15, 3) := by decide +kernel
theorem dJ0_coder_7d493_10 : decode cJ0_coder_7d493 10 = .ok (.goto 4, 3) := by decide +kernel
theorem dJ0_coder_7d493_13 : decode cJ0_coder_7d493 13 = .ok (.iconst 1, 1) := by decide +kernel
theorem dJ0_coder_7d493_14 : decode cJ0_coder_7d493 14 = .ok (.ireturn, 1) := by decide +kernel
theorem dJ0_isLatin1_aae02_0 : decode cJ0_isLatin1_aae02 0 = .ok (.getstatic 38, 3) := by decide +kernel
theorem dJ0_isLatin1_aae02_3 : decode cJ0_isLatin1_aae02 3 = .ok (.ifCond .eq 14, 3) := by decide +kernel
theorem dJ0_isLatin1_aae02_6 : decode cJ0_isLatin1_aae02 6 = .ok (.aload_n 0, 1) := by decide +kernel
theorem dJ0_isLatin1_aae02_7 : decode cJ0_isLatin1_aae02 7 = .ok (.getfield 15, 3) := by decide +kernel
theorem dJ0_isLatin1_aae02_10 : decode cJ0_isLatin1_aae02 10 = .ok (.ifCond .ne 7, 3) := by decide +kernel
theorem dJ0_isLatin1_aae02_13 : decode cJ0_isLatin1_aae02 13 = .ok (.iconst 1, 1) := by decide +kernel
theorem dJ0_isLatin1_aae02_14 : decode cJ0_isLatin1_aae02 14 = .ok (.goto 4, 3) := by decide +kernel
theorem dJ0_isLatin1_aae02_17 : decode cJ0_isLatin1_aae02 17 = .ok (.iconst 0, 1) := by decide +kernel
theorem dJ0_isLatin1_aae02_18 : decode cJ0_isLatin1_aae02 18 = .ok (.ireturn, 1) := by decide +kernel
theorem dJ0_length_8abf5_0 : decode cJ0_length_8abf5 0 = .ok (.aload_n 0, 1) := by decide +kernel
theorem dJ0_length_8abf5_1 : decode cJ0_length_8abf5 1 = .ok (.getfield 9, 3) := by decide +kernel
theorem dJ0_length_8abf5_4 : decode cJ0_length_8abf5 4 = .ok (.arraylength, 1) := by decide +kernel
theorem dJ0_length_8abf5_5 : decode cJ0_length_8abf5 5 = .ok (.aload_n 0, 1) := by decide +kernel
theorem dJ0_length_8abf5_6 : decode cJ0_length_8abf5 6 = .ok (.invokevirtual 335, 3) := by decide +kernel
theorem dJ0_length_8abf5_9 : decode cJ0_length_8abf5 9 = .ok (.ishr, 1) := by decide +kernel
theorem dJ0_length_8abf5_10 : decode cJ0_length_8abf5 10 = .ok (.ireturn, 1) := by decide +kernel
theorem dJ0_charAt_5068e_0 : decode cJ0_charAt_5068e 0 = .ok (.aload_n 0, 1) := by decide +kernel
theorem dJ0_charAt_5068e_1 : decode cJ0_charAt_5068e 1 = .ok (.invokevirtual 492, 3) := by decide +kernel
theorem dJ0_charAt_5068e_4 : decode cJ0_charAt_5068e 4 = .ok (.ifCond .eq 12, 3) := by decide +kernel
theorem dJ0_charAt_5068e_7 : decode cJ0_charAt_5068e 7 = .ok (.aload_n 0, 1) := by decide +kernel
theorem dJ0_charAt_5068e_8 : decode cJ0_charAt_5068e 8 = .ok (.getfield 9, 3) := by decide +kernel
theorem dJ0_charAt_5068e_11 : decode cJ0_charAt_5068e 11 = .ok (.iload_n 1, 1) := by decide +kernel
theorem dJ0_charAt_5068e_12 : decode cJ0_charAt_5068e 12 = .ok (.invokestatic 495, 3) := by decide +kernel
theorem dJ0_charAt_5068e_15 : decode cJ0_charAt_5068e 15 = .ok (.ireturn, 1) := by decide +kernel
theorem dJ0_charAt_5068e_16 : decode cJ0_charAt_5068e 16 = .ok (.aload_n 0, 1) := by decide +kernel
theorem dJ0_charAt_5068e_17 : decode cJ0_charAt_5068e 17 = .ok (.getfield 9, 3) := by decide +kernel
theorem dJ0_charAt_5068e_20 : decode cJ0_charAt_5068e 20 = .ok (.iload_n 1, 1) := by decide +kernel
theorem dJ0_charAt_5068e_21 : decode cJ0_charAt_5068e 21 = .ok (.invokestatic 498, 3) := by decide +kernel
theorem dJ0_charAt_5068e_24 : decode cJ0_charAt_5068e 24 = .ok (.ireturn, 1) := by decide +kernel
theorem dJ1_charAt_3b067_0 : decode cJ1_charAt_3b067 0 = .ok (.iload_n 1, 1) := by decide +kernel
theorem dJ1_charAt_3b067_1 : decode cJ1_charAt_3b067 1 = .ok (.aload_n 0, 1) := by decide +kernel
theorem dJ1_charAt_3b067_2 : decode cJ1_charAt_3b067 2 = .ok (.arraylength, 1) := by decide +kernel
theorem dJ1_charAt_3b067_3 : decode cJ1_charAt_3b067 3 = .ok (.invokestatic 9, 3) := by decide +kernel
theorem dJ1_charAt_3b067_6 : decode cJ1_charAt_3b067 6 = .ok (.aload_n 0, 1) := by decide +kernel
theorem dJ1_charAt_3b067_7 : decode cJ1_charAt_3b067 7 = .ok (.iload_n 1, 1) := by decide +kernel
theorem dJ1_charAt_3b067_8 : decode cJ1_charAt_3b067 8 = .ok (.baload, 1) := by decide +kernel
theorem dJ1_charAt_3b067_9 : decode cJ1_charAt_3b067 9 = .ok (.sipush 255, 3) := by decide +kernel
theorem dJ1_charAt_3b067_12 : decode cJ1_charAt_3b067 12 = .ok (.iand, 1) := by decide +kernel
theorem dJ1_charAt_3b067_13 : decode cJ1_charAt_3b067 13 = .ok (.i2c, 1) := by decide +kernel
theorem dJ1_charAt_3b067_14 : decode cJ1_charAt_3b067 14 = .ok (.ireturn, 1) := by decide +kernel
theorem dJ0_checkIndex_df160_0 : decode cJ0_checkIndex_df160 0 = .ok (.iload_n 0, 1) := by decide +kernel
theorem dJ0_checkIndex_df160_1 : decode cJ0_checkIndex_df160 1 = .ok (.iload_n 1, 1) := by decide +kernel
theorem dJ0_checkIndex_df160_2 : decode cJ0_checkIndex_df160 2 = .ok (.getstatic 1053, 3) := by decide +kernel
theorem dJ0_checkIndex_df160_5 : decode cJ0_checkIndex_df160 5 = .ok (.invokestatic 1059, 3) := by decide +kernel
theorem dJ0_checkIndex_df160_8 : decode cJ0_checkIndex_df160 8 = .ok (.pop, 1) := by decide +kernel
theorem dJ0_checkIndex_df160_9 : decode cJ0_checkIndex_df160 9 = .ok (.return_, 1) := by decide +kernel
theorem dJ3_checkIndex_8e157_0 : decode cJ3_checkIndex_8e157 0 = .ok (.iload_n 0, 1) := by decide +kernel
theorem dJ3_checkIndex_8e157_1 : decode cJ3_checkIndex_8e157 1 = .ok (.ifCond .lt 8, 3) := by decide +kernel
theorem dJ3_checkIndex_8e157_4 : decode cJ3_checkIndex_8e157 4 = .ok (.iload_n 0, 1) := by decide +kernel
theorem dJ3_checkIndex_8e157_5 : decode cJ3_checkIndex_8e157 5 = .ok (.iload_n 1, 1) := by decide +kernel
theorem dJ3_checkIndex_8e157_6 : decode cJ3_checkIndex_8e157 6 = .ok (.if_icmp .lt 10, 3) := by decide +kernel
theorem dJ3_checkIndex_8e157_9 : decode cJ3_checkIndex_8e157 9 = .ok (.aload_n 2, 1) := by decide +kernel
theorem dJ3_checkIndex_8e157_10 : decode cJ3_checkIndex_8e157 10 = .ok (.iload_n 0, 1) := by decide +kernel
theorem dJ3_checkIndex_8e157_11 : decode cJ3_checkIndex_8e157 11 = .ok (.iload_n 1, 1) := by decide +kernel
theorem dJ3_checkIndex_8e157_12 : decode cJ3_checkIndex_8e157 12 = .ok (.invokestatic 95, 3) := by decide +kernel
theorem dJ3_checkIndex_8e157_15 : decode cJ3_checkIndex_8e157 15 = .ok (.athrow, 1) := by decide +kernel
theorem dJ3_checkIndex_8e157_16 : decode cJ3_checkIndex_8e157 16 = .ok (.iload_n 0, 1) := by decide +kernel
theorem dJ3_checkIndex_8e157_17 : decode cJ3_checkIndex_8e157 17 = .ok (.ireturn, 1) := by decide +kernel
theorem vp_in_ok {x : Int32} {n : Nat} (hn : n < 2 ^ 31) (h : vp_in x n) : ¬ x < 0 ∧ x < Int32.ofNat n := by
  obtain ⟨j, hj, rfl⟩ := vp_in_of h hn
  exact ⟨nI_pos (by omega), nI_lt hj hn⟩
theorem wrd_len {i : Nat} : (wrd i).length < 2 ^ 31 := by
  unfold wrd
  split <;> decide
def lenW (i : Nat) : Int32 := (Int32.ofNat (wrd i).length) >>> ((0 &&& 31 : Int32))
def chW (i : Nat) (x : Int32) : Int32 := (((wrd i).getD x.toNatClampNeg 0 &&& 255).toUInt32 % 65536).toInt32
section S40

set_option maxRecDepth 10000 in
theorem ct_coder (l : Launch) (D : va_G) (cI cB cL : ClassId) (ka kv : Nat → Nat) (fv : Value) (i : Nat) (hi : i < 8) : metIK l D (tyl cI cB cL) ka kv fv yJ0_coder_7d493 cJ0_coder_7d493 1 (some .byte) 0 0 w0 [.ref (ka i)] z0 (0) z0 := by
  intro sz
  refine Met.ofW (cc := cJ0_coder_7d493) (maxL := 1) (ret := (some .byte)) (by decide) rfl ?_
  intro p e s m args below meth c s₁ B hml hv
  obtain ⟨rfl, C, S, Kx⟩ := q_entryK B hml hv
  have hx := C.1
  have hb := C.2.1
  have hown := C.2.2.2.1
  have hts := C.2.2.2.2.1
  have hl := lv_entry ([.ref (ka i)]) (n := 1) (Nat.le_of_ble_eq_true rfl)
  rw [lg_entry_eq]
  generalize (lg_sl ([.ref (ka i)]) ++ List.replicate (1 - (lg_sl ([.ref (ka i)])).length) Slot.unset).toArray = ls at hl ⊢
  have hl : lv_has ls 1 [(0, .ref (ka i))] := hl
  refine va_gets (v := .int 1) hx hb Kx.2.2.1 S.2.2 hown (hts _ ks_cs) (fun _ h => h) dJ0_coder_7d493_0 ?_
  refine lv_if_eq (tgt := 13) hx hb dJ0_coder_7d493_3 (by decide) (fun c => absurd c (by decide)) (fun _ => ?_)
  refine lv_aload_n hx hb dJ0_coder_7d493_6 rfl (lv_at hl 0 rfl) ?_
  refine vk_getf hx hb (Kx.1 i hi).2.1 S.2.2 hown (hts _ ks_co) (fun _ h => h) dJ0_coder_7d493_7 ?_
  refine lv_goto (tgt := 14) hx hb dJ0_coder_7d493_10 (by decide) ?_
  exact q_zret C S rfl ⟨rfl, rfl⟩ dJ0_coder_7d493_14

set_option maxRecDepth 10000 in
theorem ct_isLatin1 (l : Launch) (D : va_G) (cI cB cL : ClassId) (ka kv : Nat → Nat) (fv : Value) (i : Nat) (hi : i < 8) : metIK l D (tyl cI cB cL) ka kv fv yJ0_isLatin1_aae02 cJ0_isLatin1_aae02 1 (some .boolean) 0 0 w0 [.ref (ka i)] z0 (1) z0 := by
  intro sz
  refine Met.ofW (cc := cJ0_isLatin1_aae02) (maxL := 1) (ret := (some .boolean)) (by decide) rfl ?_
  intro p e s m args below meth c s₁ B hml hv
  obtain ⟨rfl, C, S, Kx⟩ := q_entryK B hml hv
  have hx := C.1
  have hb := C.2.1
  have hown := C.2.2.2.1
  have hts := C.2.2.2.2.1
  have hl := lv_entry ([.ref (ka i)]) (n := 1) (Nat.le_of_ble_eq_true rfl)
  rw [lg_entry_eq]
  generalize (lg_sl ([.ref (ka i)]) ++ List.replicate (1 - (lg_sl ([.ref (ka i)])).length) Slot.unset).toArray = ls at hl ⊢
  have hl : lv_has ls 1 [(0, .ref (ka i))] := hl
  refine va_gets (v := .int 1) hx hb Kx.2.2.1 S.2.2 hown (hts _ ks_cs) (fun _ h => h) dJ0_isLatin1_aae02_0 ?_
  refine lv_if_eq (tgt := 17) hx hb dJ0_isLatin1_aae02_3 (by decide) (fun c => absurd c (by decide)) (fun _ => ?_)
  refine lv_aload_n hx hb dJ0_isLatin1_aae02_6 rfl (lv_at hl 0 rfl) ?_
  refine vk_getf hx hb (Kx.1 i hi).2.1 S.2.2 hown (hts _ ks_co) (fun _ h => h) dJ0_isLatin1_aae02_7 ?_
  refine lv_if_ne (tgt := 17) hx hb dJ0_isLatin1_aae02_10 (by decide) (fun c => absurd rfl c) (fun _ => ?_)
  refine lv_iconst (v := 1) hx hb dJ0_isLatin1_aae02_13 (by decide) ?_
  refine lv_goto (tgt := 18) hx hb dJ0_isLatin1_aae02_14 (by decide) ?_
  exact q_zret C S rfl ⟨rfl, rfl⟩ dJ0_isLatin1_aae02_18

set_option maxRecDepth 10000 in
theorem ct_length (l : Launch) (D : va_G) (cI cB cL : ClassId) (ka kv : Nat → Nat) (fv : Value) (i : Nat) (hi : i < 8) : metIK l D (tyl cI cB cL) ka kv fv yJ0_length_8abf5 cJ0_length_8abf5 1 (some .int) 1 20 w0 [.ref (ka i)] z0 (lenW i) z0 := by
  intro sz
  refine Met.ofW (cc := cJ0_length_8abf5) (maxL := 1) (ret := (some .int)) (by decide) rfl ?_
  intro p e s m args below meth c s₁ B hml hv
  obtain ⟨rfl, C, S, Kx⟩ := q_entryK B hml hv
  have hx := C.1
  have hb := C.2.1
  have hown := C.2.2.2.1
  have hts := C.2.2.2.2.1
  have hl := lv_entry ([.ref (ka i)]) (n := 1) (Nat.le_of_ble_eq_true rfl)
  rw [lg_entry_eq]
  generalize (lg_sl ([.ref (ka i)]) ++ List.replicate (1 - (lg_sl ([.ref (ka i)])).length) Slot.unset).toArray = ls at hl ⊢
  have hl : lv_has ls 1 [(0, .ref (ka i))] := hl
  refine lv_aload_n hx hb dJ0_length_8abf5_0 rfl (lv_at hl 0 rfl) ?_
  refine vk_getf hx hb (Kx.1 i hi).2.2.1 S.2.2 hown (hts _ ks_va) (fun _ h => h) dJ0_length_8abf5_1 ?_
  refine va_tlen (v := Int32.ofNat (wrd i).length) hx hb (Kx.1 i hi).2.2.2 S.2.2 rfl dJ0_length_8abf5_4 ?_
  refine lv_aload_n hx hb dJ0_length_8abf5_5 rfl (lv_at hl 0 rfl) ?_
  refine q_callW (As := []) (na := 0) C Kx S hi (ct_coder l D cI cB cL ka kv fv i hi) ks_l_coder ks_i_coder ks_s_coder ks_n_S ks_c_coder (by decide +kernel) ⟨Nat.le_of_ble_eq_true rfl, Nat.le_of_ble_eq_true rfl⟩ rfl hl.1 ⟨Nat.zero_le _, Nat.zero_le _⟩ (Nat.le_of_ble_eq_true rfl) dJ0_length_8abf5_6 rfl (fun H locs S => ?_)
  refine lv_ishr hx hb dJ0_length_8abf5_9 ?_
  exact q_iret C S ⟨rfl, rfl⟩ dJ0_length_8abf5_10

set_option maxRecDepth 10000 in
theorem ct_pcheck0 (l : Launch) (D : va_G) (cI cB cL : ClassId) (ka kv : Nat → Nat) (fv : Value) (x n : Int32) (h0 : ¬ x < 0) (h1 : x < n) : metIK l D (tyl cI cB cL) ka kv fv yJ3_checkIndex_8e157 cJ3_checkIndex_8e157 3 (some .int) 0 0 w0 [.int x, .int n, .null] z0 (x) z0 := by
  intro sz
  refine Met.ofW (cc := cJ3_checkIndex_8e157) (maxL := 3) (ret := (some .int)) (by decide) rfl ?_
  intro p e s m args below meth c s₁ B hml hv
  obtain ⟨rfl, C, S, Kx⟩ := q_entryK B hml hv
  have hx := C.1
  have hb := C.2.1
  have hown := C.2.2.2.1
  have hts := C.2.2.2.2.1
  have hl := lv_entry ([.int x, .int n, .null]) (n := 3) (Nat.le_of_ble_eq_true rfl)
  rw [lg_entry_eq]
  generalize (lg_sl ([.int x, .int n, .null]) ++ List.replicate (3 - (lg_sl ([.int x, .int n, .null])).length) Slot.unset).toArray = ls at hl ⊢
  have hl : lv_has ls 3 [(0, .int x), (1, .int n), (2, .null)] := hl
  refine lv_iload_n hx hb dJ3_checkIndex_8e157_0 rfl (lv_at hl 0 rfl) ?_
  refine lv_if_lt (tgt := 9) hx hb dJ3_checkIndex_8e157_1 (by decide) (fun c => absurd c h0) (fun _ => ?_)
  refine lv_iload_n hx hb dJ3_checkIndex_8e157_4 rfl (lv_at hl 0 rfl) ?_
  refine lv_iload_n hx hb dJ3_checkIndex_8e157_5 rfl (lv_at hl 1 rfl) ?_
  refine lv_icmp_lt (tgt := 16) hx hb dJ3_checkIndex_8e157_6 (by decide) (fun _ => ?_) (fun c => absurd h1 c)
  refine lv_iload_n hx hb dJ3_checkIndex_8e157_16 rfl (lv_at hl 0 rfl) ?_
  exact q_iret C S ⟨rfl, rfl⟩ dJ3_checkIndex_8e157_17

set_option maxRecDepth 10000 in
theorem ct_pcheck1 (l : Launch) (D : va_G) (cI cB cL : ClassId) (ka kv : Nat → Nat) (fv : Value) (x n : Int32) (t : Nat) (h0 : ¬ x < 0) (h1 : x < n) : metIK l D (tyl cI cB cL) ka kv fv yJ3_checkIndex_8e157 cJ3_checkIndex_8e157 3 (some .int) 0 0 w0 [.int x, .int n, .ref t] z0 (x) z0 := by
  intro sz
  refine Met.ofW (cc := cJ3_checkIndex_8e157) (maxL := 3) (ret := (some .int)) (by decide) rfl ?_
  intro p e s m args below meth c s₁ B hml hv
  obtain ⟨rfl, C, S, Kx⟩ := q_entryK B hml hv
  have hx := C.1
  have hb := C.2.1
  have hown := C.2.2.2.1
  have hts := C.2.2.2.2.1
  have hl := lv_entry ([.int x, .int n, .ref t]) (n := 3) (Nat.le_of_ble_eq_true rfl)
  rw [lg_entry_eq]
  generalize (lg_sl ([.int x, .int n, .ref t]) ++ List.replicate (3 - (lg_sl ([.int x, .int n, .ref t])).length) Slot.unset).toArray = ls at hl ⊢
  have hl : lv_has ls 3 [(0, .int x), (1, .int n), (2, .ref t)] := hl
  refine lv_iload_n hx hb dJ3_checkIndex_8e157_0 rfl (lv_at hl 0 rfl) ?_
  refine lv_if_lt (tgt := 9) hx hb dJ3_checkIndex_8e157_1 (by decide) (fun c => absurd c h0) (fun _ => ?_)
  refine lv_iload_n hx hb dJ3_checkIndex_8e157_4 rfl (lv_at hl 0 rfl) ?_
  refine lv_iload_n hx hb dJ3_checkIndex_8e157_5 rfl (lv_at hl 1 rfl) ?_
  refine lv_icmp_lt (tgt := 16) hx hb dJ3_checkIndex_8e157_6 (by decide) (fun _ => ?_) (fun c => absurd h1 c)
  refine lv_iload_n hx hb dJ3_checkIndex_8e157_16 rfl (lv_at hl 0 rfl) ?_
  exact q_iret C S ⟨rfl, rfl⟩ dJ3_checkIndex_8e157_17

set_option maxRecDepth 10000 in
theorem ct_checkIndex (l : Launch) (D : va_G) (cI cB cL : ClassId) (ka kv : Nat → Nat) (fv : Value) (x n : Int32) (h0 : ¬ x < 0) (h1 : x < n) : metVK l D (tyl cI cB cL) ka kv fv yJ0_checkIndex_df160 cJ0_checkIndex_df160 2 1 22 w0 [.int x, .int n] z0 z0 := by
  intro sz
  refine Met.ofW (cc := cJ0_checkIndex_df160) (maxL := 2) (ret := none) (by decide) rfl ?_
  intro p e s m args below meth c s₁ B hml hv
  obtain ⟨rfl, C, S, Kx⟩ := q_entryK B hml hv
  have hx := C.1
  have hb := C.2.1
  have hown := C.2.2.2.1
  have hts := C.2.2.2.2.1
  have hl := lv_entry ([.int x, .int n]) (n := 2) (Nat.le_of_ble_eq_true rfl)
  rw [lg_entry_eq]
  generalize (lg_sl ([.int x, .int n]) ++ List.replicate (2 - (lg_sl ([.int x, .int n])).length) Slot.unset).toArray = ls at hl ⊢
  have hl : lv_has ls 2 [(0, .int x), (1, .int n)] := hl
  refine lv_iload_n hx hb dJ0_checkIndex_df160_0 rfl (lv_at hl 0 rfl) ?_
  refine lv_iload_n hx hb dJ0_checkIndex_df160_1 rfl (lv_at hl 1 rfl) ?_
  refine va_gets (v := fv) hx hb Kx.2.2.2.1.1 S.2.2 hown (hts _ ks_fm) (fun _ h => h) dJ0_checkIndex_df160_2 ?_
  rcases Kx.2.2.2.1.2 with rfl | ⟨t, rfl⟩
  · skip
    refine q_callPK (As := [.int x, .int n, .null]) (na := 3) C Kx S (ct_pcheck0 l D cI cB cL ka kv .null x n h0 h1) ks_l_pcheck ks_t_pcheck ks_n_P ks_c_pcheck (by decide +kernel) ⟨Nat.le_of_ble_eq_true rfl, Nat.le_of_ble_eq_true rfl⟩ rfl hl.1 ⟨Nat.zero_le _, Nat.zero_le _⟩ (Nat.le_of_ble_eq_true rfl) dJ0_checkIndex_df160_5 rfl (fun H locs S => ?_)
    refine lv_pop hx hb dJ0_checkIndex_df160_8 rfl ?_
    exact q_vret C S rfl dJ0_checkIndex_df160_9
  · skip
    refine q_callPK (As := [.int x, .int n, .ref t]) (na := 3) C Kx S (ct_pcheck1 l D cI cB cL ka kv (.ref t) x n t h0 h1) ks_l_pcheck ks_t_pcheck ks_n_P ks_c_pcheck (by decide +kernel) ⟨Nat.le_of_ble_eq_true rfl, Nat.le_of_ble_eq_true rfl⟩ rfl hl.1 ⟨Nat.zero_le _, Nat.zero_le _⟩ (Nat.le_of_ble_eq_true rfl) dJ0_checkIndex_df160_5 rfl (fun H locs S => ?_)
    refine lv_pop hx hb dJ0_checkIndex_df160_8 rfl ?_
    exact q_vret C S rfl dJ0_checkIndex_df160_9

set_option maxRecDepth 10000 in
theorem ct_charAt1 (l : Launch) (D : va_G) (cI cB cL : ClassId) (ka kv : Nat → Nat) (fv : Value) (i : Nat) (hi : i < 8) (x : Int32) (hin : vp_in x (wrd i).length) : metIK l D (tyl cI cB cL) ka kv fv yJ1_charAt_3b067 cJ1_charAt_3b067 2 (some .char) 2 43 w0 [.ref (kv i), .int x] z0 (chW i x) z0 := by
  intro sz
  refine Met.ofW (cc := cJ1_charAt_3b067) (maxL := 2) (ret := (some .char)) (by decide) rfl ?_
  intro p e s m args below meth c s₁ B hml hv
  obtain ⟨rfl, C, S, Kx⟩ := q_entryK B hml hv
  have hx := C.1
  have hb := C.2.1
  have hown := C.2.2.2.1
  have hts := C.2.2.2.2.1
  have hl := lv_entry ([.ref (kv i), .int x]) (n := 2) (Nat.le_of_ble_eq_true rfl)
  rw [lg_entry_eq]
  generalize (lg_sl ([.ref (kv i), .int x]) ++ List.replicate (2 - (lg_sl ([.ref (kv i), .int x])).length) Slot.unset).toArray = ls at hl ⊢
  have hl : lv_has ls 2 [(0, .ref (kv i)), (1, .int x)] := hl
  have hok := vp_in_ok wrd_len hin
  refine lv_iload_n hx hb dJ1_charAt_3b067_0 rfl (lv_at hl 1 rfl) ?_
  refine lv_aload_n hx hb dJ1_charAt_3b067_1 rfl (lv_at hl 0 rfl) ?_
  refine va_tlen (v := Int32.ofNat (wrd i).length) hx hb (Kx.1 i hi).2.2.2 S.2.2 rfl dJ1_charAt_3b067_2 ?_
  refine q_callPKv (As := [.int x, .int (Int32.ofNat (wrd i).length)]) (na := 2) C Kx S (ct_checkIndex l D cI cB cL ka kv fv x _ hok.1 hok.2) ks_l_checkIndex ks_t_checkIndex ks_n_S ks_c_checkIndex (by decide +kernel) ⟨Nat.le_of_ble_eq_true rfl, Nat.le_of_ble_eq_true rfl⟩ rfl hl.1 ⟨Nat.zero_le _, Nat.zero_le _⟩ (Nat.le_of_ble_eq_true rfl) dJ1_charAt_3b067_3 rfl (fun H locs S => ?_)
  refine lv_aload_n hx hb dJ1_charAt_3b067_6 rfl (lv_at hl 0 rfl) ?_
  refine lv_iload_n hx hb dJ1_charAt_3b067_7 rfl (lv_at hl 1 rfl) ?_
  refine va_tb hx hb (Kx.1 i hi).2.2.2 S.2.2 hin rfl dJ1_charAt_3b067_8 ?_
  refine lv_sipush (v := 255) hx hb dJ1_charAt_3b067_9 (by decide) ?_
  refine lv_iand hx hb dJ1_charAt_3b067_12 ?_
  refine lv_i2c (v := chW i x) hx hb dJ1_charAt_3b067_13 rfl ?_
  exact q_zret C S (pk_nc _) ⟨rfl, rfl⟩ dJ1_charAt_3b067_14

set_option maxRecDepth 10000 in
theorem ct_charAt (l : Launch) (D : va_G) (cI cB cL : ClassId) (ka kv : Nat → Nat) (fv : Value) (i : Nat) (hi : i < 8) (x : Int32) (hin : vp_in x (wrd i).length) : metIK l D (tyl cI cB cL) ka kv fv yJ0_charAt_5068e cJ0_charAt_5068e 2 (some .char) 3 64 w0 [.ref (ka i), .int x] z0 (chW i x) z0 := by
  intro sz
  refine Met.ofW (cc := cJ0_charAt_5068e) (maxL := 2) (ret := (some .char)) (by decide) rfl ?_
  intro p e s m args below meth c s₁ B hml hv
  obtain ⟨rfl, C, S, Kx⟩ := q_entryK B hml hv
  have hx := C.1
  have hb := C.2.1
  have hown := C.2.2.2.1
  have hts := C.2.2.2.2.1
  have hl := lv_entry ([.ref (ka i), .int x]) (n := 2) (Nat.le_of_ble_eq_true rfl)
  rw [lg_entry_eq]
  generalize (lg_sl ([.ref (ka i), .int x]) ++ List.replicate (2 - (lg_sl ([.ref (ka i), .int x])).length) Slot.unset).toArray = ls at hl ⊢
  have hl : lv_has ls 2 [(0, .ref (ka i)), (1, .int x)] := hl
  refine lv_aload_n hx hb dJ0_charAt_5068e_0 rfl (lv_at hl 0 rfl) ?_
  refine q_callW (As := []) (na := 0) C Kx S hi (ct_isLatin1 l D cI cB cL ka kv fv i hi) ks_l_isLatin1 ks_i_isLatin1 ks_s_isLatin1 ks_n_S ks_c_isLatin1 (by decide +kernel) ⟨Nat.le_of_ble_eq_true rfl, Nat.le_of_ble_eq_true rfl⟩ rfl hl.1 ⟨Nat.zero_le _, Nat.zero_le _⟩ (Nat.le_of_ble_eq_true rfl) dJ0_charAt_5068e_1 rfl (fun H locs S => ?_)
  refine lv_if_eq (tgt := 16) hx hb dJ0_charAt_5068e_4 (by decide) (fun c => absurd c (by decide)) (fun _ => ?_)
  refine lv_aload_n hx hb dJ0_charAt_5068e_7 rfl (lv_at hl 0 rfl) ?_
  refine vk_getf hx hb (Kx.1 i hi).2.2.1 S.2.2 hown (hts _ ks_va) (fun _ h => h) dJ0_charAt_5068e_8 ?_
  refine lv_iload_n hx hb dJ0_charAt_5068e_11 rfl (lv_at hl 1 rfl) ?_
  refine q_callPK (As := [.ref (kv i), .int x]) (na := 2) C Kx S (ct_charAt1 l D cI cB cL ka kv fv i hi x hin) ks_l_charAt1 ks_t_charAt1 ks_n_L1 ks_c_charAt1 (by decide +kernel) ⟨Nat.le_of_ble_eq_true rfl, Nat.le_of_ble_eq_true rfl⟩ rfl hl.1 ⟨Nat.zero_le _, Nat.zero_le _⟩ (Nat.le_of_ble_eq_true rfl) dJ0_charAt_5068e_12 rfl (fun H locs S => ?_)
  exact q_zret C S (pk_nc _) ⟨rfl, rfl⟩ dJ0_charAt_5068e_15

end S40
