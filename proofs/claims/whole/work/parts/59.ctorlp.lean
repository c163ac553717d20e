theorem mw_963 : Cond.methodLink RX11 1 objectInit ∈ gw := gw_t1 35 rfl rfl
theorem mw_964 : Cond.classLink RX11 7 RX10 ∈ gw := gw_t1 38 rfl rfl
theorem mw_965 : Cond.instantiable RX10 2 ∈ gw := gw_t1 39 rfl rfl
theorem mw_966 : Cond.methodLink RX11 9 yX10_init ∈ gw := gw_t1 40 rfl rfl
theorem mw_967 : Cond.instanceMethod yX10_init ∈ gw := gw_t1 41 rfl rfl
theorem mw_968 : Cond.code yX10_init cX10_init 1 none ∈ gw := gw_t1 42 rfl rfl
theorem mw_969 : Cond.classLink RX11 16 RX9 ∈ gw := gw_t1 55 rfl rfl
theorem mw_970 : Cond.instantiable RX9 4 ∈ gw := gw_t1 56 rfl rfl
theorem mw_971 : Cond.methodLink RX11 18 yX9_init ∈ gw := gw_t1 57 rfl rfl
theorem mw_972 : Cond.instanceMethod yX9_init ∈ gw := gw_t1 58 rfl rfl
theorem mw_973 : Cond.code yX9_init cX9_init 2 none ∈ gw := gw_t1 59 rfl rfl
theorem mw_974 : Cond.classLink RX11 25 RX8 ∈ gw := gw_t1 74 rfl rfl
theorem mw_975 : Cond.instantiable RX8 2 ∈ gw := gw_t1 75 rfl rfl
theorem mw_976 : Cond.methodLink RX11 27 yX8_init ∈ gw := gw_t1 76 rfl rfl
theorem mw_977 : Cond.instanceMethod yX8_init ∈ gw := gw_t1 77 rfl rfl
theorem mw_978 : Cond.code yX8_init cX8_init 1 none ∈ gw := gw_t1 78 rfl rfl
theorem mw_979 : Cond.classLink RX11 32 RX7 ∈ gw := gw_t1 88 rfl rfl
theorem mw_980 : Cond.instantiable RX7 19 ∈ gw := gw_t1 89 rfl rfl
theorem mw_981 : Cond.methodLink RX11 34 yX7_init ∈ gw := gw_t1 90 rfl rfl
theorem mw_982 : Cond.instanceMethod yX7_init ∈ gw := gw_t1 91 rfl rfl
theorem mw_983 : Cond.code yX7_init cX7_init 1 none ∈ gw := gw_t1 92 rfl rfl
theorem dX11_init_0 : decode cX11_init 0 = .ok (.aload_n 0, 1) := by decide +kernel
theorem dX11_init_1 : decode cX11_init 1 = .ok (.invokespecial 1, 3) := by decide +kernel
theorem dX11_init_4 : decode cX11_init 4 = .ok (.aload_n 0, 1) := by decide +kernel
theorem dX11_init_5 : decode cX11_init 5 = .ok (.new 7, 3) := by decide +kernel
theorem dX11_init_8 : decode cX11_init 8 = .ok (.dup, 1) := by decide +kernel
theorem dX11_init_9 : decode cX11_init 9 = .ok (.invokespecial 9, 3) := by decide +kernel
theorem dX11_init_12 : decode cX11_init 12 = .ok (.putfield 10, 3) := by decide +kernel
theorem dX11_init_15 : decode cX11_init 15 = .ok (.aload_n 0, 1) := by decide +kernel
theorem dX11_init_16 : decode cX11_init 16 = .ok (.new 16, 3) := by decide +kernel
theorem dX11_init_19 : decode cX11_init 19 = .ok (.dup, 1) := by decide +kernel
theorem dX11_init_20 : decode cX11_init 20 = .ok (.aload_n 0, 1) := by decide +kernel
theorem dX11_init_21 : decode cX11_init 21 = .ok (.getfield 10, 3) := by decide +kernel
theorem dX11_init_24 : decode cX11_init 24 = .ok (.invokespecial 18, 3) := by decide +kernel
theorem dX11_init_27 : decode cX11_init 27 = .ok (.putfield 21, 3) := by decide +kernel
theorem dX11_init_30 : decode cX11_init 30 = .ok (.aload_n 0, 1) := by decide +kernel
theorem dX11_init_31 : decode cX11_init 31 = .ok (.new 25, 3) := by decide +kernel
theorem dX11_init_34 : decode cX11_init 34 = .ok (.dup, 1) := by decide +kernel
theorem dX11_init_35 : decode cX11_init 35 = .ok (.invokespecial 27, 3) := by decide +kernel
theorem dX11_init_38 : decode cX11_init 38 = .ok (.putfield 28, 3) := by decide +kernel
theorem dX11_init_41 : decode cX11_init 41 = .ok (.aload_n 0, 1) := by decide +kernel
theorem dX11_init_42 : decode cX11_init 42 = .ok (.new 32, 3) := by decide +kernel
theorem dX11_init_45 : decode cX11_init 45 = .ok (.dup, 1) := by decide +kernel
theorem dX11_init_46 : decode cX11_init 46 = .ok (.invokespecial 34, 3) := by decide +kernel
theorem dX11_init_49 : decode cX11_init 49 = .ok (.putfield 35, 3) := by decide +kernel
theorem dX11_init_52 : decode cX11_init 52 = .ok (.aload_n 0, 1) := by decide +kernel
theorem dX11_init_53 : decode cX11_init 53 = .ok (.new 32, 3) := by decide +kernel
theorem dX11_init_56 : decode cX11_init 56 = .ok (.dup, 1) := by decide +kernel
theorem dX11_init_57 : decode cX11_init 57 = .ok (.invokespecial 34, 3) := by decide +kernel
theorem dX11_init_60 : decode cX11_init 60 = .ok (.putfield 39, 3) := by decide +kernel
theorem dX11_init_63 : decode cX11_init 63 = .ok (.aload_n 0, 1) := by decide +kernel
theorem dX11_init_64 : decode cX11_init 64 = .ok (.new 32, 3) := by decide +kernel
theorem dX11_init_67 : decode cX11_init 67 = .ok (.dup, 1) := by decide +kernel
theorem dX11_init_68 : decode cX11_init 68 = .ok (.invokespecial 34, 3) := by decide +kernel
theorem dX11_init_71 : decode cX11_init 71 = .ok (.putfield 42, 3) := by decide +kernel
theorem dX11_init_74 : decode cX11_init 74 = .ok (.aload_n 0, 1) := by decide +kernel
theorem dX11_init_75 : decode cX11_init 75 = .ok (.iconst 0, 1) := by decide +kernel
theorem dX11_init_76 : decode cX11_init 76 = .ok (.putfield 45, 3) := by decide +kernel
theorem dX11_init_79 : decode cX11_init 79 = .ok (.aload_n 0, 1) := by decide +kernel
theorem dX11_init_80 : decode cX11_init 80 = .ok (.iconst (-1), 1) := by decide +kernel
theorem dX11_init_81 : decode cX11_init 81 = .ok (.putfield 49, 3) := by decide +kernel
theorem dX11_init_84 : decode cX11_init 84 = .ok (.return_, 1) := by decide +kernel
def wc_X11 (h0 : Nat) : Sg → va_W := fun _ => [(h0, .inr (10, [.null, .null, .null, .null, .null, .null, .int 0, .int 0]))]
def xInit : Sg := fun q => if q < 36 then nInit q else match q with | 36 => (fun k => match k with | 7 => (-1) | _ => 0) | 39 => (fun k => match k with | 2 => (-1) | _ => 0) | _ => fun _ => 0
abbrev lpT : Type := (Nat → Nat) × Nat × ((Nat → Nat) × Nat) × ((Nat → Nat) × Nat)
def lpW (cI cB : ClassId) (P : lpT) : va_W := wT cI cB P.1 (P.2.2.1.1 0) (P.2.2.2.1 0) P.2.1 384 xInit ++ (wN cI P.2.2.1.1 P.2.2.1.2 384 nInit ++ wN cI P.2.2.2.1 P.2.2.2.2 384 nInit)
set_option maxRecDepth 40000 in
set_option maxHeartbeats 4000000 in
theorem cc_X11 (l : Launch) (D : va_G) (cI cB cL : ClassId) (h0 : Nat) : ∀ sz, Met l yX11_init (Cond.code yX11_init cX11_init 1 none :: gw) { frames := 3, cells := 113, slots := 6440, locals := 63 } (va_Pc [.ref h0] (pre D (tyl cI cB cL) (wc_X11 h0) z0 sz)) (va_Qv (fun P : lpT => P.1 36 = h0) (fun P t => va_P D vwCl (lpW cI cB P) t.heap ∧ va_K D vwCl (tyl cI cB cL) t ∧ va_D (va_A (wc_X11 h0 z0) sz) (lpW cI cB P)) (va_A (wc_X11 h0 z0) sz)) 113 6440 (va_A (wc_X11 h0 z0) sz) := by
  intro sz
  refine Met.ofW (cc := cX11_init) (maxL := 1) (ret := none) (by decide) rfl ?_
  intro p e s m args below meth c s₁ B hml hv
  obtain ⟨rfl, C, S⟩ := q_entryA B hml hv
  have hx := C.1
  have hb := C.2.1
  have hown := C.2.2.2.1
  have hts := C.2.2.2.2.1
  have hin : meth.name = "<init>" := (name_of_methodNamed B.named B.method).1
  have hK := C.2.2.2.2.2.2.2.1
  have hl := lv_entry ([.ref h0]) (n := 1) (Nat.le_of_ble_eq_true rfl)
  rw [lg_entry_eq]
  generalize (lg_sl ([.ref h0]) ++ List.replicate (1 - (lg_sl ([.ref h0])).length) Slot.unset).toArray = ls at hl ⊢
  have hl : lv_has ls 1 [(0, .ref h0)] := hl
  obtain ⟨hP, hD, hS⟩ := S
  generalize hAe : va_A (wc_X11 h0 z0) sz = A at hP hD hS C ⊢
  have hA := C.2.2.2.2.2.2.2.2.1
  have hP : va_P D vwCl [(h0, .inr (10, [.null, .null, .null, .null, .null, .null, .int 0, .int 0]))] s.heap := hP
  have hD : va_D A [(h0, .inr (10, [.null, .null, .null, .null, .null, .null, .int 0, .int 0]))] := hD
  refine lv_aload_n hx hb dX11_init_0 rfl (lv_at hl 0 rfl) ?_
  refine W.objInit hx hb hown (hts _ mw_963) (hts _ mw_913) (hts _ mw_914) rfl (by rw [hml]; exact hl.1) rfl dX11_init_1 (Nat.le_of_ble_eq_true rfl) (Nat.le_of_ble_eq_true rfl) ?_
  refine W.eq (g2 := F0 m 4 ls []) rfl ?_
  refine lv_aload_n hx hb dX11_init_4 rfl (lv_at hl 0 rfl) ?_
  refine va_new (ci := 9) (fs := [.null, .int 0]) (C := RX10) (T := TX10) (N := 2) hx hb hts iwX10 tyX10 tyX10_ok hown (hts _ mw_964) (hts _ mw_965) (hts _ mw_762) hK hP hD hS hA rfl (fun j hj => by rcases (show j = 0 ∨ j = 1 by omega) with rfl | rfl <;> rfl) (Nat.le_of_ble_eq_true rfl) (Nat.le_of_ble_eq_true rfl) dX11_init_5 (fun q1 H hP hD hS => ?_)
  have hP : va_P D vwCl [(h0, .inr (10, [.null, .null, .null, .null, .null, .null, .int 0, .int 0])), (q1, .inr (9, [.null, .int 0]))] H := hP
  have hD : va_D A [(h0, .inr (10, [.null, .null, .null, .null, .null, .null, .int 0, .int 0])), (q1, .inr (9, [.null, .int 0]))] := hD
  refine lv_dup hx hb dX11_init_8 rfl ?_
  have hPc := hP.sub (ws' := (wc_X10 q1 z0)) [1] rfl
  have hDc := hD.sub (ws' := (wc_X10 q1 z0)) [1] (by decide) rfl
  have hFc := va_free (wc := (wc_X10 q1 z0)) hD hS hA [1] rfl
  refine va_callv (va_runI (As := []) (rest := [.ref q1, .ref h0]) ⟨hx, hb, hml, hown, hts⟩ (cc_X10 l D cI cB cL q1 H.size) (cwI 0 hts (gg_c mw_968) rfl rfl rfl (hts _ mw_762) (hts _ mw_966) (hts _ mw_967) rfl (by decide +kernel) ⟨Nat.le_of_ble_eq_true rfl, Nat.le_of_ble_eq_true rfl⟩) ⟨pre_blind, fun U hU hW => ⟨rfl, by rw [hU], by rw [hU]; exact hPc, va_K.moved hW.alike hK, hDc.weaken (fun _ _ _ _ => trivial), nws_warm hW C.2.2.2.2.2.2.2.2.2⟩⟩ rfl rfl hl.1 rfl (lv_room (Nat.le_of_ble_eq_true rfl)) dX11_init_9 ⟨Nat.le_of_ble_eq_true rfl, Nat.le_of_ble_eq_true rfl⟩) hS (fun q _ h => hFc q h) hFc (fun qX10 t H1 locs ht hvm hw hB hz1 hk1 hS => ?_)
  obtain ⟨hP1, -, hD1⟩ := hB
  rw [ht] at hP1
  obtain ⟨hP, hD⟩ := va_join (wr := [(h0, .inr (10, [.null, .null, .null, .null, .null, .null, .int 0, .int 0]))]) (w1 := [(q1, .inr (9, [.ref (qX10 1), .int 0])), ((qX10 1), .inl (cB, 400, .inl (fun _ => 0)))]) hP hD [1] [0] rfl rfl (by decide) (by decide) hk1 hFc hP1 hD1
  generalize H1 = H at hP hS ⊢
  have hP : va_P D vwCl [(h0, .inr (10, [.null, .null, .null, .null, .null, .null, .int 0, .int 0])), (q1, .inr (9, [.ref (qX10 1), .int 0])), ((qX10 1), .inl (cB, 400, .inl (fun _ => 0)))] H := hP
  have hD : va_D A [(h0, .inr (10, [.null, .null, .null, .null, .null, .null, .int 0, .int 0])), (q1, .inr (9, [.ref (qX10 1), .int 0])), ((qX10 1), .inl (cB, 400, .inl (fun _ => 0)))] := hD
  refine va_putF (D := D) (ci := 10) (v := .ref q1) (ty := .object "LeastPending$Tape") (C := RX11) (T := TX11) (N := 8) hx hb hts iwX11 tyX11 tyX11_ok nmX11 hown hK hP hD hS 0 rfl rfl 0 (by decide) (hts _ mw_759) (fun _ h9 => h9) rfl hin rfl (by decide +kernel) rfl rfl (Nat.le_of_ble_eq_true rfl) dX11_init_12 (fun H locs hP hD hS => ?_)
  have hP : va_P D vwCl [(h0, .inr (10, [.ref q1, .null, .null, .null, .null, .null, .int 0, .int 0])), (q1, .inr (9, [.ref (qX10 1), .int 0])), ((qX10 1), .inl (cB, 400, .inl (fun _ => 0)))] H := hP
  have hD : va_D A [(h0, .inr (10, [.ref q1, .null, .null, .null, .null, .null, .int 0, .int 0])), (q1, .inr (9, [.ref (qX10 1), .int 0])), ((qX10 1), .inl (cB, 400, .inl (fun _ => 0)))] := hD
  refine lv_aload_n hx hb dX11_init_15 rfl (lv_at hl 0 rfl) ?_
  refine va_new (ci := 8) (fs := [.null, .int 0, .int 0, .int 0]) (C := RX9) (T := TX9) (N := 4) hx hb hts iwX9 tyX9 tyX9_ok hown (hts _ mw_969) (hts _ mw_970) (hts _ mw_667) hK hP hD hS hA rfl (fun j hj => by rcases (show j = 0 ∨ j = 1 ∨ j = 2 ∨ j = 3 by omega) with rfl | rfl | rfl | rfl <;> rfl) (Nat.le_of_ble_eq_true rfl) (Nat.le_of_ble_eq_true rfl) dX11_init_16 (fun q3 H hP hD hS => ?_)
  have hP : va_P D vwCl [(h0, .inr (10, [.ref q1, .null, .null, .null, .null, .null, .int 0, .int 0])), (q1, .inr (9, [.ref (qX10 1), .int 0])), ((qX10 1), .inl (cB, 400, .inl (fun _ => 0))), (q3, .inr (8, [.null, .int 0, .int 0, .int 0]))] H := hP
  have hD : va_D A [(h0, .inr (10, [.ref q1, .null, .null, .null, .null, .null, .int 0, .int 0])), (q1, .inr (9, [.ref (qX10 1), .int 0])), ((qX10 1), .inl (cB, 400, .inl (fun _ => 0))), (q3, .inr (8, [.null, .int 0, .int 0, .int 0]))] := hD
  refine lv_dup hx hb dX11_init_19 rfl ?_
  refine lv_aload_n hx hb dX11_init_20 rfl (lv_at hl 0 rfl) ?_
  refine va_get (D := D) (ci := 10) (v := .ref q1) (C := RX11) (T := TX11) (N := 8) hx hb hts iwX11 hown hK hP 0 rfl rfl 0 (by decide) (hts _ mw_759) (fun _ h9 => h9) rfl dX11_init_21 ?_
  have hPc := hP.sub (ws' := (wc_X9 q3 z0)) [3] rfl
  have hDc := hD.sub (ws' := (wc_X9 q3 z0)) [3] (by decide) rfl
  have hFc := va_free (wc := (wc_X9 q3 z0)) hD hS hA [3] rfl
  refine va_callv (va_runI (As := [.ref q1]) (rest := [.ref q3, .ref h0]) ⟨hx, hb, hml, hown, hts⟩ (cc_X9 l D cI cB cL q3 q1 H.size) (cwI 1 hts (gg_c mw_973) rfl rfl rfl (hts _ mw_667) (hts _ mw_971) (hts _ mw_972) rfl (by decide +kernel) ⟨Nat.le_of_ble_eq_true rfl, Nat.le_of_ble_eq_true rfl⟩) ⟨pre_blind, fun U hU hW => ⟨rfl, by rw [hU], by rw [hU]; exact hPc, va_K.moved hW.alike hK, hDc.weaken (fun _ _ _ _ => trivial), nws_warm hW C.2.2.2.2.2.2.2.2.2⟩⟩ rfl rfl hl.1 rfl (lv_room (Nat.le_of_ble_eq_true rfl)) dX11_init_24 ⟨Nat.le_of_ble_eq_true rfl, Nat.le_of_ble_eq_true rfl⟩) hS (fun q _ h => hFc q h) hFc (fun qX9 t H1 locs ht hvm hw hB hz1 hk1 hS => ?_)
  obtain ⟨hP1, -, hD1⟩ := hB
  rw [ht] at hP1
  obtain ⟨hP, hD⟩ := va_join (wr := [(h0, .inr (10, [.ref q1, .null, .null, .null, .null, .null, .int 0, .int 0])), (q1, .inr (9, [.ref (qX10 1), .int 0])), ((qX10 1), .inl (cB, 400, .inl (fun _ => 0)))]) (w1 := [(q3, .inr (8, [.ref q1, .int 0, .int (-1), .int 0]))]) hP hD [3] [0, 1, 2] rfl rfl (by decide) (by decide) hk1 hFc hP1 hD1
  generalize H1 = H at hP hS ⊢
  have hP : va_P D vwCl [(h0, .inr (10, [.ref q1, .null, .null, .null, .null, .null, .int 0, .int 0])), (q1, .inr (9, [.ref (qX10 1), .int 0])), ((qX10 1), .inl (cB, 400, .inl (fun _ => 0))), (q3, .inr (8, [.ref q1, .int 0, .int (-1), .int 0]))] H := hP
  have hD : va_D A [(h0, .inr (10, [.ref q1, .null, .null, .null, .null, .null, .int 0, .int 0])), (q1, .inr (9, [.ref (qX10 1), .int 0])), ((qX10 1), .inl (cB, 400, .inl (fun _ => 0))), (q3, .inr (8, [.ref q1, .int 0, .int (-1), .int 0]))] := hD
  refine va_putF (D := D) (ci := 10) (v := .ref q3) (ty := .object "LeastPending$Reader") (C := RX11) (T := TX11) (N := 8) hx hb hts iwX11 tyX11 tyX11_ok nmX11 hown hK hP hD hS 0 rfl rfl 1 (by decide) (hts _ mw_957) (fun _ h9 => h9) rfl hin rfl (by decide +kernel) rfl rfl (Nat.le_of_ble_eq_true rfl) dX11_init_27 (fun H locs hP hD hS => ?_)
  have hP : va_P D vwCl [(h0, .inr (10, [.ref q1, .ref q3, .null, .null, .null, .null, .int 0, .int 0])), (q1, .inr (9, [.ref (qX10 1), .int 0])), ((qX10 1), .inl (cB, 400, .inl (fun _ => 0))), (q3, .inr (8, [.ref q1, .int 0, .int (-1), .int 0]))] H := hP
  have hD : va_D A [(h0, .inr (10, [.ref q1, .ref q3, .null, .null, .null, .null, .int 0, .int 0])), (q1, .inr (9, [.ref (qX10 1), .int 0])), ((qX10 1), .inl (cB, 400, .inl (fun _ => 0))), (q3, .inr (8, [.ref q1, .int 0, .int (-1), .int 0]))] := hD
  refine lv_aload_n hx hb dX11_init_30 rfl (lv_at hl 0 rfl) ?_
  refine va_new (ci := 7) (fs := [.null, .int 0]) (C := RX8) (T := TX8) (N := 2) hx hb hts iwX8 tyX8 tyX8_ok hown (hts _ mw_974) (hts _ mw_975) (hts _ mw_647) hK hP hD hS hA rfl (fun j hj => by rcases (show j = 0 ∨ j = 1 by omega) with rfl | rfl <;> rfl) (Nat.le_of_ble_eq_true rfl) (Nat.le_of_ble_eq_true rfl) dX11_init_31 (fun q4 H hP hD hS => ?_)
  have hP : va_P D vwCl [(h0, .inr (10, [.ref q1, .ref q3, .null, .null, .null, .null, .int 0, .int 0])), (q1, .inr (9, [.ref (qX10 1), .int 0])), ((qX10 1), .inl (cB, 400, .inl (fun _ => 0))), (q3, .inr (8, [.ref q1, .int 0, .int (-1), .int 0])), (q4, .inr (7, [.null, .int 0]))] H := hP
  have hD : va_D A [(h0, .inr (10, [.ref q1, .ref q3, .null, .null, .null, .null, .int 0, .int 0])), (q1, .inr (9, [.ref (qX10 1), .int 0])), ((qX10 1), .inl (cB, 400, .inl (fun _ => 0))), (q3, .inr (8, [.ref q1, .int 0, .int (-1), .int 0])), (q4, .inr (7, [.null, .int 0]))] := hD
  refine lv_dup hx hb dX11_init_34 rfl ?_
  have hPc := hP.sub (ws' := (wc_X8 q4 z0)) [4] rfl
  have hDc := hD.sub (ws' := (wc_X8 q4 z0)) [4] (by decide) rfl
  have hFc := va_free (wc := (wc_X8 q4 z0)) hD hS hA [4] rfl
  refine va_callv (va_runI (As := []) (rest := [.ref q4, .ref h0]) ⟨hx, hb, hml, hown, hts⟩ (cc_X8 l D cI cB cL q4 H.size) (cwI 0 hts (gg_c mw_978) rfl rfl rfl (hts _ mw_647) (hts _ mw_976) (hts _ mw_977) rfl (by decide +kernel) ⟨Nat.le_of_ble_eq_true rfl, Nat.le_of_ble_eq_true rfl⟩) ⟨pre_blind, fun U hU hW => ⟨rfl, by rw [hU], by rw [hU]; exact hPc, va_K.moved hW.alike hK, hDc.weaken (fun _ _ _ _ => trivial), nws_warm hW C.2.2.2.2.2.2.2.2.2⟩⟩ rfl rfl hl.1 rfl (lv_room (Nat.le_of_ble_eq_true rfl)) dX11_init_35 ⟨Nat.le_of_ble_eq_true rfl, Nat.le_of_ble_eq_true rfl⟩) hS (fun q _ h => hFc q h) hFc (fun qX8 t H1 locs ht hvm hw hB hz1 hk1 hS => ?_)
  obtain ⟨hP1, -, hD1⟩ := hB
  rw [ht] at hP1
  obtain ⟨hP, hD⟩ := va_join (wr := [(h0, .inr (10, [.ref q1, .ref q3, .null, .null, .null, .null, .int 0, .int 0])), (q1, .inr (9, [.ref (qX10 1), .int 0])), ((qX10 1), .inl (cB, 400, .inl (fun _ => 0))), (q3, .inr (8, [.ref q1, .int 0, .int (-1), .int 0]))]) (w1 := [(q4, .inr (7, [.ref (qX8 1), .int 0])), ((qX8 1), .inl (cI, 20, .inl (fun _ => 0)))]) hP hD [4] [0, 1, 2, 3] rfl rfl (by decide) (by decide) hk1 hFc hP1 hD1
  generalize H1 = H at hP hS ⊢
  have hP : va_P D vwCl [(h0, .inr (10, [.ref q1, .ref q3, .null, .null, .null, .null, .int 0, .int 0])), (q1, .inr (9, [.ref (qX10 1), .int 0])), ((qX10 1), .inl (cB, 400, .inl (fun _ => 0))), (q3, .inr (8, [.ref q1, .int 0, .int (-1), .int 0])), (q4, .inr (7, [.ref (qX8 1), .int 0])), ((qX8 1), .inl (cI, 20, .inl (fun _ => 0)))] H := hP
  have hD : va_D A [(h0, .inr (10, [.ref q1, .ref q3, .null, .null, .null, .null, .int 0, .int 0])), (q1, .inr (9, [.ref (qX10 1), .int 0])), ((qX10 1), .inl (cB, 400, .inl (fun _ => 0))), (q3, .inr (8, [.ref q1, .int 0, .int (-1), .int 0])), (q4, .inr (7, [.ref (qX8 1), .int 0])), ((qX8 1), .inl (cI, 20, .inl (fun _ => 0)))] := hD
  refine va_putF (D := D) (ci := 10) (v := .ref q4) (ty := .object "LeastPending$Order") (C := RX11) (T := TX11) (N := 8) hx hb hts iwX11 tyX11 tyX11_ok nmX11 hown hK hP hD hS 0 rfl rfl 2 (by decide) (hts _ mw_799) (fun _ h9 => h9) rfl hin rfl (by decide +kernel) rfl rfl (Nat.le_of_ble_eq_true rfl) dX11_init_38 (fun H locs hP hD hS => ?_)
  have hP : va_P D vwCl [(h0, .inr (10, [.ref q1, .ref q3, .ref q4, .null, .null, .null, .int 0, .int 0])), (q1, .inr (9, [.ref (qX10 1), .int 0])), ((qX10 1), .inl (cB, 400, .inl (fun _ => 0))), (q3, .inr (8, [.ref q1, .int 0, .int (-1), .int 0])), (q4, .inr (7, [.ref (qX8 1), .int 0])), ((qX8 1), .inl (cI, 20, .inl (fun _ => 0)))] H := hP
  have hD : va_D A [(h0, .inr (10, [.ref q1, .ref q3, .ref q4, .null, .null, .null, .int 0, .int 0])), (q1, .inr (9, [.ref (qX10 1), .int 0])), ((qX10 1), .inl (cB, 400, .inl (fun _ => 0))), (q3, .inr (8, [.ref q1, .int 0, .int (-1), .int 0])), (q4, .inr (7, [.ref (qX8 1), .int 0])), ((qX8 1), .inl (cI, 20, .inl (fun _ => 0)))] := hD
  refine lv_aload_n hx hb dX11_init_41 rfl (lv_at hl 0 rfl) ?_
  refine va_new (ci := 6) (fs := [.int 0, .int 0, .int 0, .int 0, .int 0, .int 0, .int 0, .int 0, .int 0, .null, .null, .null, .null, .null, .null, .null, .null, .null, .null]) (C := RX7) (T := TX7) (N := 19) hx hb hts iwX7 tyX7 tyX7_ok hown (hts _ mw_979) (hts _ mw_980) (hts _ mw_341) hK hP hD hS hA rfl (fun j hj => by rcases (show j = 0 ∨ j = 1 ∨ j = 2 ∨ j = 3 ∨ j = 4 ∨ j = 5 ∨ j = 6 ∨ j = 7 ∨ j = 8 ∨ j = 9 ∨ j = 10 ∨ j = 11 ∨ j = 12 ∨ j = 13 ∨ j = 14 ∨ j = 15 ∨ j = 16 ∨ j = 17 ∨ j = 18 by omega) with rfl | rfl | rfl | rfl | rfl | rfl | rfl | rfl | rfl | rfl | rfl | rfl | rfl | rfl | rfl | rfl | rfl | rfl | rfl <;> rfl) (Nat.le_of_ble_eq_true rfl) (Nat.le_of_ble_eq_true rfl) dX11_init_42 (fun q6 H hP hD hS => ?_)
  have hP : va_P D vwCl [(h0, .inr (10, [.ref q1, .ref q3, .ref q4, .null, .null, .null, .int 0, .int 0])), (q1, .inr (9, [.ref (qX10 1), .int 0])), ((qX10 1), .inl (cB, 400, .inl (fun _ => 0))), (q3, .inr (8, [.ref q1, .int 0, .int (-1), .int 0])), (q4, .inr (7, [.ref (qX8 1), .int 0])), ((qX8 1), .inl (cI, 20, .inl (fun _ => 0))), (q6, .inr (6, [.int 0, .int 0, .int 0, .int 0, .int 0, .int 0, .int 0, .int 0, .int 0, .null, .null, .null, .null, .null, .null, .null, .null, .null, .null]))] H := hP
  have hD : va_D A [(h0, .inr (10, [.ref q1, .ref q3, .ref q4, .null, .null, .null, .int 0, .int 0])), (q1, .inr (9, [.ref (qX10 1), .int 0])), ((qX10 1), .inl (cB, 400, .inl (fun _ => 0))), (q3, .inr (8, [.ref q1, .int 0, .int (-1), .int 0])), (q4, .inr (7, [.ref (qX8 1), .int 0])), ((qX8 1), .inl (cI, 20, .inl (fun _ => 0))), (q6, .inr (6, [.int 0, .int 0, .int 0, .int 0, .int 0, .int 0, .int 0, .int 0, .int 0, .null, .null, .null, .null, .null, .null, .null, .null, .null, .null]))] := hD
  refine lv_dup hx hb dX11_init_45 rfl ?_
  have hPc := hP.sub (ws' := (wc_X7 q6 z0)) [6] rfl
  have hDc := hD.sub (ws' := (wc_X7 q6 z0)) [6] (by decide) rfl
  have hFc := va_free (wc := (wc_X7 q6 z0)) hD hS hA [6] rfl
  refine va_callv (va_runI (As := []) (rest := [.ref q6, .ref h0]) ⟨hx, hb, hml, hown, hts⟩ (cc_X7 l D cI cB cL q6 H.size) (cwI 0 hts (gg_c mw_983) rfl rfl rfl (hts _ mw_341) (hts _ mw_981) (hts _ mw_982) rfl (by decide +kernel) ⟨Nat.le_of_ble_eq_true rfl, Nat.le_of_ble_eq_true rfl⟩) ⟨pre_blind, fun U hU hW => ⟨rfl, by rw [hU], by rw [hU]; exact hPc, va_K.moved hW.alike hK, hDc.weaken (fun _ _ _ _ => trivial), nws_warm hW C.2.2.2.2.2.2.2.2.2⟩⟩ rfl rfl hl.1 rfl (lv_room (Nat.le_of_ble_eq_true rfl)) dX11_init_46 ⟨Nat.le_of_ble_eq_true rfl, Nat.le_of_ble_eq_true rfl⟩) hS (fun q _ h => hFc q h) hFc (fun qX7_6 t H1 locs ht hvm hw hB hz1 hk1 hS => ?_)
  obtain ⟨hP1, -, hD1⟩ := hB
  rw [ht] at hP1
  subst hw
  obtain ⟨hP, hD⟩ := va_join (wr := [(h0, .inr (10, [.ref q1, .ref q3, .ref q4, .null, .null, .null, .int 0, .int 0])), (q1, .inr (9, [.ref (qX10 1), .int 0])), ((qX10 1), .inl (cB, 400, .inl (fun _ => 0))), (q3, .inr (8, [.ref q1, .int 0, .int (-1), .int 0])), (q4, .inr (7, [.ref (qX8 1), .int 0])), ((qX8 1), .inl (cI, 20, .inl (fun _ => 0)))]) (w1 := wN cI qX7_6.1 qX7_6.2 384 nInit) hP hD [6] [0, 1, 2, 3, 4, 5] rfl rfl (by decide) (by decide) hk1 hFc hP1 hD1
  generalize H1 = H at hP hS ⊢
  have hP : va_P D vwCl ([(h0, .inr (10, [.ref q1, .ref q3, .ref q4, .null, .null, .null, .int 0, .int 0])), (q1, .inr (9, [.ref (qX10 1), .int 0])), ((qX10 1), .inl (cB, 400, .inl (fun _ => 0))), (q3, .inr (8, [.ref q1, .int 0, .int (-1), .int 0])), (q4, .inr (7, [.ref (qX8 1), .int 0])), ((qX8 1), .inl (cI, 20, .inl (fun _ => 0)))] ++ wN cI qX7_6.1 qX7_6.2 384 nInit) H := hP
  have hD : va_D A ([(h0, .inr (10, [.ref q1, .ref q3, .ref q4, .null, .null, .null, .int 0, .int 0])), (q1, .inr (9, [.ref (qX10 1), .int 0])), ((qX10 1), .inl (cB, 400, .inl (fun _ => 0))), (q3, .inr (8, [.ref q1, .int 0, .int (-1), .int 0])), (q4, .inr (7, [.ref (qX8 1), .int 0])), ((qX8 1), .inl (cI, 20, .inl (fun _ => 0)))] ++ wN cI qX7_6.1 qX7_6.2 384 nInit) := hD
  refine va_put (D := D) (ci := 10) (v := .ref (qX7_6.1 0)) (ty := .object "LeastPending$Net") (C := RX11) (T := TX11) (N := 8) hx hb hts iwX11 tyX11 tyX11_ok nmX11 hown hK hP hD hS 0 rfl rfl 4 (by decide) (hts _ mw_767) (fun _ h9 => h9) rfl (by decide +kernel) rfl rfl (Nat.le_of_ble_eq_true rfl) dX11_init_49 (fun H locs hP hD hS => ?_)
  have hP : va_P D vwCl ([(h0, .inr (10, [.ref q1, .ref q3, .ref q4, .null, .ref (qX7_6.1 0), .null, .int 0, .int 0])), (q1, .inr (9, [.ref (qX10 1), .int 0])), ((qX10 1), .inl (cB, 400, .inl (fun _ => 0))), (q3, .inr (8, [.ref q1, .int 0, .int (-1), .int 0])), (q4, .inr (7, [.ref (qX8 1), .int 0])), ((qX8 1), .inl (cI, 20, .inl (fun _ => 0)))] ++ wN cI qX7_6.1 qX7_6.2 384 nInit) H := hP
  have hD : va_D A ([(h0, .inr (10, [.ref q1, .ref q3, .ref q4, .null, .ref (qX7_6.1 0), .null, .int 0, .int 0])), (q1, .inr (9, [.ref (qX10 1), .int 0])), ((qX10 1), .inl (cB, 400, .inl (fun _ => 0))), (q3, .inr (8, [.ref q1, .int 0, .int (-1), .int 0])), (q4, .inr (7, [.ref (qX8 1), .int 0])), ((qX8 1), .inl (cI, 20, .inl (fun _ => 0)))] ++ wN cI qX7_6.1 qX7_6.2 384 nInit) := hD
  refine lv_aload_n hx hb dX11_init_52 rfl (lv_at hl 0 rfl) ?_
  refine va_new (ci := 6) (fs := [.int 0, .int 0, .int 0, .int 0, .int 0, .int 0, .int 0, .int 0, .int 0, .null, .null, .null, .null, .null, .null, .null, .null, .null, .null]) (C := RX7) (T := TX7) (N := 19) hx hb hts iwX7 tyX7 tyX7_ok hown (hts _ mw_979) (hts _ mw_980) (hts _ mw_341) hK hP hD hS hA rfl (fun j hj => by rcases (show j = 0 ∨ j = 1 ∨ j = 2 ∨ j = 3 ∨ j = 4 ∨ j = 5 ∨ j = 6 ∨ j = 7 ∨ j = 8 ∨ j = 9 ∨ j = 10 ∨ j = 11 ∨ j = 12 ∨ j = 13 ∨ j = 14 ∨ j = 15 ∨ j = 16 ∨ j = 17 ∨ j = 18 by omega) with rfl | rfl | rfl | rfl | rfl | rfl | rfl | rfl | rfl | rfl | rfl | rfl | rfl | rfl | rfl | rfl | rfl | rfl | rfl <;> rfl) (Nat.le_of_ble_eq_true rfl) (Nat.le_of_ble_eq_true rfl) dX11_init_53 (fun q42 H hP hD hS => ?_)
  have hP : va_P D vwCl (([(h0, .inr (10, [.ref q1, .ref q3, .ref q4, .null, .ref (qX7_6.1 0), .null, .int 0, .int 0])), (q1, .inr (9, [.ref (qX10 1), .int 0])), ((qX10 1), .inl (cB, 400, .inl (fun _ => 0))), (q3, .inr (8, [.ref q1, .int 0, .int (-1), .int 0])), (q4, .inr (7, [.ref (qX8 1), .int 0])), ((qX8 1), .inl (cI, 20, .inl (fun _ => 0)))] ++ wN cI qX7_6.1 qX7_6.2 384 nInit) ++ [(q42, .inr (6, [.int 0, .int 0, .int 0, .int 0, .int 0, .int 0, .int 0, .int 0, .int 0, .null, .null, .null, .null, .null, .null, .null, .null, .null, .null]))]) H := hP
  have hD : va_D A (([(h0, .inr (10, [.ref q1, .ref q3, .ref q4, .null, .ref (qX7_6.1 0), .null, .int 0, .int 0])), (q1, .inr (9, [.ref (qX10 1), .int 0])), ((qX10 1), .inl (cB, 400, .inl (fun _ => 0))), (q3, .inr (8, [.ref q1, .int 0, .int (-1), .int 0])), (q4, .inr (7, [.ref (qX8 1), .int 0])), ((qX8 1), .inl (cI, 20, .inl (fun _ => 0)))] ++ wN cI qX7_6.1 qX7_6.2 384 nInit) ++ [(q42, .inr (6, [.int 0, .int 0, .int 0, .int 0, .int 0, .int 0, .int 0, .int 0, .int 0, .null, .null, .null, .null, .null, .null, .null, .null, .null, .null]))]) := hD
  refine lv_dup hx hb dX11_init_56 rfl ?_
  have hPc := hP.sub (ws' := (wc_X7 q42 z0)) [42] rfl
  have hDc := hD.sub (ws' := (wc_X7 q42 z0)) [42] (by decide) rfl
  have hFc := va_free (wc := (wc_X7 q42 z0)) hD hS hA [42] rfl
  refine va_callv (va_runI (As := []) (rest := [.ref q42, .ref h0]) ⟨hx, hb, hml, hown, hts⟩ (cc_X7 l D cI cB cL q42 H.size) (cwI 0 hts (gg_c mw_983) rfl rfl rfl (hts _ mw_341) (hts _ mw_981) (hts _ mw_982) rfl (by decide +kernel) ⟨Nat.le_of_ble_eq_true rfl, Nat.le_of_ble_eq_true rfl⟩) ⟨pre_blind, fun U hU hW => ⟨rfl, by rw [hU], by rw [hU]; exact hPc, va_K.moved hW.alike hK, hDc.weaken (fun _ _ _ _ => trivial), nws_warm hW C.2.2.2.2.2.2.2.2.2⟩⟩ rfl rfl hl.1 rfl (lv_room (Nat.le_of_ble_eq_true rfl)) dX11_init_57 ⟨Nat.le_of_ble_eq_true rfl, Nat.le_of_ble_eq_true rfl⟩) hS (fun q _ h => hFc q h) hFc (fun qX7_42 t H1 locs ht hvm hw hB hz1 hk1 hS => ?_)
  obtain ⟨hP1, -, hD1⟩ := hB
  rw [ht] at hP1
  subst hw
  obtain ⟨hP, hD⟩ := va_join (wr := ([(h0, .inr (10, [.ref q1, .ref q3, .ref q4, .null, .ref (qX7_6.1 0), .null, .int 0, .int 0])), (q1, .inr (9, [.ref (qX10 1), .int 0])), ((qX10 1), .inl (cB, 400, .inl (fun _ => 0))), (q3, .inr (8, [.ref q1, .int 0, .int (-1), .int 0])), (q4, .inr (7, [.ref (qX8 1), .int 0])), ((qX8 1), .inl (cI, 20, .inl (fun _ => 0)))] ++ wN cI qX7_6.1 qX7_6.2 384 nInit)) (w1 := wN cI qX7_42.1 qX7_42.2 384 nInit) hP hD [42] [0, 1, 2, 3, 4, 5, 6, 7, 8, 9, 10, 11, 12, 13, 14, 15, 16, 17, 18, 19, 20, 21, 22, 23, 24, 25, 26, 27, 28, 29, 30, 31, 32, 33, 34, 35, 36, 37, 38, 39, 40, 41] rfl rfl (by decide) (by decide) hk1 hFc hP1 hD1
  generalize H1 = H at hP hS ⊢
  have hP : va_P D vwCl (([(h0, .inr (10, [.ref q1, .ref q3, .ref q4, .null, .ref (qX7_6.1 0), .null, .int 0, .int 0])), (q1, .inr (9, [.ref (qX10 1), .int 0])), ((qX10 1), .inl (cB, 400, .inl (fun _ => 0))), (q3, .inr (8, [.ref q1, .int 0, .int (-1), .int 0])), (q4, .inr (7, [.ref (qX8 1), .int 0])), ((qX8 1), .inl (cI, 20, .inl (fun _ => 0)))] ++ wN cI qX7_6.1 qX7_6.2 384 nInit) ++ wN cI qX7_42.1 qX7_42.2 384 nInit) H := hP
  have hD : va_D A (([(h0, .inr (10, [.ref q1, .ref q3, .ref q4, .null, .ref (qX7_6.1 0), .null, .int 0, .int 0])), (q1, .inr (9, [.ref (qX10 1), .int 0])), ((qX10 1), .inl (cB, 400, .inl (fun _ => 0))), (q3, .inr (8, [.ref q1, .int 0, .int (-1), .int 0])), (q4, .inr (7, [.ref (qX8 1), .int 0])), ((qX8 1), .inl (cI, 20, .inl (fun _ => 0)))] ++ wN cI qX7_6.1 qX7_6.2 384 nInit) ++ wN cI qX7_42.1 qX7_42.2 384 nInit) := hD
  refine va_put (D := D) (ci := 10) (v := .ref (qX7_42.1 0)) (ty := .object "LeastPending$Net") (C := RX11) (T := TX11) (N := 8) hx hb hts iwX11 tyX11 tyX11_ok nmX11 hown hK hP hD hS 0 rfl rfl 5 (by decide) (hts _ mw_892) (fun _ h9 => h9) rfl (by decide +kernel) rfl rfl (Nat.le_of_ble_eq_true rfl) dX11_init_60 (fun H locs hP hD hS => ?_)
  have hP : va_P D vwCl (([(h0, .inr (10, [.ref q1, .ref q3, .ref q4, .null, .ref (qX7_6.1 0), .ref (qX7_42.1 0), .int 0, .int 0])), (q1, .inr (9, [.ref (qX10 1), .int 0])), ((qX10 1), .inl (cB, 400, .inl (fun _ => 0))), (q3, .inr (8, [.ref q1, .int 0, .int (-1), .int 0])), (q4, .inr (7, [.ref (qX8 1), .int 0])), ((qX8 1), .inl (cI, 20, .inl (fun _ => 0)))] ++ wN cI qX7_6.1 qX7_6.2 384 nInit) ++ wN cI qX7_42.1 qX7_42.2 384 nInit) H := hP
  have hD : va_D A (([(h0, .inr (10, [.ref q1, .ref q3, .ref q4, .null, .ref (qX7_6.1 0), .ref (qX7_42.1 0), .int 0, .int 0])), (q1, .inr (9, [.ref (qX10 1), .int 0])), ((qX10 1), .inl (cB, 400, .inl (fun _ => 0))), (q3, .inr (8, [.ref q1, .int 0, .int (-1), .int 0])), (q4, .inr (7, [.ref (qX8 1), .int 0])), ((qX8 1), .inl (cI, 20, .inl (fun _ => 0)))] ++ wN cI qX7_6.1 qX7_6.2 384 nInit) ++ wN cI qX7_42.1 qX7_42.2 384 nInit) := hD
  refine lv_aload_n hx hb dX11_init_63 rfl (lv_at hl 0 rfl) ?_
  refine va_new (ci := 6) (fs := [.int 0, .int 0, .int 0, .int 0, .int 0, .int 0, .int 0, .int 0, .int 0, .null, .null, .null, .null, .null, .null, .null, .null, .null, .null]) (C := RX7) (T := TX7) (N := 19) hx hb hts iwX7 tyX7 tyX7_ok hown (hts _ mw_979) (hts _ mw_980) (hts _ mw_341) hK hP hD hS hA rfl (fun j hj => by rcases (show j = 0 ∨ j = 1 ∨ j = 2 ∨ j = 3 ∨ j = 4 ∨ j = 5 ∨ j = 6 ∨ j = 7 ∨ j = 8 ∨ j = 9 ∨ j = 10 ∨ j = 11 ∨ j = 12 ∨ j = 13 ∨ j = 14 ∨ j = 15 ∨ j = 16 ∨ j = 17 ∨ j = 18 by omega) with rfl | rfl | rfl | rfl | rfl | rfl | rfl | rfl | rfl | rfl | rfl | rfl | rfl | rfl | rfl | rfl | rfl | rfl | rfl <;> rfl) (Nat.le_of_ble_eq_true rfl) (Nat.le_of_ble_eq_true rfl) dX11_init_64 (fun q78 H hP hD hS => ?_)
  have hP : va_P D vwCl ((([(h0, .inr (10, [.ref q1, .ref q3, .ref q4, .null, .ref (qX7_6.1 0), .ref (qX7_42.1 0), .int 0, .int 0])), (q1, .inr (9, [.ref (qX10 1), .int 0])), ((qX10 1), .inl (cB, 400, .inl (fun _ => 0))), (q3, .inr (8, [.ref q1, .int 0, .int (-1), .int 0])), (q4, .inr (7, [.ref (qX8 1), .int 0])), ((qX8 1), .inl (cI, 20, .inl (fun _ => 0)))] ++ wN cI qX7_6.1 qX7_6.2 384 nInit) ++ wN cI qX7_42.1 qX7_42.2 384 nInit) ++ [(q78, .inr (6, [.int 0, .int 0, .int 0, .int 0, .int 0, .int 0, .int 0, .int 0, .int 0, .null, .null, .null, .null, .null, .null, .null, .null, .null, .null]))]) H := hP
  have hD : va_D A ((([(h0, .inr (10, [.ref q1, .ref q3, .ref q4, .null, .ref (qX7_6.1 0), .ref (qX7_42.1 0), .int 0, .int 0])), (q1, .inr (9, [.ref (qX10 1), .int 0])), ((qX10 1), .inl (cB, 400, .inl (fun _ => 0))), (q3, .inr (8, [.ref q1, .int 0, .int (-1), .int 0])), (q4, .inr (7, [.ref (qX8 1), .int 0])), ((qX8 1), .inl (cI, 20, .inl (fun _ => 0)))] ++ wN cI qX7_6.1 qX7_6.2 384 nInit) ++ wN cI qX7_42.1 qX7_42.2 384 nInit) ++ [(q78, .inr (6, [.int 0, .int 0, .int 0, .int 0, .int 0, .int 0, .int 0, .int 0, .int 0, .null, .null, .null, .null, .null, .null, .null, .null, .null, .null]))]) := hD
  refine lv_dup hx hb dX11_init_67 rfl ?_
  have hPc := hP.sub (ws' := (wc_X7 q78 z0)) [78] rfl
  have hDc := hD.sub (ws' := (wc_X7 q78 z0)) [78] (by decide) rfl
  have hFc := va_free (wc := (wc_X7 q78 z0)) hD hS hA [78] rfl
  refine va_callv (va_runI (As := []) (rest := [.ref q78, .ref h0]) ⟨hx, hb, hml, hown, hts⟩ (cc_X7 l D cI cB cL q78 H.size) (cwI 0 hts (gg_c mw_983) rfl rfl rfl (hts _ mw_341) (hts _ mw_981) (hts _ mw_982) rfl (by decide +kernel) ⟨Nat.le_of_ble_eq_true rfl, Nat.le_of_ble_eq_true rfl⟩) ⟨pre_blind, fun U hU hW => ⟨rfl, by rw [hU], by rw [hU]; exact hPc, va_K.moved hW.alike hK, hDc.weaken (fun _ _ _ _ => trivial), nws_warm hW C.2.2.2.2.2.2.2.2.2⟩⟩ rfl rfl hl.1 rfl (lv_room (Nat.le_of_ble_eq_true rfl)) dX11_init_68 ⟨Nat.le_of_ble_eq_true rfl, Nat.le_of_ble_eq_true rfl⟩) hS (fun q _ h => hFc q h) hFc (fun qX7_78 t H1 locs ht hvm hw hB hz1 hk1 hS => ?_)
  obtain ⟨hP1, -, hD1⟩ := hB
  rw [ht] at hP1
  subst hw
  obtain ⟨hP, hD⟩ := va_join (wr := (([(h0, .inr (10, [.ref q1, .ref q3, .ref q4, .null, .ref (qX7_6.1 0), .ref (qX7_42.1 0), .int 0, .int 0])), (q1, .inr (9, [.ref (qX10 1), .int 0])), ((qX10 1), .inl (cB, 400, .inl (fun _ => 0))), (q3, .inr (8, [.ref q1, .int 0, .int (-1), .int 0])), (q4, .inr (7, [.ref (qX8 1), .int 0])), ((qX8 1), .inl (cI, 20, .inl (fun _ => 0)))] ++ wN cI qX7_6.1 qX7_6.2 384 nInit) ++ wN cI qX7_42.1 qX7_42.2 384 nInit)) (w1 := wN cI qX7_78.1 qX7_78.2 384 nInit) hP hD [78] [0, 1, 2, 3, 4, 5, 6, 7, 8, 9, 10, 11, 12, 13, 14, 15, 16, 17, 18, 19, 20, 21, 22, 23, 24, 25, 26, 27, 28, 29, 30, 31, 32, 33, 34, 35, 36, 37, 38, 39, 40, 41, 42, 43, 44, 45, 46, 47, 48, 49, 50, 51, 52, 53, 54, 55, 56, 57, 58, 59, 60, 61, 62, 63, 64, 65, 66, 67, 68, 69, 70, 71, 72, 73, 74, 75, 76, 77] rfl rfl (by decide) (by decide) hk1 hFc hP1 hD1
  generalize H1 = H at hP hS ⊢
  have hP : va_P D vwCl ((([(h0, .inr (10, [.ref q1, .ref q3, .ref q4, .null, .ref (qX7_6.1 0), .ref (qX7_42.1 0), .int 0, .int 0])), (q1, .inr (9, [.ref (qX10 1), .int 0])), ((qX10 1), .inl (cB, 400, .inl (fun _ => 0))), (q3, .inr (8, [.ref q1, .int 0, .int (-1), .int 0])), (q4, .inr (7, [.ref (qX8 1), .int 0])), ((qX8 1), .inl (cI, 20, .inl (fun _ => 0)))] ++ wN cI qX7_6.1 qX7_6.2 384 nInit) ++ wN cI qX7_42.1 qX7_42.2 384 nInit) ++ wN cI qX7_78.1 qX7_78.2 384 nInit) H := hP
  have hD : va_D A ((([(h0, .inr (10, [.ref q1, .ref q3, .ref q4, .null, .ref (qX7_6.1 0), .ref (qX7_42.1 0), .int 0, .int 0])), (q1, .inr (9, [.ref (qX10 1), .int 0])), ((qX10 1), .inl (cB, 400, .inl (fun _ => 0))), (q3, .inr (8, [.ref q1, .int 0, .int (-1), .int 0])), (q4, .inr (7, [.ref (qX8 1), .int 0])), ((qX8 1), .inl (cI, 20, .inl (fun _ => 0)))] ++ wN cI qX7_6.1 qX7_6.2 384 nInit) ++ wN cI qX7_42.1 qX7_42.2 384 nInit) ++ wN cI qX7_78.1 qX7_78.2 384 nInit) := hD
  refine va_putF (D := D) (ci := 10) (v := .ref (qX7_78.1 0)) (ty := .object "LeastPending$Net") (C := RX11) (T := TX11) (N := 8) hx hb hts iwX11 tyX11 tyX11_ok nmX11 hown hK hP hD hS 0 rfl rfl 3 (by decide) (hts _ mw_909) (fun _ h9 => h9) rfl hin rfl (by decide +kernel) rfl rfl (Nat.le_of_ble_eq_true rfl) dX11_init_71 (fun H locs hP hD hS => ?_)
  have hP : va_P D vwCl ((([(h0, .inr (10, [.ref q1, .ref q3, .ref q4, .ref (qX7_78.1 0), .ref (qX7_6.1 0), .ref (qX7_42.1 0), .int 0, .int 0])), (q1, .inr (9, [.ref (qX10 1), .int 0])), ((qX10 1), .inl (cB, 400, .inl (fun _ => 0))), (q3, .inr (8, [.ref q1, .int 0, .int (-1), .int 0])), (q4, .inr (7, [.ref (qX8 1), .int 0])), ((qX8 1), .inl (cI, 20, .inl (fun _ => 0)))] ++ wN cI qX7_6.1 qX7_6.2 384 nInit) ++ wN cI qX7_42.1 qX7_42.2 384 nInit) ++ wN cI qX7_78.1 qX7_78.2 384 nInit) H := hP
  have hD : va_D A ((([(h0, .inr (10, [.ref q1, .ref q3, .ref q4, .ref (qX7_78.1 0), .ref (qX7_6.1 0), .ref (qX7_42.1 0), .int 0, .int 0])), (q1, .inr (9, [.ref (qX10 1), .int 0])), ((qX10 1), .inl (cB, 400, .inl (fun _ => 0))), (q3, .inr (8, [.ref q1, .int 0, .int (-1), .int 0])), (q4, .inr (7, [.ref (qX8 1), .int 0])), ((qX8 1), .inl (cI, 20, .inl (fun _ => 0)))] ++ wN cI qX7_6.1 qX7_6.2 384 nInit) ++ wN cI qX7_42.1 qX7_42.2 384 nInit) ++ wN cI qX7_78.1 qX7_78.2 384 nInit) := hD
  refine lv_aload_n hx hb dX11_init_74 rfl (lv_at hl 0 rfl) ?_
  refine lv_iconst (v := 0) hx hb dX11_init_75 (by decide) ?_
  refine va_put (D := D) (ci := 10) (v := .int 0) (ty := .boolean) (C := RX11) (T := TX11) (N := 8) hx hb hts iwX11 tyX11 tyX11_ok nmX11 hown hK hP hD hS 0 rfl rfl 6 (by decide) (hts _ mw_911) (fun _ h9 => h9) rfl (by decide +kernel) rfl rfl (Nat.le_of_ble_eq_true rfl) dX11_init_76 (fun H locs hP hD hS => ?_)
  have hP : va_P D vwCl ((([(h0, .inr (10, [.ref q1, .ref q3, .ref q4, .ref (qX7_78.1 0), .ref (qX7_6.1 0), .ref (qX7_42.1 0), .int 0, .int 0])), (q1, .inr (9, [.ref (qX10 1), .int 0])), ((qX10 1), .inl (cB, 400, .inl (fun _ => 0))), (q3, .inr (8, [.ref q1, .int 0, .int (-1), .int 0])), (q4, .inr (7, [.ref (qX8 1), .int 0])), ((qX8 1), .inl (cI, 20, .inl (fun _ => 0)))] ++ wN cI qX7_6.1 qX7_6.2 384 nInit) ++ wN cI qX7_42.1 qX7_42.2 384 nInit) ++ wN cI qX7_78.1 qX7_78.2 384 nInit) H := hP
  have hD : va_D A ((([(h0, .inr (10, [.ref q1, .ref q3, .ref q4, .ref (qX7_78.1 0), .ref (qX7_6.1 0), .ref (qX7_42.1 0), .int 0, .int 0])), (q1, .inr (9, [.ref (qX10 1), .int 0])), ((qX10 1), .inl (cB, 400, .inl (fun _ => 0))), (q3, .inr (8, [.ref q1, .int 0, .int (-1), .int 0])), (q4, .inr (7, [.ref (qX8 1), .int 0])), ((qX8 1), .inl (cI, 20, .inl (fun _ => 0)))] ++ wN cI qX7_6.1 qX7_6.2 384 nInit) ++ wN cI qX7_42.1 qX7_42.2 384 nInit) ++ wN cI qX7_78.1 qX7_78.2 384 nInit) := hD
  refine lv_aload_n hx hb dX11_init_79 rfl (lv_at hl 0 rfl) ?_
  refine lv_iconst (v := (-1)) hx hb dX11_init_80 (by decide) ?_
  refine va_put (D := D) (ci := 10) (v := .int (-1)) (ty := .int) (C := RX11) (T := TX11) (N := 8) hx hb hts iwX11 tyX11 tyX11_ok nmX11 hown hK hP hD hS 0 rfl rfl 7 (by decide) (hts _ mw_766) (fun _ h9 => h9) rfl (by decide +kernel) rfl rfl (Nat.le_of_ble_eq_true rfl) dX11_init_81 (fun H locs hP hD hS => ?_)
  have hP : va_P D vwCl ((([(h0, .inr (10, [.ref q1, .ref q3, .ref q4, .ref (qX7_78.1 0), .ref (qX7_6.1 0), .ref (qX7_42.1 0), .int 0, .int (-1)])), (q1, .inr (9, [.ref (qX10 1), .int 0])), ((qX10 1), .inl (cB, 400, .inl (fun _ => 0))), (q3, .inr (8, [.ref q1, .int 0, .int (-1), .int 0])), (q4, .inr (7, [.ref (qX8 1), .int 0])), ((qX8 1), .inl (cI, 20, .inl (fun _ => 0)))] ++ wN cI qX7_6.1 qX7_6.2 384 nInit) ++ wN cI qX7_42.1 qX7_42.2 384 nInit) ++ wN cI qX7_78.1 qX7_78.2 384 nInit) H := hP
  have hD : va_D A ((([(h0, .inr (10, [.ref q1, .ref q3, .ref q4, .ref (qX7_78.1 0), .ref (qX7_6.1 0), .ref (qX7_42.1 0), .int 0, .int (-1)])), (q1, .inr (9, [.ref (qX10 1), .int 0])), ((qX10 1), .inl (cB, 400, .inl (fun _ => 0))), (q3, .inr (8, [.ref q1, .int 0, .int (-1), .int 0])), (q4, .inr (7, [.ref (qX8 1), .int 0])), ((qX8 1), .inl (cI, 20, .inl (fun _ => 0)))] ++ wN cI qX7_6.1 qX7_6.2 384 nInit) ++ wN cI qX7_42.1 qX7_42.2 384 nInit) ++ wN cI qX7_78.1 qX7_78.2 384 nInit) := hD
  have hP9 := hP.sub (ws' := wT cI cB (fun k => if k < 36 then qX7_6.1 k else match k with | 36 => h0 | 37 => q1 | 38 => (qX10 1) | 39 => q3 | 40 => q4 | 41 => (qX8 1) | _ => 0) (qX7_42.1 0) (qX7_78.1 0) qX7_6.2 384 xInit ++ (wN cI qX7_42.1 qX7_42.2 384 nInit ++ wN cI qX7_78.1 qX7_78.2 384 nInit)) [6,7,8,9,10,11,12,13,14,15,16,17,18,19,20,21,22,23,24,25,26,27,28,29,30,31,32,33,34,35,36,37,38,39,40,41,0,1,2,3,4,5,42,43,44,45,46,47,48,49,50,51,52,53,54,55,56,57,58,59,60,61,62,63,64,65,66,67,68,69,70,71,72,73,74,75,76,77,78,79,80,81,82,83,84,85,86,87,88,89,90,91,92,93,94,95,96,97,98,99,100,101,102,103,104,105,106,107,108,109,110,111,112,113] rfl
  have hD9 := hD.sub (ws' := wT cI cB (fun k => if k < 36 then qX7_6.1 k else match k with | 36 => h0 | 37 => q1 | 38 => (qX10 1) | 39 => q3 | 40 => q4 | 41 => (qX8 1) | _ => 0) (qX7_42.1 0) (qX7_78.1 0) qX7_6.2 384 xInit ++ (wN cI qX7_42.1 qX7_42.2 384 nInit ++ wN cI qX7_78.1 qX7_78.2 384 nInit)) [6,7,8,9,10,11,12,13,14,15,16,17,18,19,20,21,22,23,24,25,26,27,28,29,30,31,32,33,34,35,36,37,38,39,40,41,0,1,2,3,4,5,42,43,44,45,46,47,48,49,50,51,52,53,54,55,56,57,58,59,60,61,62,63,64,65,66,67,68,69,70,71,72,73,74,75,76,77,78,79,80,81,82,83,84,85,86,87,88,89,90,91,92,93,94,95,96,97,98,99,100,101,102,103,104,105,106,107,108,109,110,111,112,113] (by decide) rfl
  exact W.vret hx hb C.2.2.2.2.2.1 (fun t ht hW => ⟨⟨((fun k => if k < 36 then qX7_6.1 k else match k with | 36 => h0 | 37 => q1 | 38 => (qX10 1) | 39 => q3 | 40 => q4 | 41 => (qX8 1) | _ => 0), qX7_6.2, qX7_42, qX7_78), rfl, rfl, by show va_P D vwCl _ t.heap; rw [ht]; exact hP9, va_K.moved hW.alike hK, hD9⟩, hS.F ht⟩) hS.2.2 dX11_init_84 C.2.2.2.2.2.2.1
