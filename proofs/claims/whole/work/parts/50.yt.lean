set_option maxRecDepth 20000 in
theorem spl_TT (cI cB : ClassId) (ad : Nat → Nat) (tr kt pa pl : Nat) : splA (fun _ _ => wT cI cB ad tr kt pa pl) (fun _ _ => wT cI cB ad tr kt pa pl) (fun σ => σ) (fun _ ν => ν) [0,1,2,3,4,5,6,7,8,9,10,11,12,13,14,15,16,17,18,19,20,21,22,23,24,25,26,27,28,29,30,31,32,33,34,35,36,37,38,39,40,41] [] [0,1,2,3,4,5,6,7,8,9,10,11,12,13,14,15,16,17,18,19,20,21,22,23,24,25,26,27,28,29,30,31,32,33,34,35,36,37,38,39,40,41] := ⟨fun _ _ _ => rfl, fun _ _ _ _ _ _ => rfl, fun _ _ _ => rfl, rfl, by decide, by decide, by decide, fun _ => rfl⟩
theorem mw_886 : Cond.code yX7_pass cX7_pass 1 (some .int) ∈ gw := gw_t4 207 rfl rfl
theorem mw_887 : Cond.methodLink RX11 246 yX7_pass ∈ gw := gw_t4 204 rfl rfl
theorem mw_888 : Cond.instanceMethod yX7_pass ∈ gw := gw_t4 205 rfl rfl
theorem mw_889 : Cond.selects RX7 yX7_pass yX7_pass ∈ gw := gw_t4 206 rfl rfl
theorem mw_890 : Cond.methodLink RX11 250 yX7_canStart ∈ gw := gw_t5 136 rfl rfl
theorem mw_891 : Cond.methodLink RX11 255 yX7_start ∈ gw := gw_t5 138 rfl rfl
theorem hdX7_pass : yX7_pass.cls = RX7 ∧ yX7_pass.cls ≠ "java/lang/invoke/MethodHandle" ∧ yX7_pass.cls ≠ "java/lang/invoke/VarHandle" ∧ (parseMethodDescriptor yX7_pass.desc).map (fun d => d.parameters.length) = some 0 := by decide +kernel
theorem dX11_ticks_0 : decode cX11_ticks 0 = .ok (.iload_n 1, 1) := by decide +kernel
theorem dX11_ticks_1 : decode cX11_ticks 1 = .ok (.iconst 1, 1) := by decide +kernel
theorem dX11_ticks_2 : decode cX11_ticks 2 = .ok (.if_icmp .lt 9, 3) := by decide +kernel
theorem dX11_ticks_5 : decode cX11_ticks 5 = .ok (.iload_n 1, 1) := by decide +kernel
theorem dX11_ticks_6 : decode cX11_ticks 6 = .ok (.bipush 60, 2) := by decide +kernel
theorem dX11_ticks_8 : decode cX11_ticks 8 = .ok (.if_icmp .le 13, 3) := by decide +kernel
theorem dX11_ticks_11 : decode cX11_ticks 11 = .ok (.new 68, 3) := by decide +kernel
theorem dX11_ticks_14 : decode cX11_ticks 14 = .ok (.dup, 1) := by decide +kernel
theorem dX11_ticks_15 : decode cX11_ticks 15 = .ok (.ldc 244, 2) := by decide +kernel
theorem dX11_ticks_17 : decode cX11_ticks 17 = .ok (.invokespecial 72, 3) := by decide +kernel
theorem dX11_ticks_20 : decode cX11_ticks 20 = .ok (.athrow, 1) := by decide +kernel
theorem dX11_ticks_21 : decode cX11_ticks 21 = .ok (.iconst 0, 1) := by decide +kernel
theorem dX11_ticks_22 : decode cX11_ticks 22 = .ok (.istore_n 2, 1) := by decide +kernel
theorem dX11_ticks_23 : decode cX11_ticks 23 = .ok (.iconst 0, 1) := by decide +kernel
theorem dX11_ticks_24 : decode cX11_ticks 24 = .ok (.istore_n 3, 1) := by decide +kernel
theorem dX11_ticks_25 : decode cX11_ticks 25 = .ok (.iload_n 3, 1) := by decide +kernel
theorem dX11_ticks_26 : decode cX11_ticks 26 = .ok (.iload_n 1, 1) := by decide +kernel
theorem dX11_ticks_27 : decode cX11_ticks 27 = .ok (.if_icmp .ge 19, 3) := by decide +kernel
theorem dX11_ticks_30 : decode cX11_ticks 30 = .ok (.iload_n 2, 1) := by decide +kernel
theorem dX11_ticks_31 : decode cX11_ticks 31 = .ok (.aload_n 0, 1) := by decide +kernel
theorem dX11_ticks_32 : decode cX11_ticks 32 = .ok (.getfield 35, 3) := by decide +kernel
theorem dX11_ticks_35 : decode cX11_ticks 35 = .ok (.invokevirtual 246, 3) := by decide +kernel
theorem dX11_ticks_38 : decode cX11_ticks 38 = .ok (.iadd, 1) := by decide +kernel
theorem dX11_ticks_39 : decode cX11_ticks 39 = .ok (.istore_n 2, 1) := by decide +kernel
theorem dX11_ticks_40 : decode cX11_ticks 40 = .ok (.iinc 3 1, 3) := by decide +kernel
theorem dX11_ticks_43 : decode cX11_ticks 43 = .ok (.goto (-18), 3) := by decide +kernel
theorem dX11_ticks_46 : decode cX11_ticks 46 = .ok (.iload_n 2, 1) := by decide +kernel
theorem dX11_ticks_47 : decode cX11_ticks 47 = .ok (.ireturn, 1) := by decide +kernel
theorem dX11_send_0 : decode cX11_send 0 = .ok (.aload_n 0, 1) := by decide +kernel
theorem dX11_send_1 : decode cX11_send 1 = .ok (.iload_n 1, 1) := by decide +kernel
theorem dX11_send_2 : decode cX11_send 2 = .ok (.invokevirtual 83, 3) := by decide +kernel
theorem dX11_send_5 : decode cX11_send 5 = .ok (.aload_n 0, 1) := by decide +kernel
theorem dX11_send_6 : decode cX11_send 6 = .ok (.iload_n 2, 1) := by decide +kernel
theorem dX11_send_7 : decode cX11_send 7 = .ok (.invokevirtual 124, 3) := by decide +kernel
theorem dX11_send_10 : decode cX11_send 10 = .ok (.aload_n 0, 1) := by decide +kernel
theorem dX11_send_11 : decode cX11_send 11 = .ok (.getfield 35, 3) := by decide +kernel
theorem dX11_send_14 : decode cX11_send 14 = .ok (.iload_n 1, 1) := by decide +kernel
theorem dX11_send_15 : decode cX11_send 15 = .ok (.invokevirtual 250, 3) := by decide +kernel
theorem dX11_send_18 : decode cX11_send 18 = .ok (.ifCond .ne 13, 3) := by decide +kernel
theorem dX11_send_21 : decode cX11_send 21 = .ok (.new 228, 3) := by decide +kernel
theorem dX11_send_24 : decode cX11_send 24 = .ok (.dup, 1) := by decide +kernel
theorem dX11_send_25 : decode cX11_send 25 = .ok (.ldc 253, 2) := by decide +kernel
theorem dX11_send_27 : decode cX11_send 27 = .ok (.invokespecial 232, 3) := by decide +kernel
theorem dX11_send_30 : decode cX11_send 30 = .ok (.athrow, 1) := by decide +kernel
theorem dX11_send_31 : decode cX11_send 31 = .ok (.aload_n 0, 1) := by decide +kernel
theorem dX11_send_32 : decode cX11_send 32 = .ok (.getfield 35, 3) := by decide +kernel
theorem dX11_send_35 : decode cX11_send 35 = .ok (.iload_n 1, 1) := by decide +kernel
theorem dX11_send_36 : decode cX11_send 36 = .ok (.iload_n 2, 1) := by decide +kernel
theorem dX11_send_37 : decode cX11_send 37 = .ok (.invokevirtual 255, 3) := by decide +kernel
theorem dX11_send_40 : decode cX11_send 40 = .ok (.ireturn, 1) := by decide +kernel
section S_50_yt
variable {p : Program} {l : Launch} {e : Env} {R : Room} {s : State} {m : MethodId} {args : Array Value} {below : List Frame} {meth : Method} {c : Code} {A : Nat → Prop} {D : va_G} {cI cB cL : ClassId} {ad : Nat → Nat} {ka kv : Nat → Nat} {fv : Value} {tr kt p0 l0 pa pl : Nat}
noncomputable def fX11_ticks_11 (u : Sg) (pl : Nat) : Option (Xr × Sg × Nat) := some (.inr 3, u, 0)
noncomputable def fX11_ticks_25 : Nat → Int32 → Int32 → Int32 → Sg → Nat → Option (Xr × Sg × Nat)
  | 0, _, _, _, _, _ => none
  | n + 1, x1, x2, x3, u, pl => cnd (x1 ≤ x3) (some (.inl x2, u, 0)) (obt (fX7_pass (sbTN u) pl) (fun r10 u5 d7 => bnd (ubTN u u5) (fun u6 => addY d7 (bnd (x2 + r10) (fun v11 => bnd (x3 + 1) (fun v12 => fX11_ticks_25 n x1 v11 v12 u6 (pl + d7)))))))
noncomputable def fX11_ticks_0 (x1 : Int32) (u : Sg) (pl : Nat) : Option (Xr × Sg × Nat) := cnd (x1 < 1) (fX11_ticks_11 u pl) (cnd (x1 ≤ 60) (fX11_ticks_25 FU x1 0 0 u pl) (fX11_ticks_11 u pl))
noncomputable def fX11_ticks (x1 : Int32) (u : Sg) (pl : Nat) : Option (Xr × Sg × Nat) := fX11_ticks_0 x1 u pl
set_option maxRecDepth 10000 in
set_option maxHeartbeats 4000000 in
theorem wX11_ticks_11 (C : cx D (tyl cI cB cL) A RX11 cX11_ticks 4 (some .int) p s m args c meth) (Kx : kx ka kv fv A s s.heap) (Xc : ∀ x ∈ c.exceptionTable.toList, False) (hfl : l.stackTraces = false) (hR : 8 ≤ R.frames ∧ 200 ≤ R.locals) {z : Xr × Sg} {dt pf : Nat} (hC : R.cells = 1 + dt ∧ R.slots = 6 * 1 + 2 * dt) (u : Sg) {pl pa a dz : Nat} {H : Heap} {locs : List Loc} {ls : Array Slot} (hl : lv_has ls 4 []) (S : st D (wT cI cB ad tr kt pa pl) A s u H locs) (ha : dt = a + dz) (hpf : pf = pl + dz) (h : fX11_ticks_11 u pl = some (z.1, z.2, dz)) : W p l e R s m args below meth c H locs (0 + a) (6 * 0 + 2 * a) (vx_MQ below (qYI D (tyl cI cB cL) (wT cI cB ad tr kt) pf A z) (xY D (tyl cI cB cL) (wT cI cB ad tr kt) pf A z) args s (1 + dt) (6 * 1 + 2 * dt) A) (F0 m 11 ls []) := by
  have hx := C.1
  have hb := C.2.1
  have hsz := hl.1
  unfold fX11_ticks_11 at h
  exact y_throw (K := 0) (k := 1) C Kx Xc hfl S 3 (by decide +kernel) xat_3 xag_3 xao_3 xcl_3 xin_3 (kst_21 Kx) hsz dX11_ticks_11 dX11_ticks_14 dX11_ticks_15 dX11_ticks_17 dX11_ticks_20 ⟨Nat.le_trans (Nat.le_of_ble_eq_true rfl) hR.1, Nat.le_trans (Nat.le_of_ble_eq_true rfl) hR.2⟩ (Nat.le_of_ble_eq_true rfl) hC (Nat.le_of_ble_eq_true rfl) h ha hpf
set_option maxRecDepth 10000 in
set_option maxHeartbeats 4000000 in
theorem wX11_ticks_25 (C : cx D (tyl cI cB cL) A RX11 cX11_ticks 4 (some .int) p s m args c meth) (Kx : kx ka kv fv A s s.heap) (Xc : ∀ x ∈ c.exceptionTable.toList, False) (hfl : l.stackTraces = false) (hR : 8 ≤ R.frames ∧ 200 ≤ R.locals) {z : Xr × Sg} {dt pf : Nat} (hC : R.cells = 1 + dt ∧ R.slots = 6 * 1 + 2 * dt) : ∀ (n : Nat) (x1 : Int32) (x2 : Int32) (x3 : Int32) (u : Sg) (pl pa a dz : Nat) (H : Heap) (locs : List Loc) (ls : Array Slot), lv_has ls 4 [(0, .ref (ad 36)), (1, .int x1), (2, .int x2), (3, .int x3)] → st D (wT cI cB ad tr kt pa pl) A s u H locs → dt = a + dz → pf = pl + dz → fX11_ticks_25 n x1 x2 x3 u pl = some (z.1, z.2, dz) → W p l e R s m args below meth c H locs (0 + a) (6 * 0 + 2 * a) (vx_MQ below (qYI D (tyl cI cB cL) (wT cI cB ad tr kt) pf A z) (xY D (tyl cI cB cL) (wT cI cB ad tr kt) pf A z) args s (1 + dt) (6 * 1 + 2 * dt) A) (F0 m 25 ls []) := by
  have hx := C.1
  have hb := C.2.1
  intro n
  induction n with
  | zero =>
    intro x1 x2 x3 u pl pa a dz H locs ls hl S ha hpf h
    cases h
  | succ n ih =>
    intro x1 x2 x3 u pl pa a dz H locs ls hl S ha hpf h
    rw [fX11_ticks_25] at h
    have hsz := hl.1
    refine lv_iload_n hx hb dX11_ticks_25 rfl (lv_at hl 3 rfl) ?_
    refine lv_iload_n hx hb dX11_ticks_26 rfl (lv_at hl 1 rfl) ?_
    refine lv_icmp_ge (tgt := 46) hx hb dX11_ticks_27 (by decide) (fun c3 => ?_) (fun c3 => ?_)
    · have h := cnd_t c3 h
      refine lv_iload_n hx hb dX11_ticks_46 rfl (lv_at hl 2 rfl) ?_
      exact y_iret C S h ha hpf (K := 0) (k := 1) (Nat.le_of_ble_eq_true rfl) dX11_ticks_47
    · have h := cnd_f c3 h
      refine lv_iload_n hx hb dX11_ticks_30 rfl (lv_at hl 2 rfl) ?_
      refine lv_aload_n hx hb dX11_ticks_31 rfl (lv_at hl 0 rfl) ?_
      refine q_get (v := .ref (ad 0)) C S (oT36 cI cB ad tr kt pa pl) rfl iwX11 4 (by decide) mw_767 rfl dX11_ticks_32 ?_
      obtain ⟨r10, u5, d7, h4, h⟩ := obt_some h
      obtain ⟨u6, eu6⟩ : ∃ z : Sg, z = ubTN u u5 := ⟨_, rfl⟩
      have h := bnd_of eu6 h
      obtain ⟨dz8, h, edz8⟩ := addY_some h
      have ha9 : dt = (a + d7) + dz8 := by omega
      have hpf9 : pf = (pl + d7) + dz8 := by omega
      refine s_callViA (spl_TN cI cB ad tr kt) (As := []) (na := 0) C S (oN0 cI (adTN ad) pa pl) rfl (ct_X7_pass l D cI cB cL (adTN ad) (sbTN u) pl h4) mw_887 mw_888 mw_889 mw_341 mw_886 hdX7_pass ⟨Nat.le_trans (Nat.le_of_ble_eq_true rfl) hR.1, Nat.le_trans (Nat.le_of_ble_eq_true rfl) hR.2⟩ rfl hsz (by have hq := capY (K := 0) hC ha9 (Nat.le_of_ble_eq_true rfl); exact ⟨by omega, by omega⟩) (Nat.le_of_ble_eq_true rfl) dX11_ticks_35 rfl (fun pa9 H locs S => ?_)
      rw [← eu6] at S
      refine W.widen (k := 0 + (a + d7)) (n := 6 * 0 + 2 * (a + d7)) (by omega) (by omega) ?_
      refine lv_iadd hx hb dX11_ticks_38 ?_
      refine lv_topi (fun v11 ev11 => ?_)
      have h := bnd_of ev11 h
      refine lv_istore_n (lv' := [(2, .int v11), (0, .ref (ad 36)), (1, .int x1), (3, .int x3)]) hx hb dX11_ticks_39 rfl hl (by decide) rfl (fun ls hl => ?_)
      have hsz := hl.1
      obtain ⟨v12, ev12⟩ : ∃ y : Int32, y = x3 + 1 := ⟨_, rfl⟩
      have h := bnd_of ev12 h
      refine lv_iinc (v := v12) (lv' := [(3, .int v12), (2, .int v11), (0, .ref (ad 36)), (1, .int x1)]) hx hb dX11_ticks_40 hl (k := 3) rfl (by rw [ev12]; rfl) (by decide) rfl (fun ls hl => ?_)
      have hsz := hl.1
      refine lv_goto (tgt := 25) hx hb dX11_ticks_43 (by decide) ?_
      exact ih x1 v11 v12 u6 (pl + d7) pa9 (a + d7) dz8 H locs ls (lv_sub hl [2, 3, 1, 0] rfl) S ha9 hpf9 h
set_option maxRecDepth 10000 in
set_option maxHeartbeats 4000000 in
theorem wX11_ticks_0 (C : cx D (tyl cI cB cL) A RX11 cX11_ticks 4 (some .int) p s m args c meth) (Kx : kx ka kv fv A s s.heap) (Xc : ∀ x ∈ c.exceptionTable.toList, False) (hfl : l.stackTraces = false) (hR : 8 ≤ R.frames ∧ 200 ≤ R.locals) {z : Xr × Sg} {dt pf : Nat} (hC : R.cells = 1 + dt ∧ R.slots = 6 * 1 + 2 * dt) (u : Sg) (x1 : Int32) {pl pa a dz : Nat} {H : Heap} {locs : List Loc} {ls : Array Slot} (hl : lv_has ls 4 [(0, .ref (ad 36)), (1, .int x1)]) (S : st D (wT cI cB ad tr kt pa pl) A s u H locs) (ha : dt = a + dz) (hpf : pf = pl + dz) (h : fX11_ticks_0 x1 u pl = some (z.1, z.2, dz)) : W p l e R s m args below meth c H locs (0 + a) (6 * 0 + 2 * a) (vx_MQ below (qYI D (tyl cI cB cL) (wT cI cB ad tr kt) pf A z) (xY D (tyl cI cB cL) (wT cI cB ad tr kt) pf A z) args s (1 + dt) (6 * 1 + 2 * dt) A) (F0 m 0 ls []) := by
  have hx := C.1
  have hb := C.2.1
  have hsz := hl.1
  unfold fX11_ticks_0 at h
  refine lv_iload_n hx hb dX11_ticks_0 rfl (lv_at hl 1 rfl) ?_
  refine lv_iconst (v := 1) hx hb dX11_ticks_1 (by decide) ?_
  refine lv_icmp_lt (tgt := 11) hx hb dX11_ticks_2 (by decide) (fun c1 => ?_) (fun c1 => ?_)
  · have h := cnd_t c1 h
    exact wX11_ticks_11 C Kx Xc hfl hR hC u (lv_sub hl [] rfl) S ha hpf h
  · have h := cnd_f c1 h
    refine lv_iload_n hx hb dX11_ticks_5 rfl (lv_at hl 1 rfl) ?_
    refine lv_bipush (v := 60) hx hb dX11_ticks_6 (by decide) ?_
    refine lv_icmp_le (tgt := 21) hx hb dX11_ticks_8 (by decide) (fun c2 => ?_) (fun c2 => ?_)
    · have h := cnd_t c2 h
      refine lv_iconst (v := 0) hx hb dX11_ticks_21 (by decide) ?_
      refine lv_istore_n (lv' := [(2, .int 0), (0, .ref (ad 36)), (1, .int x1)]) hx hb dX11_ticks_22 rfl hl (by decide) rfl (fun ls hl => ?_)
      have hsz := hl.1
      refine lv_iconst (v := 0) hx hb dX11_ticks_23 (by decide) ?_
      refine lv_istore_n (lv' := [(3, .int 0), (2, .int 0), (0, .ref (ad 36)), (1, .int x1)]) hx hb dX11_ticks_24 rfl hl (by decide) rfl (fun ls hl => ?_)
      have hsz := hl.1
      exact wX11_ticks_25 C Kx Xc hfl hR hC FU x1 0 0 u pl pa a dz H locs ls (lv_sub hl [2, 3, 1, 0] rfl) S ha hpf h
    · have h := cnd_f c2 h
      exact wX11_ticks_11 C Kx Xc hfl hR hC u (lv_sub hl [] rfl) S ha hpf h
set_option maxRecDepth 10000 in
set_option maxHeartbeats 4000000 in
theorem ct_X11_ticks (l : Launch) (hfl : l.stackTraces = false) (D : va_G) (cI cB cL : ClassId) (ka kv : Nat → Nat) (fv : Value) (ad : Nat → Nat) (tr kt : Nat) (x1 : Int32) (u : Sg) (pl : Nat) {z : Xr × Sg} {dz : Nat} (h : fX11_ticks x1 u pl = some (z.1, z.2, dz)) : metYI l D (tyl cI cB cL) ka kv fv yX11_ticks cX11_ticks 4 (some .int) 8 200 1 (wT cI cB ad tr kt) [.ref (ad 36), .int x1] u pl z dz := by
  intro pa sz
  refine vx_ofW (cc := cX11_ticks) (maxL := 4) (ret := (some .int)) (by decide) rfl ?_
  intro p e s m args below meth c s₁ B hml Xc hv
  obtain ⟨rfl, C, S, Kx⟩ := q_entryK B hml hv
  have hl := lv_entry ([.ref (ad 36), .int x1]) (n := 4) (Nat.le_of_ble_eq_true rfl)
  rw [lg_entry_eq]
  generalize (lg_sl ([.ref (ad 36), .int x1]) ++ List.replicate (4 - (lg_sl ([.ref (ad 36), .int x1])).length) Slot.unset).toArray = ls at hl ⊢
  exact wX11_ticks_0 C Kx Xc hfl ⟨Nat.le_refl _, Nat.le_refl _⟩ ⟨rfl, rfl⟩ u x1 (a := 0) (lv_sub hl [0, 1] rfl) S (Nat.zero_add _).symm rfl h
noncomputable def fX11_send_0 (x1 : Int32) (x2 : Int32) (u : Sg) (pl : Nat) : Option (Xr × Sg × Nat) := obxY (fX11_needNode x1 u) (fun v => v) (fun u4 => obxY (fX11_needGroup x2 u4) (fun v => v) (fun u9 => obr (fX7_canStart x1 (sbTN u9)) (fun r12 => cnd (r12 = 0) (some (.inr 2, u9, 0)) (obt (fX7_start x1 x2 (sbTN u9) pl) (fun r20 u15 d17 => bnd (ubTN u9 u15) (fun u16 => addY d17 (some (.inl r20, u16, 0))))))))
noncomputable def fX11_send (x1 : Int32) (x2 : Int32) (u : Sg) (pl : Nat) : Option (Xr × Sg × Nat) := fX11_send_0 x1 x2 u pl
set_option maxRecDepth 10000 in
set_option maxHeartbeats 4000000 in
theorem wX11_send_0 (C : cx D (tyl cI cB cL) A RX11 cX11_send 3 (some .int) p s m args c meth) (Kx : kx ka kv fv A s s.heap) (Xc : ∀ x ∈ c.exceptionTable.toList, False) (hfl : l.stackTraces = false) (hR : 7 ≤ R.frames ∧ 151 ≤ R.locals) {z : Xr × Sg} {dt pf : Nat} (hC : R.cells = 3 + dt ∧ R.slots = 6 * 3 + 2 * dt) (u : Sg) (x1 : Int32) (x2 : Int32) {pl pa a dz : Nat} {H : Heap} {locs : List Loc} {ls : Array Slot} (hl : lv_has ls 3 [(0, .ref (ad 36)), (1, .int x1), (2, .int x2)]) (S : st D (wT cI cB ad tr kt pa pl) A s u H locs) (ha : dt = a + dz) (hpf : pf = pl + dz) (h : fX11_send_0 x1 x2 u pl = some (z.1, z.2, dz)) : W p l e R s m args below meth c H locs (0 + a) (6 * 0 + 2 * a) (vx_MQ below (qYI D (tyl cI cB cL) (wT cI cB ad tr kt) pf A z) (xY D (tyl cI cB cL) (wT cI cB ad tr kt) pf A z) args s (3 + dt) (6 * 3 + 2 * dt) A) (F0 m 0 ls []) := by
  have hx := C.1
  have hb := C.2.1
  have hsz := hl.1
  unfold fX11_send_0 at h
  refine lv_aload_n hx hb dX11_send_0 rfl (lv_at hl 0 rfl) ?_
  refine lv_iload_n hx hb dX11_send_1 rfl (lv_at hl 1 rfl) ?_
  obtain ⟨z2, k5, ek5, h3, h1⟩ := obxY_some h
  refine y_callVv (wf := (wT cI cB ad tr kt)) (pa := pa) (pl := pl) (p0 := 0) (l0 := 0) (K := 0) (k := 3) (spl_TT cI cB ad tr kt pa pl) (As := [.int x1]) (na := 1) C Kx Xc S rfl (oT36 cI cB ad tr kt pa pl) rfl (ct_X11_needNode l hfl D cI cB cL ka kv fv ad tr kt pa pl x1 u h3) h1 mw_778 mw_779 mw_780 mw_321 mw_777 hdX11_needNode ⟨Nat.le_trans (Nat.le_of_ble_eq_true rfl) hR.1, Nat.le_trans (Nat.le_of_ble_eq_true rfl) hR.2⟩ rfl hsz hC ha hpf (Nat.le_of_ble_eq_true rfl) (Nat.le_of_ble_eq_true rfl) dX11_send_2 rfl (fun u4 H locs h S => ?_)
  have h := app_of ek5 h
  refine W.widen (k := 1 + a) (n := 6 * 1 + 2 * a) (Nat.le_refl _) (Nat.le_refl _) ?_
  refine lv_aload_n hx hb dX11_send_5 rfl (lv_at hl 0 rfl) ?_
  refine lv_iload_n hx hb dX11_send_6 rfl (lv_at hl 2 rfl) ?_
  obtain ⟨z7, k10, ek10, h8, h6⟩ := obxY_some h
  refine y_callVv (wf := (wT cI cB ad tr kt)) (pa := pa) (pl := pl) (p0 := 0) (l0 := 0) (K := 1) (k := 3) (spl_TT cI cB ad tr kt pa pl) (As := [.int x2]) (na := 1) C Kx Xc S rfl (oT36 cI cB ad tr kt pa pl) rfl (ct_X11_needGroup l hfl D cI cB cL ka kv fv ad tr kt pa pl x2 u4 h8) h6 mw_771 mw_772 mw_773 mw_321 mw_770 hdX11_needGroup ⟨Nat.le_trans (Nat.le_of_ble_eq_true rfl) hR.1, Nat.le_trans (Nat.le_of_ble_eq_true rfl) hR.2⟩ rfl hsz hC ha hpf (Nat.le_of_ble_eq_true rfl) (Nat.le_of_ble_eq_true rfl) dX11_send_7 rfl (fun u9 H locs h S => ?_)
  have h := app_of ek10 h
  refine W.widen (k := 2 + a) (n := 6 * 2 + 2 * a) (Nat.le_refl _) (Nat.le_refl _) ?_
  refine lv_aload_n hx hb dX11_send_10 rfl (lv_at hl 0 rfl) ?_
  refine q_get (v := .ref (ad 0)) C S (oT36 cI cB ad tr kt pa pl) rfl iwX11 4 (by decide) mw_767 rfl dX11_send_11 ?_
  refine lv_iload_n hx hb dX11_send_14 rfl (lv_at hl 1 rfl) ?_
  obtain ⟨r12, h11, h⟩ := obr_some h
  refine s_callViR (spl_TN cI cB ad tr kt) (As := [.int x1]) (na := 1) C S (oN0 cI (adTN ad) pa pl) rfl (ct_X7_canStart l D cI cB cL (adTN ad) pa pl x1 (sbTN u9) h11) mw_890 mw_585 mw_587 mw_341 mw_584 hdX7_canStart ⟨Nat.le_trans (Nat.le_of_ble_eq_true rfl) hR.1, Nat.le_trans (Nat.le_of_ble_eq_true rfl) hR.2⟩ rfl hsz (capY (K := 2) hC ha (Nat.le_of_ble_eq_true rfl)) (Nat.le_of_ble_eq_true rfl) dX11_send_15 rfl (fun H locs S => ?_)
  refine lv_if_ne (tgt := 31) hx hb dX11_send_18 (by decide) (fun c13 => ?_) (fun c13 => ?_)
  · have h := cnd_f c13 h
    refine lv_aload_n hx hb dX11_send_31 rfl (lv_at hl 0 rfl) ?_
    refine q_get (v := .ref (ad 0)) C S (oT36 cI cB ad tr kt pa pl) rfl iwX11 4 (by decide) mw_767 rfl dX11_send_32 ?_
    refine lv_iload_n hx hb dX11_send_35 rfl (lv_at hl 1 rfl) ?_
    refine lv_iload_n hx hb dX11_send_36 rfl (lv_at hl 2 rfl) ?_
    obtain ⟨r20, u15, d17, h14, h⟩ := obt_some h
    obtain ⟨u16, eu16⟩ : ∃ z : Sg, z = ubTN u9 u15 := ⟨_, rfl⟩
    have h := bnd_of eu16 h
    obtain ⟨dz18, h, edz18⟩ := addY_some h
    have ha19 : dt = (a + d17) + dz18 := by omega
    have hpf19 : pf = (pl + d17) + dz18 := by omega
    refine s_callViA (spl_TN cI cB ad tr kt) (As := [.int x1, .int x2]) (na := 2) C S (oN0 cI (adTN ad) pa pl) rfl (ct_X7_start l D cI cB cL (adTN ad) x1 x2 (sbTN u9) pl h14) mw_891 mw_590 mw_592 mw_341 mw_589 hdX7_start ⟨Nat.le_trans (Nat.le_of_ble_eq_true rfl) hR.1, Nat.le_trans (Nat.le_of_ble_eq_true rfl) hR.2⟩ rfl hsz (by have hq := capY (K := 2) hC ha19 (Nat.le_of_ble_eq_true rfl); exact ⟨by omega, by omega⟩) (Nat.le_of_ble_eq_true rfl) dX11_send_37 rfl (fun pa19 H locs S => ?_)
    rw [← eu16] at S
    refine W.widen (k := 2 + (a + d17)) (n := 6 * 2 + 2 * (a + d17)) (by omega) (by omega) ?_
    exact y_iret C S h ha19 hpf19 (K := 2) (k := 3) (Nat.le_of_ble_eq_true rfl) dX11_send_40
  · have h := cnd_t c13 h
    exact y_throw (K := 2) (k := 3) C Kx Xc hfl S 2 (by decide +kernel) xat_2 xag_2 xao_2 xcl_2 xin_2 (kst_22 Kx) hsz dX11_send_21 dX11_send_24 dX11_send_25 dX11_send_27 dX11_send_30 ⟨Nat.le_trans (Nat.le_of_ble_eq_true rfl) hR.1, Nat.le_trans (Nat.le_of_ble_eq_true rfl) hR.2⟩ (Nat.le_of_ble_eq_true rfl) hC (Nat.le_of_ble_eq_true rfl) h ha hpf
set_option maxRecDepth 10000 in
set_option maxHeartbeats 4000000 in
theorem ct_X11_send (l : Launch) (hfl : l.stackTraces = false) (D : va_G) (cI cB cL : ClassId) (ka kv : Nat → Nat) (fv : Value) (ad : Nat → Nat) (tr kt : Nat) (x1 : Int32) (x2 : Int32) (u : Sg) (pl : Nat) {z : Xr × Sg} {dz : Nat} (h : fX11_send x1 x2 u pl = some (z.1, z.2, dz)) : metYI l D (tyl cI cB cL) ka kv fv yX11_send cX11_send 3 (some .int) 7 151 3 (wT cI cB ad tr kt) [.ref (ad 36), .int x1, .int x2] u pl z dz := by
  intro pa sz
  refine vx_ofW (cc := cX11_send) (maxL := 3) (ret := (some .int)) (by decide) rfl ?_
  intro p e s m args below meth c s₁ B hml Xc hv
  obtain ⟨rfl, C, S, Kx⟩ := q_entryK B hml hv
  have hl := lv_entry ([.ref (ad 36), .int x1, .int x2]) (n := 3) (Nat.le_of_ble_eq_true rfl)
  rw [lg_entry_eq]
  generalize (lg_sl ([.ref (ad 36), .int x1, .int x2]) ++ List.replicate (3 - (lg_sl ([.ref (ad 36), .int x1, .int x2])).length) Slot.unset).toArray = ls at hl ⊢
  exact wX11_send_0 C Kx Xc hfl ⟨Nat.le_refl _, Nat.le_refl _⟩ ⟨rfl, rfl⟩ u x1 x2 (a := 0) (lv_sub hl [0, 1, 2] rfl) S (Nat.zero_add _).symm rfl h
end S_50_yt
