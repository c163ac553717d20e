theorem dX11_back_0 : decode cX11_back 0 = .ok (.aload_n 0, 1) := by decide +kernel
theorem dX11_back_1 : decode cX11_back 1 = .ok (.getfield 45, 3) := by decide +kernel
theorem dX11_back_4 : decode cX11_back 4 = .ok (.ifCond .eq 14, 3) := by decide +kernel
theorem dX11_back_7 : decode cX11_back 7 = .ok (.aload_n 0, 1) := by decide +kernel
theorem dX11_back_8 : decode cX11_back 8 = .ok (.getfield 35, 3) := by decide +kernel
theorem dX11_back_11 : decode cX11_back 11 = .ok (.aload_n 0, 1) := by decide +kernel
theorem dX11_back_12 : decode cX11_back 12 = .ok (.getfield 42, 3) := by decide +kernel
theorem dX11_back_15 : decode cX11_back 15 = .ok (.invokevirtual 60, 3) := by decide +kernel
theorem dX11_back_18 : decode cX11_back 18 = .ok (.aload_n 0, 1) := by decide +kernel
theorem dX11_back_19 : decode cX11_back 19 = .ok (.getfield 45, 3) := by decide +kernel
theorem dX11_back_22 : decode cX11_back 22 = .ok (.ireturn, 1) := by decide +kernel
section S_53a_yz
variable {p : Program} {l : Launch} {e : Env} {R : Room} {s : State} {m : MethodId} {args : Array Value} {below : List Frame} {meth : Method} {c : Code} {A : Nat → Prop} {D : va_G} {cI cB cL : ClassId} {ad : Nat → Nat} {ka kv : Nat → Nat} {fv : Value} {tr kt p0 l0 pa pl : Nat}
noncomputable def fX11_back_0 (l0 : Nat) (u : Sg) (pl : Nat) : Option (Xr × Sg × Nat) := cnd ((u 72 6) = 0) (grd (isB (u 72 6)) (some (.inl (u 72 6), u, 0))) (obd (fX7_copyFrom l0 (sbZN u) pl) (fun u4 d6 => bnd (ubZN u u4) (fun u5 => addY d6 (grd (isB (u5 72 6)) (some (.inl (u5 72 6), u5, 0))))))
noncomputable def fX11_back (l0 : Nat) (u : Sg) (pl : Nat) : Option (Xr × Sg × Nat) := fX11_back_0 l0 u pl
set_option maxRecDepth 10000 in
set_option maxHeartbeats 4000000 in
theorem wX11_back_0 (C : cx D (tyl cI cB cL) A RX11 cX11_back 1 (some .boolean) p s m args c meth) (Kx : kx ka kv fv A s s.heap) (Xc : ∀ x ∈ c.exceptionTable.toList, False) (hfl : l.stackTraces = false) (hR : 4 ≤ R.frames ∧ 89 ≤ R.locals) {z : Xr × Sg} {dt pf : Nat} (hC : R.cells = 0 + dt ∧ R.slots = 6 * 0 + 2 * dt) (u : Sg) {pl pa a dz : Nat} {H : Heap} {locs : List Loc} {ls : Array Slot} (hl : lv_has ls 1 [(0, .ref (ad 72))]) (S : st D (wZ cI cB ad tr p0 l0 pa pl) A s u H locs) (ha : dt = a + dz) (hpf : pf = pl + dz) (h : fX11_back_0 l0 u pl = some (z.1, z.2, dz)) : W p l e R s m args below meth c H locs (0 + a) (6 * 0 + 2 * a) (vx_MQ below (qYI D (tyl cI cB cL) (wZ cI cB ad tr p0 l0) pf A z) (xY D (tyl cI cB cL) (wZ cI cB ad tr p0 l0) pf A z) args s (0 + dt) (6 * 0 + 2 * dt) A) (F0 m 0 ls []) := by
  have hx := C.1
  have hb := C.2.1
  have hsz := hl.1
  unfold fX11_back_0 at h
  refine lv_aload_n hx hb dX11_back_0 rfl (lv_at hl 0 rfl) ?_
  refine q_get (v := .int (u 72 6)) C S (oZ72 cI cB ad tr p0 l0 pa pl) rfl iwX11 6 (by decide) mw_911 rfl dX11_back_1 ?_
  refine lv_if_eq (tgt := 18) hx hb dX11_back_4 (by decide) (fun c1 => ?_) (fun c1 => ?_)
  · have h := cnd_t c1 h
    refine lv_aload_n hx hb dX11_back_18 rfl (lv_at hl 0 rfl) ?_
    refine q_get (v := .int (u 72 6)) C S (oZ72 cI cB ad tr p0 l0 pa pl) rfl iwX11 6 (by decide) mw_911 rfl dX11_back_19 ?_
    obtain ⟨g2, h⟩ := grd_some h
    exact y_zret C S (isB_n g2) h ha hpf (K := 0) (k := 0) (Nat.le_of_ble_eq_true rfl) dX11_back_22
  · have h := cnd_f c1 h
    refine lv_aload_n hx hb dX11_back_7 rfl (lv_at hl 0 rfl) ?_
    refine q_get (v := .ref (ad 0)) C S (oZ72 cI cB ad tr p0 l0 pa pl) rfl iwX11 4 (by decide) mw_767 rfl dX11_back_8 ?_
    refine lv_aload_n hx hb dX11_back_11 rfl (lv_at hl 0 rfl) ?_
    refine q_get (v := .ref (ad 36)) C S (oZ72 cI cB ad tr p0 l0 pa pl) rfl iwX11 3 (by decide) mw_909 rfl dX11_back_12 ?_
    obtain ⟨u4, d6, h3, h⟩ := obd_some h
    obtain ⟨u5, eu5⟩ : ∃ z : Sg, z = ubZN u u4 := ⟨_, rfl⟩
    have h := bnd_of eu5 h
    obtain ⟨dz7, h, edz7⟩ := addY_some h
    have ha8 : dt = (a + d6) + dz7 := by omega
    have hpf8 : pf = (pl + d6) + dz7 := by omega
    refine s_callVvA (spl_ZN cI cB ad tr p0 l0) (As := [.ref (adZN ad 36)]) (na := 1) C S (o20 cI (adZN ad) p0 l0 pa pl) rfl (ct_X7_copyFrom l D cI cB cL (adZN ad) p0 l0 (sbZN u) pl h3) mw_910 mw_634 mw_636 mw_341 mw_633 hdX7_copyFrom ⟨Nat.le_trans (Nat.le_of_ble_eq_true rfl) hR.1, Nat.le_trans (Nat.le_of_ble_eq_true rfl) hR.2⟩ rfl hsz (by have hq := capY (K := 0) hC ha8 (Nat.le_of_ble_eq_true rfl); exact ⟨by omega, by omega⟩) (Nat.le_of_ble_eq_true rfl) dX11_back_15 rfl (fun pa8 H locs S => ?_)
    rw [← eu5] at S
    refine W.widen (k := 0 + (a + d6)) (n := 6 * 0 + 2 * (a + d6)) (by omega) (by omega) ?_
    refine lv_aload_n hx hb dX11_back_18 rfl (lv_at hl 0 rfl) ?_
    refine q_get (v := .int (u5 72 6)) C S (oZ72 cI cB ad tr p0 l0 pa8 (pl + d6)) rfl iwX11 6 (by decide) mw_911 rfl dX11_back_19 ?_
    obtain ⟨g9, h⟩ := grd_some h
    exact y_zret C S (isB_n g9) h ha8 hpf8 (K := 0) (k := 0) (Nat.le_of_ble_eq_true rfl) dX11_back_22
set_option maxRecDepth 10000 in
set_option maxHeartbeats 4000000 in
theorem ct_X11_back (l : Launch) (hfl : l.stackTraces = false) (D : va_G) (cI cB cL : ClassId) (ka kv : Nat → Nat) (fv : Value) (ad : Nat → Nat) (tr p0 l0 : Nat) (u : Sg) (pl : Nat) {z : Xr × Sg} {dz : Nat} (h : fX11_back l0 u pl = some (z.1, z.2, dz)) : metYI l D (tyl cI cB cL) ka kv fv yX11_back cX11_back 1 (some .boolean) 4 89 0 (wZ cI cB ad tr p0 l0) [.ref (ad 72)] u pl z dz := by
  intro pa sz
  refine vx_ofW (cc := cX11_back) (maxL := 1) (ret := (some .boolean)) (by decide) rfl ?_
  intro p e s m args below meth c s₁ B hml Xc hv
  obtain ⟨rfl, C, S, Kx⟩ := q_entryK B hml hv
  have hl := lv_entry ([.ref (ad 72)]) (n := 1) (Nat.le_of_ble_eq_true rfl)
  rw [lg_entry_eq]
  generalize (lg_sl ([.ref (ad 72)]) ++ List.replicate (1 - (lg_sl ([.ref (ad 72)])).length) Slot.unset).toArray = ls at hl ⊢
  exact wX11_back_0 C Kx Xc hfl ⟨Nat.le_refl _, Nat.le_refl _⟩ ⟨rfl, rfl⟩ u (a := 0) (lv_sub hl [0] rfl) S (Nat.zero_add _).symm rfl h
end S_53a_yz
