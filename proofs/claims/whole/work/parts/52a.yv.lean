theorem mw_909 : Cond.fieldLink RX11 42 "LeastPending" "kept" "LLeastPending$Net;" ∈ gw := gw_t2 141 rfl rfl
theorem mw_910 : Cond.methodLink RX11 60 yX7_copyFrom ∈ gw := gw_t3 11 rfl rfl
theorem mw_911 : Cond.fieldLink RX11 45 "LeastPending" "isKept" "Z" ∈ gw := gw_t2 144 rfl rfl
theorem dX11_image_0 : decode cX11_image 0 = .ok (.aload_n 0, 1) := by decide +kernel
theorem dX11_image_1 : decode cX11_image 1 = .ok (.getfield 42, 3) := by decide +kernel
theorem dX11_image_4 : decode cX11_image 4 = .ok (.aload_n 0, 1) := by decide +kernel
theorem dX11_image_5 : decode cX11_image 5 = .ok (.getfield 35, 3) := by decide +kernel
theorem dX11_image_8 : decode cX11_image 8 = .ok (.invokevirtual 60, 3) := by decide +kernel
theorem dX11_image_11 : decode cX11_image 11 = .ok (.aload_n 0, 1) := by decide +kernel
theorem dX11_image_12 : decode cX11_image 12 = .ok (.iconst 1, 1) := by decide +kernel
theorem dX11_image_13 : decode cX11_image 13 = .ok (.putfield 45, 3) := by decide +kernel
theorem dX11_image_16 : decode cX11_image 16 = .ok (.return_, 1) := by decide +kernel
section S_52a_yv
variable {p : Program} {l : Launch} {e : Env} {R : Room} {s : State} {m : MethodId} {args : Array Value} {below : List Frame} {meth : Method} {c : Code} {A : Nat → Prop} {D : va_G} {cI cB cL : ClassId} {ad : Nat → Nat} {ka kv : Nat → Nat} {fv : Value} {tr kt p0 l0 pa pl : Nat}
noncomputable def fX11_image_0 (l0 : Nat) (u : Sg) (pl : Nat) : Option (Xr × Sg × Nat) := obd (fX7_copyFrom l0 (sbVK u) pl) (fun u2 d4 => bnd (ubVK u u2) (fun u3 => addY d4 (bnd (s2 u3 72 6 1) (fun u7 => some (.inl 0, u7, 0)))))
noncomputable def fX11_image (l0 : Nat) (u : Sg) (pl : Nat) : Option (Xr × Sg × Nat) := fX11_image_0 l0 u pl
set_option maxRecDepth 10000 in
set_option maxHeartbeats 4000000 in
theorem wX11_image_0 (C : cx D (tyl cI cB cL) A RX11 cX11_image 1 none p s m args c meth) (Kx : kx ka kv fv A s s.heap) (Xc : ∀ x ∈ c.exceptionTable.toList, False) (hfl : l.stackTraces = false) (hR : 4 ≤ R.frames ∧ 89 ≤ R.locals) {z : Xr × Sg} {dt pf : Nat} (hC : R.cells = 0 + dt ∧ R.slots = 6 * 0 + 2 * dt) (u : Sg) {pl pa a dz : Nat} {H : Heap} {locs : List Loc} {ls : Array Slot} (hl : lv_has ls 1 [(0, .ref (ad 72))]) (S : st D (wV cI cB ad tr p0 l0 pa pl) A s u H locs) (ha : dt = a + dz) (hpf : pf = pl + dz) (h : fX11_image_0 l0 u pl = some (z.1, z.2, dz)) : W p l e R s m args below meth c H locs (0 + a) (6 * 0 + 2 * a) (vx_MQ below (qYV D (tyl cI cB cL) (wV cI cB ad tr p0 l0) pf A z) (xY D (tyl cI cB cL) (wV cI cB ad tr p0 l0) pf A z) args s (0 + dt) (6 * 0 + 2 * dt) A) (F0 m 0 ls []) := by
  have hx := C.1
  have hb := C.2.1
  have hsz := hl.1
  unfold fX11_image_0 at h
  refine lv_aload_n hx hb dX11_image_0 rfl (lv_at hl 0 rfl) ?_
  refine q_get (v := .ref (ad 36)) C S (oV72 cI cB ad tr p0 l0 pa pl) rfl iwX11 3 (by decide) mw_909 rfl dX11_image_1 ?_
  refine lv_aload_n hx hb dX11_image_4 rfl (lv_at hl 0 rfl) ?_
  refine q_get (v := .ref (ad 0)) C S (oV72 cI cB ad tr p0 l0 pa pl) rfl iwX11 4 (by decide) mw_767 rfl dX11_image_5 ?_
  obtain ⟨u2, d4, h1, h⟩ := obd_some h
  obtain ⟨u3, eu3⟩ : ∃ z : Sg, z = ubVK u u2 := ⟨_, rfl⟩
  have h := bnd_of eu3 h
  obtain ⟨dz5, h, edz5⟩ := addY_some h
  have ha6 : dt = (a + d4) + dz5 := by omega
  have hpf6 : pf = (pl + d4) + dz5 := by omega
  refine s_callVvA (spl_VK cI cB ad tr p0 l0) (As := [.ref (adVK ad 36)]) (na := 1) C S (o20 cI (adVK ad) p0 l0 pa pl) rfl (ct_X7_copyFrom l D cI cB cL (adVK ad) p0 l0 (sbVK u) pl h1) mw_910 mw_634 mw_636 mw_341 mw_633 hdX7_copyFrom ⟨Nat.le_trans (Nat.le_of_ble_eq_true rfl) hR.1, Nat.le_trans (Nat.le_of_ble_eq_true rfl) hR.2⟩ rfl hsz (by have hq := capY (K := 0) hC ha6 (Nat.le_of_ble_eq_true rfl); exact ⟨by omega, by omega⟩) (Nat.le_of_ble_eq_true rfl) dX11_image_8 rfl (fun pa6 H locs S => ?_)
  rw [← eu3] at S
  refine W.widen (k := 0 + (a + d4)) (n := 6 * 0 + 2 * (a + d4)) (by omega) (by omega) ?_
  refine lv_aload_n hx hb dX11_image_11 rfl (lv_at hl 0 rfl) ?_
  refine lv_iconst (v := 1) hx hb dX11_image_12 (by decide) ?_
  obtain ⟨u7, eu7⟩ : ∃ z : Sg, z = s2 u3 72 6 1 := ⟨_, rfl⟩
  have h := bnd_of eu7 h
  refine q_put C S (oV72 cI cB ad tr p0 l0 pa6 (pl + d4)) rfl iwX11 tyX11 tyX11_ok nmX11 6 (by decide) mw_911 rfl (iV72_6 cI cB ad tr p0 l0 pa6 (pl + d4)) rfl rfl dX11_image_13 eu7 (fun H locs S => ?_)
  exact y_vret C S h ha6 hpf6 (K := 0) (k := 0) (Nat.le_of_ble_eq_true rfl) dX11_image_16
set_option maxRecDepth 10000 in
set_option maxHeartbeats 4000000 in
theorem ct_X11_image (l : Launch) (hfl : l.stackTraces = false) (D : va_G) (cI cB cL : ClassId) (ka kv : Nat → Nat) (fv : Value) (ad : Nat → Nat) (tr p0 l0 : Nat) (u : Sg) (pl : Nat) {z : Xr × Sg} {dz : Nat} (h : fX11_image l0 u pl = some (z.1, z.2, dz)) : metYV l D (tyl cI cB cL) ka kv fv yX11_image cX11_image 1 4 89 0 (wV cI cB ad tr p0 l0) [.ref (ad 72)] u pl z dz := by
  intro pa sz
  refine vx_ofW (cc := cX11_image) (maxL := 1) (ret := none) (by decide) rfl ?_
  intro p e s m args below meth c s₁ B hml Xc hv
  obtain ⟨rfl, C, S, Kx⟩ := q_entryK B hml hv
  have hl := lv_entry ([.ref (ad 72)]) (n := 1) (Nat.le_of_ble_eq_true rfl)
  rw [lg_entry_eq]
  generalize (lg_sl ([.ref (ad 72)]) ++ List.replicate (1 - (lg_sl ([.ref (ad 72)])).length) Slot.unset).toArray = ls at hl ⊢
  exact wX11_image_0 C Kx Xc hfl ⟨Nat.le_refl _, Nat.le_refl _⟩ ⟨rfl, rfl⟩ u (a := 0) (lv_sub hl [0] rfl) S (Nat.zero_add _).symm rfl h
end S_52a_yv
