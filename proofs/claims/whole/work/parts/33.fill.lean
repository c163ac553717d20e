def wF (cI : ClassId) (ad : Nat → Nat) (pl : Nat) (σ : Sg) : va_W := [((ad 0), .inl (cI, pl, .inl (σ 0)))]
theorem aF0 (cI : ClassId) (ad : Nat → Nat) (pl : Nat) : arrAt (wF cI ad pl) 0 (ad 0) cI pl := ⟨fun _ => rfl, fun _ _ => rfl⟩
theorem dJ7_fill_53178_0 : decode cJ7_fill_53178 0 = .ok (.iconst 0, 1) := by decide +kernel
theorem dJ7_fill_53178_1 : decode cJ7_fill_53178 1 = .ok (.istore_n 2, 1) := by decide +kernel
theorem dJ7_fill_53178_2 : decode cJ7_fill_53178 2 = .ok (.aload_n 0, 1) := by decide +kernel
theorem dJ7_fill_53178_3 : decode cJ7_fill_53178 3 = .ok (.arraylength, 1) := by decide +kernel
theorem dJ7_fill_53178_4 : decode cJ7_fill_53178 4 = .ok (.istore_n 3, 1) := by decide +kernel
theorem dJ7_fill_53178_5 : decode cJ7_fill_53178 5 = .ok (.iload_n 2, 1) := by decide +kernel
theorem dJ7_fill_53178_6 : decode cJ7_fill_53178 6 = .ok (.iload_n 3, 1) := by decide +kernel
theorem dJ7_fill_53178_7 : decode cJ7_fill_53178 7 = .ok (.if_icmp .ge 13, 3) := by decide +kernel
theorem dJ7_fill_53178_10 : decode cJ7_fill_53178 10 = .ok (.aload_n 0, 1) := by decide +kernel
theorem dJ7_fill_53178_11 : decode cJ7_fill_53178 11 = .ok (.iload_n 2, 1) := by decide +kernel
theorem dJ7_fill_53178_12 : decode cJ7_fill_53178 12 = .ok (.iload_n 1, 1) := by decide +kernel
theorem dJ7_fill_53178_13 : decode cJ7_fill_53178 13 = .ok (.iastore, 1) := by decide +kernel
theorem dJ7_fill_53178_14 : decode cJ7_fill_53178 14 = .ok (.iinc 2 1, 3) := by decide +kernel
theorem dJ7_fill_53178_17 : decode cJ7_fill_53178 17 = .ok (.goto (-12), 3) := by decide +kernel
theorem dJ7_fill_53178_20 : decode cJ7_fill_53178 20 = .ok (.return_, 1) := by decide +kernel
section S_33_fill
variable {p : Program} {l : Launch} {e : Env} {R : Room} {s : State} {m : MethodId} {args : Array Value} {below : List Frame} {meth : Method} {c : Code} {A : Nat → Prop} {D : va_G} {cI cB cL : ClassId} {ad : Nat → Nat} {pa pl : Nat}
noncomputable def fJ7_fill_53178_5 (pl : Nat) : Nat → Int32 → Int32 → Int32 → Sg → Option Sg
  | 0, _, _, _, _ => none
  | n + 1, x1, x2, x3, u => cnd (x3 ≤ x2) (some u) (grd (vp_in x2 pl) (bnd (s2 u 0 ((x2 : Int32).toNatClampNeg) x1) (fun u4 => bnd (x2 + 1) (fun v5 => fJ7_fill_53178_5 pl n x1 v5 x3 u4))))
noncomputable def fJ7_fill_53178_0 (pl : Nat) (x1 : Int32) (u : Sg) : Option Sg := bnd (Int32.ofNat pl) (fun v1 => fJ7_fill_53178_5 pl FU x1 0 v1 u)
noncomputable def fJ7_fill_53178 (pl : Nat) (x1 : Int32) (u : Sg) : Option Sg := fJ7_fill_53178_0 pl x1 u
set_option maxRecDepth 10000 in
set_option maxHeartbeats 4000000 in
theorem wJ7_fill_53178_5 (C : cx D (tyl cI cB cL) A RJ7 cJ7_fill_53178 4 none p s m args c meth) (hR : 0 ≤ R.frames ∧ 0 ≤ R.locals) {σ' : Sg} : ∀ (n : Nat) (x1 : Int32) (x2 : Int32) (x3 : Int32) (u : Sg) (H : Heap) (locs : List Loc) (ls : Array Slot), lv_has ls 4 [(0, .ref (ad 0)), (1, .int x1), (2, .int x2), (3, .int x3)] → st D (wF cI ad pl) A s u H locs → fJ7_fill_53178_5 pl n x1 x2 x3 u = some σ' → W p l e R s m args below meth c H locs 0 0 (MQ below (qV D (tyl cI cB cL) (wF cI ad pl) A σ') args s 0 0 A) (F0 m 5 ls []) := by
  have hx := C.1
  have hb := C.2.1
  intro n
  induction n with
  | zero =>
    intro x1 x2 x3 u H locs ls hl S h
    cases h
  | succ n ih =>
    intro x1 x2 x3 u H locs ls hl S h
    rw [fJ7_fill_53178_5] at h
    have hsz := hl.1
    refine lv_iload_n hx hb dJ7_fill_53178_5 rfl (lv_at hl 2 rfl) ?_
    refine lv_iload_n hx hb dJ7_fill_53178_6 rfl (lv_at hl 3 rfl) ?_
    refine lv_icmp_ge (tgt := 20) hx hb dJ7_fill_53178_7 (by decide) (fun c2 => ?_) (fun c2 => ?_)
    · have h := cnd_t c2 h
      exact q_vret C S (Option.some.inj h) dJ7_fill_53178_20
    · have h := cnd_f c2 h
      refine lv_aload_n hx hb dJ7_fill_53178_10 rfl (lv_at hl 0 rfl) ?_
      refine lv_iload_n hx hb dJ7_fill_53178_11 rfl (lv_at hl 2 rfl) ?_
      refine lv_iload_n hx hb dJ7_fill_53178_12 rfl (lv_at hl 1 rfl) ?_
      obtain ⟨g3, h⟩ := grd_some h
      obtain ⟨u4, eu4⟩ : ∃ z : Sg, z = s2 u 0 ((x2 : Int32).toNatClampNeg) x1 := ⟨_, rfl⟩
      have h := bnd_of eu4 h
      refine q_iast C S (aF0 cI ad pl) 0 rfl g3 dJ7_fill_53178_13 (j := (x2 : Int32).toNatClampNeg) rfl eu4 (fun H locs S => ?_)
      obtain ⟨v5, ev5⟩ : ∃ y : Int32, y = x2 + 1 := ⟨_, rfl⟩
      have h := bnd_of ev5 h
      refine lv_iinc (v := v5) (lv' := [(2, .int v5), (0, .ref (ad 0)), (1, .int x1), (3, .int x3)]) hx hb dJ7_fill_53178_14 hl (k := 2) rfl (by rw [ev5]; rfl) (by decide) rfl (fun ls hl => ?_)
      have hsz := hl.1
      refine lv_goto (tgt := 5) hx hb dJ7_fill_53178_17 (by decide) ?_
      exact ih x1 v5 x3 u4 H locs ls (lv_sub hl [1, 2, 0, 3] rfl) S h
set_option maxRecDepth 10000 in
set_option maxHeartbeats 4000000 in
theorem wJ7_fill_53178_0 (C : cx D (tyl cI cB cL) A RJ7 cJ7_fill_53178 4 none p s m args c meth) (hR : 0 ≤ R.frames ∧ 0 ≤ R.locals) {σ' : Sg} (u : Sg) (x1 : Int32) {H : Heap} {locs : List Loc} {ls : Array Slot} (hl : lv_has ls 4 [(0, .ref (ad 0)), (1, .int x1)]) (S : st D (wF cI ad pl) A s u H locs) (h : fJ7_fill_53178_0 pl x1 u = some σ') : W p l e R s m args below meth c H locs 0 0 (MQ below (qV D (tyl cI cB cL) (wF cI ad pl) A σ') args s 0 0 A) (F0 m 0 ls []) := by
  have hx := C.1
  have hb := C.2.1
  have hsz := hl.1
  unfold fJ7_fill_53178_0 at h
  refine lv_iconst (v := 0) hx hb dJ7_fill_53178_0 (by decide) ?_
  refine lv_istore_n (lv' := [(2, .int 0), (0, .ref (ad 0)), (1, .int x1)]) hx hb dJ7_fill_53178_1 rfl hl (by decide) rfl (fun ls hl => ?_)
  have hsz := hl.1
  refine lv_aload_n hx hb dJ7_fill_53178_2 rfl (lv_at hl 1 rfl) ?_
  refine q_alen (v := (Int32.ofNat pl)) C S (aF0 cI ad pl) 0 rfl rfl dJ7_fill_53178_3 ?_
  refine lv_topi (fun v1 ev1 => ?_)
  have h := bnd_of ev1 h
  refine lv_istore_n (lv' := [(3, .int v1), (2, .int 0), (0, .ref (ad 0)), (1, .int x1)]) hx hb dJ7_fill_53178_4 rfl hl (by decide) rfl (fun ls hl => ?_)
  have hsz := hl.1
  exact wJ7_fill_53178_5 C hR FU x1 0 v1 u H locs ls (lv_sub hl [2, 3, 1, 0] rfl) S h
set_option maxRecDepth 10000 in
set_option maxHeartbeats 4000000 in
theorem ct_J7_fill_53178 (l : Launch) (D : va_G) (cI cB cL : ClassId) (ad : Nat → Nat) (pl : Nat) (x1 : Int32) (u : Sg) {σ' : Sg} (h : fJ7_fill_53178 pl x1 u = some σ') : metV l D (tyl cI cB cL) yJ7_fill_53178 cJ7_fill_53178 4 0 0 (wF cI ad pl) [.ref (ad 0), .int x1] u σ' := by
  intro sz
  refine Met.ofW (cc := cJ7_fill_53178) (maxL := 4) (ret := none) (by decide) rfl ?_
  intro p e s m args below meth c s₁ B hml hv
  obtain ⟨rfl, C, S⟩ := q_entry B hml hv
  have hl := lv_entry ([.ref (ad 0), .int x1]) (n := 4) (Nat.le_of_ble_eq_true rfl)
  rw [lg_entry_eq]
  generalize (lg_sl ([.ref (ad 0), .int x1]) ++ List.replicate (4 - (lg_sl ([.ref (ad 0), .int x1])).length) Slot.unset).toArray = ls at hl ⊢
  exact wJ7_fill_53178_0 C ⟨Nat.le_refl _, Nat.le_refl _⟩ u x1 (lv_sub hl [0, 1] rfl) S h
end S_33_fill
