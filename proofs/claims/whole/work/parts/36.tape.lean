def flQ0 (cB : ClassId) (ad : Nat → Nat) (σ : Sg) : List Value := [.ref (ad 1), .int (σ 0 1)]
def wQ (cB : ClassId) (ad : Nat → Nat) (σ : Sg) : va_W := [((ad 0), .inr (9, flQ0 cB ad σ)), ((ad 1), .inl (cB, 400, .inl (σ 1)))]
theorem oQ0 (cB : ClassId) (ad : Nat → Nat) : objAt (wQ cB ad) 0 (ad 0) 9 (flQ0 cB ad) := fun _ => rfl
theorem iQ0_1 (cB : ClassId) (ad : Nat → Nat) : intAt (wQ cB ad) 0 (ad 0) 9 (flQ0 cB ad) 1 := ⟨fun _ => rfl, fun _ _ => rfl⟩
theorem aQ1 (cB : ClassId) (ad : Nat → Nat) : arrAt (wQ cB ad) 1 (ad 1) cB 400 := ⟨fun _ => rfl, fun _ _ => rfl⟩
theorem iwX10 : ∀ w ∈ u_ws RX10 TX10 2, w ∈ gw := by
  intro w hw
  obtain ⟨k, hk, rfl⟩ := List.mem_map.mp hw
  have hk := List.mem_range.mp hk
  rcases (show k = 0 ∨ k = 1 by omega) with rfl | rfl
  · exact gw_t1 49 rfl rfl
  · exact gw_t1 51 rfl rfl
theorem mw_659 : Cond.fieldLink RX10 15 "LeastPending$Tape" "length" "I" ∈ gw := gw_t1 46 rfl rfl
theorem mw_660 : Cond.fieldLink RX10 9 "LeastPending$Tape" "bytes" "[B" ∈ gw := gw_t1 44 rfl rfl
theorem dX10_add_0 : decode cX10_add 0 = .ok (.bipush 24, 2) := by decide +kernel
theorem dX10_add_2 : decode cX10_add 2 = .ok (.istore_n 2, 1) := by decide +kernel
theorem dX10_add_3 : decode cX10_add 3 = .ok (.iload_n 2, 1) := by decide +kernel
theorem dX10_add_4 : decode cX10_add 4 = .ok (.ifCond .lt 42, 3) := by decide +kernel
theorem dX10_add_7 : decode cX10_add 7 = .ok (.aload_n 0, 1) := by decide +kernel
theorem dX10_add_8 : decode cX10_add 8 = .ok (.getfield 15, 3) := by decide +kernel
theorem dX10_add_11 : decode cX10_add 11 = .ok (.sipush 400, 3) := by decide +kernel
theorem dX10_add_14 : decode cX10_add 14 = .ok (.if_icmp .ge 32, 3) := by decide +kernel
theorem dX10_add_17 : decode cX10_add 17 = .ok (.aload_n 0, 1) := by decide +kernel
theorem dX10_add_18 : decode cX10_add 18 = .ok (.getfield 9, 3) := by decide +kernel
theorem dX10_add_21 : decode cX10_add 21 = .ok (.aload_n 0, 1) := by decide +kernel
theorem dX10_add_22 : decode cX10_add 22 = .ok (.getfield 15, 3) := by decide +kernel
theorem dX10_add_25 : decode cX10_add 25 = .ok (.iload_n 1, 1) := by decide +kernel
theorem dX10_add_26 : decode cX10_add 26 = .ok (.iload_n 2, 1) := by decide +kernel
theorem dX10_add_27 : decode cX10_add 27 = .ok (.ishr, 1) := by decide +kernel
theorem dX10_add_28 : decode cX10_add 28 = .ok (.i2b, 1) := by decide +kernel
theorem dX10_add_29 : decode cX10_add 29 = .ok (.bastore, 1) := by decide +kernel
theorem dX10_add_30 : decode cX10_add 30 = .ok (.aload_n 0, 1) := by decide +kernel
theorem dX10_add_31 : decode cX10_add 31 = .ok (.dup, 1) := by decide +kernel
theorem dX10_add_32 : decode cX10_add 32 = .ok (.getfield 15, 3) := by decide +kernel
theorem dX10_add_35 : decode cX10_add 35 = .ok (.iconst 1, 1) := by decide +kernel
theorem dX10_add_36 : decode cX10_add 36 = .ok (.iadd, 1) := by decide +kernel
theorem dX10_add_37 : decode cX10_add 37 = .ok (.putfield 15, 3) := by decide +kernel
theorem dX10_add_40 : decode cX10_add 40 = .ok (.iinc 2 (-8), 3) := by decide +kernel
theorem dX10_add_43 : decode cX10_add 43 = .ok (.goto (-40), 3) := by decide +kernel
theorem dX10_add_46 : decode cX10_add 46 = .ok (.return_, 1) := by decide +kernel
section S_36_tape
variable {p : Program} {l : Launch} {e : Env} {R : Room} {s : State} {m : MethodId} {args : Array Value} {below : List Frame} {meth : Method} {c : Code} {A : Nat → Prop} {D : va_G} {cI cB cL : ClassId} {ad : Nat → Nat} {pa pl : Nat}
noncomputable def fX10_add_3 : Nat → Int32 → Int32 → Sg → Option Sg
  | 0, _, _, _ => none
  | n + 1, x1, x2, u => cnd (x2 < 0) (some u) (cnd (400 ≤ (u 0 1)) (some u) (grd (vp_in (u 0 1) 400) (bnd (s2 u 1 (((u 0 1) : Int32).toNatClampNeg) (vp_nar .byte ((((x1 : Int32) >>> ((x2 &&& 31 : Int32))) : Int32).toInt8.toInt32))) (fun u4 => bnd (s2 u4 0 1 ((u4 0 1) + 1)) (fun u5 => bnd (x2 + (-8)) (fun v6 => fX10_add_3 n x1 v6 u5))))))
noncomputable def fX10_add_0 (x1 : Int32) (u : Sg) : Option Sg := fX10_add_3 FU x1 24 u
noncomputable def fX10_add (x1 : Int32) (u : Sg) : Option Sg := fX10_add_0 x1 u
set_option maxRecDepth 10000 in
set_option maxHeartbeats 4000000 in
theorem wX10_add_3 (C : cx D (tyl cI cB cL) A RX10 cX10_add 3 none p s m args c meth) (hR : 0 ≤ R.frames ∧ 0 ≤ R.locals) {σ' : Sg} : ∀ (n : Nat) (x1 : Int32) (x2 : Int32) (u : Sg) (H : Heap) (locs : List Loc) (ls : Array Slot), lv_has ls 3 [(0, .ref (ad 0)), (1, .int x1), (2, .int x2)] → st D (wQ cB ad) A s u H locs → fX10_add_3 n x1 x2 u = some σ' → W p l e R s m args below meth c H locs 0 0 (MQ below (qV D (tyl cI cB cL) (wQ cB ad) A σ') args s 0 0 A) (F0 m 3 ls []) := by
  have hx := C.1
  have hb := C.2.1
  intro n
  induction n with
  | zero =>
    intro x1 x2 u H locs ls hl S h
    cases h
  | succ n ih =>
    intro x1 x2 u H locs ls hl S h
    rw [fX10_add_3] at h
    have hsz := hl.1
    refine lv_iload_n hx hb dX10_add_3 rfl (lv_at hl 2 rfl) ?_
    refine lv_if_lt (tgt := 46) hx hb dX10_add_4 (by decide) (fun c1 => ?_) (fun c1 => ?_)
    · have h := cnd_t c1 h
      exact q_vret C S (Option.some.inj h) dX10_add_46
    · have h := cnd_f c1 h
      refine lv_aload_n hx hb dX10_add_7 rfl (lv_at hl 0 rfl) ?_
      refine q_get (v := .int (u 0 1)) C S (oQ0 cB ad) rfl iwX10 1 (by decide) mw_659 rfl dX10_add_8 ?_
      refine lv_sipush (v := 400) hx hb dX10_add_11 (by decide) ?_
      refine lv_icmp_ge (tgt := 46) hx hb dX10_add_14 (by decide) (fun c2 => ?_) (fun c2 => ?_)
      · have h := cnd_t c2 h
        exact q_vret C S (Option.some.inj h) dX10_add_46
      · have h := cnd_f c2 h
        refine lv_aload_n hx hb dX10_add_17 rfl (lv_at hl 0 rfl) ?_
        refine q_get (v := .ref (ad 1)) C S (oQ0 cB ad) rfl iwX10 0 (by decide) mw_660 rfl dX10_add_18 ?_
        refine lv_aload_n hx hb dX10_add_21 rfl (lv_at hl 0 rfl) ?_
        refine q_get (v := .int (u 0 1)) C S (oQ0 cB ad) rfl iwX10 1 (by decide) mw_659 rfl dX10_add_22 ?_
        refine lv_iload_n hx hb dX10_add_25 rfl (lv_at hl 1 rfl) ?_
        refine lv_iload_n hx hb dX10_add_26 rfl (lv_at hl 2 rfl) ?_
        refine lv_ishr hx hb dX10_add_27 ?_
        refine lv_i2b (v := (((x1 : Int32) >>> ((x2 &&& 31 : Int32))) : Int32).toInt8.toInt32) hx hb dX10_add_28 rfl ?_
        obtain ⟨g3, h⟩ := grd_some h
        obtain ⟨u4, eu4⟩ : ∃ z : Sg, z = s2 u 1 (((u 0 1) : Int32).toNatClampNeg) (vp_nar .byte ((((x1 : Int32) >>> ((x2 &&& 31 : Int32))) : Int32).toInt8.toInt32)) := ⟨_, rfl⟩
        have h := bnd_of eu4 h
        refine q_bast C S (aQ1 cB ad) 1 rfl g3 dX10_add_29 (j := ((u 0 1) : Int32).toNatClampNeg) rfl eu4 (fun H locs S => ?_)
        refine lv_aload_n hx hb dX10_add_30 rfl (lv_at hl 0 rfl) ?_
        refine lv_dup hx hb dX10_add_31 rfl ?_
        refine q_get (v := .int (u4 0 1)) C S (oQ0 cB ad) rfl iwX10 1 (by decide) mw_659 rfl dX10_add_32 ?_
        refine lv_iconst (v := 1) hx hb dX10_add_35 (by decide) ?_
        refine lv_iadd hx hb dX10_add_36 ?_
        obtain ⟨u5, eu5⟩ : ∃ z : Sg, z = s2 u4 0 1 ((u4 0 1) + 1) := ⟨_, rfl⟩
        have h := bnd_of eu5 h
        refine q_put C S (oQ0 cB ad) rfl iwX10 tyX10 tyX10_ok nmX10 1 (by decide) mw_659 rfl (iQ0_1 cB ad) rfl rfl dX10_add_37 eu5 (fun H locs S => ?_)
        obtain ⟨v6, ev6⟩ : ∃ y : Int32, y = x2 + (-8) := ⟨_, rfl⟩
        have h := bnd_of ev6 h
        refine lv_iinc (v := v6) (lv' := [(2, .int v6), (0, .ref (ad 0)), (1, .int x1)]) hx hb dX10_add_40 hl (k := 2) rfl (by rw [ev6]; rfl) (by decide) rfl (fun ls hl => ?_)
        have hsz := hl.1
        refine lv_goto (tgt := 3) hx hb dX10_add_43 (by decide) ?_
        exact ih x1 v6 u5 H locs ls (lv_sub hl [1, 2, 0] rfl) S h
set_option maxRecDepth 10000 in
set_option maxHeartbeats 4000000 in
theorem wX10_add_0 (C : cx D (tyl cI cB cL) A RX10 cX10_add 3 none p s m args c meth) (hR : 0 ≤ R.frames ∧ 0 ≤ R.locals) {σ' : Sg} (u : Sg) (x1 : Int32) {H : Heap} {locs : List Loc} {ls : Array Slot} (hl : lv_has ls 3 [(0, .ref (ad 0)), (1, .int x1)]) (S : st D (wQ cB ad) A s u H locs) (h : fX10_add_0 x1 u = some σ') : W p l e R s m args below meth c H locs 0 0 (MQ below (qV D (tyl cI cB cL) (wQ cB ad) A σ') args s 0 0 A) (F0 m 0 ls []) := by
  have hx := C.1
  have hb := C.2.1
  have hsz := hl.1
  unfold fX10_add_0 at h
  refine lv_bipush (v := 24) hx hb dX10_add_0 (by decide) ?_
  refine lv_istore_n (lv' := [(2, .int 24), (0, .ref (ad 0)), (1, .int x1)]) hx hb dX10_add_2 rfl hl (by decide) rfl (fun ls hl => ?_)
  have hsz := hl.1
  exact wX10_add_3 C hR FU x1 24 u H locs ls (lv_sub hl [1, 2, 0] rfl) S h
set_option maxRecDepth 10000 in
set_option maxHeartbeats 4000000 in
theorem ct_X10_add (l : Launch) (D : va_G) (cI cB cL : ClassId) (ad : Nat → Nat) (x1 : Int32) (u : Sg) {σ' : Sg} (h : fX10_add x1 u = some σ') : metV l D (tyl cI cB cL) yX10_add cX10_add 3 0 0 (wQ cB ad) [.ref (ad 0), .int x1] u σ' := by
  intro sz
  refine Met.ofW (cc := cX10_add) (maxL := 3) (ret := none) (by decide) rfl ?_
  intro p e s m args below meth c s₁ B hml hv
  obtain ⟨rfl, C, S⟩ := q_entry B hml hv
  have hl := lv_entry ([.ref (ad 0), .int x1]) (n := 3) (Nat.le_of_ble_eq_true rfl)
  rw [lg_entry_eq]
  generalize (lg_sl ([.ref (ad 0), .int x1]) ++ List.replicate (3 - (lg_sl ([.ref (ad 0), .int x1])).length) Slot.unset).toArray = ls at hl ⊢
  exact wX10_add_0 C ⟨Nat.le_refl _, Nat.le_refl _⟩ u x1 (lv_sub hl [0, 1] rfl) S h
end S_36_tape
