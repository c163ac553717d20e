theorem oU0 (cI cB : ClassId) (ad : Nat → Nat) (kt p0 l0 pa pl : Nat) : objAt (wU cI cB ad kt p0 l0 pa pl) 0 (ad 0) 6 (flU0 cI cB ad kt p0 l0 pa pl) := fun _ => rfl
theorem iU0_2 (cI cB : ClassId) (ad : Nat → Nat) (kt p0 l0 pa pl : Nat) : intAt (wU cI cB ad kt p0 l0 pa pl) 0 (ad 0) 6 (flU0 cI cB ad kt p0 l0 pa pl) 2 := ⟨fun _ => rfl, fun _ _ => rfl⟩
theorem iU72_7 (cI cB : ClassId) (ad : Nat → Nat) (kt p0 l0 pa pl : Nat) : intAt (wU cI cB ad kt p0 l0 pa pl) 72 (ad 72) 10 (flU72 cI cB ad kt p0 l0 pa pl) 7 := ⟨fun _ => rfl, fun _ _ => rfl⟩
theorem oU73 (cI cB : ClassId) (ad : Nat → Nat) (kt p0 l0 pa pl : Nat) : objAt (wU cI cB ad kt p0 l0 pa pl) 73 (ad 73) 9 (flU73 cI cB ad kt p0 l0 pa pl) := fun _ => rfl
theorem iU73_1 (cI cB : ClassId) (ad : Nat → Nat) (kt p0 l0 pa pl : Nat) : intAt (wU cI cB ad kt p0 l0 pa pl) 73 (ad 73) 9 (flU73 cI cB ad kt p0 l0 pa pl) 1 := ⟨fun _ => rfl, fun _ _ => rfl⟩
def adS (ad : Nat → Nat) : Nat → Nat := fun k => if k < 36 then ad (k + 36) else if k < 72 then ad (k - 36) else ad k
def swS (σ : Sg) : Sg := fun q => if q < 36 then σ (q + 36) else if q < 72 then σ (q - 36) else σ q
def obt2 {α : Type} (o : Option (Int32 × Sg)) (k : Int32 → Sg → Option α) : Option α := match o with
  | none => none
  | some (r, u) => k r u
theorem obt2_some {α : Type} {o : Option (Int32 × Sg)} {k : Int32 → Sg → Option α} {z : α} (h : obt2 o k = some z) : ∃ r u, o = some (r, u) ∧ k r u = some z := by
  cases o with
  | none => cases h
  | some w => exact ⟨w.1, w.2, rfl, h⟩
abbrev qN (D : va_G) (tys : List (ClassId × FieldType)) (cI cB : ClassId) (ad : Nat → Nat) (kt p0 l0 pf : Nat) (A : Nat → Prop) (z : Xr × Sg) : Array Value → State → Outcome → State → Prop := va_Qi (fun x (P : Nat × Sg) => z = ((.inl x, P.2) : Xr × Sg)) (fun P t => post D tys (wU cI cB (adS ad) kt P.1 pf p0 l0) A P.2 t) A
def metN (l : Launch) (D : va_G) (cI cB cL : ClassId) (ka kv : Nat → Nat) (fv : Value) (n : Nat) (rt : Option FieldType) (rf rl k : Nat) (ad : Nat → Nat) (kt p0 l0 : Nat) (σ : Sg) (pl : Nat) (z : Xr × Sg) (d : Nat) : Prop :=
  ∀ pa sz, vx_Met l yX11_net (Cond.code yX11_net cX11_net n rt :: gw) (rmY rf rl k d) (va_Pc [.ref (ad 72)] (preK D (tyl cI cB cL) (wU cI cB ad kt p0 l0 pa pl) σ ka kv fv sz)) (qN D (tyl cI cB cL) cI cB ad kt p0 l0 (pl + d) (va_A (wU cI cB ad kt p0 l0 pa pl σ) sz) z) (xY D (tyl cI cB cL) (wU cI cB ad kt p0 l0) (pl + d) (va_A (wU cI cB ad kt p0 l0 pa pl σ) sz) z) (k + d) (6 * k + 2 * d) (va_A (wU cI cB ad kt p0 l0 pa pl σ) sz)
section QN
variable {p : Program} {l : Launch} {e : Env} {R : Room} {s : State} {m : MethodId} {args : Array Value} {below : List Frame} {meth : Method} {c : Code} {H : Heap} {locs : List Loc} {cells slots : Nat} {Q : State → Prop}
variable {D : va_G} {cI cB cL : ClassId} {A : Nat → Prop} {own : String} {cc : ByteArray} {nL : Nat} {ret : Option FieldType} {wd wc : Nat → Nat → Sg → va_W} {sb : Sg → Sg} {ub : Sg → Sg → Sg} {ps is pm : List Nat} {σ ν : Sg} {pc pa pl : Nat} {ls : Array Slot} {rest : List Value} {tys : List (ClassId × FieldType)}
variable {y : MethodName} {b : ByteArray} {n idx rf rl na k a dz dt pf K kt p0 l0 : Nat} {rt : Option FieldType} {As : List Value} {r : Int32} {z : Xr × Sg} {ka kv ad : Nat → Nat} {fv : Value}
theorem s_callViK (Sp : splA wd wc sb ub ps is pm) (C : cx D tys A own cc nL ret p s m args c meth) (Kx : kx ka kv fv A s s.heap) (S : st D (wd pa pl) A s σ H locs) {q a ci : Nat} {fl : Sg → List Value} (O : objAt (wc pa pl) q a ci fl) {Cn : String} {T : u_T} {N : Nat} (hc : vwCl[ci]? = some (Cn, T, N)) (hM : metIK l D tys ka kv fv y b n rt rf rl (wc pa pl) (.ref a :: As) (sb σ) r ν) (h1 : Cond.methodLink own idx y ∈ gw) (h2 : Cond.instanceMethod y ∈ gw) (h3 : Cond.selects Cn y y ∈ gw) (h4 : Cond.initialized Cn ∈ gw) (h5 : Cond.code y b n rt ∈ gw)
    (hd : y.cls = Cn ∧ y.cls ≠ "java/lang/invoke/MethodHandle" ∧ y.cls ≠ "java/lang/invoke/VarHandle" ∧ (parseMethodDescriptor y.desc).map (fun d => d.parameters.length) = some na) (hR : rf + 1 ≤ R.frames ∧ 8 + (n + 11) + rl ≤ R.locals) (hna : As.length = na) (hls : ls.size = nL) (hcap : cells ≤ R.cells ∧ slots ≤ R.slots) (hre : (rest.map fun v => v.category).sum ≤ 8) (hdg : decode cc pc = .ok (.invokevirtual idx, 3)) {sk : List Value} (hsk : sk = As.reverse ++ .ref a :: rest)
    (kk : ∀ (H1 : Heap) (locs1 : List Loc), st D (wd pa pl) A s (ub σ ν) H1 locs1 → W p l e R s m args below meth c H1 locs1 cells slots Q (F0 m (pc + 3) ls (.int r :: rest))) : W p l e R s m args below meth c H locs cells slots Q (F0 m pc ls sk) := by
  subst hsk
  refine va_calli (va_runV (As := As) (rest := rest) ⟨C.1, C.2.1, C.2.2.1, C.2.2.2.1, C.2.2.2.2.1⟩ (hM H.size) (cwV na C.2.2.2.2.1 (gg_V h1 h2 h3 h4 h5) rfl rfl rfl hd hR) ⟨preK_blind, va_recv C.2.2.2.2.2.2.2.1 (s_P Sp S) (ci := ci) (q0 := q) hc (O (sb σ)), fun U hU hW => ⟨rfl, (s_pre (as := .ref a :: As) Sp C S U hU hW).2, kx_call Kx S.2.2 (s_own Sp C S) hU hW⟩⟩ rfl hna hls rfl (lv_room hre) hdg hcap) S.2.2 (fun z _ h => s_own Sp C S z h) (s_own Sp C S) (fun r1 u t H1 locs1 ht hvm hw hB hz hk hS => ?_)
  obtain ⟨rfl, rfl⟩ := hw
  exact kk H1 locs1 (s_after Sp C S ht hB hk hS)
end QN
theorem mw_957 : Cond.fieldLink RX11 21 "LeastPending" "reader" "LLeastPending$Reader;" ∈ gw := gw_t2 139 rfl rfl
theorem mw_958 : Cond.code yX9_tell cX9_tell 3 (some .int) ∈ gw := gw_t3 79 rfl rfl
theorem mw_959 : Cond.methodLink RX11 64 yX9_tell ∈ gw := gw_t3 76 rfl rfl
theorem mw_960 : Cond.instanceMethod yX9_tell ∈ gw := gw_t3 77 rfl rfl
theorem mw_961 : Cond.selects RX9 yX9_tell yX9_tell ∈ gw := gw_t3 78 rfl rfl
theorem hdX9_tell : yX9_tell.cls = RX9 ∧ yX9_tell.cls ≠ "java/lang/invoke/MethodHandle" ∧ yX9_tell.cls ≠ "java/lang/invoke/VarHandle" ∧ (parseMethodDescriptor yX9_tell.desc).map (fun d => d.parameters.length) = some 1 := by decide +kernel
theorem dX11_net_0 : decode cX11_net 0 = .ok (.aload_n 0, 1) := by decide +kernel
theorem dX11_net_1 : decode cX11_net 1 = .ok (.getfield 39, 3) := by decide +kernel
theorem dX11_net_4 : decode cX11_net 4 = .ok (.aload_n 0, 1) := by decide +kernel
theorem dX11_net_5 : decode cX11_net 5 = .ok (.getfield 35, 3) := by decide +kernel
theorem dX11_net_8 : decode cX11_net 8 = .ok (.invokevirtual 60, 3) := by decide +kernel
theorem dX11_net_11 : decode cX11_net 11 = .ok (.aload_n 0, 1) := by decide +kernel
theorem dX11_net_12 : decode cX11_net 12 = .ok (.aload_n 0, 1) := by decide +kernel
theorem dX11_net_13 : decode cX11_net 13 = .ok (.getfield 21, 3) := by decide +kernel
theorem dX11_net_16 : decode cX11_net 16 = .ok (.aload_n 0, 1) := by decide +kernel
theorem dX11_net_17 : decode cX11_net 17 = .ok (.getfield 39, 3) := by decide +kernel
theorem dX11_net_20 : decode cX11_net 20 = .ok (.invokevirtual 64, 3) := by decide +kernel
theorem dX11_net_23 : decode cX11_net 23 = .ok (.putfield 49, 3) := by decide +kernel
theorem dX11_net_26 : decode cX11_net 26 = .ok (.aload_n 0, 1) := by decide +kernel
theorem dX11_net_27 : decode cX11_net 27 = .ok (.getfield 10, 3) := by decide +kernel
theorem dX11_net_30 : decode cX11_net 30 = .ok (.iconst 0, 1) := by decide +kernel
theorem dX11_net_31 : decode cX11_net 31 = .ok (.putfield 53, 3) := by decide +kernel
theorem dX11_net_34 : decode cX11_net 34 = .ok (.aload_n 0, 1) := by decide +kernel
theorem dX11_net_35 : decode cX11_net 35 = .ok (.getfield 49, 3) := by decide +kernel
theorem dX11_net_38 : decode cX11_net 38 = .ok (.iconst (-1), 1) := by decide +kernel
theorem dX11_net_39 : decode cX11_net 39 = .ok (.if_icmp .eq 13, 3) := by decide +kernel
theorem dX11_net_42 : decode cX11_net 42 = .ok (.new 68, 3) := by decide +kernel
theorem dX11_net_45 : decode cX11_net 45 = .ok (.dup, 1) := by decide +kernel
theorem dX11_net_46 : decode cX11_net 46 = .ok (.ldc 70, 2) := by decide +kernel
theorem dX11_net_48 : decode cX11_net 48 = .ok (.invokespecial 72, 3) := by decide +kernel
theorem dX11_net_51 : decode cX11_net 51 = .ok (.athrow, 1) := by decide +kernel
theorem dX11_net_52 : decode cX11_net 52 = .ok (.aload_n 0, 1) := by decide +kernel
theorem dX11_net_53 : decode cX11_net 53 = .ok (.getfield 35, 3) := by decide +kernel
theorem dX11_net_56 : decode cX11_net 56 = .ok (.getfield 75, 3) := by decide +kernel
theorem dX11_net_59 : decode cX11_net 59 = .ok (.bipush 12, 2) := by decide +kernel
theorem dX11_net_61 : decode cX11_net 61 = .ok (.if_icmp .lt 13, 3) := by decide +kernel
theorem dX11_net_64 : decode cX11_net 64 = .ok (.new 78, 3) := by decide +kernel
theorem dX11_net_67 : decode cX11_net 67 = .ok (.dup, 1) := by decide +kernel
theorem dX11_net_68 : decode cX11_net 68 = .ok (.ldc 80, 2) := by decide +kernel
theorem dX11_net_70 : decode cX11_net 70 = .ok (.invokespecial 82, 3) := by decide +kernel
theorem dX11_net_73 : decode cX11_net 73 = .ok (.athrow, 1) := by decide +kernel
theorem dX11_net_74 : decode cX11_net 74 = .ok (.aload_n 0, 1) := by decide +kernel
theorem dX11_net_75 : decode cX11_net 75 = .ok (.getfield 39, 3) := by decide +kernel
theorem dX11_net_78 : decode cX11_net 78 = .ok (.astore_n 1, 1) := by decide +kernel
theorem dX11_net_79 : decode cX11_net 79 = .ok (.aload_n 0, 1) := by decide +kernel
theorem dX11_net_80 : decode cX11_net 80 = .ok (.aload_n 0, 1) := by decide +kernel
theorem dX11_net_81 : decode cX11_net 81 = .ok (.getfield 35, 3) := by decide +kernel
theorem dX11_net_84 : decode cX11_net 84 = .ok (.putfield 39, 3) := by decide +kernel
theorem dX11_net_87 : decode cX11_net 87 = .ok (.aload_n 0, 1) := by decide +kernel
theorem dX11_net_88 : decode cX11_net 88 = .ok (.aload_n 1, 1) := by decide +kernel
theorem dX11_net_89 : decode cX11_net 89 = .ok (.putfield 35, 3) := by decide +kernel
theorem dX11_net_92 : decode cX11_net 92 = .ok (.aload_n 0, 1) := by decide +kernel
theorem dX11_net_93 : decode cX11_net 93 = .ok (.getfield 35, 3) := by decide +kernel
theorem dX11_net_96 : decode cX11_net 96 = .ok (.dup, 1) := by decide +kernel
theorem dX11_net_97 : decode cX11_net 97 = .ok (.getfield 75, 3) := by decide +kernel
theorem dX11_net_100 : decode cX11_net 100 = .ok (.iconst 1, 1) := by decide +kernel
theorem dX11_net_101 : decode cX11_net 101 = .ok (.iadd, 1) := by decide +kernel
theorem dX11_net_102 : decode cX11_net 102 = .ok (.putfield 75, 3) := by decide +kernel
theorem dX11_net_105 : decode cX11_net 105 = .ok (.aload_n 0, 1) := by decide +kernel
theorem dX11_net_106 : decode cX11_net 106 = .ok (.getfield 35, 3) := by decide +kernel
theorem dX11_net_109 : decode cX11_net 109 = .ok (.getfield 75, 3) := by decide +kernel
theorem dX11_net_112 : decode cX11_net 112 = .ok (.ireturn, 1) := by decide +kernel
set_option maxRecDepth 20000 in
set_option maxHeartbeats 4000000 in
theorem n_tail {p : Program} {l : Launch} {e : Env} {R : Room} {s : State} {m : MethodId} {args : Array Value} {below : List Frame} {meth : Method} {c : Code} {H : Heap} {locs : List Loc} {D : va_G} {cI cB cL : ClassId} {A : Nat → Prop} {σ : Sg} {pa pl a dz dt pf K k kt p0 l0 : Nat} {ls : Array Slot} {z : Xr × Sg} {ad : Nat → Nat} (C : cx D (tyl cI cB cL) A RX11 cX11_net 2 (some .int) p s m args c meth) (hl : lv_has ls 2 [(0, .ref (ad 72))]) (S : st D (wU cI cB ad kt p0 l0 pa pl) A s σ H locs) (h : some ((.inl (swS σ 0 2 + 1), s2 (swS σ) 0 2 (swS σ 0 2 + 1), 0) : Xr × Sg × Nat) = some (z.1, z.2, dz)) (ha : dt = a + dz) (hpf : pf = pl + dz) (hK : K ≤ k) : W p l e R s m args below meth c H locs (K + a) (6 * K + 2 * a) (vx_MQ below (qN D (tyl cI cB cL) cI cB ad kt p0 l0 pf A z) (xY D (tyl cI cB cL) (wU cI cB ad kt p0 l0) pf A z) args s (k + dt) (6 * k + 2 * dt) A) (F0 m 74 ls []) := by
  have hx := C.1
  have hb := C.2.1
  refine lv_aload_n hx hb dX11_net_74 rfl (lv_at hl 0 rfl) ?_
  refine q_get (v := .ref (ad 36)) C S (oU72 cI cB ad kt p0 l0 pa pl) rfl iwX11 5 (by decide) mw_892 rfl dX11_net_75 ?_
  refine lv_astore_n (lv' := [(1, .ref (ad 36)), (0, .ref (ad 72))]) hx hb dX11_net_78 rfl hl (by decide) rfl (fun ls hl => ?_)
  refine lv_aload_n hx hb dX11_net_79 rfl (lv_at hl 1 rfl) ?_
  refine lv_aload_n hx hb dX11_net_80 rfl (lv_at hl 1 rfl) ?_
  refine q_get (v := .ref (ad 0)) C S (oU72 cI cB ad kt p0 l0 pa pl) rfl iwX11 4 (by decide) mw_767 rfl dX11_net_81 ?_
  obtain ⟨hP, hD, hS⟩ := S
  refine va_put (D := D) (ci := 10) (v := .ref (ad 0)) (ty := .object "LeastPending$Net") (C := RX11) (T := TX11) (N := 8) hx hb C.2.2.2.2.1 iwX11 tyX11 tyX11_ok nmX11 C.2.2.2.1 C.2.2.2.2.2.2.2.1 hP hD hS 72 rfl rfl 5 (by decide) (C.2.2.2.2.1 _ mw_892) (fun _ h9 => h9) rfl (by decide +kernel) rfl rfl (Nat.le_of_ble_eq_true rfl) dX11_net_84 (fun H locs hP hD hS => ?_)
  refine lv_aload_n hx hb dX11_net_87 rfl (lv_at hl 1 rfl) ?_
  refine lv_aload_n hx hb dX11_net_88 rfl (lv_at hl 0 rfl) ?_
  refine va_put (D := D) (ci := 10) (v := .ref (ad 36)) (ty := .object "LeastPending$Net") (C := RX11) (T := TX11) (N := 8) hx hb C.2.2.2.2.1 iwX11 tyX11 tyX11_ok nmX11 C.2.2.2.1 C.2.2.2.2.2.2.2.1 hP hD hS 72 rfl rfl 4 (by decide) (C.2.2.2.2.1 _ mw_767) (fun _ h9 => h9) rfl (by decide +kernel) rfl rfl (Nat.le_of_ble_eq_true rfl) dX11_net_89 (fun H locs hP hD hS => ?_)
  have S : st D (wU cI cB (adS ad) kt pa pl p0 l0) A s (swS σ) H locs := ⟨hP.sub [36,37,38,39,40,41,42,43,44,45,46,47,48,49,50,51,52,53,54,55,56,57,58,59,60,61,62,63,64,65,66,67,68,69,70,71,0,1,2,3,4,5,6,7,8,9,10,11,12,13,14,15,16,17,18,19,20,21,22,23,24,25,26,27,28,29,30,31,32,33,34,35,72,73,74,75,76,77] rfl, hD.sub [36,37,38,39,40,41,42,43,44,45,46,47,48,49,50,51,52,53,54,55,56,57,58,59,60,61,62,63,64,65,66,67,68,69,70,71,0,1,2,3,4,5,6,7,8,9,10,11,12,13,14,15,16,17,18,19,20,21,22,23,24,25,26,27,28,29,30,31,32,33,34,35,72,73,74,75,76,77] (by decide) rfl, hS⟩
  clear hP hD hS
  refine lv_aload_n hx hb dX11_net_92 rfl (lv_at hl 1 rfl) ?_
  refine q_get (v := .ref (ad 36)) C S (oU72 cI cB (adS ad) kt pa pl p0 l0) rfl iwX11 4 (by decide) mw_767 rfl dX11_net_93 ?_
  refine lv_dup hx hb dX11_net_96 rfl ?_
  refine q_get (v := .int (swS σ 0 2)) C S (oU0 cI cB (adS ad) kt pa pl p0 l0) rfl iwX7 2 (by decide) mw_837 rfl dX11_net_97 ?_
  refine lv_iconst (v := 1) hx hb dX11_net_100 (by decide) ?_
  refine lv_iadd hx hb dX11_net_101 ?_
  refine q_put C S (oU0 cI cB (adS ad) kt pa pl p0 l0) rfl iwX7 tyX7 tyX7_ok nmX7 2 (by decide) mw_837 rfl (iU0_2 cI cB (adS ad) kt pa pl p0 l0) rfl rfl dX11_net_102 rfl (fun H locs S => ?_)
  refine lv_aload_n hx hb dX11_net_105 rfl (lv_at hl 1 rfl) ?_
  refine q_get (v := .ref (ad 36)) C S (oU72 cI cB (adS ad) kt pa pl p0 l0) rfl iwX11 4 (by decide) mw_767 rfl dX11_net_106 ?_
  refine q_get (v := .int (swS σ 0 2 + 1)) C S (oU0 cI cB (adS ad) kt pa pl p0 l0) rfl iwX7 2 (by decide) mw_837 rfl dX11_net_109 ?_
  simp only [Option.some.injEq, Prod.mk.injEq] at h
  obtain ⟨h1, h2, h3⟩ := h
  subst h3
  obtain rfl : dt = a := ha
  obtain rfl : pf = pl := hpf
  refine W.widen (k := k + dt) (n := 6 * k + 2 * dt) (by omega) (by omega) (vx_ret ?_)
  exact W.iret C.1 C.2.1 C.2.2.2.2.2.1 (fun t ht hW => ⟨⟨_, (pa, _), rfl, Prod.ext h1.symm h2.symm, by rw [ht]; exact S.1, va_K.moved hW.alike C.2.2.2.2.2.2.2.1, S.2.1⟩, S.2.2.F ht⟩) S.2.2.2.2 dX11_net_112 C.2.2.2.2.2.2.1
section S_net
variable {p : Program} {l : Launch} {e : Env} {R : Room} {s : State} {m : MethodId} {args : Array Value} {below : List Frame} {meth : Method} {c : Code} {A : Nat → Prop} {D : va_G} {cI cB cL : ClassId} {ad : Nat → Nat} {ka kv : Nat → Nat} {fv : Value} {tr kt p0 l0 pa pl : Nat}
noncomputable def fX11_net_0 (l0 : Nat) (u : Sg) (pl : Nat) : Option (Xr × Sg × Nat) := obd (fX7_copyFrom l0 (sbU2 u) pl) (fun u2 d4 => bnd (ubU2 u u2) (fun u3 => addY d4 (obt2 (fX9_tell (sbUR u3)) (fun r7 u8 => bnd (ubUR u3 u8) (fun u9 => bnd (s2 u9 72 7 r7) (fun u11 => bnd (s2 u11 73 1 0) (fun u12 => cnd ((u12 72 7) = (-1)) (cnd ((u12 0 2) < 12) (some (.inl (swS u12 0 2 + 1), s2 (swS u12) 0 2 (swS u12 0 2 + 1), 0)) (some (.inr 4, u12, 0))) (some (.inr 3, u12, 0)))))))))
noncomputable def fX11_net (l0 : Nat) (u : Sg) (pl : Nat) : Option (Xr × Sg × Nat) := fX11_net_0 l0 u pl
set_option maxRecDepth 10000 in
set_option maxHeartbeats 4000000 in
theorem wX11_net_0 (C : cx D (tyl cI cB cL) A RX11 cX11_net 2 (some .int) p s m args c meth) (Kx : kx ka kv fv A s s.heap) (Xc : ∀ x ∈ c.exceptionTable.toList, False) (hfl : l.stackTraces = false) (hR : 8 ≤ R.frames ∧ 180 ≤ R.locals) {z : Xr × Sg} {dt pf : Nat} (hC : R.cells = 1 + dt ∧ R.slots = 6 * 1 + 2 * dt) (u : Sg) {pl pa a dz : Nat} {H : Heap} {locs : List Loc} {ls : Array Slot} (hl : lv_has ls 2 [(0, .ref (ad 72))]) (S : st D (wU cI cB ad kt p0 l0 pa pl) A s u H locs) (ha : dt = a + dz) (hpf : pf = pl + dz) (h : fX11_net_0 l0 u pl = some (z.1, z.2, dz)) : W p l e R s m args below meth c H locs (0 + a) (6 * 0 + 2 * a) (vx_MQ below (qN D (tyl cI cB cL) cI cB ad kt p0 l0 pf A z) (xY D (tyl cI cB cL) (wU cI cB ad kt p0 l0) pf A z) args s (1 + dt) (6 * 1 + 2 * dt) A) (F0 m 0 ls []) := by
  have hx := C.1
  have hb := C.2.1
  have hsz := hl.1
  unfold fX11_net_0 at h
  refine lv_aload_n hx hb dX11_net_0 rfl (lv_at hl 0 rfl) ?_
  refine q_get (v := .ref (ad 36)) C S (oU72 cI cB ad kt p0 l0 pa pl) rfl iwX11 5 (by decide) mw_892 rfl dX11_net_1 ?_
  refine lv_aload_n hx hb dX11_net_4 rfl (lv_at hl 0 rfl) ?_
  refine q_get (v := .ref (ad 0)) C S (oU72 cI cB ad kt p0 l0 pa pl) rfl iwX11 4 (by decide) mw_767 rfl dX11_net_5 ?_
  obtain ⟨u2, d4, h1, h⟩ := obd_some h
  obtain ⟨u3, eu3⟩ : ∃ z : Sg, z = ubU2 u u2 := ⟨_, rfl⟩
  have h := bnd_of eu3 h
  obtain ⟨dz5, h, edz5⟩ := addY_some h
  have ha6 : dt = (a + d4) + dz5 := by omega
  have hpf6 : pf = (pl + d4) + dz5 := by omega
  refine s_callVvA (spl_U2 cI cB ad kt p0 l0) (As := [.ref (adU2 ad 36)]) (na := 1) C S (o20 cI (adU2 ad) p0 l0 pa pl) rfl (ct_X7_copyFrom l D cI cB cL (adU2 ad) p0 l0 (sbU2 u) pl h1) mw_910 mw_634 mw_636 mw_341 mw_633 hdX7_copyFrom ⟨Nat.le_trans (Nat.le_of_ble_eq_true rfl) hR.1, Nat.le_trans (Nat.le_of_ble_eq_true rfl) hR.2⟩ rfl hsz (by have hq := capY (K := 0) hC ha6 (Nat.le_of_ble_eq_true rfl); exact ⟨by omega, by omega⟩) (Nat.le_of_ble_eq_true rfl) dX11_net_8 rfl (fun pa6 H locs S => ?_)
  rw [← eu3] at S
  refine W.widen (k := 0 + (a + d4)) (n := 6 * 0 + 2 * (a + d4)) (by omega) (by omega) ?_
  refine lv_aload_n hx hb dX11_net_11 rfl (lv_at hl 0 rfl) ?_
  refine lv_aload_n hx hb dX11_net_12 rfl (lv_at hl 0 rfl) ?_
  refine q_get (v := .ref (ad 75)) C S (oU72 cI cB ad kt p0 l0 pa6 (pl + d4)) rfl iwX11 1 (by decide) mw_957 rfl dX11_net_13 ?_
  refine lv_aload_n hx hb dX11_net_16 rfl (lv_at hl 0 rfl) ?_
  refine q_get (v := .ref (ad 36)) C S (oU72 cI cB ad kt p0 l0 pa6 (pl + d4)) rfl iwX11 5 (by decide) mw_892 rfl dX11_net_17 ?_
  obtain ⟨r7, u8, h10, h⟩ := obt2_some h
  obtain ⟨u9, eu9⟩ : ∃ z : Sg, z = ubUR u3 u8 := ⟨_, rfl⟩
  have h := bnd_of eu9 h
  refine s_callViK (spl_UR cI cB ad kt p0 l0) (As := [.ref (adUR ad 0)]) (na := 1) C Kx S (oR36 cI cB (adUR ad) pa6 (pl + d4)) rfl (ct_X9_tell l D cI cB cL ka kv fv (adUR ad) pa6 (pl + d4) (sbUR u3) h10) mw_959 mw_960 mw_961 mw_667 mw_958 hdX9_tell ⟨Nat.le_trans (Nat.le_of_ble_eq_true rfl) hR.1, Nat.le_trans (Nat.le_of_ble_eq_true rfl) hR.2⟩ rfl hsz (capY (K := 0) hC ha6 (Nat.le_of_ble_eq_true rfl)) (Nat.le_of_ble_eq_true rfl) dX11_net_20 rfl (fun H locs S => ?_)
  rw [← eu9] at S
  obtain ⟨u11, eu11⟩ : ∃ z : Sg, z = s2 u9 72 7 r7 := ⟨_, rfl⟩
  have h := bnd_of eu11 h
  refine q_put C S (oU72 cI cB ad kt p0 l0 pa6 (pl + d4)) rfl iwX11 tyX11 tyX11_ok nmX11 7 (by decide) mw_766 rfl (iU72_7 cI cB ad kt p0 l0 pa6 (pl + d4)) rfl rfl dX11_net_23 eu11 (fun H locs S => ?_)
  refine lv_aload_n hx hb dX11_net_26 rfl (lv_at hl 0 rfl) ?_
  refine q_get (v := .ref (ad 73)) C S (oU72 cI cB ad kt p0 l0 pa6 (pl + d4)) rfl iwX11 0 (by decide) mw_759 rfl dX11_net_27 ?_
  refine lv_iconst (v := 0) hx hb dX11_net_30 (by decide) ?_
  obtain ⟨u12, eu12⟩ : ∃ z : Sg, z = s2 u11 73 1 0 := ⟨_, rfl⟩
  have h := bnd_of eu12 h
  refine q_put C S (oU73 cI cB ad kt p0 l0 pa6 (pl + d4)) rfl iwX10 tyX10 tyX10_ok nmX10 1 (by decide) mw_760 rfl (iU73_1 cI cB ad kt p0 l0 pa6 (pl + d4)) rfl rfl dX11_net_31 eu12 (fun H locs S => ?_)
  refine lv_aload_n hx hb dX11_net_34 rfl (lv_at hl 0 rfl) ?_
  refine q_get (v := .int (u12 72 7)) C S (oU72 cI cB ad kt p0 l0 pa6 (pl + d4)) rfl iwX11 7 (by decide) mw_766 rfl dX11_net_35 ?_
  refine lv_iconst (v := (-1)) hx hb dX11_net_38 (by decide) ?_
  refine lv_icmp_eq (tgt := 52) hx hb dX11_net_39 (by decide) (fun c13 => ?_) (fun c13 => ?_)
  · have h := cnd_t c13 h
    refine lv_aload_n hx hb dX11_net_52 rfl (lv_at hl 0 rfl) ?_
    refine q_get (v := .ref (ad 0)) C S (oU72 cI cB ad kt p0 l0 pa6 (pl + d4)) rfl iwX11 4 (by decide) mw_767 rfl dX11_net_53 ?_
    refine q_get (v := .int (u12 0 2)) C S (oU0 cI cB ad kt p0 l0 pa6 (pl + d4)) rfl iwX7 2 (by decide) mw_837 rfl dX11_net_56 ?_
    refine lv_bipush (v := 12) hx hb dX11_net_59 (by decide) ?_
    refine lv_icmp_lt (tgt := 74) hx hb dX11_net_61 (by decide) (fun c14 => ?_) (fun c14 => ?_)
    · have h := cnd_t c14 h
      exact n_tail (K := 0) (k := 1) C (lv_sub hl [0] rfl) S h ha6 hpf6 (Nat.le_of_ble_eq_true rfl)
    · have h := cnd_f c14 h
      exact y_throw (K := 0) (k := 1) C Kx Xc hfl S 4 (by decide +kernel) xat_4 xag_4 xao_4 xcl_4 xin_4 (kst_9 Kx) hsz dX11_net_64 dX11_net_67 dX11_net_68 dX11_net_70 dX11_net_73 ⟨Nat.le_trans (Nat.le_of_ble_eq_true rfl) hR.1, Nat.le_trans (Nat.le_of_ble_eq_true rfl) hR.2⟩ (Nat.le_of_ble_eq_true rfl) hC (Nat.le_of_ble_eq_true rfl) h ha6 hpf6
  · have h := cnd_f c13 h
    exact y_throw (K := 0) (k := 1) C Kx Xc hfl S 3 (by decide +kernel) xat_3 xag_3 xao_3 xcl_3 xin_3 (kst_8 Kx) hsz dX11_net_42 dX11_net_45 dX11_net_46 dX11_net_48 dX11_net_51 ⟨Nat.le_trans (Nat.le_of_ble_eq_true rfl) hR.1, Nat.le_trans (Nat.le_of_ble_eq_true rfl) hR.2⟩ (Nat.le_of_ble_eq_true rfl) hC (Nat.le_of_ble_eq_true rfl) h ha6 hpf6
set_option maxRecDepth 10000 in
set_option maxHeartbeats 4000000 in
theorem ct_X11_net (l : Launch) (hfl : l.stackTraces = false) (D : va_G) (cI cB cL : ClassId) (ka kv : Nat → Nat) (fv : Value) (ad : Nat → Nat) (kt p0 l0 : Nat) (u : Sg) (pl : Nat) {z : Xr × Sg} {dz : Nat} (h : fX11_net l0 u pl = some (z.1, z.2, dz)) : metN l D cI cB cL ka kv fv 2 (some .int) 8 180 1 ad kt p0 l0 u pl z dz := by
  intro pa sz
  refine vx_ofW (cc := cX11_net) (maxL := 2) (ret := (some .int)) (by decide) rfl ?_
  intro p e s m args below meth c s₁ B hml Xc hv
  obtain ⟨rfl, C, S, Kx⟩ := q_entryK B hml hv
  have hl := lv_entry ([.ref (ad 72)]) (n := 2) (Nat.le_of_ble_eq_true rfl)
  rw [lg_entry_eq]
  generalize (lg_sl ([.ref (ad 72)]) ++ List.replicate (2 - (lg_sl ([.ref (ad 72)])).length) Slot.unset).toArray = ls at hl ⊢
  exact wX11_net_0 C Kx Xc hfl ⟨Nat.le_refl _, Nat.le_refl _⟩ ⟨rfl, rfl⟩ u (a := 0) (lv_sub hl [0] rfl) S (Nat.zero_add _).symm rfl h
end S_net
