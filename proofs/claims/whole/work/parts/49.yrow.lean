/-! methods of the object in which a pool may grow -/
def addY (d : Nat) (o : Option (Xr × Sg × Nat)) : Option (Xr × Sg × Nat) := match o with
  | none => none
  | some z => some (z.1, z.2.1, d + z.2.2)
theorem addY_some {d n : Nat} {o : Option (Xr × Sg × Nat)} {r : Xr} {σ : Sg} (h : addY d o = some (r, σ, n)) : ∃ k, o = some (r, σ, k) ∧ n = d + k := by
  cases o with
  | none => cases h
  | some z =>
    obtain ⟨z0, z1, z2⟩ := z
    simp only [addY, Option.some.injEq, Prod.mk.injEq] at h
    exact ⟨z2, by rw [h.1, h.2.1], h.2.2.symm⟩
def obxY (o : Option (Xr × Sg)) (mp : Sg → Sg) (k : Sg → Option (Xr × Sg × Nat)) : Option (Xr × Sg × Nat) := match o with
  | none => none
  | some (.inl _, u) => k (mp u)
  | some (.inr E, u) => some (.inr E, mp u, 0)
theorem obxY_some {o : Option (Xr × Sg)} {mp : Sg → Sg} {k : Sg → Option (Xr × Sg × Nat)} {z : Xr × Sg} {n : Nat} (h : obxY o mp k = some (z.1, z.2, n)) : ∃ (zc : Xr × Sg) (KK : Sg → Option (Xr × Sg × Nat)), KK = k ∧ o = some zc ∧ ∀ u, (zc = (.inl 0, u) → KK (mp u) = some (z.1, z.2, n)) ∧ (∀ E, zc = (.inr E, u) → z = (.inr E, mp u) ∧ n = 0) := by
  match o, h with
  | some (.inl r, v), h => exact ⟨_, k, rfl, rfl, fun u => ⟨fun e => (by cases e; exact h), fun E e => (by cases e)⟩⟩
  | some (.inr E, v), h =>
    refine ⟨_, k, rfl, rfl, fun u => ⟨fun e => (by cases e), fun E' e => ?_⟩⟩
    cases e
    simp only [obxY, Option.some.injEq, Prod.mk.injEq] at h
    exact ⟨Prod.ext h.1.symm h.2.1.symm, h.2.2.symm⟩
theorem app_of {α β : Type} {f k : α → β} {u : α} {z : β} (e : f = k) (h : f u = z) : k u = z := by subst e; exact h
abbrev qYI (D : va_G) (tys : List (ClassId × FieldType)) (wf : Nat → Nat → Sg → va_W) (pf : Nat) (A : Nat → Prop) (z : Xr × Sg) : Array Value → State → Outcome → State → Prop := va_Qi (fun x (P : Nat × Sg) => z = ((.inl x, P.2) : Xr × Sg)) (fun P t => post D tys (wf P.1 pf) A P.2 t) A
abbrev qYV (D : va_G) (tys : List (ClassId × FieldType)) (wf : Nat → Nat → Sg → va_W) (pf : Nat) (A : Nat → Prop) (z : Xr × Sg) : Array Value → State → Outcome → State → Prop := va_Qv (fun (P : Nat × Sg) => z = ((.inl 0, P.2) : Xr × Sg)) (fun P t => post D tys (wf P.1 pf) A P.2 t) A
abbrev xY (D : va_G) (tys : List (ClassId × FieldType)) (wf : Nat → Nat → Sg → va_W) (pf : Nat) (A : Nat → Prop) (z : Xr × Sg) : String → State → State → Prop := vx_X (fun P : Nat × Nat × Sg => z = ((.inr P.2.1, P.2.2) : Xr × Sg)) (fun E P t => E = exn P.2.1 ∧ post D tys (wf P.1 pf) A P.2.2 t) A
abbrev rmY (rf rl k d : Nat) : Room := { frames := rf, cells := k + d, slots := 6 * k + 2 * d, locals := rl }
def metYI (l : Launch) (D : va_G) (tys : List (ClassId × FieldType)) (ka kv : Nat → Nat) (fv : Value) (y : MethodName) (b : ByteArray) (n : Nat) (rt : Option FieldType) (rf rl k : Nat) (wf : Nat → Nat → Sg → va_W) (as : List Value) (σ : Sg) (pl : Nat) (z : Xr × Sg) (d : Nat) : Prop :=
  ∀ pa sz, vx_Met l y (Cond.code y b n rt :: gw) (rmY rf rl k d) (va_Pc as (preK D tys (wf pa pl) σ ka kv fv sz)) (qYI D tys wf (pl + d) (va_A (wf pa pl σ) sz) z) (xY D tys wf (pl + d) (va_A (wf pa pl σ) sz) z) (k + d) (6 * k + 2 * d) (va_A (wf pa pl σ) sz)
def metYV (l : Launch) (D : va_G) (tys : List (ClassId × FieldType)) (ka kv : Nat → Nat) (fv : Value) (y : MethodName) (b : ByteArray) (n rf rl k : Nat) (wf : Nat → Nat → Sg → va_W) (as : List Value) (σ : Sg) (pl : Nat) (z : Xr × Sg) (d : Nat) : Prop :=
  ∀ pa sz, vx_Met l y (Cond.code y b n none :: gw) (rmY rf rl k d) (va_Pc as (preK D tys (wf pa pl) σ ka kv fv sz)) (qYV D tys wf (pl + d) (va_A (wf pa pl σ) sz) z) (xY D tys wf (pl + d) (va_A (wf pa pl σ) sz) z) (k + d) (6 * k + 2 * d) (va_A (wf pa pl σ) sz)
theorem capY {R : Room} {k dt a dz K : Nat} (hC : R.cells = k + dt ∧ R.slots = 6 * k + 2 * dt) (ha : dt = a + dz) (hK : K ≤ k) : K + a ≤ R.cells ∧ 6 * K + 2 * a ≤ R.slots := by
  constructor <;> omega
section QY
variable {p : Program} {l : Launch} {e : Env} {R : Room} {s : State} {m : MethodId} {args : Array Value} {below : List Frame} {meth : Method} {c : Code} {H : Heap} {locs : List Loc} {cells slots mc ms : Nat} {Q : State → Prop}
variable {D : va_G} {cI cB cL : ClassId} {A : Nat → Prop} {own : String} {cc : ByteArray} {nL : Nat} {ret : Option FieldType} {wf wd wc : Nat → Nat → Sg → va_W} {sb : Sg → Sg} {ub : Sg → Sg → Sg} {ps is pm : List Nat} {σ ν : Sg} {pc pa pl : Nat} {ls : Array Slot} {rest : List Value}
variable {y : MethodName} {b : ByteArray} {n idx rf rl na k d a dz dt pf K : Nat} {rt : Option FieldType} {As : List Value} {r : Int32} {z zc : Xr × Sg} {ka kv : Nat → Nat} {fv : Value} {Qc : Array Value → State → Outcome → State → Prop}
theorem s_callVvA (Sp : splA wd wc sb ub ps is pm) (C : cx D (tyl cI cB cL) A own cc nL ret p s m args c meth) (S : st D (wd pa pl) A s σ H locs) {q ao ci : Nat} {fl : Sg → List Value} (O : objAt (wc pa pl) q ao ci fl) {Cn : String} {T : u_T} {N : Nat} (hc : vwCl[ci]? = some (Cn, T, N)) (hM : metVA l D cI cB cL y b n rf rl wc (.ref ao :: As) (sb σ) pl ν d) (h1 : Cond.methodLink own idx y ∈ gw) (h2 : Cond.instanceMethod y ∈ gw) (h3 : Cond.selects Cn y y ∈ gw) (h4 : Cond.initialized Cn ∈ gw) (h5 : Cond.code y b n none ∈ gw)
    (hd : y.cls = Cn ∧ y.cls ≠ "java/lang/invoke/MethodHandle" ∧ y.cls ≠ "java/lang/invoke/VarHandle" ∧ (parseMethodDescriptor y.desc).map (fun d => d.parameters.length) = some na) (hR : rf + 1 ≤ R.frames ∧ 8 + (n + 11) + rl ≤ R.locals) (hna : As.length = na) (hls : ls.size = nL) (hcap : cells + d ≤ R.cells ∧ slots + 2 * d ≤ R.slots) (hre : (rest.map fun v => v.category).sum ≤ 8) (hdg : decode cc pc = .ok (.invokevirtual idx, 3)) {sk : List Value} (hsk : sk = As.reverse ++ .ref ao :: rest)
    (kk : ∀ (pa1 : Nat) (H1 : Heap) (locs1 : List Loc), st D (wd pa1 (pl + d)) A s (ub σ ν) H1 locs1 → W p l e R s m args below meth c H1 locs1 (cells + d) (slots + 2 * d) Q (F0 m (pc + 3) ls rest)) : W p l e R s m args below meth c H locs cells slots Q (F0 m pc ls sk) := by
  subst hsk
  refine va_callv (va_runV (As := As) (rest := rest) ⟨C.1, C.2.1, C.2.2.1, C.2.2.2.1, C.2.2.2.2.1⟩ (hM pa H.size) (cwV na C.2.2.2.2.1 (gg_V h1 h2 h3 h4 h5) rfl rfl rfl hd hR) ⟨pre_blind, va_recv C.2.2.2.2.2.2.2.1 (s_P Sp S) (ci := ci) (q0 := q) hc (O (sb σ)), s_pre Sp C S⟩ rfl hna hls rfl (lv_room hre) hdg hcap) S.2.2 (fun z _ h => s_own Sp C S z h) (s_own Sp C S) (fun u t H1 locs1 ht hvm hw hB hz hk hS => ?_)
  exact kk u H1 locs1 (s_after Sp C S ht hB hk hS)
theorem s_callViA (Sp : splA wd wc sb ub ps is pm) (C : cx D (tyl cI cB cL) A own cc nL ret p s m args c meth) (S : st D (wd pa pl) A s σ H locs) {q ao ci : Nat} {fl : Sg → List Value} (O : objAt (wc pa pl) q ao ci fl) {Cn : String} {T : u_T} {N : Nat} (hc : vwCl[ci]? = some (Cn, T, N)) (hM : metIA l D cI cB cL y b n rt rf rl wc (.ref ao :: As) (sb σ) pl r ν d) (h1 : Cond.methodLink own idx y ∈ gw) (h2 : Cond.instanceMethod y ∈ gw) (h3 : Cond.selects Cn y y ∈ gw) (h4 : Cond.initialized Cn ∈ gw) (h5 : Cond.code y b n rt ∈ gw)
    (hd : y.cls = Cn ∧ y.cls ≠ "java/lang/invoke/MethodHandle" ∧ y.cls ≠ "java/lang/invoke/VarHandle" ∧ (parseMethodDescriptor y.desc).map (fun d => d.parameters.length) = some na) (hR : rf + 1 ≤ R.frames ∧ 8 + (n + 11) + rl ≤ R.locals) (hna : As.length = na) (hls : ls.size = nL) (hcap : cells + d ≤ R.cells ∧ slots + 2 * d ≤ R.slots) (hre : (rest.map fun v => v.category).sum ≤ 8) (hdg : decode cc pc = .ok (.invokevirtual idx, 3)) {sk : List Value} (hsk : sk = As.reverse ++ .ref ao :: rest)
    (kk : ∀ (pa1 : Nat) (H1 : Heap) (locs1 : List Loc), st D (wd pa1 (pl + d)) A s (ub σ ν) H1 locs1 → W p l e R s m args below meth c H1 locs1 (cells + d) (slots + 2 * d) Q (F0 m (pc + 3) ls (.int r :: rest))) : W p l e R s m args below meth c H locs cells slots Q (F0 m pc ls sk) := by
  subst hsk
  refine va_calli (va_runV (As := As) (rest := rest) ⟨C.1, C.2.1, C.2.2.1, C.2.2.2.1, C.2.2.2.2.1⟩ (hM pa H.size) (cwV na C.2.2.2.2.1 (gg_V h1 h2 h3 h4 h5) rfl rfl rfl hd hR) ⟨pre_blind, va_recv C.2.2.2.2.2.2.2.1 (s_P Sp S) (ci := ci) (q0 := q) hc (O (sb σ)), s_pre Sp C S⟩ rfl hna hls rfl (lv_room hre) hdg hcap) S.2.2 (fun z _ h => s_own Sp C S z h) (s_own Sp C S) (fun r1 u t H1 locs1 ht hvm hw hB hz hk hS => ?_)
  obtain rfl := hw
  exact kk u H1 locs1 (s_after Sp C S ht hB hk hS)
theorem y_iret (C : cx D (tyl cI cB cL) A own cc nL (some .int) p s m args c meth) (S : st D (wf pa pl) A s σ H locs) {v : Int32} (h : some ((.inl v, σ, 0) : Xr × Sg × Nat) = some (z.1, z.2, dz)) (ha : dt = a + dz) (hpf : pf = pl + dz) (hK : K ≤ k) (hdg : decode cc pc = .ok (.ireturn, 1)) : W p l e R s m args below meth c H locs (K + a) (6 * K + 2 * a) (vx_MQ below (qYI D (tyl cI cB cL) wf pf A z) (xY D (tyl cI cB cL) wf pf A z) args s (k + dt) (6 * k + 2 * dt) A) (F0 m pc ls [.int v]) := by
  simp only [Option.some.injEq, Prod.mk.injEq] at h
  obtain ⟨h1, h2, h3⟩ := h
  subst h3
  obtain rfl : dt = a := ha
  obtain rfl : pf = pl := hpf
  refine W.widen (k := k + dt) (n := 6 * k + 2 * dt) (by omega) (by omega) (vx_ret ?_)
  exact W.iret C.1 C.2.1 C.2.2.2.2.2.1 (fun t ht hW => ⟨⟨v, (pa, σ), rfl, Prod.ext h1.symm h2.symm, by rw [ht]; exact S.1, va_K.moved hW.alike C.2.2.2.2.2.2.2.1, S.2.1⟩, S.2.2.F ht⟩) S.2.2.2.2 hdg C.2.2.2.2.2.2.1
theorem y_zret {ty : FieldType} (C : cx D (tyl cI cB cL) A own cc nL (some ty) p s m args c meth) (S : st D (wf pa pl) A s σ H locs) {v : Int32} (hn : narrow ty (.int v) = .int v) (h : some ((.inl v, σ, 0) : Xr × Sg × Nat) = some (z.1, z.2, dz)) (ha : dt = a + dz) (hpf : pf = pl + dz) (hK : K ≤ k) (hdg : decode cc pc = .ok (.ireturn, 1)) : W p l e R s m args below meth c H locs (K + a) (6 * K + 2 * a) (vx_MQ below (qYI D (tyl cI cB cL) wf pf A z) (xY D (tyl cI cB cL) wf pf A z) args s (k + dt) (6 * k + 2 * dt) A) (F0 m pc ls [.int v]) := by
  simp only [Option.some.injEq, Prod.mk.injEq] at h
  obtain ⟨h1, h2, h3⟩ := h
  subst h3
  obtain rfl : dt = a := ha
  obtain rfl : pf = pl := hpf
  refine W.widen (k := k + dt) (n := 6 * k + 2 * dt) (by omega) (by omega) (vx_ret ?_)
  exact W.zret C.1 C.2.1 C.2.2.2.2.2.1 hn (fun t ht hW => ⟨⟨v, (pa, σ), rfl, Prod.ext h1.symm h2.symm, by rw [ht]; exact S.1, va_K.moved hW.alike C.2.2.2.2.2.2.2.1, S.2.1⟩, S.2.2.F ht⟩) S.2.2.2.2 hdg C.2.2.2.2.2.2.1
theorem y_vret (C : cx D (tyl cI cB cL) A own cc nL none p s m args c meth) (S : st D (wf pa pl) A s σ H locs) (h : some ((.inl 0, σ, 0) : Xr × Sg × Nat) = some (z.1, z.2, dz)) (ha : dt = a + dz) (hpf : pf = pl + dz) (hK : K ≤ k) (hdg : decode cc pc = .ok (.return_, 1)) : W p l e R s m args below meth c H locs (K + a) (6 * K + 2 * a) (vx_MQ below (qYV D (tyl cI cB cL) wf pf A z) (xY D (tyl cI cB cL) wf pf A z) args s (k + dt) (6 * k + 2 * dt) A) (F0 m pc ls []) := by
  simp only [Option.some.injEq, Prod.mk.injEq] at h
  obtain ⟨h1, h2, h3⟩ := h
  subst h3
  obtain rfl : dt = a := ha
  obtain rfl : pf = pl := hpf
  refine W.widen (k := k + dt) (n := 6 * k + 2 * dt) (by omega) (by omega) (vx_ret ?_)
  exact W.vret C.1 C.2.1 C.2.2.2.2.2.1 (fun t ht hW => ⟨⟨(pa, σ), rfl, Prod.ext h1.symm h2.symm, by rw [ht]; exact S.1, va_K.moved hW.alike C.2.2.2.2.2.2.2.1, S.2.1⟩, S.2.2.F ht⟩) S.2.2.2.2 hdg C.2.2.2.2.2.2.1
theorem y_out (C : cx D (tyl cI cB cL) A own cc nL ret p s m args c meth) (Xc : ∀ x ∈ c.exceptionTable.toList, False) {E : Nat} {u : Sg} {ce : Cell} {q9 : Addr} (S : st D (wf pa pl) A s u H locs) (hz : z = (.inr E, u) ∧ dz = 0) (ha : dt = a + dz) (hpf : pf = pl + dz) (hcell : H[q9]? = some ce) (hv : ce.vm = .none) (hcl : s.vm.findClass (exn E) = some ce.cls) (hK : K ≤ k) : vx_W p l e R s m args below meth c H locs (K + a) (6 * K + 2 * a) (vx_MQ below Qc (xY D (tyl cI cB cL) wf pf A z) args s (k + dt) (6 * k + 2 * dt) A) (F0 m pc ls rest) q9 := by
  obtain ⟨hz, h3⟩ := hz
  subst h3
  obtain rfl : dt = a := ha
  obtain rfl : pf = pl := hpf
  exact vx_out (fun x hx => (Xc x hx).elim) C.2.2.2.2.2.2.1 hcell hv hcl (fun t ht hvm => ⟨(pa, E, u), hz, ⟨rfl, by rw [ht]; exact S.1, va_K.moved hvm C.2.2.2.2.2.2.2.1, S.2.1⟩, S.2.2.F ht⟩) S.2.2.2.2 (by omega) (by omega)
/-- 'throw new E("text")' -/
theorem y_throw (C : cx D (tyl cI cB cL) A RX11 cc nL ret p s m args c meth) (Kx : kx ka kv fv A s s.heap) (Xc : ∀ x ∈ c.exceptionTable.toList, False) (hfl : l.stackTraces = false) (S : st D (wf pa pl) A s σ H locs) (E : Nat) {ik ic is sa : Nat} {text : String} (hE : Bundle.fit (exn E) = true) (h1 : ∀ w ∈ vx_atS RX11 ic (exn E) ["java/lang/RuntimeException", "java/lang/Exception"], w ∈ lw_tbl) (h2 : (vx_atS RX11 ic (exn E) ["java/lang/RuntimeException", "java/lang/Exception"]).all (fun w => goodWord w || (w.onTables && w.faceAtom)) = true) (h3 : ∀ w ∈ Cond.classLink RX11 ik (exn E) :: Cond.initialized (exn E) :: vx_atS RX11 ic (exn E) ["java/lang/RuntimeException", "java/lang/Exception"], vx_ot w = true) (h4 : Cond.classLink RX11 ik (exn E) ∈ gw) (h5 : Cond.initialized (exn E) ∈ gw) (hstr : vk_R RX11 is text sa s)
    (hls : ls.size = nL) (d0 : decode cc pc = .ok (.new ik, 3)) (d3 : decode cc (pc + 3) = .ok (.dup, 1)) (d4 : decode cc (pc + 4) = .ok (.ldc is, 2)) (d6 : decode cc (pc + 6) = .ok (.invokespecial ic, 3)) (d9 : decode cc (pc + 9) = .ok (.athrow, 1))
    (hR : 6 ≤ R.frames ∧ 90 ≤ R.locals) (hre : (rest.map fun v => v.category).sum ≤ 8) (hC : R.cells = k + dt ∧ R.slots = 6 * k + 2 * dt) (hK : K + 1 ≤ k) (h : some ((.inr E, σ, 0) : Xr × Sg × Nat) = some (z.1, z.2, dz)) (ha : dt = a + dz) (hpf : pf = pl + dz) :
    W p l e R s m args below meth c H locs (K + a) (6 * K + 2 * a) (vx_MQ below Qc (xY D (tyl cI cB cL) wf pf A z) args s (k + dt) (6 * k + 2 * dt) A) (F0 m pc ls rest) := by
  simp only [Option.some.injEq, Prod.mk.injEq] at h
  obtain ⟨g1, g2, g3⟩ := h
  subst g3
  obtain rfl : dt = a := ha
  obtain rfl : pf = pl := hpf
  refine vx_throwS (A := A) C.1 C.2.1 hfl (names := ["java/lang/RuntimeException", "java/lang/Exception"]) C.2.2.2.1 hE (by decide +kernel) (C.2.2.2.2.1 _ h4) (C.2.2.2.2.1 _ h5) hstr (x_hat h1 h2 C.2.2.2.2.1 Kx.2.2.2.2.2.2) h3 Kx.2.2.2.2.1 Kx.2.2.2.2.2.1 S.2.2 (hls.trans C.2.2.1.symm) d0 d3 d4 d6 d9 (fun x hx => (Xc x hx).elim) (Nat.lt_of_lt_of_le (Nat.le_of_ble_eq_true rfl : 5 < 6) hR.1) (Nat.le_trans (Nat.add_le_add_right hre _) hR.2) (by omega) (by omega) C.2.2.2.2.2.2.1 (fun t hvm hz hk => ?_) S.2.2.2.2 (by omega) (by omega)
  refine ⟨(pa, E, σ), Prod.ext g1.symm g2.symm, ⟨rfl, S.1.kept (fun k q hq => hk q.1 (S.1 k q hq).lt), va_K.moved hvm C.2.2.2.2.2.2.2.1, S.2.1⟩, Nat.le_trans S.2.2.1 hz, fun q h1 h2 => ?_⟩
  exact (hk q (Nat.lt_of_lt_of_le h1 S.2.2.1)).trans (S.2.2.2.1 q h1 h2)
/-- a call of a method of the object that throws, in a part of the world -/
theorem y_callVv (Sp : splA wd wc sb ub ps is pm) (C : cx D (tyl cI cB cL) A own cc nL ret p s m args c meth) (Kx : kx ka kv fv A s s.heap) (Xc : ∀ x ∈ c.exceptionTable.toList, False) {p0 l0 : Nat} (S : st D (wd p0 l0) A s σ H locs) (hwf : wd p0 l0 = wf pa pl) {q ao ci : Nat} {fl : Sg → List Value} (O : objAt (wc p0 l0) q ao ci fl) {Cn : String} {T : u_T} {N : Nat} (hc : vwCl[ci]? = some (Cn, T, N)) (hM : metXV l D (tyl cI cB cL) ka kv fv y b n rf rl d (wc p0 l0) (.ref ao :: As) (sb σ) zc) {KK : Sg → Option (Xr × Sg × Nat)} (hh : ∀ u, (zc = (.inl 0, u) → KK (ub σ u) = some (z.1, z.2, dz)) ∧ (∀ E, zc = (.inr E, u) → z = (.inr E, ub σ u) ∧ dz = 0)) (h1 : Cond.methodLink own idx y ∈ gw) (h2 : Cond.instanceMethod y ∈ gw) (h3 : Cond.selects Cn y y ∈ gw) (h4 : Cond.initialized Cn ∈ gw) (h5 : Cond.code y b n none ∈ gw)
    (hd : y.cls = Cn ∧ y.cls ≠ "java/lang/invoke/MethodHandle" ∧ y.cls ≠ "java/lang/invoke/VarHandle" ∧ (parseMethodDescriptor y.desc).map (fun d => d.parameters.length) = some na) (hR : rf + 1 ≤ R.frames ∧ 8 + (n + 11) + rl ≤ R.locals) (hna : As.length = na) (hls : ls.size = nL) (hC : R.cells = k + dt ∧ R.slots = 6 * k + 2 * dt) (ha : dt = a + dz) (hpf : pf = pl + dz) (hK : K + d ≤ k) (hre : (rest.map fun v => v.category).sum ≤ 8) (hdg : decode cc pc = .ok (.invokevirtual idx, 3)) {sk : List Value} (hsk : sk = As.reverse ++ .ref ao :: rest)
    (kk : ∀ (u : Sg) (H1 : Heap) (locs1 : List Loc), KK u = some (z.1, z.2, dz) → st D (wf pa pl) A s u H1 locs1 → W p l e R s m args below meth c H1 locs1 (K + d + a) (6 * (K + d) + 2 * a) (vx_MQ below Qc (xY D (tyl cI cB cL) wf pf A z) args s (k + dt) (6 * k + 2 * dt) A) (F0 m (pc + 3) ls rest)) : W p l e R s m args below meth c H locs (K + a) (6 * K + 2 * a) (vx_MQ below Qc (xY D (tyl cI cB cL) wf pf A z) args s (k + dt) (6 * k + 2 * dt) A) (F0 m pc ls sk) := by
  subst hsk
  have e1 : K + a + d = K + d + a := by omega
  have e2 : 6 * K + 2 * a + 6 * d = 6 * (K + d) + 2 * a := by omega
  refine vx_callv (vx_runV (As := As) (rest := rest) ⟨C.1, C.2.1, C.2.2.1, C.2.2.2.1, C.2.2.2.2.1⟩ (hM H.size) (cwV na C.2.2.2.2.1 (gg_V h1 h2 h3 h4 h5) rfl rfl rfl hd hR) ⟨preK_blind, va_recv C.2.2.2.2.2.2.2.1 (s_P Sp S) (ci := ci) (q0 := q) hc (O (sb σ)), fun U hU hW => ⟨rfl, (s_pre (as := .ref ao :: As) Sp C S U hU hW).2, kx_call Kx S.2.2 (s_own Sp C S) hU hW⟩⟩ rfl hna hls rfl (lv_room hre) hdg ⟨by omega, by omega⟩) S.2.2 (fun z _ h => s_own Sp C S z h) (s_own Sp C S) (fun z _ h => s_own Sp C S z h) (fun E ce q9 u t H1 locs1 ht hvm hp hB hz hk hS hce hcv hcl => ?_) (fun u t H1 locs1 ht hvm hw hB hz hk hS => ?_)
  · obtain ⟨rfl, hB⟩ := hB
    have S1 := s_after Sp C S ht hB hk hS
    rw [hwf] at S1
    rw [e1, e2]
    exact y_out C Xc S1 ((hh u.2).2 u.1 hp) ha hpf hce hcv hcl hK
  · have S1 := s_after Sp C S ht hB hk hS
    rw [hwf] at S1
    rw [e1, e2]
    exact kk _ H1 locs1 ((hh u).1 hw) S1
/-- the same, of a static one -/
theorem y_callSv (Sp : splA wd wc sb ub ps is pm) (C : cx D (tyl cI cB cL) A own cc nL ret p s m args c meth) (Kx : kx ka kv fv A s s.heap) (Xc : ∀ x ∈ c.exceptionTable.toList, False) {p0 l0 : Nat} (S : st D (wd p0 l0) A s σ H locs) (hwf : wd p0 l0 = wf pa pl) (hM : metXV l D (tyl cI cB cL) ka kv fv y b n rf rl d (wc p0 l0) As (sb σ) zc) {KK : Sg → Option (Xr × Sg × Nat)} (hh : ∀ u, (zc = (.inl 0, u) → KK (ub σ u) = some (z.1, z.2, dz)) ∧ (∀ E, zc = (.inr E, u) → z = (.inr E, ub σ u) ∧ dz = 0)) (h1 : Cond.methodLink own idx y ∈ gw) (h2 : Cond.static y ∈ gw) (h4 : Cond.initialized y.cls ∈ gw) (h5 : Cond.code y b n none ∈ gw)
    (hd : y.cls ≠ "java/lang/invoke/MethodHandle" ∧ y.cls ≠ "java/lang/invoke/VarHandle" ∧ (parseMethodDescriptor y.desc).map (fun d => d.parameters.length) = some na) (hR : rf + 1 ≤ R.frames ∧ 8 + (n + 11) + rl ≤ R.locals) (hna : As.length = na) (hls : ls.size = nL) (hC : R.cells = k + dt ∧ R.slots = 6 * k + 2 * dt) (ha : dt = a + dz) (hpf : pf = pl + dz) (hK : K + d ≤ k) (hre : (rest.map fun v => v.category).sum ≤ 8) (hdg : decode cc pc = .ok (.invokestatic idx, 3)) {sk : List Value} (hsk : sk = As.reverse ++ rest)
    (kk : ∀ (u : Sg) (H1 : Heap) (locs1 : List Loc), KK u = some (z.1, z.2, dz) → st D (wf pa pl) A s u H1 locs1 → W p l e R s m args below meth c H1 locs1 (K + d + a) (6 * (K + d) + 2 * a) (vx_MQ below Qc (xY D (tyl cI cB cL) wf pf A z) args s (k + dt) (6 * k + 2 * dt) A) (F0 m (pc + 3) ls rest)) : W p l e R s m args below meth c H locs (K + a) (6 * K + 2 * a) (vx_MQ below Qc (xY D (tyl cI cB cL) wf pf A z) args s (k + dt) (6 * k + 2 * dt) A) (F0 m pc ls sk) := by
  subst hsk
  have e1 : K + a + d = K + d + a := by omega
  have e2 : 6 * K + 2 * a + 6 * d = 6 * (K + d) + 2 * a := by omega
  refine vx_callv (vx_runS (As := As) (rest := rest) ⟨C.1, C.2.1, C.2.2.1, C.2.2.2.1, C.2.2.2.2.1⟩ (hM H.size) (va_cwS na C.2.2.2.2.1 (gg_S h1 h2 h4 h5) rfl rfl rfl hd hR) ⟨preK_blind, fun U hU hW => ⟨rfl, (s_pre (as := As) Sp C S U hU hW).2, kx_call Kx S.2.2 (s_own Sp C S) hU hW⟩⟩ rfl hna hls rfl (lv_room hre) hdg ⟨by omega, by omega⟩) S.2.2 (fun z _ h => s_own Sp C S z h) (s_own Sp C S) (fun z _ h => s_own Sp C S z h) (fun E ce q9 u t H1 locs1 ht hvm hp hB hz hk hS hce hcv hcl => ?_) (fun u t H1 locs1 ht hvm hw hB hz hk hS => ?_)
  · obtain ⟨rfl, hB⟩ := hB
    have S1 := s_after Sp C S ht hB hk hS
    rw [hwf] at S1
    rw [e1, e2]
    exact y_out C Xc S1 ((hh u.2).2 u.1 hp) ha hpf hce hcv hcl hK
  · have S1 := s_after Sp C S ht hB hk hS
    rw [hwf] at S1
    rw [e1, e2]
    exact kk _ H1 locs1 ((hh u).1 hw) S1
end QY
