theorem pre_blind {D : va_G} {tys : List (ClassId × FieldType)} {wd : Sg → va_W} {σ : Sg} {sz : Nat} {as : List Value} : FrameBlind (va_Pc as (pre D tys wd σ sz)) := fun a U g mk q => by
  obtain ⟨q0, q1, qP, qK, qD, qn⟩ := q
  exact ⟨q0, q1, qP, va_K.moved (u := U) (U := U.calling g mk a) (Vm.Alike.refl U.vm) qK, qD, nws_call qn⟩
section QR
variable {p : Program} {l : Launch} {e : Env} {R : Room} {s : State} {m : MethodId} {args : Array Value} {below : List Frame} {meth : Method} {c : Code} {H : Heap} {locs : List Loc} {cells slots : Nat} {Q : State → Prop}
variable {D : va_G} {tys : List (ClassId × FieldType)} {A : Nat → Prop} {own : String} {cc : ByteArray} {nL : Nat} {ret : Option FieldType} {wd : Sg → va_W} {σ : Sg} {pc : Nat} {ls : Array Slot} {rest : List Value}
theorem q_iald (C : cx D tys A own cc nL ret p s m args c meth) (S : st D wd A s σ H locs) {q a n : Nat} {cA : ClassId} (Aq : arrAt wd q a cA n) (t0 : Nat) (ht : tys[t0]? = some (cA, .int)) {i : Int32} (hin : vp_in i n) (hdg : decode cc pc = .ok (.iaload, 1)) {j : Nat} (hj : i.toNatClampNeg = j)
    (kk : W p l e R s m args below meth c H locs cells slots Q (F0 m (pc + 1) ls (.int (σ q j) :: rest))) : W p l e R s m args below meth c H locs cells slots Q (F0 m pc ls (.int i :: .ref a :: rest)) :=
  va_iald C.1 C.2.1 C.2.2.2.2.2.2.2.1 S.1 q t0 (Aq.1 σ) ht hin hdg (by rw [hj]; exact kk)
theorem q_bald (C : cx D tys A own cc nL ret p s m args c meth) (S : st D wd A s σ H locs) {q a n : Nat} {cA : ClassId} (Aq : arrAt wd q a cA n) (t0 : Nat) (ht : tys[t0]? = some (cA, .byte)) {i : Int32} (hin : vp_in i n) (hdg : decode cc pc = .ok (.baload, 1)) {j : Nat} (hj : i.toNatClampNeg = j)
    (kk : W p l e R s m args below meth c H locs cells slots Q (F0 m (pc + 1) ls (.int (σ q j) :: rest))) : W p l e R s m args below meth c H locs cells slots Q (F0 m pc ls (.int i :: .ref a :: rest)) :=
  va_bald C.1 C.2.1 C.2.2.2.2.2.2.2.1 S.1 q t0 (Aq.1 σ) ht hin hdg (by rw [hj]; exact kk)
theorem q_iast (C : cx D tys A own cc nL ret p s m args c meth) (S : st D wd A s σ H locs) {q a n : Nat} {cA : ClassId} (Aq : arrAt wd q a cA n) (t0 : Nat) (ht : tys[t0]? = some (cA, .int)) {i x : Int32} (hin : vp_in i n) (hdg : decode cc pc = .ok (.iastore, 1)) {j : Nat} (hj : i.toNatClampNeg = j) {σ' : Sg} (hσ : σ' = s2 σ q j x)
    (kk : ∀ (H1 : Heap) (locs1 : List Loc), st D wd A s σ' H1 locs1 → W p l e R s m args below meth c H1 locs1 cells slots Q (F0 m (pc + 1) ls rest)) : W p l e R s m args below meth c H locs cells slots Q (F0 m pc ls (.int x :: .int i :: .ref a :: rest)) := by
  refine va_iast C.1 C.2.1 C.2.2.2.2.2.2.2.1 S.1 S.2.1 S.2.2 q t0 (Aq.1 σ) ht hin hdg (fun H1 locs1 h1 h2 h3 => ?_)
  rw [Aq.2, hj] at h1 h2
  subst hσ
  exact kk H1 locs1 ⟨h1, h2, h3⟩
theorem q_bast (C : cx D tys A own cc nL ret p s m args c meth) (S : st D wd A s σ H locs) {q a n : Nat} {cA : ClassId} (Aq : arrAt wd q a cA n) (t0 : Nat) (ht : tys[t0]? = some (cA, .byte)) {i x : Int32} (hin : vp_in i n) (hdg : decode cc pc = .ok (.bastore, 1)) {j : Nat} (hj : i.toNatClampNeg = j) {σ' : Sg} (hσ : σ' = s2 σ q j (vp_nar .byte x))
    (kk : ∀ (H1 : Heap) (locs1 : List Loc), st D wd A s σ' H1 locs1 → W p l e R s m args below meth c H1 locs1 cells slots Q (F0 m (pc + 1) ls rest)) : W p l e R s m args below meth c H locs cells slots Q (F0 m pc ls (.int x :: .int i :: .ref a :: rest)) := by
  refine va_bast C.1 C.2.1 C.2.2.2.2.2.2.2.1 S.1 S.2.1 S.2.2 q t0 (Aq.1 σ) ht hin hdg (fun H1 locs1 h1 h2 h3 => ?_)
  rw [Aq.2, hj] at h1 h2
  subst hσ
  exact kk H1 locs1 ⟨h1, h2, h3⟩
theorem q_alen (C : cx D tys A own cc nL ret p s m args c meth) (S : st D wd A s σ H locs) {q a n : Nat} {cA : ClassId} (Aq : arrAt wd q a cA n) (t0 : Nat) {ty : FieldType} (ht : tys[t0]? = some (cA, ty)) {v : Int32} (hv : Int32.ofNat n = v) (hdg : decode cc pc = .ok (.arraylength, 1))
    (kk : W p l e R s m args below meth c H locs cells slots Q (F0 m (pc + 1) ls (.int v :: rest))) : W p l e R s m args below meth c H locs cells slots Q (F0 m pc ls (.ref a :: rest)) :=
  va_alen C.1 C.2.1 C.2.2.2.2.2.2.2.1 S.1 q t0 (Aq.1 σ) ht hv hdg kk
theorem q_get (C : cx D tys A own cc nL ret p s m args c meth) (S : st D wd A s σ H locs) {q a ci : Nat} {fl : Sg → List Value} (O : objAt wd q a ci fl) {Cn : String} {T : u_T} {N : Nat} (hc : vwCl[ci]? = some (Cn, T, N)) (hin : ∀ w ∈ u_ws Cn T N, w ∈ gw) (k : Nat) (hk : k < N) {index : Nat} (hl : Cond.fieldLink own index (T k).1 (T k).2.1 (T k).2.2.1 ∈ gw) {v : Value} (hv : (fl σ)[k]? = some v) (hdg : decode cc pc = .ok (.getfield index, 3))
    (kk : W p l e R s m args below meth c H locs cells slots Q (F0 m (pc + 3) ls (v :: rest))) : W p l e R s m args below meth c H locs cells slots Q (F0 m pc ls (.ref a :: rest)) :=
  va_get (D := D) C.1 C.2.1 C.2.2.2.2.1 hin C.2.2.2.1 C.2.2.2.2.2.2.2.1 S.1 q (O σ) hc k hk (C.2.2.2.2.1 _ hl) (fun _ h => h) hv hdg kk
theorem q_put (C : cx D tys A own cc nL ret p s m args c meth) (S : st D wd A s σ H locs) {q a ci : Nat} {fl : Sg → List Value} (O : objAt wd q a ci fl) {Cn : String} {T : u_T} {N : Nat} (hc : vwCl[ci]? = some (Cn, T, N)) (hin : ∀ w ∈ u_ws Cn T N, w ∈ gw) (ty0 : Nat → FieldType) (hty : ∀ k, k < N → parseFieldDescriptor (T k).2.2.1 = some (ty0 k)) (hnm : ∀ a, a < N → ∀ b, b < N → a ≠ b → (T a).2.1 ≠ (T b).2.1) (k : Nat) (hk : k < N) {index : Nat} (hl : Cond.fieldLink own index (T k).1 (T k).2.1 (T k).2.2.1 ∈ gw) (hfin : (T k).2.2.2 = false) (hI : intAt wd q a ci fl k) {x : Int32} (hn : narrow (ty0 k) (.int x) = .int x) (hfit : fits (ty0 k) (.int x) = true) (hdg : decode cc pc = .ok (.putfield index, 3)) {σ' : Sg} (hσ : σ' = s2 σ q k x)
    (kk : ∀ (H1 : Heap) (locs1 : List Loc), st D wd A s σ' H1 locs1 → W p l e R s m args below meth c H1 locs1 cells slots Q (F0 m (pc + 3) ls rest)) : W p l e R s m args below meth c H locs cells slots Q (F0 m pc ls (.int x :: .ref a :: rest)) := by
  refine va_put (D := D) C.1 C.2.1 C.2.2.2.2.1 hin ty0 hty hnm C.2.2.2.1 C.2.2.2.2.2.2.2.1 S.1 S.2.1 S.2.2 q (O σ) hc k hk (C.2.2.2.2.1 _ hl) (fun _ h => h) hfin (hty k hk) hn hfit (List.getElem?_eq_some_iff.mp (hI.1 σ)).1 hdg (fun H1 locs1 h1 h2 h3 => ?_)
  rw [hI.2] at h1 h2
  subst hσ
  exact kk H1 locs1 ⟨h1, h2, h3⟩
theorem q_own (C : cx D tys A own cc nL ret p s m args c meth) (S : st D wd A s σ H locs) : ∀ q, va_A (wd σ) H.size q → A q := fun q h => by
  rcases h with ⟨k, e, hk⟩ | h
  · exact S.2.1.2 k (q, e) hk
  · exact C.2.2.2.2.2.2.2.2.1 q (Nat.le_trans S.2.2.1 h)
theorem q_pre (C : cx D tys A own cc nL ret p s m args c meth) (S : st D wd A s σ H locs) {as : List Value} : ∀ U : State, U.heap = H → s.WarmedH U.vm → va_Pc as (pre D tys wd σ H.size) as.toArray U := fun U hU hW =>
  ⟨rfl, by rw [hU], by rw [hU]; exact S.1, va_K.moved hW.alike C.2.2.2.2.2.2.2.1, S.2.1.weaken (fun _ _ _ _ => trivial), nws_warm hW C.2.2.2.2.2.2.2.2.2⟩
theorem q_after (C : cx D tys A own cc nL ret p s m args c meth) (S : st D wd A s σ H locs) {u : Sg} {t : State} {H1 : Heap} {locs1 : List Loc} (ht : t.heap = H1) (hB : post D tys wd (va_A (wd σ) H.size) u t) (hS : va_S A s.heap H1 locs1) : st D wd A s u H1 locs1 := by
  obtain ⟨h1, -, h3⟩ := hB
  rw [ht] at h1
  exact ⟨h1, ⟨h3.1, fun k q hk => q_own C S q.1 (h3.2 k q hk)⟩, hS⟩
variable {y : MethodName} {b : ByteArray} {n idx rf rl na : Nat} {rt : Option FieldType} {As : List Value} {r : Int32} {σ' : Sg}
theorem q_callVi (C : cx D tys A own cc nL ret p s m args c meth) (S : st D wd A s σ H locs) {q a ci : Nat} {fl : Sg → List Value} (O : objAt wd q a ci fl) {Cn : String} {T : u_T} {N : Nat} (hc : vwCl[ci]? = some (Cn, T, N)) (hM : metI l D tys y b n rt rf rl wd (.ref a :: As) σ r σ') (h1 : Cond.methodLink own idx y ∈ gw) (h2 : Cond.instanceMethod y ∈ gw) (h3 : Cond.selects Cn y y ∈ gw) (h4 : Cond.initialized Cn ∈ gw) (h5 : Cond.code y b n rt ∈ gw)
    (hd : y.cls = Cn ∧ y.cls ≠ "java/lang/invoke/MethodHandle" ∧ y.cls ≠ "java/lang/invoke/VarHandle" ∧ (parseMethodDescriptor y.desc).map (fun d => d.parameters.length) = some na) (hR : rf + 1 ≤ R.frames ∧ 8 + (n + 11) + rl ≤ R.locals) (hna : As.length = na) (hls : ls.size = nL) (hcap : cells ≤ R.cells ∧ slots ≤ R.slots) (hre : (rest.map fun v => v.category).sum ≤ 8) (hdg : decode cc pc = .ok (.invokevirtual idx, 3)) {sk : List Value} (hsk : sk = As.reverse ++ .ref a :: rest)
    (kk : ∀ (H1 : Heap) (locs1 : List Loc), st D wd A s σ' H1 locs1 → W p l e R s m args below meth c H1 locs1 cells slots Q (F0 m (pc + 3) ls (.int r :: rest))) : W p l e R s m args below meth c H locs cells slots Q (F0 m pc ls sk) := by
  subst hsk
  refine va_calli (va_runV (As := As) (rest := rest) ⟨C.1, C.2.1, C.2.2.1, C.2.2.2.1, C.2.2.2.2.1⟩ (hM H.size) (cwV na C.2.2.2.2.1 (gg_V h1 h2 h3 h4 h5) rfl rfl rfl hd hR) ⟨pre_blind, va_recv C.2.2.2.2.2.2.2.1 S.1 (ci := ci) (q0 := q) hc (O σ), q_pre C S⟩ rfl hna hls rfl (lv_room hre) hdg hcap) S.2.2 (fun z _ h => q_own C S z h) (q_own C S) (fun r1 u t H1 locs1 ht hvm hw hB hz hk hS => ?_)
  obtain ⟨rfl, rfl⟩ := hw
  exact kk H1 locs1 (q_after C S ht hB hS)
theorem q_callVv (C : cx D tys A own cc nL ret p s m args c meth) (S : st D wd A s σ H locs) {q a ci : Nat} {fl : Sg → List Value} (O : objAt wd q a ci fl) {Cn : String} {T : u_T} {N : Nat} (hc : vwCl[ci]? = some (Cn, T, N)) (hM : metV l D tys y b n rf rl wd (.ref a :: As) σ σ') (h1 : Cond.methodLink own idx y ∈ gw) (h2 : Cond.instanceMethod y ∈ gw) (h3 : Cond.selects Cn y y ∈ gw) (h4 : Cond.initialized Cn ∈ gw) (h5 : Cond.code y b n none ∈ gw)
    (hd : y.cls = Cn ∧ y.cls ≠ "java/lang/invoke/MethodHandle" ∧ y.cls ≠ "java/lang/invoke/VarHandle" ∧ (parseMethodDescriptor y.desc).map (fun d => d.parameters.length) = some na) (hR : rf + 1 ≤ R.frames ∧ 8 + (n + 11) + rl ≤ R.locals) (hna : As.length = na) (hls : ls.size = nL) (hcap : cells ≤ R.cells ∧ slots ≤ R.slots) (hre : (rest.map fun v => v.category).sum ≤ 8) (hdg : decode cc pc = .ok (.invokevirtual idx, 3)) {sk : List Value} (hsk : sk = As.reverse ++ .ref a :: rest)
    (kk : ∀ (H1 : Heap) (locs1 : List Loc), st D wd A s σ' H1 locs1 → W p l e R s m args below meth c H1 locs1 cells slots Q (F0 m (pc + 3) ls rest)) : W p l e R s m args below meth c H locs cells slots Q (F0 m pc ls sk) := by
  subst hsk
  refine va_callv (va_runV (As := As) (rest := rest) ⟨C.1, C.2.1, C.2.2.1, C.2.2.2.1, C.2.2.2.2.1⟩ (hM H.size) (cwV na C.2.2.2.2.1 (gg_V h1 h2 h3 h4 h5) rfl rfl rfl hd hR) ⟨pre_blind, va_recv C.2.2.2.2.2.2.2.1 S.1 (ci := ci) (q0 := q) hc (O σ), q_pre C S⟩ rfl hna hls rfl (lv_room hre) hdg hcap) S.2.2 (fun z _ h => q_own C S z h) (q_own C S) (fun u t H1 locs1 ht hvm hw hB hz hk hS => ?_)
  obtain rfl := hw
  exact kk H1 locs1 (q_after C S ht hB hS)
theorem q_callSi (C : cx D tys A own cc nL ret p s m args c meth) (S : st D wd A s σ H locs) (hM : metI l D tys y b n rt rf rl wd As σ r σ') (h1 : Cond.methodLink own idx y ∈ gw) (h2 : Cond.static y ∈ gw) (h4 : Cond.initialized y.cls ∈ gw) (h5 : Cond.code y b n rt ∈ gw)
    (hd : y.cls ≠ "java/lang/invoke/MethodHandle" ∧ y.cls ≠ "java/lang/invoke/VarHandle" ∧ (parseMethodDescriptor y.desc).map (fun d => d.parameters.length) = some na) (hR : rf + 1 ≤ R.frames ∧ 8 + (n + 11) + rl ≤ R.locals) (hna : As.length = na) (hls : ls.size = nL) (hcap : cells ≤ R.cells ∧ slots ≤ R.slots) (hre : (rest.map fun v => v.category).sum ≤ 8) (hdg : decode cc pc = .ok (.invokestatic idx, 3)) {sk : List Value} (hsk : sk = As.reverse ++ rest)
    (kk : ∀ (H1 : Heap) (locs1 : List Loc), st D wd A s σ' H1 locs1 → W p l e R s m args below meth c H1 locs1 cells slots Q (F0 m (pc + 3) ls (.int r :: rest))) : W p l e R s m args below meth c H locs cells slots Q (F0 m pc ls sk) := by
  subst hsk
  refine va_calli (va_runS (As := As) (rest := rest) ⟨C.1, C.2.1, C.2.2.1, C.2.2.2.1, C.2.2.2.2.1⟩ (hM H.size) (va_cwS na C.2.2.2.2.1 (gg_S h1 h2 h4 h5) rfl rfl rfl hd hR) ⟨pre_blind, q_pre C S⟩ rfl hna hls rfl (lv_room hre) hdg hcap) S.2.2 (fun z _ h => q_own C S z h) (q_own C S) (fun r1 u t H1 locs1 ht hvm hw hB hz hk hS => ?_)
  obtain ⟨rfl, rfl⟩ := hw
  exact kk H1 locs1 (q_after C S ht hB hS)
theorem q_pre0 (C : cx D tys A own cc nL ret p s m args c meth) {as : List Value} : ∀ U : State, U.heap = H → s.WarmedH U.vm → va_Pc as (pre D tys w0 z0 H.size) as.toArray U := fun U hU hW =>
  ⟨rfl, by rw [hU], fun k q h => by simp [w0] at h, va_K.moved hW.alike C.2.2.2.2.2.2.2.1, ⟨fun i j p q h => by simp [w0] at h, fun k q h => by simp [w0] at h⟩, nws_warm hW C.2.2.2.2.2.2.2.2.2⟩
theorem q_own0 (C : cx D tys A own cc nL ret p s m args c meth) (S : st D wd A s σ H locs) : ∀ q, va_A (w0 z0) H.size q → A q := fun q h => by
  rcases h with ⟨k, e, hk⟩ | h
  · simp [w0] at hk
  · exact C.2.2.2.2.2.2.2.2.1 q (Nat.le_trans S.2.2.1 h)
theorem q_kept (S : st D wd A s σ H locs) {H1 : Heap} {locs1 : List Loc} (hk : ∀ q : Nat, q < H.size → ¬ va_A (w0 z0) H.size q → H1[q]? = H[q]?) (hS : va_S A s.heap H1 locs1) : st D wd A s σ H1 locs1 :=
  ⟨S.1.kept (fun k q h => hk q.1 (S.1 k q h).lt (fun f => by
    rcases f with ⟨k2, e2, f⟩ | f
    · simp [w0] at f
    · exact absurd (S.1 k q h).lt (Nat.not_lt.mpr f))), S.2.1, hS⟩
theorem q_callP (C : cx D tys A own cc nL ret p s m args c meth) (S : st D wd A s σ H locs) (hM : metP l D tys y b n rt rf rl As r) (h1 : Cond.methodLink own idx y ∈ gw) (h2 : Cond.static y ∈ gw) (h4 : Cond.initialized y.cls ∈ gw) (h5 : Cond.code y b n rt ∈ gw)
    (hd : y.cls ≠ "java/lang/invoke/MethodHandle" ∧ y.cls ≠ "java/lang/invoke/VarHandle" ∧ (parseMethodDescriptor y.desc).map (fun d => d.parameters.length) = some na) (hR : rf + 1 ≤ R.frames ∧ 8 + (n + 11) + rl ≤ R.locals) (hna : As.length = na) (hls : ls.size = nL) (hcap : cells ≤ R.cells ∧ slots ≤ R.slots) (hre : (rest.map fun v => v.category).sum ≤ 8) (hdg : decode cc pc = .ok (.invokestatic idx, 3)) {sk : List Value} (hsk : sk = As.reverse ++ rest)
    (kk : ∀ (H1 : Heap) (locs1 : List Loc), st D wd A s σ H1 locs1 → W p l e R s m args below meth c H1 locs1 cells slots Q (F0 m (pc + 3) ls (.int r :: rest))) : W p l e R s m args below meth c H locs cells slots Q (F0 m pc ls sk) := by
  subst hsk
  refine va_calli (va_runS (As := As) (rest := rest) ⟨C.1, C.2.1, C.2.2.1, C.2.2.2.1, C.2.2.2.2.1⟩ (hM H.size) (va_cwS na C.2.2.2.2.1 (gg_S h1 h2 h4 h5) rfl rfl rfl hd hR) ⟨pre_blind, q_pre0 C⟩ rfl hna hls rfl (lv_room hre) hdg hcap) S.2.2 (fun z _ h => q_own0 C S z h) (q_own0 C S) (fun r1 u t H1 locs1 ht hvm hw hB hz hk hS => ?_)
  obtain ⟨rfl, -⟩ := hw
  exact kk H1 locs1 (q_kept S hk hS)
theorem q_callPN (C : cx D tys A own cc nL ret p s m args c meth) (S : st D wd A s σ H locs) (hM : metP l D tys y b n rt rf rl As r) (h1 : (own, idx, y) ∈ nwq) (h2 : Cond.static y ∈ gw) (h4 : Cond.initialized y.cls ∈ gw) (h5 : Cond.code y b n rt ∈ gw)
    (hd : y.cls ≠ "java/lang/invoke/MethodHandle" ∧ y.cls ≠ "java/lang/invoke/VarHandle" ∧ (parseMethodDescriptor y.desc).map (fun d => d.parameters.length) = some na) (hR : rf + 1 ≤ R.frames ∧ 8 + (n + 11) + rl ≤ R.locals) (hna : As.length = na) (hls : ls.size = nL) (hcap : cells ≤ R.cells ∧ slots ≤ R.slots) (hre : (rest.map fun v => v.category).sum ≤ 8) (hdg : decode cc pc = .ok (.invokestatic idx, 3)) {sk : List Value} (hsk : sk = As.reverse ++ rest)
    (kk : ∀ (H1 : Heap) (locs1 : List Loc), st D wd A s σ H1 locs1 → W p l e R s m args below meth c H1 locs1 cells slots Q (F0 m (pc + 3) ls (.int r :: rest))) : W p l e R s m args below meth c H locs cells slots Q (F0 m pc ls sk) := by
  subst hsk
  refine va_calli (va_runSN (As := As) (rest := rest) ⟨C.1, C.2.1, C.2.2.1, C.2.2.2.1, C.2.2.2.2.1⟩ (hM H.size) ⟨va_cnB na C.2.2.2.2.1 (gg_c h5) rfl rfl rfl (C.2.2.2.2.2.2.2.2.2 _ h1) (C.2.2.2.2.1 _ h4) hd hR, C.2.2.2.2.1 _ h2, trivial⟩ ⟨pre_blind, q_pre0 C⟩ rfl hna hls rfl (lv_room hre) hdg hcap) S.2.2 (fun z _ h => q_own0 C S z h) (q_own0 C S) (fun r1 u t H1 locs1 ht hvm hw hB hz hk hS => ?_)
  obtain ⟨rfl, -⟩ := hw
  exact kk H1 locs1 (q_kept S hk hS)
theorem q_mmax (C : cx D tys A own cc nL ret p s m args c meth) (h1 : Cond.methodLink own idx Lib.Math.max.name ∈ gw) (h2 : Cond.static Lib.Math.max.name ∈ gw) (h4 : Cond.initialized "java/lang/Math" ∈ gw) (h5 : Cond.code Lib.Math.max.name Lib.Math.max.code 2 (some .int) ∈ gw) (hR : 1 ≤ R.frames ∧ 21 ≤ R.locals) (hls : ls.size = nL) (hcap : cells ≤ R.cells ∧ slots ≤ R.slots) (hre : (rest.map fun v => v.category).sum ≤ 8) {x z : Int32} (hdg : decode cc pc = .ok (.invokestatic idx, 3))
    (kk : W p l e R s m args below meth c H locs cells slots Q (F0 m (pc + 3) ls (.int (if x < z then z else x) :: rest))) : W p l e R s m args below meth c H locs cells slots Q (F0 m pc ls (.int z :: .int x :: rest)) :=
  va_mmax C.1 C.2.1 (C.2.2.1.trans hls.symm) C.2.2.2.1 (C.2.2.2.2.1 _ h1) (C.2.2.2.2.1 _ h2) (C.2.2.2.2.1 _ h4) (C.2.2.2.2.1 _ h5) hR.1 (Nat.le_trans (Nat.add_le_add_right hre 13) hR.2) hcap.1 hcap.2 hdg kk
theorem q_mmin (C : cx D tys A own cc nL ret p s m args c meth) (h1 : Cond.methodLink own idx Lib.Math.min.name ∈ gw) (h2 : Cond.static Lib.Math.min.name ∈ gw) (h4 : Cond.initialized "java/lang/Math" ∈ gw) (h5 : Cond.code Lib.Math.min.name Lib.Math.min.code 2 (some .int) ∈ gw) (hR : 1 ≤ R.frames ∧ 21 ≤ R.locals) (hls : ls.size = nL) (hcap : cells ≤ R.cells ∧ slots ≤ R.slots) (hre : (rest.map fun v => v.category).sum ≤ 8) {x z : Int32} (hdg : decode cc pc = .ok (.invokestatic idx, 3))
    (kk : W p l e R s m args below meth c H locs cells slots Q (F0 m (pc + 3) ls (.int (if z < x then z else x) :: rest))) : W p l e R s m args below meth c H locs cells slots Q (F0 m pc ls (.int z :: .int x :: rest)) :=
  va_mmin C.1 C.2.1 (C.2.2.1.trans hls.symm) C.2.2.2.1 (C.2.2.2.2.1 _ h1) (C.2.2.2.2.1 _ h2) (C.2.2.2.2.1 _ h4) (C.2.2.2.2.1 _ h5) hR.1 (Nat.le_trans (Nat.add_le_add_right hre 13) hR.2) hcap.1 hcap.2 hdg kk
theorem q_iret (C : cx D tys A own cc nL (some .int) p s m args c meth) (S : st D wd A s σ H locs) {v : Int32} (h : v = r ∧ σ = σ') (hdg : decode cc pc = .ok (.ireturn, 1)) : W p l e R s m args below meth c H locs 0 0 (MQ below (qI D tys wd A r σ') args s 0 0 A) (F0 m pc ls [.int v]) := by
  obtain ⟨rfl, rfl⟩ := h
  exact W.iret C.1 C.2.1 C.2.2.2.2.2.1 (fun t ht hW => ⟨⟨v, σ, rfl, ⟨rfl, rfl⟩, by rw [ht]; exact S.1, va_K.moved hW.alike C.2.2.2.2.2.2.2.1, S.2.1⟩, S.2.2.F ht⟩) S.2.2.2.2 hdg C.2.2.2.2.2.2.1
theorem q_zret {ty : FieldType} (C : cx D tys A own cc nL (some ty) p s m args c meth) (S : st D wd A s σ H locs) {v : Int32} (hn : narrow ty (.int v) = .int v) (h : v = r ∧ σ = σ') (hdg : decode cc pc = .ok (.ireturn, 1)) : W p l e R s m args below meth c H locs 0 0 (MQ below (qI D tys wd A r σ') args s 0 0 A) (F0 m pc ls [.int v]) := by
  obtain ⟨rfl, rfl⟩ := h
  exact W.zret C.1 C.2.1 C.2.2.2.2.2.1 hn (fun t ht hW => ⟨⟨v, σ, rfl, ⟨rfl, rfl⟩, by rw [ht]; exact S.1, va_K.moved hW.alike C.2.2.2.2.2.2.2.1, S.2.1⟩, S.2.2.F ht⟩) S.2.2.2.2 hdg C.2.2.2.2.2.2.1
theorem q_vret (C : cx D tys A own cc nL none p s m args c meth) (S : st D wd A s σ H locs) (h : σ = σ') (hdg : decode cc pc = .ok (.return_, 1)) : W p l e R s m args below meth c H locs 0 0 (MQ below (qV D tys wd A σ') args s 0 0 A) (F0 m pc ls []) := by
  obtain rfl := h
  exact W.vret C.1 C.2.1 C.2.2.2.2.2.1 (fun t ht hW => ⟨⟨σ, rfl, rfl, by rw [ht]; exact S.1, va_K.moved hW.alike C.2.2.2.2.2.2.2.1, S.2.1⟩, S.2.2.F ht⟩) S.2.2.2.2 hdg C.2.2.2.2.2.2.1
theorem q_ldc (C : cx D tys A own cc nL ret p s m args c meth) {v : Int32} (h : Cond.constant own idx v ∈ gw) (hdg : decode cc pc = .ok (.ldc idx, 2)) (k : W p l e R s m args below meth c H locs cells slots Q (F0 m (pc + 2) ls (.int v :: rest))) : W p l e R s m args below meth c H locs cells slots Q (F0 m pc ls rest) := lv_ldc C.1 C.2.1 C.2.2.2.1 (C.2.2.2.2.1 _ h) hdg k
theorem q_ldcw (C : cx D tys A own cc nL ret p s m args c meth) {v : Int32} (h : Cond.constant own idx v ∈ gw) (hdg : decode cc pc = .ok (.ldc_w idx, 3)) (k : W p l e R s m args below meth c H locs cells slots Q (F0 m (pc + 3) ls (.int v :: rest))) : W p l e R s m args below meth c H locs cells slots Q (F0 m pc ls rest) := lv_ldcw C.1 C.2.1 C.2.2.2.1 (C.2.2.2.2.1 _ h) hdg k
theorem q_entry {s₁ : State} {as : List Value} {sz : Nat} (B : BodyLoose p l y (headSpec (Cond.code y b n rt :: gw) (rmO rf rl)) b n rt e s m args below meth c s₁) (hml : c.maxLocals = n) (hv : va_Pc as (pre D tys wd σ sz) args s) : args = as.toArray ∧ cx D tys (va_A (wd σ) sz) y.cls b n rt p s m args c meth ∧ st D wd (va_A (wd σ) sz) s σ s.heap [] := by
  obtain ⟨h0, hsz, hP, hK, hD, hn⟩ := hv
  refine ⟨h0, ⟨B.exec, B.bytes, hml, findClass_of_methodNamed B.named, fun w hw => atoms_spec (ws := Cond.code y b n rt :: gw) B.pre w (List.mem_cons_of_mem _ hw), B.returns, B.notSynchronized, hK, fun q h => Or.inr (by rw [← hsz]; exact h), hn⟩, hP, hD.self, va_S.rf⟩
end QR
