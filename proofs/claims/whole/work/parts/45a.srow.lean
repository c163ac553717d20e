section QS2
variable {p : Program} {l : Launch} {e : Env} {R : Room} {s : State} {m : MethodId} {args : Array Value} {below : List Frame} {meth : Method} {c : Code} {H : Heap} {locs : List Loc} {cells slots : Nat} {Q : State → Prop}
variable {D : va_G} {tys : List (ClassId × FieldType)} {A : Nat → Prop} {own : String} {cc : ByteArray} {nL : Nat} {ret : Option FieldType} {wd wc : Nat → Nat → Sg → va_W} {sb : Sg → Sg} {ub : Sg → Sg → Sg} {ps is pm : List Nat} {σ : Sg} {pc pa pl : Nat} {ls : Array Slot} {rest : List Value}
variable {y : MethodName} {b : ByteArray} {n idx rf rl na d : Nat} {rt : Option FieldType} {As : List Value} {r : Int32} {ν : Sg}
theorem s_callViR (Sp : splA wd wc sb ub ps is pm) (C : cx D tys A own cc nL ret p s m args c meth) (S : st D (wd pa pl) A s σ H locs) {q a ci : Nat} {fl : Sg → List Value} (O : objAt (wc pa pl) q a ci fl) {Cn : String} {T : u_T} {N : Nat} (hc : vwCl[ci]? = some (Cn, T, N)) (hM : metI l D tys y b n rt rf rl (wc pa pl) (.ref a :: As) (sb σ) r (sb σ)) (h1 : Cond.methodLink own idx y ∈ gw) (h2 : Cond.instanceMethod y ∈ gw) (h3 : Cond.selects Cn y y ∈ gw) (h4 : Cond.initialized Cn ∈ gw) (h5 : Cond.code y b n rt ∈ gw)
    (hd : y.cls = Cn ∧ y.cls ≠ "java/lang/invoke/MethodHandle" ∧ y.cls ≠ "java/lang/invoke/VarHandle" ∧ (parseMethodDescriptor y.desc).map (fun d => d.parameters.length) = some na) (hR : rf + 1 ≤ R.frames ∧ 8 + (n + 11) + rl ≤ R.locals) (hna : As.length = na) (hls : ls.size = nL) (hcap : cells ≤ R.cells ∧ slots ≤ R.slots) (hre : (rest.map fun v => v.category).sum ≤ 8) (hdg : decode cc pc = .ok (.invokevirtual idx, 3)) {sk : List Value} (hsk : sk = As.reverse ++ .ref a :: rest)
    (kk : ∀ (H1 : Heap) (locs1 : List Loc), st D (wd pa pl) A s σ H1 locs1 → W p l e R s m args below meth c H1 locs1 cells slots Q (F0 m (pc + 3) ls (.int r :: rest))) : W p l e R s m args below meth c H locs cells slots Q (F0 m pc ls sk) := by
  subst hsk
  refine va_calli (va_runV (As := As) (rest := rest) ⟨C.1, C.2.1, C.2.2.1, C.2.2.2.1, C.2.2.2.2.1⟩ (hM H.size) (cwV na C.2.2.2.2.1 (gg_V h1 h2 h3 h4 h5) rfl rfl rfl hd hR) ⟨pre_blind, va_recv C.2.2.2.2.2.2.2.1 (s_P Sp S) (ci := ci) (q0 := q) hc (O (sb σ)), s_pre Sp C S⟩ rfl hna hls rfl (lv_room hre) hdg hcap) S.2.2 (fun z _ h => s_own Sp C S z h) (s_own Sp C S) (fun r1 u t H1 locs1 ht hvm hw hB hz hk hS => ?_)
  obtain ⟨rfl, rfl⟩ := hw
  have h9 := s_after Sp C S ht hB hk hS
  rw [Sp.2.2.2.2.2.2.2 σ] at h9
  exact kk H1 locs1 h9
theorem s_callSiR (Sp : splA wd wc sb ub ps is pm) (C : cx D tys A own cc nL ret p s m args c meth) (S : st D (wd pa pl) A s σ H locs) (hM : metI l D tys y b n rt rf rl (wc pa pl) As (sb σ) r (sb σ)) (h1 : Cond.methodLink own idx y ∈ gw) (h2 : Cond.static y ∈ gw) (h4 : Cond.initialized y.cls ∈ gw) (h5 : Cond.code y b n rt ∈ gw)
    (hd : y.cls ≠ "java/lang/invoke/MethodHandle" ∧ y.cls ≠ "java/lang/invoke/VarHandle" ∧ (parseMethodDescriptor y.desc).map (fun d => d.parameters.length) = some na) (hR : rf + 1 ≤ R.frames ∧ 8 + (n + 11) + rl ≤ R.locals) (hna : As.length = na) (hls : ls.size = nL) (hcap : cells ≤ R.cells ∧ slots ≤ R.slots) (hre : (rest.map fun v => v.category).sum ≤ 8) (hdg : decode cc pc = .ok (.invokestatic idx, 3)) {sk : List Value} (hsk : sk = As.reverse ++ rest)
    (kk : ∀ (H1 : Heap) (locs1 : List Loc), st D (wd pa pl) A s σ H1 locs1 → W p l e R s m args below meth c H1 locs1 cells slots Q (F0 m (pc + 3) ls (.int r :: rest))) : W p l e R s m args below meth c H locs cells slots Q (F0 m pc ls sk) := by
  subst hsk
  refine va_calli (va_runS (As := As) (rest := rest) ⟨C.1, C.2.1, C.2.2.1, C.2.2.2.1, C.2.2.2.2.1⟩ (hM H.size) (va_cwS na C.2.2.2.2.1 (gg_S h1 h2 h4 h5) rfl rfl rfl hd hR) ⟨pre_blind, s_pre Sp C S⟩ rfl hna hls rfl (lv_room hre) hdg hcap) S.2.2 (fun z _ h => s_own Sp C S z h) (s_own Sp C S) (fun r1 u t H1 locs1 ht hvm hw hB hz hk hS => ?_)
  obtain ⟨rfl, rfl⟩ := hw
  have h9 := s_after Sp C S ht hB hk hS
  rw [Sp.2.2.2.2.2.2.2 σ] at h9
  exact kk H1 locs1 h9
end QS2
theorem capX {R : Room} {a b c d : Nat} (hC : R.cells = a ∧ R.slots = b) (h1 : c ≤ a) (h2 : d ≤ b) : c ≤ R.cells ∧ d ≤ R.slots := by
  rw [hC.1, hC.2]
  exact ⟨h1, h2⟩
