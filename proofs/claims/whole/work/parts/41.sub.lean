/-! a world's part, as another world -/
def splA (wd wc : Nat → Nat → Sg → va_W) (sb : Sg → Sg) (ub : Sg → Sg → Sg) (ps is pm : List Nat) : Prop :=
  (∀ pa pl σ, ps.map (fun i => (wd pa pl σ)[i]?) = (wc pa pl (sb σ)).map some) ∧
  (∀ pa pl σ ν pa1 pl1, pm.map (fun i => (is.filterMap (fun i => (wd pa pl σ)[i]?) ++ wc pa1 pl1 ν)[i]?) = (wd pa1 pl1 (ub σ ν)).map some) ∧
  (∀ pa pl σ, is.map (fun i => (wd pa pl σ)[i]?) = (is.filterMap (fun i => (wd pa pl σ)[i]?)).map some) ∧ va_nd is = true ∧ (∀ i ∈ is, i ∉ ps) ∧ va_nd pm = true ∧ va_nd ps = true ∧ ∀ σ, ub σ (sb σ) = σ
theorem fm_of_map {α β : Type} {g : α → Option β} : ∀ {ps : List α} {l : List β}, ps.map g = l.map some → ps.filterMap g = l := by
  intro ps
  induction ps with
  | nil =>
    intro l h
    cases l with
    | nil => rfl
    | cons b l => cases h
  | cons a ps ih =>
    intro l h
    cases l with
    | nil => cases h
    | cons b l =>
      simp only [List.map_cons, List.cons.injEq] at h
      rw [List.filterMap_cons, h.1, ih h.2]
section QS
variable {p : Program} {l : Launch} {e : Env} {R : Room} {s : State} {m : MethodId} {args : Array Value} {below : List Frame} {meth : Method} {c : Code} {H : Heap} {locs : List Loc} {cells slots : Nat} {Q : State → Prop}
variable {D : va_G} {tys : List (ClassId × FieldType)} {A : Nat → Prop} {own : String} {cc : ByteArray} {nL : Nat} {ret : Option FieldType} {wd wc : Nat → Nat → Sg → va_W} {sb : Sg → Sg} {ub : Sg → Sg → Sg} {ps is pm : List Nat} {σ : Sg} {pc pa pl : Nat} {ls : Array Slot} {rest : List Value}
variable {y : MethodName} {b : ByteArray} {n idx rf rl na d : Nat} {rt : Option FieldType} {As : List Value} {r : Int32} {ν : Sg}
theorem s_P (Sp : splA wd wc sb ub ps is pm) (S : st D (wd pa pl) A s σ H locs) : va_P D vwCl (wc pa pl (sb σ)) H := S.1.sub ps (fm_of_map (Sp.1 pa pl σ))
theorem s_own (Sp : splA wd wc sb ub ps is pm) (C : cx D tys A own cc nL ret p s m args c meth) (S : st D (wd pa pl) A s σ H locs) : ∀ q, va_A (wc pa pl (sb σ)) H.size q → A q := va_free S.2.1 S.2.2 C.2.2.2.2.2.2.2.2.1 ps (Sp.1 pa pl σ)
theorem s_pre (Sp : splA wd wc sb ub ps is pm) (C : cx D tys A own cc nL ret p s m args c meth) (S : st D (wd pa pl) A s σ H locs) {as : List Value} : ∀ U : State, U.heap = H → s.WarmedH U.vm → va_Pc as (pre D tys (wc pa pl) (sb σ) H.size) as.toArray U := fun U hU hW =>
  ⟨rfl, by rw [hU], by rw [hU]; exact s_P Sp S, va_K.moved hW.alike C.2.2.2.2.2.2.2.1, (S.2.1.sub ps Sp.2.2.2.2.2.2.1 (Sp.1 pa pl σ)).weaken (fun _ _ _ _ => trivial), nws_warm hW C.2.2.2.2.2.2.2.2.2⟩
theorem s_after (Sp : splA wd wc sb ub ps is pm) (C : cx D tys A own cc nL ret p s m args c meth) (S : st D (wd pa pl) A s σ H locs) {t : State} {H1 : Heap} {locs1 : List Loc} {pa1 pl1 : Nat} (ht : t.heap = H1) (hB : post D tys (wc pa1 pl1) (va_A (wc pa pl (sb σ)) H.size) ν t) (hk : ∀ q : Nat, q < H.size → ¬ va_A (wc pa pl (sb σ)) H.size q → H1[q]? = H[q]?) (hS : va_S A s.heap H1 locs1) : st D (wd pa1 pl1) A s (ub σ ν) H1 locs1 := by
  obtain ⟨h1, -, h3⟩ := hB
  rw [ht] at h1
  obtain ⟨hP, hD⟩ := va_join (wr := is.filterMap (fun i => (wd pa pl σ)[i]?)) (w1 := wc pa1 pl1 ν) S.1 S.2.1 ps is (Sp.1 pa pl σ) (Sp.2.2.1 pa pl σ) Sp.2.2.2.1 Sp.2.2.2.2.1 hk (s_own Sp C S) h1 h3
  exact ⟨hP.sub pm (fm_of_map (Sp.2.1 pa pl σ ν pa1 pl1)), hD.sub pm Sp.2.2.2.2.2.1 (Sp.2.1 pa pl σ ν pa1 pl1), hS⟩
theorem s_callVi (Sp : splA wd wc sb ub ps is pm) (C : cx D tys A own cc nL ret p s m args c meth) (S : st D (wd pa pl) A s σ H locs) {q a ci : Nat} {fl : Sg → List Value} (O : objAt (wc pa pl) q a ci fl) {Cn : String} {T : u_T} {N : Nat} (hc : vwCl[ci]? = some (Cn, T, N)) (hM : metI l D tys y b n rt rf rl (wc pa pl) (.ref a :: As) (sb σ) r ν) (h1 : Cond.methodLink own idx y ∈ gw) (h2 : Cond.instanceMethod y ∈ gw) (h3 : Cond.selects Cn y y ∈ gw) (h4 : Cond.initialized Cn ∈ gw) (h5 : Cond.code y b n rt ∈ gw)
    (hd : y.cls = Cn ∧ y.cls ≠ "java/lang/invoke/MethodHandle" ∧ y.cls ≠ "java/lang/invoke/VarHandle" ∧ (parseMethodDescriptor y.desc).map (fun d => d.parameters.length) = some na) (hR : rf + 1 ≤ R.frames ∧ 8 + (n + 11) + rl ≤ R.locals) (hna : As.length = na) (hls : ls.size = nL) (hcap : cells ≤ R.cells ∧ slots ≤ R.slots) (hre : (rest.map fun v => v.category).sum ≤ 8) (hdg : decode cc pc = .ok (.invokevirtual idx, 3)) {sk : List Value} (hsk : sk = As.reverse ++ .ref a :: rest)
    (kk : ∀ (H1 : Heap) (locs1 : List Loc), st D (wd pa pl) A s (ub σ ν) H1 locs1 → W p l e R s m args below meth c H1 locs1 cells slots Q (F0 m (pc + 3) ls (.int r :: rest))) : W p l e R s m args below meth c H locs cells slots Q (F0 m pc ls sk) := by
  subst hsk
  refine va_calli (va_runV (As := As) (rest := rest) ⟨C.1, C.2.1, C.2.2.1, C.2.2.2.1, C.2.2.2.2.1⟩ (hM H.size) (cwV na C.2.2.2.2.1 (gg_V h1 h2 h3 h4 h5) rfl rfl rfl hd hR) ⟨pre_blind, va_recv C.2.2.2.2.2.2.2.1 (s_P Sp S) (ci := ci) (q0 := q) hc (O (sb σ)), s_pre Sp C S⟩ rfl hna hls rfl (lv_room hre) hdg hcap) S.2.2 (fun z _ h => s_own Sp C S z h) (s_own Sp C S) (fun r1 u t H1 locs1 ht hvm hw hB hz hk hS => ?_)
  obtain ⟨rfl, rfl⟩ := hw
  exact kk H1 locs1 (s_after Sp C S ht hB hk hS)
theorem s_callVv (Sp : splA wd wc sb ub ps is pm) (C : cx D tys A own cc nL ret p s m args c meth) (S : st D (wd pa pl) A s σ H locs) {q a ci : Nat} {fl : Sg → List Value} (O : objAt (wc pa pl) q a ci fl) {Cn : String} {T : u_T} {N : Nat} (hc : vwCl[ci]? = some (Cn, T, N)) (hM : metV l D tys y b n rf rl (wc pa pl) (.ref a :: As) (sb σ) ν) (h1 : Cond.methodLink own idx y ∈ gw) (h2 : Cond.instanceMethod y ∈ gw) (h3 : Cond.selects Cn y y ∈ gw) (h4 : Cond.initialized Cn ∈ gw) (h5 : Cond.code y b n none ∈ gw)
    (hd : y.cls = Cn ∧ y.cls ≠ "java/lang/invoke/MethodHandle" ∧ y.cls ≠ "java/lang/invoke/VarHandle" ∧ (parseMethodDescriptor y.desc).map (fun d => d.parameters.length) = some na) (hR : rf + 1 ≤ R.frames ∧ 8 + (n + 11) + rl ≤ R.locals) (hna : As.length = na) (hls : ls.size = nL) (hcap : cells ≤ R.cells ∧ slots ≤ R.slots) (hre : (rest.map fun v => v.category).sum ≤ 8) (hdg : decode cc pc = .ok (.invokevirtual idx, 3)) {sk : List Value} (hsk : sk = As.reverse ++ .ref a :: rest)
    (kk : ∀ (H1 : Heap) (locs1 : List Loc), st D (wd pa pl) A s (ub σ ν) H1 locs1 → W p l e R s m args below meth c H1 locs1 cells slots Q (F0 m (pc + 3) ls rest)) : W p l e R s m args below meth c H locs cells slots Q (F0 m pc ls sk) := by
  subst hsk
  refine va_callv (va_runV (As := As) (rest := rest) ⟨C.1, C.2.1, C.2.2.1, C.2.2.2.1, C.2.2.2.2.1⟩ (hM H.size) (cwV na C.2.2.2.2.1 (gg_V h1 h2 h3 h4 h5) rfl rfl rfl hd hR) ⟨pre_blind, va_recv C.2.2.2.2.2.2.2.1 (s_P Sp S) (ci := ci) (q0 := q) hc (O (sb σ)), s_pre Sp C S⟩ rfl hna hls rfl (lv_room hre) hdg hcap) S.2.2 (fun z _ h => s_own Sp C S z h) (s_own Sp C S) (fun u t H1 locs1 ht hvm hw hB hz hk hS => ?_)
  obtain rfl := hw
  exact kk H1 locs1 (s_after Sp C S ht hB hk hS)
theorem s_callSi (Sp : splA wd wc sb ub ps is pm) (C : cx D tys A own cc nL ret p s m args c meth) (S : st D (wd pa pl) A s σ H locs) (hM : metI l D tys y b n rt rf rl (wc pa pl) As (sb σ) r ν) (h1 : Cond.methodLink own idx y ∈ gw) (h2 : Cond.static y ∈ gw) (h4 : Cond.initialized y.cls ∈ gw) (h5 : Cond.code y b n rt ∈ gw)
    (hd : y.cls ≠ "java/lang/invoke/MethodHandle" ∧ y.cls ≠ "java/lang/invoke/VarHandle" ∧ (parseMethodDescriptor y.desc).map (fun d => d.parameters.length) = some na) (hR : rf + 1 ≤ R.frames ∧ 8 + (n + 11) + rl ≤ R.locals) (hna : As.length = na) (hls : ls.size = nL) (hcap : cells ≤ R.cells ∧ slots ≤ R.slots) (hre : (rest.map fun v => v.category).sum ≤ 8) (hdg : decode cc pc = .ok (.invokestatic idx, 3)) {sk : List Value} (hsk : sk = As.reverse ++ rest)
    (kk : ∀ (H1 : Heap) (locs1 : List Loc), st D (wd pa pl) A s (ub σ ν) H1 locs1 → W p l e R s m args below meth c H1 locs1 cells slots Q (F0 m (pc + 3) ls (.int r :: rest))) : W p l e R s m args below meth c H locs cells slots Q (F0 m pc ls sk) := by
  subst hsk
  refine va_calli (va_runS (As := As) (rest := rest) ⟨C.1, C.2.1, C.2.2.1, C.2.2.2.1, C.2.2.2.2.1⟩ (hM H.size) (va_cwS na C.2.2.2.2.1 (gg_S h1 h2 h4 h5) rfl rfl rfl hd hR) ⟨pre_blind, s_pre Sp C S⟩ rfl hna hls rfl (lv_room hre) hdg hcap) S.2.2 (fun z _ h => s_own Sp C S z h) (s_own Sp C S) (fun r1 u t H1 locs1 ht hvm hw hB hz hk hS => ?_)
  obtain ⟨rfl, rfl⟩ := hw
  exact kk H1 locs1 (s_after Sp C S ht hB hk hS)
end QS
def ub36 (σ ν : Sg) : Sg := fun q => if q < 36 then ν q else σ q
theorem spl_RN (cI cB : ClassId) (ad : Nat → Nat) : splA (wR cI cB ad) (wN cI ad) (fun σ => σ) ub36 [0,1,2,3,4,5,6,7,8,9,10,11,12,13,14,15,16,17,18,19,20,21,22,23,24,25,26,27,28,29,30,31,32,33,34,35] [36,37,38] [3,4,5,6,7,8,9,10,11,12,13,14,15,16,17,18,19,20,21,22,23,24,25,26,27,28,29,30,31,32,33,34,35,36,37,38,0,1,2] := by
  refine ⟨fun _ _ _ => rfl, fun _ _ _ _ _ _ => rfl, fun _ _ _ => rfl, rfl, by decide, rfl, rfl, fun σ => ?_⟩
  funext q
  simp [ub36]
