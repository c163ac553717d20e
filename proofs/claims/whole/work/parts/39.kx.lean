def wrd : Nat → List Int32 := fun i => match i with | 0 => [110, 111, 100, 101, 115] | 1 => [103, 114, 111, 117, 112] | 2 => [100, 101, 108, 97, 121] | 3 => [106, 105, 116, 116, 101, 114] | 4 => [110, 111, 116, 105, 99, 101] | 5 => [97, 116] | 6 => [115, 101, 110, 100] | _ => [99, 114, 97, 115, 104]
def ksites : List (String × Nat × String × Nat) := [(RX9, 44, "nodes", 0), (RX9, 54, "group", 1), (RX9, 59, "delay", 2), (RX9, 65, "jitter", 3), (RX9, 75, "notice", 4), (RX9, 79, "at", 5), (RX9, 124, "send", 6), (RX9, 126, "crash", 7), (RX11, 70, "the text is wrong", 8), (RX11, 80, "there are all texts", 9), (RX11, 392, "no such NODE", 10), (RX11, 121, "no such what of a NODE", 11), (RX11, 394, "no such GROUP", 12), (RX11, 396, "no such MESSAGE", 13), (RX11, 157, "no such what of a MESSAGE", 14), (RX11, 400, "no such what", 15), (RX11, 204, "no such what of a CHANNEL", 16), (RX11, 208, "no such PACKET", 17), (RX11, 217, "no such what of a PACKET", 18), (RX11, 230, "the NODE does not GATHER for it", 19), (RX11, 242, "no such what of a GATHER", 20), (RX11, 244, "so many TICKS are none", 21), (RX11, 253, "the NODE is DOWN, or there are all MESSAGES", 22), (RX11, 258, "the NODE is DOWN", 23), (RX11, 398, "both are one", 24), (RX11, 343, "no such EVENT", 25), (RX11, 357, "no such what of an EVENT", 26), (RX12, 147, "nodes", 0), (RX12, 151, "group", 1), (RX12, 156, "delay", 2), (RX12, 161, "jitter", 3), (RX12, 163, "notice", 4), (RX12, 165, "at", 5), (RX12, 139, "send", 6), (RX12, 145, "crash", 7)]
/-- words of the tables that are not good, but ride along -/
def xw : List Cond := lw_tbl.filter (fun w => w.onTables && w.faceAtom)
/-- what is known of the constants: the words' texts, where each text is linked, the JDK's statics that are read -/
def kx (ka kv : Nat → Nat) (fv : Value) (A : Nat → Prop) (U : State) (H : Heap) : Prop :=
  (∀ i, i < 8 → va_O "java/lang/String" (ka i) A U H ∧ va_OF "java/lang/String" "coder" "B" (.int 0) (ka i) A U H ∧ va_OF "java/lang/String" "value" "[B" (.ref (kv i)) (ka i) A U H ∧ va_T .byte (kv i) (wrd i).length (fun j => .int ((wrd i).getD j 0)) A U H) ∧
  (∀ q ∈ ksites, vk_R q.1 q.2.1 q.2.2.1 (ka q.2.2.2) U) ∧
  va_Z "java/lang/String" "COMPACT_STRINGS" "Z" (.int 1) A U H ∧
  (va_Z "jdk/internal/util/Preconditions" "SIOOBE_FORMATTER" "Ljava/util/function/BiFunction;" fv A U H ∧ (fv = .null ∨ ∃ t, fv = .ref t)) ∧
  vx_Zq Bundle.tN "UNASSIGNED_STACK" Bundle.steD A U H ∧ vx_Zq Bundle.tN "SUPPRESSED_SENTINEL" Bundle.listD A U H ∧ ∀ w ∈ xw, va_Nw w U
theorem xw_warm {s U : State} (hW : s.WarmedH U.vm) {w : Cond} (hw : w ∈ xw) (h : va_Nw w s) : va_Nw w U := by
  have h2 := (List.mem_filter.mp hw).2
  rw [Bool.and_eq_true] at h2
  exact va_tabs h2.1 (rfl : (s.setVm U.vm).vm = U.vm) (Cond.faceAtom_setVm hW.alike w h2.2 h)
theorem kx_call {ka kv : Nat → Nat} {fv : Value} {A A' : Nat → Prop} {s U : State} {H : Heap} {locs : List Loc} (K : kx ka kv fv A s s.heap) (hS : va_S A s.heap H locs) (hA : ∀ q, A' q → A q) (hU : U.heap = H) (hW : s.WarmedH U.vm) : kx ka kv fv A' U U.heap := by
  subst hU
  have hk := hS.2.1
  have hv := hW.alike
  obtain ⟨k1, k2, k3, ⟨k4, k4b⟩, k5, k6, k7⟩ := K
  refine ⟨fun i hi => ?_, fun q hq => (k2 q hq).warm hW, ((k3.kept hk).moved hv).narrow hA, ⟨((k4.kept hk).moved hv).narrow hA, k4b⟩, ((k5.kept hk).moved hv).narrow hA, ((k6.kept hk).moved hv).narrow hA, fun w hw => xw_warm hW hw (k7 w hw)⟩
  obtain ⟨a1, a2, a3, a4⟩ := k1 i hi
  exact ⟨((a1.kept hk).moved hv).narrow hA, ((a2.kept hk).moved hv).narrow hA, ((a3.kept hk).moved hv).narrow hA, ((a4.kept hk).moved hv).narrow hA⟩
theorem kx_blind {ka kv : Nat → Nat} {fv : Value} {A : Nat → Prop} {U : State} {g : JFrame} {mk : MethodId} {a : Array Value} (K : kx ka kv fv A U U.heap) : kx ka kv fv A (U.calling g mk a) (U.calling g mk a).heap := by
  obtain ⟨k1, k2, k3, ⟨k4, k4b⟩, k5, k6, k7⟩ := K
  have hv : U.vm.Alike (U.calling g mk a).vm := Vm.Alike.refl U.vm
  refine ⟨fun i hi => ?_, fun q hq => (k2 q hq).same rfl, k3.moved hv, ⟨k4.moved hv, k4b⟩, k5.moved hv, k6.moved hv, fun w hw => va_Nw.same (u := U) (by have h2 := (List.mem_filter.mp hw).2; rw [Bool.and_eq_true] at h2; exact h2.1) rfl (k7 w hw)⟩
  obtain ⟨a1, a2, a3, a4⟩ := k1 i hi
  exact ⟨a1.moved hv, a2.moved hv, a3.moved hv, a4.moved hv⟩
def preK (D : va_G) (tys : List (ClassId × FieldType)) (wd : Sg → va_W) (σ : Sg) (ka kv : Nat → Nat) (fv : Value) (sz : Nat) : State → Prop := fun U => pre D tys wd σ sz U ∧ kx ka kv fv (va_A (wd σ) sz) U U.heap
theorem preK_blind {D : va_G} {tys : List (ClassId × FieldType)} {wd : Sg → va_W} {σ : Sg} {ka kv : Nat → Nat} {fv : Value} {sz : Nat} {as : List Value} : FrameBlind (va_Pc as (preK D tys wd σ ka kv fv sz)) := fun a U g mk q => by
  obtain ⟨q0, q1, q2⟩ := q
  exact ⟨q0, (pre_blind (as := as) a U g mk ⟨q0, q1⟩).2, kx_blind q2⟩
def metIK (l : Launch) (D : va_G) (tys : List (ClassId × FieldType)) (ka kv : Nat → Nat) (fv : Value) (y : MethodName) (b : ByteArray) (n : Nat) (rt : Option FieldType) (rf rl : Nat) (wd : Sg → va_W) (as : List Value) (σ : Sg) (r : Int32) (σ' : Sg) : Prop :=
  ∀ sz, Met l y (Cond.code y b n rt :: gw) (rmO rf rl) (va_Pc as (preK D tys wd σ ka kv fv sz)) (qI D tys wd (va_A (wd σ) sz) r σ') 0 0 (va_A (wd σ) sz)
def metVK (l : Launch) (D : va_G) (tys : List (ClassId × FieldType)) (ka kv : Nat → Nat) (fv : Value) (y : MethodName) (b : ByteArray) (n : Nat) (rf rl : Nat) (wd : Sg → va_W) (as : List Value) (σ : Sg) (σ' : Sg) : Prop :=
  ∀ sz, Met l y (Cond.code y b n none :: gw) (rmO rf rl) (va_Pc as (preK D tys wd σ ka kv fv sz)) (qV D tys wd (va_A (wd σ) sz) σ') 0 0 (va_A (wd σ) sz)
section QK
variable {p : Program} {l : Launch} {e : Env} {R : Room} {s : State} {m : MethodId} {args : Array Value} {below : List Frame} {meth : Method} {c : Code} {H : Heap} {locs : List Loc} {cells slots : Nat} {Q : State → Prop}
variable {D : va_G} {tys : List (ClassId × FieldType)} {A : Nat → Prop} {own : String} {cc : ByteArray} {nL : Nat} {ret : Option FieldType} {wd : Sg → va_W} {σ : Sg} {pc : Nat} {ls : Array Slot} {rest : List Value}
variable {y : MethodName} {b : ByteArray} {n idx rf rl na : Nat} {rt : Option FieldType} {As : List Value} {r : Int32} {σ' : Sg} {ka kv : Nat → Nat} {fv : Value}
theorem q_entryK {rm : Room} {s₁ : State} {as : List Value} {sz : Nat} (B : BodyLoose p l y (headSpec (Cond.code y b n rt :: gw) rm) b n rt e s m args below meth c s₁) (hml : c.maxLocals = n) (hv : va_Pc as (preK D tys wd σ ka kv fv sz) args s) : args = as.toArray ∧ cx D tys (va_A (wd σ) sz) y.cls b n rt p s m args c meth ∧ st D wd (va_A (wd σ) sz) s σ s.heap [] ∧ kx ka kv fv (va_A (wd σ) sz) s s.heap := by
  obtain ⟨h1, h2, h3⟩ := q_entryA (rm := rm) B hml ⟨hv.1, hv.2.1⟩
  exact ⟨h1, h2, h3, hv.2.2⟩
theorem q_preK (C : cx D tys A own cc nL ret p s m args c meth) (Kx : kx ka kv fv A s s.heap) (S : st D wd A s σ H locs) {as : List Value} : ∀ U : State, U.heap = H → s.WarmedH U.vm → va_Pc as (preK D tys wd σ ka kv fv H.size) as.toArray U := fun U hU hW =>
  ⟨rfl, (q_pre (as := as) C S U hU hW).2, kx_call Kx S.2.2 (q_own C S) hU hW⟩
theorem q_preK0 (C : cx D tys A own cc nL ret p s m args c meth) (Kx : kx ka kv fv A s s.heap) (S : st D wd A s σ H locs) {as : List Value} : ∀ U : State, U.heap = H → s.WarmedH U.vm → va_Pc as (preK D tys w0 z0 ka kv fv H.size) as.toArray U := fun U hU hW =>
  ⟨rfl, (q_pre0 (as := as) C U hU hW).2, kx_call Kx S.2.2 (q_own0 C S) hU hW⟩
theorem q_callViK (C : cx D tys A own cc nL ret p s m args c meth) (Kx : kx ka kv fv A s s.heap) (S : st D wd A s σ H locs) {q a ci : Nat} {fl : Sg → List Value} (O : objAt wd q a ci fl) {Cn : String} {T : u_T} {N : Nat} (hc : vwCl[ci]? = some (Cn, T, N)) (hM : metIK l D tys ka kv fv y b n rt rf rl wd (.ref a :: As) σ r σ') (h1 : Cond.methodLink own idx y ∈ gw) (h2 : Cond.instanceMethod y ∈ gw) (h3 : Cond.selects Cn y y ∈ gw) (h4 : Cond.initialized Cn ∈ gw) (h5 : Cond.code y b n rt ∈ gw)
    (hd : y.cls = Cn ∧ y.cls ≠ "java/lang/invoke/MethodHandle" ∧ y.cls ≠ "java/lang/invoke/VarHandle" ∧ (parseMethodDescriptor y.desc).map (fun d => d.parameters.length) = some na) (hR : rf + 1 ≤ R.frames ∧ 8 + (n + 11) + rl ≤ R.locals) (hna : As.length = na) (hls : ls.size = nL) (hcap : cells ≤ R.cells ∧ slots ≤ R.slots) (hre : (rest.map fun v => v.category).sum ≤ 8) (hdg : decode cc pc = .ok (.invokevirtual idx, 3)) {sk : List Value} (hsk : sk = As.reverse ++ .ref a :: rest)
    (kk : ∀ (H1 : Heap) (locs1 : List Loc), st D wd A s σ' H1 locs1 → W p l e R s m args below meth c H1 locs1 cells slots Q (F0 m (pc + 3) ls (.int r :: rest))) : W p l e R s m args below meth c H locs cells slots Q (F0 m pc ls sk) := by
  subst hsk
  refine va_calli (va_runV (As := As) (rest := rest) ⟨C.1, C.2.1, C.2.2.1, C.2.2.2.1, C.2.2.2.2.1⟩ (hM H.size) (cwV na C.2.2.2.2.1 (gg_V h1 h2 h3 h4 h5) rfl rfl rfl hd hR) ⟨preK_blind, va_recv C.2.2.2.2.2.2.2.1 S.1 (ci := ci) (q0 := q) hc (O σ), q_preK C Kx S⟩ rfl hna hls rfl (lv_room hre) hdg hcap) S.2.2 (fun z _ h => q_own C S z h) (q_own C S) (fun r1 u t H1 locs1 ht hvm hw hB hz hk hS => ?_)
  obtain ⟨rfl, rfl⟩ := hw
  exact kk H1 locs1 (q_after C S ht hB hS)
theorem q_callVvK (C : cx D tys A own cc nL ret p s m args c meth) (Kx : kx ka kv fv A s s.heap) (S : st D wd A s σ H locs) {q a ci : Nat} {fl : Sg → List Value} (O : objAt wd q a ci fl) {Cn : String} {T : u_T} {N : Nat} (hc : vwCl[ci]? = some (Cn, T, N)) (hM : metVK l D tys ka kv fv y b n rf rl wd (.ref a :: As) σ σ') (h1 : Cond.methodLink own idx y ∈ gw) (h2 : Cond.instanceMethod y ∈ gw) (h3 : Cond.selects Cn y y ∈ gw) (h4 : Cond.initialized Cn ∈ gw) (h5 : Cond.code y b n none ∈ gw)
    (hd : y.cls = Cn ∧ y.cls ≠ "java/lang/invoke/MethodHandle" ∧ y.cls ≠ "java/lang/invoke/VarHandle" ∧ (parseMethodDescriptor y.desc).map (fun d => d.parameters.length) = some na) (hR : rf + 1 ≤ R.frames ∧ 8 + (n + 11) + rl ≤ R.locals) (hna : As.length = na) (hls : ls.size = nL) (hcap : cells ≤ R.cells ∧ slots ≤ R.slots) (hre : (rest.map fun v => v.category).sum ≤ 8) (hdg : decode cc pc = .ok (.invokevirtual idx, 3)) {sk : List Value} (hsk : sk = As.reverse ++ .ref a :: rest)
    (kk : ∀ (H1 : Heap) (locs1 : List Loc), st D wd A s σ' H1 locs1 → W p l e R s m args below meth c H1 locs1 cells slots Q (F0 m (pc + 3) ls rest)) : W p l e R s m args below meth c H locs cells slots Q (F0 m pc ls sk) := by
  subst hsk
  refine va_callv (va_runV (As := As) (rest := rest) ⟨C.1, C.2.1, C.2.2.1, C.2.2.2.1, C.2.2.2.2.1⟩ (hM H.size) (cwV na C.2.2.2.2.1 (gg_V h1 h2 h3 h4 h5) rfl rfl rfl hd hR) ⟨preK_blind, va_recv C.2.2.2.2.2.2.2.1 S.1 (ci := ci) (q0 := q) hc (O σ), q_preK C Kx S⟩ rfl hna hls rfl (lv_room hre) hdg hcap) S.2.2 (fun z _ h => q_own C S z h) (q_own C S) (fun u t H1 locs1 ht hvm hw hB hz hk hS => ?_)
  obtain rfl := hw
  exact kk H1 locs1 (q_after C S ht hB hS)
theorem kx_recv {i : Nat} (Kx : kx ka kv fv A s s.heap) (hi : i < 8) (hS : va_S A s.heap H locs) : ∃ cell : Cell, H[ka i]? = some cell ∧ cell.vm.isStatics = false ∧ s.vm.findClass "java/lang/String" = some cell.cls := by
  obtain ⟨cell, h1, h2, h3, h4⟩ := (Kx.1 i hi).1
  exact ⟨cell, (hS.2.1 _ (Array.getElem?_eq_some_iff.mp h1).1 h4).trans h1, h2, h3⟩
/-- a call on a word -/
theorem q_callW (C : cx D tys A own cc nL ret p s m args c meth) (Kx : kx ka kv fv A s s.heap) (S : st D wd A s σ H locs) {i : Nat} (hi : i < 8) (hM : metIK l D tys ka kv fv y b n rt rf rl w0 (.ref (ka i) :: As) z0 r z0) (h1 : Cond.methodLink own idx y ∈ gw) (h2 : Cond.instanceMethod y ∈ gw) (h3 : Cond.selects "java/lang/String" y y ∈ gw) (h4 : Cond.initialized "java/lang/String" ∈ gw) (h5 : Cond.code y b n rt ∈ gw)
    (hd : y.cls = "java/lang/String" ∧ y.cls ≠ "java/lang/invoke/MethodHandle" ∧ y.cls ≠ "java/lang/invoke/VarHandle" ∧ (parseMethodDescriptor y.desc).map (fun d => d.parameters.length) = some na) (hR : rf + 1 ≤ R.frames ∧ 8 + (n + 11) + rl ≤ R.locals) (hna : As.length = na) (hls : ls.size = nL) (hcap : cells ≤ R.cells ∧ slots ≤ R.slots) (hre : (rest.map fun v => v.category).sum ≤ 8) (hdg : decode cc pc = .ok (.invokevirtual idx, 3)) {sk : List Value} (hsk : sk = As.reverse ++ .ref (ka i) :: rest)
    (kk : ∀ (H1 : Heap) (locs1 : List Loc), st D wd A s σ H1 locs1 → W p l e R s m args below meth c H1 locs1 cells slots Q (F0 m (pc + 3) ls (.int r :: rest))) : W p l e R s m args below meth c H locs cells slots Q (F0 m pc ls sk) := by
  subst hsk
  refine va_calli (va_runV (As := As) (rest := rest) ⟨C.1, C.2.1, C.2.2.1, C.2.2.2.1, C.2.2.2.2.1⟩ (hM H.size) (cwV na C.2.2.2.2.1 (gg_V h1 h2 h3 h4 h5) rfl rfl rfl hd hR) ⟨preK_blind, kx_recv Kx hi S.2.2, q_preK0 C Kx S⟩ rfl hna hls rfl (lv_room hre) hdg hcap) S.2.2 (fun z _ h => q_own0 C S z h) (q_own0 C S) (fun r1 u t H1 locs1 ht hvm hw hB hz hk hS => ?_)
  obtain ⟨rfl, -⟩ := hw
  exact kk H1 locs1 (q_kept S hk hS)
theorem q_callPK (C : cx D tys A own cc nL ret p s m args c meth) (Kx : kx ka kv fv A s s.heap) (S : st D wd A s σ H locs) (hM : metIK l D tys ka kv fv y b n rt rf rl w0 As z0 r z0) (h1 : Cond.methodLink own idx y ∈ gw) (h2 : Cond.static y ∈ gw) (h4 : Cond.initialized y.cls ∈ gw) (h5 : Cond.code y b n rt ∈ gw)
    (hd : y.cls ≠ "java/lang/invoke/MethodHandle" ∧ y.cls ≠ "java/lang/invoke/VarHandle" ∧ (parseMethodDescriptor y.desc).map (fun d => d.parameters.length) = some na) (hR : rf + 1 ≤ R.frames ∧ 8 + (n + 11) + rl ≤ R.locals) (hna : As.length = na) (hls : ls.size = nL) (hcap : cells ≤ R.cells ∧ slots ≤ R.slots) (hre : (rest.map fun v => v.category).sum ≤ 8) (hdg : decode cc pc = .ok (.invokestatic idx, 3)) {sk : List Value} (hsk : sk = As.reverse ++ rest)
    (kk : ∀ (H1 : Heap) (locs1 : List Loc), st D wd A s σ H1 locs1 → W p l e R s m args below meth c H1 locs1 cells slots Q (F0 m (pc + 3) ls (.int r :: rest))) : W p l e R s m args below meth c H locs cells slots Q (F0 m pc ls sk) := by
  subst hsk
  refine va_calli (va_runS (As := As) (rest := rest) ⟨C.1, C.2.1, C.2.2.1, C.2.2.2.1, C.2.2.2.2.1⟩ (hM H.size) (va_cwS na C.2.2.2.2.1 (gg_S h1 h2 h4 h5) rfl rfl rfl hd hR) ⟨preK_blind, q_preK0 C Kx S⟩ rfl hna hls rfl (lv_room hre) hdg hcap) S.2.2 (fun z _ h => q_own0 C S z h) (q_own0 C S) (fun r1 u t H1 locs1 ht hvm hw hB hz hk hS => ?_)
  obtain ⟨rfl, -⟩ := hw
  exact kk H1 locs1 (q_kept S hk hS)
theorem q_callPKv (C : cx D tys A own cc nL ret p s m args c meth) (Kx : kx ka kv fv A s s.heap) (S : st D wd A s σ H locs) (hM : metVK l D tys ka kv fv y b n rf rl w0 As z0 z0) (h1 : Cond.methodLink own idx y ∈ gw) (h2 : Cond.static y ∈ gw) (h4 : Cond.initialized y.cls ∈ gw) (h5 : Cond.code y b n none ∈ gw)
    (hd : y.cls ≠ "java/lang/invoke/MethodHandle" ∧ y.cls ≠ "java/lang/invoke/VarHandle" ∧ (parseMethodDescriptor y.desc).map (fun d => d.parameters.length) = some na) (hR : rf + 1 ≤ R.frames ∧ 8 + (n + 11) + rl ≤ R.locals) (hna : As.length = na) (hls : ls.size = nL) (hcap : cells ≤ R.cells ∧ slots ≤ R.slots) (hre : (rest.map fun v => v.category).sum ≤ 8) (hdg : decode cc pc = .ok (.invokestatic idx, 3)) {sk : List Value} (hsk : sk = As.reverse ++ rest)
    (kk : ∀ (H1 : Heap) (locs1 : List Loc), st D wd A s σ H1 locs1 → W p l e R s m args below meth c H1 locs1 cells slots Q (F0 m (pc + 3) ls rest)) : W p l e R s m args below meth c H locs cells slots Q (F0 m pc ls sk) := by
  subst hsk
  refine va_callv (va_runS (As := As) (rest := rest) ⟨C.1, C.2.1, C.2.2.1, C.2.2.2.1, C.2.2.2.2.1⟩ (hM H.size) (va_cwS na C.2.2.2.2.1 (gg_S h1 h2 h4 h5) rfl rfl rfl hd hR) ⟨preK_blind, q_preK0 C Kx S⟩ rfl hna hls rfl (lv_room hre) hdg hcap) S.2.2 (fun z _ h => q_own0 C S z h) (q_own0 C S) (fun u t H1 locs1 ht hvm hw hB hz hk hS => ?_)
  exact kk H1 locs1 (q_kept S hk hS)
end QK
