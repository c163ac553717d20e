/-! the level of the law: worlds as plain lists, contracts whose outcome is a relation -/
def cw (X : va_W) : Sg → va_W := fun _ => X
def nps (U : State) : Prop := ∀ i j, i < 5 → j < 5 → i ≠ j → va_Nc (exn i) (exn j) U
theorem nps.moved {u U : State} (hvm : u.vm.Alike U.vm) (h : nps u) : nps U := fun i j hi hj hn => (h i j hi hj hn).moved hvm
theorem Met.mono {l : Launch} {y : MethodName} {ws : List Cond} {rm : Room} {Pc Pc' : Array Value → State → Prop} {Qc Qc' : Array Value → State → Outcome → State → Prop} {mc ms : Nat} {free : Addr → Prop} (h : Met l y ws rm Pc Qc mc ms free) (hp : ∀ a s, Pc' a s → Pc a s) (hq : ∀ a s o t, Qc a s o t → Qc' a s o t) : Met l y ws rm Pc' Qc' mc ms free := by
  intro p e ha hc hk s m args below hf happ hP hK
  obtain ⟨n, o, h1, h2, h3, hQ, hL⟩ := h p e ha hc hk s m args below hf happ (hp _ _ hP) hK
  exact ⟨n, o, h1, h2, h3, hq _ _ _ _ hQ, hL⟩
theorem vx_Met.mono {l : Launch} {y : MethodName} {ws : List Cond} {rm : Room} {Pc : Array Value → State → Prop} {Qc Qc' : Array Value → State → Outcome → State → Prop} {XC XC' : String → State → State → Prop} {mc ms : Nat} {free : Addr → Prop} (h : vx_Met l y ws rm Pc Qc XC mc ms free) (hq : ∀ a s o t, Qc a s o t → Qc' a s o t) (hx : ∀ E s t, XC E s t → XC' E s t) : vx_Met l y ws rm Pc Qc' XC' mc ms free := by
  intro p e ha hc hk s m args below hf happ hP hK
  obtain ⟨n, o, h1, h2, h3, hQ⟩ := h p e ha hc hk s m args below hf happ hP hK
  refine ⟨n, o, h1, h2, h3, ?_⟩
  rcases hQ with ⟨hq1, hL⟩ | ⟨q, ho, E, ce, L, hXC, hr⟩
  · exact Or.inl ⟨hq _ _ _ _ hq1, hL⟩
  · exact Or.inr ⟨q, ho, E, ce, L, hx _ _ _ hXC, hr⟩
def qG (D : va_G) (tys : List (ClassId × FieldType)) (X : va_W) (sz : Nat) (RI : Int32 → va_W → Prop) : Array Value → State → Outcome → State → Prop := va_Qi RI (fun W' t => post D tys (cw W') (va_A X sz) z0 t) (va_A X sz)
def qGV (D : va_G) (tys : List (ClassId × FieldType)) (X : va_W) (sz : Nat) (RV : va_W → Prop) : Array Value → State → Outcome → State → Prop := va_Qv RV (fun W' t => post D tys (cw W') (va_A X sz) z0 t) (va_A X sz)
def xG (D : va_G) (tys : List (ClassId × FieldType)) (X : va_W) (sz : Nat) (RX : Nat → va_W → Prop) : String → State → State → Prop := vx_X (fun P : Nat × va_W => RX P.1 P.2) (fun E P t => E = exn P.1 ∧ post D tys (cw P.2) (va_A X sz) z0 t) (va_A X sz)
abbrev rmG (rf rl mc ms : Nat) : Room := { frames := rf, cells := mc, slots := ms, locals := rl }
/-- a method of the object: an int comes back, or an exception goes out; the world behind it -/
def metG (l : Launch) (D : va_G) (tys : List (ClassId × FieldType)) (ka kv : Nat → Nat) (fv : Value) (y : MethodName) (b : ByteArray) (n : Nat) (rt : Option FieldType) (rf rl mc ms : Nat) (as : List Value) (X : va_W) (RI : Int32 → va_W → Prop) (RX : Nat → va_W → Prop) : Prop :=
  ∀ sz, vx_Met l y (Cond.code y b n rt :: gw) (rmG rf rl mc ms) (va_Pc as (preK D tys (cw X) z0 ka kv fv sz)) (qG D tys X sz RI) (xG D tys X sz RX) mc ms (va_A X sz)
def metGV (l : Launch) (D : va_G) (tys : List (ClassId × FieldType)) (ka kv : Nat → Nat) (fv : Value) (y : MethodName) (b : ByteArray) (n : Nat) (rf rl mc ms : Nat) (as : List Value) (X : va_W) (RV : va_W → Prop) (RX : Nat → va_W → Prop) : Prop :=
  ∀ sz, vx_Met l y (Cond.code y b n none :: gw) (rmG rf rl mc ms) (va_Pc as (preK D tys (cw X) z0 ka kv fv sz)) (qGV D tys X sz RV) (xG D tys X sz RX) mc ms (va_A X sz)
section GM
variable {l : Launch} {D : va_G} {tys : List (ClassId × FieldType)} {ka kv : Nat → Nat} {fv : Value} {y : MethodName} {b : ByteArray} {n rf rl k pl d kt p0 l0 : Nat} {rt : Option FieldType} {wd : Sg → va_W} {wf : Nat → Nat → Sg → va_W} {as : List Value} {σ : Sg} {z : Xr × Sg} {cI cB cL : ClassId} {ad : Nat → Nat}
theorem metXI.G (h : metXI l D tys ka kv fv y b n rt rf rl k wd as σ z) : metG l D tys ka kv fv y b n rt rf rl k (6 * k) as (wd σ) (fun x W' => ∃ u, z = (.inl x, u) ∧ W' = wd u) (fun E W' => ∃ u, z = (.inr E, u) ∧ W' = wd u) := fun sz => (h sz).mono
  (fun a s o t hq => by obtain ⟨⟨r, u, h1, h2, h3⟩, hF⟩ := hq; exact ⟨⟨r, wd u, h1, ⟨u, h2, rfl⟩, h3⟩, hF⟩)
  (fun E s t hX => by obtain ⟨⟨E0, u⟩, h1, ⟨h2, h3⟩, hF⟩ := hX; exact ⟨(E0, wd u), ⟨u, h1, rfl⟩, ⟨h2, h3⟩, hF⟩)
theorem metXV.G (h : metXV l D tys ka kv fv y b n rf rl k wd as σ z) : metGV l D tys ka kv fv y b n rf rl k (6 * k) as (wd σ) (fun W' => ∃ u, z = (.inl 0, u) ∧ W' = wd u) (fun E W' => ∃ u, z = (.inr E, u) ∧ W' = wd u) := fun sz => (h sz).mono
  (fun a s o t hq => by obtain ⟨⟨u, h1, h2, h3⟩, hF⟩ := hq; exact ⟨⟨wd u, h1, ⟨u, h2, rfl⟩, h3⟩, hF⟩)
  (fun E s t hX => by obtain ⟨⟨E0, u⟩, h1, ⟨h2, h3⟩, hF⟩ := hX; exact ⟨(E0, wd u), ⟨u, h1, rfl⟩, ⟨h2, h3⟩, hF⟩)
theorem metYI.G (h : metYI l D tys ka kv fv y b n rt rf rl k wf as σ pl z d) (pa : Nat) : metG l D tys ka kv fv y b n rt rf rl (k + d) (6 * k + 2 * d) as (wf pa pl σ) (fun x W' => ∃ p1 u, z = (.inl x, u) ∧ W' = wf p1 (pl + d) u) (fun E W' => ∃ p1 u, z = (.inr E, u) ∧ W' = wf p1 (pl + d) u) := fun sz => (h pa sz).mono
  (fun a s o t hq => by obtain ⟨⟨r, u, h1, h2, h3⟩, hF⟩ := hq; exact ⟨⟨r, wf u.1 (pl + d) u.2, h1, ⟨u.1, u.2, h2, rfl⟩, h3⟩, hF⟩)
  (fun E s t hX => by obtain ⟨⟨p1, E0, u⟩, h1, ⟨h2, h3⟩, hF⟩ := hX; exact ⟨(E0, wf p1 (pl + d) u), ⟨p1, u, h1, rfl⟩, ⟨h2, h3⟩, hF⟩)
theorem metYV.G (h : metYV l D tys ka kv fv y b n rf rl k wf as σ pl z d) (pa : Nat) : metGV l D tys ka kv fv y b n rf rl (k + d) (6 * k + 2 * d) as (wf pa pl σ) (fun W' => ∃ p1 u, z = (.inl 0, u) ∧ W' = wf p1 (pl + d) u) (fun E W' => ∃ p1 u, z = (.inr E, u) ∧ W' = wf p1 (pl + d) u) := fun sz => (h pa sz).mono
  (fun a s o t hq => by obtain ⟨⟨u, h1, h2, h3⟩, hF⟩ := hq; exact ⟨⟨wf u.1 (pl + d) u.2, h1, ⟨u.1, u.2, h2, rfl⟩, h3⟩, hF⟩)
  (fun E s t hX => by obtain ⟨⟨p1, E0, u⟩, h1, ⟨h2, h3⟩, hF⟩ := hX; exact ⟨(E0, wf p1 (pl + d) u), ⟨p1, u, h1, rfl⟩, ⟨h2, h3⟩, hF⟩)
theorem metN.G (h : metN l D cI cB cL ka kv fv n rt rf rl k ad kt p0 l0 σ pl z d) (pa : Nat) : metG l D (tyl cI cB cL) ka kv fv yX11_net cX11_net n rt rf rl (k + d) (6 * k + 2 * d) [.ref (ad 72)] (wU cI cB ad kt p0 l0 pa pl σ) (fun x W' => ∃ p1 u, z = (.inl x, u) ∧ W' = wU cI cB (adS ad) kt p1 (pl + d) p0 l0 u) (fun E W' => ∃ p1 u, z = (.inr E, u) ∧ W' = wU cI cB ad kt p0 l0 p1 (pl + d) u) := fun sz => (h pa sz).mono
  (fun a s o t hq => by obtain ⟨⟨r, u, h1, h2, h3⟩, hF⟩ := hq; exact ⟨⟨r, wU cI cB (adS ad) kt u.1 (pl + d) p0 l0 u.2, h1, ⟨u.1, u.2, h2, rfl⟩, h3⟩, hF⟩)
  (fun E s t hX => by obtain ⟨⟨p1, E0, u⟩, h1, ⟨h2, h3⟩, hF⟩ := hX; exact ⟨(E0, wU cI cB ad kt p0 l0 p1 (pl + d) u), ⟨p1, u, h1, rfl⟩, ⟨h2, h3⟩, hF⟩)
end GM
theorem rng_some (X : va_W) : (List.range X.length).map (fun i => X[i]?) = X.map some := by
  apply List.ext_getElem?
  intro i
  rw [List.getElem?_map, List.getElem?_map]
  by_cases h : i < X.length
  · rw [List.getElem?_range h]
    simp [List.getElem?_eq_getElem h]
  · rw [List.getElem?_eq_none (by simpa using h), List.getElem?_eq_none (by simpa using h)]
    rfl
section GR
variable {p : Program} {l : Launch} {e : Env} {R : Room} {s : State} {m : MethodId} {args : Array Value} {below : List Frame} {meth : Method} {c : Code} {H : Heap} {locs : List Loc} {cells slots : Nat} {Q : State → Prop}
variable {D : va_G} {tys : List (ClassId × FieldType)} {A : Nat → Prop} {own : String} {cc : ByteArray} {nL : Nat} {ret : Option FieldType} {pc : Nat} {ls : Array Slot} {rest : List Value} {X X' Y : va_W}
variable {y : MethodName} {b : ByteArray} {n idx rf rl na mc ms : Nat} {rt : Option FieldType} {As : List Value} {ka kv : Nat → Nat} {fv : Value} {RI : Int32 → va_W → Prop} {RV : va_W → Prop} {RX : Nat → va_W → Prop}
theorem g_P (S : st D (cw (X ++ Y)) A s z0 H locs) : va_P D vwCl X H := fun k q hk => S.1 k q (by show (X ++ Y)[k]? = _; rw [List.getElem?_append_left (List.getElem?_eq_some_iff.mp hk).1]; exact hk)
theorem g_D (S : st D (cw (X ++ Y)) A s z0 H locs) : va_D A X := by
  have h : va_D A (X ++ Y) := S.2.1
  refine h.by id (fun k q hk => ?_) (fun i j _ _ e => e)
  show (X ++ Y)[k]? = _
  rw [List.getElem?_append_left (List.getElem?_eq_some_iff.mp hk).1]; exact hk
theorem g_own (C : cx D tys A own cc nL ret p s m args c meth) (S : st D (cw (X ++ Y)) A s z0 H locs) : ∀ q, va_A X H.size q → A q := fun q h => by
  rcases h with ⟨k, e, hk⟩ | h
  · exact (g_D S).2 k (q, e) hk
  · exact C.2.2.2.2.2.2.2.2.1 q (Nat.le_trans S.2.2.1 h)
theorem g_after (C : cx D tys A own cc nL ret p s m args c meth) (S : st D (cw (X ++ Y)) A s z0 H locs) {t : State} {H1 : Heap} {locs1 : List Loc} (ht : t.heap = H1) (hB : post D tys (cw X') (va_A X H.size) z0 t) (hk : ∀ q : Nat, q < H.size → ¬ va_A X H.size q → H1[q]? = H[q]?) (hS : va_S A s.heap H1 locs1) : st D (cw (X' ++ Y)) A s z0 H1 locs1 := by
  obtain ⟨h1, -, h3⟩ := hB
  rw [ht] at h1
  obtain ⟨hP, hD⟩ := va_joinQ (X := X) (cx := X) (wr := []) (w1 := X') (pl := Y) S.1 S.2.1 (List.range X.length) [] (rng_some X) rfl rfl (fun i hi => by cases hi) hk (g_own C S) h1 h3
  exact ⟨hP, hD, hS⟩
theorem g_pre (C : cx D tys A own cc nL ret p s m args c meth) (Kx : kx ka kv fv A s s.heap) (S : st D (cw (X ++ Y)) A s z0 H locs) {as : List Value} : ∀ U : State, U.heap = H → s.WarmedH U.vm → va_Pc as (preK D tys (cw X) z0 ka kv fv H.size) as.toArray U := fun U hU hW =>
  ⟨rfl, ⟨by rw [hU], by rw [hU]; exact g_P S, va_K.moved hW.alike C.2.2.2.2.2.2.2.1, (g_D S).weaken (fun _ _ _ _ => trivial), nws_warm hW C.2.2.2.2.2.2.2.2.2⟩, kx_call Kx S.2.2 (g_own C S) hU hW⟩
/-- a permutation of the left part -/
theorem g_perm (is : List Nat) (hn : va_nd is = true) (hs : is.map (fun i => X[i]?) = X'.map some) (S : st D (cw (X ++ Y)) A s z0 H locs) : st D (cw (X' ++ Y)) A s z0 H locs := ⟨va_P.by S.1 _ (va_part is hs), va_D.part S.2.1 is hn hs, S.2.2⟩
theorem g_swap {a b c : va_W} (S : st D (cw ((a ++ b) ++ c)) A s z0 H locs) : st D (cw ((a ++ c) ++ b)) A s z0 H locs := ⟨va_P.swap S.1, va_D.swap S.2.1, S.2.2⟩
theorem g_comm {a b : va_W} (S : st D (cw (a ++ b)) A s z0 H locs) : st D (cw (b ++ a)) A s z0 H locs := g_swap (a := []) S
theorem g_assoc {a b c : va_W} (S : st D (cw ((a ++ b) ++ c)) A s z0 H locs) : st D (cw (a ++ (b ++ c))) A s z0 H locs := by rw [List.append_assoc] at S; exact S
theorem g_assoc' {a b c : va_W} (S : st D (cw (a ++ (b ++ c))) A s z0 H locs) : st D (cw ((a ++ b) ++ c)) A s z0 H locs := by rw [← List.append_assoc] at S; exact S
theorem g_callVi (C : cx D tys A own cc nL ret p s m args c meth) (Kx : kx ka kv fv A s s.heap) (S : st D (cw (X ++ Y)) A s z0 H locs) {q ao ci : Nat} {fs : List Value} (O : X[q]? = some (ao, .inr (ci, fs))) {Cn : String} {T : u_T} {N : Nat} (hc : vwCl[ci]? = some (Cn, T, N)) (hM : metG l D tys ka kv fv y b n rt rf rl mc ms (.ref ao :: As) X RI RX) (h1 : Cond.methodLink own idx y ∈ gw) (h2 : Cond.instanceMethod y ∈ gw) (h3 : Cond.selects Cn y y ∈ gw) (h4 : Cond.initialized Cn ∈ gw) (h5 : Cond.code y b n rt ∈ gw)
    (hd : y.cls = Cn ∧ y.cls ≠ "java/lang/invoke/MethodHandle" ∧ y.cls ≠ "java/lang/invoke/VarHandle" ∧ (parseMethodDescriptor y.desc).map (fun d => d.parameters.length) = some na) (hR : rf + 1 ≤ R.frames ∧ 8 + (n + 11) + rl ≤ R.locals) (hna : As.length = na) (hls : ls.size = nL) (hcap : cells + mc ≤ R.cells ∧ slots + ms ≤ R.slots) (hre : (rest.map fun v => v.category).sum ≤ 8) (hdg : decode cc pc = .ok (.invokevirtual idx, 3)) {sk : List Value} (hsk : sk = As.reverse ++ .ref ao :: rest)
    (kX : ∀ (E : Nat) (X' : va_W) (ce : Cell) (q9 : Addr) (H1 : Heap) (locs1 : List Loc), RX E X' → st D (cw (X' ++ Y)) A s z0 H1 locs1 → H1[q9]? = some ce → ce.vm = .none → s.vm.findClass (exn E) = some ce.cls → vx_W p l e R s m args below meth c H1 locs1 (cells + mc) (slots + ms) Q (F0 m pc ls rest) q9)
    (kk : ∀ (r : Int32) (X' : va_W) (H1 : Heap) (locs1 : List Loc), RI r X' → st D (cw (X' ++ Y)) A s z0 H1 locs1 → W p l e R s m args below meth c H1 locs1 (cells + mc) (slots + ms) Q (F0 m (pc + 3) ls (.int r :: rest))) : W p l e R s m args below meth c H locs cells slots Q (F0 m pc ls sk) := by
  subst hsk
  refine vx_calli (vx_runV (As := As) (rest := rest) ⟨C.1, C.2.1, C.2.2.1, C.2.2.2.1, C.2.2.2.2.1⟩ (hM H.size) (cwV na C.2.2.2.2.1 (gg_V h1 h2 h3 h4 h5) rfl rfl rfl hd hR) ⟨preK_blind, va_recv C.2.2.2.2.2.2.2.1 (g_P S) (ci := ci) (q0 := q) hc O, g_pre C Kx S⟩ rfl hna hls rfl (lv_room hre) hdg hcap) S.2.2 (fun z _ h => g_own C S z h) (g_own C S) (fun z _ h => g_own C S z h) (fun E ce q9 u t H1 locs1 ht hvm hp hB hz hk hS hce hcv hcl => ?_) (fun r u t H1 locs1 ht hvm hw hB hz hk hS => ?_)
  · obtain ⟨rfl, hB⟩ := hB
    exact kX u.1 u.2 ce q9 H1 locs1 hp (g_after C S ht hB hk hS) hce hcv hcl
  · exact kk r u H1 locs1 hw (g_after C S ht hB hk hS)
theorem g_callVv (C : cx D tys A own cc nL ret p s m args c meth) (Kx : kx ka kv fv A s s.heap) (S : st D (cw (X ++ Y)) A s z0 H locs) {q ao ci : Nat} {fs : List Value} (O : X[q]? = some (ao, .inr (ci, fs))) {Cn : String} {T : u_T} {N : Nat} (hc : vwCl[ci]? = some (Cn, T, N)) (hM : metGV l D tys ka kv fv y b n rf rl mc ms (.ref ao :: As) X RV RX) (h1 : Cond.methodLink own idx y ∈ gw) (h2 : Cond.instanceMethod y ∈ gw) (h3 : Cond.selects Cn y y ∈ gw) (h4 : Cond.initialized Cn ∈ gw) (h5 : Cond.code y b n none ∈ gw)
    (hd : y.cls = Cn ∧ y.cls ≠ "java/lang/invoke/MethodHandle" ∧ y.cls ≠ "java/lang/invoke/VarHandle" ∧ (parseMethodDescriptor y.desc).map (fun d => d.parameters.length) = some na) (hR : rf + 1 ≤ R.frames ∧ 8 + (n + 11) + rl ≤ R.locals) (hna : As.length = na) (hls : ls.size = nL) (hcap : cells + mc ≤ R.cells ∧ slots + ms ≤ R.slots) (hre : (rest.map fun v => v.category).sum ≤ 8) (hdg : decode cc pc = .ok (.invokevirtual idx, 3)) {sk : List Value} (hsk : sk = As.reverse ++ .ref ao :: rest)
    (kX : ∀ (E : Nat) (X' : va_W) (ce : Cell) (q9 : Addr) (H1 : Heap) (locs1 : List Loc), RX E X' → st D (cw (X' ++ Y)) A s z0 H1 locs1 → H1[q9]? = some ce → ce.vm = .none → s.vm.findClass (exn E) = some ce.cls → vx_W p l e R s m args below meth c H1 locs1 (cells + mc) (slots + ms) Q (F0 m pc ls rest) q9)
    (kk : ∀ (X' : va_W) (H1 : Heap) (locs1 : List Loc), RV X' → st D (cw (X' ++ Y)) A s z0 H1 locs1 → W p l e R s m args below meth c H1 locs1 (cells + mc) (slots + ms) Q (F0 m (pc + 3) ls rest)) : W p l e R s m args below meth c H locs cells slots Q (F0 m pc ls sk) := by
  subst hsk
  refine vx_callv (vx_runV (As := As) (rest := rest) ⟨C.1, C.2.1, C.2.2.1, C.2.2.2.1, C.2.2.2.2.1⟩ (hM H.size) (cwV na C.2.2.2.2.1 (gg_V h1 h2 h3 h4 h5) rfl rfl rfl hd hR) ⟨preK_blind, va_recv C.2.2.2.2.2.2.2.1 (g_P S) (ci := ci) (q0 := q) hc O, g_pre C Kx S⟩ rfl hna hls rfl (lv_room hre) hdg hcap) S.2.2 (fun z _ h => g_own C S z h) (g_own C S) (fun z _ h => g_own C S z h) (fun E ce q9 u t H1 locs1 ht hvm hp hB hz hk hS hce hcv hcl => ?_) (fun u t H1 locs1 ht hvm hw hB hz hk hS => ?_)
  · obtain ⟨rfl, hB⟩ := hB
    exact kX u.1 u.2 ce q9 H1 locs1 hp (g_after C S ht hB hk hS) hce hcv hcl
  · exact kk u H1 locs1 hw (g_after C S ht hB hk hS)
/-- the law's own array of one long -/
def oc (cL : ClassId) (o : Nat) (f : Nat → Int64) : va_W := [(o, .inl (cL, 1, .inr (.inl f)))]
theorem oc_at {cL : ClassId} {o : Nat} {f : Nat → Int64} : (X ++ oc cL o f)[X.length]? = some (o, .inl (cL, 1, .inr (.inl f))) := by
  rw [List.getElem?_append_right (Nat.le_refl _), Nat.sub_self]; rfl
theorem oc_set {cL : ClassId} {o : Nat} {f g : Nat → Int64} : (X ++ oc cL o f).set X.length (o, .inl (cL, 1, .inr (.inl g))) = X ++ oc cL o g := by
  rw [List.set_append_right _ _ (Nat.le_refl _), Nat.sub_self]; rfl
theorem g_last {cL cI cB : ClassId} {o : Nat} {f : Nat → Int64} (C : cx D (tyl cI cB cL) A own cc nL ret p s m args c meth) (S : st D (cw (X ++ oc cL o f)) A s z0 H locs) {x : Int64} (hdg : decode cc pc = .ok (.lastore, 1))
    (kk : ∀ (g : Nat → Int64) (H1 : Heap) (locs1 : List Loc), g 0 = x → st D (cw (X ++ oc cL o g)) A s z0 H1 locs1 → W p l e R s m args below meth c H1 locs1 cells slots Q (F0 m (pc + 1) ls rest)) : W p l e R s m args below meth c H locs cells slots Q (F0 m pc ls (.long x :: .int 0 :: .ref o :: rest)) := by
  refine va_last C.1 C.2.1 C.2.2.2.2.2.2.2.1 S.1 S.2.1 S.2.2 X.length 2 oc_at rfl (i := 0) (by unfold vp_in; decide) hdg (fun H1 locs1 h1 h2 h3 => ?_)
  have h1 : va_P D vwCl (X ++ oc cL o (vp_updL f (0 : Int32).toNatClampNeg x)) H1 := by rw [← oc_set (f := f)]; exact h1
  have h2 : va_D A (X ++ oc cL o (vp_updL f (0 : Int32).toNatClampNeg x)) := by rw [← oc_set (f := f)]; exact h2
  exact kk _ H1 locs1 (by simp [vp_updL]) ⟨h1, h2, h3⟩
def kc (codes : List Nat) (E : Nat) : Int32 := if E = codes.getD 0 99 then 1 else if E = codes.getD 1 99 then 2 else if E = codes.getD 2 99 then 3 else 0
/-- the wrappers of the law: what they leave -/
def rW (k0 : Nat → Int32) (cL : ClassId) (o : Nat) (f : Nat → Int64) (v : Int32 → Int64) (RI : Int32 → va_W → Prop) (RX : Nat → va_W → Prop) (k : Int32) (W' : va_W) : Prop :=
  (k = 0 ∧ ∃ r X' g, RI r X' ∧ g 0 = v r ∧ W' = X' ++ oc cL o g) ∨ ∃ E X', RX E X' ∧ k = k0 E ∧ W' = X' ++ oc cL o f
def preW (D : va_G) (tys : List (ClassId × FieldType)) (X : va_W) (ka kv : Nat → Nat) (fv : Value) (sz : Nat) : State → Prop := fun U => preK D tys (cw X) z0 ka kv fv sz U ∧ nps U
theorem preW_blind {sz : Nat} {as : List Value} : FrameBlind (va_Pc as (preW D tys X ka kv fv sz)) := fun a U g mk q => by
  obtain ⟨q0, q1, q2⟩ := q
  exact ⟨q0, (preK_blind (as := as) a U g mk ⟨q0, q1⟩).2, nps.moved (u := U) (U := U.calling g mk a) (Vm.Alike.refl U.vm) q2⟩
def metW (l : Launch) (D : va_G) (tys : List (ClassId × FieldType)) (ka kv : Nat → Nat) (fv : Value) (y : MethodName) (b : ByteArray) (n : Nat) (rt : Option FieldType) (hh : List (Nat × Nat × Nat × Nat)) (rf rl mc ms : Nat) (as : List Value) (X : va_W) (RI : Int32 → va_W → Prop) : Prop :=
  ∀ sz, Met l y (Cond.codeWith y b n rt hh :: gw) (rmG rf rl mc ms) (va_Pc as (preW D tys X ka kv fv sz)) (qG D tys X sz RI) mc ms (va_A X sz)
theorem w_entry {rm : Room} {hh : List (Nat × Nat × Nat × Nat)} {s₁ : State} {as : List Value} {sz : Nat} (B : BodyLoose p l y (headSpec (Cond.codeWith y b n rt hh :: gw) rm) b n rt e s m args below meth c s₁) (hml : c.maxLocals = n) (hv : va_Pc as (preW D tys X ka kv fv sz) args s) : args = as.toArray ∧ cx D tys (va_A X sz) y.cls b n rt p s m args c meth ∧ st D (cw X) (va_A X sz) s z0 s.heap [] ∧ kx ka kv fv (va_A X sz) s s.heap ∧ nps s ∧ c.exceptionTable.toList = tableOf hh := by
  obtain ⟨h0, ⟨⟨hsz, hP, hK, hD, hn⟩, hx⟩, hnp⟩ := hv
  refine ⟨h0, ⟨B.exec, B.bytes, hml, findClass_of_methodNamed B.named, fun w hw => atoms_spec (ws := Cond.codeWith y b n rt hh :: gw) B.pre w (List.mem_cons_of_mem _ hw), B.returns, B.notSynchronized, hK, fun q h => Or.inr (by rw [← hsz]; exact h), hn⟩, ⟨hP, hD.self, va_S.rf⟩, hx, hnp, vx_table (x := y) B (atoms_spec (ws := Cond.codeWith y b n rt hh :: gw) B.pre _ List.mem_cons_self)⟩
theorem w_iret {sz : Nat} (C : cx D tys (va_A Y sz) own cc nL (some .int) p s m args c meth) (S : st D (cw X) (va_A Y sz) s z0 H locs) {v : Int32} (h : RI v X) (hc : cells ≤ mc ∧ slots ≤ ms) (hdg : decode cc pc = .ok (.ireturn, 1)) : W p l e R s m args below meth c H locs cells slots (MQ below (qG D tys Y sz RI) args s mc ms (va_A Y sz)) (F0 m pc ls [.int v]) :=
  W.widen (k := mc) (n := ms) hc.1 hc.2 (W.iret C.1 C.2.1 C.2.2.2.2.2.1 (fun t ht hW => ⟨⟨v, X, rfl, h, by show va_P D vwCl X t.heap; rw [ht]; exact S.1, va_K.moved hW.alike C.2.2.2.2.2.2.2.1, S.2.1⟩, S.2.2.F ht⟩) S.2.2.2.2 hdg C.2.2.2.2.2.2.1)
end GR
