/-! methods that may make a longer pool: what comes back tells by how much it grew -/
def addB (d : Nat) (o : Option (Sg × Nat)) : Option (Sg × Nat) := match o with
  | none => none
  | some z => some (z.1, d + z.2)
def addA (d : Nat) (o : Option (Int32 × Sg × Nat)) : Option (Int32 × Sg × Nat) := match o with
  | none => none
  | some z => some (z.1, z.2.1, d + z.2.2)
theorem addB_some {d n : Nat} {o : Option (Sg × Nat)} {σ : Sg} (h : addB d o = some (σ, n)) : ∃ k, o = some (σ, k) ∧ n = d + k := by
  cases o with
  | none => cases h
  | some z =>
    obtain ⟨z1, z2⟩ := z
    simp only [addB, Option.some.injEq, Prod.mk.injEq] at h
    exact ⟨z2, by rw [h.1], h.2.symm⟩
theorem addA_some {d n : Nat} {o : Option (Int32 × Sg × Nat)} {r : Int32} {σ : Sg} (h : addA d o = some (r, σ, n)) : ∃ k, o = some (r, σ, k) ∧ n = d + k := by
  cases o with
  | none => cases h
  | some z =>
    obtain ⟨z0, z1, z2⟩ := z
    simp only [addA, Option.some.injEq, Prod.mk.injEq] at h
    exact ⟨z2, by rw [h.1, h.2.1], h.2.2.symm⟩
def obt {α β γ δ : Type} (o : Option (α × β × γ)) (k : α → β → γ → Option δ) : Option δ := match o with
  | none => none
  | some z => k z.1 z.2.1 z.2.2
theorem obt_some {α β γ δ : Type} {o : Option (α × β × γ)} {k : α → β → γ → Option δ} {z : δ} (h : obt o k = some z) : ∃ (r : α) (u : β) (d : γ), o = some (r, u, d) ∧ k r u d = some z := by
  cases o with
  | none => cases h
  | some q => exact ⟨q.1, q.2.1, q.2.2, rfl, h⟩
abbrev rmA (rf rl d : Nat) : Room := { frames := rf, cells := d, slots := 2 * d, locals := rl }
abbrev qVA (D : va_G) (cI cB cL : ClassId) (wf : Nat → Nat → Sg → va_W) (pf : Nat) (A : Nat → Prop) (σ' : Sg) : Array Value → State → Outcome → State → Prop := va_Qv (fun _ : Nat => True) (fun pa t => post D (tyl cI cB cL) (wf pa pf) A σ' t) A
abbrev qIA (D : va_G) (cI cB cL : ClassId) (wf : Nat → Nat → Sg → va_W) (pf : Nat) (A : Nat → Prop) (r : Int32) (σ' : Sg) : Array Value → State → Outcome → State → Prop := va_Qi (fun x (_ : Nat) => x = r) (fun pa t => post D (tyl cI cB cL) (wf pa pf) A σ' t) A
def metVA (l : Launch) (D : va_G) (cI cB cL : ClassId) (y : MethodName) (b : ByteArray) (n rf rl : Nat) (wf : Nat → Nat → Sg → va_W) (as : List Value) (σ : Sg) (pl : Nat) (σ' : Sg) (d : Nat) : Prop :=
  ∀ pa sz, Met l y (Cond.code y b n none :: gw) (rmA rf rl d) (va_Pc as (pre D (tyl cI cB cL) (wf pa pl) σ sz)) (qVA D cI cB cL wf (pl + d) (va_A (wf pa pl σ) sz) σ') d (2 * d) (va_A (wf pa pl σ) sz)
def metIA (l : Launch) (D : va_G) (cI cB cL : ClassId) (y : MethodName) (b : ByteArray) (n : Nat) (rt : Option FieldType) (rf rl : Nat) (wf : Nat → Nat → Sg → va_W) (as : List Value) (σ : Sg) (pl : Nat) (r : Int32) (σ' : Sg) (d : Nat) : Prop :=
  ∀ pa sz, Met l y (Cond.code y b n rt :: gw) (rmA rf rl d) (va_Pc as (pre D (tyl cI cB cL) (wf pa pl) σ sz)) (qIA D cI cB cL wf (pl + d) (va_A (wf pa pl σ) sz) r σ') d (2 * d) (va_A (wf pa pl σ) sz)
theorem capA {R : Room} {dt a dz : Nat} (hC : R.cells = dt ∧ R.slots = 2 * dt) (ha : dt = a + dz) : a ≤ R.cells ∧ 2 * a ≤ R.slots := by
  constructor <;> omega
section QA
variable {p : Program} {l : Launch} {e : Env} {R : Room} {s : State} {m : MethodId} {args : Array Value} {below : List Frame} {meth : Method} {c : Code} {H : Heap} {locs : List Loc} {cells slots : Nat} {Q : State → Prop}
variable {D : va_G} {cI cB cL : ClassId} {ad : Nat → Nat} {wf : Nat → Nat → Sg → va_W} {pa pl : Nat} {A : Nat → Prop} {own : String} {cc : ByteArray} {nL : Nat} {ret : Option FieldType} {σ : Sg} {pc : Nat} {ls : Array Slot} {rest : List Value}
variable {y : MethodName} {b : ByteArray} {n idx rf rl na d : Nat} {rt : Option FieldType} {As : List Value} {r : Int32} {σ' : Sg}
theorem q_entryA {tys : List (ClassId × FieldType)} {wd : Sg → va_W} {rm : Room} {s₁ : State} {as : List Value} {sz : Nat} (B : BodyLoose p l y (headSpec (Cond.code y b n rt :: gw) rm) b n rt e s m args below meth c s₁) (hml : c.maxLocals = n) (hv : va_Pc as (pre D tys wd σ sz) args s) : args = as.toArray ∧ cx D tys (va_A (wd σ) sz) y.cls b n rt p s m args c meth ∧ st D wd (va_A (wd σ) sz) s σ s.heap [] := by
  obtain ⟨h0, hsz, hP, hK, hD, hn⟩ := hv
  refine ⟨h0, ⟨B.exec, B.bytes, hml, findClass_of_methodNamed B.named, fun w hw => atoms_spec (ws := Cond.code y b n rt :: gw) B.pre w (List.mem_cons_of_mem _ hw), B.returns, B.notSynchronized, hK, fun q h => Or.inr (by rw [← hsz]; exact h), hn⟩, hP, hD.self, va_S.rf⟩
theorem q_afterA {tys : List (ClassId × FieldType)} {wd wd' : Sg → va_W} (C : cx D tys A own cc nL ret p s m args c meth) (S : st D wd A s σ H locs) {u : Sg} {t : State} {H1 : Heap} {locs1 : List Loc} (ht : t.heap = H1) (hB : post D tys wd' (va_A (wd σ) H.size) u t) (hS : va_S A s.heap H1 locs1) : st D wd' A s u H1 locs1 := by
  obtain ⟨h1, -, h3⟩ := hB
  rw [ht] at h1
  exact ⟨h1, ⟨h3.1, fun k q hk => q_own C S q.1 (h3.2 k q hk)⟩, hS⟩
theorem q_callVvA (C : cx D (tyl cI cB cL) A own cc nL ret p s m args c meth) (S : st D (wf pa pl) A s σ H locs) {q a ci : Nat} {fl : Sg → List Value} (O : objAt (wf pa pl) q a ci fl) {Cn : String} {T : u_T} {N : Nat} (hc : vwCl[ci]? = some (Cn, T, N)) (hM : metVA l D cI cB cL y b n rf rl wf (.ref a :: As) σ pl σ' d) (h1 : Cond.methodLink own idx y ∈ gw) (h2 : Cond.instanceMethod y ∈ gw) (h3 : Cond.selects Cn y y ∈ gw) (h4 : Cond.initialized Cn ∈ gw) (h5 : Cond.code y b n none ∈ gw)
    (hd : y.cls = Cn ∧ y.cls ≠ "java/lang/invoke/MethodHandle" ∧ y.cls ≠ "java/lang/invoke/VarHandle" ∧ (parseMethodDescriptor y.desc).map (fun d => d.parameters.length) = some na) (hR : rf + 1 ≤ R.frames ∧ 8 + (n + 11) + rl ≤ R.locals) (hna : As.length = na) (hls : ls.size = nL) {dt dz : Nat} (hC : R.cells = dt ∧ R.slots = 2 * dt) (ha : dt = cells + (d + dz)) (hre : (rest.map fun v => v.category).sum ≤ 8) (hdg : decode cc pc = .ok (.invokevirtual idx, 3)) {sk : List Value} (hsk : sk = As.reverse ++ .ref a :: rest)
    (kk : ∀ (pa1 : Nat) (H1 : Heap) (locs1 : List Loc), st D (wf pa1 (pl + d)) A s σ' H1 locs1 → W p l e R s m args below meth c H1 locs1 (cells + d) (2 * (cells + d)) Q (F0 m (pc + 3) ls rest)) : W p l e R s m args below meth c H locs cells (2 * cells) Q (F0 m pc ls sk) := by
  subst hsk
  refine va_callv (va_runV (As := As) (rest := rest) ⟨C.1, C.2.1, C.2.2.1, C.2.2.2.1, C.2.2.2.2.1⟩ (hM pa H.size) (cwV na C.2.2.2.2.1 (gg_V h1 h2 h3 h4 h5) rfl rfl rfl hd hR) ⟨pre_blind, va_recv C.2.2.2.2.2.2.2.1 S.1 (ci := ci) (q0 := q) hc (O σ), q_pre C S⟩ rfl hna hls rfl (lv_room hre) hdg ⟨by omega, by omega⟩) S.2.2 (fun z _ h => q_own C S z h) (q_own C S) (fun u t H1 locs1 ht hvm hw hB hz hk hS => ?_)
  rw [← Nat.mul_add]
  exact kk u H1 locs1 (q_afterA C S ht hB hS)
theorem q_callViA (C : cx D (tyl cI cB cL) A own cc nL ret p s m args c meth) (S : st D (wf pa pl) A s σ H locs) {q a ci : Nat} {fl : Sg → List Value} (O : objAt (wf pa pl) q a ci fl) {Cn : String} {T : u_T} {N : Nat} (hc : vwCl[ci]? = some (Cn, T, N)) (hM : metIA l D cI cB cL y b n rt rf rl wf (.ref a :: As) σ pl r σ' d) (h1 : Cond.methodLink own idx y ∈ gw) (h2 : Cond.instanceMethod y ∈ gw) (h3 : Cond.selects Cn y y ∈ gw) (h4 : Cond.initialized Cn ∈ gw) (h5 : Cond.code y b n rt ∈ gw)
    (hd : y.cls = Cn ∧ y.cls ≠ "java/lang/invoke/MethodHandle" ∧ y.cls ≠ "java/lang/invoke/VarHandle" ∧ (parseMethodDescriptor y.desc).map (fun d => d.parameters.length) = some na) (hR : rf + 1 ≤ R.frames ∧ 8 + (n + 11) + rl ≤ R.locals) (hna : As.length = na) (hls : ls.size = nL) {dt dz : Nat} (hC : R.cells = dt ∧ R.slots = 2 * dt) (ha : dt = cells + (d + dz)) (hre : (rest.map fun v => v.category).sum ≤ 8) (hdg : decode cc pc = .ok (.invokevirtual idx, 3)) {sk : List Value} (hsk : sk = As.reverse ++ .ref a :: rest)
    (kk : ∀ (pa1 : Nat) (H1 : Heap) (locs1 : List Loc), st D (wf pa1 (pl + d)) A s σ' H1 locs1 → W p l e R s m args below meth c H1 locs1 (cells + d) (2 * (cells + d)) Q (F0 m (pc + 3) ls (.int r :: rest))) : W p l e R s m args below meth c H locs cells (2 * cells) Q (F0 m pc ls sk) := by
  subst hsk
  refine va_calli (va_runV (As := As) (rest := rest) ⟨C.1, C.2.1, C.2.2.1, C.2.2.2.1, C.2.2.2.2.1⟩ (hM pa H.size) (cwV na C.2.2.2.2.1 (gg_V h1 h2 h3 h4 h5) rfl rfl rfl hd hR) ⟨pre_blind, va_recv C.2.2.2.2.2.2.2.1 S.1 (ci := ci) (q0 := q) hc (O σ), q_pre C S⟩ rfl hna hls rfl (lv_room hre) hdg ⟨by omega, by omega⟩) S.2.2 (fun z _ h => q_own C S z h) (q_own C S) (fun r1 u t H1 locs1 ht hvm hw hB hz hk hS => ?_)
  rw [← Nat.mul_add]
  obtain rfl := hw
  exact kk u H1 locs1 (q_afterA C S ht hB hS)
theorem q_vretA (C : cx D (tyl cI cB cL) A own cc nL none p s m args c meth) (S : st D (wf pa pl) A s σ H locs) {dz dt a pf : Nat} (h : some (σ, 0) = some (σ', dz)) (ha : dt = a + dz) (hpf : pf = pl + dz) (hdg : decode cc pc = .ok (.return_, 1)) : W p l e R s m args below meth c H locs a (2 * a) (MQ below (qVA D cI cB cL wf pf A σ') args s dt (2 * dt) A) (F0 m pc ls []) := by
  obtain ⟨rfl, rfl⟩ := Prod.mk.inj (Option.some.inj h)
  obtain rfl : dt = a := ha
  obtain rfl : pf = pl := hpf
  exact W.vret C.1 C.2.1 C.2.2.2.2.2.1 (fun t ht hW => ⟨⟨pa, rfl, trivial, by rw [ht]; exact S.1, va_K.moved hW.alike C.2.2.2.2.2.2.2.1, S.2.1⟩, S.2.2.F ht⟩) S.2.2.2.2 hdg C.2.2.2.2.2.2.1
theorem q_iretA (C : cx D (tyl cI cB cL) A own cc nL (some .int) p s m args c meth) (S : st D (wf pa pl) A s σ H locs) {v : Int32} {dz dt a pf : Nat} (h : some (v, σ, 0) = some (r, σ', dz)) (ha : dt = a + dz) (hpf : pf = pl + dz) (hdg : decode cc pc = .ok (.ireturn, 1)) : W p l e R s m args below meth c H locs a (2 * a) (MQ below (qIA D cI cB cL wf pf A r σ') args s dt (2 * dt) A) (F0 m pc ls [.int v]) := by
  obtain ⟨rfl, h2⟩ := Prod.mk.inj (Option.some.inj h)
  obtain ⟨rfl, rfl⟩ := Prod.mk.inj h2
  obtain rfl : dt = a := ha
  obtain rfl : pf = pl := hpf
  exact W.iret C.1 C.2.1 C.2.2.2.2.2.1 (fun t ht hW => ⟨⟨v, pa, rfl, rfl, by rw [ht]; exact S.1, va_K.moved hW.alike C.2.2.2.2.2.2.2.1, S.2.1⟩, S.2.2.F ht⟩) S.2.2.2.2 hdg C.2.2.2.2.2.2.1
set_option maxRecDepth 10000 in
set_option maxHeartbeats 4000000 in
/-- pool = Arrays.copyOf(pool, pool.length * 2) -/
theorem q_grow (C : cx D (tyl cI cB cL) A RX1 cc nL ret p s m args c meth) (S : st D (wN cI ad pa pl) A s σ H locs) (hg : 1 ≤ pl ∧ pl ≤ 1000000) {i1 i2 : Nat} (h1 : Cond.methodLink RX1 i1 yJ7_copyOf_59c91 ∈ gw) (h2 : Cond.static yJ7_copyOf_59c91 ∈ gw) (h4 : Cond.initialized RJ7 ∈ gw) (h5 : Cond.code yJ7_copyOf_59c91 cJ7_copyOf_59c91 3 (some (.array .int)) ∈ gw) (hf : Cond.fieldLink RX1 i2 "LeastPending$Channels" "pool" "[I" ∈ gw) (hR : 2 ≤ R.frames ∧ 48 ≤ R.locals) (hls : ls.size = nL) {dt dz : Nat} (hC : R.cells = dt ∧ R.slots = 2 * dt) (ha : dt = cells + (pl + dz)) (hre : (rest.map fun v => v.category).sum ≤ 7) (hdg : decode cc pc = .ok (.invokestatic i1, 3)) (hdg2 : decode cc (pc + 3) = .ok (.putfield i2, 3))
    (kk : ∀ (pa1 : Nat) (H1 : Heap) (locs1 : List Loc), st D (wN cI ad pa1 (pl + pl)) A s (sq σ 10 (grw (σ 10) pl)) H1 locs1 → W p l e R s m args below meth c H1 locs1 (cells + pl) (2 * (cells + pl)) Q (F0 m (pc + 3 + 3) ls rest)) : W p l e R s m args below meth c H locs cells (2 * cells) Q (F0 m pc ls (.int ((Int32.ofNat pl) * 2) :: .ref pa :: .ref (ad 5) :: rest)) := by
  have en : (Int32.ofNat pl) * 2 = nI (pl + pl) := by
    have := pk_mul pl 2
    rw [show pl * 2 = pl + pl by omega] at this
    exact this
  rw [en]
  have hP := S.1
  have hD := S.2.1
  have hPc := hP.sub (ws' := wA pa cI pl (σ 10) z0) [10] rfl
  have hDc := hD.sub (ws' := wA pa cI pl (σ 10) z0) [10] (by decide) rfl
  have hFc := va_free (wc := wA pa cI pl (σ 10) z0) hD S.2.2 C.2.2.2.2.2.2.2.2.1 [10] rfl
  refine va_callr (va_runS (As := [.ref pa, .int (nI (pl + pl))]) (rest := .ref (ad 5) :: rest) ⟨C.1, C.2.1, C.2.2.1, C.2.2.2.1, C.2.2.2.2.1⟩ (ct_copyOf l D cI cB cL pa pl (pl + pl) (σ 10) (by omega) (by omega) H.size) (va_cwS 2 C.2.2.2.2.1 (gg_S h1 h2 h4 h5) rfl rfl rfl (by decide +kernel) ⟨hR.1, Nat.le_trans (Nat.le_of_ble_eq_true rfl) hR.2⟩) ⟨pre_blind, fun U hU hW => ⟨rfl, by rw [hU], by rw [hU]; exact hPc, va_K.moved hW.alike C.2.2.2.2.2.2.2.1, hDc.weaken (fun _ _ _ _ => trivial), nws_warm hW C.2.2.2.2.2.2.2.2.2⟩⟩ rfl rfl hls rfl (lv_room (Nat.add_le_add_left hre 1)) hdg ⟨by omega, by omega⟩) S.2.2 (fun z _ h => hFc z h) hFc (fun u ra t H1 locs1 ht hvm hw hB hz hk hS => ?_)
  obtain ⟨hP1, -, hD1⟩ := hB
  rw [ht] at hP1
  obtain ⟨hP, hD⟩ := va_join (wr := ([0,1,2,3,4,5,6,7,8,9,11,12,13,14,15,16,17,18,19,20,21,22,23,24,25,26,27,28,29,30,31,32,33,34,35] : List Nat).filterMap (fun i => (wN cI ad pa pl σ)[i]?)) (w1 := wA2 pa cI pl (σ 10) ra (pl + pl)) hP hD [10] [0,1,2,3,4,5,6,7,8,9,11,12,13,14,15,16,17,18,19,20,21,22,23,24,25,26,27,28,29,30,31,32,33,34,35] rfl rfl (by decide) (by decide) hk hFc hP1 hD1
  refine va_put (D := D) (ci := 0) (v := .ref ra) (ty := .array .int) (C := RX1) (T := TX1) (N := 9) (fs := flN5 cI ad pa pl σ) C.1 C.2.1 C.2.2.2.2.1 iwX1 tyX1 tyX1_ok nmX1 C.2.2.2.1 C.2.2.2.2.2.2.2.1 hP hD hS 5 rfl rfl 4 (by decide) (C.2.2.2.2.1 _ hf) (fun _ h9 => h9) rfl (by decide +kernel) rfl rfl (Nat.le_of_ble_eq_true rfl) hdg2 (fun H2 locs2 hP hD hS => ?_)
  have hP9 := hP.sub (ws' := wN cI ad ra (pl + pl) (sq σ 10 (grw (σ 10) pl))) [0,1,2,3,4,5,6,7,8,9,36,10,11,12,13,14,15,16,17,18,19,20,21,22,23,24,25,26,27,28,29,30,31,32,33,34] rfl
  have hD9 := hD.sub (ws' := wN cI ad ra (pl + pl) (sq σ 10 (grw (σ 10) pl))) [0,1,2,3,4,5,6,7,8,9,36,10,11,12,13,14,15,16,17,18,19,20,21,22,23,24,25,26,27,28,29,30,31,32,33,34] (by decide) rfl
  refine W.widen (k := cells + pl) (n := 2 * (cells + pl)) (by omega) (by omega) ?_
  exact kk ra H2 locs2 ⟨hP9, hD9, hS⟩
end QA
