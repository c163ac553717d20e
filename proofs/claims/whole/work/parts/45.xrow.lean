abbrev Xr : Type := Int32 ⊕ Nat
def exn : Nat → String := fun k => match k with | 0 => "java/lang/IndexOutOfBoundsException" | 1 => "java/util/NoSuchElementException" | 2 => "java/lang/IllegalStateException" | 3 => "java/lang/IllegalArgumentException" | _ => "java/lang/UnsupportedOperationException"
theorem xat_0 : ∀ w ∈ vx_atS RX11 210 "java/lang/IndexOutOfBoundsException" ["java/lang/RuntimeException", "java/lang/Exception"], w ∈ lw_tbl := by decide +kernel
theorem xag_0 : (vx_atS RX11 210 "java/lang/IndexOutOfBoundsException" ["java/lang/RuntimeException", "java/lang/Exception"]).all (fun w => goodWord w || (w.onTables && w.faceAtom)) = true := by decide +kernel
theorem xao_0 : ∀ w ∈ Cond.classLink RX11 206 "java/lang/IndexOutOfBoundsException" :: Cond.initialized "java/lang/IndexOutOfBoundsException" :: vx_atS RX11 210 "java/lang/IndexOutOfBoundsException" ["java/lang/RuntimeException", "java/lang/Exception"], vx_ot w = true := by decide +kernel
theorem xcl_0 : Cond.classLink RX11 206 "java/lang/IndexOutOfBoundsException" ∈ gw := gw_t4 42 rfl rfl
theorem xin_0 : Cond.initialized "java/lang/IndexOutOfBoundsException" ∈ gw := gw_t1 25 rfl rfl
theorem xat_2 : ∀ w ∈ vx_atS RX11 232 "java/lang/IllegalStateException" ["java/lang/RuntimeException", "java/lang/Exception"], w ∈ lw_tbl := by decide +kernel
theorem xag_2 : (vx_atS RX11 232 "java/lang/IllegalStateException" ["java/lang/RuntimeException", "java/lang/Exception"]).all (fun w => goodWord w || (w.onTables && w.faceAtom)) = true := by decide +kernel
theorem xao_2 : ∀ w ∈ Cond.classLink RX11 228 "java/lang/IllegalStateException" :: Cond.initialized "java/lang/IllegalStateException" :: vx_atS RX11 232 "java/lang/IllegalStateException" ["java/lang/RuntimeException", "java/lang/Exception"], vx_ot w = true := by decide +kernel
theorem xcl_2 : Cond.classLink RX11 228 "java/lang/IllegalStateException" ∈ gw := gw_t4 179 rfl rfl
theorem xin_2 : Cond.initialized "java/lang/IllegalStateException" ∈ gw := gw_t1 29 rfl rfl
theorem xat_3 : ∀ w ∈ vx_atS RX11 72 "java/lang/IllegalArgumentException" ["java/lang/RuntimeException", "java/lang/Exception"], w ∈ lw_tbl := by decide +kernel
theorem xag_3 : (vx_atS RX11 72 "java/lang/IllegalArgumentException" ["java/lang/RuntimeException", "java/lang/Exception"]).all (fun w => goodWord w || (w.onTables && w.faceAtom)) = true := by decide +kernel
theorem xao_3 : ∀ w ∈ Cond.classLink RX11 68 "java/lang/IllegalArgumentException" :: Cond.initialized "java/lang/IllegalArgumentException" :: vx_atS RX11 72 "java/lang/IllegalArgumentException" ["java/lang/RuntimeException", "java/lang/Exception"], vx_ot w = true := by decide +kernel
theorem xcl_3 : Cond.classLink RX11 68 "java/lang/IllegalArgumentException" ∈ gw := gw_t3 184 rfl rfl
theorem xin_3 : Cond.initialized "java/lang/IllegalArgumentException" ∈ gw := gw_t1 23 rfl rfl
theorem xat_4 : ∀ w ∈ vx_atS RX11 82 "java/lang/UnsupportedOperationException" ["java/lang/RuntimeException", "java/lang/Exception"], w ∈ lw_tbl := by decide +kernel
theorem xag_4 : (vx_atS RX11 82 "java/lang/UnsupportedOperationException" ["java/lang/RuntimeException", "java/lang/Exception"]).all (fun w => goodWord w || (w.onTables && w.faceAtom)) = true := by decide +kernel
theorem xao_4 : ∀ w ∈ Cond.classLink RX11 78 "java/lang/UnsupportedOperationException" :: Cond.initialized "java/lang/UnsupportedOperationException" :: vx_atS RX11 82 "java/lang/UnsupportedOperationException" ["java/lang/RuntimeException", "java/lang/Exception"], vx_ot w = true := by decide +kernel
theorem xcl_4 : Cond.classLink RX11 78 "java/lang/UnsupportedOperationException" ∈ gw := gw_t4 13 rfl rfl
theorem xin_4 : Cond.initialized "java/lang/UnsupportedOperationException" ∈ gw := gw_t1 24 rfl rfl
theorem x_hat {args : Array Value} {s : State} {L : List Cond} (h1 : ∀ w ∈ L, w ∈ lw_tbl) (h2 : L.all (fun w => goodWord w || (w.onTables && w.faceAtom)) = true) (hts : ∀ w ∈ gw, w.before args s = true) (hx : ∀ w ∈ xw, va_Nw w s) : ∀ w ∈ L, w.before args s = true := by
  intro w hw
  have h3 := List.all_eq_true.mp h2 w hw
  by_cases hg : goodWord w = true
  · exact hts w (gw_mem (h1 w hw) hg)
  · have h4 : (w.onTables && w.faceAtom) = true := by
      cases hq : goodWord w with
      | true => exact absurd hq hg
      | false => simpa [hq] using h3
    have h5 := h4
    rw [Bool.and_eq_true] at h5
    exact va_Nw.use h5.1 (hx w (List.mem_filter.mpr ⟨h1 w hw, h4⟩))
abbrev qXI (D : va_G) (tys : List (ClassId × FieldType)) (wd : Sg → va_W) (A : Nat → Prop) (z : Xr × Sg) : Array Value → State → Outcome → State → Prop := va_Qi (fun x u => z = ((.inl x, u) : Xr × Sg)) (post D tys wd A) A
abbrev qXV (D : va_G) (tys : List (ClassId × FieldType)) (wd : Sg → va_W) (A : Nat → Prop) (z : Xr × Sg) : Array Value → State → Outcome → State → Prop := va_Qv (fun u => z = ((.inl 0, u) : Xr × Sg)) (post D tys wd A) A
abbrev xX (D : va_G) (tys : List (ClassId × FieldType)) (wd : Sg → va_W) (A : Nat → Prop) (z : Xr × Sg) : String → State → State → Prop := vx_X (fun eu : Nat × Sg => z = ((.inr eu.1, eu.2) : Xr × Sg)) (fun E eu t => E = exn eu.1 ∧ post D tys wd A eu.2 t) A
abbrev rmX (rf rl k : Nat) : Room := { frames := rf, cells := k, slots := 6 * k, locals := rl }
def metXI (l : Launch) (D : va_G) (tys : List (ClassId × FieldType)) (ka kv : Nat → Nat) (fv : Value) (y : MethodName) (b : ByteArray) (n : Nat) (rt : Option FieldType) (rf rl k : Nat) (wd : Sg → va_W) (as : List Value) (σ : Sg) (z : Xr × Sg) : Prop :=
  ∀ sz, vx_Met l y (Cond.code y b n rt :: gw) (rmX rf rl k) (va_Pc as (preK D tys wd σ ka kv fv sz)) (qXI D tys wd (va_A (wd σ) sz) z) (xX D tys wd (va_A (wd σ) sz) z) k (6 * k) (va_A (wd σ) sz)
def metXV (l : Launch) (D : va_G) (tys : List (ClassId × FieldType)) (ka kv : Nat → Nat) (fv : Value) (y : MethodName) (b : ByteArray) (n : Nat) (rf rl k : Nat) (wd : Sg → va_W) (as : List Value) (σ : Sg) (z : Xr × Sg) : Prop :=
  ∀ sz, vx_Met l y (Cond.code y b n none :: gw) (rmX rf rl k) (va_Pc as (preK D tys wd σ ka kv fv sz)) (qXV D tys wd (va_A (wd σ) sz) z) (xX D tys wd (va_A (wd σ) sz) z) k (6 * k) (va_A (wd σ) sz)
def obx (o : Option (Xr × Sg)) (k : Sg → Option (Xr × Sg)) : Option (Xr × Sg) := match o with
  | none => none
  | some (.inl _, u) => k u
  | some (.inr E, u) => some (.inr E, u)
theorem obx_some {o : Option (Xr × Sg)} {k : Sg → Option (Xr × Sg)} {z : Xr × Sg} (h : obx o k = some z) : ∃ zc, o = some zc ∧ ∀ u, (zc = (.inl 0, u) → k u = some z) ∧ (∀ E, zc = (.inr E, u) → z = (.inr E, u)) := by
  match o, h with
  | some (.inl r, v), h => exact ⟨_, rfl, fun u => ⟨fun e => (by cases e; exact h), fun E e => (by cases e)⟩⟩
  | some (.inr E, v), h => exact ⟨_, rfl, fun u => ⟨fun e => (by cases e), fun E' e => (by cases e; cases h; rfl)⟩⟩
section QX
variable {p : Program} {l : Launch} {e : Env} {R : Room} {s : State} {m : MethodId} {args : Array Value} {below : List Frame} {meth : Method} {c : Code} {H : Heap} {locs : List Loc} {cells slots mc ms : Nat}
variable {D : va_G} {tys : List (ClassId × FieldType)} {A : Nat → Prop} {own : String} {cc : ByteArray} {nL : Nat} {ret : Option FieldType} {wd : Sg → va_W} {σ : Sg} {pc : Nat} {ls : Array Slot} {rest : List Value}
variable {y : MethodName} {b : ByteArray} {n idx rf rl na k : Nat} {rt : Option FieldType} {As : List Value} {z zc : Xr × Sg} {ka kv : Nat → Nat} {fv : Value} {Qc : Array Value → State → Outcome → State → Prop}
theorem x_entry {rm : Room} {s₁ : State} {as : List Value} {sz : Nat} (B : BodyLoose p l y (headSpec (Cond.code y b n rt :: gw) rm) b n rt e s m args below meth c s₁) (hml : c.maxLocals = n) (hv : va_Pc as (preK D tys wd σ ka kv fv sz) args s) : args = as.toArray ∧ cx D tys (va_A (wd σ) sz) y.cls b n rt p s m args c meth ∧ st D wd (va_A (wd σ) sz) s σ s.heap [] ∧ kx ka kv fv (va_A (wd σ) sz) s s.heap := q_entryK B hml hv
theorem x_iret (C : cx D tys A own cc nL (some .int) p s m args c meth) (S : st D wd A s σ H locs) {v : Int32} (h : some ((.inl v, σ) : Xr × Sg) = some z) (hc : cells ≤ mc ∧ slots ≤ ms) (hdg : decode cc pc = .ok (.ireturn, 1)) : W p l e R s m args below meth c H locs cells slots (vx_MQ below (qXI D tys wd A z) (xX D tys wd A z) args s mc ms A) (F0 m pc ls [.int v]) := by
  refine W.widen hc.1 hc.2 (vx_ret ?_)
  exact W.iret C.1 C.2.1 C.2.2.2.2.2.1 (fun t ht hW => ⟨⟨v, σ, rfl, (Option.some.inj h).symm, by rw [ht]; exact S.1, va_K.moved hW.alike C.2.2.2.2.2.2.2.1, S.2.1⟩, S.2.2.F ht⟩) S.2.2.2.2 hdg C.2.2.2.2.2.2.1
theorem x_zret {ty : FieldType} (C : cx D tys A own cc nL (some ty) p s m args c meth) (S : st D wd A s σ H locs) {v : Int32} (hn : narrow ty (.int v) = .int v) (h : some ((.inl v, σ) : Xr × Sg) = some z) (hc : cells ≤ mc ∧ slots ≤ ms) (hdg : decode cc pc = .ok (.ireturn, 1)) : W p l e R s m args below meth c H locs cells slots (vx_MQ below (qXI D tys wd A z) (xX D tys wd A z) args s mc ms A) (F0 m pc ls [.int v]) := by
  refine W.widen hc.1 hc.2 (vx_ret ?_)
  exact W.zret C.1 C.2.1 C.2.2.2.2.2.1 hn (fun t ht hW => ⟨⟨v, σ, rfl, (Option.some.inj h).symm, by rw [ht]; exact S.1, va_K.moved hW.alike C.2.2.2.2.2.2.2.1, S.2.1⟩, S.2.2.F ht⟩) S.2.2.2.2 hdg C.2.2.2.2.2.2.1
theorem x_vret (C : cx D tys A own cc nL none p s m args c meth) (S : st D wd A s σ H locs) (h : some ((.inl 0, σ) : Xr × Sg) = some z) (hc : cells ≤ mc ∧ slots ≤ ms) (hdg : decode cc pc = .ok (.return_, 1)) : W p l e R s m args below meth c H locs cells slots (vx_MQ below (qXV D tys wd A z) (xX D tys wd A z) args s mc ms A) (F0 m pc ls []) := by
  refine W.widen hc.1 hc.2 (vx_ret ?_)
  exact W.vret C.1 C.2.1 C.2.2.2.2.2.1 (fun t ht hW => ⟨⟨σ, rfl, (Option.some.inj h).symm, by rw [ht]; exact S.1, va_K.moved hW.alike C.2.2.2.2.2.2.2.1, S.2.1⟩, S.2.2.F ht⟩) S.2.2.2.2 hdg C.2.2.2.2.2.2.1
/-- 'throw new E("text")' -/
theorem x_throw (C : cx D tys A RX11 cc nL ret p s m args c meth) (Kx : kx ka kv fv A s s.heap) (Xc : ∀ x ∈ c.exceptionTable.toList, False) (hfl : l.stackTraces = false) (S : st D wd A s σ H locs) (E : Nat) {ik ic is sa : Nat} {text : String} (hE : Bundle.fit (exn E) = true) (h1 : ∀ w ∈ vx_atS RX11 ic (exn E) ["java/lang/RuntimeException", "java/lang/Exception"], w ∈ lw_tbl) (h2 : (vx_atS RX11 ic (exn E) ["java/lang/RuntimeException", "java/lang/Exception"]).all (fun w => goodWord w || (w.onTables && w.faceAtom)) = true) (h3 : ∀ w ∈ Cond.classLink RX11 ik (exn E) :: Cond.initialized (exn E) :: vx_atS RX11 ic (exn E) ["java/lang/RuntimeException", "java/lang/Exception"], vx_ot w = true) (h4 : Cond.classLink RX11 ik (exn E) ∈ gw) (h5 : Cond.initialized (exn E) ∈ gw) (hstr : vk_R RX11 is text sa s)
    (hls : ls.size = nL) (d0 : decode cc pc = .ok (.new ik, 3)) (d3 : decode cc (pc + 3) = .ok (.dup, 1)) (d4 : decode cc (pc + 4) = .ok (.ldc is, 2)) (d6 : decode cc (pc + 6) = .ok (.invokespecial ic, 3)) (d9 : decode cc (pc + 9) = .ok (.athrow, 1))
    (hR : 6 ≤ R.frames ∧ 90 ≤ R.locals) (hre : (rest.map fun v => v.category).sum ≤ 8) (hRc : cells + 1 ≤ R.cells ∧ slots + 6 ≤ R.slots) (hc : cells + 1 ≤ mc ∧ slots + 6 ≤ ms) (h : some ((.inr E, σ) : Xr × Sg) = some z) :
    W p l e R s m args below meth c H locs cells slots (vx_MQ below Qc (xX D tys wd A z) args s mc ms A) (F0 m pc ls rest) := by
  refine vx_throwS (A := A) C.1 C.2.1 hfl (names := ["java/lang/RuntimeException", "java/lang/Exception"]) C.2.2.2.1 hE (by decide +kernel) (C.2.2.2.2.1 _ h4) (C.2.2.2.2.1 _ h5) hstr (x_hat h1 h2 C.2.2.2.2.1 Kx.2.2.2.2.2.2) h3 Kx.2.2.2.2.1 Kx.2.2.2.2.2.1 S.2.2 (hls.trans C.2.2.1.symm) d0 d3 d4 d6 d9 (fun x hx => (Xc x hx).elim) (Nat.lt_of_lt_of_le (Nat.lt_of_lt_of_le (Nat.le_of_ble_eq_true rfl : 5 < 6) (Nat.le_refl _)) hR.1) (Nat.le_trans (Nat.add_le_add_right hre _) hR.2) hRc.1 hRc.2 C.2.2.2.2.2.2.1 (fun t hvm hz hk => ?_) S.2.2.2.2 hc.1 hc.2
  refine ⟨(E, σ), (Option.some.inj h).symm, ⟨rfl, S.1.kept (fun k q hq => hk q.1 (S.1 k q hq).lt), va_K.moved hvm C.2.2.2.2.2.2.2.1, S.2.1⟩, Nat.le_trans S.2.2.1 hz, fun q h1 h2 => ?_⟩
  exact (hk q (Nat.lt_of_lt_of_le h1 S.2.2.1)).trans (S.2.2.2.1 q h1 h2)
/-- the same, the text by a wide index -/
theorem x_throwW (C : cx D tys A RX11 cc nL ret p s m args c meth) (Kx : kx ka kv fv A s s.heap) (Xc : ∀ x ∈ c.exceptionTable.toList, False) (hfl : l.stackTraces = false) (S : st D wd A s σ H locs) (E : Nat) {ik ic is sa : Nat} {text : String} (hE : Bundle.fit (exn E) = true) (h1 : ∀ w ∈ vx_atS RX11 ic (exn E) ["java/lang/RuntimeException", "java/lang/Exception"], w ∈ lw_tbl) (h2 : (vx_atS RX11 ic (exn E) ["java/lang/RuntimeException", "java/lang/Exception"]).all (fun w => goodWord w || (w.onTables && w.faceAtom)) = true) (h3 : ∀ w ∈ Cond.classLink RX11 ik (exn E) :: Cond.initialized (exn E) :: vx_atS RX11 ic (exn E) ["java/lang/RuntimeException", "java/lang/Exception"], vx_ot w = true) (h4 : Cond.classLink RX11 ik (exn E) ∈ gw) (h5 : Cond.initialized (exn E) ∈ gw) (hstr : vk_R RX11 is text sa s)
    (hls : ls.size = nL) (d0 : decode cc pc = .ok (.new ik, 3)) (d3 : decode cc (pc + 3) = .ok (.dup, 1)) (d4 : decode cc (pc + 4) = .ok (.ldc_w is, 3)) (d7 : decode cc (pc + 7) = .ok (.invokespecial ic, 3)) (d10 : decode cc (pc + 10) = .ok (.athrow, 1))
    (hR : 6 ≤ R.frames ∧ 90 ≤ R.locals) (hre : (rest.map fun v => v.category).sum ≤ 8) (hRc : cells + 1 ≤ R.cells ∧ slots + 6 ≤ R.slots) (hc : cells + 1 ≤ mc ∧ slots + 6 ≤ ms) (h : some ((.inr E, σ) : Xr × Sg) = some z) :
    W p l e R s m args below meth c H locs cells slots (vx_MQ below Qc (xX D tys wd A z) args s mc ms A) (F0 m pc ls rest) := by
  refine vx_throwSW (A := A) C.1 C.2.1 hfl (names := ["java/lang/RuntimeException", "java/lang/Exception"]) C.2.2.2.1 hE (by decide +kernel) (C.2.2.2.2.1 _ h4) (C.2.2.2.2.1 _ h5) hstr (x_hat h1 h2 C.2.2.2.2.1 Kx.2.2.2.2.2.2) h3 Kx.2.2.2.2.1 Kx.2.2.2.2.2.1 S.2.2 (hls.trans C.2.2.1.symm) d0 d3 d4 d7 d10 (fun x hx => (Xc x hx).elim) (Nat.lt_of_lt_of_le (Nat.lt_of_lt_of_le (Nat.le_of_ble_eq_true rfl : 5 < 6) (Nat.le_refl _)) hR.1) (Nat.le_trans (Nat.add_le_add_right hre _) hR.2) hRc.1 hRc.2 C.2.2.2.2.2.2.1 (fun t hvm hz hk => ?_) S.2.2.2.2 hc.1 hc.2
  refine ⟨(E, σ), (Option.some.inj h).symm, ⟨rfl, S.1.kept (fun k q hq => hk q.1 (S.1 k q hq).lt), va_K.moved hvm C.2.2.2.2.2.2.2.1, S.2.1⟩, Nat.le_trans S.2.2.1 hz, fun q h1 h2 => ?_⟩
  exact (hk q (Nat.lt_of_lt_of_le h1 S.2.2.1)).trans (S.2.2.2.1 q h1 h2)

theorem x_out {Qc : Array Value → State → Outcome → State → Prop} (C : cx D tys A own cc nL ret p s m args c meth) (Xc : ∀ x ∈ c.exceptionTable.toList, False) {E : Nat} {u : Sg} {ce : Cell} {q9 : Addr} (S : st D wd A s u H locs) (hz : z = (.inr E, u)) (hcell : H[q9]? = some ce) (hv : ce.vm = .none) (hcl : s.vm.findClass (exn E) = some ce.cls) (hc : cells ≤ mc ∧ slots ≤ ms) : vx_W p l e R s m args below meth c H locs cells slots (vx_MQ below Qc (xX D tys wd A z) args s mc ms A) (F0 m pc ls rest) q9 :=
  vx_out (fun x hx => (Xc x hx).elim) C.2.2.2.2.2.2.1 hcell hv hcl (fun t ht hvm => ⟨(E, u), hz, ⟨rfl, by rw [ht]; exact S.1, va_K.moved hvm C.2.2.2.2.2.2.2.1, S.2.1⟩, S.2.2.F ht⟩) S.2.2.2.2 hc.1 hc.2
theorem x_callVv (C : cx D tys A own cc nL ret p s m args c meth) (Kx : kx ka kv fv A s s.heap) (Xc : ∀ x ∈ c.exceptionTable.toList, False) (S : st D wd A s σ H locs) {q a ci : Nat} {fl : Sg → List Value} (O : objAt wd q a ci fl) {Cn : String} {T : u_T} {N : Nat} (hc : vwCl[ci]? = some (Cn, T, N)) (hM : metXV l D tys ka kv fv y b n rf rl k wd (.ref a :: As) σ zc) {K : Sg → Option (Xr × Sg)} (hh : ∀ u, (zc = (.inl 0, u) → K u = some z) ∧ (∀ E, zc = (.inr E, u) → z = (.inr E, u))) (h1 : Cond.methodLink own idx y ∈ gw) (h2 : Cond.instanceMethod y ∈ gw) (h3 : Cond.selects Cn y y ∈ gw) (h4 : Cond.initialized Cn ∈ gw) (h5 : Cond.code y b n none ∈ gw)
    (hd : y.cls = Cn ∧ y.cls ≠ "java/lang/invoke/MethodHandle" ∧ y.cls ≠ "java/lang/invoke/VarHandle" ∧ (parseMethodDescriptor y.desc).map (fun d => d.parameters.length) = some na) (hR : rf + 1 ≤ R.frames ∧ 8 + (n + 11) + rl ≤ R.locals) (hna : As.length = na) (hls : ls.size = nL) (hcap : cells + k ≤ R.cells ∧ slots + 6 * k ≤ R.slots) (hm : cells + k ≤ mc ∧ slots + 6 * k ≤ ms) (hre : (rest.map fun v => v.category).sum ≤ 8) (hdg : decode cc pc = .ok (.invokevirtual idx, 3)) {sk : List Value} (hsk : sk = As.reverse ++ .ref a :: rest)
    (kk : ∀ (u : Sg) (H1 : Heap) (locs1 : List Loc), K u = some z → st D wd A s u H1 locs1 → W p l e R s m args below meth c H1 locs1 (cells + k) (slots + 6 * k) (vx_MQ below Qc (xX D tys wd A z) args s mc ms A) (F0 m (pc + 3) ls rest)) : W p l e R s m args below meth c H locs cells slots (vx_MQ below Qc (xX D tys wd A z) args s mc ms A) (F0 m pc ls sk) := by
  subst hsk
  refine vx_callv (vx_runV (As := As) (rest := rest) ⟨C.1, C.2.1, C.2.2.1, C.2.2.2.1, C.2.2.2.2.1⟩ (hM H.size) (cwV na C.2.2.2.2.1 (gg_V h1 h2 h3 h4 h5) rfl rfl rfl hd hR) ⟨preK_blind, va_recv C.2.2.2.2.2.2.2.1 S.1 (ci := ci) (q0 := q) hc (O σ), q_preK C Kx S⟩ rfl hna hls rfl (lv_room hre) hdg hcap) S.2.2 (fun z _ h => q_own C S z h) (q_own C S) (fun z _ h => q_own C S z h) (fun E ce q9 u t H1 locs1 ht hvm hp hB hz hk hS hce hcv hcl => ?_) (fun u t H1 locs1 ht hvm hw hB hz hk hS => ?_)
  · obtain ⟨rfl, hB⟩ := hB
    exact x_out C Xc (q_after C S ht hB hS) ((hh u.2).2 u.1 hp) hce hcv hcl hm
  · exact kk u H1 locs1 ((hh u).1 hw) (q_after C S ht hB hS)
theorem x_callSv (C : cx D tys A own cc nL ret p s m args c meth) (Kx : kx ka kv fv A s s.heap) (Xc : ∀ x ∈ c.exceptionTable.toList, False) (S : st D wd A s σ H locs) (hM : metXV l D tys ka kv fv y b n rf rl k wd As σ zc) {K : Sg → Option (Xr × Sg)} (hh : ∀ u, (zc = (.inl 0, u) → K u = some z) ∧ (∀ E, zc = (.inr E, u) → z = (.inr E, u))) (h1 : Cond.methodLink own idx y ∈ gw) (h2 : Cond.static y ∈ gw) (h4 : Cond.initialized y.cls ∈ gw) (h5 : Cond.code y b n none ∈ gw)
    (hd : y.cls ≠ "java/lang/invoke/MethodHandle" ∧ y.cls ≠ "java/lang/invoke/VarHandle" ∧ (parseMethodDescriptor y.desc).map (fun d => d.parameters.length) = some na) (hR : rf + 1 ≤ R.frames ∧ 8 + (n + 11) + rl ≤ R.locals) (hna : As.length = na) (hls : ls.size = nL) (hcap : cells + k ≤ R.cells ∧ slots + 6 * k ≤ R.slots) (hm : cells + k ≤ mc ∧ slots + 6 * k ≤ ms) (hre : (rest.map fun v => v.category).sum ≤ 8) (hdg : decode cc pc = .ok (.invokestatic idx, 3)) {sk : List Value} (hsk : sk = As.reverse ++ rest)
    (kk : ∀ (u : Sg) (H1 : Heap) (locs1 : List Loc), K u = some z → st D wd A s u H1 locs1 → W p l e R s m args below meth c H1 locs1 (cells + k) (slots + 6 * k) (vx_MQ below Qc (xX D tys wd A z) args s mc ms A) (F0 m (pc + 3) ls rest)) : W p l e R s m args below meth c H locs cells slots (vx_MQ below Qc (xX D tys wd A z) args s mc ms A) (F0 m pc ls sk) := by
  subst hsk
  refine vx_callv (vx_runS (As := As) (rest := rest) ⟨C.1, C.2.1, C.2.2.1, C.2.2.2.1, C.2.2.2.2.1⟩ (hM H.size) (va_cwS na C.2.2.2.2.1 (gg_S h1 h2 h4 h5) rfl rfl rfl hd hR) ⟨preK_blind, q_preK C Kx S⟩ rfl hna hls rfl (lv_room hre) hdg hcap) S.2.2 (fun z _ h => q_own C S z h) (q_own C S) (fun z _ h => q_own C S z h) (fun E ce q9 u t H1 locs1 ht hvm hp hB hz hk hS hce hcv hcl => ?_) (fun u t H1 locs1 ht hvm hw hB hz hk hS => ?_)
  · obtain ⟨rfl, hB⟩ := hB
    exact x_out C Xc (q_after C S ht hB hS) ((hh u.2).2 u.1 hp) hce hcv hcl hm
  · exact kk u H1 locs1 ((hh u).1 hw) (q_after C S ht hB hS)
end QX
