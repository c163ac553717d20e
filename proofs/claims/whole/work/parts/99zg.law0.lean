/-! THE CLAIM OUT OF ONE WALK OF THE LAW'S BODY. Your part is whole_start (and what it stands on); all else here is the same for every law, but numbers. -/
def R_law : String := "LeastPendingLaw"
def lw_P (b : Addr) (xs : List Int32) (args : Array Value) (s : State) : Prop := args = #[.ref b] ∧ s.IntsAt b xs ∧ xs.length ≤ 3072 ∧ (Jvm.Cond.and given_1 narrow_1).before args s = true
def lw_Q (_ : Array Value) (s : State) (o : Outcome) (t : State) : Prop := o = .returned (some (.int 1)) ∧ Framed s o t [] 601024 7293034
def lw_Z (below : List Frame) (a : Array Value) (s : State) : State → Prop := fun t => ∃ o, t.status = .running ∧ Ended t below o ∧ lw_Q a s o t
/-- the law's own end, with 1 on the stack, nothing written that was there before, its room as the claim has it -/
theorem lw_ret {p : Program} {l : Launch} {e : Env} {s : State} {m : MethodId} {below : List Frame} {meth : Method} {c : Code} {b : Nat} (hx : p.tables.exec = Jvm.exec) (hb : c.code = code) (hr : meth.sig.returnType = ret) (hlocks : meth.locks = false) {pc : Nat} {H : Heap} {ls : Array Slot} (hdg : decode code pc = .ok (.ireturn, 1)) : W p l e room_1 s m #[Value.ref b] below meth c H [] 601024 7293034 (lw_Z below #[Value.ref b] s) (F0 m pc ls [.int 1]) := by
  intro T hT X
  obtain ⟨fs, hret, hrun, hended, hW, hframe⟩ := X.leave (v := some (.int 1)) (hlocks := hlocks) (fun h => by rw [hr] at h; cases h)
  have hmeth' : T.vm.method? m = some meth := X.method'
  refine ⟨T.setFrames fs, ?_, .returned (some (.int 1)), hrun, hended, rfl, ⟨_, rfl⟩, hW, hframe⟩
  jvm_step X.here [X.here.top, hx, hb, hdg, hmeth', hr, ret, narrow_b1]
  (try refine ⟨rfl, ?_⟩); (try refine ⟨rfl, ?_⟩)
  first | (intro acts; rw [hret _ acts rfl rfl rfl]) | rw [hret _ _ rfl rfl rfl]
  exact Steps.refl _
/-- what holds at the law's entry: the machine, the code, the tables' words (any of lw_tbl by 'hts w (by decide +kernel)'), the script of L ints xs at the cell b, what the Statement gives of the start (any of its parts by flat_of_before) -/
def lw_At (p : Program) (s : State) (m : MethodId) (meth : Method) (c : Code) (b L : Nat) (xs : Nat → Int32) : Prop :=
  p.tables.exec = Jvm.exec ∧ c.code = code ∧ meth.sig.returnType = ret ∧ c.maxLocals = 7 ∧ s.vm.findClass R_law = some m.cls ∧ (∀ w ∈ lw_tbl, w.before #[Value.ref b] s = true) ∧ va_X b L xs s s.heap ∧ b < s.heap.size ∧ meth.locks = false ∧ (Jvm.Cond.and given_1 narrow_1).before #[Value.ref b] s = true
/-! rows of the law's body -/
def lawC (l : Launch) (D : va_G) (cI cB cL : ClassId) (ka kv : Nat → Nat) (fv : Value) (p : Program) (s : State) (m : MethodId) (c : Code) (meth : Method) (b L : Nat) (xs : Nat → Int32) : Prop :=
  cx D (tyl cI cB cL) (fun q => s.heap.size ≤ q) RL code 7 ret p s m #[.ref b] c meth ∧ kx ka kv fv (fun q => s.heap.size ≤ q) s s.heap ∧ nps s ∧ va_X b L xs s s.heap ∧ b < s.heap.size ∧ l.stackTraces = false ∧ L ≤ 3072
/-- at a place of the law's body, so many calls done -/
def lawAt (l : Launch) (D : va_G) (cI cB cL : ClassId) (p : Program) (e : Env) (s : State) (m : MethodId) (below : List Frame) (meth : Method) (c0 : Code) (b x o : Nat) (am : Nat → Nat) (i pc c : Nat) : Prop :=
  ∀ (lay : Lay) (t : Sta) (μ : Sg) (f : Nat → Int64) (H : Heap) (locs : List Loc) (ls : Array Slot), lay.1 36 = x → InvL c t μ → st D (cw ((lpX cI cB lay t ++ oc cL o f) ++ wM cI cB am μ)) (fun q => s.heap.size ≤ q) s z0 H locs → lv_has ls 7 [(0, .ref b), (1, .ref x), (2, .ref (am 0)), (3, .ref o), (4, .int (nI i))] →
    W p l e room_1 s m #[.ref b] below meth c0 H locs (1000 + 4 * c + tot t) (150000 + 24 * c + 2 * tot t) (lw_Z below #[.ref b] s) (F0 m pc ls [])
theorem lpX_obj (cI cB : ClassId) (y : Lay) (t : Sta) : (lpX cI cB y t)[36]? = some (y.1 36, .inr (10, flT36 cI cB y.1 (y.2.1 0) (y.2.2.1 0) y.2.2.2.1 t.1 t.2.2.2.1)) := rfl
theorem wM_obj (cI cB : ClassId) (am : Nat → Nat) (μ : Sg) : (wM cI cB am μ)[0]? = some (am 0, .inr (11, flM0 cI cB am μ)) := rfl
theorem m_thr (u : Sg) : fX12_thrown u = some (u 0 0) := rfl
theorem kc_in1 {a E : Nat} (h : E ∈ [a]) : kc [a] E = 1 := by
  rw [List.mem_singleton.mp h]; exact if_pos rfl
section LB
variable {p : Program} {l : Launch} {e : Env} {R : Room} {s : State} {m : MethodId} {args : Array Value} {below : List Frame} {meth : Method} {c : Code} {H : Heap} {locs : List Loc} {cells slots : Nat} {Q : State → Prop} {cc : ByteArray} {pc : Nat} {ls : Array Slot} {rest : List Value} {A : Nat → Prop} {D : va_G} {cI cB cL : ClassId}
/-- an int of the script -/
theorem g_arg {b L i j : Nat} {xs : Nat → Int32} {nj : Int} (hexec : p.tables.exec = Jvm.exec) (hb : c.code = cc) (hX : va_X b L xs s s.heap) (hbl : b < s.heap.size) (hbA : ¬ A b) (hS : va_S A s.heap H locs) (hL : L ≤ 3072) (hj : i + j < L) (h0 : ls[0]? = some (.val (.ref b))) (h4 : ls[4]? = some (.val (.int (nI i)))) (hnj : Int32.ofInt nj = nI j)
    (d0 : decode cc pc = .ok (.aload_n 0, 1)) (d1 : decode cc (pc + 1) = .ok (.iload 4, 2)) (d2 : decode cc (pc + 3) = .ok (.iconst nj, 1)) (d3 : decode cc (pc + 4) = .ok (.iadd, 1)) (d4 : decode cc (pc + 5) = .ok (.iaload, 1))
    (kk : W p l e R s m args below meth c H locs cells slots Q (F0 m (pc + 6) ls (.int (xs (i + j)) :: rest))) : W p l e R s m args below meth c H locs cells slots Q (F0 m pc ls rest) := by
  refine lv_aload_n hexec hb d0 rfl h0 ?_
  refine lv_iload hexec hb d1 h4 ?_
  refine lv_iconst (v := nI j) hexec hb d2 hnj ?_
  refine lv_iadd hexec hb d3 ?_
  rw [nI_add]
  refine va_sld hexec hb hX hbl hbA hS (vp_in_nI hj (by omega)) d4 ?_
  rw [nI_clamp (by omega)]
  exact kk
/-- the law's own long -/
theorem g_lald {X Y : va_W} {o : Nat} {f : Nat → Int64} {own : String} {nL : Nat} {ret : Option FieldType} (C : cx D (tyl cI cB cL) A own cc nL ret p s m args c meth) (S : st D (cw ((X ++ oc cL o f) ++ Y)) A s z0 H locs) (hdg : decode cc pc = .ok (.laload, 1))
    (kk : W p l e R s m args below meth c H locs cells slots Q (F0 m (pc + 1) ls (.long (f 0) :: rest))) : W p l e R s m args below meth c H locs cells slots Q (F0 m pc ls (.int 0 :: .ref o :: rest)) := by
  refine va_lald C.1 C.2.1 C.2.2.2.2.2.2.2.1 S.1 X.length 2 (n := 1) (f := f) ?_ rfl (i := 0) (by unfold vp_in; decide) hdg kk
  show ((X ++ oc cL o f) ++ Y)[X.length]? = _
  rw [List.getElem?_append_left (by rw [List.length_append]; exact Nat.lt_add_of_pos_right (Nat.zero_lt_one))]
  exact oc_at
theorem lcmp_eq {x y : Int64} (h : x = y) : lg_cmp x y = 0 := by
  subst h
  unfold lg_cmp
  rw [if_neg (Int64.lt_irrefl), if_pos rfl]
end LB
