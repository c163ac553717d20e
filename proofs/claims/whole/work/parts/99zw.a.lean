/-! the law's cases: what they share -/
theorem Inv_up {c c' : Nat} {s : Sta} {μ : Sg} (h : InvL c s μ) (hc : c ≤ c') : InvL c' s μ := by
  obtain ⟨i1, i2, i3, i4, i5, i6⟩ := h
  refine ⟨rNow_up i1 hc, i2, i3, i4, i5, ?_⟩
  rcases i6 with i6 | ⟨j1, j2, j3⟩
  · exact Or.inl i6
  · exact Or.inr ⟨j1, j2, rNow_up j3 hc⟩
theorem rW_key {codes : List Nat} {k0 : Nat → Int32} {v : Int32 → Int64} {r k : Int32} {μ' : Sg} {cI cB cL : ClassId} {o c g : Nat} {f : Nat → Int64} {t : Sta} {lay : Lay} {W' : va_W} (h : rW (kc codes) cL o f v (fun v' X' => v' = r ∧ μ' 0 0 = 0 ∧ gI InvL cI cB c t lay g μ' X') (fun E X' => E ∈ codes ∧ μ' 0 0 = k0 E ∧ gI InvL cI cB c t lay g μ' X') k W') (hk : ∀ E ∈ codes, kc codes E = k0 E ∧ k0 E ≠ 0) :
    ∃ lay' t' g', W' = lpX cI cB lay' t' ++ oc cL o g' ∧ lay'.1 36 = lay.1 36 ∧ tot t' = tot t + g ∧ InvL (c + 1) t' μ' ∧ μ' 0 0 = k ∧ (k = 0 → g' 0 = v r) := by
  rcases h with ⟨rfl, r1, X', g', ⟨rfl, h0, lay', t', rfl, h1, h2, h3⟩, hg, rfl⟩ | ⟨E, X', ⟨hE, h0, lay', t', rfl, h1, h2, h3⟩, rfl, rfl⟩
  · exact ⟨lay', t', g', rfl, h1, h2, h3, h0, fun _ => hg⟩
  · obtain ⟨e1, e2⟩ := hk E hE
    exact ⟨lay', t', f, rfl, h1, h2, h3, by rw [e1]; exact h0, fun h => absurd (e1.symm.trans h) e2⟩
theorem kcA : ∀ E ∈ [0], kc [0] E = kk2 E ∧ kk2 E ≠ 0 := by decide
theorem kcB : ∀ E ∈ [0, 1], kc [0, 1] E = kk2 E ∧ kk2 E ≠ 0 := by decide
theorem kcC : ∀ E ∈ [0, 2], kc [0, 2] E = kk2 E ∧ kk2 E ≠ 0 := by decide
theorem kcD : ∀ E ∈ [0, 3], kc [0, 3] E = kk2 E ∧ kk2 E ≠ 0 := by decide
theorem kcE : ∀ E ∈ [0, 2, 1], kc [0, 2, 1] E = kk3 E ∧ kk3 E ≠ 0 := by decide
theorem kcF : ∀ E ∈ [3], kc [3] E = kkL E ∧ kkL E ≠ 0 := by decide
theorem kcG : ∀ E ∈ [1], kc [1] E = kkL E ∧ kkL E ≠ 0 := by decide
theorem kcN : ∀ E ∈ [3, 4], kc [3, 4] E = kkN E ∧ kkN E ≠ 0 := by decide
theorem lth_1 : Cond.methodLink RL 140 yX12_thrown ∈ gw := gw_t6 106 rfl rfl
theorem lth_2 : Cond.instanceMethod yX12_thrown ∈ gw := gw_t6 107 rfl rfl
theorem lth_3 : Cond.selects RX12 yX12_thrown yX12_thrown ∈ gw := gw_t6 108 rfl rfl
theorem lth_4 : Cond.initialized RX12 ∈ gw := gw_t1 13 rfl rfl
theorem lth_5 : Cond.code yX12_thrown cX12_thrown 1 (some .int) ∈ gw := gw_t6 109 rfl rfl
theorem lth_6 : Cond.initialized RL ∈ gw := gw_t1 0 rfl rfl
theorem lth_d : yX12_thrown.cls = RX12 ∧ yX12_thrown.cls ≠ "java/lang/invoke/MethodHandle" ∧ yX12_thrown.cls ≠ "java/lang/invoke/VarHandle" ∧ (parseMethodDescriptor yX12_thrown.desc).map (fun d => d.parameters.length) = some 0 := by decide +kernel
section LT
variable {p : Program} {l : Launch} {e : Env} {s : State} {m : MethodId} {below : List Frame} {meth : Method} {c0 : Code} {D : va_G} {cI cB cL : ClassId} {ka kv : Nat → Nat} {fv : Value} {b L x o i c q : Nat} {xs : Nat → Int32} {am : Nat → Nat}
/-- was it thrown alike -/
theorem law_thr (LC : lawC l D cI cB cL ka kv fv p s m c0 meth b L xs) {lay : Lay} {t : Sta} {μ : Sg} {g : Nat → Int64} {H : Heap} {locs : List Loc} {ls : Array Slot} {lv : List (Nat × Value)} {k : Int32} {cells slots : Nat} {n2 n5 : Nat} (hth : μ 0 0 = k) (hl : lv_has ls 7 lv) (h2 : lv[n2]? = some (2, .ref (am 0))) (h5 : lv[n5]? = some (5, .int k)) (S : st D (cw (wM cI cB am μ ++ (lpX cI cB lay t ++ oc cL o g))) (fun q => s.heap.size ≤ q) s z0 H locs) (hc1 : cells ≤ 601024) (hc2 : slots ≤ 7293034)
    (d0 : decode code q = .ok (.aload_n 2, 1)) (d1 : decode code (q + 1) = .ok (.invokevirtual 140, 3)) (d2 : decode code (q + 4) = .ok (.iload 5, 2)) (d3 : decode code (q + 6) = .ok (.if_icmp .eq 5, 3))
    (kk : ∀ (H : Heap) (locs : List Loc), st D (cw ((lpX cI cB lay t ++ oc cL o g) ++ wM cI cB am μ)) (fun q => s.heap.size ≤ q) s z0 H locs → W p l e room_1 s m #[.ref b] below meth c0 H locs cells slots (lw_Z below #[.ref b] s) (F0 m (q + 11) ls [])) :
    W p l e room_1 s m #[.ref b] below meth c0 H locs cells slots (lw_Z below #[.ref b] s) (F0 m q ls []) := by
  obtain ⟨C, Kx, Np, hX, hbl, hst, hL⟩ := LC
  have hx := C.1
  have hb := C.2.1
  refine lv_aload_n hx hb d0 rfl (lv_at hl n2 h2) ?_
  refine h_callVi (As := []) (na := 0) C Kx S (wM_obj cI cB am μ) rfl ((ct_X12_thrown l D cI cB cL am μ (m_thr μ)).toH) lth_1 lth_2 lth_3 lth_4 lth_5 lth_d ⟨Nat.le_of_ble_eq_true rfl, Nat.le_of_ble_eq_true rfl⟩ rfl hl.1 ⟨hc1, hc2⟩ (Nat.le_of_ble_eq_true rfl) d1 rfl (fun r2 X' H locs hRI S => ?_)
  obtain ⟨rfl, rfl⟩ := hRI
  refine lv_iload hx hb d2 (lv_at hl n5 h5) ?_
  refine lv_icmp_eq (tgt := q + 11) hx hb d3 (by omega) (fun _ => kk H locs (g_comm S)) (fun h => absurd hth h)
/-- an int came back, or something was thrown: alike -/
theorem law_tail (LC : lawC l D cI cB cL ka kv fv p s m c0 meth b L xs) (hc : c < 512) (KE : lawAt l D cI cB cL p e s m below meth c0 b x o am i 2526 (c + 1)) {lay : Lay} {t : Sta} {μ : Sg} {g : Nat → Int64} {H : Heap} {locs : List Loc} {ls : Array Slot} {k r : Int32} {off : Int} (h36 : lay.1 36 = x) (hI : InvL (c + 1) t μ) (hth : μ 0 0 = k) (hg : k = 0 → g 0 = r.toInt64) (hl : lv_has ls 7 [(5, .int k), (0, .ref b), (1, .ref x), (2, .ref (am 0)), (3, .ref o), (4, .int (nI i))]) (S : st D (cw (wM cI cB am μ ++ (lpX cI cB lay t ++ oc cL o g))) (fun q => s.heap.size ≤ q) s z0 H locs)
    (d0 : decode code q = .ok (.istore 6, 2)) (d1 : decode code (q + 2) = .ok (.aload_n 2, 1)) (d2 : decode code (q + 3) = .ok (.invokevirtual 140, 3)) (d3 : decode code (q + 6) = .ok (.iload 5, 2)) (d4 : decode code (q + 8) = .ok (.if_icmp .eq 5, 3)) (d5 : decode code (q + 13) = .ok (.iload 5, 2)) (d6 : decode code (q + 15) = .ok (.ifCond .ne 15, 3)) (d7 : decode code (q + 18) = .ok (.aload_n 3, 1)) (d8 : decode code (q + 19) = .ok (.iconst 0, 1)) (d9 : decode code (q + 20) = .ok (.laload, 1)) (d10 : decode code (q + 21) = .ok (.iload 6, 2)) (d11 : decode code (q + 23) = .ok (.i2l, 1)) (d12 : decode code (q + 24) = .ok (.lcmp, 1)) (d13 : decode code (q + 25) = .ok (.ifCond .eq 5, 3)) (d14 : decode code (q + 30) = .ok (.goto off, 3)) (hoff : ((q + 30 : Nat) : Int) + off = ((2526 : Nat) : Int)) :
    W p l e room_1 s m #[.ref b] below meth c0 H locs (1000 + 4 * (c + 1) + tot t) (150000 + 24 * (c + 1) + 2 * tot t) (lw_Z below #[.ref b] s) (F0 m q ls [.int r]) := by
  have hC := LC.1
  have hx := hC.1
  have hb := hC.2.1
  have ht := hbd _ _ _ hI
  refine lv_istore (lv' := [(6, .int r), (5, .int k), (0, .ref b), (1, .ref x), (2, .ref (am 0)), (3, .ref o), (4, .int (nI i))]) hx hb d0 hl (by decide) rfl (fun ls hl => ?_)
  refine law_thr LC hth hl (n2 := 4) rfl (n5 := 1) rfl S (by omega) (by omega) d1 d2 d3 d4 (fun H locs S => ?_)
  have hl5 : lv_has ls 7 [(0, .ref b), (1, .ref x), (2, .ref (am 0)), (3, .ref o), (4, .int (nI i))] := lv_sub hl [2, 3, 4, 5, 6] rfl
  refine lv_iload hx hb d5 (lv_at hl 1 rfl) ?_
  refine lv_if_ne (tgt := q + 30) hx hb d6 (by omega) (fun _ => ?_) (fun hk => ?_)
  · refine lv_goto (tgt := 2526) hx hb d14 hoff ?_
    exact KE lay t μ g H locs ls h36 hI S hl5
  · refine lv_aload_n hx hb d7 rfl (lv_at hl 5 rfl) ?_
    refine lv_iconst (v := 0) hx hb d8 (by decide) ?_
    refine g_lald hC S d9 ?_
    refine lv_iload hx hb d10 (lv_at hl 0 rfl) ?_
    refine lv_i2l (v := r.toInt64) hx hb d11 rfl ?_
    refine W.lcmp hx hb d12 ?_
    rw [lcmp_eq (hg hk)]
    refine lv_if_eq (tgt := q + 30) hx hb d13 (by omega) (fun _ => ?_) (fun h => absurd rfl h)
    refine lv_goto (tgt := 2526) hx hb d14 hoff ?_
    exact KE lay t μ g H locs ls h36 hI S hl5
theorem law_tailZ (LC : lawC l D cI cB cL ka kv fv p s m c0 meth b L xs) (hc : c < 512) (KE : lawAt l D cI cB cL p e s m below meth c0 b x o am i 2526 (c + 1)) {lay : Lay} {t : Sta} {μ : Sg} {g : Nat → Int64} {H : Heap} {locs : List Loc} {ls : Array Slot} {k r : Int32} {off : Int} (h36 : lay.1 36 = x) (hI : InvL (c + 1) t μ) (hth : μ 0 0 = k) (hg : k = 0 → g 0 = if r = 0 then 0 else 1) (hl : lv_has ls 7 [(5, .int k), (0, .ref b), (1, .ref x), (2, .ref (am 0)), (3, .ref o), (4, .int (nI i))]) (S : st D (cw (wM cI cB am μ ++ (lpX cI cB lay t ++ oc cL o g))) (fun q => s.heap.size ≤ q) s z0 H locs)
    (d0 : decode code q = .ok (.istore 6, 2)) (d1 : decode code (q + 2) = .ok (.aload_n 2, 1)) (d2 : decode code (q + 3) = .ok (.invokevirtual 140, 3)) (d3 : decode code (q + 6) = .ok (.iload 5, 2)) (d4 : decode code (q + 8) = .ok (.if_icmp .eq 5, 3)) (d5 : decode code (q + 13) = .ok (.iload 5, 2)) (d6 : decode code (q + 15) = .ok (.ifCond .ne 22, 3)) (d7 : decode code (q + 18) = .ok (.aload_n 3, 1)) (d8 : decode code (q + 19) = .ok (.iconst 0, 1)) (d9 : decode code (q + 20) = .ok (.laload, 1)) (d10 : decode code (q + 21) = .ok (.iload 6, 2)) (d11 : decode code (q + 23) = .ok (.ifCond .eq 7, 3)) (d12 : decode code (q + 26) = .ok (.lconst 1, 1)) (d13 : decode code (q + 27) = .ok (.goto 4, 3)) (d14 : decode code (q + 30) = .ok (.lconst 0, 1)) (d15 : decode code (q + 31) = .ok (.lcmp, 1)) (d16 : decode code (q + 32) = .ok (.ifCond .eq 5, 3)) (d17 : decode code (q + 37) = .ok (.goto off, 3)) (hoff : ((q + 37 : Nat) : Int) + off = ((2526 : Nat) : Int)) :
    W p l e room_1 s m #[.ref b] below meth c0 H locs (1000 + 4 * (c + 1) + tot t) (150000 + 24 * (c + 1) + 2 * tot t) (lw_Z below #[.ref b] s) (F0 m q ls [.int r]) := by
  have hC := LC.1
  have hx := hC.1
  have hb := hC.2.1
  have ht := hbd _ _ _ hI
  refine lv_istore (lv' := [(6, .int r), (5, .int k), (0, .ref b), (1, .ref x), (2, .ref (am 0)), (3, .ref o), (4, .int (nI i))]) hx hb d0 hl (by decide) rfl (fun ls hl => ?_)
  refine law_thr LC hth hl (n2 := 4) rfl (n5 := 1) rfl S (by omega) (by omega) d1 d2 d3 d4 (fun H locs S => ?_)
  have hl5 : lv_has ls 7 [(0, .ref b), (1, .ref x), (2, .ref (am 0)), (3, .ref o), (4, .int (nI i))] := lv_sub hl [2, 3, 4, 5, 6] rfl
  refine lv_iload hx hb d5 (lv_at hl 1 rfl) ?_
  refine lv_if_ne (tgt := q + 37) hx hb d6 (by omega) (fun _ => ?_) (fun hk => ?_)
  · refine lv_goto (tgt := 2526) hx hb d17 hoff ?_
    exact KE lay t μ g H locs ls h36 hI S hl5
  · refine lv_aload_n hx hb d7 rfl (lv_at hl 5 rfl) ?_
    refine lv_iconst (v := 0) hx hb d8 (by decide) ?_
    refine g_lald hC S d9 ?_
    refine lv_iload hx hb d10 (lv_at hl 0 rfl) ?_
    refine lv_if_eq (tgt := q + 30) hx hb d11 (by omega) (fun h0 => ?_) (fun h0 => ?_)
    · refine lv_lconst (v := 0) hx hb d14 rfl ?_
      refine W.lcmp hx hb d15 ?_
      rw [lcmp_eq ((hg hk).trans (if_pos h0))]
      refine lv_if_eq (tgt := q + 37) hx hb d16 (by omega) (fun _ => ?_) (fun h => absurd rfl h)
      refine lv_goto (tgt := 2526) hx hb d17 hoff ?_
      exact KE lay t μ g H locs ls h36 hI S hl5
    · refine lv_lconst (v := 1) hx hb d12 rfl ?_
      refine lv_goto (tgt := q + 31) hx hb d13 (by omega) ?_
      refine W.lcmp hx hb d15 ?_
      rw [lcmp_eq ((hg hk).trans (if_neg h0))]
      refine lv_if_eq (tgt := q + 37) hx hb d16 (by omega) (fun _ => ?_) (fun h => absurd rfl h)
      refine lv_goto (tgt := 2526) hx hb d17 hoff ?_
      exact KE lay t μ g H locs ls h36 hI S hl5
theorem g_bool {R : Room} {args : Array Value} {H : Heap} {locs : List Loc} {cells slots : Nat} {Q : State → Prop} {cc : ByteArray} {pc : Nat} {ls : Array Slot} {rest : List Value} {v : Int32} (hx : p.tables.exec = Jvm.exec) (hb : c0.code = cc) (d0 : decode cc pc = .ok (.ifCond .eq 7, 3)) (d1 : decode cc (pc + 3) = .ok (.iconst 1, 1)) (d2 : decode cc (pc + 4) = .ok (.goto 4, 3)) (d3 : decode cc (pc + 7) = .ok (.iconst 0, 1))
    (kk : W p l e R s m args below meth c0 H locs cells slots Q (F0 m (pc + 8) ls (.int (if v = 0 then nI 0 else nI 1) :: rest))) : W p l e R s m args below meth c0 H locs cells slots Q (F0 m pc ls (.int v :: rest)) := by
  refine lv_if_eq (tgt := pc + 7) hx hb d0 (by omega) (fun h => ?_) (fun h => ?_)
  · rw [if_pos h] at kk
    refine lv_iconst (v := nI 0) hx hb d3 rfl ?_
    exact kk
  · rw [if_neg h] at kk
    refine lv_iconst (v := nI 1) hx hb d1 rfl ?_
    refine lv_goto (tgt := pc + 8) hx hb d2 (by omega) ?_
    exact kk
end LT
