theorem tyl_int {D : va_G} {cI cB cL cA : ClassId} {s : State} (h : va_K D vwCl (tyl cI cB cL) s) (h' : va_K D vwCl (tyl cI cB cL ++ [(cA, .int)]) s) : cA = cI := by
  have h1 : s.vm.findClass ("[" ++ FieldType.int.toString) = some cI := (h.2 0 (cI, .int) rfl).2
  have h2 : s.vm.findClass ("[" ++ FieldType.int.toString) = some cA := (h'.2 3 (cA, .int) rfl).2
  exact Option.some.inj (h2.symm.trans h1)
def wA (a : Nat) (cI : ClassId) (L : Nat) (f : Nat → Int32) : Sg → va_W := fun _ => [(a, .inl (cI, L, .inl f))]
def grw (f : Nat → Int32) (L : Nat) : Nat → Int32 := va_cpy f (fun _ => 0) 0 0 L
abbrev wA2 (a : Nat) (cI : ClassId) (L : Nat) (f : Nat → Int32) (q N : Nat) : va_W := [(a, .inl (cI, L, .inl f)), (q, .inl (cI, N, .inl (grw f L)))]
theorem mw_arrI : Cond.arrayClass .int ∈ gw := by
  exact gw_t1 87 rfl rfl
theorem mwJ1 : Cond.methodLink RJ7 304 Lib.Math.min.name ∈ gw := gw_t5 36 rfl rfl
theorem mwJ2 : Cond.methodLink RJ7 150 arraycopyName ∈ gw := gw_t5 37 rfl rfl
theorem mwJ3 : Cond.native arraycopyName ∈ gw := gw_t3 23 rfl rfl
theorem mwJ4 : Cond.static arraycopyName ∈ gw := gw_t3 22 rfl rfl
theorem mwJ5 : Cond.initialized "java/lang/System" ∈ gw := gw_t1 15 rfl rfl
theorem dJ7_copyOf_59c91_0 : decode cJ7_copyOf_59c91 0 = .ok (.iload_n 1, 1) := by decide +kernel
theorem dJ7_copyOf_59c91_1 : decode cJ7_copyOf_59c91 1 = .ok (.aload_n 0, 1) := by decide +kernel
theorem dJ7_copyOf_59c91_2 : decode cJ7_copyOf_59c91 2 = .ok (.arraylength, 1) := by decide +kernel
theorem dJ7_copyOf_59c91_3 : decode cJ7_copyOf_59c91 3 = .ok (.if_icmp .ne 11, 3) := by decide +kernel
theorem dJ7_copyOf_59c91_6 : decode cJ7_copyOf_59c91 6 = .ok (.aload_n 0, 1) := by decide +kernel
theorem dJ7_copyOf_59c91_7 : decode cJ7_copyOf_59c91 7 = .ok (.invokevirtual 316, 3) := by decide +kernel
theorem dJ7_copyOf_59c91_10 : decode cJ7_copyOf_59c91 10 = .ok (.checkcast 317, 3) := by decide +kernel
theorem dJ7_copyOf_59c91_13 : decode cJ7_copyOf_59c91 13 = .ok (.areturn, 1) := by decide +kernel
theorem dJ7_copyOf_59c91_14 : decode cJ7_copyOf_59c91 14 = .ok (.iload_n 1, 1) := by decide +kernel
theorem dJ7_copyOf_59c91_15 : decode cJ7_copyOf_59c91 15 = .ok (.newarray .int, 2) := by decide +kernel
theorem dJ7_copyOf_59c91_17 : decode cJ7_copyOf_59c91 17 = .ok (.astore_n 2, 1) := by decide +kernel
theorem dJ7_copyOf_59c91_18 : decode cJ7_copyOf_59c91 18 = .ok (.aload_n 0, 1) := by decide +kernel
theorem dJ7_copyOf_59c91_19 : decode cJ7_copyOf_59c91 19 = .ok (.iconst 0, 1) := by decide +kernel
theorem dJ7_copyOf_59c91_20 : decode cJ7_copyOf_59c91 20 = .ok (.aload_n 2, 1) := by decide +kernel
theorem dJ7_copyOf_59c91_21 : decode cJ7_copyOf_59c91 21 = .ok (.iconst 0, 1) := by decide +kernel
theorem dJ7_copyOf_59c91_22 : decode cJ7_copyOf_59c91 22 = .ok (.aload_n 0, 1) := by decide +kernel
theorem dJ7_copyOf_59c91_23 : decode cJ7_copyOf_59c91 23 = .ok (.arraylength, 1) := by decide +kernel
theorem dJ7_copyOf_59c91_24 : decode cJ7_copyOf_59c91 24 = .ok (.iload_n 1, 1) := by decide +kernel
theorem dJ7_copyOf_59c91_25 : decode cJ7_copyOf_59c91 25 = .ok (.invokestatic 304, 3) := by decide +kernel
theorem dJ7_copyOf_59c91_28 : decode cJ7_copyOf_59c91 28 = .ok (.invokestatic 150, 3) := by decide +kernel
theorem dJ7_copyOf_59c91_31 : decode cJ7_copyOf_59c91 31 = .ok (.aload_n 2, 1) := by decide +kernel
theorem dJ7_copyOf_59c91_32 : decode cJ7_copyOf_59c91 32 = .ok (.areturn, 1) := by decide +kernel
section S25
set_option maxRecDepth 10000 in
set_option maxHeartbeats 4000000 in
theorem ct_copyOf (l : Launch) (D : va_G) (cI cB cL : ClassId) (a L N : Nat) (f : Nat → Int32) (hLN : L < N) (hN : N ≤ 134217728) : ∀ sz, Met l yJ7_copyOf_59c91 (Cond.code yJ7_copyOf_59c91 cJ7_copyOf_59c91 3 (some (.array .int)) :: gw) { frames := 1, cells := 1, slots := N, locals := 26 } (va_Pc [.ref a, .int (nI N)] (pre D (tyl cI cB cL) (wA a cI L f) z0 sz))
    (va_Qr (fun _ : Unit => True) (fun _ q t => va_P D vwCl (wA2 a cI L f q N) t.heap ∧ va_K D vwCl (tyl cI cB cL) t ∧ va_D (va_A (wA a cI L f z0) sz) (wA2 a cI L f q N)) (va_A (wA a cI L f z0) sz)) 1 N (va_A (wA a cI L f z0) sz) := by
  intro sz
  refine Met.ofW (cc := cJ7_copyOf_59c91) (maxL := 3) (ret := some (.array .int)) (by decide) rfl ?_
  intro p e s m args below meth c s₁ B hml hv
  obtain ⟨h0, hsz, hP, hK, hD0, hn⟩ := hv
  subst h0
  have hx := B.exec
  have hb := B.bytes
  have hown : s.vm.findClass RJ7 = some m.cls := findClass_of_methodNamed B.named
  have hts : ∀ w ∈ gw, w.before _ s = true := fun w hw => atoms_spec (ws := Cond.code yJ7_copyOf_59c91 cJ7_copyOf_59c91 3 (some (.array .int)) :: gw) B.pre w (List.mem_cons_of_mem _ hw)
  have hD := hD0.self (sz := sz)
  have hA : ∀ q, s.heap.size ≤ q → va_A (wA a cI L f z0) sz q := fun q h => Or.inr (by rw [← hsz]; exact h)
  have hS : va_S (va_A (wA a cI L f z0) sz) s.heap s.heap [] := va_S.rf
  have hl := lv_entry ([.ref a, .int (nI N)]) (n := 3) (Nat.le_of_ble_eq_true rfl)
  rw [lg_entry_eq]
  generalize (lg_sl ([.ref a, .int (nI N)]) ++ List.replicate (3 - (lg_sl ([.ref a, .int (nI N)])).length) Slot.unset).toArray = ls at hl ⊢
  have hl : lv_has ls 3 [(0, .ref a), (1, .int (nI N))] := hl
  have hP : va_P D vwCl [(a, .inl (cI, L, .inl f))] s.heap := hP
  have hD : va_D (va_A (wA a cI L f z0) sz) [(a, .inl (cI, L, .inl f))] := hD
  generalize hAe : va_A (wA a cI L f z0) sz = A at hA hS hD ⊢
  have hNb : N < 2 ^ 31 := by omega
  refine lv_iload_n hx hb dJ7_copyOf_59c91_0 rfl (lv_at hl 1 rfl) ?_
  refine lv_aload_n hx hb dJ7_copyOf_59c91_1 rfl (lv_at hl 0 rfl) ?_
  refine va_alen (D := D) (v := nI L) hx hb hK hP 0 0 rfl rfl rfl dJ7_copyOf_59c91_2 ?_
  refine lv_icmp_ne (tgt := 14) hx hb dJ7_copyOf_59c91_3 (by decide) (fun c1 => ?_) (fun c1 => absurd ((nI_eq hNb (by omega)).mp c1) (by omega))
  refine lv_iload_n hx hb dJ7_copyOf_59c91_14 rfl (lv_at hl 1 rfl) ?_
  refine va_newa (atype := .int) (N' := N) (a0 := (N, .inl (fun _ => 0))) hx hb (hts _ mw_arrI) (ty := .int) rfl hK hP hD hS hA (fun _ => rfl) (nI_pos hNb) (nI_clamp hNb) (show N * 4 ≤ 536870912 by omega) (Nat.le_refl _) (by show 0 + N ≤ N; omega) dJ7_copyOf_59c91_15 (fun q cA H hK2 hP hD hS => ?_)
  obtain rfl := tyl_int hK hK2
  have hP : va_P D vwCl [(a, .inl (cA, L, .inl f)), (q, .inl (cA, N, .inl (fun _ => 0)))] H := hP
  have hD : va_D A [(a, .inl (cA, L, .inl f)), (q, .inl (cA, N, .inl (fun _ => 0)))] := hD
  refine lv_astore_n (lv' := [(2, .ref q), (0, .ref a), (1, .int (nI N))]) hx hb dJ7_copyOf_59c91_17 rfl hl (by decide) rfl (fun ls hl => ?_)
  refine lv_aload_n hx hb dJ7_copyOf_59c91_18 rfl (lv_at hl 1 rfl) ?_
  refine lv_iconst (v := 0) hx hb dJ7_copyOf_59c91_19 (by decide) ?_
  refine lv_aload_n hx hb dJ7_copyOf_59c91_20 rfl (lv_at hl 0 rfl) ?_
  refine lv_iconst (v := 0) hx hb dJ7_copyOf_59c91_21 (by decide) ?_
  refine lv_aload_n hx hb dJ7_copyOf_59c91_22 rfl (lv_at hl 1 rfl) ?_
  refine va_alen (D := D) (v := nI L) hx hb hK hP 0 0 rfl rfl rfl dJ7_copyOf_59c91_23 ?_
  refine lv_iload_n hx hb dJ7_copyOf_59c91_24 rfl (lv_at hl 2 rfl) ?_
  refine va_mmin hx hb (hml.trans hl.1.symm) hown (hts _ mwJ1) (hts _ (gw_t3 19 rfl rfl : Cond.static Lib.Math.min.name ∈ gw)) (hts _ (gw_t1 14 rfl rfl : Cond.initialized "java/lang/Math" ∈ gw)) (hts _ (gw_t3 20 rfl rfl : Cond.code Lib.Math.min.name Lib.Math.min.code 2 (some .int) ∈ gw)) (Nat.le_refl _) (Nat.le_of_ble_eq_true rfl) (Nat.le_refl _) (by show 0 + N ≤ N; omega) dJ7_copyOf_59c91_25 ?_
  rw [if_neg (nI_nlt (Nat.le_of_lt hLN) hNb)]
  have hLb : L < 2 ^ 31 := by omega
  have e0 : (0 : Int32).toNatClampNeg = 0 := by decide
  have eL : (nI L).toNatClampNeg = L := nI_clamp hLb
  refine va_copyi hx hb (hml.trans hl.1.symm) hown (hts _ mwJ2) (hts _ mwJ3) (hts _ mwJ4) (hts _ mwJ5) hK hP hD hS 0 1 0 0 rfl rfl (ty := .int) rfl rfl rfl (by decide) (by decide) (nI_pos hLb) (by rw [e0, eL]; omega) (by rw [e0, eL]; omega) (fun _ _ => rfl) (Nat.le_refl _) (Nat.le_of_ble_eq_true rfl) dJ7_copyOf_59c91_28 (fun H locs hP hD hS => ?_)
  rw [e0, eL] at hP hD
  have hP : va_P D vwCl (wA2 a cA L f q N) H := hP
  have hD : va_D A (wA2 a cA L f q N) := hD
  refine lv_aload_n hx hb dJ7_copyOf_59c91_31 rfl (lv_at hl 0 rfl) ?_
  refine W.widen (k := 1) (n := N) (Nat.le_refl _) (by show 0 + N ≤ N; omega) ?_
  exact W.aret (v := .ref q) hx hb B.returns (Or.inr ⟨_, rfl⟩) (Or.inr ⟨_, rfl⟩) (fun t ht hW => ⟨⟨(), q, rfl, trivial, by rw [ht]; exact hP, va_K.moved hW.alike hK, hD⟩, hS.F ht⟩) hS.2.2 dJ7_copyOf_59c91_32 B.notSynchronized
end S25
