/-! the law's loop, its beginning and its end -/
theorem le_1 : Cond.classLink RL 8 RX11 ∈ gw := gw_t1 30 rfl rfl
theorem le_2 : Cond.initialized RX11 ∈ gw := gw_t1 1 rfl rfl
theorem le_3 : Cond.methodLink RL 120 yX11_init ∈ gw := gw_t1 32 rfl rfl
theorem le_4 : Cond.instanceMethod yX11_init ∈ gw := gw_t1 33 rfl rfl
theorem le_5 : Cond.code yX11_init cX11_init 1 none ∈ gw := gw_t1 34 rfl rfl
theorem le_6 : Cond.classLink RL 121 RX12 ∈ gw := gw_t6 110 rfl rfl
theorem le_7 : Cond.methodLink RL 123 yX12_init ∈ gw := gw_t6 112 rfl rfl
theorem le_8 : Cond.instanceMethod yX12_init ∈ gw := gw_t6 113 rfl rfl
theorem le_9 : Cond.code yX12_init cX12_init 3 none ∈ gw := gw_t6 114 rfl rfl
theorem dl_0 : decode code 0 = .ok (.new 8, 3) := by decide +kernel
theorem dl_3 : decode code 3 = .ok (.dup, 1) := by decide +kernel
theorem dl_4 : decode code 4 = .ok (.invokespecial 120, 3) := by decide +kernel
theorem dl_7 : decode code 7 = .ok (.astore_n 1, 1) := by decide +kernel
theorem dl_8 : decode code 8 = .ok (.new 121, 3) := by decide +kernel
theorem dl_11 : decode code 11 = .ok (.dup, 1) := by decide +kernel
theorem dl_12 : decode code 12 = .ok (.invokespecial 123, 3) := by decide +kernel
theorem dl_15 : decode code 15 = .ok (.astore_n 2, 1) := by decide +kernel
theorem dl_16 : decode code 16 = .ok (.iconst 1, 1) := by decide +kernel
theorem dl_17 : decode code 17 = .ok (.newarray .long, 2) := by decide +kernel
theorem dl_19 : decode code 19 = .ok (.astore_n 3, 1) := by decide +kernel
theorem dl_20 : decode code 20 = .ok (.iconst 0, 1) := by decide +kernel
theorem dl_21 : decode code 21 = .ok (.istore 4, 2) := by decide +kernel
theorem dl_23 : decode code 23 = .ok (.iload 4, 2) := by decide +kernel
theorem dl_25 : decode code 25 = .ok (.aload_n 0, 1) := by decide +kernel
theorem dl_26 : decode code 26 = .ok (.arraylength, 1) := by decide +kernel
theorem dl_27 : decode code 27 = .ok (.bipush 6, 2) := by decide +kernel
theorem dl_29 : decode code 29 = .ok (.isub, 1) := by decide +kernel
theorem dl_30 : decode code 30 = .ok (.if_icmp .gt 2502, 3) := by decide +kernel
theorem dl_33 : decode code 33 = .ok (.aload_n 0, 1) := by decide +kernel
theorem dl_34 : decode code 34 = .ok (.iload 4, 2) := by decide +kernel
theorem dl_36 : decode code 36 = .ok (.iaload, 1) := by decide +kernel
theorem dl_37 : decode code 37 = .ok (.bipush 63, 2) := by decide +kernel
theorem dl_39 : decode code 39 = .ok (.iand, 1) := by decide +kernel
theorem dl_40 : decode code 40 = .ok (.tableswitch 2486 0 40 #[180, 253, 278, 322, 335, 403, 459, 527, 607, 675, 755, 847, 927, 983, 1051, 1087, 1190, 1258, 1326, 1382, 1457, 1482, 1550, 1606, 1674, 1742, 1822, 1878, 1891, 1959, 2015, 2071, 2139, 2152, 2208, 2276, 2344, 2412, 2437, 2448, 2461], 180) := by decide +kernel
theorem dl_2526 : decode code 2526 = .ok (.iinc 4 6, 3) := by decide +kernel
theorem dl_2529 : decode code 2529 = .ok (.goto (-2506), 3) := by decide +kernel
theorem dl_2532 : decode code 2532 = .ok (.iconst 1, 1) := by decide +kernel
theorem dl_2533 : decode code 2533 = .ok (.ireturn, 1) := by decide +kernel
theorem and63 (x : Int32) : ∃ k, k < 64 ∧ x &&& nI 63 = nI k := by
  refine ⟨(x &&& nI 63).toBitVec.toNat, ?_, ?_⟩
  · rw [Int32.toBitVec_and, BitVec.toNat_and]
    exact Nat.lt_of_le_of_lt Nat.and_le_right (by decide)
  · apply Int32.toBitVec_inj.mp
    show _ = BitVec.ofNat 32 _
    rw [BitVec.ofNat_toNat, BitVec.setWidth_eq]
theorem sub6 {L : Nat} (h : L ≤ 3072) : (nI L - nI 6).toInt = (L : Int) - 6 := by
  rw [Int32.toInt_sub, nI_toInt (by omega), nI_toInt (by omega)]
  exact Int.bmod_eq_of_le (by omega) (by omega)
theorem tyl_long {D : va_G} {cI cB cL cA : ClassId} {s : State} (h : va_K D vwCl (tyl cI cB cL) s) (h2 : va_K D vwCl (tyl cI cB cL ++ [(cA, .long)]) s) : cA = cL := by
  have e1 : s.vm.findClass _ = some cL := (h.2 2 (cL, .long) rfl).2
  have e2 : s.vm.findClass _ = some cA := (h2.2 3 (cA, .long) rfl).2
  exact Option.some.inj (e2.symm.trans e1)
section LY
variable {p : Program} {l : Launch} {e : Env} {s : State} {m : MethodId} {below : List Frame} {meth : Method} {c0 : Code} {D : va_G} {cI cB cL : ClassId} {ka kv : Nat → Nat} {fv : Value} {b L x o i c : Nat} {xs : Nat → Int32} {am : Nat → Nat}
theorem law_end (LC : lawC l D cI cB cL ka kv fv p s m c0 meth b L xs) (hc : c ≤ 512) : lawAt l D cI cB cL p e s m below meth c0 b x o am i 2532 c := by
  intro lay t μ f H locs ls hxx hI S hl
  obtain ⟨C, -⟩ := LC
  have hx := C.1
  have hb := C.2.1
  have ht := hbd _ _ _ hI
  refine lv_iconst (v := 1) hx hb dl_2532 (by decide) ?_
  refine va_forget (fun q hq => S.2.2.2.2 q hq) ?_
  refine W.widen (k := 601024) (n := 7293034) (by omega) (by omega) ?_
  exact lw_ret hx hb C.2.2.2.2.2.1 C.2.2.2.2.2.2.1 dl_2533
theorem law_next (LC : lawC l D cI cB cL ka kv fv p s m c0 meth b L xs) (KL : lawAt l D cI cB cL p e s m below meth c0 b x o am (i + 6) 23 c) : lawAt l D cI cB cL p e s m below meth c0 b x o am i 2526 c := by
  intro lay t μ f H locs ls hxx hI S hl
  obtain ⟨C, -⟩ := LC
  have hx := C.1
  have hb := C.2.1
  refine lv_iinc (v := nI (i + 6)) (lv' := [(4, .int (nI (i + 6))), (0, .ref b), (1, .ref x), (2, .ref (am 0)), (3, .ref o)]) hx hb dl_2526 hl (k := 4) rfl (nI_add i 6) (by decide) rfl (fun ls hl => ?_)
  refine lv_goto (tgt := 23) hx hb dl_2529 (by decide) ?_
  exact KL lay t μ f H locs ls hxx hI S (lv_sub hl [1, 2, 3, 4, 0] rfl)
theorem law_up (KE : lawAt l D cI cB cL p e s m below meth c0 b x o am i 2526 (c + 1)) : lawAt l D cI cB cL p e s m below meth c0 b x o am i 2526 c := by
  intro lay t μ f H locs ls hxx hI S hl
  refine W.widen (k := 1000 + 4 * (c + 1) + tot t) (n := 150000 + 24 * (c + 1) + 2 * tot t) (by omega) (by omega) ?_
  exact KE lay t μ f H locs ls hxx (Inv_up hI (by omega)) S hl
theorem law_switch (LC : lawC l D cI cB cL ka kv fv p s m c0 meth b L xs) (hi : i + 5 < L) (hc : c < 512) (KE : lawAt l D cI cB cL p e s m below meth c0 b x o am i 2526 (c + 1)) : lawAt l D cI cB cL p e s m below meth c0 b x o am i 33 c := by
  intro lay t μ f H locs ls hxx hI S hl
  obtain ⟨C, Kx, Np, hX, hbl, hst, hL⟩ := id LC
  have hx := C.1
  have hb := C.2.1
  have hbA : ¬ (fun q => s.heap.size ≤ q) b := Nat.not_le.mpr hbl
  refine lv_aload_n hx hb dl_33 rfl (lv_at hl 0 rfl) ?_
  refine lv_iload hx hb dl_34 (lv_at hl 4 rfl) ?_
  refine va_sld hx hb hX hbl hbA S.2.2 (vp_in_nI (show i < L by omega) (by omega)) dl_36 ?_
  refine lv_bipush (v := nI 63) hx hb dl_37 rfl ?_
  refine lv_iand hx hb dl_39 ?_
  obtain ⟨k, hk, ek⟩ := and63 (xs (nI i).toNatClampNeg)
  rw [ek]
  by_cases h41 : k < 41
  · rcases (show k = 0 ∨ k = 1 ∨ k = 2 ∨ k = 3 ∨ k = 4 ∨ k = 5 ∨ k = 6 ∨ k = 7 ∨ k = 8 ∨ k = 9 ∨ k = 10 ∨ k = 11 ∨ k = 12 ∨ k = 13 ∨ k = 14 ∨ k = 15 ∨ k = 16 ∨ k = 17 ∨ k = 18 ∨ k = 19 ∨ k = 20 ∨ k = 21 ∨ k = 22 ∨ k = 23 ∨ k = 24 ∨ k = 25 ∨ k = 26 ∨ k = 27 ∨ k = 28 ∨ k = 29 ∨ k = 30 ∨ k = 31 ∨ k = 32 ∨ k = 33 ∨ k = 34 ∨ k = 35 ∨ k = 36 ∨ k = 37 ∨ k = 38 ∨ k = 39 ∨ k = 40 by omega) with rfl | rfl | rfl | rfl | rfl | rfl | rfl | rfl | rfl | rfl | rfl | rfl | rfl | rfl | rfl | rfl | rfl | rfl | rfl | rfl | rfl | rfl | rfl | rfl | rfl | rfl | rfl | rfl | rfl | rfl | rfl | rfl | rfl | rfl | rfl | rfl | rfl | rfl | rfl | rfl | rfl
    · refine lv_tableIn (off := 180) (tgt := 220) hx hb dl_40 (by decide) (by decide) rfl (by decide) ?_
      exact lc_feed LC hi hc KE lay t μ f H locs ls hxx hI S hl
    · refine lv_tableIn (off := 253) (tgt := 293) hx hb dl_40 (by decide) (by decide) rfl (by decide) ?_
      exact lc_end LC hi hc KE lay t μ f H locs ls hxx hI S hl
    · refine lv_tableIn (off := 278) (tgt := 318) hx hb dl_40 (by decide) (by decide) rfl (by decide) ?_
      exact lc_net LC hi hc KE lay t μ f H locs ls hxx hI S hl
    · refine lv_tableIn (off := 322) (tgt := 362) hx hb dl_40 (by decide) (by decide) rfl (by decide) ?_
      exact lc_fault LC hi hc KE lay t μ f H locs ls hxx hI S hl
    · refine lv_tableIn (off := 335) (tgt := 375) hx hb dl_40 (by decide) (by decide) rfl (by decide) ?_
      exact lc_node LC hi hc KE lay t μ f H locs ls hxx hI S hl
    · refine lv_tableIn (off := 403) (tgt := 443) hx hb dl_40 (by decide) (by decide) rfl (by decide) ?_
      exact lc_group LC hi hc KE lay t μ f H locs ls hxx hI S hl
    · refine lv_tableIn (off := 459) (tgt := 499) hx hb dl_40 (by decide) (by decide) rfl (by decide) ?_
      exact lc_message LC hi hc KE lay t μ f H locs ls hxx hI S hl
    · refine lv_tableIn (off := 527) (tgt := 567) hx hb dl_40 (by decide) (by decide) rfl (by decide) ?_
      exact lc_has LC hi hc KE lay t μ f H locs ls hxx hI S hl
    · refine lv_tableIn (off := 607) (tgt := 647) hx hb dl_40 (by decide) (by decide) rfl (by decide) ?_
      exact lc_delivered LC hi hc KE lay t μ f H locs ls hxx hI S hl
    · refine lv_tableIn (off := 675) (tgt := 715) hx hb dl_40 (by decide) (by decide) rfl (by decide) ?_
      exact lc_channel LC hi hc KE lay t μ f H locs ls hxx hI S hl
    · refine lv_tableIn (off := 755) (tgt := 795) hx hb dl_40 (by decide) (by decide) rfl (by decide) ?_
      exact lc_packet LC hi hc KE lay t μ f H locs ls hxx hI S hl
    · refine lv_tableIn (off := 847) (tgt := 887) hx hb dl_40 (by decide) (by decide) rfl (by decide) ?_
      exact lc_gather LC hi hc KE lay t μ f H locs ls hxx hI S hl
    · refine lv_tableIn (off := 927) (tgt := 967) hx hb dl_40 (by decide) (by decide) rfl (by decide) ?_
      exact lc_ticks LC hi hc KE lay t μ f H locs ls hxx hI S hl
    · refine lv_tableIn (off := 983) (tgt := 1023) hx hb dl_40 (by decide) (by decide) rfl (by decide) ?_
      exact lc_send LC hi hc KE lay t μ f H locs ls hxx hI S hl
    · refine lv_tableIn (off := 1051) (tgt := 1091) hx hb dl_40 (by decide) (by decide) rfl (by decide) ?_
      exact lc_crash LC hi hc KE lay t μ f H locs ls hxx hI S hl
    · refine lv_tableIn (off := 1087) (tgt := 1127) hx hb dl_40 (by decide) (by decide) rfl (by decide) ?_
      exact lc_hold LC hi hc KE lay t μ f H locs ls hxx hI S hl
    · refine lv_tableIn (off := 1190) (tgt := 1230) hx hb dl_40 (by decide) (by decide) rfl (by decide) ?_
      exact lc_due LC hi hc KE lay t μ f H locs ls hxx hI S hl
    · refine lv_tableIn (off := 1258) (tgt := 1298) hx hb dl_40 (by decide) (by decide) rfl (by decide) ?_
      exact lc_block LC hi hc KE lay t μ f H locs ls hxx hI S hl
    · refine lv_tableIn (off := 1326) (tgt := 1366) hx hb dl_40 (by decide) (by decide) rfl (by decide) ?_
      exact lc_waits LC hi hc KE lay t μ f H locs ls hxx hI S hl
    · refine lv_tableIn (off := 1382) (tgt := 1422) hx hb dl_40 (by decide) (by decide) rfl (by decide) ?_
      exact lc_ahead LC hi hc KE lay t μ f H locs ls hxx hI S hl
    · refine lv_tableIn (off := 1457) (tgt := 1497) hx hb dl_40 (by decide) (by decide) rfl (by decide) ?_
      exact lc_line LC hi hc KE lay t μ f H locs ls hxx hI S hl
    · refine lv_tableIn (off := 1482) (tgt := 1522) hx hb dl_40 (by decide) (by decide) rfl (by decide) ?_
      exact lc_after LC hi hc KE lay t μ f H locs ls hxx hI S hl
    · refine lv_tableIn (off := 1550) (tgt := 1590) hx hb dl_40 (by decide) (by decide) rfl (by decide) ?_
      exact lc_outside LC hi hc KE lay t μ f H locs ls hxx hI S hl
    · refine lv_tableIn (off := 1606) (tgt := 1646) hx hb dl_40 (by decide) (by decide) rfl (by decide) ?_
      exact lc_parted LC hi hc KE lay t μ f H locs ls hxx hI S hl
    · refine lv_tableIn (off := 1674) (tgt := 1714) hx hb dl_40 (by decide) (by decide) rfl (by decide) ?_
      exact lc_when LC hi hc KE lay t μ f H locs ls hxx hI S hl
    · refine lv_tableIn (off := 1742) (tgt := 1782) hx hb dl_40 (by decide) (by decide) rfl (by decide) ?_
      exact lc_chain LC hi hc KE lay t μ f H locs ls hxx hI S hl
    · refine lv_tableIn (off := 1822) (tgt := 1862) hx hb dl_40 (by decide) (by decide) rfl (by decide) ?_
      exact lc_late LC hi hc KE lay t μ f H locs ls hxx hI S hl
    · refine lv_tableIn (off := 1878) (tgt := 1918) hx hb dl_40 (by decide) (by decide) rfl (by decide) ?_
      exact lc_slowest LC hi hc KE lay t μ f H locs ls hxx hI S hl
    · refine lv_tableIn (off := 1891) (tgt := 1931) hx hb dl_40 (by decide) (by decide) rfl (by decide) ?_
      exact lc_first LC hi hc KE lay t μ f H locs ls hxx hI S hl
    · refine lv_tableIn (off := 1959) (tgt := 1999) hx hb dl_40 (by decide) (by decide) rfl (by decide) ?_
      exact lc_lag LC hi hc KE lay t μ f H locs ls hxx hI S hl
    · refine lv_tableIn (off := 2015) (tgt := 2055) hx hb dl_40 (by decide) (by decide) rfl (by decide) ?_
      exact lc_takes LC hi hc KE lay t μ f H locs ls hxx hI S hl
    · refine lv_tableIn (off := 2071) (tgt := 2111) hx hb dl_40 (by decide) (by decide) rfl (by decide) ?_
      exact lc_knot LC hi hc KE lay t μ f H locs ls hxx hI S hl
    · refine lv_tableIn (off := 2139) (tgt := 2179) hx hb dl_40 (by decide) (by decide) rfl (by decide) ?_
      exact lc_ring LC hi hc KE lay t μ f H locs ls hxx hI S hl
    · refine lv_tableIn (off := 2152) (tgt := 2192) hx hb dl_40 (by decide) (by decide) rfl (by decide) ?_
      exact lc_spared LC hi hc KE lay t μ f H locs ls hxx hI S hl
    · refine lv_tableIn (off := 2208) (tgt := 2248) hx hb dl_40 (by decide) (by decide) rfl (by decide) ?_
      exact lc_those LC hi hc KE lay t μ f H locs ls hxx hI S hl
    · refine lv_tableIn (off := 2276) (tgt := 2316) hx hb dl_40 (by decide) (by decide) rfl (by decide) ?_
      exact lc_event LC hi hc KE lay t μ f H locs ls hxx hI S hl
    · refine lv_tableIn (off := 2344) (tgt := 2384) hx hb dl_40 (by decide) (by decide) rfl (by decide) ?_
      exact lc_log LC hi hc KE lay t μ f H locs ls hxx hI S hl
    · refine lv_tableIn (off := 2412) (tgt := 2452) hx hb dl_40 (by decide) (by decide) rfl (by decide) ?_
      exact lc_seed LC hi hc KE lay t μ f H locs ls hxx hI S hl
    · refine lv_tableIn (off := 2437) (tgt := 2477) hx hb dl_40 (by decide) (by decide) rfl (by decide) ?_
      exact lc_image LC hi hc KE lay t μ f H locs ls hxx hI S hl
    · refine lv_tableIn (off := 2448) (tgt := 2488) hx hb dl_40 (by decide) (by decide) rfl (by decide) ?_
      exact lc_back LC hi hc KE lay t μ f H locs ls hxx hI S hl
    · refine lv_tableIn (off := 2461) (tgt := 2501) hx hb dl_40 (by decide) (by decide) rfl (by decide) ?_
      exact lc_count LC hi hc KE lay t μ f H locs ls hxx hI S hl
  · refine lv_tableOut (tgt := 2526) hx hb dl_40 (Or.inr ?_) (by decide) ?_
    · rw [nI_toInt (by omega)]; omega
    · exact law_up KE lay t μ f H locs ls hxx hI S hl
theorem law_loop (LC : lawC l D cI cB cL ka kv fv p s m c0 meth b L xs) : ∀ (n c : Nat), c + n = 512 → lawAt l D cI cB cL p e s m below meth c0 b x o am (6 * c) 23 c := by
  have hL := LC.2.2.2.2.2.2
  have head : ∀ c, c ≤ 512 → (6 * c + 6 ≤ L → lawAt l D cI cB cL p e s m below meth c0 b x o am (6 * c) 33 c) → lawAt l D cI cB cL p e s m below meth c0 b x o am (6 * c) 23 c := by
    intro c hc KS lay t μ f H locs ls hxx hI S hl
    obtain ⟨C, Kx, Np, hX, hbl, hst, -⟩ := id LC
    have hx := C.1
    have hb := C.2.1
    have hbA : ¬ (fun q => s.heap.size ≤ q) b := Nat.not_le.mpr hbl
    refine lv_iload hx hb dl_23 (lv_at hl 4 rfl) ?_
    refine lv_aload_n hx hb dl_25 rfl (lv_at hl 0 rfl) ?_
    refine va_slen hx hb hX hbl hbA S.2.2 dl_26 ?_
    refine lv_bipush (v := nI 6) hx hb dl_27 rfl ?_
    refine lv_isub hx hb dl_29 ?_
    refine lv_icmp_gt (tgt := 2532) hx hb dl_30 (by decide) (fun _ => ?_) (fun h => ?_)
    · exact law_end LC hc lay t μ f H locs ls hxx hI S hl
    · have h' : ¬ nI L - nI 6 < nI (6 * c) := h
      rw [Int32.lt_iff_toInt_lt, sub6 hL, nI_toInt (by omega)] at h'
      exact KS (by omega) lay t μ f H locs ls hxx hI S hl
  intro n
  induction n with
  | zero =>
    intro c hc
    refine head c (by omega) (fun h => ?_)
    omega
  | succ n ih =>
    intro c hc
    refine head c (by omega) (fun h => ?_)
    have K := ih (c + 1) (by omega)
    rw [Nat.mul_add] at K
    exact law_switch LC (by omega) (by omega) (law_next LC K)
end LY
