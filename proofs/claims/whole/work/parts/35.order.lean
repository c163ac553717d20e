def flO0 (cI : ClassId) (ad : Nat → Nat) (pa pl : Nat) (σ : Sg) : List Value := [.int (σ 0 0), .int (σ 0 1), .int (σ 0 2), .int (σ 0 3), .int (σ 0 4), .int (σ 0 5), .int (σ 0 6), .int (σ 0 7), .int (σ 0 8), .ref (ad 1), .ref (ad 2), .ref (ad 3), .ref (ad 4), .ref (ad 5), .ref (ad 13), .ref (ad 19), .ref (ad 26), .ref (ad 30), .ref (ad 34)]
def flO5 (cI : ClassId) (ad : Nat → Nat) (pa pl : Nat) (σ : Sg) : List Value := [.ref (ad 6), .ref (ad 7), .ref (ad 8), .ref (ad 9), .ref pa, .ref (ad 11), .ref (ad 12), .int (σ 5 7), .int (σ 5 8)]
def flO13 (cI : ClassId) (ad : Nat → Nat) (pa pl : Nat) (σ : Sg) : List Value := [.int (σ 13 0), .ref (ad 14), .ref (ad 15), .ref (ad 16), .ref (ad 17), .ref (ad 18)]
def flO19 (cI : ClassId) (ad : Nat → Nat) (pa pl : Nat) (σ : Sg) : List Value := [.ref (ad 20), .ref (ad 21), .ref (ad 22), .ref (ad 23), .ref (ad 24), .ref (ad 25)]
def flO26 (cI : ClassId) (ad : Nat → Nat) (pa pl : Nat) (σ : Sg) : List Value := [.ref (ad 27), .ref (ad 28), .ref (ad 29)]
def flO30 (cI : ClassId) (ad : Nat → Nat) (pa pl : Nat) (σ : Sg) : List Value := [.int (σ 30 0), .ref (ad 31), .ref (ad 32), .ref (ad 33)]
def flO34 (cI : ClassId) (ad : Nat → Nat) (pa pl : Nat) (σ : Sg) : List Value := [.int (σ 34 0), .int (σ 34 1), .ref (ad 35)]
def flO36 (cI : ClassId) (ad : Nat → Nat) (pa pl : Nat) (σ : Sg) : List Value := [.ref (ad 37), .int (σ 36 1)]
def wO (cI : ClassId) (ad : Nat → Nat) (pa pl : Nat) (σ : Sg) : va_W := [((ad 0), .inr (6, flO0 cI ad pa pl σ)), ((ad 1), .inl (cI, 6, .inl (σ 1))), ((ad 2), .inl (cI, 6, .inl (σ 2))), ((ad 3), .inl (cI, 6, .inl (σ 3))), ((ad 4), .inl (cI, 6, .inl (σ 4))), ((ad 5), .inr (0, flO5 cI ad pa pl σ)), ((ad 6), .inl (cI, 36, .inl (σ 6))), ((ad 7), .inl (cI, 36, .inl (σ 7))), ((ad 8), .inl (cI, 36, .inl (σ 8))), ((ad 9), .inl (cI, 36, .inl (σ 9))), (pa, .inl (cI, pl, .inl (σ 10))), ((ad 11), .inl (cI, 36, .inl (σ 11))), ((ad 12), .inl (cI, 36, .inl (σ 12))), ((ad 13), .inr (5, flO13 cI ad pa pl σ)), ((ad 14), .inl (cI, 20, .inl (σ 14))), ((ad 15), .inl (cI, 20, .inl (σ 15))), ((ad 16), .inl (cI, 20, .inl (σ 16))), ((ad 17), .inl (cI, 20, .inl (σ 17))), ((ad 18), .inl (cI, 20, .inl (σ 18))), ((ad 19), .inr (3, flO19 cI ad pa pl σ)), ((ad 20), .inl (cI, 120, .inl (σ 20))), ((ad 21), .inl (cI, 120, .inl (σ 21))), ((ad 22), .inl (cI, 120, .inl (σ 22))), ((ad 23), .inl (cI, 120, .inl (σ 23))), ((ad 24), .inl (cI, 120, .inl (σ 24))), ((ad 25), .inl (cI, 6, .inl (σ 25))), ((ad 26), .inr (2, flO26 cI ad pa pl σ)), ((ad 27), .inl (cI, 120, .inl (σ 27))), ((ad 28), .inl (cI, 120, .inl (σ 28))), ((ad 29), .inl (cI, 120, .inl (σ 29))), ((ad 30), .inr (1, flO30 cI ad pa pl σ)), ((ad 31), .inl (cI, 8, .inl (σ 31))), ((ad 32), .inl (cI, 8, .inl (σ 32))), ((ad 33), .inl (cI, 8, .inl (σ 33))), ((ad 34), .inr (4, flO34 cI ad pa pl σ)), ((ad 35), .inl (cI, 240, .inl (σ 35))), ((ad 36), .inr (7, flO36 cI ad pa pl σ)), ((ad 37), .inl (cI, 20, .inl (σ 37)))]
theorem oO0 (cI : ClassId) (ad : Nat → Nat) (pa pl : Nat) : objAt (wO cI ad pa pl) 0 (ad 0) 6 (flO0 cI ad pa pl) := fun _ => rfl
theorem iO0_0 (cI : ClassId) (ad : Nat → Nat) (pa pl : Nat) : intAt (wO cI ad pa pl) 0 (ad 0) 6 (flO0 cI ad pa pl) 0 := ⟨fun _ => rfl, fun _ _ => rfl⟩
theorem iO0_1 (cI : ClassId) (ad : Nat → Nat) (pa pl : Nat) : intAt (wO cI ad pa pl) 0 (ad 0) 6 (flO0 cI ad pa pl) 1 := ⟨fun _ => rfl, fun _ _ => rfl⟩
theorem iO0_2 (cI : ClassId) (ad : Nat → Nat) (pa pl : Nat) : intAt (wO cI ad pa pl) 0 (ad 0) 6 (flO0 cI ad pa pl) 2 := ⟨fun _ => rfl, fun _ _ => rfl⟩
theorem iO0_3 (cI : ClassId) (ad : Nat → Nat) (pa pl : Nat) : intAt (wO cI ad pa pl) 0 (ad 0) 6 (flO0 cI ad pa pl) 3 := ⟨fun _ => rfl, fun _ _ => rfl⟩
theorem iO0_4 (cI : ClassId) (ad : Nat → Nat) (pa pl : Nat) : intAt (wO cI ad pa pl) 0 (ad 0) 6 (flO0 cI ad pa pl) 4 := ⟨fun _ => rfl, fun _ _ => rfl⟩
theorem iO0_5 (cI : ClassId) (ad : Nat → Nat) (pa pl : Nat) : intAt (wO cI ad pa pl) 0 (ad 0) 6 (flO0 cI ad pa pl) 5 := ⟨fun _ => rfl, fun _ _ => rfl⟩
theorem iO0_6 (cI : ClassId) (ad : Nat → Nat) (pa pl : Nat) : intAt (wO cI ad pa pl) 0 (ad 0) 6 (flO0 cI ad pa pl) 6 := ⟨fun _ => rfl, fun _ _ => rfl⟩
theorem iO0_7 (cI : ClassId) (ad : Nat → Nat) (pa pl : Nat) : intAt (wO cI ad pa pl) 0 (ad 0) 6 (flO0 cI ad pa pl) 7 := ⟨fun _ => rfl, fun _ _ => rfl⟩
theorem iO0_8 (cI : ClassId) (ad : Nat → Nat) (pa pl : Nat) : intAt (wO cI ad pa pl) 0 (ad 0) 6 (flO0 cI ad pa pl) 8 := ⟨fun _ => rfl, fun _ _ => rfl⟩
theorem aO1 (cI : ClassId) (ad : Nat → Nat) (pa pl : Nat) : arrAt (wO cI ad pa pl) 1 (ad 1) cI 6 := ⟨fun _ => rfl, fun _ _ => rfl⟩
theorem aO2 (cI : ClassId) (ad : Nat → Nat) (pa pl : Nat) : arrAt (wO cI ad pa pl) 2 (ad 2) cI 6 := ⟨fun _ => rfl, fun _ _ => rfl⟩
theorem aO3 (cI : ClassId) (ad : Nat → Nat) (pa pl : Nat) : arrAt (wO cI ad pa pl) 3 (ad 3) cI 6 := ⟨fun _ => rfl, fun _ _ => rfl⟩
theorem aO4 (cI : ClassId) (ad : Nat → Nat) (pa pl : Nat) : arrAt (wO cI ad pa pl) 4 (ad 4) cI 6 := ⟨fun _ => rfl, fun _ _ => rfl⟩
theorem oO5 (cI : ClassId) (ad : Nat → Nat) (pa pl : Nat) : objAt (wO cI ad pa pl) 5 (ad 5) 0 (flO5 cI ad pa pl) := fun _ => rfl
theorem iO5_7 (cI : ClassId) (ad : Nat → Nat) (pa pl : Nat) : intAt (wO cI ad pa pl) 5 (ad 5) 0 (flO5 cI ad pa pl) 7 := ⟨fun _ => rfl, fun _ _ => rfl⟩
theorem iO5_8 (cI : ClassId) (ad : Nat → Nat) (pa pl : Nat) : intAt (wO cI ad pa pl) 5 (ad 5) 0 (flO5 cI ad pa pl) 8 := ⟨fun _ => rfl, fun _ _ => rfl⟩
theorem aO6 (cI : ClassId) (ad : Nat → Nat) (pa pl : Nat) : arrAt (wO cI ad pa pl) 6 (ad 6) cI 36 := ⟨fun _ => rfl, fun _ _ => rfl⟩
theorem aO7 (cI : ClassId) (ad : Nat → Nat) (pa pl : Nat) : arrAt (wO cI ad pa pl) 7 (ad 7) cI 36 := ⟨fun _ => rfl, fun _ _ => rfl⟩
theorem aO8 (cI : ClassId) (ad : Nat → Nat) (pa pl : Nat) : arrAt (wO cI ad pa pl) 8 (ad 8) cI 36 := ⟨fun _ => rfl, fun _ _ => rfl⟩
theorem aO9 (cI : ClassId) (ad : Nat → Nat) (pa pl : Nat) : arrAt (wO cI ad pa pl) 9 (ad 9) cI 36 := ⟨fun _ => rfl, fun _ _ => rfl⟩
theorem aO10 (cI : ClassId) (ad : Nat → Nat) (pa pl : Nat) : arrAt (wO cI ad pa pl) 10 pa cI pl := ⟨fun _ => rfl, fun _ _ => rfl⟩
theorem aO11 (cI : ClassId) (ad : Nat → Nat) (pa pl : Nat) : arrAt (wO cI ad pa pl) 11 (ad 11) cI 36 := ⟨fun _ => rfl, fun _ _ => rfl⟩
theorem aO12 (cI : ClassId) (ad : Nat → Nat) (pa pl : Nat) : arrAt (wO cI ad pa pl) 12 (ad 12) cI 36 := ⟨fun _ => rfl, fun _ _ => rfl⟩
theorem oO13 (cI : ClassId) (ad : Nat → Nat) (pa pl : Nat) : objAt (wO cI ad pa pl) 13 (ad 13) 5 (flO13 cI ad pa pl) := fun _ => rfl
theorem iO13_0 (cI : ClassId) (ad : Nat → Nat) (pa pl : Nat) : intAt (wO cI ad pa pl) 13 (ad 13) 5 (flO13 cI ad pa pl) 0 := ⟨fun _ => rfl, fun _ _ => rfl⟩
theorem aO14 (cI : ClassId) (ad : Nat → Nat) (pa pl : Nat) : arrAt (wO cI ad pa pl) 14 (ad 14) cI 20 := ⟨fun _ => rfl, fun _ _ => rfl⟩
theorem aO15 (cI : ClassId) (ad : Nat → Nat) (pa pl : Nat) : arrAt (wO cI ad pa pl) 15 (ad 15) cI 20 := ⟨fun _ => rfl, fun _ _ => rfl⟩
theorem aO16 (cI : ClassId) (ad : Nat → Nat) (pa pl : Nat) : arrAt (wO cI ad pa pl) 16 (ad 16) cI 20 := ⟨fun _ => rfl, fun _ _ => rfl⟩
theorem aO17 (cI : ClassId) (ad : Nat → Nat) (pa pl : Nat) : arrAt (wO cI ad pa pl) 17 (ad 17) cI 20 := ⟨fun _ => rfl, fun _ _ => rfl⟩
theorem aO18 (cI : ClassId) (ad : Nat → Nat) (pa pl : Nat) : arrAt (wO cI ad pa pl) 18 (ad 18) cI 20 := ⟨fun _ => rfl, fun _ _ => rfl⟩
theorem oO19 (cI : ClassId) (ad : Nat → Nat) (pa pl : Nat) : objAt (wO cI ad pa pl) 19 (ad 19) 3 (flO19 cI ad pa pl) := fun _ => rfl
theorem aO20 (cI : ClassId) (ad : Nat → Nat) (pa pl : Nat) : arrAt (wO cI ad pa pl) 20 (ad 20) cI 120 := ⟨fun _ => rfl, fun _ _ => rfl⟩
theorem aO21 (cI : ClassId) (ad : Nat → Nat) (pa pl : Nat) : arrAt (wO cI ad pa pl) 21 (ad 21) cI 120 := ⟨fun _ => rfl, fun _ _ => rfl⟩
theorem aO22 (cI : ClassId) (ad : Nat → Nat) (pa pl : Nat) : arrAt (wO cI ad pa pl) 22 (ad 22) cI 120 := ⟨fun _ => rfl, fun _ _ => rfl⟩
theorem aO23 (cI : ClassId) (ad : Nat → Nat) (pa pl : Nat) : arrAt (wO cI ad pa pl) 23 (ad 23) cI 120 := ⟨fun _ => rfl, fun _ _ => rfl⟩
theorem aO24 (cI : ClassId) (ad : Nat → Nat) (pa pl : Nat) : arrAt (wO cI ad pa pl) 24 (ad 24) cI 120 := ⟨fun _ => rfl, fun _ _ => rfl⟩
theorem aO25 (cI : ClassId) (ad : Nat → Nat) (pa pl : Nat) : arrAt (wO cI ad pa pl) 25 (ad 25) cI 6 := ⟨fun _ => rfl, fun _ _ => rfl⟩
theorem oO26 (cI : ClassId) (ad : Nat → Nat) (pa pl : Nat) : objAt (wO cI ad pa pl) 26 (ad 26) 2 (flO26 cI ad pa pl) := fun _ => rfl
theorem aO27 (cI : ClassId) (ad : Nat → Nat) (pa pl : Nat) : arrAt (wO cI ad pa pl) 27 (ad 27) cI 120 := ⟨fun _ => rfl, fun _ _ => rfl⟩
theorem aO28 (cI : ClassId) (ad : Nat → Nat) (pa pl : Nat) : arrAt (wO cI ad pa pl) 28 (ad 28) cI 120 := ⟨fun _ => rfl, fun _ _ => rfl⟩
theorem aO29 (cI : ClassId) (ad : Nat → Nat) (pa pl : Nat) : arrAt (wO cI ad pa pl) 29 (ad 29) cI 120 := ⟨fun _ => rfl, fun _ _ => rfl⟩
theorem oO30 (cI : ClassId) (ad : Nat → Nat) (pa pl : Nat) : objAt (wO cI ad pa pl) 30 (ad 30) 1 (flO30 cI ad pa pl) := fun _ => rfl
theorem iO30_0 (cI : ClassId) (ad : Nat → Nat) (pa pl : Nat) : intAt (wO cI ad pa pl) 30 (ad 30) 1 (flO30 cI ad pa pl) 0 := ⟨fun _ => rfl, fun _ _ => rfl⟩
theorem aO31 (cI : ClassId) (ad : Nat → Nat) (pa pl : Nat) : arrAt (wO cI ad pa pl) 31 (ad 31) cI 8 := ⟨fun _ => rfl, fun _ _ => rfl⟩
theorem aO32 (cI : ClassId) (ad : Nat → Nat) (pa pl : Nat) : arrAt (wO cI ad pa pl) 32 (ad 32) cI 8 := ⟨fun _ => rfl, fun _ _ => rfl⟩
theorem aO33 (cI : ClassId) (ad : Nat → Nat) (pa pl : Nat) : arrAt (wO cI ad pa pl) 33 (ad 33) cI 8 := ⟨fun _ => rfl, fun _ _ => rfl⟩
theorem oO34 (cI : ClassId) (ad : Nat → Nat) (pa pl : Nat) : objAt (wO cI ad pa pl) 34 (ad 34) 4 (flO34 cI ad pa pl) := fun _ => rfl
theorem iO34_0 (cI : ClassId) (ad : Nat → Nat) (pa pl : Nat) : intAt (wO cI ad pa pl) 34 (ad 34) 4 (flO34 cI ad pa pl) 0 := ⟨fun _ => rfl, fun _ _ => rfl⟩
theorem iO34_1 (cI : ClassId) (ad : Nat → Nat) (pa pl : Nat) : intAt (wO cI ad pa pl) 34 (ad 34) 4 (flO34 cI ad pa pl) 1 := ⟨fun _ => rfl, fun _ _ => rfl⟩
theorem aO35 (cI : ClassId) (ad : Nat → Nat) (pa pl : Nat) : arrAt (wO cI ad pa pl) 35 (ad 35) cI 240 := ⟨fun _ => rfl, fun _ _ => rfl⟩
theorem oO36 (cI : ClassId) (ad : Nat → Nat) (pa pl : Nat) : objAt (wO cI ad pa pl) 36 (ad 36) 7 (flO36 cI ad pa pl) := fun _ => rfl
theorem iO36_1 (cI : ClassId) (ad : Nat → Nat) (pa pl : Nat) : intAt (wO cI ad pa pl) 36 (ad 36) 7 (flO36 cI ad pa pl) 1 := ⟨fun _ => rfl, fun _ _ => rfl⟩
theorem aO37 (cI : ClassId) (ad : Nat → Nat) (pa pl : Nat) : arrAt (wO cI ad pa pl) 37 (ad 37) cI 20 := ⟨fun _ => rfl, fun _ _ => rfl⟩
theorem iwX8 : ∀ w ∈ u_ws RX8 TX8 2, w ∈ gw := by
  intro w hw
  obtain ⟨k, hk, rfl⟩ := List.mem_map.mp hw
  have hk := List.mem_range.mp hk
  rcases (show k = 0 ∨ k = 1 by omega) with rfl | rfl
  · exact gw_t1 82 rfl rfl
  · exact gw_t1 84 rfl rfl
theorem mw_637 : Cond.fieldLink RX8 9 "LeastPending$Order" "isBefore" "[I" ∈ gw := gw_t1 80 rfl rfl
theorem mw_638 : Cond.fieldLink RX8 15 "LeastPending$Order" "all" "I" ∈ gw := gw_t1 81 rfl rfl
theorem mw_639 : Cond.fieldLink RX8 25 "LeastPending$Net" "nodeCount" "I" ∈ gw := gw_t2 48 rfl rfl
theorem mw_640 : Cond.fieldLink RX8 30 "LeastPending$Net" "holdings" "LLeastPending$Holdings;" ∈ gw := gw_t2 89 rfl rfl
theorem mw_641 : Cond.fieldLink RX8 34 "LeastPending$Holdings" "handedOut" "[I" ∈ gw := gw_t1 203 rfl rfl
theorem mw_642 : Cond.fieldLink RX8 39 "LeastPending$Holdings" "order" "[I" ∈ gw := gw_t1 199 rfl rfl
theorem mw_643 : Cond.methodLink RX8 19 yJ7_fill_53178 ∈ gw := gw_t2 187 rfl rfl
theorem mw_644 : Cond.static yJ7_fill_53178 ∈ gw := gw_t1 95 rfl rfl
theorem mw_645 : Cond.code yJ7_fill_53178 cJ7_fill_53178 4 none ∈ gw := gw_t1 96 rfl rfl
theorem mw_646 : Cond.code yX8_isAhead cX8_isAhead 3 (some .boolean) ∈ gw := gw_t2 209 rfl rfl
theorem mw_647 : Cond.initialized RX8 ∈ gw := gw_t1 4 rfl rfl
theorem mw_648 : Cond.instanceMethod yX8_isAhead ∈ gw := gw_t2 207 rfl rfl
theorem mw_649 : Cond.methodLink RX8 57 yX8_isAhead ∈ gw := gw_t2 206 rfl rfl
theorem mw_650 : Cond.selects RX8 yX8_isAhead yX8_isAhead ∈ gw := gw_t2 208 rfl rfl
theorem mw_651 : Cond.code yX8_isBehindOne cX8_isBehindOne 4 (some .boolean) ∈ gw := gw_t2 205 rfl rfl
theorem mw_652 : Cond.instanceMethod yX8_isBehindOne ∈ gw := gw_t2 204 rfl rfl
theorem mw_653 : Cond.methodLink RX8 54 yX8_isBehindOne ∈ gw := gw_t2 202 rfl rfl
theorem mw_654 : Cond.selects RX8 yX8_isBehindOne yX8_isBehindOne ∈ gw := gw_pv (n := 2) (List.mem_of_getElem? (i := 1) rfl)
theorem mw_655 : Cond.code yX8_nextOf cX8_nextOf 4 (some .int) ∈ gw := gw_t2 201 rfl rfl
theorem mw_656 : Cond.instanceMethod yX8_nextOf ∈ gw := gw_t2 200 rfl rfl
theorem mw_657 : Cond.methodLink RX8 50 yX8_nextOf ∈ gw := gw_t2 198 rfl rfl
theorem mw_658 : Cond.selects RX8 yX8_nextOf yX8_nextOf ∈ gw := gw_pv (n := 2) (List.mem_of_getElem? (i := 0) rfl)
theorem hdX8_isAhead : yX8_isAhead.cls = RX8 ∧ yX8_isAhead.cls ≠ "java/lang/invoke/MethodHandle" ∧ yX8_isAhead.cls ≠ "java/lang/invoke/VarHandle" ∧ (parseMethodDescriptor yX8_isAhead.desc).map (fun d => d.parameters.length) = some 2 := by decide +kernel
theorem hdX8_isBehindOne : yX8_isBehindOne.cls = RX8 ∧ yX8_isBehindOne.cls ≠ "java/lang/invoke/MethodHandle" ∧ yX8_isBehindOne.cls ≠ "java/lang/invoke/VarHandle" ∧ (parseMethodDescriptor yX8_isBehindOne.desc).map (fun d => d.parameters.length) = some 2 := by decide +kernel
theorem hdX8_nextOf : yX8_nextOf.cls = RX8 ∧ yX8_nextOf.cls ≠ "java/lang/invoke/MethodHandle" ∧ yX8_nextOf.cls ≠ "java/lang/invoke/VarHandle" ∧ (parseMethodDescriptor yX8_nextOf.desc).map (fun d => d.parameters.length) = some 1 := by decide +kernel
theorem dX8_read_0 : decode cX8_read 0 = .ok (.aload_n 0, 1) := by decide +kernel
theorem dX8_read_1 : decode cX8_read 1 = .ok (.getfield 9, 3) := by decide +kernel
theorem dX8_read_4 : decode cX8_read 4 = .ok (.iconst 0, 1) := by decide +kernel
theorem dX8_read_5 : decode cX8_read 5 = .ok (.invokestatic 19, 3) := by decide +kernel
theorem dX8_read_8 : decode cX8_read 8 = .ok (.aload_n 0, 1) := by decide +kernel
theorem dX8_read_9 : decode cX8_read 9 = .ok (.iconst 0, 1) := by decide +kernel
theorem dX8_read_10 : decode cX8_read 10 = .ok (.putfield 15, 3) := by decide +kernel
theorem dX8_read_13 : decode cX8_read 13 = .ok (.iconst 0, 1) := by decide +kernel
theorem dX8_read_14 : decode cX8_read 14 = .ok (.istore_n 2, 1) := by decide +kernel
theorem dX8_read_15 : decode cX8_read 15 = .ok (.iload_n 2, 1) := by decide +kernel
theorem dX8_read_16 : decode cX8_read 16 = .ok (.aload_n 1, 1) := by decide +kernel
theorem dX8_read_17 : decode cX8_read 17 = .ok (.getfield 25, 3) := by decide +kernel
theorem dX8_read_20 : decode cX8_read 20 = .ok (.if_icmp .ge 79, 3) := by decide +kernel
theorem dX8_read_23 : decode cX8_read 23 = .ok (.iconst 0, 1) := by decide +kernel
theorem dX8_read_24 : decode cX8_read 24 = .ok (.istore_n 3, 1) := by decide +kernel
theorem dX8_read_25 : decode cX8_read 25 = .ok (.aload_n 1, 1) := by decide +kernel
theorem dX8_read_26 : decode cX8_read 26 = .ok (.getfield 30, 3) := by decide +kernel
theorem dX8_read_29 : decode cX8_read 29 = .ok (.getfield 34, 3) := by decide +kernel
theorem dX8_read_32 : decode cX8_read 32 = .ok (.iload_n 2, 1) := by decide +kernel
theorem dX8_read_33 : decode cX8_read 33 = .ok (.iaload, 1) := by decide +kernel
theorem dX8_read_34 : decode cX8_read 34 = .ok (.iconst 1, 1) := by decide +kernel
theorem dX8_read_35 : decode cX8_read 35 = .ok (.isub, 1) := by decide +kernel
theorem dX8_read_36 : decode cX8_read 36 = .ok (.istore 4, 2) := by decide +kernel
theorem dX8_read_38 : decode cX8_read 38 = .ok (.iload 4, 2) := by decide +kernel
theorem dX8_read_40 : decode cX8_read 40 = .ok (.ifCond .lt 43, 3) := by decide +kernel
theorem dX8_read_43 : decode cX8_read 43 = .ok (.aload_n 1, 1) := by decide +kernel
theorem dX8_read_44 : decode cX8_read 44 = .ok (.getfield 30, 3) := by decide +kernel
theorem dX8_read_47 : decode cX8_read 47 = .ok (.getfield 39, 3) := by decide +kernel
theorem dX8_read_50 : decode cX8_read 50 = .ok (.iload_n 2, 1) := by decide +kernel
theorem dX8_read_51 : decode cX8_read 51 = .ok (.iload 4, 2) := by decide +kernel
theorem dX8_read_53 : decode cX8_read 53 = .ok (.invokestatic 42, 3) := by decide +kernel
theorem dX8_read_56 : decode cX8_read 56 = .ok (.iaload, 1) := by decide +kernel
theorem dX8_read_57 : decode cX8_read 57 = .ok (.istore 5, 2) := by decide +kernel
theorem dX8_read_59 : decode cX8_read 59 = .ok (.aload_n 0, 1) := by decide +kernel
theorem dX8_read_60 : decode cX8_read 60 = .ok (.getfield 9, 3) := by decide +kernel
theorem dX8_read_63 : decode cX8_read 63 = .ok (.iload 5, 2) := by decide +kernel
theorem dX8_read_65 : decode cX8_read 65 = .ok (.dup2, 1) := by decide +kernel
theorem dX8_read_66 : decode cX8_read 66 = .ok (.iaload, 1) := by decide +kernel
theorem dX8_read_67 : decode cX8_read 67 = .ok (.iload_n 3, 1) := by decide +kernel
theorem dX8_read_68 : decode cX8_read 68 = .ok (.ior, 1) := by decide +kernel
theorem dX8_read_69 : decode cX8_read 69 = .ok (.iastore, 1) := by decide +kernel
theorem dX8_read_70 : decode cX8_read 70 = .ok (.iload_n 3, 1) := by decide +kernel
theorem dX8_read_71 : decode cX8_read 71 = .ok (.iconst 1, 1) := by decide +kernel
theorem dX8_read_72 : decode cX8_read 72 = .ok (.iload 5, 2) := by decide +kernel
theorem dX8_read_74 : decode cX8_read 74 = .ok (.ishl, 1) := by decide +kernel
theorem dX8_read_75 : decode cX8_read 75 = .ok (.ior, 1) := by decide +kernel
theorem dX8_read_76 : decode cX8_read 76 = .ok (.istore_n 3, 1) := by decide +kernel
theorem dX8_read_77 : decode cX8_read 77 = .ok (.iinc 4 (-1), 3) := by decide +kernel
theorem dX8_read_80 : decode cX8_read 80 = .ok (.goto (-42), 3) := by decide +kernel
theorem dX8_read_83 : decode cX8_read 83 = .ok (.aload_n 0, 1) := by decide +kernel
theorem dX8_read_84 : decode cX8_read 84 = .ok (.dup, 1) := by decide +kernel
theorem dX8_read_85 : decode cX8_read 85 = .ok (.getfield 15, 3) := by decide +kernel
theorem dX8_read_88 : decode cX8_read 88 = .ok (.iload_n 3, 1) := by decide +kernel
theorem dX8_read_89 : decode cX8_read 89 = .ok (.ior, 1) := by decide +kernel
theorem dX8_read_90 : decode cX8_read 90 = .ok (.putfield 15, 3) := by decide +kernel
theorem dX8_read_93 : decode cX8_read 93 = .ok (.iinc 2 1, 3) := by decide +kernel
theorem dX8_read_96 : decode cX8_read 96 = .ok (.goto (-81), 3) := by decide +kernel
theorem dX8_read_99 : decode cX8_read 99 = .ok (.iconst 0, 1) := by decide +kernel
theorem dX8_read_100 : decode cX8_read 100 = .ok (.istore_n 2, 1) := by decide +kernel
theorem dX8_read_101 : decode cX8_read 101 = .ok (.iload_n 2, 1) := by decide +kernel
theorem dX8_read_102 : decode cX8_read 102 = .ok (.bipush 20, 2) := by decide +kernel
theorem dX8_read_104 : decode cX8_read 104 = .ok (.if_icmp .ge 51, 3) := by decide +kernel
theorem dX8_read_107 : decode cX8_read 107 = .ok (.iconst 0, 1) := by decide +kernel
theorem dX8_read_108 : decode cX8_read 108 = .ok (.istore_n 3, 1) := by decide +kernel
theorem dX8_read_109 : decode cX8_read 109 = .ok (.iload_n 3, 1) := by decide +kernel
theorem dX8_read_110 : decode cX8_read 110 = .ok (.bipush 20, 2) := by decide +kernel
theorem dX8_read_112 : decode cX8_read 112 = .ok (.if_icmp .ge 37, 3) := by decide +kernel
theorem dX8_read_115 : decode cX8_read 115 = .ok (.aload_n 0, 1) := by decide +kernel
theorem dX8_read_116 : decode cX8_read 116 = .ok (.getfield 9, 3) := by decide +kernel
theorem dX8_read_119 : decode cX8_read 119 = .ok (.iload_n 3, 1) := by decide +kernel
theorem dX8_read_120 : decode cX8_read 120 = .ok (.iaload, 1) := by decide +kernel
theorem dX8_read_121 : decode cX8_read 121 = .ok (.iload_n 2, 1) := by decide +kernel
theorem dX8_read_122 : decode cX8_read 122 = .ok (.invokestatic 46, 3) := by decide +kernel
theorem dX8_read_125 : decode cX8_read 125 = .ok (.ifCond .eq 18, 3) := by decide +kernel
theorem dX8_read_128 : decode cX8_read 128 = .ok (.aload_n 0, 1) := by decide +kernel
theorem dX8_read_129 : decode cX8_read 129 = .ok (.getfield 9, 3) := by decide +kernel
theorem dX8_read_132 : decode cX8_read 132 = .ok (.iload_n 3, 1) := by decide +kernel
theorem dX8_read_133 : decode cX8_read 133 = .ok (.dup2, 1) := by decide +kernel
theorem dX8_read_134 : decode cX8_read 134 = .ok (.iaload, 1) := by decide +kernel
theorem dX8_read_135 : decode cX8_read 135 = .ok (.aload_n 0, 1) := by decide +kernel
theorem dX8_read_136 : decode cX8_read 136 = .ok (.getfield 9, 3) := by decide +kernel
theorem dX8_read_139 : decode cX8_read 139 = .ok (.iload_n 2, 1) := by decide +kernel
theorem dX8_read_140 : decode cX8_read 140 = .ok (.iaload, 1) := by decide +kernel
theorem dX8_read_141 : decode cX8_read 141 = .ok (.ior, 1) := by decide +kernel
theorem dX8_read_142 : decode cX8_read 142 = .ok (.iastore, 1) := by decide +kernel
theorem dX8_read_143 : decode cX8_read 143 = .ok (.iinc 3 1, 3) := by decide +kernel
theorem dX8_read_146 : decode cX8_read 146 = .ok (.goto (-37), 3) := by decide +kernel
theorem dX8_read_149 : decode cX8_read 149 = .ok (.iinc 2 1, 3) := by decide +kernel
theorem dX8_read_152 : decode cX8_read 152 = .ok (.goto (-51), 3) := by decide +kernel
theorem dX8_read_155 : decode cX8_read 155 = .ok (.return_, 1) := by decide +kernel
theorem dX8_isAhead_0 : decode cX8_isAhead 0 = .ok (.aload_n 0, 1) := by decide +kernel
theorem dX8_isAhead_1 : decode cX8_isAhead 1 = .ok (.getfield 9, 3) := by decide +kernel
theorem dX8_isAhead_4 : decode cX8_isAhead 4 = .ok (.iload_n 1, 1) := by decide +kernel
theorem dX8_isAhead_5 : decode cX8_isAhead 5 = .ok (.iaload, 1) := by decide +kernel
theorem dX8_isAhead_6 : decode cX8_isAhead 6 = .ok (.iload_n 2, 1) := by decide +kernel
theorem dX8_isAhead_7 : decode cX8_isAhead 7 = .ok (.invokestatic 46, 3) := by decide +kernel
theorem dX8_isAhead_10 : decode cX8_isAhead 10 = .ok (.ireturn, 1) := by decide +kernel
theorem dX8_isBehindOne_0 : decode cX8_isBehindOne 0 = .ok (.iconst 0, 1) := by decide +kernel
theorem dX8_isBehindOne_1 : decode cX8_isBehindOne 1 = .ok (.istore_n 3, 1) := by decide +kernel
theorem dX8_isBehindOne_2 : decode cX8_isBehindOne 2 = .ok (.iload_n 3, 1) := by decide +kernel
theorem dX8_isBehindOne_3 : decode cX8_isBehindOne 3 = .ok (.bipush 20, 2) := by decide +kernel
theorem dX8_isBehindOne_5 : decode cX8_isBehindOne 5 = .ok (.if_icmp .ge 33, 3) := by decide +kernel
theorem dX8_isBehindOne_8 : decode cX8_isBehindOne 8 = .ok (.iload_n 3, 1) := by decide +kernel
theorem dX8_isBehindOne_9 : decode cX8_isBehindOne 9 = .ok (.iload_n 1, 1) := by decide +kernel
theorem dX8_isBehindOne_10 : decode cX8_isBehindOne 10 = .ok (.if_icmp .eq 22, 3) := by decide +kernel
theorem dX8_isBehindOne_13 : decode cX8_isBehindOne 13 = .ok (.iload_n 2, 1) := by decide +kernel
theorem dX8_isBehindOne_14 : decode cX8_isBehindOne 14 = .ok (.iload_n 3, 1) := by decide +kernel
theorem dX8_isBehindOne_15 : decode cX8_isBehindOne 15 = .ok (.invokestatic 46, 3) := by decide +kernel
theorem dX8_isBehindOne_18 : decode cX8_isBehindOne 18 = .ok (.ifCond .eq 14, 3) := by decide +kernel
theorem dX8_isBehindOne_21 : decode cX8_isBehindOne 21 = .ok (.aload_n 0, 1) := by decide +kernel
theorem dX8_isBehindOne_22 : decode cX8_isBehindOne 22 = .ok (.iload_n 3, 1) := by decide +kernel
theorem dX8_isBehindOne_23 : decode cX8_isBehindOne 23 = .ok (.iload_n 1, 1) := by decide +kernel
theorem dX8_isBehindOne_24 : decode cX8_isBehindOne 24 = .ok (.invokevirtual 57, 3) := by decide +kernel
theorem dX8_isBehindOne_27 : decode cX8_isBehindOne 27 = .ok (.ifCond .eq 5, 3) := by decide +kernel
theorem dX8_isBehindOne_30 : decode cX8_isBehindOne 30 = .ok (.iconst 1, 1) := by decide +kernel
theorem dX8_isBehindOne_31 : decode cX8_isBehindOne 31 = .ok (.ireturn, 1) := by decide +kernel
theorem dX8_isBehindOne_32 : decode cX8_isBehindOne 32 = .ok (.iinc 3 1, 3) := by decide +kernel
theorem dX8_isBehindOne_35 : decode cX8_isBehindOne 35 = .ok (.goto (-33), 3) := by decide +kernel
theorem dX8_isBehindOne_38 : decode cX8_isBehindOne 38 = .ok (.iconst 0, 1) := by decide +kernel
theorem dX8_isBehindOne_39 : decode cX8_isBehindOne 39 = .ok (.ireturn, 1) := by decide +kernel
theorem dX8_nextOf_0 : decode cX8_nextOf 0 = .ok (.iconst (-1), 1) := by decide +kernel
theorem dX8_nextOf_1 : decode cX8_nextOf 1 = .ok (.istore_n 2, 1) := by decide +kernel
theorem dX8_nextOf_2 : decode cX8_nextOf 2 = .ok (.bipush 19, 2) := by decide +kernel
theorem dX8_nextOf_4 : decode cX8_nextOf 4 = .ok (.istore_n 3, 1) := by decide +kernel
theorem dX8_nextOf_5 : decode cX8_nextOf 5 = .ok (.iload_n 3, 1) := by decide +kernel
theorem dX8_nextOf_6 : decode cX8_nextOf 6 = .ok (.ifCond .lt 19, 3) := by decide +kernel
theorem dX8_nextOf_9 : decode cX8_nextOf 9 = .ok (.iload_n 1, 1) := by decide +kernel
theorem dX8_nextOf_10 : decode cX8_nextOf 10 = .ok (.iload_n 3, 1) := by decide +kernel
theorem dX8_nextOf_11 : decode cX8_nextOf 11 = .ok (.invokestatic 46, 3) := by decide +kernel
theorem dX8_nextOf_14 : decode cX8_nextOf 14 = .ok (.ifCond .eq 5, 3) := by decide +kernel
theorem dX8_nextOf_17 : decode cX8_nextOf 17 = .ok (.iload_n 3, 1) := by decide +kernel
theorem dX8_nextOf_18 : decode cX8_nextOf 18 = .ok (.istore_n 2, 1) := by decide +kernel
theorem dX8_nextOf_19 : decode cX8_nextOf 19 = .ok (.iinc 3 (-1), 3) := by decide +kernel
theorem dX8_nextOf_22 : decode cX8_nextOf 22 = .ok (.goto (-17), 3) := by decide +kernel
theorem dX8_nextOf_25 : decode cX8_nextOf 25 = .ok (.iconst 0, 1) := by decide +kernel
theorem dX8_nextOf_26 : decode cX8_nextOf 26 = .ok (.istore_n 3, 1) := by decide +kernel
theorem dX8_nextOf_27 : decode cX8_nextOf 27 = .ok (.iload_n 3, 1) := by decide +kernel
theorem dX8_nextOf_28 : decode cX8_nextOf 28 = .ok (.bipush 20, 2) := by decide +kernel
theorem dX8_nextOf_30 : decode cX8_nextOf 30 = .ok (.if_icmp .ge 28, 3) := by decide +kernel
theorem dX8_nextOf_33 : decode cX8_nextOf 33 = .ok (.iload_n 1, 1) := by decide +kernel
theorem dX8_nextOf_34 : decode cX8_nextOf 34 = .ok (.iload_n 3, 1) := by decide +kernel
theorem dX8_nextOf_35 : decode cX8_nextOf 35 = .ok (.invokestatic 46, 3) := by decide +kernel
theorem dX8_nextOf_38 : decode cX8_nextOf 38 = .ok (.ifCond .eq 14, 3) := by decide +kernel
theorem dX8_nextOf_41 : decode cX8_nextOf 41 = .ok (.aload_n 0, 1) := by decide +kernel
theorem dX8_nextOf_42 : decode cX8_nextOf 42 = .ok (.iload_n 3, 1) := by decide +kernel
theorem dX8_nextOf_43 : decode cX8_nextOf 43 = .ok (.iload_n 1, 1) := by decide +kernel
theorem dX8_nextOf_44 : decode cX8_nextOf 44 = .ok (.invokevirtual 54, 3) := by decide +kernel
theorem dX8_nextOf_47 : decode cX8_nextOf 47 = .ok (.ifCond .ne 5, 3) := by decide +kernel
theorem dX8_nextOf_50 : decode cX8_nextOf 50 = .ok (.iload_n 3, 1) := by decide +kernel
theorem dX8_nextOf_51 : decode cX8_nextOf 51 = .ok (.ireturn, 1) := by decide +kernel
theorem dX8_nextOf_52 : decode cX8_nextOf 52 = .ok (.iinc 3 1, 3) := by decide +kernel
theorem dX8_nextOf_55 : decode cX8_nextOf 55 = .ok (.goto (-28), 3) := by decide +kernel
theorem dX8_nextOf_58 : decode cX8_nextOf 58 = .ok (.iload_n 2, 1) := by decide +kernel
theorem dX8_nextOf_59 : decode cX8_nextOf 59 = .ok (.ireturn, 1) := by decide +kernel
theorem dX8_placed_0 : decode cX8_placed 0 = .ok (.aload_n 0, 1) := by decide +kernel
theorem dX8_placed_1 : decode cX8_placed 1 = .ok (.getfield 15, 3) := by decide +kernel
theorem dX8_placed_4 : decode cX8_placed 4 = .ok (.istore_n 2, 1) := by decide +kernel
theorem dX8_placed_5 : decode cX8_placed 5 = .ok (.iconst 0, 1) := by decide +kernel
theorem dX8_placed_6 : decode cX8_placed 6 = .ok (.istore_n 3, 1) := by decide +kernel
theorem dX8_placed_7 : decode cX8_placed 7 = .ok (.iload_n 3, 1) := by decide +kernel
theorem dX8_placed_8 : decode cX8_placed 8 = .ok (.bipush 20, 2) := by decide +kernel
theorem dX8_placed_10 : decode cX8_placed 10 = .ok (.if_icmp .ge 37, 3) := by decide +kernel
theorem dX8_placed_13 : decode cX8_placed 13 = .ok (.iload_n 2, 1) := by decide +kernel
theorem dX8_placed_14 : decode cX8_placed 14 = .ok (.ifCond .eq 33, 3) := by decide +kernel
theorem dX8_placed_17 : decode cX8_placed 17 = .ok (.aload_n 0, 1) := by decide +kernel
theorem dX8_placed_18 : decode cX8_placed 18 = .ok (.iload_n 2, 1) := by decide +kernel
theorem dX8_placed_19 : decode cX8_placed 19 = .ok (.invokevirtual 50, 3) := by decide +kernel
theorem dX8_placed_22 : decode cX8_placed 22 = .ok (.istore 4, 2) := by decide +kernel
theorem dX8_placed_24 : decode cX8_placed 24 = .ok (.iload_n 3, 1) := by decide +kernel
theorem dX8_placed_25 : decode cX8_placed 25 = .ok (.iload_n 1, 1) := by decide +kernel
theorem dX8_placed_26 : decode cX8_placed 26 = .ok (.if_icmp .ne 6, 3) := by decide +kernel
theorem dX8_placed_29 : decode cX8_placed 29 = .ok (.iload 4, 2) := by decide +kernel
theorem dX8_placed_31 : decode cX8_placed 31 = .ok (.ireturn, 1) := by decide +kernel
theorem dX8_placed_32 : decode cX8_placed 32 = .ok (.iload_n 2, 1) := by decide +kernel
theorem dX8_placed_33 : decode cX8_placed 33 = .ok (.iconst 1, 1) := by decide +kernel
theorem dX8_placed_34 : decode cX8_placed 34 = .ok (.iload 4, 2) := by decide +kernel
theorem dX8_placed_36 : decode cX8_placed 36 = .ok (.ishl, 1) := by decide +kernel
theorem dX8_placed_37 : decode cX8_placed 37 = .ok (.iconst (-1), 1) := by decide +kernel
theorem dX8_placed_38 : decode cX8_placed 38 = .ok (.ixor, 1) := by decide +kernel
theorem dX8_placed_39 : decode cX8_placed 39 = .ok (.iand, 1) := by decide +kernel
theorem dX8_placed_40 : decode cX8_placed 40 = .ok (.istore_n 2, 1) := by decide +kernel
theorem dX8_placed_41 : decode cX8_placed 41 = .ok (.iinc 3 1, 3) := by decide +kernel
theorem dX8_placed_44 : decode cX8_placed 44 = .ok (.goto (-37), 3) := by decide +kernel
theorem dX8_placed_47 : decode cX8_placed 47 = .ok (.iconst (-1), 1) := by decide +kernel
theorem dX8_placed_48 : decode cX8_placed 48 = .ok (.ireturn, 1) := by decide +kernel
section S_35_order
variable {p : Program} {l : Launch} {e : Env} {R : Room} {s : State} {m : MethodId} {args : Array Value} {below : List Frame} {meth : Method} {c : Code} {A : Nat → Prop} {D : va_G} {cI cB cL : ClassId} {ad : Nat → Nat} {pa pl : Nat}
noncomputable def fX8_read_143 (K101 : Int32 → Sg → Option Sg) (K109 : Int32 → Int32 → Sg → Option Sg) (x2 : Int32) (x3 : Int32) (u : Sg) : Option Sg := bnd (x3 + 1) (fun v11 => K109 x2 v11 u)
noncomputable def fX8_read_109 (K101 : Int32 → Sg → Option Sg) : Nat → Int32 → Int32 → Sg → Option Sg
  | 0, _, _, _ => none
  | n + 1, x2, x3, u => cnd (20 ≤ x3) (bnd (x2 + 1) (fun v8 => K101 v8 u)) (grd (vp_in x3 20) (cnd ((fX11_isIn (u 37 ((x3 : Int32).toNatClampNeg)) x2) = 0) (fX8_read_143 K101 (fun a0 a1 w => fX8_read_109 K101 n a0 a1 w) x2 x3 u) (grd (vp_in x3 20) (grd (vp_in x2 20) (grd (vp_in x3 20) (bnd (s2 u 37 ((x3 : Int32).toNatClampNeg) ((u 37 ((x3 : Int32).toNatClampNeg)) ||| (u 37 ((x2 : Int32).toNatClampNeg)))) (fun u15 => fX8_read_143 K101 (fun a0 a1 w => fX8_read_109 K101 n a0 a1 w) x2 x3 u15)))))))
noncomputable def fX8_read_101 : Nat → Int32 → Sg → Option Sg
  | 0, _, _ => none
  | n + 1, x2, u => cnd (20 ≤ x2) (some u) (fX8_read_109 (fun a0 w => fX8_read_101 n a0 w) FU x2 0 u)
noncomputable def fX8_read_38 (K15 : Int32 → Sg → Option Sg) : Nat → Int32 → Int32 → Int32 → Sg → Option Sg
  | 0, _, _, _, _ => none
  | n + 1, x2, x3, x4, u => cnd (x4 < 0) (bnd (s2 u 36 1 ((u 36 1) ||| x3)) (fun u19 => bnd (x2 + 1) (fun v20 => K15 v20 u19))) (grd (vp_in (fX11_spotOf x2 x4) 120) (bnd (u 24 (((fX11_spotOf x2 x4) : Int32).toNatClampNeg)) (fun v22 => grd (vp_in v22 20) (grd (vp_in v22 20) (bnd (s2 u 37 ((v22 : Int32).toNatClampNeg) ((u 37 ((v22 : Int32).toNatClampNeg)) ||| x3)) (fun u25 => bnd (x3 ||| ((1 : Int32) <<< ((v22 &&& 31 : Int32)))) (fun v26 => bnd (x4 + (-1)) (fun v27 => fX8_read_38 K15 n x2 v26 v27 u25))))))))
noncomputable def fX8_read_15 : Nat → Int32 → Sg → Option Sg
  | 0, _, _ => none
  | n + 1, x2, u => cnd ((u 0 0) ≤ x2) (fX8_read_101 FU 0 u) (grd (vp_in x2 6) (bnd ((u 25 ((x2 : Int32).toNatClampNeg)) - 1) (fun v17 => fX8_read_38 (fun a0 w => fX8_read_15 n a0 w) FU x2 0 v17 u)))
noncomputable def fX8_read_0 (u : Sg) : Option Sg := obr (fJ7_fill_53178 20 0 (fun _ => u 37)) (fun f3 => bnd (sq u 37 (f3 0)) (fun u1 => bnd (s2 u1 36 1 0) (fun u4 => fX8_read_15 FU 0 u4)))
noncomputable def fX8_read (u : Sg) : Option Sg := fX8_read_0 u
set_option maxRecDepth 10000 in
set_option maxHeartbeats 4000000 in
theorem wX8_read_143 (C : cx D (tyl cI cB cL) A RX8 cX8_read 6 none p s m args c meth) (hR : 1 ≤ R.frames ∧ 23 ≤ R.locals) {σ' : Sg} (u : Sg) {K101 : Int32 → Sg → Option Sg} (hK101 : ∀ (y2 : Int32) (v : Sg) (H : Heap) (locs : List Loc) (ls : Array Slot), lv_has ls 6 [(0, .ref (ad 36)), (2, .int y2)] → st D (wO cI ad pa pl) A s v H locs → K101 y2 v = some σ' → W p l e R s m args below meth c H locs 0 0 (MQ below (qV D (tyl cI cB cL) (wO cI ad pa pl) A σ') args s 0 0 A) (F0 m 101 ls [])) {K109 : Int32 → Int32 → Sg → Option Sg} (hK109 : ∀ (y2 : Int32) (y3 : Int32) (v : Sg) (H : Heap) (locs : List Loc) (ls : Array Slot), lv_has ls 6 [(0, .ref (ad 36)), (2, .int y2), (3, .int y3)] → st D (wO cI ad pa pl) A s v H locs → K109 y2 y3 v = some σ' → W p l e R s m args below meth c H locs 0 0 (MQ below (qV D (tyl cI cB cL) (wO cI ad pa pl) A σ') args s 0 0 A) (F0 m 109 ls [])) (x2 : Int32) (x3 : Int32) {H : Heap} {locs : List Loc} {ls : Array Slot} (hl : lv_has ls 6 [(0, .ref (ad 36)), (2, .int x2), (3, .int x3)]) (S : st D (wO cI ad pa pl) A s u H locs) (h : fX8_read_143 K101 K109 x2 x3 u = some σ') : W p l e R s m args below meth c H locs 0 0 (MQ below (qV D (tyl cI cB cL) (wO cI ad pa pl) A σ') args s 0 0 A) (F0 m 143 ls []) := by
  have hx := C.1
  have hb := C.2.1
  have hsz := hl.1
  unfold fX8_read_143 at h
  obtain ⟨v11, ev11⟩ : ∃ y : Int32, y = x3 + 1 := ⟨_, rfl⟩
  have h := bnd_of ev11 h
  refine lv_iinc (v := v11) (lv' := [(3, .int v11), (0, .ref (ad 36)), (2, .int x2)]) hx hb dX8_read_143 hl (k := 2) rfl (by rw [ev11]; rfl) (by decide) rfl (fun ls hl => ?_)
  have hsz := hl.1
  refine lv_goto (tgt := 109) hx hb dX8_read_146 (by decide) ?_
  exact hK109 x2 v11 u H locs ls (lv_sub hl [1, 2, 0] rfl) S h
set_option maxRecDepth 10000 in
set_option maxHeartbeats 4000000 in
theorem wX8_read_109 (C : cx D (tyl cI cB cL) A RX8 cX8_read 6 none p s m args c meth) (hR : 1 ≤ R.frames ∧ 23 ≤ R.locals) {σ' : Sg} {K101 : Int32 → Sg → Option Sg} (hK101 : ∀ (y2 : Int32) (v : Sg) (H : Heap) (locs : List Loc) (ls : Array Slot), lv_has ls 6 [(0, .ref (ad 36)), (2, .int y2)] → st D (wO cI ad pa pl) A s v H locs → K101 y2 v = some σ' → W p l e R s m args below meth c H locs 0 0 (MQ below (qV D (tyl cI cB cL) (wO cI ad pa pl) A σ') args s 0 0 A) (F0 m 101 ls [])) : ∀ (n : Nat) (x2 : Int32) (x3 : Int32) (u : Sg) (H : Heap) (locs : List Loc) (ls : Array Slot), lv_has ls 6 [(0, .ref (ad 36)), (2, .int x2), (3, .int x3)] → st D (wO cI ad pa pl) A s u H locs → fX8_read_109 K101 n x2 x3 u = some σ' → W p l e R s m args below meth c H locs 0 0 (MQ below (qV D (tyl cI cB cL) (wO cI ad pa pl) A σ') args s 0 0 A) (F0 m 109 ls []) := by
  have hx := C.1
  have hb := C.2.1
  intro n
  induction n with
  | zero =>
    intro x2 x3 u H locs ls hl S h
    cases h
  | succ n ih =>
    intro x2 x3 u H locs ls hl S h
    rw [fX8_read_109] at h
    have hsz := hl.1
    refine lv_iload_n hx hb dX8_read_109 rfl (lv_at hl 2 rfl) ?_
    refine lv_bipush (v := 20) hx hb dX8_read_110 (by decide) ?_
    refine lv_icmp_ge (tgt := 149) hx hb dX8_read_112 (by decide) (fun c7 => ?_) (fun c7 => ?_)
    · have h := cnd_t c7 h
      obtain ⟨v8, ev8⟩ : ∃ y : Int32, y = x2 + 1 := ⟨_, rfl⟩
      have h := bnd_of ev8 h
      refine lv_iinc (v := v8) (lv' := [(2, .int v8), (0, .ref (ad 36)), (3, .int x3)]) hx hb dX8_read_149 hl (k := 1) rfl (by rw [ev8]; rfl) (by decide) rfl (fun ls hl => ?_)
      have hsz := hl.1
      refine lv_goto (tgt := 101) hx hb dX8_read_152 (by decide) ?_
      exact hK101 v8 u H locs ls (lv_sub hl [1, 0] rfl) S h
    · have h := cnd_f c7 h
      refine lv_aload_n hx hb dX8_read_115 rfl (lv_at hl 0 rfl) ?_
      refine q_get (v := .ref (ad 37)) C S (oO36 cI ad pa pl) rfl iwX8 0 (by decide) mw_637 rfl dX8_read_116 ?_
      refine lv_iload_n hx hb dX8_read_119 rfl (lv_at hl 2 rfl) ?_
      obtain ⟨g9, h⟩ := grd_some h
      refine q_iald C S (aO37 cI ad pa pl) 0 rfl g9 dX8_read_120 (j := (x3 : Int32).toNatClampNeg) rfl ?_
      refine lv_iload_n hx hb dX8_read_121 rfl (lv_at hl 1 rfl) ?_
      refine q_callPN (As := [.int (u 37 ((x3 : Int32).toNatClampNeg)), .int x2]) (na := 2) C S (ct_X11_isIn l D cI cB cL (u 37 ((x3 : Int32).toNatClampNeg)) x2) (List.mem_of_getElem? (i := 1) rfl) mw_360 mw_321 mw_359 hdX11_isIn ⟨Nat.le_trans (Nat.le_of_ble_eq_true rfl) hR.1, Nat.le_trans (Nat.le_of_ble_eq_true rfl) hR.2⟩ rfl hsz ⟨Nat.zero_le _, Nat.zero_le _⟩ (Nat.le_of_ble_eq_true rfl) dX8_read_122 rfl (fun H locs S => ?_)
      refine lv_if_eq (tgt := 143) hx hb dX8_read_125 (by decide) (fun c10 => ?_) (fun c10 => ?_)
      · have h := cnd_t c10 h
        exact wX8_read_143 C hR u hK101 ih x2 x3 (lv_sub hl [0, 1, 2] rfl) S h
      · have h := cnd_f c10 h
        refine lv_aload_n hx hb dX8_read_128 rfl (lv_at hl 0 rfl) ?_
        refine q_get (v := .ref (ad 37)) C S (oO36 cI ad pa pl) rfl iwX8 0 (by decide) mw_637 rfl dX8_read_129 ?_
        refine lv_iload_n hx hb dX8_read_132 rfl (lv_at hl 2 rfl) ?_
        refine lv_dup2_11 hx hb dX8_read_133 rfl rfl ?_
        obtain ⟨g12, h⟩ := grd_some h
        refine q_iald C S (aO37 cI ad pa pl) 0 rfl g12 dX8_read_134 (j := (x3 : Int32).toNatClampNeg) rfl ?_
        refine lv_aload_n hx hb dX8_read_135 rfl (lv_at hl 0 rfl) ?_
        refine q_get (v := .ref (ad 37)) C S (oO36 cI ad pa pl) rfl iwX8 0 (by decide) mw_637 rfl dX8_read_136 ?_
        refine lv_iload_n hx hb dX8_read_139 rfl (lv_at hl 1 rfl) ?_
        obtain ⟨g13, h⟩ := grd_some h
        refine q_iald C S (aO37 cI ad pa pl) 0 rfl g13 dX8_read_140 (j := (x2 : Int32).toNatClampNeg) rfl ?_
        refine lv_ior hx hb dX8_read_141 ?_
        obtain ⟨g14, h⟩ := grd_some h
        obtain ⟨u15, eu15⟩ : ∃ z : Sg, z = s2 u 37 ((x3 : Int32).toNatClampNeg) ((u 37 ((x3 : Int32).toNatClampNeg)) ||| (u 37 ((x2 : Int32).toNatClampNeg))) := ⟨_, rfl⟩
        have h := bnd_of eu15 h
        refine q_iast C S (aO37 cI ad pa pl) 0 rfl g14 dX8_read_142 (j := (x3 : Int32).toNatClampNeg) rfl eu15 (fun H locs S => ?_)
        exact wX8_read_143 C hR u15 hK101 ih x2 x3 (lv_sub hl [0, 1, 2] rfl) S h
set_option maxRecDepth 10000 in
set_option maxHeartbeats 4000000 in
theorem wX8_read_101 (C : cx D (tyl cI cB cL) A RX8 cX8_read 6 none p s m args c meth) (hR : 1 ≤ R.frames ∧ 23 ≤ R.locals) {σ' : Sg} : ∀ (n : Nat) (x2 : Int32) (u : Sg) (H : Heap) (locs : List Loc) (ls : Array Slot), lv_has ls 6 [(0, .ref (ad 36)), (2, .int x2)] → st D (wO cI ad pa pl) A s u H locs → fX8_read_101 n x2 u = some σ' → W p l e R s m args below meth c H locs 0 0 (MQ below (qV D (tyl cI cB cL) (wO cI ad pa pl) A σ') args s 0 0 A) (F0 m 101 ls []) := by
  have hx := C.1
  have hb := C.2.1
  intro n
  induction n with
  | zero =>
    intro x2 u H locs ls hl S h
    cases h
  | succ n ih =>
    intro x2 u H locs ls hl S h
    rw [fX8_read_101] at h
    have hsz := hl.1
    refine lv_iload_n hx hb dX8_read_101 rfl (lv_at hl 1 rfl) ?_
    refine lv_bipush (v := 20) hx hb dX8_read_102 (by decide) ?_
    refine lv_icmp_ge (tgt := 155) hx hb dX8_read_104 (by decide) (fun c6 => ?_) (fun c6 => ?_)
    · have h := cnd_t c6 h
      exact q_vret C S (Option.some.inj h) dX8_read_155
    · have h := cnd_f c6 h
      refine lv_iconst (v := 0) hx hb dX8_read_107 (by decide) ?_
      refine lv_istore_n (lv' := [(3, .int 0), (0, .ref (ad 36)), (2, .int x2)]) hx hb dX8_read_108 rfl hl (by decide) rfl (fun ls hl => ?_)
      have hsz := hl.1
      exact wX8_read_109 C hR ih FU x2 0 u H locs ls (lv_sub hl [1, 2, 0] rfl) S h
set_option maxRecDepth 10000 in
set_option maxHeartbeats 4000000 in
theorem wX8_read_38 (C : cx D (tyl cI cB cL) A RX8 cX8_read 6 none p s m args c meth) (hR : 1 ≤ R.frames ∧ 23 ≤ R.locals) {σ' : Sg} {K15 : Int32 → Sg → Option Sg} (hK15 : ∀ (y2 : Int32) (v : Sg) (H : Heap) (locs : List Loc) (ls : Array Slot), lv_has ls 6 [(0, .ref (ad 36)), (1, .ref (ad 0)), (2, .int y2)] → st D (wO cI ad pa pl) A s v H locs → K15 y2 v = some σ' → W p l e R s m args below meth c H locs 0 0 (MQ below (qV D (tyl cI cB cL) (wO cI ad pa pl) A σ') args s 0 0 A) (F0 m 15 ls [])) : ∀ (n : Nat) (x2 : Int32) (x3 : Int32) (x4 : Int32) (u : Sg) (H : Heap) (locs : List Loc) (ls : Array Slot), lv_has ls 6 [(0, .ref (ad 36)), (1, .ref (ad 0)), (2, .int x2), (3, .int x3), (4, .int x4)] → st D (wO cI ad pa pl) A s u H locs → fX8_read_38 K15 n x2 x3 x4 u = some σ' → W p l e R s m args below meth c H locs 0 0 (MQ below (qV D (tyl cI cB cL) (wO cI ad pa pl) A σ') args s 0 0 A) (F0 m 38 ls []) := by
  have hx := C.1
  have hb := C.2.1
  intro n
  induction n with
  | zero =>
    intro x2 x3 x4 u H locs ls hl S h
    cases h
  | succ n ih =>
    intro x2 x3 x4 u H locs ls hl S h
    rw [fX8_read_38] at h
    have hsz := hl.1
    refine lv_iload hx hb dX8_read_38 (lv_at hl 4 rfl) ?_
    refine lv_if_lt (tgt := 83) hx hb dX8_read_40 (by decide) (fun c18 => ?_) (fun c18 => ?_)
    · have h := cnd_t c18 h
      refine lv_aload_n hx hb dX8_read_83 rfl (lv_at hl 0 rfl) ?_
      refine lv_dup hx hb dX8_read_84 rfl ?_
      refine q_get (v := .int (u 36 1)) C S (oO36 cI ad pa pl) rfl iwX8 1 (by decide) mw_638 rfl dX8_read_85 ?_
      refine lv_iload_n hx hb dX8_read_88 rfl (lv_at hl 3 rfl) ?_
      refine lv_ior hx hb dX8_read_89 ?_
      obtain ⟨u19, eu19⟩ : ∃ z : Sg, z = s2 u 36 1 ((u 36 1) ||| x3) := ⟨_, rfl⟩
      have h := bnd_of eu19 h
      refine q_put C S (oO36 cI ad pa pl) rfl iwX8 tyX8 tyX8_ok nmX8 1 (by decide) mw_638 rfl (iO36_1 cI ad pa pl) rfl rfl dX8_read_90 eu19 (fun H locs S => ?_)
      obtain ⟨v20, ev20⟩ : ∃ y : Int32, y = x2 + 1 := ⟨_, rfl⟩
      have h := bnd_of ev20 h
      refine lv_iinc (v := v20) (lv' := [(2, .int v20), (0, .ref (ad 36)), (1, .ref (ad 0)), (3, .int x3), (4, .int x4)]) hx hb dX8_read_93 hl (k := 2) rfl (by rw [ev20]; rfl) (by decide) rfl (fun ls hl => ?_)
      have hsz := hl.1
      refine lv_goto (tgt := 15) hx hb dX8_read_96 (by decide) ?_
      exact hK15 v20 u19 H locs ls (lv_sub hl [1, 2, 0] rfl) S h
    · have h := cnd_f c18 h
      refine lv_aload_n hx hb dX8_read_43 rfl (lv_at hl 1 rfl) ?_
      refine q_get (v := .ref (ad 19)) C S (oO0 cI ad pa pl) rfl iwX7 15 (by decide) mw_640 rfl dX8_read_44 ?_
      refine q_get (v := .ref (ad 24)) C S (oO19 cI ad pa pl) rfl iwX4 4 (by decide) mw_642 rfl dX8_read_47 ?_
      refine lv_iload_n hx hb dX8_read_50 rfl (lv_at hl 2 rfl) ?_
      refine lv_iload hx hb dX8_read_51 (lv_at hl 4 rfl) ?_
      refine q_callPN (As := [.int x2, .int x4]) (na := 2) C S (ct_X11_spotOf l D cI cB cL x2 x4) (List.mem_of_getElem? (i := 0) rfl) mw_322 mw_321 mw_320 hdX11_spotOf ⟨Nat.le_trans (Nat.le_of_ble_eq_true rfl) hR.1, Nat.le_trans (Nat.le_of_ble_eq_true rfl) hR.2⟩ rfl hsz ⟨Nat.zero_le _, Nat.zero_le _⟩ (Nat.le_of_ble_eq_true rfl) dX8_read_53 rfl (fun H locs S => ?_)
      obtain ⟨g21, h⟩ := grd_some h
      refine q_iald C S (aO24 cI ad pa pl) 0 rfl g21 dX8_read_56 (j := ((fX11_spotOf x2 x4) : Int32).toNatClampNeg) rfl ?_
      refine lv_topi (fun v22 ev22 => ?_)
      have h := bnd_of ev22 h
      refine lv_istore (lv' := [(5, .int v22), (0, .ref (ad 36)), (1, .ref (ad 0)), (2, .int x2), (3, .int x3), (4, .int x4)]) hx hb dX8_read_57 hl (by decide) rfl (fun ls hl => ?_)
      have hsz := hl.1
      refine lv_aload_n hx hb dX8_read_59 rfl (lv_at hl 1 rfl) ?_
      refine q_get (v := .ref (ad 37)) C S (oO36 cI ad pa pl) rfl iwX8 0 (by decide) mw_637 rfl dX8_read_60 ?_
      refine lv_iload hx hb dX8_read_63 (lv_at hl 0 rfl) ?_
      refine lv_dup2_11 hx hb dX8_read_65 rfl rfl ?_
      obtain ⟨g23, h⟩ := grd_some h
      refine q_iald C S (aO37 cI ad pa pl) 0 rfl g23 dX8_read_66 (j := (v22 : Int32).toNatClampNeg) rfl ?_
      refine lv_iload_n hx hb dX8_read_67 rfl (lv_at hl 4 rfl) ?_
      refine lv_ior hx hb dX8_read_68 ?_
      obtain ⟨g24, h⟩ := grd_some h
      obtain ⟨u25, eu25⟩ : ∃ z : Sg, z = s2 u 37 ((v22 : Int32).toNatClampNeg) ((u 37 ((v22 : Int32).toNatClampNeg)) ||| x3) := ⟨_, rfl⟩
      have h := bnd_of eu25 h
      refine q_iast C S (aO37 cI ad pa pl) 0 rfl g24 dX8_read_69 (j := (v22 : Int32).toNatClampNeg) rfl eu25 (fun H locs S => ?_)
      refine lv_iload_n hx hb dX8_read_70 rfl (lv_at hl 4 rfl) ?_
      refine lv_iconst (v := 1) hx hb dX8_read_71 (by decide) ?_
      refine lv_iload hx hb dX8_read_72 (lv_at hl 0 rfl) ?_
      refine lv_ishl hx hb dX8_read_74 ?_
      refine lv_ior hx hb dX8_read_75 ?_
      refine lv_topi (fun v26 ev26 => ?_)
      have h := bnd_of ev26 h
      refine lv_istore_n (lv' := [(3, .int v26), (5, .int v22), (0, .ref (ad 36)), (1, .ref (ad 0)), (2, .int x2), (4, .int x4)]) hx hb dX8_read_76 rfl hl (by decide) rfl (fun ls hl => ?_)
      have hsz := hl.1
      obtain ⟨v27, ev27⟩ : ∃ y : Int32, y = x4 + (-1) := ⟨_, rfl⟩
      have h := bnd_of ev27 h
      refine lv_iinc (v := v27) (lv' := [(4, .int v27), (3, .int v26), (5, .int v22), (0, .ref (ad 36)), (1, .ref (ad 0)), (2, .int x2)]) hx hb dX8_read_77 hl (k := 5) rfl (by rw [ev27]; rfl) (by decide) rfl (fun ls hl => ?_)
      have hsz := hl.1
      refine lv_goto (tgt := 38) hx hb dX8_read_80 (by decide) ?_
      exact ih x2 v26 v27 u25 H locs ls (lv_sub hl [3, 4, 5, 1, 0] rfl) S h
set_option maxRecDepth 10000 in
set_option maxHeartbeats 4000000 in
theorem wX8_read_15 (C : cx D (tyl cI cB cL) A RX8 cX8_read 6 none p s m args c meth) (hR : 1 ≤ R.frames ∧ 23 ≤ R.locals) {σ' : Sg} : ∀ (n : Nat) (x2 : Int32) (u : Sg) (H : Heap) (locs : List Loc) (ls : Array Slot), lv_has ls 6 [(0, .ref (ad 36)), (1, .ref (ad 0)), (2, .int x2)] → st D (wO cI ad pa pl) A s u H locs → fX8_read_15 n x2 u = some σ' → W p l e R s m args below meth c H locs 0 0 (MQ below (qV D (tyl cI cB cL) (wO cI ad pa pl) A σ') args s 0 0 A) (F0 m 15 ls []) := by
  have hx := C.1
  have hb := C.2.1
  intro n
  induction n with
  | zero =>
    intro x2 u H locs ls hl S h
    cases h
  | succ n ih =>
    intro x2 u H locs ls hl S h
    rw [fX8_read_15] at h
    have hsz := hl.1
    refine lv_iload_n hx hb dX8_read_15 rfl (lv_at hl 2 rfl) ?_
    refine lv_aload_n hx hb dX8_read_16 rfl (lv_at hl 1 rfl) ?_
    refine q_get (v := .int (u 0 0)) C S (oO0 cI ad pa pl) rfl iwX7 0 (by decide) mw_639 rfl dX8_read_17 ?_
    refine lv_icmp_ge (tgt := 99) hx hb dX8_read_20 (by decide) (fun c5 => ?_) (fun c5 => ?_)
    · have h := cnd_t c5 h
      refine lv_iconst (v := 0) hx hb dX8_read_99 (by decide) ?_
      refine lv_istore_n (lv' := [(2, .int 0), (0, .ref (ad 36)), (1, .ref (ad 0))]) hx hb dX8_read_100 rfl hl (by decide) rfl (fun ls hl => ?_)
      have hsz := hl.1
      exact wX8_read_101 C hR FU 0 u H locs ls (lv_sub hl [1, 0] rfl) S h
    · have h := cnd_f c5 h
      refine lv_iconst (v := 0) hx hb dX8_read_23 (by decide) ?_
      refine lv_istore_n (lv' := [(3, .int 0), (0, .ref (ad 36)), (1, .ref (ad 0)), (2, .int x2)]) hx hb dX8_read_24 rfl hl (by decide) rfl (fun ls hl => ?_)
      have hsz := hl.1
      refine lv_aload_n hx hb dX8_read_25 rfl (lv_at hl 2 rfl) ?_
      refine q_get (v := .ref (ad 19)) C S (oO0 cI ad pa pl) rfl iwX7 15 (by decide) mw_640 rfl dX8_read_26 ?_
      refine q_get (v := .ref (ad 25)) C S (oO19 cI ad pa pl) rfl iwX4 5 (by decide) mw_641 rfl dX8_read_29 ?_
      refine lv_iload_n hx hb dX8_read_32 rfl (lv_at hl 3 rfl) ?_
      obtain ⟨g16, h⟩ := grd_some h
      refine q_iald C S (aO25 cI ad pa pl) 0 rfl g16 dX8_read_33 (j := (x2 : Int32).toNatClampNeg) rfl ?_
      refine lv_iconst (v := 1) hx hb dX8_read_34 (by decide) ?_
      refine lv_isub hx hb dX8_read_35 ?_
      refine lv_topi (fun v17 ev17 => ?_)
      have h := bnd_of ev17 h
      refine lv_istore (lv' := [(4, .int v17), (3, .int 0), (0, .ref (ad 36)), (1, .ref (ad 0)), (2, .int x2)]) hx hb dX8_read_36 hl (by decide) rfl (fun ls hl => ?_)
      have hsz := hl.1
      exact wX8_read_38 C hR ih FU x2 0 v17 u H locs ls (lv_sub hl [2, 3, 4, 1, 0] rfl) S h
set_option maxRecDepth 10000 in
set_option maxHeartbeats 4000000 in
theorem wX8_read_0 (C : cx D (tyl cI cB cL) A RX8 cX8_read 6 none p s m args c meth) (hR : 1 ≤ R.frames ∧ 23 ≤ R.locals) {σ' : Sg} (u : Sg) {H : Heap} {locs : List Loc} {ls : Array Slot} (hl : lv_has ls 6 [(0, .ref (ad 36)), (1, .ref (ad 0))]) (S : st D (wO cI ad pa pl) A s u H locs) (h : fX8_read_0 u = some σ') : W p l e R s m args below meth c H locs 0 0 (MQ below (qV D (tyl cI cB cL) (wO cI ad pa pl) A σ') args s 0 0 A) (F0 m 0 ls []) := by
  have hx := C.1
  have hb := C.2.1
  have hsz := hl.1
  unfold fX8_read_0 at h
  refine lv_aload_n hx hb dX8_read_0 rfl (lv_at hl 0 rfl) ?_
  refine q_get (v := .ref (ad 37)) C S (oO36 cI ad pa pl) rfl iwX8 0 (by decide) mw_637 rfl dX8_read_1 ?_
  refine lv_iconst (v := 0) hx hb dX8_read_4 (by decide) ?_
  obtain ⟨f3, h2, h⟩ := obr_some h
  obtain ⟨u1, eu1⟩ : ∃ z : Sg, z = sq u 37 (f3 0) := ⟨_, rfl⟩
  have h := bnd_of eu1 h
  refine q_fill C S (aO37 cI ad pa pl) h2 mw_643 mw_644 mw_474 mw_645 ⟨Nat.le_trans (Nat.le_of_ble_eq_true rfl) hR.1, Nat.le_trans (Nat.le_of_ble_eq_true rfl) hR.2⟩ hsz ⟨Nat.zero_le _, Nat.zero_le _⟩ (Nat.le_of_ble_eq_true rfl) dX8_read_5 eu1 (fun H locs S => ?_)
  refine lv_aload_n hx hb dX8_read_8 rfl (lv_at hl 0 rfl) ?_
  refine lv_iconst (v := 0) hx hb dX8_read_9 (by decide) ?_
  obtain ⟨u4, eu4⟩ : ∃ z : Sg, z = s2 u1 36 1 0 := ⟨_, rfl⟩
  have h := bnd_of eu4 h
  refine q_put C S (oO36 cI ad pa pl) rfl iwX8 tyX8 tyX8_ok nmX8 1 (by decide) mw_638 rfl (iO36_1 cI ad pa pl) rfl rfl dX8_read_10 eu4 (fun H locs S => ?_)
  refine lv_iconst (v := 0) hx hb dX8_read_13 (by decide) ?_
  refine lv_istore_n (lv' := [(2, .int 0), (0, .ref (ad 36)), (1, .ref (ad 0))]) hx hb dX8_read_14 rfl hl (by decide) rfl (fun ls hl => ?_)
  have hsz := hl.1
  exact wX8_read_15 C hR FU 0 u4 H locs ls (lv_sub hl [1, 2, 0] rfl) S h
set_option maxRecDepth 10000 in
set_option maxHeartbeats 4000000 in
theorem ct_X8_read (l : Launch) (D : va_G) (cI cB cL : ClassId) (ad : Nat → Nat) (pa pl : Nat) (u : Sg) {σ' : Sg} (h : fX8_read u = some σ') : metV l D (tyl cI cB cL) yX8_read cX8_read 6 1 23 (wO cI ad pa pl) [.ref (ad 36), .ref (ad 0)] u σ' := by
  intro sz
  refine Met.ofW (cc := cX8_read) (maxL := 6) (ret := none) (by decide) rfl ?_
  intro p e s m args below meth c s₁ B hml hv
  obtain ⟨rfl, C, S⟩ := q_entry B hml hv
  have hl := lv_entry ([.ref (ad 36), .ref (ad 0)]) (n := 6) (Nat.le_of_ble_eq_true rfl)
  rw [lg_entry_eq]
  generalize (lg_sl ([.ref (ad 36), .ref (ad 0)]) ++ List.replicate (6 - (lg_sl ([.ref (ad 36), .ref (ad 0)])).length) Slot.unset).toArray = ls at hl ⊢
  exact wX8_read_0 C ⟨Nat.le_refl _, Nat.le_refl _⟩ u (lv_sub hl [0, 1] rfl) S h
noncomputable def fX8_isAhead_0 (x1 : Int32) (x2 : Int32) (u : Sg) : Option Int32 := grd (vp_in x1 20) (grd (isB (fX11_isIn (u 37 ((x1 : Int32).toNatClampNeg)) x2)) (some (fX11_isIn (u 37 ((x1 : Int32).toNatClampNeg)) x2)))
noncomputable def fX8_isAhead (x1 : Int32) (x2 : Int32) (u : Sg) : Option Int32 := fX8_isAhead_0 x1 x2 u
set_option maxRecDepth 10000 in
set_option maxHeartbeats 4000000 in
theorem wX8_isAhead_0 (C : cx D (tyl cI cB cL) A RX8 cX8_isAhead 3 (some .boolean) p s m args c meth) (hR : 1 ≤ R.frames ∧ 21 ≤ R.locals) {r : Int32} (u : Sg) (x1 : Int32) (x2 : Int32) {H : Heap} {locs : List Loc} {ls : Array Slot} (hl : lv_has ls 3 [(0, .ref (ad 36)), (1, .int x1), (2, .int x2)]) (S : st D (wO cI ad pa pl) A s u H locs) (h : fX8_isAhead_0 x1 x2 u = some r) : W p l e R s m args below meth c H locs 0 0 (MQ below (qI D (tyl cI cB cL) (wO cI ad pa pl) A r u) args s 0 0 A) (F0 m 0 ls []) := by
  have hx := C.1
  have hb := C.2.1
  have hsz := hl.1
  unfold fX8_isAhead_0 at h
  refine lv_aload_n hx hb dX8_isAhead_0 rfl (lv_at hl 0 rfl) ?_
  refine q_get (v := .ref (ad 37)) C S (oO36 cI ad pa pl) rfl iwX8 0 (by decide) mw_637 rfl dX8_isAhead_1 ?_
  refine lv_iload_n hx hb dX8_isAhead_4 rfl (lv_at hl 1 rfl) ?_
  obtain ⟨g1, h⟩ := grd_some h
  refine q_iald C S (aO37 cI ad pa pl) 0 rfl g1 dX8_isAhead_5 (j := (x1 : Int32).toNatClampNeg) rfl ?_
  refine lv_iload_n hx hb dX8_isAhead_6 rfl (lv_at hl 2 rfl) ?_
  refine q_callPN (As := [.int (u 37 ((x1 : Int32).toNatClampNeg)), .int x2]) (na := 2) C S (ct_X11_isIn l D cI cB cL (u 37 ((x1 : Int32).toNatClampNeg)) x2) (List.mem_of_getElem? (i := 1) rfl) mw_360 mw_321 mw_359 hdX11_isIn ⟨Nat.le_trans (Nat.le_of_ble_eq_true rfl) hR.1, Nat.le_trans (Nat.le_of_ble_eq_true rfl) hR.2⟩ rfl hsz ⟨Nat.zero_le _, Nat.zero_le _⟩ (Nat.le_of_ble_eq_true rfl) dX8_isAhead_7 rfl (fun H locs S => ?_)
  obtain ⟨g2, h⟩ := grd_some h
  exact q_zret C S (isB_n g2) (rt_R h) dX8_isAhead_10
set_option maxRecDepth 10000 in
set_option maxHeartbeats 4000000 in
theorem ct_X8_isAhead (l : Launch) (D : va_G) (cI cB cL : ClassId) (ad : Nat → Nat) (pa pl : Nat) (x1 : Int32) (x2 : Int32) (u : Sg) {r : Int32} (h : fX8_isAhead x1 x2 u = some r) : metI l D (tyl cI cB cL) yX8_isAhead cX8_isAhead 3 (some .boolean) 1 21 (wO cI ad pa pl) [.ref (ad 36), .int x1, .int x2] u r u := by
  intro sz
  refine Met.ofW (cc := cX8_isAhead) (maxL := 3) (ret := (some .boolean)) (by decide) rfl ?_
  intro p e s m args below meth c s₁ B hml hv
  obtain ⟨rfl, C, S⟩ := q_entry B hml hv
  have hl := lv_entry ([.ref (ad 36), .int x1, .int x2]) (n := 3) (Nat.le_of_ble_eq_true rfl)
  rw [lg_entry_eq]
  generalize (lg_sl ([.ref (ad 36), .int x1, .int x2]) ++ List.replicate (3 - (lg_sl ([.ref (ad 36), .int x1, .int x2])).length) Slot.unset).toArray = ls at hl ⊢
  exact wX8_isAhead_0 C ⟨Nat.le_refl _, Nat.le_refl _⟩ u x1 x2 (lv_sub hl [0, 1, 2] rfl) S h
noncomputable def fX8_isBehindOne_32 (K2 : Int32 → Int32 → Int32 → Option Int32) (x1 : Int32) (x2 : Int32) (x3 : Int32) (u : Sg) : Option Int32 := bnd (x3 + 1) (fun v3 => K2 x1 x2 v3)
noncomputable def fX8_isBehindOne_2 (u : Sg) : Nat → Int32 → Int32 → Int32 → Option Int32
  | 0, _, _, _ => none
  | n + 1, x1, x2, x3 => cnd (20 ≤ x3) (some 0) (cnd (x3 = x1) (fX8_isBehindOne_32 (fun a0 a1 a2 => fX8_isBehindOne_2 u n a0 a1 a2) x1 x2 x3 u) (cnd ((fX11_isIn x2 x3) = 0) (fX8_isBehindOne_32 (fun a0 a1 a2 => fX8_isBehindOne_2 u n a0 a1 a2) x1 x2 x3 u) (obr (fX8_isAhead x3 x1 u) (fun r6 => cnd (r6 = 0) (fX8_isBehindOne_32 (fun a0 a1 a2 => fX8_isBehindOne_2 u n a0 a1 a2) x1 x2 x3 u) (some 1)))))
noncomputable def fX8_isBehindOne_0 (x1 : Int32) (x2 : Int32) (u : Sg) : Option Int32 := fX8_isBehindOne_2 u FU x1 x2 0
noncomputable def fX8_isBehindOne (x1 : Int32) (x2 : Int32) (u : Sg) : Option Int32 := fX8_isBehindOne_0 x1 x2 u
set_option maxRecDepth 10000 in
set_option maxHeartbeats 4000000 in
theorem wX8_isBehindOne_32 (C : cx D (tyl cI cB cL) A RX8 cX8_isBehindOne 4 (some .boolean) p s m args c meth) (hR : 2 ≤ R.frames ∧ 43 ≤ R.locals) {r : Int32} (u : Sg) {K2 : Int32 → Int32 → Int32 → Option Int32} (hK2 : ∀ (y1 : Int32) (y2 : Int32) (y3 : Int32) (H : Heap) (locs : List Loc) (ls : Array Slot), lv_has ls 4 [(0, .ref (ad 36)), (1, .int y1), (2, .int y2), (3, .int y3)] → st D (wO cI ad pa pl) A s u H locs → K2 y1 y2 y3 = some r → W p l e R s m args below meth c H locs 0 0 (MQ below (qI D (tyl cI cB cL) (wO cI ad pa pl) A r u) args s 0 0 A) (F0 m 2 ls [])) (x1 : Int32) (x2 : Int32) (x3 : Int32) {H : Heap} {locs : List Loc} {ls : Array Slot} (hl : lv_has ls 4 [(0, .ref (ad 36)), (1, .int x1), (2, .int x2), (3, .int x3)]) (S : st D (wO cI ad pa pl) A s u H locs) (h : fX8_isBehindOne_32 K2 x1 x2 x3 u = some r) : W p l e R s m args below meth c H locs 0 0 (MQ below (qI D (tyl cI cB cL) (wO cI ad pa pl) A r u) args s 0 0 A) (F0 m 32 ls []) := by
  have hx := C.1
  have hb := C.2.1
  have hsz := hl.1
  unfold fX8_isBehindOne_32 at h
  obtain ⟨v3, ev3⟩ : ∃ y : Int32, y = x3 + 1 := ⟨_, rfl⟩
  have h := bnd_of ev3 h
  refine lv_iinc (v := v3) (lv' := [(3, .int v3), (0, .ref (ad 36)), (1, .int x1), (2, .int x2)]) hx hb dX8_isBehindOne_32 hl (k := 3) rfl (by rw [ev3]; rfl) (by decide) rfl (fun ls hl => ?_)
  have hsz := hl.1
  refine lv_goto (tgt := 2) hx hb dX8_isBehindOne_35 (by decide) ?_
  exact hK2 x1 x2 v3 H locs ls (lv_sub hl [1, 2, 3, 0] rfl) S h
set_option maxRecDepth 10000 in
set_option maxHeartbeats 4000000 in
theorem wX8_isBehindOne_2 (C : cx D (tyl cI cB cL) A RX8 cX8_isBehindOne 4 (some .boolean) p s m args c meth) (hR : 2 ≤ R.frames ∧ 43 ≤ R.locals) {r : Int32} (u : Sg) : ∀ (n : Nat) (x1 : Int32) (x2 : Int32) (x3 : Int32) (H : Heap) (locs : List Loc) (ls : Array Slot), lv_has ls 4 [(0, .ref (ad 36)), (1, .int x1), (2, .int x2), (3, .int x3)] → st D (wO cI ad pa pl) A s u H locs → fX8_isBehindOne_2 u n x1 x2 x3 = some r → W p l e R s m args below meth c H locs 0 0 (MQ below (qI D (tyl cI cB cL) (wO cI ad pa pl) A r u) args s 0 0 A) (F0 m 2 ls []) := by
  have hx := C.1
  have hb := C.2.1
  intro n
  induction n with
  | zero =>
    intro x1 x2 x3 H locs ls hl S h
    cases h
  | succ n ih =>
    intro x1 x2 x3 H locs ls hl S h
    rw [fX8_isBehindOne_2] at h
    have hsz := hl.1
    refine lv_iload_n hx hb dX8_isBehindOne_2 rfl (lv_at hl 3 rfl) ?_
    refine lv_bipush (v := 20) hx hb dX8_isBehindOne_3 (by decide) ?_
    refine lv_icmp_ge (tgt := 38) hx hb dX8_isBehindOne_5 (by decide) (fun c1 => ?_) (fun c1 => ?_)
    · have h := cnd_t c1 h
      refine lv_iconst (v := 0) hx hb dX8_isBehindOne_38 (by decide) ?_
      exact q_zret C S rfl (rt_R h) dX8_isBehindOne_39
    · have h := cnd_f c1 h
      refine lv_iload_n hx hb dX8_isBehindOne_8 rfl (lv_at hl 3 rfl) ?_
      refine lv_iload_n hx hb dX8_isBehindOne_9 rfl (lv_at hl 1 rfl) ?_
      refine lv_icmp_eq (tgt := 32) hx hb dX8_isBehindOne_10 (by decide) (fun c2 => ?_) (fun c2 => ?_)
      · have h := cnd_t c2 h
        exact wX8_isBehindOne_32 C hR u ih x1 x2 x3 (lv_sub hl [0, 1, 2, 3] rfl) S h
      · have h := cnd_f c2 h
        refine lv_iload_n hx hb dX8_isBehindOne_13 rfl (lv_at hl 2 rfl) ?_
        refine lv_iload_n hx hb dX8_isBehindOne_14 rfl (lv_at hl 3 rfl) ?_
        refine q_callPN (As := [.int x2, .int x3]) (na := 2) C S (ct_X11_isIn l D cI cB cL x2 x3) (List.mem_of_getElem? (i := 1) rfl) mw_360 mw_321 mw_359 hdX11_isIn ⟨Nat.le_trans (Nat.le_of_ble_eq_true rfl) hR.1, Nat.le_trans (Nat.le_of_ble_eq_true rfl) hR.2⟩ rfl hsz ⟨Nat.zero_le _, Nat.zero_le _⟩ (Nat.le_of_ble_eq_true rfl) dX8_isBehindOne_15 rfl (fun H locs S => ?_)
        refine lv_if_eq (tgt := 32) hx hb dX8_isBehindOne_18 (by decide) (fun c4 => ?_) (fun c4 => ?_)
        · have h := cnd_t c4 h
          exact wX8_isBehindOne_32 C hR u ih x1 x2 x3 (lv_sub hl [0, 1, 2, 3] rfl) S h
        · have h := cnd_f c4 h
          refine lv_aload_n hx hb dX8_isBehindOne_21 rfl (lv_at hl 0 rfl) ?_
          refine lv_iload_n hx hb dX8_isBehindOne_22 rfl (lv_at hl 3 rfl) ?_
          refine lv_iload_n hx hb dX8_isBehindOne_23 rfl (lv_at hl 1 rfl) ?_
          obtain ⟨r6, h5, h⟩ := obr_some h
          refine q_callVi (As := [.int x3, .int x1]) (na := 2) C S (oO36 cI ad pa pl) rfl (ct_X8_isAhead l D cI cB cL ad pa pl x3 x1 u h5) mw_649 mw_648 mw_650 mw_647 mw_646 hdX8_isAhead ⟨Nat.le_trans (Nat.le_of_ble_eq_true rfl) hR.1, Nat.le_trans (Nat.le_of_ble_eq_true rfl) hR.2⟩ rfl hsz ⟨Nat.zero_le _, Nat.zero_le _⟩ (Nat.le_of_ble_eq_true rfl) dX8_isBehindOne_24 rfl (fun H locs S => ?_)
          refine lv_if_eq (tgt := 32) hx hb dX8_isBehindOne_27 (by decide) (fun c7 => ?_) (fun c7 => ?_)
          · have h := cnd_t c7 h
            exact wX8_isBehindOne_32 C hR u ih x1 x2 x3 (lv_sub hl [0, 1, 2, 3] rfl) S h
          · have h := cnd_f c7 h
            refine lv_iconst (v := 1) hx hb dX8_isBehindOne_30 (by decide) ?_
            exact q_zret C S rfl (rt_R h) dX8_isBehindOne_31
set_option maxRecDepth 10000 in
set_option maxHeartbeats 4000000 in
theorem wX8_isBehindOne_0 (C : cx D (tyl cI cB cL) A RX8 cX8_isBehindOne 4 (some .boolean) p s m args c meth) (hR : 2 ≤ R.frames ∧ 43 ≤ R.locals) {r : Int32} (u : Sg) (x1 : Int32) (x2 : Int32) {H : Heap} {locs : List Loc} {ls : Array Slot} (hl : lv_has ls 4 [(0, .ref (ad 36)), (1, .int x1), (2, .int x2)]) (S : st D (wO cI ad pa pl) A s u H locs) (h : fX8_isBehindOne_0 x1 x2 u = some r) : W p l e R s m args below meth c H locs 0 0 (MQ below (qI D (tyl cI cB cL) (wO cI ad pa pl) A r u) args s 0 0 A) (F0 m 0 ls []) := by
  have hx := C.1
  have hb := C.2.1
  have hsz := hl.1
  unfold fX8_isBehindOne_0 at h
  refine lv_iconst (v := 0) hx hb dX8_isBehindOne_0 (by decide) ?_
  refine lv_istore_n (lv' := [(3, .int 0), (0, .ref (ad 36)), (1, .int x1), (2, .int x2)]) hx hb dX8_isBehindOne_1 rfl hl (by decide) rfl (fun ls hl => ?_)
  have hsz := hl.1
  exact wX8_isBehindOne_2 C hR u FU x1 x2 0 H locs ls (lv_sub hl [1, 2, 3, 0] rfl) S h
set_option maxRecDepth 10000 in
set_option maxHeartbeats 4000000 in
theorem ct_X8_isBehindOne (l : Launch) (D : va_G) (cI cB cL : ClassId) (ad : Nat → Nat) (pa pl : Nat) (x1 : Int32) (x2 : Int32) (u : Sg) {r : Int32} (h : fX8_isBehindOne x1 x2 u = some r) : metI l D (tyl cI cB cL) yX8_isBehindOne cX8_isBehindOne 4 (some .boolean) 2 43 (wO cI ad pa pl) [.ref (ad 36), .int x1, .int x2] u r u := by
  intro sz
  refine Met.ofW (cc := cX8_isBehindOne) (maxL := 4) (ret := (some .boolean)) (by decide) rfl ?_
  intro p e s m args below meth c s₁ B hml hv
  obtain ⟨rfl, C, S⟩ := q_entry B hml hv
  have hl := lv_entry ([.ref (ad 36), .int x1, .int x2]) (n := 4) (Nat.le_of_ble_eq_true rfl)
  rw [lg_entry_eq]
  generalize (lg_sl ([.ref (ad 36), .int x1, .int x2]) ++ List.replicate (4 - (lg_sl ([.ref (ad 36), .int x1, .int x2])).length) Slot.unset).toArray = ls at hl ⊢
  exact wX8_isBehindOne_0 C ⟨Nat.le_refl _, Nat.le_refl _⟩ u x1 x2 (lv_sub hl [0, 1, 2] rfl) S h
noncomputable def fX8_nextOf_52 (K27 : Int32 → Int32 → Int32 → Option Int32) (x1 : Int32) (x2 : Int32) (x3 : Int32) (u : Sg) : Option Int32 := bnd (x3 + 1) (fun v4 => K27 x1 x2 v4)
noncomputable def fX8_nextOf_27 (u : Sg) : Nat → Int32 → Int32 → Int32 → Option Int32
  | 0, _, _, _ => none
  | n + 1, x1, x2, x3 => cnd (20 ≤ x3) (some x2) (cnd ((fX11_isIn x1 x3) = 0) (fX8_nextOf_52 (fun a0 a1 a2 => fX8_nextOf_27 u n a0 a1 a2) x1 x2 x3 u) (obr (fX8_isBehindOne x3 x1 u) (fun r6 => cnd (r6 = 0) (some x3) (fX8_nextOf_52 (fun a0 a1 a2 => fX8_nextOf_27 u n a0 a1 a2) x1 x2 x3 u))))
noncomputable def fX8_nextOf_19 (K5 : Int32 → Int32 → Int32 → Option Int32) (x1 : Int32) (x2 : Int32) (x3 : Int32) (u : Sg) : Option Int32 := bnd (x3 + (-1)) (fun v9 => K5 x1 x2 v9)
noncomputable def fX8_nextOf_5 (u : Sg) : Nat → Int32 → Int32 → Int32 → Option Int32
  | 0, _, _, _ => none
  | n + 1, x1, x2, x3 => cnd (x3 < 0) (fX8_nextOf_27 u FU x1 x2 0) (cnd ((fX11_isIn x1 x3) = 0) (fX8_nextOf_19 (fun a0 a1 a2 => fX8_nextOf_5 u n a0 a1 a2) x1 x2 x3 u) (fX8_nextOf_19 (fun a0 a1 a2 => fX8_nextOf_5 u n a0 a1 a2) x1 x3 x3 u))
noncomputable def fX8_nextOf_0 (x1 : Int32) (u : Sg) : Option Int32 := fX8_nextOf_5 u FU x1 (-1) 19
noncomputable def fX8_nextOf (x1 : Int32) (u : Sg) : Option Int32 := fX8_nextOf_0 x1 u
set_option maxRecDepth 10000 in
set_option maxHeartbeats 4000000 in
theorem wX8_nextOf_52 (C : cx D (tyl cI cB cL) A RX8 cX8_nextOf 4 (some .int) p s m args c meth) (hR : 3 ≤ R.frames ∧ 66 ≤ R.locals) {r : Int32} (u : Sg) {K27 : Int32 → Int32 → Int32 → Option Int32} (hK27 : ∀ (y1 : Int32) (y2 : Int32) (y3 : Int32) (H : Heap) (locs : List Loc) (ls : Array Slot), lv_has ls 4 [(0, .ref (ad 36)), (1, .int y1), (2, .int y2), (3, .int y3)] → st D (wO cI ad pa pl) A s u H locs → K27 y1 y2 y3 = some r → W p l e R s m args below meth c H locs 0 0 (MQ below (qI D (tyl cI cB cL) (wO cI ad pa pl) A r u) args s 0 0 A) (F0 m 27 ls [])) (x1 : Int32) (x2 : Int32) (x3 : Int32) {H : Heap} {locs : List Loc} {ls : Array Slot} (hl : lv_has ls 4 [(0, .ref (ad 36)), (1, .int x1), (2, .int x2), (3, .int x3)]) (S : st D (wO cI ad pa pl) A s u H locs) (h : fX8_nextOf_52 K27 x1 x2 x3 u = some r) : W p l e R s m args below meth c H locs 0 0 (MQ below (qI D (tyl cI cB cL) (wO cI ad pa pl) A r u) args s 0 0 A) (F0 m 52 ls []) := by
  have hx := C.1
  have hb := C.2.1
  have hsz := hl.1
  unfold fX8_nextOf_52 at h
  obtain ⟨v4, ev4⟩ : ∃ y : Int32, y = x3 + 1 := ⟨_, rfl⟩
  have h := bnd_of ev4 h
  refine lv_iinc (v := v4) (lv' := [(3, .int v4), (0, .ref (ad 36)), (1, .int x1), (2, .int x2)]) hx hb dX8_nextOf_52 hl (k := 3) rfl (by rw [ev4]; rfl) (by decide) rfl (fun ls hl => ?_)
  have hsz := hl.1
  refine lv_goto (tgt := 27) hx hb dX8_nextOf_55 (by decide) ?_
  exact hK27 x1 x2 v4 H locs ls (lv_sub hl [1, 2, 3, 0] rfl) S h
set_option maxRecDepth 10000 in
set_option maxHeartbeats 4000000 in
theorem wX8_nextOf_27 (C : cx D (tyl cI cB cL) A RX8 cX8_nextOf 4 (some .int) p s m args c meth) (hR : 3 ≤ R.frames ∧ 66 ≤ R.locals) {r : Int32} (u : Sg) : ∀ (n : Nat) (x1 : Int32) (x2 : Int32) (x3 : Int32) (H : Heap) (locs : List Loc) (ls : Array Slot), lv_has ls 4 [(0, .ref (ad 36)), (1, .int x1), (2, .int x2), (3, .int x3)] → st D (wO cI ad pa pl) A s u H locs → fX8_nextOf_27 u n x1 x2 x3 = some r → W p l e R s m args below meth c H locs 0 0 (MQ below (qI D (tyl cI cB cL) (wO cI ad pa pl) A r u) args s 0 0 A) (F0 m 27 ls []) := by
  have hx := C.1
  have hb := C.2.1
  intro n
  induction n with
  | zero =>
    intro x1 x2 x3 H locs ls hl S h
    cases h
  | succ n ih =>
    intro x1 x2 x3 H locs ls hl S h
    rw [fX8_nextOf_27] at h
    have hsz := hl.1
    refine lv_iload_n hx hb dX8_nextOf_27 rfl (lv_at hl 3 rfl) ?_
    refine lv_bipush (v := 20) hx hb dX8_nextOf_28 (by decide) ?_
    refine lv_icmp_ge (tgt := 58) hx hb dX8_nextOf_30 (by decide) (fun c2 => ?_) (fun c2 => ?_)
    · have h := cnd_t c2 h
      refine lv_iload_n hx hb dX8_nextOf_58 rfl (lv_at hl 2 rfl) ?_
      exact q_iret C S (rt_R h) dX8_nextOf_59
    · have h := cnd_f c2 h
      refine lv_iload_n hx hb dX8_nextOf_33 rfl (lv_at hl 1 rfl) ?_
      refine lv_iload_n hx hb dX8_nextOf_34 rfl (lv_at hl 3 rfl) ?_
      refine q_callPN (As := [.int x1, .int x3]) (na := 2) C S (ct_X11_isIn l D cI cB cL x1 x3) (List.mem_of_getElem? (i := 1) rfl) mw_360 mw_321 mw_359 hdX11_isIn ⟨Nat.le_trans (Nat.le_of_ble_eq_true rfl) hR.1, Nat.le_trans (Nat.le_of_ble_eq_true rfl) hR.2⟩ rfl hsz ⟨Nat.zero_le _, Nat.zero_le _⟩ (Nat.le_of_ble_eq_true rfl) dX8_nextOf_35 rfl (fun H locs S => ?_)
      refine lv_if_eq (tgt := 52) hx hb dX8_nextOf_38 (by decide) (fun c3 => ?_) (fun c3 => ?_)
      · have h := cnd_t c3 h
        exact wX8_nextOf_52 C hR u ih x1 x2 x3 (lv_sub hl [0, 1, 2, 3] rfl) S h
      · have h := cnd_f c3 h
        refine lv_aload_n hx hb dX8_nextOf_41 rfl (lv_at hl 0 rfl) ?_
        refine lv_iload_n hx hb dX8_nextOf_42 rfl (lv_at hl 3 rfl) ?_
        refine lv_iload_n hx hb dX8_nextOf_43 rfl (lv_at hl 1 rfl) ?_
        obtain ⟨r6, h5, h⟩ := obr_some h
        refine q_callVi (As := [.int x3, .int x1]) (na := 2) C S (oO36 cI ad pa pl) rfl (ct_X8_isBehindOne l D cI cB cL ad pa pl x3 x1 u h5) mw_653 mw_652 mw_654 mw_647 mw_651 hdX8_isBehindOne ⟨Nat.le_trans (Nat.le_of_ble_eq_true rfl) hR.1, Nat.le_trans (Nat.le_of_ble_eq_true rfl) hR.2⟩ rfl hsz ⟨Nat.zero_le _, Nat.zero_le _⟩ (Nat.le_of_ble_eq_true rfl) dX8_nextOf_44 rfl (fun H locs S => ?_)
        refine lv_if_ne (tgt := 52) hx hb dX8_nextOf_47 (by decide) (fun c7 => ?_) (fun c7 => ?_)
        · have h := cnd_f c7 h
          exact wX8_nextOf_52 C hR u ih x1 x2 x3 (lv_sub hl [0, 1, 2, 3] rfl) S h
        · have h := cnd_t c7 h
          refine lv_iload_n hx hb dX8_nextOf_50 rfl (lv_at hl 3 rfl) ?_
          exact q_iret C S (rt_R h) dX8_nextOf_51
set_option maxRecDepth 10000 in
set_option maxHeartbeats 4000000 in
theorem wX8_nextOf_19 (C : cx D (tyl cI cB cL) A RX8 cX8_nextOf 4 (some .int) p s m args c meth) (hR : 3 ≤ R.frames ∧ 66 ≤ R.locals) {r : Int32} (u : Sg) {K5 : Int32 → Int32 → Int32 → Option Int32} (hK5 : ∀ (y1 : Int32) (y2 : Int32) (y3 : Int32) (H : Heap) (locs : List Loc) (ls : Array Slot), lv_has ls 4 [(0, .ref (ad 36)), (1, .int y1), (2, .int y2), (3, .int y3)] → st D (wO cI ad pa pl) A s u H locs → K5 y1 y2 y3 = some r → W p l e R s m args below meth c H locs 0 0 (MQ below (qI D (tyl cI cB cL) (wO cI ad pa pl) A r u) args s 0 0 A) (F0 m 5 ls [])) (x1 : Int32) (x2 : Int32) (x3 : Int32) {H : Heap} {locs : List Loc} {ls : Array Slot} (hl : lv_has ls 4 [(0, .ref (ad 36)), (1, .int x1), (2, .int x2), (3, .int x3)]) (S : st D (wO cI ad pa pl) A s u H locs) (h : fX8_nextOf_19 K5 x1 x2 x3 u = some r) : W p l e R s m args below meth c H locs 0 0 (MQ below (qI D (tyl cI cB cL) (wO cI ad pa pl) A r u) args s 0 0 A) (F0 m 19 ls []) := by
  have hx := C.1
  have hb := C.2.1
  have hsz := hl.1
  unfold fX8_nextOf_19 at h
  obtain ⟨v9, ev9⟩ : ∃ y : Int32, y = x3 + (-1) := ⟨_, rfl⟩
  have h := bnd_of ev9 h
  refine lv_iinc (v := v9) (lv' := [(3, .int v9), (0, .ref (ad 36)), (1, .int x1), (2, .int x2)]) hx hb dX8_nextOf_19 hl (k := 3) rfl (by rw [ev9]; rfl) (by decide) rfl (fun ls hl => ?_)
  have hsz := hl.1
  refine lv_goto (tgt := 5) hx hb dX8_nextOf_22 (by decide) ?_
  exact hK5 x1 x2 v9 H locs ls (lv_sub hl [1, 2, 3, 0] rfl) S h
set_option maxRecDepth 10000 in
set_option maxHeartbeats 4000000 in
theorem wX8_nextOf_5 (C : cx D (tyl cI cB cL) A RX8 cX8_nextOf 4 (some .int) p s m args c meth) (hR : 3 ≤ R.frames ∧ 66 ≤ R.locals) {r : Int32} (u : Sg) : ∀ (n : Nat) (x1 : Int32) (x2 : Int32) (x3 : Int32) (H : Heap) (locs : List Loc) (ls : Array Slot), lv_has ls 4 [(0, .ref (ad 36)), (1, .int x1), (2, .int x2), (3, .int x3)] → st D (wO cI ad pa pl) A s u H locs → fX8_nextOf_5 u n x1 x2 x3 = some r → W p l e R s m args below meth c H locs 0 0 (MQ below (qI D (tyl cI cB cL) (wO cI ad pa pl) A r u) args s 0 0 A) (F0 m 5 ls []) := by
  have hx := C.1
  have hb := C.2.1
  intro n
  induction n with
  | zero =>
    intro x1 x2 x3 H locs ls hl S h
    cases h
  | succ n ih =>
    intro x1 x2 x3 H locs ls hl S h
    rw [fX8_nextOf_5] at h
    have hsz := hl.1
    refine lv_iload_n hx hb dX8_nextOf_5 rfl (lv_at hl 3 rfl) ?_
    refine lv_if_lt (tgt := 25) hx hb dX8_nextOf_6 (by decide) (fun c1 => ?_) (fun c1 => ?_)
    · have h := cnd_t c1 h
      refine lv_iconst (v := 0) hx hb dX8_nextOf_25 (by decide) ?_
      refine lv_istore_n (lv' := [(3, .int 0), (0, .ref (ad 36)), (1, .int x1), (2, .int x2)]) hx hb dX8_nextOf_26 rfl hl (by decide) rfl (fun ls hl => ?_)
      have hsz := hl.1
      exact wX8_nextOf_27 C hR u FU x1 x2 0 H locs ls (lv_sub hl [1, 2, 3, 0] rfl) S h
    · have h := cnd_f c1 h
      refine lv_iload_n hx hb dX8_nextOf_9 rfl (lv_at hl 1 rfl) ?_
      refine lv_iload_n hx hb dX8_nextOf_10 rfl (lv_at hl 3 rfl) ?_
      refine q_callPN (As := [.int x1, .int x3]) (na := 2) C S (ct_X11_isIn l D cI cB cL x1 x3) (List.mem_of_getElem? (i := 1) rfl) mw_360 mw_321 mw_359 hdX11_isIn ⟨Nat.le_trans (Nat.le_of_ble_eq_true rfl) hR.1, Nat.le_trans (Nat.le_of_ble_eq_true rfl) hR.2⟩ rfl hsz ⟨Nat.zero_le _, Nat.zero_le _⟩ (Nat.le_of_ble_eq_true rfl) dX8_nextOf_11 rfl (fun H locs S => ?_)
      refine lv_if_eq (tgt := 19) hx hb dX8_nextOf_14 (by decide) (fun c8 => ?_) (fun c8 => ?_)
      · have h := cnd_t c8 h
        exact wX8_nextOf_19 C hR u ih x1 x2 x3 (lv_sub hl [0, 1, 2, 3] rfl) S h
      · have h := cnd_f c8 h
        refine lv_iload_n hx hb dX8_nextOf_17 rfl (lv_at hl 3 rfl) ?_
        refine lv_istore_n (lv' := [(2, .int x3), (0, .ref (ad 36)), (1, .int x1), (3, .int x3)]) hx hb dX8_nextOf_18 rfl hl (by decide) rfl (fun ls hl => ?_)
        have hsz := hl.1
        exact wX8_nextOf_19 C hR u ih x1 x3 x3 (lv_sub hl [1, 2, 0, 3] rfl) S h
set_option maxRecDepth 10000 in
set_option maxHeartbeats 4000000 in
theorem wX8_nextOf_0 (C : cx D (tyl cI cB cL) A RX8 cX8_nextOf 4 (some .int) p s m args c meth) (hR : 3 ≤ R.frames ∧ 66 ≤ R.locals) {r : Int32} (u : Sg) (x1 : Int32) {H : Heap} {locs : List Loc} {ls : Array Slot} (hl : lv_has ls 4 [(0, .ref (ad 36)), (1, .int x1)]) (S : st D (wO cI ad pa pl) A s u H locs) (h : fX8_nextOf_0 x1 u = some r) : W p l e R s m args below meth c H locs 0 0 (MQ below (qI D (tyl cI cB cL) (wO cI ad pa pl) A r u) args s 0 0 A) (F0 m 0 ls []) := by
  have hx := C.1
  have hb := C.2.1
  have hsz := hl.1
  unfold fX8_nextOf_0 at h
  refine lv_iconst (v := (-1)) hx hb dX8_nextOf_0 (by decide) ?_
  refine lv_istore_n (lv' := [(2, .int (-1)), (0, .ref (ad 36)), (1, .int x1)]) hx hb dX8_nextOf_1 rfl hl (by decide) rfl (fun ls hl => ?_)
  have hsz := hl.1
  refine lv_bipush (v := 19) hx hb dX8_nextOf_2 (by decide) ?_
  refine lv_istore_n (lv' := [(3, .int 19), (2, .int (-1)), (0, .ref (ad 36)), (1, .int x1)]) hx hb dX8_nextOf_4 rfl hl (by decide) rfl (fun ls hl => ?_)
  have hsz := hl.1
  exact wX8_nextOf_5 C hR u FU x1 (-1) 19 H locs ls (lv_sub hl [2, 3, 1, 0] rfl) S h
set_option maxRecDepth 10000 in
set_option maxHeartbeats 4000000 in
theorem ct_X8_nextOf (l : Launch) (D : va_G) (cI cB cL : ClassId) (ad : Nat → Nat) (pa pl : Nat) (x1 : Int32) (u : Sg) {r : Int32} (h : fX8_nextOf x1 u = some r) : metI l D (tyl cI cB cL) yX8_nextOf cX8_nextOf 4 (some .int) 3 66 (wO cI ad pa pl) [.ref (ad 36), .int x1] u r u := by
  intro sz
  refine Met.ofW (cc := cX8_nextOf) (maxL := 4) (ret := (some .int)) (by decide) rfl ?_
  intro p e s m args below meth c s₁ B hml hv
  obtain ⟨rfl, C, S⟩ := q_entry B hml hv
  have hl := lv_entry ([.ref (ad 36), .int x1]) (n := 4) (Nat.le_of_ble_eq_true rfl)
  rw [lg_entry_eq]
  generalize (lg_sl ([.ref (ad 36), .int x1]) ++ List.replicate (4 - (lg_sl ([.ref (ad 36), .int x1])).length) Slot.unset).toArray = ls at hl ⊢
  exact wX8_nextOf_0 C ⟨Nat.le_refl _, Nat.le_refl _⟩ u x1 (lv_sub hl [0, 1] rfl) S h
noncomputable def fX8_placed_7 (u : Sg) : Nat → Int32 → Int32 → Int32 → Option Int32
  | 0, _, _, _ => none
  | n + 1, x1, x2, x3 => cnd (20 ≤ x3) (some (-1)) (cnd (x2 = 0) (some (-1)) (obr (fX8_nextOf x2 u) (fun r5 => cnd (x3 = x1) (some r5) (bnd (x2 &&& (((1 : Int32) <<< ((r5 &&& 31 : Int32))) ^^^ (-1))) (fun v7 => bnd (x3 + 1) (fun v8 => fX8_placed_7 u n x1 v7 v8))))))
noncomputable def fX8_placed_0 (x1 : Int32) (u : Sg) : Option Int32 := bnd (u 36 1) (fun v1 => fX8_placed_7 u FU x1 v1 0)
noncomputable def fX8_placed (x1 : Int32) (u : Sg) : Option Int32 := fX8_placed_0 x1 u
set_option maxRecDepth 10000 in
set_option maxHeartbeats 4000000 in
theorem wX8_placed_7 (C : cx D (tyl cI cB cL) A RX8 cX8_placed 5 (some .int) p s m args c meth) (hR : 4 ≤ R.frames ∧ 89 ≤ R.locals) {r : Int32} (u : Sg) : ∀ (n : Nat) (x1 : Int32) (x2 : Int32) (x3 : Int32) (H : Heap) (locs : List Loc) (ls : Array Slot), lv_has ls 5 [(0, .ref (ad 36)), (1, .int x1), (2, .int x2), (3, .int x3)] → st D (wO cI ad pa pl) A s u H locs → fX8_placed_7 u n x1 x2 x3 = some r → W p l e R s m args below meth c H locs 0 0 (MQ below (qI D (tyl cI cB cL) (wO cI ad pa pl) A r u) args s 0 0 A) (F0 m 7 ls []) := by
  have hx := C.1
  have hb := C.2.1
  intro n
  induction n with
  | zero =>
    intro x1 x2 x3 H locs ls hl S h
    cases h
  | succ n ih =>
    intro x1 x2 x3 H locs ls hl S h
    rw [fX8_placed_7] at h
    have hsz := hl.1
    refine lv_iload_n hx hb dX8_placed_7 rfl (lv_at hl 3 rfl) ?_
    refine lv_bipush (v := 20) hx hb dX8_placed_8 (by decide) ?_
    refine lv_icmp_ge (tgt := 47) hx hb dX8_placed_10 (by decide) (fun c2 => ?_) (fun c2 => ?_)
    · have h := cnd_t c2 h
      refine lv_iconst (v := (-1)) hx hb dX8_placed_47 (by decide) ?_
      exact q_iret C S (rt_R h) dX8_placed_48
    · have h := cnd_f c2 h
      refine lv_iload_n hx hb dX8_placed_13 rfl (lv_at hl 2 rfl) ?_
      refine lv_if_eq (tgt := 47) hx hb dX8_placed_14 (by decide) (fun c3 => ?_) (fun c3 => ?_)
      · have h := cnd_t c3 h
        refine lv_iconst (v := (-1)) hx hb dX8_placed_47 (by decide) ?_
        exact q_iret C S (rt_R h) dX8_placed_48
      · have h := cnd_f c3 h
        refine lv_aload_n hx hb dX8_placed_17 rfl (lv_at hl 0 rfl) ?_
        refine lv_iload_n hx hb dX8_placed_18 rfl (lv_at hl 2 rfl) ?_
        obtain ⟨r5, h4, h⟩ := obr_some h
        refine q_callVi (As := [.int x2]) (na := 1) C S (oO36 cI ad pa pl) rfl (ct_X8_nextOf l D cI cB cL ad pa pl x2 u h4) mw_657 mw_656 mw_658 mw_647 mw_655 hdX8_nextOf ⟨Nat.le_trans (Nat.le_of_ble_eq_true rfl) hR.1, Nat.le_trans (Nat.le_of_ble_eq_true rfl) hR.2⟩ rfl hsz ⟨Nat.zero_le _, Nat.zero_le _⟩ (Nat.le_of_ble_eq_true rfl) dX8_placed_19 rfl (fun H locs S => ?_)
        refine lv_istore (lv' := [(4, .int r5), (0, .ref (ad 36)), (1, .int x1), (2, .int x2), (3, .int x3)]) hx hb dX8_placed_22 hl (by decide) rfl (fun ls hl => ?_)
        have hsz := hl.1
        refine lv_iload_n hx hb dX8_placed_24 rfl (lv_at hl 4 rfl) ?_
        refine lv_iload_n hx hb dX8_placed_25 rfl (lv_at hl 2 rfl) ?_
        refine lv_icmp_ne (tgt := 32) hx hb dX8_placed_26 (by decide) (fun c6 => ?_) (fun c6 => ?_)
        · have h := cnd_f c6 h
          refine lv_iload_n hx hb dX8_placed_32 rfl (lv_at hl 3 rfl) ?_
          refine lv_iconst (v := 1) hx hb dX8_placed_33 (by decide) ?_
          refine lv_iload hx hb dX8_placed_34 (lv_at hl 0 rfl) ?_
          refine lv_ishl hx hb dX8_placed_36 ?_
          refine lv_iconst (v := (-1)) hx hb dX8_placed_37 (by decide) ?_
          refine lv_ixor hx hb dX8_placed_38 ?_
          refine lv_iand hx hb dX8_placed_39 ?_
          refine lv_topi (fun v7 ev7 => ?_)
          have h := bnd_of ev7 h
          refine lv_istore_n (lv' := [(2, .int v7), (4, .int r5), (0, .ref (ad 36)), (1, .int x1), (3, .int x3)]) hx hb dX8_placed_40 rfl hl (by decide) rfl (fun ls hl => ?_)
          have hsz := hl.1
          obtain ⟨v8, ev8⟩ : ∃ y : Int32, y = x3 + 1 := ⟨_, rfl⟩
          have h := bnd_of ev8 h
          refine lv_iinc (v := v8) (lv' := [(3, .int v8), (2, .int v7), (4, .int r5), (0, .ref (ad 36)), (1, .int x1)]) hx hb dX8_placed_41 hl (k := 4) rfl (by rw [ev8]; rfl) (by decide) rfl (fun ls hl => ?_)
          have hsz := hl.1
          refine lv_goto (tgt := 7) hx hb dX8_placed_44 (by decide) ?_
          exact ih x1 v7 v8 H locs ls (lv_sub hl [3, 4, 1, 0] rfl) S h
        · have h := cnd_t c6 h
          refine lv_iload hx hb dX8_placed_29 (lv_at hl 0 rfl) ?_
          exact q_iret C S (rt_R h) dX8_placed_31
set_option maxRecDepth 10000 in
set_option maxHeartbeats 4000000 in
theorem wX8_placed_0 (C : cx D (tyl cI cB cL) A RX8 cX8_placed 5 (some .int) p s m args c meth) (hR : 4 ≤ R.frames ∧ 89 ≤ R.locals) {r : Int32} (u : Sg) (x1 : Int32) {H : Heap} {locs : List Loc} {ls : Array Slot} (hl : lv_has ls 5 [(0, .ref (ad 36)), (1, .int x1)]) (S : st D (wO cI ad pa pl) A s u H locs) (h : fX8_placed_0 x1 u = some r) : W p l e R s m args below meth c H locs 0 0 (MQ below (qI D (tyl cI cB cL) (wO cI ad pa pl) A r u) args s 0 0 A) (F0 m 0 ls []) := by
  have hx := C.1
  have hb := C.2.1
  have hsz := hl.1
  unfold fX8_placed_0 at h
  refine lv_aload_n hx hb dX8_placed_0 rfl (lv_at hl 0 rfl) ?_
  refine q_get (v := .int (u 36 1)) C S (oO36 cI ad pa pl) rfl iwX8 1 (by decide) mw_638 rfl dX8_placed_1 ?_
  refine lv_topi (fun v1 ev1 => ?_)
  have h := bnd_of ev1 h
  refine lv_istore_n (lv' := [(2, .int v1), (0, .ref (ad 36)), (1, .int x1)]) hx hb dX8_placed_4 rfl hl (by decide) rfl (fun ls hl => ?_)
  have hsz := hl.1
  refine lv_iconst (v := 0) hx hb dX8_placed_5 (by decide) ?_
  refine lv_istore_n (lv' := [(3, .int 0), (2, .int v1), (0, .ref (ad 36)), (1, .int x1)]) hx hb dX8_placed_6 rfl hl (by decide) rfl (fun ls hl => ?_)
  have hsz := hl.1
  exact wX8_placed_7 C hR u FU x1 v1 0 H locs ls (lv_sub hl [2, 3, 1, 0] rfl) S h
set_option maxRecDepth 10000 in
set_option maxHeartbeats 4000000 in
theorem ct_X8_placed (l : Launch) (D : va_G) (cI cB cL : ClassId) (ad : Nat → Nat) (pa pl : Nat) (x1 : Int32) (u : Sg) {r : Int32} (h : fX8_placed x1 u = some r) : metI l D (tyl cI cB cL) yX8_placed cX8_placed 5 (some .int) 4 89 (wO cI ad pa pl) [.ref (ad 36), .int x1] u r u := by
  intro sz
  refine Met.ofW (cc := cX8_placed) (maxL := 5) (ret := (some .int)) (by decide) rfl ?_
  intro p e s m args below meth c s₁ B hml hv
  obtain ⟨rfl, C, S⟩ := q_entry B hml hv
  have hl := lv_entry ([.ref (ad 36), .int x1]) (n := 5) (Nat.le_of_ble_eq_true rfl)
  rw [lg_entry_eq]
  generalize (lg_sl ([.ref (ad 36), .int x1]) ++ List.replicate (5 - (lg_sl ([.ref (ad 36), .int x1])).length) Slot.unset).toArray = ls at hl ⊢
  exact wX8_placed_0 C ⟨Nat.le_refl _, Nat.le_refl _⟩ u x1 (lv_sub hl [0, 1] rfl) S h
end S_35_order
