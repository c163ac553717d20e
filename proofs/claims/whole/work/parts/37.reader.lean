def flR0 (cI cB : ClassId) (ad : Nat → Nat) (pa pl : Nat) (σ : Sg) : List Value := [.int (σ 0 0), .int (σ 0 1), .int (σ 0 2), .int (σ 0 3), .int (σ 0 4), .int (σ 0 5), .int (σ 0 6), .int (σ 0 7), .int (σ 0 8), .ref (ad 1), .ref (ad 2), .ref (ad 3), .ref (ad 4), .ref (ad 5), .ref (ad 13), .ref (ad 19), .ref (ad 26), .ref (ad 30), .ref (ad 34)]
def flR5 (cI cB : ClassId) (ad : Nat → Nat) (pa pl : Nat) (σ : Sg) : List Value := [.ref (ad 6), .ref (ad 7), .ref (ad 8), .ref (ad 9), .ref pa, .ref (ad 11), .ref (ad 12), .int (σ 5 7), .int (σ 5 8)]
def flR13 (cI cB : ClassId) (ad : Nat → Nat) (pa pl : Nat) (σ : Sg) : List Value := [.int (σ 13 0), .ref (ad 14), .ref (ad 15), .ref (ad 16), .ref (ad 17), .ref (ad 18)]
def flR19 (cI cB : ClassId) (ad : Nat → Nat) (pa pl : Nat) (σ : Sg) : List Value := [.ref (ad 20), .ref (ad 21), .ref (ad 22), .ref (ad 23), .ref (ad 24), .ref (ad 25)]
def flR26 (cI cB : ClassId) (ad : Nat → Nat) (pa pl : Nat) (σ : Sg) : List Value := [.ref (ad 27), .ref (ad 28), .ref (ad 29)]
def flR30 (cI cB : ClassId) (ad : Nat → Nat) (pa pl : Nat) (σ : Sg) : List Value := [.int (σ 30 0), .ref (ad 31), .ref (ad 32), .ref (ad 33)]
def flR34 (cI cB : ClassId) (ad : Nat → Nat) (pa pl : Nat) (σ : Sg) : List Value := [.int (σ 34 0), .int (σ 34 1), .ref (ad 35)]
def flR36 (cI cB : ClassId) (ad : Nat → Nat) (pa pl : Nat) (σ : Sg) : List Value := [.ref (ad 37), .int (σ 36 1), .int (σ 36 2), .int (σ 36 3)]
def flR37 (cI cB : ClassId) (ad : Nat → Nat) (pa pl : Nat) (σ : Sg) : List Value := [.ref (ad 38), .int (σ 37 1)]
def wR (cI cB : ClassId) (ad : Nat → Nat) (pa pl : Nat) (σ : Sg) : va_W := [((ad 0), .inr (6, flR0 cI cB ad pa pl σ)), ((ad 1), .inl (cI, 6, .inl (σ 1))), ((ad 2), .inl (cI, 6, .inl (σ 2))), ((ad 3), .inl (cI, 6, .inl (σ 3))), ((ad 4), .inl (cI, 6, .inl (σ 4))), ((ad 5), .inr (0, flR5 cI cB ad pa pl σ)), ((ad 6), .inl (cI, 36, .inl (σ 6))), ((ad 7), .inl (cI, 36, .inl (σ 7))), ((ad 8), .inl (cI, 36, .inl (σ 8))), ((ad 9), .inl (cI, 36, .inl (σ 9))), (pa, .inl (cI, pl, .inl (σ 10))), ((ad 11), .inl (cI, 36, .inl (σ 11))), ((ad 12), .inl (cI, 36, .inl (σ 12))), ((ad 13), .inr (5, flR13 cI cB ad pa pl σ)), ((ad 14), .inl (cI, 20, .inl (σ 14))), ((ad 15), .inl (cI, 20, .inl (σ 15))), ((ad 16), .inl (cI, 20, .inl (σ 16))), ((ad 17), .inl (cI, 20, .inl (σ 17))), ((ad 18), .inl (cI, 20, .inl (σ 18))), ((ad 19), .inr (3, flR19 cI cB ad pa pl σ)), ((ad 20), .inl (cI, 120, .inl (σ 20))), ((ad 21), .inl (cI, 120, .inl (σ 21))), ((ad 22), .inl (cI, 120, .inl (σ 22))), ((ad 23), .inl (cI, 120, .inl (σ 23))), ((ad 24), .inl (cI, 120, .inl (σ 24))), ((ad 25), .inl (cI, 6, .inl (σ 25))), ((ad 26), .inr (2, flR26 cI cB ad pa pl σ)), ((ad 27), .inl (cI, 120, .inl (σ 27))), ((ad 28), .inl (cI, 120, .inl (σ 28))), ((ad 29), .inl (cI, 120, .inl (σ 29))), ((ad 30), .inr (1, flR30 cI cB ad pa pl σ)), ((ad 31), .inl (cI, 8, .inl (σ 31))), ((ad 32), .inl (cI, 8, .inl (σ 32))), ((ad 33), .inl (cI, 8, .inl (σ 33))), ((ad 34), .inr (4, flR34 cI cB ad pa pl σ)), ((ad 35), .inl (cI, 240, .inl (σ 35))), ((ad 36), .inr (8, flR36 cI cB ad pa pl σ)), ((ad 37), .inr (9, flR37 cI cB ad pa pl σ)), ((ad 38), .inl (cB, 400, .inl (σ 38)))]
theorem oR0 (cI cB : ClassId) (ad : Nat → Nat) (pa pl : Nat) : objAt (wR cI cB ad pa pl) 0 (ad 0) 6 (flR0 cI cB ad pa pl) := fun _ => rfl
theorem iR0_0 (cI cB : ClassId) (ad : Nat → Nat) (pa pl : Nat) : intAt (wR cI cB ad pa pl) 0 (ad 0) 6 (flR0 cI cB ad pa pl) 0 := ⟨fun _ => rfl, fun _ _ => rfl⟩
theorem iR0_1 (cI cB : ClassId) (ad : Nat → Nat) (pa pl : Nat) : intAt (wR cI cB ad pa pl) 0 (ad 0) 6 (flR0 cI cB ad pa pl) 1 := ⟨fun _ => rfl, fun _ _ => rfl⟩
theorem iR0_2 (cI cB : ClassId) (ad : Nat → Nat) (pa pl : Nat) : intAt (wR cI cB ad pa pl) 0 (ad 0) 6 (flR0 cI cB ad pa pl) 2 := ⟨fun _ => rfl, fun _ _ => rfl⟩
theorem iR0_3 (cI cB : ClassId) (ad : Nat → Nat) (pa pl : Nat) : intAt (wR cI cB ad pa pl) 0 (ad 0) 6 (flR0 cI cB ad pa pl) 3 := ⟨fun _ => rfl, fun _ _ => rfl⟩
theorem iR0_4 (cI cB : ClassId) (ad : Nat → Nat) (pa pl : Nat) : intAt (wR cI cB ad pa pl) 0 (ad 0) 6 (flR0 cI cB ad pa pl) 4 := ⟨fun _ => rfl, fun _ _ => rfl⟩
theorem iR0_5 (cI cB : ClassId) (ad : Nat → Nat) (pa pl : Nat) : intAt (wR cI cB ad pa pl) 0 (ad 0) 6 (flR0 cI cB ad pa pl) 5 := ⟨fun _ => rfl, fun _ _ => rfl⟩
theorem iR0_6 (cI cB : ClassId) (ad : Nat → Nat) (pa pl : Nat) : intAt (wR cI cB ad pa pl) 0 (ad 0) 6 (flR0 cI cB ad pa pl) 6 := ⟨fun _ => rfl, fun _ _ => rfl⟩
theorem iR0_7 (cI cB : ClassId) (ad : Nat → Nat) (pa pl : Nat) : intAt (wR cI cB ad pa pl) 0 (ad 0) 6 (flR0 cI cB ad pa pl) 7 := ⟨fun _ => rfl, fun _ _ => rfl⟩
theorem iR0_8 (cI cB : ClassId) (ad : Nat → Nat) (pa pl : Nat) : intAt (wR cI cB ad pa pl) 0 (ad 0) 6 (flR0 cI cB ad pa pl) 8 := ⟨fun _ => rfl, fun _ _ => rfl⟩
theorem aR1 (cI cB : ClassId) (ad : Nat → Nat) (pa pl : Nat) : arrAt (wR cI cB ad pa pl) 1 (ad 1) cI 6 := ⟨fun _ => rfl, fun _ _ => rfl⟩
theorem aR2 (cI cB : ClassId) (ad : Nat → Nat) (pa pl : Nat) : arrAt (wR cI cB ad pa pl) 2 (ad 2) cI 6 := ⟨fun _ => rfl, fun _ _ => rfl⟩
theorem aR3 (cI cB : ClassId) (ad : Nat → Nat) (pa pl : Nat) : arrAt (wR cI cB ad pa pl) 3 (ad 3) cI 6 := ⟨fun _ => rfl, fun _ _ => rfl⟩
theorem aR4 (cI cB : ClassId) (ad : Nat → Nat) (pa pl : Nat) : arrAt (wR cI cB ad pa pl) 4 (ad 4) cI 6 := ⟨fun _ => rfl, fun _ _ => rfl⟩
theorem oR5 (cI cB : ClassId) (ad : Nat → Nat) (pa pl : Nat) : objAt (wR cI cB ad pa pl) 5 (ad 5) 0 (flR5 cI cB ad pa pl) := fun _ => rfl
theorem iR5_7 (cI cB : ClassId) (ad : Nat → Nat) (pa pl : Nat) : intAt (wR cI cB ad pa pl) 5 (ad 5) 0 (flR5 cI cB ad pa pl) 7 := ⟨fun _ => rfl, fun _ _ => rfl⟩
theorem iR5_8 (cI cB : ClassId) (ad : Nat → Nat) (pa pl : Nat) : intAt (wR cI cB ad pa pl) 5 (ad 5) 0 (flR5 cI cB ad pa pl) 8 := ⟨fun _ => rfl, fun _ _ => rfl⟩
theorem aR6 (cI cB : ClassId) (ad : Nat → Nat) (pa pl : Nat) : arrAt (wR cI cB ad pa pl) 6 (ad 6) cI 36 := ⟨fun _ => rfl, fun _ _ => rfl⟩
theorem aR7 (cI cB : ClassId) (ad : Nat → Nat) (pa pl : Nat) : arrAt (wR cI cB ad pa pl) 7 (ad 7) cI 36 := ⟨fun _ => rfl, fun _ _ => rfl⟩
theorem aR8 (cI cB : ClassId) (ad : Nat → Nat) (pa pl : Nat) : arrAt (wR cI cB ad pa pl) 8 (ad 8) cI 36 := ⟨fun _ => rfl, fun _ _ => rfl⟩
theorem aR9 (cI cB : ClassId) (ad : Nat → Nat) (pa pl : Nat) : arrAt (wR cI cB ad pa pl) 9 (ad 9) cI 36 := ⟨fun _ => rfl, fun _ _ => rfl⟩
theorem aR10 (cI cB : ClassId) (ad : Nat → Nat) (pa pl : Nat) : arrAt (wR cI cB ad pa pl) 10 pa cI pl := ⟨fun _ => rfl, fun _ _ => rfl⟩
theorem aR11 (cI cB : ClassId) (ad : Nat → Nat) (pa pl : Nat) : arrAt (wR cI cB ad pa pl) 11 (ad 11) cI 36 := ⟨fun _ => rfl, fun _ _ => rfl⟩
theorem aR12 (cI cB : ClassId) (ad : Nat → Nat) (pa pl : Nat) : arrAt (wR cI cB ad pa pl) 12 (ad 12) cI 36 := ⟨fun _ => rfl, fun _ _ => rfl⟩
theorem oR13 (cI cB : ClassId) (ad : Nat → Nat) (pa pl : Nat) : objAt (wR cI cB ad pa pl) 13 (ad 13) 5 (flR13 cI cB ad pa pl) := fun _ => rfl
theorem iR13_0 (cI cB : ClassId) (ad : Nat → Nat) (pa pl : Nat) : intAt (wR cI cB ad pa pl) 13 (ad 13) 5 (flR13 cI cB ad pa pl) 0 := ⟨fun _ => rfl, fun _ _ => rfl⟩
theorem aR14 (cI cB : ClassId) (ad : Nat → Nat) (pa pl : Nat) : arrAt (wR cI cB ad pa pl) 14 (ad 14) cI 20 := ⟨fun _ => rfl, fun _ _ => rfl⟩
theorem aR15 (cI cB : ClassId) (ad : Nat → Nat) (pa pl : Nat) : arrAt (wR cI cB ad pa pl) 15 (ad 15) cI 20 := ⟨fun _ => rfl, fun _ _ => rfl⟩
theorem aR16 (cI cB : ClassId) (ad : Nat → Nat) (pa pl : Nat) : arrAt (wR cI cB ad pa pl) 16 (ad 16) cI 20 := ⟨fun _ => rfl, fun _ _ => rfl⟩
theorem aR17 (cI cB : ClassId) (ad : Nat → Nat) (pa pl : Nat) : arrAt (wR cI cB ad pa pl) 17 (ad 17) cI 20 := ⟨fun _ => rfl, fun _ _ => rfl⟩
theorem aR18 (cI cB : ClassId) (ad : Nat → Nat) (pa pl : Nat) : arrAt (wR cI cB ad pa pl) 18 (ad 18) cI 20 := ⟨fun _ => rfl, fun _ _ => rfl⟩
theorem oR19 (cI cB : ClassId) (ad : Nat → Nat) (pa pl : Nat) : objAt (wR cI cB ad pa pl) 19 (ad 19) 3 (flR19 cI cB ad pa pl) := fun _ => rfl
theorem aR20 (cI cB : ClassId) (ad : Nat → Nat) (pa pl : Nat) : arrAt (wR cI cB ad pa pl) 20 (ad 20) cI 120 := ⟨fun _ => rfl, fun _ _ => rfl⟩
theorem aR21 (cI cB : ClassId) (ad : Nat → Nat) (pa pl : Nat) : arrAt (wR cI cB ad pa pl) 21 (ad 21) cI 120 := ⟨fun _ => rfl, fun _ _ => rfl⟩
theorem aR22 (cI cB : ClassId) (ad : Nat → Nat) (pa pl : Nat) : arrAt (wR cI cB ad pa pl) 22 (ad 22) cI 120 := ⟨fun _ => rfl, fun _ _ => rfl⟩
theorem aR23 (cI cB : ClassId) (ad : Nat → Nat) (pa pl : Nat) : arrAt (wR cI cB ad pa pl) 23 (ad 23) cI 120 := ⟨fun _ => rfl, fun _ _ => rfl⟩
theorem aR24 (cI cB : ClassId) (ad : Nat → Nat) (pa pl : Nat) : arrAt (wR cI cB ad pa pl) 24 (ad 24) cI 120 := ⟨fun _ => rfl, fun _ _ => rfl⟩
theorem aR25 (cI cB : ClassId) (ad : Nat → Nat) (pa pl : Nat) : arrAt (wR cI cB ad pa pl) 25 (ad 25) cI 6 := ⟨fun _ => rfl, fun _ _ => rfl⟩
theorem oR26 (cI cB : ClassId) (ad : Nat → Nat) (pa pl : Nat) : objAt (wR cI cB ad pa pl) 26 (ad 26) 2 (flR26 cI cB ad pa pl) := fun _ => rfl
theorem aR27 (cI cB : ClassId) (ad : Nat → Nat) (pa pl : Nat) : arrAt (wR cI cB ad pa pl) 27 (ad 27) cI 120 := ⟨fun _ => rfl, fun _ _ => rfl⟩
theorem aR28 (cI cB : ClassId) (ad : Nat → Nat) (pa pl : Nat) : arrAt (wR cI cB ad pa pl) 28 (ad 28) cI 120 := ⟨fun _ => rfl, fun _ _ => rfl⟩
theorem aR29 (cI cB : ClassId) (ad : Nat → Nat) (pa pl : Nat) : arrAt (wR cI cB ad pa pl) 29 (ad 29) cI 120 := ⟨fun _ => rfl, fun _ _ => rfl⟩
theorem oR30 (cI cB : ClassId) (ad : Nat → Nat) (pa pl : Nat) : objAt (wR cI cB ad pa pl) 30 (ad 30) 1 (flR30 cI cB ad pa pl) := fun _ => rfl
theorem iR30_0 (cI cB : ClassId) (ad : Nat → Nat) (pa pl : Nat) : intAt (wR cI cB ad pa pl) 30 (ad 30) 1 (flR30 cI cB ad pa pl) 0 := ⟨fun _ => rfl, fun _ _ => rfl⟩
theorem aR31 (cI cB : ClassId) (ad : Nat → Nat) (pa pl : Nat) : arrAt (wR cI cB ad pa pl) 31 (ad 31) cI 8 := ⟨fun _ => rfl, fun _ _ => rfl⟩
theorem aR32 (cI cB : ClassId) (ad : Nat → Nat) (pa pl : Nat) : arrAt (wR cI cB ad pa pl) 32 (ad 32) cI 8 := ⟨fun _ => rfl, fun _ _ => rfl⟩
theorem aR33 (cI cB : ClassId) (ad : Nat → Nat) (pa pl : Nat) : arrAt (wR cI cB ad pa pl) 33 (ad 33) cI 8 := ⟨fun _ => rfl, fun _ _ => rfl⟩
theorem oR34 (cI cB : ClassId) (ad : Nat → Nat) (pa pl : Nat) : objAt (wR cI cB ad pa pl) 34 (ad 34) 4 (flR34 cI cB ad pa pl) := fun _ => rfl
theorem iR34_0 (cI cB : ClassId) (ad : Nat → Nat) (pa pl : Nat) : intAt (wR cI cB ad pa pl) 34 (ad 34) 4 (flR34 cI cB ad pa pl) 0 := ⟨fun _ => rfl, fun _ _ => rfl⟩
theorem iR34_1 (cI cB : ClassId) (ad : Nat → Nat) (pa pl : Nat) : intAt (wR cI cB ad pa pl) 34 (ad 34) 4 (flR34 cI cB ad pa pl) 1 := ⟨fun _ => rfl, fun _ _ => rfl⟩
theorem aR35 (cI cB : ClassId) (ad : Nat → Nat) (pa pl : Nat) : arrAt (wR cI cB ad pa pl) 35 (ad 35) cI 240 := ⟨fun _ => rfl, fun _ _ => rfl⟩
theorem oR36 (cI cB : ClassId) (ad : Nat → Nat) (pa pl : Nat) : objAt (wR cI cB ad pa pl) 36 (ad 36) 8 (flR36 cI cB ad pa pl) := fun _ => rfl
theorem iR36_1 (cI cB : ClassId) (ad : Nat → Nat) (pa pl : Nat) : intAt (wR cI cB ad pa pl) 36 (ad 36) 8 (flR36 cI cB ad pa pl) 1 := ⟨fun _ => rfl, fun _ _ => rfl⟩
theorem iR36_2 (cI cB : ClassId) (ad : Nat → Nat) (pa pl : Nat) : intAt (wR cI cB ad pa pl) 36 (ad 36) 8 (flR36 cI cB ad pa pl) 2 := ⟨fun _ => rfl, fun _ _ => rfl⟩
theorem iR36_3 (cI cB : ClassId) (ad : Nat → Nat) (pa pl : Nat) : intAt (wR cI cB ad pa pl) 36 (ad 36) 8 (flR36 cI cB ad pa pl) 3 := ⟨fun _ => rfl, fun _ _ => rfl⟩
theorem oR37 (cI cB : ClassId) (ad : Nat → Nat) (pa pl : Nat) : objAt (wR cI cB ad pa pl) 37 (ad 37) 9 (flR37 cI cB ad pa pl) := fun _ => rfl
theorem iR37_1 (cI cB : ClassId) (ad : Nat → Nat) (pa pl : Nat) : intAt (wR cI cB ad pa pl) 37 (ad 37) 9 (flR37 cI cB ad pa pl) 1 := ⟨fun _ => rfl, fun _ _ => rfl⟩
theorem aR38 (cI cB : ClassId) (ad : Nat → Nat) (pa pl : Nat) : arrAt (wR cI cB ad pa pl) 38 (ad 38) cB 400 := ⟨fun _ => rfl, fun _ _ => rfl⟩
theorem iwX9 : ∀ w ∈ u_ws RX9 TX9 4, w ∈ gw := by
  intro w hw
  obtain ⟨k, hk, rfl⟩ := List.mem_map.mp hw
  have hk := List.mem_range.mp hk
  rcases (show k = 0 ∨ k = 1 ∨ k = 2 ∨ k = 3 by omega) with rfl | rfl | rfl | rfl
  · exact gw_t1 65 rfl rfl
  · exact gw_t1 67 rfl rfl
  · exact gw_t1 69 rfl rfl
  · exact gw_t1 71 rfl rfl
theorem mw_661 : Cond.fieldLink RX9 15 "LeastPending$Reader" "at" "I" ∈ gw := gw_t1 62 rfl rfl
theorem mw_662 : Cond.fieldLink RX9 9 "LeastPending$Reader" "tape" "LLeastPending$Tape;" ∈ gw := gw_t1 61 rfl rfl
theorem mw_663 : Cond.fieldLink RX9 28 "LeastPending$Tape" "length" "I" ∈ gw := gw_t1 48 rfl rfl
theorem mw_664 : Cond.fieldLink RX9 37 "LeastPending$Tape" "bytes" "[B" ∈ gw := gw_t1 45 rfl rfl
theorem mw_665 : Cond.fieldLink RX9 19 "LeastPending$Reader" "wrongAt" "I" ∈ gw := gw_t1 63 rfl rfl
theorem mw_666 : Cond.code yX9_skipBlanks cX9_skipBlanks 1 none ∈ gw := gw_t3 83 rfl rfl
theorem mw_667 : Cond.initialized RX9 ∈ gw := gw_t1 3 rfl rfl
theorem mw_668 : Cond.instanceMethod yX9_skipBlanks ∈ gw := gw_t3 82 rfl rfl
theorem mw_669 : Cond.methodLink RX9 25 yX9_skipBlanks ∈ gw := gw_t3 80 rfl rfl
theorem mw_670 : Cond.selects RX9 yX9_skipBlanks yX9_skipBlanks ∈ gw := gw_pv (n := 4) (List.mem_of_getElem? (i := 2) rfl)
theorem mw_671 : Cond.fieldLink RX9 22 "LeastPending$Reader" "numberAt" "I" ∈ gw := gw_t1 64 rfl rfl
theorem mw_672 : Cond.code yX9_isDigit cX9_isDigit 1 (some .boolean) ∈ gw := gw_t3 156 rfl rfl
theorem mw_673 : Cond.instanceMethod yX9_isDigit ∈ gw := gw_t3 155 rfl rfl
theorem mw_674 : Cond.methodLink RX9 93 yX9_isDigit ∈ gw := gw_t3 153 rfl rfl
theorem mw_675 : Cond.selects RX9 yX9_isDigit yX9_isDigit ∈ gw := gw_pv (n := 4) (List.mem_of_getElem? (i := 8) rfl)
theorem mw_676 : Cond.fieldLink RX9 83 "LeastPending$Net" "nodeCount" "I" ∈ gw := gw_t2 49 rfl rfl
theorem mw_677 : Cond.code yX9_readNumber cX9_readNumber 5 (some .int) ∈ gw := gw_t3 152 rfl rfl
theorem mw_678 : Cond.instanceMethod yX9_readNumber ∈ gw := gw_t3 151 rfl rfl
theorem mw_679 : Cond.methodLink RX9 67 yX9_readNumber ∈ gw := gw_t3 149 rfl rfl
theorem mw_680 : Cond.selects RX9 yX9_readNumber yX9_readNumber ∈ gw := gw_pv (n := 4) (List.mem_of_getElem? (i := 7) rfl)
theorem mw_681 : Cond.fieldLink RX9 86 "LeastPending$Net" "groupCount" "I" ∈ gw := gw_t2 52 rfl rfl
theorem mw_682 : Cond.fieldLink RX9 97 "LeastPending$Net" "groups" "[I" ∈ gw := gw_t2 73 rfl rfl
theorem mw_683 : Cond.fieldLink RX9 101 "LeastPending$Net" "channels" "LLeastPending$Channels;" ∈ gw := gw_t2 82 rfl rfl
theorem mw_684 : Cond.fieldLink RX9 105 "LeastPending$Channels" "delay" "[I" ∈ gw := gw_t1 105 rfl rfl
theorem hdX9_isDigit : yX9_isDigit.cls = RX9 ∧ yX9_isDigit.cls ≠ "java/lang/invoke/MethodHandle" ∧ yX9_isDigit.cls ≠ "java/lang/invoke/VarHandle" ∧ (parseMethodDescriptor yX9_isDigit.desc).map (fun d => d.parameters.length) = some 0 := by decide +kernel
theorem hdX9_readNumber : yX9_readNumber.cls = RX9 ∧ yX9_readNumber.cls ≠ "java/lang/invoke/MethodHandle" ∧ yX9_readNumber.cls ≠ "java/lang/invoke/VarHandle" ∧ (parseMethodDescriptor yX9_readNumber.desc).map (fun d => d.parameters.length) = some 2 := by decide +kernel
theorem hdX9_skipBlanks : yX9_skipBlanks.cls = RX9 ∧ yX9_skipBlanks.cls ≠ "java/lang/invoke/MethodHandle" ∧ yX9_skipBlanks.cls ≠ "java/lang/invoke/VarHandle" ∧ (parseMethodDescriptor yX9_skipBlanks.desc).map (fun d => d.parameters.length) = some 0 := by decide +kernel
theorem dX9_skipBlanks_0 : decode cX9_skipBlanks 0 = .ok (.aload_n 0, 1) := by decide +kernel
theorem dX9_skipBlanks_1 : decode cX9_skipBlanks 1 = .ok (.getfield 15, 3) := by decide +kernel
theorem dX9_skipBlanks_4 : decode cX9_skipBlanks 4 = .ok (.aload_n 0, 1) := by decide +kernel
theorem dX9_skipBlanks_5 : decode cX9_skipBlanks 5 = .ok (.getfield 9, 3) := by decide +kernel
theorem dX9_skipBlanks_8 : decode cX9_skipBlanks 8 = .ok (.getfield 28, 3) := by decide +kernel
theorem dX9_skipBlanks_11 : decode cX9_skipBlanks 11 = .ok (.if_icmp .ge 33, 3) := by decide +kernel
theorem dX9_skipBlanks_14 : decode cX9_skipBlanks 14 = .ok (.aload_n 0, 1) := by decide +kernel
theorem dX9_skipBlanks_15 : decode cX9_skipBlanks 15 = .ok (.getfield 9, 3) := by decide +kernel
theorem dX9_skipBlanks_18 : decode cX9_skipBlanks 18 = .ok (.getfield 37, 3) := by decide +kernel
theorem dX9_skipBlanks_21 : decode cX9_skipBlanks 21 = .ok (.aload_n 0, 1) := by decide +kernel
theorem dX9_skipBlanks_22 : decode cX9_skipBlanks 22 = .ok (.getfield 15, 3) := by decide +kernel
theorem dX9_skipBlanks_25 : decode cX9_skipBlanks 25 = .ok (.baload, 1) := by decide +kernel
theorem dX9_skipBlanks_26 : decode cX9_skipBlanks 26 = .ok (.bipush 32, 2) := by decide +kernel
theorem dX9_skipBlanks_28 : decode cX9_skipBlanks 28 = .ok (.if_icmp .ne 16, 3) := by decide +kernel
theorem dX9_skipBlanks_31 : decode cX9_skipBlanks 31 = .ok (.aload_n 0, 1) := by decide +kernel
theorem dX9_skipBlanks_32 : decode cX9_skipBlanks 32 = .ok (.dup, 1) := by decide +kernel
theorem dX9_skipBlanks_33 : decode cX9_skipBlanks 33 = .ok (.getfield 15, 3) := by decide +kernel
theorem dX9_skipBlanks_36 : decode cX9_skipBlanks 36 = .ok (.iconst 1, 1) := by decide +kernel
theorem dX9_skipBlanks_37 : decode cX9_skipBlanks 37 = .ok (.iadd, 1) := by decide +kernel
theorem dX9_skipBlanks_38 : decode cX9_skipBlanks 38 = .ok (.putfield 15, 3) := by decide +kernel
theorem dX9_skipBlanks_41 : decode cX9_skipBlanks 41 = .ok (.goto (-41), 3) := by decide +kernel
theorem dX9_skipBlanks_44 : decode cX9_skipBlanks 44 = .ok (.return_, 1) := by decide +kernel
theorem dX9_isDigit_0 : decode cX9_isDigit 0 = .ok (.aload_n 0, 1) := by decide +kernel
theorem dX9_isDigit_1 : decode cX9_isDigit 1 = .ok (.getfield 15, 3) := by decide +kernel
theorem dX9_isDigit_4 : decode cX9_isDigit 4 = .ok (.aload_n 0, 1) := by decide +kernel
theorem dX9_isDigit_5 : decode cX9_isDigit 5 = .ok (.getfield 9, 3) := by decide +kernel
theorem dX9_isDigit_8 : decode cX9_isDigit 8 = .ok (.getfield 28, 3) := by decide +kernel
theorem dX9_isDigit_11 : decode cX9_isDigit 11 = .ok (.if_icmp .ge 41, 3) := by decide +kernel
theorem dX9_isDigit_14 : decode cX9_isDigit 14 = .ok (.aload_n 0, 1) := by decide +kernel
theorem dX9_isDigit_15 : decode cX9_isDigit 15 = .ok (.getfield 9, 3) := by decide +kernel
theorem dX9_isDigit_18 : decode cX9_isDigit 18 = .ok (.getfield 37, 3) := by decide +kernel
theorem dX9_isDigit_21 : decode cX9_isDigit 21 = .ok (.aload_n 0, 1) := by decide +kernel
theorem dX9_isDigit_22 : decode cX9_isDigit 22 = .ok (.getfield 15, 3) := by decide +kernel
theorem dX9_isDigit_25 : decode cX9_isDigit 25 = .ok (.baload, 1) := by decide +kernel
theorem dX9_isDigit_26 : decode cX9_isDigit 26 = .ok (.bipush 48, 2) := by decide +kernel
theorem dX9_isDigit_28 : decode cX9_isDigit 28 = .ok (.if_icmp .lt 24, 3) := by decide +kernel
theorem dX9_isDigit_31 : decode cX9_isDigit 31 = .ok (.aload_n 0, 1) := by decide +kernel
theorem dX9_isDigit_32 : decode cX9_isDigit 32 = .ok (.getfield 9, 3) := by decide +kernel
theorem dX9_isDigit_35 : decode cX9_isDigit 35 = .ok (.getfield 37, 3) := by decide +kernel
theorem dX9_isDigit_38 : decode cX9_isDigit 38 = .ok (.aload_n 0, 1) := by decide +kernel
theorem dX9_isDigit_39 : decode cX9_isDigit 39 = .ok (.getfield 15, 3) := by decide +kernel
theorem dX9_isDigit_42 : decode cX9_isDigit 42 = .ok (.baload, 1) := by decide +kernel
theorem dX9_isDigit_43 : decode cX9_isDigit 43 = .ok (.bipush 57, 2) := by decide +kernel
theorem dX9_isDigit_45 : decode cX9_isDigit 45 = .ok (.if_icmp .gt 7, 3) := by decide +kernel
theorem dX9_isDigit_48 : decode cX9_isDigit 48 = .ok (.iconst 1, 1) := by decide +kernel
theorem dX9_isDigit_49 : decode cX9_isDigit 49 = .ok (.goto 4, 3) := by decide +kernel
theorem dX9_isDigit_52 : decode cX9_isDigit 52 = .ok (.iconst 0, 1) := by decide +kernel
theorem dX9_isDigit_53 : decode cX9_isDigit 53 = .ok (.ireturn, 1) := by decide +kernel
theorem dX9_readNumber_0 : decode cX9_readNumber 0 = .ok (.aload_n 0, 1) := by decide +kernel
theorem dX9_readNumber_1 : decode cX9_readNumber 1 = .ok (.getfield 19, 3) := by decide +kernel
theorem dX9_readNumber_4 : decode cX9_readNumber 4 = .ok (.iconst (-1), 1) := by decide +kernel
theorem dX9_readNumber_5 : decode cX9_readNumber 5 = .ok (.if_icmp .eq 5, 3) := by decide +kernel
theorem dX9_readNumber_8 : decode cX9_readNumber 8 = .ok (.iconst (-1), 1) := by decide +kernel
theorem dX9_readNumber_9 : decode cX9_readNumber 9 = .ok (.ireturn, 1) := by decide +kernel
theorem dX9_readNumber_10 : decode cX9_readNumber 10 = .ok (.aload_n 0, 1) := by decide +kernel
theorem dX9_readNumber_11 : decode cX9_readNumber 11 = .ok (.invokevirtual 25, 3) := by decide +kernel
theorem dX9_readNumber_14 : decode cX9_readNumber 14 = .ok (.aload_n 0, 1) := by decide +kernel
theorem dX9_readNumber_15 : decode cX9_readNumber 15 = .ok (.aload_n 0, 1) := by decide +kernel
theorem dX9_readNumber_16 : decode cX9_readNumber 16 = .ok (.getfield 15, 3) := by decide +kernel
theorem dX9_readNumber_19 : decode cX9_readNumber 19 = .ok (.putfield 22, 3) := by decide +kernel
theorem dX9_readNumber_22 : decode cX9_readNumber 22 = .ok (.iconst 0, 1) := by decide +kernel
theorem dX9_readNumber_23 : decode cX9_readNumber 23 = .ok (.istore_n 3, 1) := by decide +kernel
theorem dX9_readNumber_24 : decode cX9_readNumber 24 = .ok (.aload_n 0, 1) := by decide +kernel
theorem dX9_readNumber_25 : decode cX9_readNumber 25 = .ok (.getfield 15, 3) := by decide +kernel
theorem dX9_readNumber_28 : decode cX9_readNumber 28 = .ok (.aload_n 0, 1) := by decide +kernel
theorem dX9_readNumber_29 : decode cX9_readNumber 29 = .ok (.getfield 9, 3) := by decide +kernel
theorem dX9_readNumber_32 : decode cX9_readNumber 32 = .ok (.getfield 28, 3) := by decide +kernel
theorem dX9_readNumber_35 : decode cX9_readNumber 35 = .ok (.if_icmp .ge 57, 3) := by decide +kernel
theorem dX9_readNumber_38 : decode cX9_readNumber 38 = .ok (.aload_n 0, 1) := by decide +kernel
theorem dX9_readNumber_39 : decode cX9_readNumber 39 = .ok (.invokevirtual 93, 3) := by decide +kernel
theorem dX9_readNumber_42 : decode cX9_readNumber 42 = .ok (.ifCond .eq 50, 3) := by decide +kernel
theorem dX9_readNumber_45 : decode cX9_readNumber 45 = .ok (.aload_n 0, 1) := by decide +kernel
theorem dX9_readNumber_46 : decode cX9_readNumber 46 = .ok (.getfield 15, 3) := by decide +kernel
theorem dX9_readNumber_49 : decode cX9_readNumber 49 = .ok (.aload_n 0, 1) := by decide +kernel
theorem dX9_readNumber_50 : decode cX9_readNumber 50 = .ok (.getfield 22, 3) := by decide +kernel
theorem dX9_readNumber_53 : decode cX9_readNumber 53 = .ok (.isub, 1) := by decide +kernel
theorem dX9_readNumber_54 : decode cX9_readNumber 54 = .ok (.iconst 3, 1) := by decide +kernel
theorem dX9_readNumber_55 : decode cX9_readNumber 55 = .ok (.if_icmp .ge 24, 3) := by decide +kernel
theorem dX9_readNumber_58 : decode cX9_readNumber 58 = .ok (.iload_n 3, 1) := by decide +kernel
theorem dX9_readNumber_59 : decode cX9_readNumber 59 = .ok (.bipush 10, 2) := by decide +kernel
theorem dX9_readNumber_61 : decode cX9_readNumber 61 = .ok (.imul, 1) := by decide +kernel
theorem dX9_readNumber_62 : decode cX9_readNumber 62 = .ok (.aload_n 0, 1) := by decide +kernel
theorem dX9_readNumber_63 : decode cX9_readNumber 63 = .ok (.getfield 9, 3) := by decide +kernel
theorem dX9_readNumber_66 : decode cX9_readNumber 66 = .ok (.getfield 37, 3) := by decide +kernel
theorem dX9_readNumber_69 : decode cX9_readNumber 69 = .ok (.aload_n 0, 1) := by decide +kernel
theorem dX9_readNumber_70 : decode cX9_readNumber 70 = .ok (.getfield 15, 3) := by decide +kernel
theorem dX9_readNumber_73 : decode cX9_readNumber 73 = .ok (.baload, 1) := by decide +kernel
theorem dX9_readNumber_74 : decode cX9_readNumber 74 = .ok (.bipush 48, 2) := by decide +kernel
theorem dX9_readNumber_76 : decode cX9_readNumber 76 = .ok (.isub, 1) := by decide +kernel
theorem dX9_readNumber_77 : decode cX9_readNumber 77 = .ok (.iadd, 1) := by decide +kernel
theorem dX9_readNumber_78 : decode cX9_readNumber 78 = .ok (.istore_n 3, 1) := by decide +kernel
theorem dX9_readNumber_79 : decode cX9_readNumber 79 = .ok (.aload_n 0, 1) := by decide +kernel
theorem dX9_readNumber_80 : decode cX9_readNumber 80 = .ok (.dup, 1) := by decide +kernel
theorem dX9_readNumber_81 : decode cX9_readNumber 81 = .ok (.getfield 15, 3) := by decide +kernel
theorem dX9_readNumber_84 : decode cX9_readNumber 84 = .ok (.iconst 1, 1) := by decide +kernel
theorem dX9_readNumber_85 : decode cX9_readNumber 85 = .ok (.iadd, 1) := by decide +kernel
theorem dX9_readNumber_86 : decode cX9_readNumber 86 = .ok (.putfield 15, 3) := by decide +kernel
theorem dX9_readNumber_89 : decode cX9_readNumber 89 = .ok (.goto (-65), 3) := by decide +kernel
theorem dX9_readNumber_92 : decode cX9_readNumber 92 = .ok (.aload_n 0, 1) := by decide +kernel
theorem dX9_readNumber_93 : decode cX9_readNumber 93 = .ok (.getfield 15, 3) := by decide +kernel
theorem dX9_readNumber_96 : decode cX9_readNumber 96 = .ok (.aload_n 0, 1) := by decide +kernel
theorem dX9_readNumber_97 : decode cX9_readNumber 97 = .ok (.getfield 22, 3) := by decide +kernel
theorem dX9_readNumber_100 : decode cX9_readNumber 100 = .ok (.isub, 1) := by decide +kernel
theorem dX9_readNumber_101 : decode cX9_readNumber 101 = .ok (.istore 4, 2) := by decide +kernel
theorem dX9_readNumber_103 : decode cX9_readNumber 103 = .ok (.iload 4, 2) := by decide +kernel
theorem dX9_readNumber_105 : decode cX9_readNumber 105 = .ok (.iconst 1, 1) := by decide +kernel
theorem dX9_readNumber_106 : decode cX9_readNumber 106 = .ok (.if_icmp .lt 19, 3) := by decide +kernel
theorem dX9_readNumber_109 : decode cX9_readNumber 109 = .ok (.iload 4, 2) := by decide +kernel
theorem dX9_readNumber_111 : decode cX9_readNumber 111 = .ok (.iconst 3, 1) := by decide +kernel
theorem dX9_readNumber_112 : decode cX9_readNumber 112 = .ok (.if_icmp .gt 13, 3) := by decide +kernel
theorem dX9_readNumber_115 : decode cX9_readNumber 115 = .ok (.iload_n 3, 1) := by decide +kernel
theorem dX9_readNumber_116 : decode cX9_readNumber 116 = .ok (.iload_n 1, 1) := by decide +kernel
theorem dX9_readNumber_117 : decode cX9_readNumber 117 = .ok (.if_icmp .lt 8, 3) := by decide +kernel
theorem dX9_readNumber_120 : decode cX9_readNumber 120 = .ok (.iload_n 3, 1) := by decide +kernel
theorem dX9_readNumber_121 : decode cX9_readNumber 121 = .ok (.iload_n 2, 1) := by decide +kernel
theorem dX9_readNumber_122 : decode cX9_readNumber 122 = .ok (.if_icmp .le 13, 3) := by decide +kernel
theorem dX9_readNumber_125 : decode cX9_readNumber 125 = .ok (.aload_n 0, 1) := by decide +kernel
theorem dX9_readNumber_126 : decode cX9_readNumber 126 = .ok (.aload_n 0, 1) := by decide +kernel
theorem dX9_readNumber_127 : decode cX9_readNumber 127 = .ok (.getfield 22, 3) := by decide +kernel
theorem dX9_readNumber_130 : decode cX9_readNumber 130 = .ok (.putfield 19, 3) := by decide +kernel
theorem dX9_readNumber_133 : decode cX9_readNumber 133 = .ok (.iconst (-1), 1) := by decide +kernel
theorem dX9_readNumber_134 : decode cX9_readNumber 134 = .ok (.ireturn, 1) := by decide +kernel
theorem dX9_readNumber_135 : decode cX9_readNumber 135 = .ok (.iload_n 3, 1) := by decide +kernel
theorem dX9_readNumber_136 : decode cX9_readNumber 136 = .ok (.ireturn, 1) := by decide +kernel
theorem dX9_tellNodes_0 : decode cX9_tellNodes 0 = .ok (.iload_n 3, 1) := by decide +kernel
theorem dX9_tellNodes_1 : decode cX9_tellNodes 1 = .ok (.ifCond .gt 10, 3) := by decide +kernel
theorem dX9_tellNodes_4 : decode cX9_tellNodes 4 = .ok (.aload_n 1, 1) := by decide +kernel
theorem dX9_tellNodes_5 : decode cX9_tellNodes 5 = .ok (.getfield 83, 3) := by decide +kernel
theorem dX9_tellNodes_8 : decode cX9_tellNodes 8 = .ok (.ifCond .le 9, 3) := by decide +kernel
theorem dX9_tellNodes_11 : decode cX9_tellNodes 11 = .ok (.aload_n 0, 1) := by decide +kernel
theorem dX9_tellNodes_12 : decode cX9_tellNodes 12 = .ok (.iload_n 2, 1) := by decide +kernel
theorem dX9_tellNodes_13 : decode cX9_tellNodes 13 = .ok (.putfield 19, 3) := by decide +kernel
theorem dX9_tellNodes_16 : decode cX9_tellNodes 16 = .ok (.return_, 1) := by decide +kernel
theorem dX9_tellNodes_17 : decode cX9_tellNodes 17 = .ok (.aload_n 0, 1) := by decide +kernel
theorem dX9_tellNodes_18 : decode cX9_tellNodes 18 = .ok (.iconst 1, 1) := by decide +kernel
theorem dX9_tellNodes_19 : decode cX9_tellNodes 19 = .ok (.bipush 6, 2) := by decide +kernel
theorem dX9_tellNodes_21 : decode cX9_tellNodes 21 = .ok (.invokevirtual 67, 3) := by decide +kernel
theorem dX9_tellNodes_24 : decode cX9_tellNodes 24 = .ok (.istore 4, 2) := by decide +kernel
theorem dX9_tellNodes_26 : decode cX9_tellNodes 26 = .ok (.iload 4, 2) := by decide +kernel
theorem dX9_tellNodes_28 : decode cX9_tellNodes 28 = .ok (.iconst (-1), 1) := by decide +kernel
theorem dX9_tellNodes_29 : decode cX9_tellNodes 29 = .ok (.if_icmp .eq 9, 3) := by decide +kernel
theorem dX9_tellNodes_32 : decode cX9_tellNodes 32 = .ok (.aload_n 1, 1) := by decide +kernel
theorem dX9_tellNodes_33 : decode cX9_tellNodes 33 = .ok (.iload 4, 2) := by decide +kernel
theorem dX9_tellNodes_35 : decode cX9_tellNodes 35 = .ok (.putfield 83, 3) := by decide +kernel
theorem dX9_tellNodes_38 : decode cX9_tellNodes 38 = .ok (.return_, 1) := by decide +kernel
theorem dX9_tellGroup_0 : decode cX9_tellGroup 0 = .ok (.aload_n 1, 1) := by decide +kernel
theorem dX9_tellGroup_1 : decode cX9_tellGroup 1 = .ok (.getfield 86, 3) := by decide +kernel
theorem dX9_tellGroup_4 : decode cX9_tellGroup 4 = .ok (.bipush 6, 2) := by decide +kernel
theorem dX9_tellGroup_6 : decode cX9_tellGroup 6 = .ok (.if_icmp .lt 9, 3) := by decide +kernel
theorem dX9_tellGroup_9 : decode cX9_tellGroup 9 = .ok (.aload_n 0, 1) := by decide +kernel
theorem dX9_tellGroup_10 : decode cX9_tellGroup 10 = .ok (.iload_n 2, 1) := by decide +kernel
theorem dX9_tellGroup_11 : decode cX9_tellGroup 11 = .ok (.putfield 19, 3) := by decide +kernel
theorem dX9_tellGroup_14 : decode cX9_tellGroup 14 = .ok (.return_, 1) := by decide +kernel
theorem dX9_tellGroup_15 : decode cX9_tellGroup 15 = .ok (.iconst 0, 1) := by decide +kernel
theorem dX9_tellGroup_16 : decode cX9_tellGroup 16 = .ok (.istore_n 3, 1) := by decide +kernel
theorem dX9_tellGroup_17 : decode cX9_tellGroup 17 = .ok (.iconst 1, 1) := by decide +kernel
theorem dX9_tellGroup_18 : decode cX9_tellGroup 18 = .ok (.istore 4, 2) := by decide +kernel
theorem dX9_tellGroup_20 : decode cX9_tellGroup 20 = .ok (.iconst 0, 1) := by decide +kernel
theorem dX9_tellGroup_21 : decode cX9_tellGroup 21 = .ok (.istore 5, 2) := by decide +kernel
theorem dX9_tellGroup_23 : decode cX9_tellGroup 23 = .ok (.iload 5, 2) := by decide +kernel
theorem dX9_tellGroup_25 : decode cX9_tellGroup 25 = .ok (.bipush 6, 2) := by decide +kernel
theorem dX9_tellGroup_27 : decode cX9_tellGroup 27 = .ok (.if_icmp .gt 69, 3) := by decide +kernel
theorem dX9_tellGroup_30 : decode cX9_tellGroup 30 = .ok (.iload 4, 2) := by decide +kernel
theorem dX9_tellGroup_32 : decode cX9_tellGroup 32 = .ok (.ifCond .eq 64, 3) := by decide +kernel
theorem dX9_tellGroup_35 : decode cX9_tellGroup 35 = .ok (.aload_n 0, 1) := by decide +kernel
theorem dX9_tellGroup_36 : decode cX9_tellGroup 36 = .ok (.iconst 0, 1) := by decide +kernel
theorem dX9_tellGroup_37 : decode cX9_tellGroup 37 = .ok (.aload_n 1, 1) := by decide +kernel
theorem dX9_tellGroup_38 : decode cX9_tellGroup 38 = .ok (.getfield 83, 3) := by decide +kernel
theorem dX9_tellGroup_41 : decode cX9_tellGroup 41 = .ok (.iconst 1, 1) := by decide +kernel
theorem dX9_tellGroup_42 : decode cX9_tellGroup 42 = .ok (.isub, 1) := by decide +kernel
theorem dX9_tellGroup_43 : decode cX9_tellGroup 43 = .ok (.invokevirtual 67, 3) := by decide +kernel
theorem dX9_tellGroup_46 : decode cX9_tellGroup 46 = .ok (.istore 6, 2) := by decide +kernel
theorem dX9_tellGroup_48 : decode cX9_tellGroup 48 = .ok (.iload 6, 2) := by decide +kernel
theorem dX9_tellGroup_50 : decode cX9_tellGroup 50 = .ok (.iconst (-1), 1) := by decide +kernel
theorem dX9_tellGroup_51 : decode cX9_tellGroup 51 = .ok (.if_icmp .ne 4, 3) := by decide +kernel
theorem dX9_tellGroup_54 : decode cX9_tellGroup 54 = .ok (.return_, 1) := by decide +kernel
theorem dX9_tellGroup_55 : decode cX9_tellGroup 55 = .ok (.iload_n 3, 1) := by decide +kernel
theorem dX9_tellGroup_56 : decode cX9_tellGroup 56 = .ok (.iload 6, 2) := by decide +kernel
theorem dX9_tellGroup_58 : decode cX9_tellGroup 58 = .ok (.invokestatic 89, 3) := by decide +kernel
theorem dX9_tellGroup_61 : decode cX9_tellGroup 61 = .ok (.ifCond .eq 12, 3) := by decide +kernel
theorem dX9_tellGroup_64 : decode cX9_tellGroup 64 = .ok (.aload_n 0, 1) := by decide +kernel
theorem dX9_tellGroup_65 : decode cX9_tellGroup 65 = .ok (.aload_n 0, 1) := by decide +kernel
theorem dX9_tellGroup_66 : decode cX9_tellGroup 66 = .ok (.getfield 22, 3) := by decide +kernel
theorem dX9_tellGroup_69 : decode cX9_tellGroup 69 = .ok (.putfield 19, 3) := by decide +kernel
theorem dX9_tellGroup_72 : decode cX9_tellGroup 72 = .ok (.return_, 1) := by decide +kernel
theorem dX9_tellGroup_73 : decode cX9_tellGroup 73 = .ok (.iload_n 3, 1) := by decide +kernel
theorem dX9_tellGroup_74 : decode cX9_tellGroup 74 = .ok (.iconst 1, 1) := by decide +kernel
theorem dX9_tellGroup_75 : decode cX9_tellGroup 75 = .ok (.iload 6, 2) := by decide +kernel
theorem dX9_tellGroup_77 : decode cX9_tellGroup 77 = .ok (.ishl, 1) := by decide +kernel
theorem dX9_tellGroup_78 : decode cX9_tellGroup 78 = .ok (.ior, 1) := by decide +kernel
theorem dX9_tellGroup_79 : decode cX9_tellGroup 79 = .ok (.istore_n 3, 1) := by decide +kernel
theorem dX9_tellGroup_80 : decode cX9_tellGroup 80 = .ok (.aload_n 0, 1) := by decide +kernel
theorem dX9_tellGroup_81 : decode cX9_tellGroup 81 = .ok (.invokevirtual 25, 3) := by decide +kernel
theorem dX9_tellGroup_84 : decode cX9_tellGroup 84 = .ok (.aload_n 0, 1) := by decide +kernel
theorem dX9_tellGroup_85 : decode cX9_tellGroup 85 = .ok (.invokevirtual 93, 3) := by decide +kernel
theorem dX9_tellGroup_88 : decode cX9_tellGroup 88 = .ok (.istore 4, 2) := by decide +kernel
theorem dX9_tellGroup_90 : decode cX9_tellGroup 90 = .ok (.iinc 5 1, 3) := by decide +kernel
theorem dX9_tellGroup_93 : decode cX9_tellGroup 93 = .ok (.goto (-70), 3) := by decide +kernel
theorem dX9_tellGroup_96 : decode cX9_tellGroup 96 = .ok (.aload_n 1, 1) := by decide +kernel
theorem dX9_tellGroup_97 : decode cX9_tellGroup 97 = .ok (.getfield 97, 3) := by decide +kernel
theorem dX9_tellGroup_100 : decode cX9_tellGroup 100 = .ok (.aload_n 1, 1) := by decide +kernel
theorem dX9_tellGroup_101 : decode cX9_tellGroup 101 = .ok (.getfield 86, 3) := by decide +kernel
theorem dX9_tellGroup_104 : decode cX9_tellGroup 104 = .ok (.iload_n 3, 1) := by decide +kernel
theorem dX9_tellGroup_105 : decode cX9_tellGroup 105 = .ok (.iastore, 1) := by decide +kernel
theorem dX9_tellGroup_106 : decode cX9_tellGroup 106 = .ok (.aload_n 1, 1) := by decide +kernel
theorem dX9_tellGroup_107 : decode cX9_tellGroup 107 = .ok (.dup, 1) := by decide +kernel
theorem dX9_tellGroup_108 : decode cX9_tellGroup 108 = .ok (.getfield 86, 3) := by decide +kernel
theorem dX9_tellGroup_111 : decode cX9_tellGroup 111 = .ok (.iconst 1, 1) := by decide +kernel
theorem dX9_tellGroup_112 : decode cX9_tellGroup 112 = .ok (.iadd, 1) := by decide +kernel
theorem dX9_tellGroup_113 : decode cX9_tellGroup 113 = .ok (.putfield 86, 3) := by decide +kernel
theorem dX9_tellGroup_116 : decode cX9_tellGroup 116 = .ok (.return_, 1) := by decide +kernel
theorem dX9_tellDelay_0 : decode cX9_tellDelay 0 = .ok (.aload_n 0, 1) := by decide +kernel
theorem dX9_tellDelay_1 : decode cX9_tellDelay 1 = .ok (.iconst 0, 1) := by decide +kernel
theorem dX9_tellDelay_2 : decode cX9_tellDelay 2 = .ok (.aload_n 1, 1) := by decide +kernel
theorem dX9_tellDelay_3 : decode cX9_tellDelay 3 = .ok (.getfield 83, 3) := by decide +kernel
theorem dX9_tellDelay_6 : decode cX9_tellDelay 6 = .ok (.iconst 1, 1) := by decide +kernel
theorem dX9_tellDelay_7 : decode cX9_tellDelay 7 = .ok (.isub, 1) := by decide +kernel
theorem dX9_tellDelay_8 : decode cX9_tellDelay 8 = .ok (.invokevirtual 67, 3) := by decide +kernel
theorem dX9_tellDelay_11 : decode cX9_tellDelay 11 = .ok (.istore_n 2, 1) := by decide +kernel
theorem dX9_tellDelay_12 : decode cX9_tellDelay 12 = .ok (.aload_n 0, 1) := by decide +kernel
theorem dX9_tellDelay_13 : decode cX9_tellDelay 13 = .ok (.iconst 0, 1) := by decide +kernel
theorem dX9_tellDelay_14 : decode cX9_tellDelay 14 = .ok (.aload_n 1, 1) := by decide +kernel
theorem dX9_tellDelay_15 : decode cX9_tellDelay 15 = .ok (.getfield 83, 3) := by decide +kernel
theorem dX9_tellDelay_18 : decode cX9_tellDelay 18 = .ok (.iconst 1, 1) := by decide +kernel
theorem dX9_tellDelay_19 : decode cX9_tellDelay 19 = .ok (.isub, 1) := by decide +kernel
theorem dX9_tellDelay_20 : decode cX9_tellDelay 20 = .ok (.invokevirtual 67, 3) := by decide +kernel
theorem dX9_tellDelay_23 : decode cX9_tellDelay 23 = .ok (.istore_n 3, 1) := by decide +kernel
theorem dX9_tellDelay_24 : decode cX9_tellDelay 24 = .ok (.aload_n 0, 1) := by decide +kernel
theorem dX9_tellDelay_25 : decode cX9_tellDelay 25 = .ok (.iconst 1, 1) := by decide +kernel
theorem dX9_tellDelay_26 : decode cX9_tellDelay 26 = .ok (.bipush 9, 2) := by decide +kernel
theorem dX9_tellDelay_28 : decode cX9_tellDelay 28 = .ok (.invokevirtual 67, 3) := by decide +kernel
theorem dX9_tellDelay_31 : decode cX9_tellDelay 31 = .ok (.istore 4, 2) := by decide +kernel
theorem dX9_tellDelay_33 : decode cX9_tellDelay 33 = .ok (.iload 4, 2) := by decide +kernel
theorem dX9_tellDelay_35 : decode cX9_tellDelay 35 = .ok (.iconst (-1), 1) := by decide +kernel
theorem dX9_tellDelay_36 : decode cX9_tellDelay 36 = .ok (.if_icmp .eq 18, 3) := by decide +kernel
theorem dX9_tellDelay_39 : decode cX9_tellDelay 39 = .ok (.aload_n 1, 1) := by decide +kernel
theorem dX9_tellDelay_40 : decode cX9_tellDelay 40 = .ok (.getfield 101, 3) := by decide +kernel
theorem dX9_tellDelay_43 : decode cX9_tellDelay 43 = .ok (.getfield 105, 3) := by decide +kernel
theorem dX9_tellDelay_46 : decode cX9_tellDelay 46 = .ok (.iload_n 2, 1) := by decide +kernel
theorem dX9_tellDelay_47 : decode cX9_tellDelay 47 = .ok (.iload_n 3, 1) := by decide +kernel
theorem dX9_tellDelay_48 : decode cX9_tellDelay 48 = .ok (.invokestatic 109, 3) := by decide +kernel
theorem dX9_tellDelay_51 : decode cX9_tellDelay 51 = .ok (.iload 4, 2) := by decide +kernel
theorem dX9_tellDelay_53 : decode cX9_tellDelay 53 = .ok (.iastore, 1) := by decide +kernel
theorem dX9_tellDelay_54 : decode cX9_tellDelay 54 = .ok (.return_, 1) := by decide +kernel
theorem dX9_skipWord_0 : decode cX9_skipWord 0 = .ok (.aload_n 0, 1) := by decide +kernel
theorem dX9_skipWord_1 : decode cX9_skipWord 1 = .ok (.getfield 15, 3) := by decide +kernel
theorem dX9_skipWord_4 : decode cX9_skipWord 4 = .ok (.aload_n 0, 1) := by decide +kernel
theorem dX9_skipWord_5 : decode cX9_skipWord 5 = .ok (.getfield 9, 3) := by decide +kernel
theorem dX9_skipWord_8 : decode cX9_skipWord 8 = .ok (.getfield 28, 3) := by decide +kernel
theorem dX9_skipWord_11 : decode cX9_skipWord 11 = .ok (.if_icmp .ge 50, 3) := by decide +kernel
theorem dX9_skipWord_14 : decode cX9_skipWord 14 = .ok (.aload_n 0, 1) := by decide +kernel
theorem dX9_skipWord_15 : decode cX9_skipWord 15 = .ok (.getfield 9, 3) := by decide +kernel
theorem dX9_skipWord_18 : decode cX9_skipWord 18 = .ok (.getfield 37, 3) := by decide +kernel
theorem dX9_skipWord_21 : decode cX9_skipWord 21 = .ok (.aload_n 0, 1) := by decide +kernel
theorem dX9_skipWord_22 : decode cX9_skipWord 22 = .ok (.getfield 15, 3) := by decide +kernel
theorem dX9_skipWord_25 : decode cX9_skipWord 25 = .ok (.baload, 1) := by decide +kernel
theorem dX9_skipWord_26 : decode cX9_skipWord 26 = .ok (.bipush 97, 2) := by decide +kernel
theorem dX9_skipWord_28 : decode cX9_skipWord 28 = .ok (.if_icmp .lt 33, 3) := by decide +kernel
theorem dX9_skipWord_31 : decode cX9_skipWord 31 = .ok (.aload_n 0, 1) := by decide +kernel
theorem dX9_skipWord_32 : decode cX9_skipWord 32 = .ok (.getfield 9, 3) := by decide +kernel
theorem dX9_skipWord_35 : decode cX9_skipWord 35 = .ok (.getfield 37, 3) := by decide +kernel
theorem dX9_skipWord_38 : decode cX9_skipWord 38 = .ok (.aload_n 0, 1) := by decide +kernel
theorem dX9_skipWord_39 : decode cX9_skipWord 39 = .ok (.getfield 15, 3) := by decide +kernel
theorem dX9_skipWord_42 : decode cX9_skipWord 42 = .ok (.baload, 1) := by decide +kernel
theorem dX9_skipWord_43 : decode cX9_skipWord 43 = .ok (.bipush 122, 2) := by decide +kernel
theorem dX9_skipWord_45 : decode cX9_skipWord 45 = .ok (.if_icmp .gt 16, 3) := by decide +kernel
theorem dX9_skipWord_48 : decode cX9_skipWord 48 = .ok (.aload_n 0, 1) := by decide +kernel
theorem dX9_skipWord_49 : decode cX9_skipWord 49 = .ok (.dup, 1) := by decide +kernel
theorem dX9_skipWord_50 : decode cX9_skipWord 50 = .ok (.getfield 15, 3) := by decide +kernel
theorem dX9_skipWord_53 : decode cX9_skipWord 53 = .ok (.iconst 1, 1) := by decide +kernel
theorem dX9_skipWord_54 : decode cX9_skipWord 54 = .ok (.iadd, 1) := by decide +kernel
theorem dX9_skipWord_55 : decode cX9_skipWord 55 = .ok (.putfield 15, 3) := by decide +kernel
theorem dX9_skipWord_58 : decode cX9_skipWord 58 = .ok (.goto (-58), 3) := by decide +kernel
theorem dX9_skipWord_61 : decode cX9_skipWord 61 = .ok (.return_, 1) := by decide +kernel
section S_37_reader
variable {p : Program} {l : Launch} {e : Env} {R : Room} {s : State} {m : MethodId} {args : Array Value} {below : List Frame} {meth : Method} {c : Code} {A : Nat → Prop} {D : va_G} {cI cB cL : ClassId} {ad : Nat → Nat} {pa pl : Nat}
noncomputable def fX9_skipBlanks_0 : Nat → Sg → Option Sg
  | 0, _ => none
  | n + 1, u => cnd ((u 37 1) ≤ (u 36 1)) (some u) (grd (vp_in (u 36 1) 400) (cnd ((u 38 (((u 36 1) : Int32).toNatClampNeg)) = 32) (bnd (s2 u 36 1 ((u 36 1) + 1)) (fun u4 => fX9_skipBlanks_0 n u4)) (some u)))
noncomputable def fX9_skipBlanks (u : Sg) : Option Sg := fX9_skipBlanks_0 FU u
set_option maxRecDepth 10000 in
set_option maxHeartbeats 4000000 in
theorem wX9_skipBlanks_0 (C : cx D (tyl cI cB cL) A RX9 cX9_skipBlanks 1 none p s m args c meth) (hR : 0 ≤ R.frames ∧ 0 ≤ R.locals) {σ' : Sg} : ∀ (n : Nat) (u : Sg) (H : Heap) (locs : List Loc) (ls : Array Slot), lv_has ls 1 [(0, .ref (ad 36))] → st D (wR cI cB ad pa pl) A s u H locs → fX9_skipBlanks_0 n u = some σ' → W p l e R s m args below meth c H locs 0 0 (MQ below (qV D (tyl cI cB cL) (wR cI cB ad pa pl) A σ') args s 0 0 A) (F0 m 0 ls []) := by
  have hx := C.1
  have hb := C.2.1
  intro n
  induction n with
  | zero =>
    intro u H locs ls hl S h
    cases h
  | succ n ih =>
    intro u H locs ls hl S h
    rw [fX9_skipBlanks_0] at h
    have hsz := hl.1
    refine lv_aload_n hx hb dX9_skipBlanks_0 rfl (lv_at hl 0 rfl) ?_
    refine q_get (v := .int (u 36 1)) C S (oR36 cI cB ad pa pl) rfl iwX9 1 (by decide) mw_661 rfl dX9_skipBlanks_1 ?_
    refine lv_aload_n hx hb dX9_skipBlanks_4 rfl (lv_at hl 0 rfl) ?_
    refine q_get (v := .ref (ad 37)) C S (oR36 cI cB ad pa pl) rfl iwX9 0 (by decide) mw_662 rfl dX9_skipBlanks_5 ?_
    refine q_get (v := .int (u 37 1)) C S (oR37 cI cB ad pa pl) rfl iwX10 1 (by decide) mw_663 rfl dX9_skipBlanks_8 ?_
    refine lv_icmp_ge (tgt := 44) hx hb dX9_skipBlanks_11 (by decide) (fun c1 => ?_) (fun c1 => ?_)
    · have h := cnd_t c1 h
      exact q_vret C S (Option.some.inj h) dX9_skipBlanks_44
    · have h := cnd_f c1 h
      refine lv_aload_n hx hb dX9_skipBlanks_14 rfl (lv_at hl 0 rfl) ?_
      refine q_get (v := .ref (ad 37)) C S (oR36 cI cB ad pa pl) rfl iwX9 0 (by decide) mw_662 rfl dX9_skipBlanks_15 ?_
      refine q_get (v := .ref (ad 38)) C S (oR37 cI cB ad pa pl) rfl iwX10 0 (by decide) mw_664 rfl dX9_skipBlanks_18 ?_
      refine lv_aload_n hx hb dX9_skipBlanks_21 rfl (lv_at hl 0 rfl) ?_
      refine q_get (v := .int (u 36 1)) C S (oR36 cI cB ad pa pl) rfl iwX9 1 (by decide) mw_661 rfl dX9_skipBlanks_22 ?_
      obtain ⟨g2, h⟩ := grd_some h
      refine q_bald C S (aR38 cI cB ad pa pl) 1 rfl g2 dX9_skipBlanks_25 (j := ((u 36 1) : Int32).toNatClampNeg) rfl ?_
      refine lv_bipush (v := 32) hx hb dX9_skipBlanks_26 (by decide) ?_
      refine lv_icmp_ne (tgt := 44) hx hb dX9_skipBlanks_28 (by decide) (fun c3 => ?_) (fun c3 => ?_)
      · have h := cnd_f c3 h
        exact q_vret C S (Option.some.inj h) dX9_skipBlanks_44
      · have h := cnd_t c3 h
        refine lv_aload_n hx hb dX9_skipBlanks_31 rfl (lv_at hl 0 rfl) ?_
        refine lv_dup hx hb dX9_skipBlanks_32 rfl ?_
        refine q_get (v := .int (u 36 1)) C S (oR36 cI cB ad pa pl) rfl iwX9 1 (by decide) mw_661 rfl dX9_skipBlanks_33 ?_
        refine lv_iconst (v := 1) hx hb dX9_skipBlanks_36 (by decide) ?_
        refine lv_iadd hx hb dX9_skipBlanks_37 ?_
        obtain ⟨u4, eu4⟩ : ∃ z : Sg, z = s2 u 36 1 ((u 36 1) + 1) := ⟨_, rfl⟩
        have h := bnd_of eu4 h
        refine q_put C S (oR36 cI cB ad pa pl) rfl iwX9 tyX9 tyX9_ok nmX9 1 (by decide) mw_661 rfl (iR36_1 cI cB ad pa pl) rfl rfl dX9_skipBlanks_38 eu4 (fun H locs S => ?_)
        refine lv_goto (tgt := 0) hx hb dX9_skipBlanks_41 (by decide) ?_
        exact ih u4 H locs ls (lv_sub hl [0] rfl) S h
set_option maxRecDepth 10000 in
set_option maxHeartbeats 4000000 in
theorem ct_X9_skipBlanks (l : Launch) (D : va_G) (cI cB cL : ClassId) (ad : Nat → Nat) (pa pl : Nat) (u : Sg) {σ' : Sg} (h : fX9_skipBlanks u = some σ') : metV l D (tyl cI cB cL) yX9_skipBlanks cX9_skipBlanks 1 0 0 (wR cI cB ad pa pl) [.ref (ad 36)] u σ' := by
  intro sz
  refine Met.ofW (cc := cX9_skipBlanks) (maxL := 1) (ret := none) (by decide) rfl ?_
  intro p e s m args below meth c s₁ B hml hv
  obtain ⟨rfl, C, S⟩ := q_entry B hml hv
  have hl := lv_entry ([.ref (ad 36)]) (n := 1) (Nat.le_of_ble_eq_true rfl)
  rw [lg_entry_eq]
  generalize (lg_sl ([.ref (ad 36)]) ++ List.replicate (1 - (lg_sl ([.ref (ad 36)])).length) Slot.unset).toArray = ls at hl ⊢
  exact wX9_skipBlanks_0 C ⟨Nat.le_refl _, Nat.le_refl _⟩ FU u _ _ ls (lv_sub hl [0] rfl) S h
noncomputable def fX9_isDigit_0 (u : Sg) : Option Int32 := cnd ((u 37 1) ≤ (u 36 1)) (some 0) (grd (vp_in (u 36 1) 400) (cnd ((u 38 (((u 36 1) : Int32).toNatClampNeg)) < 48) (some 0) (grd (vp_in (u 36 1) 400) (cnd (57 < (u 38 (((u 36 1) : Int32).toNatClampNeg))) (some 0) (some 1)))))
noncomputable def fX9_isDigit (u : Sg) : Option Int32 := fX9_isDigit_0 u
set_option maxRecDepth 10000 in
set_option maxHeartbeats 4000000 in
theorem wX9_isDigit_0 (C : cx D (tyl cI cB cL) A RX9 cX9_isDigit 1 (some .boolean) p s m args c meth) (hR : 0 ≤ R.frames ∧ 0 ≤ R.locals) {r : Int32} (u : Sg) {H : Heap} {locs : List Loc} {ls : Array Slot} (hl : lv_has ls 1 [(0, .ref (ad 36))]) (S : st D (wR cI cB ad pa pl) A s u H locs) (h : fX9_isDigit_0 u = some r) : W p l e R s m args below meth c H locs 0 0 (MQ below (qI D (tyl cI cB cL) (wR cI cB ad pa pl) A r u) args s 0 0 A) (F0 m 0 ls []) := by
  have hx := C.1
  have hb := C.2.1
  have hsz := hl.1
  unfold fX9_isDigit_0 at h
  refine lv_aload_n hx hb dX9_isDigit_0 rfl (lv_at hl 0 rfl) ?_
  refine q_get (v := .int (u 36 1)) C S (oR36 cI cB ad pa pl) rfl iwX9 1 (by decide) mw_661 rfl dX9_isDigit_1 ?_
  refine lv_aload_n hx hb dX9_isDigit_4 rfl (lv_at hl 0 rfl) ?_
  refine q_get (v := .ref (ad 37)) C S (oR36 cI cB ad pa pl) rfl iwX9 0 (by decide) mw_662 rfl dX9_isDigit_5 ?_
  refine q_get (v := .int (u 37 1)) C S (oR37 cI cB ad pa pl) rfl iwX10 1 (by decide) mw_663 rfl dX9_isDigit_8 ?_
  refine lv_icmp_ge (tgt := 52) hx hb dX9_isDigit_11 (by decide) (fun c1 => ?_) (fun c1 => ?_)
  · have h := cnd_t c1 h
    refine lv_iconst (v := 0) hx hb dX9_isDigit_52 (by decide) ?_
    exact q_zret C S rfl (rt_R h) dX9_isDigit_53
  · have h := cnd_f c1 h
    refine lv_aload_n hx hb dX9_isDigit_14 rfl (lv_at hl 0 rfl) ?_
    refine q_get (v := .ref (ad 37)) C S (oR36 cI cB ad pa pl) rfl iwX9 0 (by decide) mw_662 rfl dX9_isDigit_15 ?_
    refine q_get (v := .ref (ad 38)) C S (oR37 cI cB ad pa pl) rfl iwX10 0 (by decide) mw_664 rfl dX9_isDigit_18 ?_
    refine lv_aload_n hx hb dX9_isDigit_21 rfl (lv_at hl 0 rfl) ?_
    refine q_get (v := .int (u 36 1)) C S (oR36 cI cB ad pa pl) rfl iwX9 1 (by decide) mw_661 rfl dX9_isDigit_22 ?_
    obtain ⟨g2, h⟩ := grd_some h
    refine q_bald C S (aR38 cI cB ad pa pl) 1 rfl g2 dX9_isDigit_25 (j := ((u 36 1) : Int32).toNatClampNeg) rfl ?_
    refine lv_bipush (v := 48) hx hb dX9_isDigit_26 (by decide) ?_
    refine lv_icmp_lt (tgt := 52) hx hb dX9_isDigit_28 (by decide) (fun c3 => ?_) (fun c3 => ?_)
    · have h := cnd_t c3 h
      refine lv_iconst (v := 0) hx hb dX9_isDigit_52 (by decide) ?_
      exact q_zret C S rfl (rt_R h) dX9_isDigit_53
    · have h := cnd_f c3 h
      refine lv_aload_n hx hb dX9_isDigit_31 rfl (lv_at hl 0 rfl) ?_
      refine q_get (v := .ref (ad 37)) C S (oR36 cI cB ad pa pl) rfl iwX9 0 (by decide) mw_662 rfl dX9_isDigit_32 ?_
      refine q_get (v := .ref (ad 38)) C S (oR37 cI cB ad pa pl) rfl iwX10 0 (by decide) mw_664 rfl dX9_isDigit_35 ?_
      refine lv_aload_n hx hb dX9_isDigit_38 rfl (lv_at hl 0 rfl) ?_
      refine q_get (v := .int (u 36 1)) C S (oR36 cI cB ad pa pl) rfl iwX9 1 (by decide) mw_661 rfl dX9_isDigit_39 ?_
      obtain ⟨g4, h⟩ := grd_some h
      refine q_bald C S (aR38 cI cB ad pa pl) 1 rfl g4 dX9_isDigit_42 (j := ((u 36 1) : Int32).toNatClampNeg) rfl ?_
      refine lv_bipush (v := 57) hx hb dX9_isDigit_43 (by decide) ?_
      refine lv_icmp_gt (tgt := 52) hx hb dX9_isDigit_45 (by decide) (fun c5 => ?_) (fun c5 => ?_)
      · have h := cnd_t c5 h
        refine lv_iconst (v := 0) hx hb dX9_isDigit_52 (by decide) ?_
        exact q_zret C S rfl (rt_R h) dX9_isDigit_53
      · have h := cnd_f c5 h
        refine lv_iconst (v := 1) hx hb dX9_isDigit_48 (by decide) ?_
        refine lv_goto (tgt := 53) hx hb dX9_isDigit_49 (by decide) ?_
        exact q_zret C S rfl (rt_R h) dX9_isDigit_53
set_option maxRecDepth 10000 in
set_option maxHeartbeats 4000000 in
theorem ct_X9_isDigit (l : Launch) (D : va_G) (cI cB cL : ClassId) (ad : Nat → Nat) (pa pl : Nat) (u : Sg) {r : Int32} (h : fX9_isDigit u = some r) : metI l D (tyl cI cB cL) yX9_isDigit cX9_isDigit 1 (some .boolean) 0 0 (wR cI cB ad pa pl) [.ref (ad 36)] u r u := by
  intro sz
  refine Met.ofW (cc := cX9_isDigit) (maxL := 1) (ret := (some .boolean)) (by decide) rfl ?_
  intro p e s m args below meth c s₁ B hml hv
  obtain ⟨rfl, C, S⟩ := q_entry B hml hv
  have hl := lv_entry ([.ref (ad 36)]) (n := 1) (Nat.le_of_ble_eq_true rfl)
  rw [lg_entry_eq]
  generalize (lg_sl ([.ref (ad 36)]) ++ List.replicate (1 - (lg_sl ([.ref (ad 36)])).length) Slot.unset).toArray = ls at hl ⊢
  exact wX9_isDigit_0 C ⟨Nat.le_refl _, Nat.le_refl _⟩ u (lv_sub hl [0] rfl) S h
noncomputable def fX9_readNumber_125 (u : Sg) : Option (Int32 × Sg) := bnd (s2 u 36 2 (u 36 3)) (fun u8 => some ((-1), u8))
noncomputable def fX9_readNumber_92 (x1 : Int32) (x2 : Int32) (x3 : Int32) (u : Sg) : Option (Int32 × Sg) := bnd ((u 36 1) - (u 36 3)) (fun v6 => cnd (v6 < 1) (fX9_readNumber_125 u) (cnd (3 < v6) (fX9_readNumber_125 u) (cnd (x3 < x1) (fX9_readNumber_125 u) (cnd (x3 ≤ x2) (some (x3, u)) (fX9_readNumber_125 u)))))
noncomputable def fX9_readNumber_79 (K24 : Int32 → Int32 → Int32 → Sg → Option (Int32 × Sg)) (x1 : Int32) (x2 : Int32) (x3 : Int32) (u : Sg) : Option (Int32 × Sg) := bnd (s2 u 36 1 ((u 36 1) + 1)) (fun u16 => K24 x1 x2 x3 u16)
noncomputable def fX9_readNumber_24 : Nat → Int32 → Int32 → Int32 → Sg → Option (Int32 × Sg)
  | 0, _, _, _, _ => none
  | n + 1, x1, x2, x3, u => cnd ((u 37 1) ≤ (u 36 1)) (fX9_readNumber_92 x1 x2 x3 u) (obr (fX9_isDigit u) (fun r13 => cnd (r13 = 0) (fX9_readNumber_92 x1 x2 x3 u) (cnd (3 ≤ ((u 36 1) - (u 36 3))) (fX9_readNumber_79 (fun a0 a1 a2 w => fX9_readNumber_24 n a0 a1 a2 w) x1 x2 x3 u) (grd (vp_in (u 36 1) 400) (bnd ((x3 * 10) + ((u 38 (((u 36 1) : Int32).toNatClampNeg)) - 48)) (fun v18 => fX9_readNumber_79 (fun a0 a1 a2 w => fX9_readNumber_24 n a0 a1 a2 w) x1 x2 v18 u))))))
noncomputable def fX9_readNumber_0 (x1 : Int32) (x2 : Int32) (u : Sg) : Option (Int32 × Sg) := cnd ((u 36 2) = (-1)) (obr (fX9_skipBlanks u) (fun u3 => bnd (s2 u3 36 3 (u3 36 1)) (fun u4 => fX9_readNumber_24 FU x1 x2 0 u4))) (some ((-1), u))
noncomputable def fX9_readNumber (x1 : Int32) (x2 : Int32) (u : Sg) : Option (Int32 × Sg) := fX9_readNumber_0 x1 x2 u
set_option maxRecDepth 10000 in
set_option maxHeartbeats 4000000 in
theorem wX9_readNumber_125 (C : cx D (tyl cI cB cL) A RX9 cX9_readNumber 5 (some .int) p s m args c meth) (hR : 1 ≤ R.frames ∧ 20 ≤ R.locals) {r : Int32} {σ' : Sg} (u : Sg) {H : Heap} {locs : List Loc} {ls : Array Slot} (hl : lv_has ls 5 [(0, .ref (ad 36))]) (S : st D (wR cI cB ad pa pl) A s u H locs) (h : fX9_readNumber_125 u = some (r, σ')) : W p l e R s m args below meth c H locs 0 0 (MQ below (qI D (tyl cI cB cL) (wR cI cB ad pa pl) A r σ') args s 0 0 A) (F0 m 125 ls []) := by
  have hx := C.1
  have hb := C.2.1
  have hsz := hl.1
  unfold fX9_readNumber_125 at h
  refine lv_aload_n hx hb dX9_readNumber_125 rfl (lv_at hl 0 rfl) ?_
  refine lv_aload_n hx hb dX9_readNumber_126 rfl (lv_at hl 0 rfl) ?_
  refine q_get (v := .int (u 36 3)) C S (oR36 cI cB ad pa pl) rfl iwX9 3 (by decide) mw_671 rfl dX9_readNumber_127 ?_
  obtain ⟨u8, eu8⟩ : ∃ z : Sg, z = s2 u 36 2 (u 36 3) := ⟨_, rfl⟩
  have h := bnd_of eu8 h
  refine q_put C S (oR36 cI cB ad pa pl) rfl iwX9 tyX9 tyX9_ok nmX9 2 (by decide) mw_665 rfl (iR36_2 cI cB ad pa pl) rfl rfl dX9_readNumber_130 eu8 (fun H locs S => ?_)
  refine lv_iconst (v := (-1)) hx hb dX9_readNumber_133 (by decide) ?_
  exact q_iret C S (rt_S h) dX9_readNumber_134
set_option maxRecDepth 10000 in
set_option maxHeartbeats 4000000 in
theorem wX9_readNumber_92 (C : cx D (tyl cI cB cL) A RX9 cX9_readNumber 5 (some .int) p s m args c meth) (hR : 1 ≤ R.frames ∧ 20 ≤ R.locals) {r : Int32} {σ' : Sg} (u : Sg) (x1 : Int32) (x2 : Int32) (x3 : Int32) {H : Heap} {locs : List Loc} {ls : Array Slot} (hl : lv_has ls 5 [(0, .ref (ad 36)), (1, .int x1), (2, .int x2), (3, .int x3)]) (S : st D (wR cI cB ad pa pl) A s u H locs) (h : fX9_readNumber_92 x1 x2 x3 u = some (r, σ')) : W p l e R s m args below meth c H locs 0 0 (MQ below (qI D (tyl cI cB cL) (wR cI cB ad pa pl) A r σ') args s 0 0 A) (F0 m 92 ls []) := by
  have hx := C.1
  have hb := C.2.1
  have hsz := hl.1
  unfold fX9_readNumber_92 at h
  refine lv_aload_n hx hb dX9_readNumber_92 rfl (lv_at hl 0 rfl) ?_
  refine q_get (v := .int (u 36 1)) C S (oR36 cI cB ad pa pl) rfl iwX9 1 (by decide) mw_661 rfl dX9_readNumber_93 ?_
  refine lv_aload_n hx hb dX9_readNumber_96 rfl (lv_at hl 0 rfl) ?_
  refine q_get (v := .int (u 36 3)) C S (oR36 cI cB ad pa pl) rfl iwX9 3 (by decide) mw_671 rfl dX9_readNumber_97 ?_
  refine lv_isub hx hb dX9_readNumber_100 ?_
  refine lv_topi (fun v6 ev6 => ?_)
  have h := bnd_of ev6 h
  refine lv_istore (lv' := [(4, .int v6), (0, .ref (ad 36)), (1, .int x1), (2, .int x2), (3, .int x3)]) hx hb dX9_readNumber_101 hl (by decide) rfl (fun ls hl => ?_)
  have hsz := hl.1
  refine lv_iload hx hb dX9_readNumber_103 (lv_at hl 0 rfl) ?_
  refine lv_iconst (v := 1) hx hb dX9_readNumber_105 (by decide) ?_
  refine lv_icmp_lt (tgt := 125) hx hb dX9_readNumber_106 (by decide) (fun c7 => ?_) (fun c7 => ?_)
  · have h := cnd_t c7 h
    exact wX9_readNumber_125 C hR u (lv_sub hl [1] rfl) S h
  · have h := cnd_f c7 h
    refine lv_iload hx hb dX9_readNumber_109 (lv_at hl 0 rfl) ?_
    refine lv_iconst (v := 3) hx hb dX9_readNumber_111 (by decide) ?_
    refine lv_icmp_gt (tgt := 125) hx hb dX9_readNumber_112 (by decide) (fun c9 => ?_) (fun c9 => ?_)
    · have h := cnd_t c9 h
      exact wX9_readNumber_125 C hR u (lv_sub hl [1] rfl) S h
    · have h := cnd_f c9 h
      refine lv_iload_n hx hb dX9_readNumber_115 rfl (lv_at hl 4 rfl) ?_
      refine lv_iload_n hx hb dX9_readNumber_116 rfl (lv_at hl 2 rfl) ?_
      refine lv_icmp_lt (tgt := 125) hx hb dX9_readNumber_117 (by decide) (fun c10 => ?_) (fun c10 => ?_)
      · have h := cnd_t c10 h
        exact wX9_readNumber_125 C hR u (lv_sub hl [1] rfl) S h
      · have h := cnd_f c10 h
        refine lv_iload_n hx hb dX9_readNumber_120 rfl (lv_at hl 4 rfl) ?_
        refine lv_iload_n hx hb dX9_readNumber_121 rfl (lv_at hl 3 rfl) ?_
        refine lv_icmp_le (tgt := 135) hx hb dX9_readNumber_122 (by decide) (fun c11 => ?_) (fun c11 => ?_)
        · have h := cnd_t c11 h
          refine lv_iload_n hx hb dX9_readNumber_135 rfl (lv_at hl 4 rfl) ?_
          exact q_iret C S (rt_S h) dX9_readNumber_136
        · have h := cnd_f c11 h
          exact wX9_readNumber_125 C hR u (lv_sub hl [1] rfl) S h
set_option maxRecDepth 10000 in
set_option maxHeartbeats 4000000 in
theorem wX9_readNumber_79 (C : cx D (tyl cI cB cL) A RX9 cX9_readNumber 5 (some .int) p s m args c meth) (hR : 1 ≤ R.frames ∧ 20 ≤ R.locals) {r : Int32} {σ' : Sg} (u : Sg) {K24 : Int32 → Int32 → Int32 → Sg → Option (Int32 × Sg)} (hK24 : ∀ (y1 : Int32) (y2 : Int32) (y3 : Int32) (v : Sg) (H : Heap) (locs : List Loc) (ls : Array Slot), lv_has ls 5 [(0, .ref (ad 36)), (1, .int y1), (2, .int y2), (3, .int y3)] → st D (wR cI cB ad pa pl) A s v H locs → K24 y1 y2 y3 v = some (r, σ') → W p l e R s m args below meth c H locs 0 0 (MQ below (qI D (tyl cI cB cL) (wR cI cB ad pa pl) A r σ') args s 0 0 A) (F0 m 24 ls [])) (x1 : Int32) (x2 : Int32) (x3 : Int32) {H : Heap} {locs : List Loc} {ls : Array Slot} (hl : lv_has ls 5 [(0, .ref (ad 36)), (1, .int x1), (2, .int x2), (3, .int x3)]) (S : st D (wR cI cB ad pa pl) A s u H locs) (h : fX9_readNumber_79 K24 x1 x2 x3 u = some (r, σ')) : W p l e R s m args below meth c H locs 0 0 (MQ below (qI D (tyl cI cB cL) (wR cI cB ad pa pl) A r σ') args s 0 0 A) (F0 m 79 ls []) := by
  have hx := C.1
  have hb := C.2.1
  have hsz := hl.1
  unfold fX9_readNumber_79 at h
  refine lv_aload_n hx hb dX9_readNumber_79 rfl (lv_at hl 0 rfl) ?_
  refine lv_dup hx hb dX9_readNumber_80 rfl ?_
  refine q_get (v := .int (u 36 1)) C S (oR36 cI cB ad pa pl) rfl iwX9 1 (by decide) mw_661 rfl dX9_readNumber_81 ?_
  refine lv_iconst (v := 1) hx hb dX9_readNumber_84 (by decide) ?_
  refine lv_iadd hx hb dX9_readNumber_85 ?_
  obtain ⟨u16, eu16⟩ : ∃ z : Sg, z = s2 u 36 1 ((u 36 1) + 1) := ⟨_, rfl⟩
  have h := bnd_of eu16 h
  refine q_put C S (oR36 cI cB ad pa pl) rfl iwX9 tyX9 tyX9_ok nmX9 1 (by decide) mw_661 rfl (iR36_1 cI cB ad pa pl) rfl rfl dX9_readNumber_86 eu16 (fun H locs S => ?_)
  refine lv_goto (tgt := 24) hx hb dX9_readNumber_89 (by decide) ?_
  exact hK24 x1 x2 x3 u16 H locs ls (lv_sub hl [0, 1, 2, 3] rfl) S h
set_option maxRecDepth 10000 in
set_option maxHeartbeats 4000000 in
theorem wX9_readNumber_24 (C : cx D (tyl cI cB cL) A RX9 cX9_readNumber 5 (some .int) p s m args c meth) (hR : 1 ≤ R.frames ∧ 20 ≤ R.locals) {r : Int32} {σ' : Sg} : ∀ (n : Nat) (x1 : Int32) (x2 : Int32) (x3 : Int32) (u : Sg) (H : Heap) (locs : List Loc) (ls : Array Slot), lv_has ls 5 [(0, .ref (ad 36)), (1, .int x1), (2, .int x2), (3, .int x3)] → st D (wR cI cB ad pa pl) A s u H locs → fX9_readNumber_24 n x1 x2 x3 u = some (r, σ') → W p l e R s m args below meth c H locs 0 0 (MQ below (qI D (tyl cI cB cL) (wR cI cB ad pa pl) A r σ') args s 0 0 A) (F0 m 24 ls []) := by
  have hx := C.1
  have hb := C.2.1
  intro n
  induction n with
  | zero =>
    intro x1 x2 x3 u H locs ls hl S h
    cases h
  | succ n ih =>
    intro x1 x2 x3 u H locs ls hl S h
    rw [fX9_readNumber_24] at h
    have hsz := hl.1
    refine lv_aload_n hx hb dX9_readNumber_24 rfl (lv_at hl 0 rfl) ?_
    refine q_get (v := .int (u 36 1)) C S (oR36 cI cB ad pa pl) rfl iwX9 1 (by decide) mw_661 rfl dX9_readNumber_25 ?_
    refine lv_aload_n hx hb dX9_readNumber_28 rfl (lv_at hl 0 rfl) ?_
    refine q_get (v := .ref (ad 37)) C S (oR36 cI cB ad pa pl) rfl iwX9 0 (by decide) mw_662 rfl dX9_readNumber_29 ?_
    refine q_get (v := .int (u 37 1)) C S (oR37 cI cB ad pa pl) rfl iwX10 1 (by decide) mw_663 rfl dX9_readNumber_32 ?_
    refine lv_icmp_ge (tgt := 92) hx hb dX9_readNumber_35 (by decide) (fun c5 => ?_) (fun c5 => ?_)
    · have h := cnd_t c5 h
      exact wX9_readNumber_92 C hR u x1 x2 x3 (lv_sub hl [0, 1, 2, 3] rfl) S h
    · have h := cnd_f c5 h
      refine lv_aload_n hx hb dX9_readNumber_38 rfl (lv_at hl 0 rfl) ?_
      obtain ⟨r13, h12, h⟩ := obr_some h
      refine q_callVi (As := []) (na := 0) C S (oR36 cI cB ad pa pl) rfl (ct_X9_isDigit l D cI cB cL ad pa pl u h12) mw_674 mw_673 mw_675 mw_667 mw_672 hdX9_isDigit ⟨Nat.le_trans (Nat.le_of_ble_eq_true rfl) hR.1, Nat.le_trans (Nat.le_of_ble_eq_true rfl) hR.2⟩ rfl hsz ⟨Nat.zero_le _, Nat.zero_le _⟩ (Nat.le_of_ble_eq_true rfl) dX9_readNumber_39 rfl (fun H locs S => ?_)
      refine lv_if_eq (tgt := 92) hx hb dX9_readNumber_42 (by decide) (fun c14 => ?_) (fun c14 => ?_)
      · have h := cnd_t c14 h
        exact wX9_readNumber_92 C hR u x1 x2 x3 (lv_sub hl [0, 1, 2, 3] rfl) S h
      · have h := cnd_f c14 h
        refine lv_aload_n hx hb dX9_readNumber_45 rfl (lv_at hl 0 rfl) ?_
        refine q_get (v := .int (u 36 1)) C S (oR36 cI cB ad pa pl) rfl iwX9 1 (by decide) mw_661 rfl dX9_readNumber_46 ?_
        refine lv_aload_n hx hb dX9_readNumber_49 rfl (lv_at hl 0 rfl) ?_
        refine q_get (v := .int (u 36 3)) C S (oR36 cI cB ad pa pl) rfl iwX9 3 (by decide) mw_671 rfl dX9_readNumber_50 ?_
        refine lv_isub hx hb dX9_readNumber_53 ?_
        refine lv_iconst (v := 3) hx hb dX9_readNumber_54 (by decide) ?_
        refine lv_icmp_ge (tgt := 79) hx hb dX9_readNumber_55 (by decide) (fun c15 => ?_) (fun c15 => ?_)
        · have h := cnd_t c15 h
          exact wX9_readNumber_79 C hR u ih x1 x2 x3 (lv_sub hl [0, 1, 2, 3] rfl) S h
        · have h := cnd_f c15 h
          refine lv_iload_n hx hb dX9_readNumber_58 rfl (lv_at hl 3 rfl) ?_
          refine lv_bipush (v := 10) hx hb dX9_readNumber_59 (by decide) ?_
          refine lv_imul hx hb dX9_readNumber_61 ?_
          refine lv_aload_n hx hb dX9_readNumber_62 rfl (lv_at hl 0 rfl) ?_
          refine q_get (v := .ref (ad 37)) C S (oR36 cI cB ad pa pl) rfl iwX9 0 (by decide) mw_662 rfl dX9_readNumber_63 ?_
          refine q_get (v := .ref (ad 38)) C S (oR37 cI cB ad pa pl) rfl iwX10 0 (by decide) mw_664 rfl dX9_readNumber_66 ?_
          refine lv_aload_n hx hb dX9_readNumber_69 rfl (lv_at hl 0 rfl) ?_
          refine q_get (v := .int (u 36 1)) C S (oR36 cI cB ad pa pl) rfl iwX9 1 (by decide) mw_661 rfl dX9_readNumber_70 ?_
          obtain ⟨g17, h⟩ := grd_some h
          refine q_bald C S (aR38 cI cB ad pa pl) 1 rfl g17 dX9_readNumber_73 (j := ((u 36 1) : Int32).toNatClampNeg) rfl ?_
          refine lv_bipush (v := 48) hx hb dX9_readNumber_74 (by decide) ?_
          refine lv_isub hx hb dX9_readNumber_76 ?_
          refine lv_iadd hx hb dX9_readNumber_77 ?_
          refine lv_topi (fun v18 ev18 => ?_)
          have h := bnd_of ev18 h
          refine lv_istore_n (lv' := [(3, .int v18), (0, .ref (ad 36)), (1, .int x1), (2, .int x2)]) hx hb dX9_readNumber_78 rfl hl (by decide) rfl (fun ls hl => ?_)
          have hsz := hl.1
          exact wX9_readNumber_79 C hR u ih x1 x2 v18 (lv_sub hl [1, 2, 3, 0] rfl) S h
set_option maxRecDepth 10000 in
set_option maxHeartbeats 4000000 in
theorem wX9_readNumber_0 (C : cx D (tyl cI cB cL) A RX9 cX9_readNumber 5 (some .int) p s m args c meth) (hR : 1 ≤ R.frames ∧ 20 ≤ R.locals) {r : Int32} {σ' : Sg} (u : Sg) (x1 : Int32) (x2 : Int32) {H : Heap} {locs : List Loc} {ls : Array Slot} (hl : lv_has ls 5 [(0, .ref (ad 36)), (1, .int x1), (2, .int x2)]) (S : st D (wR cI cB ad pa pl) A s u H locs) (h : fX9_readNumber_0 x1 x2 u = some (r, σ')) : W p l e R s m args below meth c H locs 0 0 (MQ below (qI D (tyl cI cB cL) (wR cI cB ad pa pl) A r σ') args s 0 0 A) (F0 m 0 ls []) := by
  have hx := C.1
  have hb := C.2.1
  have hsz := hl.1
  unfold fX9_readNumber_0 at h
  refine lv_aload_n hx hb dX9_readNumber_0 rfl (lv_at hl 0 rfl) ?_
  refine q_get (v := .int (u 36 2)) C S (oR36 cI cB ad pa pl) rfl iwX9 2 (by decide) mw_665 rfl dX9_readNumber_1 ?_
  refine lv_iconst (v := (-1)) hx hb dX9_readNumber_4 (by decide) ?_
  refine lv_icmp_eq (tgt := 10) hx hb dX9_readNumber_5 (by decide) (fun c1 => ?_) (fun c1 => ?_)
  · have h := cnd_t c1 h
    refine lv_aload_n hx hb dX9_readNumber_10 rfl (lv_at hl 0 rfl) ?_
    obtain ⟨u3, h2, h⟩ := obr_some h
    refine q_callVv (As := []) (na := 0) C S (oR36 cI cB ad pa pl) rfl (ct_X9_skipBlanks l D cI cB cL ad pa pl u h2) mw_669 mw_668 mw_670 mw_667 mw_666 hdX9_skipBlanks ⟨Nat.le_trans (Nat.le_of_ble_eq_true rfl) hR.1, Nat.le_trans (Nat.le_of_ble_eq_true rfl) hR.2⟩ rfl hsz ⟨Nat.zero_le _, Nat.zero_le _⟩ (Nat.le_of_ble_eq_true rfl) dX9_readNumber_11 rfl (fun H locs S => ?_)
    refine lv_aload_n hx hb dX9_readNumber_14 rfl (lv_at hl 0 rfl) ?_
    refine lv_aload_n hx hb dX9_readNumber_15 rfl (lv_at hl 0 rfl) ?_
    refine q_get (v := .int (u3 36 1)) C S (oR36 cI cB ad pa pl) rfl iwX9 1 (by decide) mw_661 rfl dX9_readNumber_16 ?_
    obtain ⟨u4, eu4⟩ : ∃ z : Sg, z = s2 u3 36 3 (u3 36 1) := ⟨_, rfl⟩
    have h := bnd_of eu4 h
    refine q_put C S (oR36 cI cB ad pa pl) rfl iwX9 tyX9 tyX9_ok nmX9 3 (by decide) mw_671 rfl (iR36_3 cI cB ad pa pl) rfl rfl dX9_readNumber_19 eu4 (fun H locs S => ?_)
    refine lv_iconst (v := 0) hx hb dX9_readNumber_22 (by decide) ?_
    refine lv_istore_n (lv' := [(3, .int 0), (0, .ref (ad 36)), (1, .int x1), (2, .int x2)]) hx hb dX9_readNumber_23 rfl hl (by decide) rfl (fun ls hl => ?_)
    have hsz := hl.1
    exact wX9_readNumber_24 C hR FU x1 x2 0 u4 H locs ls (lv_sub hl [1, 2, 3, 0] rfl) S h
  · have h := cnd_f c1 h
    refine lv_iconst (v := (-1)) hx hb dX9_readNumber_8 (by decide) ?_
    exact q_iret C S (rt_S h) dX9_readNumber_9
set_option maxRecDepth 10000 in
set_option maxHeartbeats 4000000 in
theorem ct_X9_readNumber (l : Launch) (D : va_G) (cI cB cL : ClassId) (ad : Nat → Nat) (pa pl : Nat) (x1 : Int32) (x2 : Int32) (u : Sg) {r : Int32} {σ' : Sg} (h : fX9_readNumber x1 x2 u = some (r, σ')) : metI l D (tyl cI cB cL) yX9_readNumber cX9_readNumber 5 (some .int) 1 20 (wR cI cB ad pa pl) [.ref (ad 36), .int x1, .int x2] u r σ' := by
  intro sz
  refine Met.ofW (cc := cX9_readNumber) (maxL := 5) (ret := (some .int)) (by decide) rfl ?_
  intro p e s m args below meth c s₁ B hml hv
  obtain ⟨rfl, C, S⟩ := q_entry B hml hv
  have hl := lv_entry ([.ref (ad 36), .int x1, .int x2]) (n := 5) (Nat.le_of_ble_eq_true rfl)
  rw [lg_entry_eq]
  generalize (lg_sl ([.ref (ad 36), .int x1, .int x2]) ++ List.replicate (5 - (lg_sl ([.ref (ad 36), .int x1, .int x2])).length) Slot.unset).toArray = ls at hl ⊢
  exact wX9_readNumber_0 C ⟨Nat.le_refl _, Nat.le_refl _⟩ u x1 x2 (lv_sub hl [0, 1, 2] rfl) S h
noncomputable def fX9_tellNodes_11 (x2 : Int32) (u : Sg) : Option Sg := bnd (s2 u 36 2 x2) (fun u2 => some u2)
noncomputable def fX9_tellNodes_0 (x2 : Int32) (x3 : Int32) (u : Sg) : Option Sg := cnd (0 < x3) (fX9_tellNodes_11 x2 u) (cnd ((u 0 0) ≤ 0) (obd (fX9_readNumber 1 6 u) (fun r5 u6 => cnd (r5 = (-1)) (some u6) (bnd (s2 u6 0 0 r5) (fun u8 => some u8)))) (fX9_tellNodes_11 x2 u))
noncomputable def fX9_tellNodes (x2 : Int32) (x3 : Int32) (u : Sg) : Option Sg := fX9_tellNodes_0 x2 x3 u
set_option maxRecDepth 10000 in
set_option maxHeartbeats 4000000 in
theorem wX9_tellNodes_11 (C : cx D (tyl cI cB cL) A RX9 cX9_tellNodes 5 none p s m args c meth) (hR : 2 ≤ R.frames ∧ 44 ≤ R.locals) {σ' : Sg} (u : Sg) (x2 : Int32) {H : Heap} {locs : List Loc} {ls : Array Slot} (hl : lv_has ls 5 [(0, .ref (ad 36)), (2, .int x2)]) (S : st D (wR cI cB ad pa pl) A s u H locs) (h : fX9_tellNodes_11 x2 u = some σ') : W p l e R s m args below meth c H locs 0 0 (MQ below (qV D (tyl cI cB cL) (wR cI cB ad pa pl) A σ') args s 0 0 A) (F0 m 11 ls []) := by
  have hx := C.1
  have hb := C.2.1
  have hsz := hl.1
  unfold fX9_tellNodes_11 at h
  refine lv_aload_n hx hb dX9_tellNodes_11 rfl (lv_at hl 0 rfl) ?_
  refine lv_iload_n hx hb dX9_tellNodes_12 rfl (lv_at hl 1 rfl) ?_
  obtain ⟨u2, eu2⟩ : ∃ z : Sg, z = s2 u 36 2 x2 := ⟨_, rfl⟩
  have h := bnd_of eu2 h
  refine q_put C S (oR36 cI cB ad pa pl) rfl iwX9 tyX9 tyX9_ok nmX9 2 (by decide) mw_665 rfl (iR36_2 cI cB ad pa pl) rfl rfl dX9_tellNodes_13 eu2 (fun H locs S => ?_)
  exact q_vret C S (Option.some.inj h) dX9_tellNodes_16
set_option maxRecDepth 10000 in
set_option maxHeartbeats 4000000 in
theorem wX9_tellNodes_0 (C : cx D (tyl cI cB cL) A RX9 cX9_tellNodes 5 none p s m args c meth) (hR : 2 ≤ R.frames ∧ 44 ≤ R.locals) {σ' : Sg} (u : Sg) (x2 : Int32) (x3 : Int32) {H : Heap} {locs : List Loc} {ls : Array Slot} (hl : lv_has ls 5 [(0, .ref (ad 36)), (1, .ref (ad 0)), (2, .int x2), (3, .int x3)]) (S : st D (wR cI cB ad pa pl) A s u H locs) (h : fX9_tellNodes_0 x2 x3 u = some σ') : W p l e R s m args below meth c H locs 0 0 (MQ below (qV D (tyl cI cB cL) (wR cI cB ad pa pl) A σ') args s 0 0 A) (F0 m 0 ls []) := by
  have hx := C.1
  have hb := C.2.1
  have hsz := hl.1
  unfold fX9_tellNodes_0 at h
  refine lv_iload_n hx hb dX9_tellNodes_0 rfl (lv_at hl 3 rfl) ?_
  refine lv_if_gt (tgt := 11) hx hb dX9_tellNodes_1 (by decide) (fun c1 => ?_) (fun c1 => ?_)
  · have h := cnd_t c1 h
    exact wX9_tellNodes_11 C hR u x2 (lv_sub hl [0, 2] rfl) S h
  · have h := cnd_f c1 h
    refine lv_aload_n hx hb dX9_tellNodes_4 rfl (lv_at hl 1 rfl) ?_
    refine q_get (v := .int (u 0 0)) C S (oR0 cI cB ad pa pl) rfl iwX7 0 (by decide) mw_676 rfl dX9_tellNodes_5 ?_
    refine lv_if_le (tgt := 17) hx hb dX9_tellNodes_8 (by decide) (fun c3 => ?_) (fun c3 => ?_)
    · have h := cnd_t c3 h
      refine lv_aload_n hx hb dX9_tellNodes_17 rfl (lv_at hl 0 rfl) ?_
      refine lv_iconst (v := 1) hx hb dX9_tellNodes_18 (by decide) ?_
      refine lv_bipush (v := 6) hx hb dX9_tellNodes_19 (by decide) ?_
      obtain ⟨r5, u6, h4, h⟩ := obd_some h
      refine q_callVi (As := [.int 1, .int 6]) (na := 2) C S (oR36 cI cB ad pa pl) rfl (ct_X9_readNumber l D cI cB cL ad pa pl 1 6 u h4) mw_679 mw_678 mw_680 mw_667 mw_677 hdX9_readNumber ⟨Nat.le_trans (Nat.le_of_ble_eq_true rfl) hR.1, Nat.le_trans (Nat.le_of_ble_eq_true rfl) hR.2⟩ rfl hsz ⟨Nat.zero_le _, Nat.zero_le _⟩ (Nat.le_of_ble_eq_true rfl) dX9_tellNodes_21 rfl (fun H locs S => ?_)
      refine lv_istore (lv' := [(4, .int r5), (0, .ref (ad 36)), (1, .ref (ad 0)), (2, .int x2), (3, .int x3)]) hx hb dX9_tellNodes_24 hl (by decide) rfl (fun ls hl => ?_)
      have hsz := hl.1
      refine lv_iload hx hb dX9_tellNodes_26 (lv_at hl 0 rfl) ?_
      refine lv_iconst (v := (-1)) hx hb dX9_tellNodes_28 (by decide) ?_
      refine lv_icmp_eq (tgt := 38) hx hb dX9_tellNodes_29 (by decide) (fun c7 => ?_) (fun c7 => ?_)
      · have h := cnd_t c7 h
        exact q_vret C S (Option.some.inj h) dX9_tellNodes_38
      · have h := cnd_f c7 h
        refine lv_aload_n hx hb dX9_tellNodes_32 rfl (lv_at hl 2 rfl) ?_
        refine lv_iload hx hb dX9_tellNodes_33 (lv_at hl 0 rfl) ?_
        obtain ⟨u8, eu8⟩ : ∃ z : Sg, z = s2 u6 0 0 r5 := ⟨_, rfl⟩
        have h := bnd_of eu8 h
        refine q_put C S (oR0 cI cB ad pa pl) rfl iwX7 tyX7 tyX7_ok nmX7 0 (by decide) mw_676 rfl (iR0_0 cI cB ad pa pl) rfl rfl dX9_tellNodes_35 eu8 (fun H locs S => ?_)
        exact q_vret C S (Option.some.inj h) dX9_tellNodes_38
    · have h := cnd_f c3 h
      exact wX9_tellNodes_11 C hR u x2 (lv_sub hl [0, 2] rfl) S h
set_option maxRecDepth 10000 in
set_option maxHeartbeats 4000000 in
theorem ct_X9_tellNodes (l : Launch) (D : va_G) (cI cB cL : ClassId) (ad : Nat → Nat) (pa pl : Nat) (x2 : Int32) (x3 : Int32) (u : Sg) {σ' : Sg} (h : fX9_tellNodes x2 x3 u = some σ') : metV l D (tyl cI cB cL) yX9_tellNodes cX9_tellNodes 5 2 44 (wR cI cB ad pa pl) [.ref (ad 36), .ref (ad 0), .int x2, .int x3] u σ' := by
  intro sz
  refine Met.ofW (cc := cX9_tellNodes) (maxL := 5) (ret := none) (by decide) rfl ?_
  intro p e s m args below meth c s₁ B hml hv
  obtain ⟨rfl, C, S⟩ := q_entry B hml hv
  have hl := lv_entry ([.ref (ad 36), .ref (ad 0), .int x2, .int x3]) (n := 5) (Nat.le_of_ble_eq_true rfl)
  rw [lg_entry_eq]
  generalize (lg_sl ([.ref (ad 36), .ref (ad 0), .int x2, .int x3]) ++ List.replicate (5 - (lg_sl ([.ref (ad 36), .ref (ad 0), .int x2, .int x3])).length) Slot.unset).toArray = ls at hl ⊢
  exact wX9_tellNodes_0 C ⟨Nat.le_refl _, Nat.le_refl _⟩ u x2 x3 (lv_sub hl [0, 1, 2, 3] rfl) S h
noncomputable def fX9_tellGroup_96 (x3 : Int32) (u : Sg) : Option Sg := grd (vp_in (u 0 1) 6) (bnd (s2 u 1 (((u 0 1) : Int32).toNatClampNeg) x3) (fun u4 => bnd (s2 u4 0 1 ((u4 0 1) + 1)) (fun u5 => some u5)))
noncomputable def fX9_tellGroup_23 : Nat → Int32 → Int32 → Int32 → Sg → Option Sg
  | 0, _, _, _, _ => none
  | n + 1, x3, x4, x5, u => cnd (6 < x5) (fX9_tellGroup_96 x3 u) (cnd (x4 = 0) (fX9_tellGroup_96 x3 u) (obd (fX9_readNumber 0 ((u 0 0) - 1) u) (fun r8 u9 => cnd (r8 = (-1)) (some u9) (cnd ((fX11_isIn x3 r8) = 0) (bnd (x3 ||| ((1 : Int32) <<< ((r8 &&& 31 : Int32)))) (fun v12 => obr (fX9_skipBlanks u9) (fun u14 => obr (fX9_isDigit u14) (fun r16 => bnd (x5 + 1) (fun v17 => fX9_tellGroup_23 n v12 r16 v17 u14))))) (bnd (s2 u9 36 2 (u9 36 3)) (fun u18 => some u18))))))
noncomputable def fX9_tellGroup_0 (x2 : Int32) (u : Sg) : Option Sg := cnd ((u 0 1) < 6) (fX9_tellGroup_23 FU 0 1 0 u) (bnd (s2 u 36 2 x2) (fun u19 => some u19))
noncomputable def fX9_tellGroup (x2 : Int32) (u : Sg) : Option Sg := fX9_tellGroup_0 x2 u
set_option maxRecDepth 10000 in
set_option maxHeartbeats 4000000 in
theorem wX9_tellGroup_96 (C : cx D (tyl cI cB cL) A RX9 cX9_tellGroup 7 none p s m args c meth) (hR : 2 ≤ R.frames ∧ 44 ≤ R.locals) {σ' : Sg} (u : Sg) (x3 : Int32) {H : Heap} {locs : List Loc} {ls : Array Slot} (hl : lv_has ls 7 [(1, .ref (ad 0)), (3, .int x3)]) (S : st D (wR cI cB ad pa pl) A s u H locs) (h : fX9_tellGroup_96 x3 u = some σ') : W p l e R s m args below meth c H locs 0 0 (MQ below (qV D (tyl cI cB cL) (wR cI cB ad pa pl) A σ') args s 0 0 A) (F0 m 96 ls []) := by
  have hx := C.1
  have hb := C.2.1
  have hsz := hl.1
  unfold fX9_tellGroup_96 at h
  refine lv_aload_n hx hb dX9_tellGroup_96 rfl (lv_at hl 0 rfl) ?_
  refine q_get (v := .ref (ad 1)) C S (oR0 cI cB ad pa pl) rfl iwX7 9 (by decide) mw_682 rfl dX9_tellGroup_97 ?_
  refine lv_aload_n hx hb dX9_tellGroup_100 rfl (lv_at hl 0 rfl) ?_
  refine q_get (v := .int (u 0 1)) C S (oR0 cI cB ad pa pl) rfl iwX7 1 (by decide) mw_681 rfl dX9_tellGroup_101 ?_
  refine lv_iload_n hx hb dX9_tellGroup_104 rfl (lv_at hl 1 rfl) ?_
  obtain ⟨g3, h⟩ := grd_some h
  obtain ⟨u4, eu4⟩ : ∃ z : Sg, z = s2 u 1 (((u 0 1) : Int32).toNatClampNeg) x3 := ⟨_, rfl⟩
  have h := bnd_of eu4 h
  refine q_iast C S (aR1 cI cB ad pa pl) 0 rfl g3 dX9_tellGroup_105 (j := ((u 0 1) : Int32).toNatClampNeg) rfl eu4 (fun H locs S => ?_)
  refine lv_aload_n hx hb dX9_tellGroup_106 rfl (lv_at hl 0 rfl) ?_
  refine lv_dup hx hb dX9_tellGroup_107 rfl ?_
  refine q_get (v := .int (u4 0 1)) C S (oR0 cI cB ad pa pl) rfl iwX7 1 (by decide) mw_681 rfl dX9_tellGroup_108 ?_
  refine lv_iconst (v := 1) hx hb dX9_tellGroup_111 (by decide) ?_
  refine lv_iadd hx hb dX9_tellGroup_112 ?_
  obtain ⟨u5, eu5⟩ : ∃ z : Sg, z = s2 u4 0 1 ((u4 0 1) + 1) := ⟨_, rfl⟩
  have h := bnd_of eu5 h
  refine q_put C S (oR0 cI cB ad pa pl) rfl iwX7 tyX7 tyX7_ok nmX7 1 (by decide) mw_681 rfl (iR0_1 cI cB ad pa pl) rfl rfl dX9_tellGroup_113 eu5 (fun H locs S => ?_)
  exact q_vret C S (Option.some.inj h) dX9_tellGroup_116
set_option maxRecDepth 10000 in
set_option maxHeartbeats 4000000 in
theorem wX9_tellGroup_23 (C : cx D (tyl cI cB cL) A RX9 cX9_tellGroup 7 none p s m args c meth) (hR : 2 ≤ R.frames ∧ 44 ≤ R.locals) {σ' : Sg} : ∀ (n : Nat) (x3 : Int32) (x4 : Int32) (x5 : Int32) (u : Sg) (H : Heap) (locs : List Loc) (ls : Array Slot), lv_has ls 7 [(0, .ref (ad 36)), (1, .ref (ad 0)), (3, .int x3), (4, .int x4), (5, .int x5)] → st D (wR cI cB ad pa pl) A s u H locs → fX9_tellGroup_23 n x3 x4 x5 u = some σ' → W p l e R s m args below meth c H locs 0 0 (MQ below (qV D (tyl cI cB cL) (wR cI cB ad pa pl) A σ') args s 0 0 A) (F0 m 23 ls []) := by
  have hx := C.1
  have hb := C.2.1
  intro n
  induction n with
  | zero =>
    intro x3 x4 x5 u H locs ls hl S h
    cases h
  | succ n ih =>
    intro x3 x4 x5 u H locs ls hl S h
    rw [fX9_tellGroup_23] at h
    have hsz := hl.1
    refine lv_iload hx hb dX9_tellGroup_23 (lv_at hl 4 rfl) ?_
    refine lv_bipush (v := 6) hx hb dX9_tellGroup_25 (by decide) ?_
    refine lv_icmp_gt (tgt := 96) hx hb dX9_tellGroup_27 (by decide) (fun c2 => ?_) (fun c2 => ?_)
    · have h := cnd_t c2 h
      exact wX9_tellGroup_96 C hR u x3 (lv_sub hl [1, 2] rfl) S h
    · have h := cnd_f c2 h
      refine lv_iload hx hb dX9_tellGroup_30 (lv_at hl 3 rfl) ?_
      refine lv_if_eq (tgt := 96) hx hb dX9_tellGroup_32 (by decide) (fun c6 => ?_) (fun c6 => ?_)
      · have h := cnd_t c6 h
        exact wX9_tellGroup_96 C hR u x3 (lv_sub hl [1, 2] rfl) S h
      · have h := cnd_f c6 h
        refine lv_aload_n hx hb dX9_tellGroup_35 rfl (lv_at hl 0 rfl) ?_
        refine lv_iconst (v := 0) hx hb dX9_tellGroup_36 (by decide) ?_
        refine lv_aload_n hx hb dX9_tellGroup_37 rfl (lv_at hl 1 rfl) ?_
        refine q_get (v := .int (u 0 0)) C S (oR0 cI cB ad pa pl) rfl iwX7 0 (by decide) mw_676 rfl dX9_tellGroup_38 ?_
        refine lv_iconst (v := 1) hx hb dX9_tellGroup_41 (by decide) ?_
        refine lv_isub hx hb dX9_tellGroup_42 ?_
        obtain ⟨r8, u9, h7, h⟩ := obd_some h
        refine q_callVi (As := [.int 0, .int ((u 0 0) - 1)]) (na := 2) C S (oR36 cI cB ad pa pl) rfl (ct_X9_readNumber l D cI cB cL ad pa pl 0 ((u 0 0) - 1) u h7) mw_679 mw_678 mw_680 mw_667 mw_677 hdX9_readNumber ⟨Nat.le_trans (Nat.le_of_ble_eq_true rfl) hR.1, Nat.le_trans (Nat.le_of_ble_eq_true rfl) hR.2⟩ rfl hsz ⟨Nat.zero_le _, Nat.zero_le _⟩ (Nat.le_of_ble_eq_true rfl) dX9_tellGroup_43 rfl (fun H locs S => ?_)
        refine lv_istore (lv' := [(6, .int r8), (0, .ref (ad 36)), (1, .ref (ad 0)), (3, .int x3), (4, .int x4), (5, .int x5)]) hx hb dX9_tellGroup_46 hl (by decide) rfl (fun ls hl => ?_)
        have hsz := hl.1
        refine lv_iload hx hb dX9_tellGroup_48 (lv_at hl 0 rfl) ?_
        refine lv_iconst (v := (-1)) hx hb dX9_tellGroup_50 (by decide) ?_
        refine lv_icmp_ne (tgt := 55) hx hb dX9_tellGroup_51 (by decide) (fun c10 => ?_) (fun c10 => ?_)
        · have h := cnd_f c10 h
          refine lv_iload_n hx hb dX9_tellGroup_55 rfl (lv_at hl 3 rfl) ?_
          refine lv_iload hx hb dX9_tellGroup_56 (lv_at hl 0 rfl) ?_
          refine q_callPN (As := [.int x3, .int r8]) (na := 2) C S (ct_X11_isIn l D cI cB cL x3 r8) (List.mem_of_getElem? (i := 11) rfl) mw_360 mw_321 mw_359 hdX11_isIn ⟨Nat.le_trans (Nat.le_of_ble_eq_true rfl) hR.1, Nat.le_trans (Nat.le_of_ble_eq_true rfl) hR.2⟩ rfl hsz ⟨Nat.zero_le _, Nat.zero_le _⟩ (Nat.le_of_ble_eq_true rfl) dX9_tellGroup_58 rfl (fun H locs S => ?_)
          refine lv_if_eq (tgt := 73) hx hb dX9_tellGroup_61 (by decide) (fun c11 => ?_) (fun c11 => ?_)
          · have h := cnd_t c11 h
            refine lv_iload_n hx hb dX9_tellGroup_73 rfl (lv_at hl 3 rfl) ?_
            refine lv_iconst (v := 1) hx hb dX9_tellGroup_74 (by decide) ?_
            refine lv_iload hx hb dX9_tellGroup_75 (lv_at hl 0 rfl) ?_
            refine lv_ishl hx hb dX9_tellGroup_77 ?_
            refine lv_ior hx hb dX9_tellGroup_78 ?_
            refine lv_topi (fun v12 ev12 => ?_)
            have h := bnd_of ev12 h
            refine lv_istore_n (lv' := [(3, .int v12), (6, .int r8), (0, .ref (ad 36)), (1, .ref (ad 0)), (4, .int x4), (5, .int x5)]) hx hb dX9_tellGroup_79 rfl hl (by decide) rfl (fun ls hl => ?_)
            have hsz := hl.1
            refine lv_aload_n hx hb dX9_tellGroup_80 rfl (lv_at hl 2 rfl) ?_
            obtain ⟨u14, h13, h⟩ := obr_some h
            refine q_callVv (As := []) (na := 0) C S (oR36 cI cB ad pa pl) rfl (ct_X9_skipBlanks l D cI cB cL ad pa pl u9 h13) mw_669 mw_668 mw_670 mw_667 mw_666 hdX9_skipBlanks ⟨Nat.le_trans (Nat.le_of_ble_eq_true rfl) hR.1, Nat.le_trans (Nat.le_of_ble_eq_true rfl) hR.2⟩ rfl hsz ⟨Nat.zero_le _, Nat.zero_le _⟩ (Nat.le_of_ble_eq_true rfl) dX9_tellGroup_81 rfl (fun H locs S => ?_)
            refine lv_aload_n hx hb dX9_tellGroup_84 rfl (lv_at hl 2 rfl) ?_
            obtain ⟨r16, h15, h⟩ := obr_some h
            refine q_callVi (As := []) (na := 0) C S (oR36 cI cB ad pa pl) rfl (ct_X9_isDigit l D cI cB cL ad pa pl u14 h15) mw_674 mw_673 mw_675 mw_667 mw_672 hdX9_isDigit ⟨Nat.le_trans (Nat.le_of_ble_eq_true rfl) hR.1, Nat.le_trans (Nat.le_of_ble_eq_true rfl) hR.2⟩ rfl hsz ⟨Nat.zero_le _, Nat.zero_le _⟩ (Nat.le_of_ble_eq_true rfl) dX9_tellGroup_85 rfl (fun H locs S => ?_)
            refine lv_istore (lv' := [(4, .int r16), (3, .int v12), (6, .int r8), (0, .ref (ad 36)), (1, .ref (ad 0)), (5, .int x5)]) hx hb dX9_tellGroup_88 hl (by decide) rfl (fun ls hl => ?_)
            have hsz := hl.1
            obtain ⟨v17, ev17⟩ : ∃ y : Int32, y = x5 + 1 := ⟨_, rfl⟩
            have h := bnd_of ev17 h
            refine lv_iinc (v := v17) (lv' := [(5, .int v17), (4, .int r16), (3, .int v12), (6, .int r8), (0, .ref (ad 36)), (1, .ref (ad 0))]) hx hb dX9_tellGroup_90 hl (k := 5) rfl (by rw [ev17]; rfl) (by decide) rfl (fun ls hl => ?_)
            have hsz := hl.1
            refine lv_goto (tgt := 23) hx hb dX9_tellGroup_93 (by decide) ?_
            exact ih v12 r16 v17 u14 H locs ls (lv_sub hl [4, 5, 2, 1, 0] rfl) S h
          · have h := cnd_f c11 h
            refine lv_aload_n hx hb dX9_tellGroup_64 rfl (lv_at hl 1 rfl) ?_
            refine lv_aload_n hx hb dX9_tellGroup_65 rfl (lv_at hl 1 rfl) ?_
            refine q_get (v := .int (u9 36 3)) C S (oR36 cI cB ad pa pl) rfl iwX9 3 (by decide) mw_671 rfl dX9_tellGroup_66 ?_
            obtain ⟨u18, eu18⟩ : ∃ z : Sg, z = s2 u9 36 2 (u9 36 3) := ⟨_, rfl⟩
            have h := bnd_of eu18 h
            refine q_put C S (oR36 cI cB ad pa pl) rfl iwX9 tyX9 tyX9_ok nmX9 2 (by decide) mw_665 rfl (iR36_2 cI cB ad pa pl) rfl rfl dX9_tellGroup_69 eu18 (fun H locs S => ?_)
            exact q_vret C S (Option.some.inj h) dX9_tellGroup_72
        · have h := cnd_t c10 h
          exact q_vret C S (Option.some.inj h) dX9_tellGroup_54
set_option maxRecDepth 10000 in
set_option maxHeartbeats 4000000 in
theorem wX9_tellGroup_0 (C : cx D (tyl cI cB cL) A RX9 cX9_tellGroup 7 none p s m args c meth) (hR : 2 ≤ R.frames ∧ 44 ≤ R.locals) {σ' : Sg} (u : Sg) (x2 : Int32) {H : Heap} {locs : List Loc} {ls : Array Slot} (hl : lv_has ls 7 [(0, .ref (ad 36)), (1, .ref (ad 0)), (2, .int x2)]) (S : st D (wR cI cB ad pa pl) A s u H locs) (h : fX9_tellGroup_0 x2 u = some σ') : W p l e R s m args below meth c H locs 0 0 (MQ below (qV D (tyl cI cB cL) (wR cI cB ad pa pl) A σ') args s 0 0 A) (F0 m 0 ls []) := by
  have hx := C.1
  have hb := C.2.1
  have hsz := hl.1
  unfold fX9_tellGroup_0 at h
  refine lv_aload_n hx hb dX9_tellGroup_0 rfl (lv_at hl 1 rfl) ?_
  refine q_get (v := .int (u 0 1)) C S (oR0 cI cB ad pa pl) rfl iwX7 1 (by decide) mw_681 rfl dX9_tellGroup_1 ?_
  refine lv_bipush (v := 6) hx hb dX9_tellGroup_4 (by decide) ?_
  refine lv_icmp_lt (tgt := 15) hx hb dX9_tellGroup_6 (by decide) (fun c1 => ?_) (fun c1 => ?_)
  · have h := cnd_t c1 h
    refine lv_iconst (v := 0) hx hb dX9_tellGroup_15 (by decide) ?_
    refine lv_istore_n (lv' := [(3, .int 0), (0, .ref (ad 36)), (1, .ref (ad 0)), (2, .int x2)]) hx hb dX9_tellGroup_16 rfl hl (by decide) rfl (fun ls hl => ?_)
    have hsz := hl.1
    refine lv_iconst (v := 1) hx hb dX9_tellGroup_17 (by decide) ?_
    refine lv_istore (lv' := [(4, .int 1), (3, .int 0), (0, .ref (ad 36)), (1, .ref (ad 0)), (2, .int x2)]) hx hb dX9_tellGroup_18 hl (by decide) rfl (fun ls hl => ?_)
    have hsz := hl.1
    refine lv_iconst (v := 0) hx hb dX9_tellGroup_20 (by decide) ?_
    refine lv_istore (lv' := [(5, .int 0), (4, .int 1), (3, .int 0), (0, .ref (ad 36)), (1, .ref (ad 0)), (2, .int x2)]) hx hb dX9_tellGroup_21 hl (by decide) rfl (fun ls hl => ?_)
    have hsz := hl.1
    exact wX9_tellGroup_23 C hR FU 0 1 0 u H locs ls (lv_sub hl [3, 4, 2, 1, 0] rfl) S h
  · have h := cnd_f c1 h
    refine lv_aload_n hx hb dX9_tellGroup_9 rfl (lv_at hl 0 rfl) ?_
    refine lv_iload_n hx hb dX9_tellGroup_10 rfl (lv_at hl 2 rfl) ?_
    obtain ⟨u19, eu19⟩ : ∃ z : Sg, z = s2 u 36 2 x2 := ⟨_, rfl⟩
    have h := bnd_of eu19 h
    refine q_put C S (oR36 cI cB ad pa pl) rfl iwX9 tyX9 tyX9_ok nmX9 2 (by decide) mw_665 rfl (iR36_2 cI cB ad pa pl) rfl rfl dX9_tellGroup_11 eu19 (fun H locs S => ?_)
    exact q_vret C S (Option.some.inj h) dX9_tellGroup_14
set_option maxRecDepth 10000 in
set_option maxHeartbeats 4000000 in
theorem ct_X9_tellGroup (l : Launch) (D : va_G) (cI cB cL : ClassId) (ad : Nat → Nat) (pa pl : Nat) (x2 : Int32) (u : Sg) {σ' : Sg} (h : fX9_tellGroup x2 u = some σ') : metV l D (tyl cI cB cL) yX9_tellGroup cX9_tellGroup 7 2 44 (wR cI cB ad pa pl) [.ref (ad 36), .ref (ad 0), .int x2] u σ' := by
  intro sz
  refine Met.ofW (cc := cX9_tellGroup) (maxL := 7) (ret := none) (by decide) rfl ?_
  intro p e s m args below meth c s₁ B hml hv
  obtain ⟨rfl, C, S⟩ := q_entry B hml hv
  have hl := lv_entry ([.ref (ad 36), .ref (ad 0), .int x2]) (n := 7) (Nat.le_of_ble_eq_true rfl)
  rw [lg_entry_eq]
  generalize (lg_sl ([.ref (ad 36), .ref (ad 0), .int x2]) ++ List.replicate (7 - (lg_sl ([.ref (ad 36), .ref (ad 0), .int x2])).length) Slot.unset).toArray = ls at hl ⊢
  exact wX9_tellGroup_0 C ⟨Nat.le_refl _, Nat.le_refl _⟩ u x2 (lv_sub hl [0, 1, 2] rfl) S h
noncomputable def fX9_tellDelay_0 (u : Sg) : Option Sg := obd (fX9_readNumber 0 ((u 0 0) - 1) u) (fun r2 u3 => obd (fX9_readNumber 0 ((u3 0 0) - 1) u3) (fun r5 u6 => obd (fX9_readNumber 1 9 u6) (fun r8 u9 => cnd (r8 = (-1)) (some u9) (grd (vp_in (fX11_channelOf r2 r5) 36) (bnd (s2 u9 6 (((fX11_channelOf r2 r5) : Int32).toNatClampNeg) r8) (fun u12 => some u12))))))
noncomputable def fX9_tellDelay (u : Sg) : Option Sg := fX9_tellDelay_0 u
set_option maxRecDepth 10000 in
set_option maxHeartbeats 4000000 in
theorem wX9_tellDelay_0 (C : cx D (tyl cI cB cL) A RX9 cX9_tellDelay 5 none p s m args c meth) (hR : 2 ≤ R.frames ∧ 44 ≤ R.locals) {σ' : Sg} (u : Sg) {H : Heap} {locs : List Loc} {ls : Array Slot} (hl : lv_has ls 5 [(0, .ref (ad 36)), (1, .ref (ad 0))]) (S : st D (wR cI cB ad pa pl) A s u H locs) (h : fX9_tellDelay_0 u = some σ') : W p l e R s m args below meth c H locs 0 0 (MQ below (qV D (tyl cI cB cL) (wR cI cB ad pa pl) A σ') args s 0 0 A) (F0 m 0 ls []) := by
  have hx := C.1
  have hb := C.2.1
  have hsz := hl.1
  unfold fX9_tellDelay_0 at h
  refine lv_aload_n hx hb dX9_tellDelay_0 rfl (lv_at hl 0 rfl) ?_
  refine lv_iconst (v := 0) hx hb dX9_tellDelay_1 (by decide) ?_
  refine lv_aload_n hx hb dX9_tellDelay_2 rfl (lv_at hl 1 rfl) ?_
  refine q_get (v := .int (u 0 0)) C S (oR0 cI cB ad pa pl) rfl iwX7 0 (by decide) mw_676 rfl dX9_tellDelay_3 ?_
  refine lv_iconst (v := 1) hx hb dX9_tellDelay_6 (by decide) ?_
  refine lv_isub hx hb dX9_tellDelay_7 ?_
  obtain ⟨r2, u3, h1, h⟩ := obd_some h
  refine q_callVi (As := [.int 0, .int ((u 0 0) - 1)]) (na := 2) C S (oR36 cI cB ad pa pl) rfl (ct_X9_readNumber l D cI cB cL ad pa pl 0 ((u 0 0) - 1) u h1) mw_679 mw_678 mw_680 mw_667 mw_677 hdX9_readNumber ⟨Nat.le_trans (Nat.le_of_ble_eq_true rfl) hR.1, Nat.le_trans (Nat.le_of_ble_eq_true rfl) hR.2⟩ rfl hsz ⟨Nat.zero_le _, Nat.zero_le _⟩ (Nat.le_of_ble_eq_true rfl) dX9_tellDelay_8 rfl (fun H locs S => ?_)
  refine lv_istore_n (lv' := [(2, .int r2), (0, .ref (ad 36)), (1, .ref (ad 0))]) hx hb dX9_tellDelay_11 rfl hl (by decide) rfl (fun ls hl => ?_)
  have hsz := hl.1
  refine lv_aload_n hx hb dX9_tellDelay_12 rfl (lv_at hl 1 rfl) ?_
  refine lv_iconst (v := 0) hx hb dX9_tellDelay_13 (by decide) ?_
  refine lv_aload_n hx hb dX9_tellDelay_14 rfl (lv_at hl 2 rfl) ?_
  refine q_get (v := .int (u3 0 0)) C S (oR0 cI cB ad pa pl) rfl iwX7 0 (by decide) mw_676 rfl dX9_tellDelay_15 ?_
  refine lv_iconst (v := 1) hx hb dX9_tellDelay_18 (by decide) ?_
  refine lv_isub hx hb dX9_tellDelay_19 ?_
  obtain ⟨r5, u6, h4, h⟩ := obd_some h
  refine q_callVi (As := [.int 0, .int ((u3 0 0) - 1)]) (na := 2) C S (oR36 cI cB ad pa pl) rfl (ct_X9_readNumber l D cI cB cL ad pa pl 0 ((u3 0 0) - 1) u3 h4) mw_679 mw_678 mw_680 mw_667 mw_677 hdX9_readNumber ⟨Nat.le_trans (Nat.le_of_ble_eq_true rfl) hR.1, Nat.le_trans (Nat.le_of_ble_eq_true rfl) hR.2⟩ rfl hsz ⟨Nat.zero_le _, Nat.zero_le _⟩ (Nat.le_of_ble_eq_true rfl) dX9_tellDelay_20 rfl (fun H locs S => ?_)
  refine lv_istore_n (lv' := [(3, .int r5), (2, .int r2), (0, .ref (ad 36)), (1, .ref (ad 0))]) hx hb dX9_tellDelay_23 rfl hl (by decide) rfl (fun ls hl => ?_)
  have hsz := hl.1
  refine lv_aload_n hx hb dX9_tellDelay_24 rfl (lv_at hl 2 rfl) ?_
  refine lv_iconst (v := 1) hx hb dX9_tellDelay_25 (by decide) ?_
  refine lv_bipush (v := 9) hx hb dX9_tellDelay_26 (by decide) ?_
  obtain ⟨r8, u9, h7, h⟩ := obd_some h
  refine q_callVi (As := [.int 1, .int 9]) (na := 2) C S (oR36 cI cB ad pa pl) rfl (ct_X9_readNumber l D cI cB cL ad pa pl 1 9 u6 h7) mw_679 mw_678 mw_680 mw_667 mw_677 hdX9_readNumber ⟨Nat.le_trans (Nat.le_of_ble_eq_true rfl) hR.1, Nat.le_trans (Nat.le_of_ble_eq_true rfl) hR.2⟩ rfl hsz ⟨Nat.zero_le _, Nat.zero_le _⟩ (Nat.le_of_ble_eq_true rfl) dX9_tellDelay_28 rfl (fun H locs S => ?_)
  refine lv_istore (lv' := [(4, .int r8), (3, .int r5), (2, .int r2), (0, .ref (ad 36)), (1, .ref (ad 0))]) hx hb dX9_tellDelay_31 hl (by decide) rfl (fun ls hl => ?_)
  have hsz := hl.1
  refine lv_iload hx hb dX9_tellDelay_33 (lv_at hl 0 rfl) ?_
  refine lv_iconst (v := (-1)) hx hb dX9_tellDelay_35 (by decide) ?_
  refine lv_icmp_eq (tgt := 54) hx hb dX9_tellDelay_36 (by decide) (fun c10 => ?_) (fun c10 => ?_)
  · have h := cnd_t c10 h
    exact q_vret C S (Option.some.inj h) dX9_tellDelay_54
  · have h := cnd_f c10 h
    refine lv_aload_n hx hb dX9_tellDelay_39 rfl (lv_at hl 4 rfl) ?_
    refine q_get (v := .ref (ad 5)) C S (oR0 cI cB ad pa pl) rfl iwX7 13 (by decide) mw_683 rfl dX9_tellDelay_40 ?_
    refine q_get (v := .ref (ad 6)) C S (oR5 cI cB ad pa pl) rfl iwX1 0 (by decide) mw_684 rfl dX9_tellDelay_43 ?_
    refine lv_iload_n hx hb dX9_tellDelay_46 rfl (lv_at hl 2 rfl) ?_
    refine lv_iload_n hx hb dX9_tellDelay_47 rfl (lv_at hl 1 rfl) ?_
    refine q_callPN (As := [.int r2, .int r5]) (na := 2) C S (ct_X11_channelOf l D cI cB cL r2 r5) (List.mem_of_getElem? (i := 12) rfl) mw_406 mw_321 mw_405 hdX11_channelOf ⟨Nat.le_trans (Nat.le_of_ble_eq_true rfl) hR.1, Nat.le_trans (Nat.le_of_ble_eq_true rfl) hR.2⟩ rfl hsz ⟨Nat.zero_le _, Nat.zero_le _⟩ (Nat.le_of_ble_eq_true rfl) dX9_tellDelay_48 rfl (fun H locs S => ?_)
    refine lv_iload hx hb dX9_tellDelay_51 (lv_at hl 0 rfl) ?_
    obtain ⟨g11, h⟩ := grd_some h
    obtain ⟨u12, eu12⟩ : ∃ z : Sg, z = s2 u9 6 (((fX11_channelOf r2 r5) : Int32).toNatClampNeg) r8 := ⟨_, rfl⟩
    have h := bnd_of eu12 h
    refine q_iast C S (aR6 cI cB ad pa pl) 0 rfl g11 dX9_tellDelay_53 (j := ((fX11_channelOf r2 r5) : Int32).toNatClampNeg) rfl eu12 (fun H locs S => ?_)
    exact q_vret C S (Option.some.inj h) dX9_tellDelay_54
set_option maxRecDepth 10000 in
set_option maxHeartbeats 4000000 in
theorem ct_X9_tellDelay (l : Launch) (D : va_G) (cI cB cL : ClassId) (ad : Nat → Nat) (pa pl : Nat) (u : Sg) {σ' : Sg} (h : fX9_tellDelay u = some σ') : metV l D (tyl cI cB cL) yX9_tellDelay cX9_tellDelay 5 2 44 (wR cI cB ad pa pl) [.ref (ad 36), .ref (ad 0)] u σ' := by
  intro sz
  refine Met.ofW (cc := cX9_tellDelay) (maxL := 5) (ret := none) (by decide) rfl ?_
  intro p e s m args below meth c s₁ B hml hv
  obtain ⟨rfl, C, S⟩ := q_entry B hml hv
  have hl := lv_entry ([.ref (ad 36), .ref (ad 0)]) (n := 5) (Nat.le_of_ble_eq_true rfl)
  rw [lg_entry_eq]
  generalize (lg_sl ([.ref (ad 36), .ref (ad 0)]) ++ List.replicate (5 - (lg_sl ([.ref (ad 36), .ref (ad 0)])).length) Slot.unset).toArray = ls at hl ⊢
  exact wX9_tellDelay_0 C ⟨Nat.le_refl _, Nat.le_refl _⟩ u (lv_sub hl [0, 1] rfl) S h
noncomputable def fX9_skipWord_0 : Nat → Sg → Option Sg
  | 0, _ => none
  | n + 1, u => cnd ((u 37 1) ≤ (u 36 1)) (some u) (grd (vp_in (u 36 1) 400) (cnd ((u 38 (((u 36 1) : Int32).toNatClampNeg)) < 97) (some u) (grd (vp_in (u 36 1) 400) (cnd (122 < (u 38 (((u 36 1) : Int32).toNatClampNeg))) (some u) (bnd (s2 u 36 1 ((u 36 1) + 1)) (fun u6 => fX9_skipWord_0 n u6))))))
noncomputable def fX9_skipWord (u : Sg) : Option Sg := fX9_skipWord_0 FU u
set_option maxRecDepth 10000 in
set_option maxHeartbeats 4000000 in
theorem wX9_skipWord_0 (C : cx D (tyl cI cB cL) A RX9 cX9_skipWord 1 none p s m args c meth) (hR : 0 ≤ R.frames ∧ 0 ≤ R.locals) {σ' : Sg} : ∀ (n : Nat) (u : Sg) (H : Heap) (locs : List Loc) (ls : Array Slot), lv_has ls 1 [(0, .ref (ad 36))] → st D (wR cI cB ad pa pl) A s u H locs → fX9_skipWord_0 n u = some σ' → W p l e R s m args below meth c H locs 0 0 (MQ below (qV D (tyl cI cB cL) (wR cI cB ad pa pl) A σ') args s 0 0 A) (F0 m 0 ls []) := by
  have hx := C.1
  have hb := C.2.1
  intro n
  induction n with
  | zero =>
    intro u H locs ls hl S h
    cases h
  | succ n ih =>
    intro u H locs ls hl S h
    rw [fX9_skipWord_0] at h
    have hsz := hl.1
    refine lv_aload_n hx hb dX9_skipWord_0 rfl (lv_at hl 0 rfl) ?_
    refine q_get (v := .int (u 36 1)) C S (oR36 cI cB ad pa pl) rfl iwX9 1 (by decide) mw_661 rfl dX9_skipWord_1 ?_
    refine lv_aload_n hx hb dX9_skipWord_4 rfl (lv_at hl 0 rfl) ?_
    refine q_get (v := .ref (ad 37)) C S (oR36 cI cB ad pa pl) rfl iwX9 0 (by decide) mw_662 rfl dX9_skipWord_5 ?_
    refine q_get (v := .int (u 37 1)) C S (oR37 cI cB ad pa pl) rfl iwX10 1 (by decide) mw_663 rfl dX9_skipWord_8 ?_
    refine lv_icmp_ge (tgt := 61) hx hb dX9_skipWord_11 (by decide) (fun c1 => ?_) (fun c1 => ?_)
    · have h := cnd_t c1 h
      exact q_vret C S (Option.some.inj h) dX9_skipWord_61
    · have h := cnd_f c1 h
      refine lv_aload_n hx hb dX9_skipWord_14 rfl (lv_at hl 0 rfl) ?_
      refine q_get (v := .ref (ad 37)) C S (oR36 cI cB ad pa pl) rfl iwX9 0 (by decide) mw_662 rfl dX9_skipWord_15 ?_
      refine q_get (v := .ref (ad 38)) C S (oR37 cI cB ad pa pl) rfl iwX10 0 (by decide) mw_664 rfl dX9_skipWord_18 ?_
      refine lv_aload_n hx hb dX9_skipWord_21 rfl (lv_at hl 0 rfl) ?_
      refine q_get (v := .int (u 36 1)) C S (oR36 cI cB ad pa pl) rfl iwX9 1 (by decide) mw_661 rfl dX9_skipWord_22 ?_
      obtain ⟨g2, h⟩ := grd_some h
      refine q_bald C S (aR38 cI cB ad pa pl) 1 rfl g2 dX9_skipWord_25 (j := ((u 36 1) : Int32).toNatClampNeg) rfl ?_
      refine lv_bipush (v := 97) hx hb dX9_skipWord_26 (by decide) ?_
      refine lv_icmp_lt (tgt := 61) hx hb dX9_skipWord_28 (by decide) (fun c3 => ?_) (fun c3 => ?_)
      · have h := cnd_t c3 h
        exact q_vret C S (Option.some.inj h) dX9_skipWord_61
      · have h := cnd_f c3 h
        refine lv_aload_n hx hb dX9_skipWord_31 rfl (lv_at hl 0 rfl) ?_
        refine q_get (v := .ref (ad 37)) C S (oR36 cI cB ad pa pl) rfl iwX9 0 (by decide) mw_662 rfl dX9_skipWord_32 ?_
        refine q_get (v := .ref (ad 38)) C S (oR37 cI cB ad pa pl) rfl iwX10 0 (by decide) mw_664 rfl dX9_skipWord_35 ?_
        refine lv_aload_n hx hb dX9_skipWord_38 rfl (lv_at hl 0 rfl) ?_
        refine q_get (v := .int (u 36 1)) C S (oR36 cI cB ad pa pl) rfl iwX9 1 (by decide) mw_661 rfl dX9_skipWord_39 ?_
        obtain ⟨g4, h⟩ := grd_some h
        refine q_bald C S (aR38 cI cB ad pa pl) 1 rfl g4 dX9_skipWord_42 (j := ((u 36 1) : Int32).toNatClampNeg) rfl ?_
        refine lv_bipush (v := 122) hx hb dX9_skipWord_43 (by decide) ?_
        refine lv_icmp_gt (tgt := 61) hx hb dX9_skipWord_45 (by decide) (fun c5 => ?_) (fun c5 => ?_)
        · have h := cnd_t c5 h
          exact q_vret C S (Option.some.inj h) dX9_skipWord_61
        · have h := cnd_f c5 h
          refine lv_aload_n hx hb dX9_skipWord_48 rfl (lv_at hl 0 rfl) ?_
          refine lv_dup hx hb dX9_skipWord_49 rfl ?_
          refine q_get (v := .int (u 36 1)) C S (oR36 cI cB ad pa pl) rfl iwX9 1 (by decide) mw_661 rfl dX9_skipWord_50 ?_
          refine lv_iconst (v := 1) hx hb dX9_skipWord_53 (by decide) ?_
          refine lv_iadd hx hb dX9_skipWord_54 ?_
          obtain ⟨u6, eu6⟩ : ∃ z : Sg, z = s2 u 36 1 ((u 36 1) + 1) := ⟨_, rfl⟩
          have h := bnd_of eu6 h
          refine q_put C S (oR36 cI cB ad pa pl) rfl iwX9 tyX9 tyX9_ok nmX9 1 (by decide) mw_661 rfl (iR36_1 cI cB ad pa pl) rfl rfl dX9_skipWord_55 eu6 (fun H locs S => ?_)
          refine lv_goto (tgt := 0) hx hb dX9_skipWord_58 (by decide) ?_
          exact ih u6 H locs ls (lv_sub hl [0] rfl) S h
set_option maxRecDepth 10000 in
set_option maxHeartbeats 4000000 in
theorem ct_X9_skipWord (l : Launch) (D : va_G) (cI cB cL : ClassId) (ad : Nat → Nat) (pa pl : Nat) (u : Sg) {σ' : Sg} (h : fX9_skipWord u = some σ') : metV l D (tyl cI cB cL) yX9_skipWord cX9_skipWord 1 0 0 (wR cI cB ad pa pl) [.ref (ad 36)] u σ' := by
  intro sz
  refine Met.ofW (cc := cX9_skipWord) (maxL := 1) (ret := none) (by decide) rfl ?_
  intro p e s m args below meth c s₁ B hml hv
  obtain ⟨rfl, C, S⟩ := q_entry B hml hv
  have hl := lv_entry ([.ref (ad 36)]) (n := 1) (Nat.le_of_ble_eq_true rfl)
  rw [lg_entry_eq]
  generalize (lg_sl ([.ref (ad 36)]) ++ List.replicate (1 - (lg_sl ([.ref (ad 36)])).length) Slot.unset).toArray = ls at hl ⊢
  exact wX9_skipWord_0 C ⟨Nat.le_refl _, Nat.le_refl _⟩ FU u _ _ ls (lv_sub hl [0] rfl) S h
end S_37_reader
