def flN0 (cI : ClassId) (ad : Nat → Nat) (pa pl : Nat) (σ : Sg) : List Value := [.int (σ 0 0), .int (σ 0 1), .int (σ 0 2), .int (σ 0 3), .int (σ 0 4), .int (σ 0 5), .int (σ 0 6), .int (σ 0 7), .int (σ 0 8), .ref (ad 1), .ref (ad 2), .ref (ad 3), .ref (ad 4), .ref (ad 5), .ref (ad 13), .ref (ad 19), .ref (ad 26), .ref (ad 30), .ref (ad 34)]
def flN5 (cI : ClassId) (ad : Nat → Nat) (pa pl : Nat) (σ : Sg) : List Value := [.ref (ad 6), .ref (ad 7), .ref (ad 8), .ref (ad 9), .ref pa, .ref (ad 11), .ref (ad 12), .int (σ 5 7), .int (σ 5 8)]
def flN13 (cI : ClassId) (ad : Nat → Nat) (pa pl : Nat) (σ : Sg) : List Value := [.int (σ 13 0), .ref (ad 14), .ref (ad 15), .ref (ad 16), .ref (ad 17), .ref (ad 18)]
def flN19 (cI : ClassId) (ad : Nat → Nat) (pa pl : Nat) (σ : Sg) : List Value := [.ref (ad 20), .ref (ad 21), .ref (ad 22), .ref (ad 23), .ref (ad 24), .ref (ad 25)]
def flN26 (cI : ClassId) (ad : Nat → Nat) (pa pl : Nat) (σ : Sg) : List Value := [.ref (ad 27), .ref (ad 28), .ref (ad 29)]
def flN30 (cI : ClassId) (ad : Nat → Nat) (pa pl : Nat) (σ : Sg) : List Value := [.int (σ 30 0), .ref (ad 31), .ref (ad 32), .ref (ad 33)]
def flN34 (cI : ClassId) (ad : Nat → Nat) (pa pl : Nat) (σ : Sg) : List Value := [.int (σ 34 0), .int (σ 34 1), .ref (ad 35)]
def wN (cI : ClassId) (ad : Nat → Nat) (pa pl : Nat) (σ : Sg) : va_W := [((ad 0), .inr (6, flN0 cI ad pa pl σ)), ((ad 1), .inl (cI, 6, .inl (σ 1))), ((ad 2), .inl (cI, 6, .inl (σ 2))), ((ad 3), .inl (cI, 6, .inl (σ 3))), ((ad 4), .inl (cI, 6, .inl (σ 4))), ((ad 5), .inr (0, flN5 cI ad pa pl σ)), ((ad 6), .inl (cI, 36, .inl (σ 6))), ((ad 7), .inl (cI, 36, .inl (σ 7))), ((ad 8), .inl (cI, 36, .inl (σ 8))), ((ad 9), .inl (cI, 36, .inl (σ 9))), (pa, .inl (cI, pl, .inl (σ 10))), ((ad 11), .inl (cI, 36, .inl (σ 11))), ((ad 12), .inl (cI, 36, .inl (σ 12))), ((ad 13), .inr (5, flN13 cI ad pa pl σ)), ((ad 14), .inl (cI, 20, .inl (σ 14))), ((ad 15), .inl (cI, 20, .inl (σ 15))), ((ad 16), .inl (cI, 20, .inl (σ 16))), ((ad 17), .inl (cI, 20, .inl (σ 17))), ((ad 18), .inl (cI, 20, .inl (σ 18))), ((ad 19), .inr (3, flN19 cI ad pa pl σ)), ((ad 20), .inl (cI, 120, .inl (σ 20))), ((ad 21), .inl (cI, 120, .inl (σ 21))), ((ad 22), .inl (cI, 120, .inl (σ 22))), ((ad 23), .inl (cI, 120, .inl (σ 23))), ((ad 24), .inl (cI, 120, .inl (σ 24))), ((ad 25), .inl (cI, 6, .inl (σ 25))), ((ad 26), .inr (2, flN26 cI ad pa pl σ)), ((ad 27), .inl (cI, 120, .inl (σ 27))), ((ad 28), .inl (cI, 120, .inl (σ 28))), ((ad 29), .inl (cI, 120, .inl (σ 29))), ((ad 30), .inr (1, flN30 cI ad pa pl σ)), ((ad 31), .inl (cI, 8, .inl (σ 31))), ((ad 32), .inl (cI, 8, .inl (σ 32))), ((ad 33), .inl (cI, 8, .inl (σ 33))), ((ad 34), .inr (4, flN34 cI ad pa pl σ)), ((ad 35), .inl (cI, 240, .inl (σ 35)))]
theorem oN0 (cI : ClassId) (ad : Nat → Nat) (pa pl : Nat) : objAt (wN cI ad pa pl) 0 (ad 0) 6 (flN0 cI ad pa pl) := fun _ => rfl
theorem iN0_0 (cI : ClassId) (ad : Nat → Nat) (pa pl : Nat) : intAt (wN cI ad pa pl) 0 (ad 0) 6 (flN0 cI ad pa pl) 0 := ⟨fun _ => rfl, fun _ _ => rfl⟩
theorem iN0_1 (cI : ClassId) (ad : Nat → Nat) (pa pl : Nat) : intAt (wN cI ad pa pl) 0 (ad 0) 6 (flN0 cI ad pa pl) 1 := ⟨fun _ => rfl, fun _ _ => rfl⟩
theorem iN0_2 (cI : ClassId) (ad : Nat → Nat) (pa pl : Nat) : intAt (wN cI ad pa pl) 0 (ad 0) 6 (flN0 cI ad pa pl) 2 := ⟨fun _ => rfl, fun _ _ => rfl⟩
theorem iN0_3 (cI : ClassId) (ad : Nat → Nat) (pa pl : Nat) : intAt (wN cI ad pa pl) 0 (ad 0) 6 (flN0 cI ad pa pl) 3 := ⟨fun _ => rfl, fun _ _ => rfl⟩
theorem iN0_4 (cI : ClassId) (ad : Nat → Nat) (pa pl : Nat) : intAt (wN cI ad pa pl) 0 (ad 0) 6 (flN0 cI ad pa pl) 4 := ⟨fun _ => rfl, fun _ _ => rfl⟩
theorem iN0_5 (cI : ClassId) (ad : Nat → Nat) (pa pl : Nat) : intAt (wN cI ad pa pl) 0 (ad 0) 6 (flN0 cI ad pa pl) 5 := ⟨fun _ => rfl, fun _ _ => rfl⟩
theorem iN0_6 (cI : ClassId) (ad : Nat → Nat) (pa pl : Nat) : intAt (wN cI ad pa pl) 0 (ad 0) 6 (flN0 cI ad pa pl) 6 := ⟨fun _ => rfl, fun _ _ => rfl⟩
theorem iN0_7 (cI : ClassId) (ad : Nat → Nat) (pa pl : Nat) : intAt (wN cI ad pa pl) 0 (ad 0) 6 (flN0 cI ad pa pl) 7 := ⟨fun _ => rfl, fun _ _ => rfl⟩
theorem iN0_8 (cI : ClassId) (ad : Nat → Nat) (pa pl : Nat) : intAt (wN cI ad pa pl) 0 (ad 0) 6 (flN0 cI ad pa pl) 8 := ⟨fun _ => rfl, fun _ _ => rfl⟩
theorem aN1 (cI : ClassId) (ad : Nat → Nat) (pa pl : Nat) : arrAt (wN cI ad pa pl) 1 (ad 1) cI 6 := ⟨fun _ => rfl, fun _ _ => rfl⟩
theorem aN2 (cI : ClassId) (ad : Nat → Nat) (pa pl : Nat) : arrAt (wN cI ad pa pl) 2 (ad 2) cI 6 := ⟨fun _ => rfl, fun _ _ => rfl⟩
theorem aN3 (cI : ClassId) (ad : Nat → Nat) (pa pl : Nat) : arrAt (wN cI ad pa pl) 3 (ad 3) cI 6 := ⟨fun _ => rfl, fun _ _ => rfl⟩
theorem aN4 (cI : ClassId) (ad : Nat → Nat) (pa pl : Nat) : arrAt (wN cI ad pa pl) 4 (ad 4) cI 6 := ⟨fun _ => rfl, fun _ _ => rfl⟩
theorem oN5 (cI : ClassId) (ad : Nat → Nat) (pa pl : Nat) : objAt (wN cI ad pa pl) 5 (ad 5) 0 (flN5 cI ad pa pl) := fun _ => rfl
theorem iN5_7 (cI : ClassId) (ad : Nat → Nat) (pa pl : Nat) : intAt (wN cI ad pa pl) 5 (ad 5) 0 (flN5 cI ad pa pl) 7 := ⟨fun _ => rfl, fun _ _ => rfl⟩
theorem iN5_8 (cI : ClassId) (ad : Nat → Nat) (pa pl : Nat) : intAt (wN cI ad pa pl) 5 (ad 5) 0 (flN5 cI ad pa pl) 8 := ⟨fun _ => rfl, fun _ _ => rfl⟩
theorem aN6 (cI : ClassId) (ad : Nat → Nat) (pa pl : Nat) : arrAt (wN cI ad pa pl) 6 (ad 6) cI 36 := ⟨fun _ => rfl, fun _ _ => rfl⟩
theorem aN7 (cI : ClassId) (ad : Nat → Nat) (pa pl : Nat) : arrAt (wN cI ad pa pl) 7 (ad 7) cI 36 := ⟨fun _ => rfl, fun _ _ => rfl⟩
theorem aN8 (cI : ClassId) (ad : Nat → Nat) (pa pl : Nat) : arrAt (wN cI ad pa pl) 8 (ad 8) cI 36 := ⟨fun _ => rfl, fun _ _ => rfl⟩
theorem aN9 (cI : ClassId) (ad : Nat → Nat) (pa pl : Nat) : arrAt (wN cI ad pa pl) 9 (ad 9) cI 36 := ⟨fun _ => rfl, fun _ _ => rfl⟩
theorem aN10 (cI : ClassId) (ad : Nat → Nat) (pa pl : Nat) : arrAt (wN cI ad pa pl) 10 pa cI pl := ⟨fun _ => rfl, fun _ _ => rfl⟩
theorem aN11 (cI : ClassId) (ad : Nat → Nat) (pa pl : Nat) : arrAt (wN cI ad pa pl) 11 (ad 11) cI 36 := ⟨fun _ => rfl, fun _ _ => rfl⟩
theorem aN12 (cI : ClassId) (ad : Nat → Nat) (pa pl : Nat) : arrAt (wN cI ad pa pl) 12 (ad 12) cI 36 := ⟨fun _ => rfl, fun _ _ => rfl⟩
theorem oN13 (cI : ClassId) (ad : Nat → Nat) (pa pl : Nat) : objAt (wN cI ad pa pl) 13 (ad 13) 5 (flN13 cI ad pa pl) := fun _ => rfl
theorem iN13_0 (cI : ClassId) (ad : Nat → Nat) (pa pl : Nat) : intAt (wN cI ad pa pl) 13 (ad 13) 5 (flN13 cI ad pa pl) 0 := ⟨fun _ => rfl, fun _ _ => rfl⟩
theorem aN14 (cI : ClassId) (ad : Nat → Nat) (pa pl : Nat) : arrAt (wN cI ad pa pl) 14 (ad 14) cI 20 := ⟨fun _ => rfl, fun _ _ => rfl⟩
theorem aN15 (cI : ClassId) (ad : Nat → Nat) (pa pl : Nat) : arrAt (wN cI ad pa pl) 15 (ad 15) cI 20 := ⟨fun _ => rfl, fun _ _ => rfl⟩
theorem aN16 (cI : ClassId) (ad : Nat → Nat) (pa pl : Nat) : arrAt (wN cI ad pa pl) 16 (ad 16) cI 20 := ⟨fun _ => rfl, fun _ _ => rfl⟩
theorem aN17 (cI : ClassId) (ad : Nat → Nat) (pa pl : Nat) : arrAt (wN cI ad pa pl) 17 (ad 17) cI 20 := ⟨fun _ => rfl, fun _ _ => rfl⟩
theorem aN18 (cI : ClassId) (ad : Nat → Nat) (pa pl : Nat) : arrAt (wN cI ad pa pl) 18 (ad 18) cI 20 := ⟨fun _ => rfl, fun _ _ => rfl⟩
theorem oN19 (cI : ClassId) (ad : Nat → Nat) (pa pl : Nat) : objAt (wN cI ad pa pl) 19 (ad 19) 3 (flN19 cI ad pa pl) := fun _ => rfl
theorem aN20 (cI : ClassId) (ad : Nat → Nat) (pa pl : Nat) : arrAt (wN cI ad pa pl) 20 (ad 20) cI 120 := ⟨fun _ => rfl, fun _ _ => rfl⟩
theorem aN21 (cI : ClassId) (ad : Nat → Nat) (pa pl : Nat) : arrAt (wN cI ad pa pl) 21 (ad 21) cI 120 := ⟨fun _ => rfl, fun _ _ => rfl⟩
theorem aN22 (cI : ClassId) (ad : Nat → Nat) (pa pl : Nat) : arrAt (wN cI ad pa pl) 22 (ad 22) cI 120 := ⟨fun _ => rfl, fun _ _ => rfl⟩
theorem aN23 (cI : ClassId) (ad : Nat → Nat) (pa pl : Nat) : arrAt (wN cI ad pa pl) 23 (ad 23) cI 120 := ⟨fun _ => rfl, fun _ _ => rfl⟩
theorem aN24 (cI : ClassId) (ad : Nat → Nat) (pa pl : Nat) : arrAt (wN cI ad pa pl) 24 (ad 24) cI 120 := ⟨fun _ => rfl, fun _ _ => rfl⟩
theorem aN25 (cI : ClassId) (ad : Nat → Nat) (pa pl : Nat) : arrAt (wN cI ad pa pl) 25 (ad 25) cI 6 := ⟨fun _ => rfl, fun _ _ => rfl⟩
theorem oN26 (cI : ClassId) (ad : Nat → Nat) (pa pl : Nat) : objAt (wN cI ad pa pl) 26 (ad 26) 2 (flN26 cI ad pa pl) := fun _ => rfl
theorem aN27 (cI : ClassId) (ad : Nat → Nat) (pa pl : Nat) : arrAt (wN cI ad pa pl) 27 (ad 27) cI 120 := ⟨fun _ => rfl, fun _ _ => rfl⟩
theorem aN28 (cI : ClassId) (ad : Nat → Nat) (pa pl : Nat) : arrAt (wN cI ad pa pl) 28 (ad 28) cI 120 := ⟨fun _ => rfl, fun _ _ => rfl⟩
theorem aN29 (cI : ClassId) (ad : Nat → Nat) (pa pl : Nat) : arrAt (wN cI ad pa pl) 29 (ad 29) cI 120 := ⟨fun _ => rfl, fun _ _ => rfl⟩
theorem oN30 (cI : ClassId) (ad : Nat → Nat) (pa pl : Nat) : objAt (wN cI ad pa pl) 30 (ad 30) 1 (flN30 cI ad pa pl) := fun _ => rfl
theorem iN30_0 (cI : ClassId) (ad : Nat → Nat) (pa pl : Nat) : intAt (wN cI ad pa pl) 30 (ad 30) 1 (flN30 cI ad pa pl) 0 := ⟨fun _ => rfl, fun _ _ => rfl⟩
theorem aN31 (cI : ClassId) (ad : Nat → Nat) (pa pl : Nat) : arrAt (wN cI ad pa pl) 31 (ad 31) cI 8 := ⟨fun _ => rfl, fun _ _ => rfl⟩
theorem aN32 (cI : ClassId) (ad : Nat → Nat) (pa pl : Nat) : arrAt (wN cI ad pa pl) 32 (ad 32) cI 8 := ⟨fun _ => rfl, fun _ _ => rfl⟩
theorem aN33 (cI : ClassId) (ad : Nat → Nat) (pa pl : Nat) : arrAt (wN cI ad pa pl) 33 (ad 33) cI 8 := ⟨fun _ => rfl, fun _ _ => rfl⟩
theorem oN34 (cI : ClassId) (ad : Nat → Nat) (pa pl : Nat) : objAt (wN cI ad pa pl) 34 (ad 34) 4 (flN34 cI ad pa pl) := fun _ => rfl
theorem iN34_0 (cI : ClassId) (ad : Nat → Nat) (pa pl : Nat) : intAt (wN cI ad pa pl) 34 (ad 34) 4 (flN34 cI ad pa pl) 0 := ⟨fun _ => rfl, fun _ _ => rfl⟩
theorem iN34_1 (cI : ClassId) (ad : Nat → Nat) (pa pl : Nat) : intAt (wN cI ad pa pl) 34 (ad 34) 4 (flN34 cI ad pa pl) 1 := ⟨fun _ => rfl, fun _ _ => rfl⟩
theorem aN35 (cI : ClassId) (ad : Nat → Nat) (pa pl : Nat) : arrAt (wN cI ad pa pl) 35 (ad 35) cI 240 := ⟨fun _ => rfl, fun _ _ => rfl⟩
theorem iwX7 : ∀ w ∈ u_ws RX7 TX7 19, w ∈ gw := by
  intro w hw
  obtain ⟨k, hk, rfl⟩ := List.mem_map.mp hw
  have hk := List.mem_range.mp hk
  rcases (show k = 0 ∨ k = 1 ∨ k = 2 ∨ k = 3 ∨ k = 4 ∨ k = 5 ∨ k = 6 ∨ k = 7 ∨ k = 8 ∨ k = 9 ∨ k = 10 ∨ k = 11 ∨ k = 12 ∨ k = 13 ∨ k = 14 ∨ k = 15 ∨ k = 16 ∨ k = 17 ∨ k = 18 by omega) with rfl | rfl | rfl | rfl | rfl | rfl | rfl | rfl | rfl | rfl | rfl | rfl | rfl | rfl | rfl | rfl | rfl | rfl | rfl
  · exact gw_t2 99 rfl rfl
  · exact gw_t2 101 rfl rfl
  · exact gw_t2 103 rfl rfl
  · exact gw_t2 105 rfl rfl
  · exact gw_t2 107 rfl rfl
  · exact gw_t2 109 rfl rfl
  · exact gw_t2 111 rfl rfl
  · exact gw_t2 113 rfl rfl
  · exact gw_t2 115 rfl rfl
  · exact gw_t2 117 rfl rfl
  · exact gw_t2 119 rfl rfl
  · exact gw_t2 121 rfl rfl
  · exact gw_t2 123 rfl rfl
  · exact gw_t2 125 rfl rfl
  · exact gw_t2 127 rfl rfl
  · exact gw_t2 129 rfl rfl
  · exact gw_t2 131 rfl rfl
  · exact gw_t2 133 rfl rfl
  · exact gw_t2 135 rfl rfl
theorem iwX1 : ∀ w ∈ u_ws RX1 TX1 9, w ∈ gw := by
  intro w hw
  obtain ⟨k, hk, rfl⟩ := List.mem_map.mp hw
  have hk := List.mem_range.mp hk
  rcases (show k = 0 ∨ k = 1 ∨ k = 2 ∨ k = 3 ∨ k = 4 ∨ k = 5 ∨ k = 6 ∨ k = 7 ∨ k = 8 by omega) with rfl | rfl | rfl | rfl | rfl | rfl | rfl | rfl | rfl
  · exact gw_t1 122 rfl rfl
  · exact gw_t1 124 rfl rfl
  · exact gw_t1 126 rfl rfl
  · exact gw_t1 128 rfl rfl
  · exact gw_t1 130 rfl rfl
  · exact gw_t1 132 rfl rfl
  · exact gw_t1 134 rfl rfl
  · exact gw_t1 136 rfl rfl
  · exact gw_t1 138 rfl rfl
theorem iwX6 : ∀ w ∈ u_ws RX6 TX6 6, w ∈ gw := by
  intro w hw
  obtain ⟨k, hk, rfl⟩ := List.mem_map.mp hw
  have hk := List.mem_range.mp hk
  rcases (show k = 0 ∨ k = 1 ∨ k = 2 ∨ k = 3 ∨ k = 4 ∨ k = 5 by omega) with rfl | rfl | rfl | rfl | rfl | rfl
  · exact gw_t1 165 rfl rfl
  · exact gw_t1 167 rfl rfl
  · exact gw_t1 169 rfl rfl
  · exact gw_t1 171 rfl rfl
  · exact gw_t1 173 rfl rfl
  · exact gw_t1 175 rfl rfl
theorem iwX4 : ∀ w ∈ u_ws RX4 TX4 6, w ∈ gw := by
  intro w hw
  obtain ⟨k, hk, rfl⟩ := List.mem_map.mp hw
  have hk := List.mem_range.mp hk
  rcases (show k = 0 ∨ k = 1 ∨ k = 2 ∨ k = 3 ∨ k = 4 ∨ k = 5 by omega) with rfl | rfl | rfl | rfl | rfl | rfl
  · exact gw_t1 206 rfl rfl
  · exact gw_t1 208 rfl rfl
  · exact gw_t1 210 rfl rfl
  · exact gw_t1 212 rfl rfl
  · exact gw_t1 214 rfl rfl
  · exact gw_t1 216 rfl rfl
theorem iwX3 : ∀ w ∈ u_ws RX3 TX3 3, w ∈ gw := by
  intro w hw
  obtain ⟨k, hk, rfl⟩ := List.mem_map.mp hw
  have hk := List.mem_range.mp hk
  rcases (show k = 0 ∨ k = 1 ∨ k = 2 by omega) with rfl | rfl | rfl
  · exact gw_t1 234 rfl rfl
  · exact gw_t1 236 rfl rfl
  · exact gw_t1 238 rfl rfl
theorem iwX2 : ∀ w ∈ u_ws RX2 TX2 4, w ∈ gw := by
  intro w hw
  obtain ⟨k, hk, rfl⟩ := List.mem_map.mp hw
  have hk := List.mem_range.mp hk
  rcases (show k = 0 ∨ k = 1 ∨ k = 2 ∨ k = 3 by omega) with rfl | rfl | rfl | rfl
  · exact gw_t2 20 rfl rfl
  · exact gw_t2 22 rfl rfl
  · exact gw_t2 24 rfl rfl
  · exact gw_t2 26 rfl rfl
theorem iwX5 : ∀ w ∈ u_ws RX5 TX5 3, w ∈ gw := by
  intro w hw
  obtain ⟨k, hk, rfl⟩ := List.mem_map.mp hw
  have hk := List.mem_range.mp hk
  rcases (show k = 0 ∨ k = 1 ∨ k = 2 by omega) with rfl | rfl | rfl
  · exact gw_t2 39 rfl rfl
  · exact gw_t2 41 rfl rfl
  · exact gw_t2 43 rfl rfl
theorem mw_317 : Cond.fieldLink RX0 9 "LeastPending$Net" "nodeCount" "I" ∈ gw := gw_t2 47 rfl rfl
theorem mw_318 : Cond.fieldLink RX0 15 "LeastPending$Net" "holdings" "LLeastPending$Holdings;" ∈ gw := gw_t2 88 rfl rfl
theorem mw_319 : Cond.fieldLink RX0 19 "LeastPending$Holdings" "kind" "[I" ∈ gw := gw_t1 185 rfl rfl
theorem mw_320 : Cond.code yX11_spotOf cX11_spotOf 2 (some .int) ∈ gw := gw_t2 190 rfl rfl
theorem mw_321 : Cond.initialized RX11 ∈ gw := gw_t1 1 rfl rfl
theorem mw_322 : Cond.static yX11_spotOf ∈ gw := gw_t2 189 rfl rfl
theorem mw_323 : Cond.fieldLink RX3 9 "LeastPending$Gathers" "heard" "[I" ∈ gw := gw_t1 226 rfl rfl
theorem mw_324 : Cond.fieldLink RX0 29 "LeastPending$Net" "gathers" "LLeastPending$Gathers;" ∈ gw := gw_t2 92 rfl rfl
theorem mw_325 : Cond.code yX3_isOn cX3_isOn 2 (some .boolean) ∈ gw := gw_t4 121 rfl rfl
theorem mw_326 : Cond.initialized RX3 ∈ gw := gw_t1 10 rfl rfl
theorem mw_327 : Cond.instanceMethod yX3_isOn ∈ gw := gw_t4 119 rfl rfl
theorem mw_328 : Cond.methodLink RX0 33 yX3_isOn ∈ gw := gw_t4 118 rfl rfl
theorem mw_329 : Cond.selects RX3 yX3_isOn yX3_isOn ∈ gw := gw_t4 120 rfl rfl
theorem mw_330 : Cond.fieldLink RX4 9 "LeastPending$Holdings" "kind" "[I" ∈ gw := gw_t1 184 rfl rfl
theorem mw_331 : Cond.code yX4_isPending cX4_isPending 2 (some .boolean) ∈ gw := gw_t5 115 rfl rfl
theorem mw_332 : Cond.initialized RX4 ∈ gw := gw_t1 9 rfl rfl
theorem mw_333 : Cond.instanceMethod yX4_isPending ∈ gw := gw_t5 113 rfl rfl
theorem mw_334 : Cond.methodLink RX0 39 yX4_isPending ∈ gw := gw_t5 187 rfl rfl
theorem mw_335 : Cond.selects RX4 yX4_isPending yX4_isPending ∈ gw := gw_t5 114 rfl rfl
theorem mw_336 : Cond.fieldLink RX0 42 "LeastPending$Net" "mail" "LLeastPending$Mail;" ∈ gw := gw_t2 85 rfl rfl
theorem mw_337 : Cond.fieldLink RX0 46 "LeastPending$Mail" "total" "I" ∈ gw := gw_t1 148 rfl rfl
theorem mw_338 : Cond.fieldLink RX0 51 "LeastPending$Holdings" "stamp" "[I" ∈ gw := gw_t1 189 rfl rfl
theorem mw_339 : Cond.fieldLink RX7 44 "LeastPending$Net" "downSince" "[I" ∈ gw := gw_t2 76 rfl rfl
theorem mw_340 : Cond.code yX7_isUp cX7_isUp 2 (some .boolean) ∈ gw := gw_t2 228 rfl rfl
theorem mw_341 : Cond.initialized RX7 ∈ gw := gw_t1 5 rfl rfl
theorem mw_342 : Cond.instanceMethod yX7_isUp ∈ gw := gw_t2 226 rfl rfl
theorem mw_343 : Cond.methodLink RX7 135 yX7_isUp ∈ gw := gw_t2 225 rfl rfl
theorem mw_344 : Cond.selects RX7 yX7_isUp yX7_isUp ∈ gw := gw_t2 227 rfl rfl
theorem mw_345 : Cond.fieldLink RX7 21 "LeastPending$Net" "tick" "I" ∈ gw := gw_t2 57 rfl rfl
theorem mw_346 : Cond.fieldLink RX7 27 "LeastPending$Net" "notice" "I" ∈ gw := gw_t2 63 rfl rfl
theorem mw_347 : Cond.fieldLink RX7 9 "LeastPending$Net" "nodeCount" "I" ∈ gw := gw_t2 46 rfl rfl
theorem mw_348 : Cond.code yX7_isNoticed cX7_isNoticed 2 (some .boolean) ∈ gw := gw_t4 73 rfl rfl
theorem mw_349 : Cond.instanceMethod yX7_isNoticed ∈ gw := gw_t4 71 rfl rfl
theorem mw_350 : Cond.methodLink RX7 142 yX7_isNoticed ∈ gw := gw_t5 14 rfl rfl
theorem mw_351 : Cond.selects RX7 yX7_isNoticed yX7_isNoticed ∈ gw := gw_t4 72 rfl rfl
theorem mw_352 : Cond.fieldLink RX0 54 "LeastPending$Mail" "to" "[I" ∈ gw := gw_t1 154 rfl rfl
theorem mw_353 : Cond.code yX7_noticedNodes cX7_noticedNodes 3 (some .int) ∈ gw := gw_t5 90 rfl rfl
theorem mw_354 : Cond.instanceMethod yX7_noticedNodes ∈ gw := gw_t5 88 rfl rfl
theorem mw_355 : Cond.methodLink RX0 57 yX7_noticedNodes ∈ gw := gw_t5 198 rfl rfl
theorem mw_356 : Cond.selects RX7 yX7_noticedNodes yX7_noticedNodes ∈ gw := gw_t5 89 rfl rfl
theorem mw_357 : Cond.methodLink RX0 61 yX7_isUp ∈ gw := gw_t5 199 rfl rfl
theorem mw_358 : Cond.fieldLink RX0 64 "LeastPending$Gathers" "heard" "[I" ∈ gw := gw_t1 227 rfl rfl
theorem mw_359 : Cond.code yX11_isIn cX11_isIn 2 (some .boolean) ∈ gw := gw_t2 193 rfl rfl
theorem mw_360 : Cond.static yX11_isIn ∈ gw := gw_t2 192 rfl rfl
theorem mw_361 : Cond.code yX0_blockOf cX0_blockOf 9 (some .int) ∈ gw := gw_t5 186 rfl rfl
theorem mw_362 : Cond.initialized RX0 ∈ gw := gw_t1 28 rfl rfl
theorem mw_363 : Cond.static yX0_blockOf ∈ gw := gw_t5 185 rfl rfl
theorem mw_364 : Cond.methodLink RX0 67 yX0_blockOf ∈ gw := gw_t6 23 rfl rfl
theorem mw_365 : Cond.code yX0_waitsOf cX0_waitsOf 6 (some .int) ∈ gw := gw_t5 197 rfl rfl
theorem mw_366 : Cond.static yX0_waitsOf ∈ gw := gw_t5 196 rfl rfl
theorem mw_367 : Cond.methodLink RX0 77 yX0_waitsOf ∈ gw := gw_t6 24 rfl rfl
theorem mw_368 : Cond.code yX0_leastOf cX0_leastOf 2 (some .int) ∈ gw := gw_t6 27 rfl rfl
theorem mw_369 : Cond.static yX0_leastOf ∈ gw := gw_t6 26 rfl rfl
theorem mw_370 : Cond.methodLink RX0 81 yX0_leastOf ∈ gw := gw_t6 25 rfl rfl
theorem mw_371 : Cond.code yX0_deliveredBy cX0_deliveredBy 4 (some .int) ∈ gw := gw_t2 219 rfl rfl
theorem mw_372 : Cond.static yX0_deliveredBy ∈ gw := gw_t2 218 rfl rfl
theorem mw_373 : Cond.methodLink RX0 85 yX0_deliveredBy ∈ gw := gw_t2 217 rfl rfl
theorem mw_374 : Cond.code yX7_upNodes cX7_upNodes 3 (some .int) ∈ gw := gw_t2 224 rfl rfl
theorem mw_375 : Cond.instanceMethod yX7_upNodes ∈ gw := gw_t2 222 rfl rfl
theorem mw_376 : Cond.methodLink RX0 88 yX7_upNodes ∈ gw := gw_t2 221 rfl rfl
theorem mw_377 : Cond.selects RX7 yX7_upNodes yX7_upNodes ∈ gw := gw_t2 223 rfl rfl
theorem mw_378 : Cond.fieldLink RX0 91 "LeastPending$Holdings" "when" "[I" ∈ gw := gw_t1 196 rfl rfl
theorem mw_379 : Cond.fieldLink RX0 94 "LeastPending$Mail" "begun" "[I" ∈ gw := gw_t1 161 rfl rfl
theorem mw_380 : Cond.methodLink RX0 97 Lib.Math.max.name ∈ gw := gw_t2 230 rfl rfl
theorem mw_381 : Cond.fieldLink RX4 27 "LeastPending$Holdings" "handedOut" "[I" ∈ gw := gw_t1 202 rfl rfl
theorem mw_382 : Cond.fieldLink RX4 24 "LeastPending$Holdings" "order" "[I" ∈ gw := gw_t1 198 rfl rfl
theorem mw_383 : Cond.code yX4_placeOf cX4_placeOf 4 (some .int) ∈ gw := gw_t6 5 rfl rfl
theorem mw_384 : Cond.instanceMethod yX4_placeOf ∈ gw := gw_t6 3 rfl rfl
theorem mw_385 : Cond.methodLink RX0 102 yX4_placeOf ∈ gw := gw_t6 2 rfl rfl
theorem mw_386 : Cond.selects RX4 yX4_placeOf yX4_placeOf ∈ gw := gw_t6 4 rfl rfl
theorem mw_387 : Cond.fieldLink RX0 105 "LeastPending$Holdings" "handedOut" "[I" ∈ gw := gw_t1 205 rfl rfl
theorem mw_388 : Cond.fieldLink RX0 108 "LeastPending$Holdings" "order" "[I" ∈ gw := gw_t1 200 rfl rfl
theorem hdX0_blockOf : yX0_blockOf.cls ≠ "java/lang/invoke/MethodHandle" ∧ yX0_blockOf.cls ≠ "java/lang/invoke/VarHandle" ∧ (parseMethodDescriptor yX0_blockOf.desc).map (fun d => d.parameters.length) = some 3 := by decide +kernel
theorem hdX0_deliveredBy : yX0_deliveredBy.cls ≠ "java/lang/invoke/MethodHandle" ∧ yX0_deliveredBy.cls ≠ "java/lang/invoke/VarHandle" ∧ (parseMethodDescriptor yX0_deliveredBy.desc).map (fun d => d.parameters.length) = some 2 := by decide +kernel
theorem hdX0_leastOf : yX0_leastOf.cls ≠ "java/lang/invoke/MethodHandle" ∧ yX0_leastOf.cls ≠ "java/lang/invoke/VarHandle" ∧ (parseMethodDescriptor yX0_leastOf.desc).map (fun d => d.parameters.length) = some 1 := by decide +kernel
theorem hdX0_waitsOf : yX0_waitsOf.cls ≠ "java/lang/invoke/MethodHandle" ∧ yX0_waitsOf.cls ≠ "java/lang/invoke/VarHandle" ∧ (parseMethodDescriptor yX0_waitsOf.desc).map (fun d => d.parameters.length) = some 2 := by decide +kernel
theorem hdX3_isOn : yX3_isOn.cls = RX3 ∧ yX3_isOn.cls ≠ "java/lang/invoke/MethodHandle" ∧ yX3_isOn.cls ≠ "java/lang/invoke/VarHandle" ∧ (parseMethodDescriptor yX3_isOn.desc).map (fun d => d.parameters.length) = some 1 := by decide +kernel
theorem hdX4_isPending : yX4_isPending.cls = RX4 ∧ yX4_isPending.cls ≠ "java/lang/invoke/MethodHandle" ∧ yX4_isPending.cls ≠ "java/lang/invoke/VarHandle" ∧ (parseMethodDescriptor yX4_isPending.desc).map (fun d => d.parameters.length) = some 1 := by decide +kernel
theorem hdX4_placeOf : yX4_placeOf.cls = RX4 ∧ yX4_placeOf.cls ≠ "java/lang/invoke/MethodHandle" ∧ yX4_placeOf.cls ≠ "java/lang/invoke/VarHandle" ∧ (parseMethodDescriptor yX4_placeOf.desc).map (fun d => d.parameters.length) = some 2 := by decide +kernel
theorem hdX7_isNoticed : yX7_isNoticed.cls = RX7 ∧ yX7_isNoticed.cls ≠ "java/lang/invoke/MethodHandle" ∧ yX7_isNoticed.cls ≠ "java/lang/invoke/VarHandle" ∧ (parseMethodDescriptor yX7_isNoticed.desc).map (fun d => d.parameters.length) = some 1 := by decide +kernel
theorem hdX7_isUp : yX7_isUp.cls = RX7 ∧ yX7_isUp.cls ≠ "java/lang/invoke/MethodHandle" ∧ yX7_isUp.cls ≠ "java/lang/invoke/VarHandle" ∧ (parseMethodDescriptor yX7_isUp.desc).map (fun d => d.parameters.length) = some 1 := by decide +kernel
theorem hdX7_noticedNodes : yX7_noticedNodes.cls = RX7 ∧ yX7_noticedNodes.cls ≠ "java/lang/invoke/MethodHandle" ∧ yX7_noticedNodes.cls ≠ "java/lang/invoke/VarHandle" ∧ (parseMethodDescriptor yX7_noticedNodes.desc).map (fun d => d.parameters.length) = some 0 := by decide +kernel
theorem hdX7_upNodes : yX7_upNodes.cls = RX7 ∧ yX7_upNodes.cls ≠ "java/lang/invoke/MethodHandle" ∧ yX7_upNodes.cls ≠ "java/lang/invoke/VarHandle" ∧ (parseMethodDescriptor yX7_upNodes.desc).map (fun d => d.parameters.length) = some 0 := by decide +kernel
theorem hdX11_isIn : yX11_isIn.cls ≠ "java/lang/invoke/MethodHandle" ∧ yX11_isIn.cls ≠ "java/lang/invoke/VarHandle" ∧ (parseMethodDescriptor yX11_isIn.desc).map (fun d => d.parameters.length) = some 2 := by decide +kernel
theorem hdX11_spotOf : yX11_spotOf.cls ≠ "java/lang/invoke/MethodHandle" ∧ yX11_spotOf.cls ≠ "java/lang/invoke/VarHandle" ∧ (parseMethodDescriptor yX11_spotOf.desc).map (fun d => d.parameters.length) = some 2 := by decide +kernel
theorem dX0_deliveredBy_0 : decode cX0_deliveredBy 0 = .ok (.iconst 0, 1) := by decide +kernel
theorem dX0_deliveredBy_1 : decode cX0_deliveredBy 1 = .ok (.istore_n 2, 1) := by decide +kernel
theorem dX0_deliveredBy_2 : decode cX0_deliveredBy 2 = .ok (.iconst 0, 1) := by decide +kernel
theorem dX0_deliveredBy_3 : decode cX0_deliveredBy 3 = .ok (.istore_n 3, 1) := by decide +kernel
theorem dX0_deliveredBy_4 : decode cX0_deliveredBy 4 = .ok (.iload_n 3, 1) := by decide +kernel
theorem dX0_deliveredBy_5 : decode cX0_deliveredBy 5 = .ok (.aload_n 0, 1) := by decide +kernel
theorem dX0_deliveredBy_6 : decode cX0_deliveredBy 6 = .ok (.getfield 9, 3) := by decide +kernel
theorem dX0_deliveredBy_9 : decode cX0_deliveredBy 9 = .ok (.if_icmp .ge 32, 3) := by decide +kernel
theorem dX0_deliveredBy_12 : decode cX0_deliveredBy 12 = .ok (.aload_n 0, 1) := by decide +kernel
theorem dX0_deliveredBy_13 : decode cX0_deliveredBy 13 = .ok (.getfield 15, 3) := by decide +kernel
theorem dX0_deliveredBy_16 : decode cX0_deliveredBy 16 = .ok (.getfield 19, 3) := by decide +kernel
theorem dX0_deliveredBy_19 : decode cX0_deliveredBy 19 = .ok (.iload_n 3, 1) := by decide +kernel
theorem dX0_deliveredBy_20 : decode cX0_deliveredBy 20 = .ok (.iload_n 1, 1) := by decide +kernel
theorem dX0_deliveredBy_21 : decode cX0_deliveredBy 21 = .ok (.invokestatic 25, 3) := by decide +kernel
theorem dX0_deliveredBy_24 : decode cX0_deliveredBy 24 = .ok (.iaload, 1) := by decide +kernel
theorem dX0_deliveredBy_25 : decode cX0_deliveredBy 25 = .ok (.iconst 3, 1) := by decide +kernel
theorem dX0_deliveredBy_26 : decode cX0_deliveredBy 26 = .ok (.if_icmp .ne 9, 3) := by decide +kernel
theorem dX0_deliveredBy_29 : decode cX0_deliveredBy 29 = .ok (.iload_n 2, 1) := by decide +kernel
theorem dX0_deliveredBy_30 : decode cX0_deliveredBy 30 = .ok (.iconst 1, 1) := by decide +kernel
theorem dX0_deliveredBy_31 : decode cX0_deliveredBy 31 = .ok (.iload_n 3, 1) := by decide +kernel
theorem dX0_deliveredBy_32 : decode cX0_deliveredBy 32 = .ok (.ishl, 1) := by decide +kernel
theorem dX0_deliveredBy_33 : decode cX0_deliveredBy 33 = .ok (.ior, 1) := by decide +kernel
theorem dX0_deliveredBy_34 : decode cX0_deliveredBy 34 = .ok (.istore_n 2, 1) := by decide +kernel
theorem dX0_deliveredBy_35 : decode cX0_deliveredBy 35 = .ok (.iinc 3 1, 3) := by decide +kernel
theorem dX0_deliveredBy_38 : decode cX0_deliveredBy 38 = .ok (.goto (-34), 3) := by decide +kernel
theorem dX0_deliveredBy_41 : decode cX0_deliveredBy 41 = .ok (.iload_n 2, 1) := by decide +kernel
theorem dX0_deliveredBy_42 : decode cX0_deliveredBy 42 = .ok (.ireturn, 1) := by decide +kernel
theorem dX3_isOn_0 : decode cX3_isOn 0 = .ok (.aload_n 0, 1) := by decide +kernel
theorem dX3_isOn_1 : decode cX3_isOn 1 = .ok (.getfield 9, 3) := by decide +kernel
theorem dX3_isOn_4 : decode cX3_isOn 4 = .ok (.iload_n 1, 1) := by decide +kernel
theorem dX3_isOn_5 : decode cX3_isOn 5 = .ok (.iaload, 1) := by decide +kernel
theorem dX3_isOn_6 : decode cX3_isOn 6 = .ok (.iconst (-1), 1) := by decide +kernel
theorem dX3_isOn_7 : decode cX3_isOn 7 = .ok (.if_icmp .eq 7, 3) := by decide +kernel
theorem dX3_isOn_10 : decode cX3_isOn 10 = .ok (.iconst 1, 1) := by decide +kernel
theorem dX3_isOn_11 : decode cX3_isOn 11 = .ok (.goto 4, 3) := by decide +kernel
theorem dX3_isOn_14 : decode cX3_isOn 14 = .ok (.iconst 0, 1) := by decide +kernel
theorem dX3_isOn_15 : decode cX3_isOn 15 = .ok (.ireturn, 1) := by decide +kernel
theorem dX0_gatherers_0 : decode cX0_gatherers 0 = .ok (.iconst 0, 1) := by decide +kernel
theorem dX0_gatherers_1 : decode cX0_gatherers 1 = .ok (.istore_n 2, 1) := by decide +kernel
theorem dX0_gatherers_2 : decode cX0_gatherers 2 = .ok (.iconst 0, 1) := by decide +kernel
theorem dX0_gatherers_3 : decode cX0_gatherers 3 = .ok (.istore_n 3, 1) := by decide +kernel
theorem dX0_gatherers_4 : decode cX0_gatherers 4 = .ok (.iload_n 3, 1) := by decide +kernel
theorem dX0_gatherers_5 : decode cX0_gatherers 5 = .ok (.aload_n 0, 1) := by decide +kernel
theorem dX0_gatherers_6 : decode cX0_gatherers 6 = .ok (.getfield 9, 3) := by decide +kernel
theorem dX0_gatherers_9 : decode cX0_gatherers 9 = .ok (.if_icmp .ge 30, 3) := by decide +kernel
theorem dX0_gatherers_12 : decode cX0_gatherers 12 = .ok (.aload_n 0, 1) := by decide +kernel
theorem dX0_gatherers_13 : decode cX0_gatherers 13 = .ok (.getfield 29, 3) := by decide +kernel
theorem dX0_gatherers_16 : decode cX0_gatherers 16 = .ok (.iload_n 3, 1) := by decide +kernel
theorem dX0_gatherers_17 : decode cX0_gatherers 17 = .ok (.iload_n 1, 1) := by decide +kernel
theorem dX0_gatherers_18 : decode cX0_gatherers 18 = .ok (.invokestatic 25, 3) := by decide +kernel
theorem dX0_gatherers_21 : decode cX0_gatherers 21 = .ok (.invokevirtual 33, 3) := by decide +kernel
theorem dX0_gatherers_24 : decode cX0_gatherers 24 = .ok (.ifCond .eq 9, 3) := by decide +kernel
theorem dX0_gatherers_27 : decode cX0_gatherers 27 = .ok (.iload_n 2, 1) := by decide +kernel
theorem dX0_gatherers_28 : decode cX0_gatherers 28 = .ok (.iconst 1, 1) := by decide +kernel
theorem dX0_gatherers_29 : decode cX0_gatherers 29 = .ok (.iload_n 3, 1) := by decide +kernel
theorem dX0_gatherers_30 : decode cX0_gatherers 30 = .ok (.ishl, 1) := by decide +kernel
theorem dX0_gatherers_31 : decode cX0_gatherers 31 = .ok (.ior, 1) := by decide +kernel
theorem dX0_gatherers_32 : decode cX0_gatherers 32 = .ok (.istore_n 2, 1) := by decide +kernel
theorem dX0_gatherers_33 : decode cX0_gatherers 33 = .ok (.iinc 3 1, 3) := by decide +kernel
theorem dX0_gatherers_36 : decode cX0_gatherers 36 = .ok (.goto (-32), 3) := by decide +kernel
theorem dX0_gatherers_39 : decode cX0_gatherers 39 = .ok (.iload_n 2, 1) := by decide +kernel
theorem dX0_gatherers_40 : decode cX0_gatherers 40 = .ok (.ireturn, 1) := by decide +kernel
theorem dX4_isPending_0 : decode cX4_isPending 0 = .ok (.aload_n 0, 1) := by decide +kernel
theorem dX4_isPending_1 : decode cX4_isPending 1 = .ok (.getfield 9, 3) := by decide +kernel
theorem dX4_isPending_4 : decode cX4_isPending 4 = .ok (.iload_n 1, 1) := by decide +kernel
theorem dX4_isPending_5 : decode cX4_isPending 5 = .ok (.iaload, 1) := by decide +kernel
theorem dX4_isPending_6 : decode cX4_isPending 6 = .ok (.iconst 1, 1) := by decide +kernel
theorem dX4_isPending_7 : decode cX4_isPending 7 = .ok (.if_icmp .eq 13, 3) := by decide +kernel
theorem dX4_isPending_10 : decode cX4_isPending 10 = .ok (.aload_n 0, 1) := by decide +kernel
theorem dX4_isPending_11 : decode cX4_isPending 11 = .ok (.getfield 9, 3) := by decide +kernel
theorem dX4_isPending_14 : decode cX4_isPending 14 = .ok (.iload_n 1, 1) := by decide +kernel
theorem dX4_isPending_15 : decode cX4_isPending 15 = .ok (.iaload, 1) := by decide +kernel
theorem dX4_isPending_16 : decode cX4_isPending 16 = .ok (.iconst 2, 1) := by decide +kernel
theorem dX4_isPending_17 : decode cX4_isPending 17 = .ok (.if_icmp .ne 7, 3) := by decide +kernel
theorem dX4_isPending_20 : decode cX4_isPending 20 = .ok (.iconst 1, 1) := by decide +kernel
theorem dX4_isPending_21 : decode cX4_isPending 21 = .ok (.goto 4, 3) := by decide +kernel
theorem dX4_isPending_24 : decode cX4_isPending 24 = .ok (.iconst 0, 1) := by decide +kernel
theorem dX4_isPending_25 : decode cX4_isPending 25 = .ok (.ireturn, 1) := by decide +kernel
theorem dX0_blockOf_0 : decode cX0_blockOf 0 = .ok (.aload_n 0, 1) := by decide +kernel
theorem dX0_blockOf_1 : decode cX0_blockOf 1 = .ok (.getfield 15, 3) := by decide +kernel
theorem dX0_blockOf_4 : decode cX0_blockOf 4 = .ok (.astore_n 3, 1) := by decide +kernel
theorem dX0_blockOf_5 : decode cX0_blockOf 5 = .ok (.iload_n 1, 1) := by decide +kernel
theorem dX0_blockOf_6 : decode cX0_blockOf 6 = .ok (.iload_n 2, 1) := by decide +kernel
theorem dX0_blockOf_7 : decode cX0_blockOf 7 = .ok (.invokestatic 25, 3) := by decide +kernel
theorem dX0_blockOf_10 : decode cX0_blockOf 10 = .ok (.istore 4, 2) := by decide +kernel
theorem dX0_blockOf_12 : decode cX0_blockOf 12 = .ok (.aload_n 3, 1) := by decide +kernel
theorem dX0_blockOf_13 : decode cX0_blockOf 13 = .ok (.iload 4, 2) := by decide +kernel
theorem dX0_blockOf_15 : decode cX0_blockOf 15 = .ok (.invokevirtual 39, 3) := by decide +kernel
theorem dX0_blockOf_18 : decode cX0_blockOf 18 = .ok (.ifCond .ne 5, 3) := by decide +kernel
theorem dX0_blockOf_21 : decode cX0_blockOf 21 = .ok (.iconst (-1), 1) := by decide +kernel
theorem dX0_blockOf_22 : decode cX0_blockOf 22 = .ok (.ireturn, 1) := by decide +kernel
theorem dX0_blockOf_23 : decode cX0_blockOf 23 = .ok (.iconst (-1), 1) := by decide +kernel
theorem dX0_blockOf_24 : decode cX0_blockOf 24 = .ok (.istore 5, 2) := by decide +kernel
theorem dX0_blockOf_26 : decode cX0_blockOf 26 = .ok (.iconst 0, 1) := by decide +kernel
theorem dX0_blockOf_27 : decode cX0_blockOf 27 = .ok (.istore 6, 2) := by decide +kernel
theorem dX0_blockOf_29 : decode cX0_blockOf 29 = .ok (.iload 6, 2) := by decide +kernel
theorem dX0_blockOf_31 : decode cX0_blockOf 31 = .ok (.aload_n 0, 1) := by decide +kernel
theorem dX0_blockOf_32 : decode cX0_blockOf 32 = .ok (.getfield 42, 3) := by decide +kernel
theorem dX0_blockOf_35 : decode cX0_blockOf 35 = .ok (.getfield 46, 3) := by decide +kernel
theorem dX0_blockOf_38 : decode cX0_blockOf 38 = .ok (.if_icmp .ge 111, 3) := by decide +kernel
theorem dX0_blockOf_41 : decode cX0_blockOf 41 = .ok (.iload_n 1, 1) := by decide +kernel
theorem dX0_blockOf_42 : decode cX0_blockOf 42 = .ok (.iload 6, 2) := by decide +kernel
theorem dX0_blockOf_44 : decode cX0_blockOf 44 = .ok (.invokestatic 25, 3) := by decide +kernel
theorem dX0_blockOf_47 : decode cX0_blockOf 47 = .ok (.istore 7, 2) := by decide +kernel
theorem dX0_blockOf_49 : decode cX0_blockOf 49 = .ok (.aload_n 3, 1) := by decide +kernel
theorem dX0_blockOf_50 : decode cX0_blockOf 50 = .ok (.getfield 51, 3) := by decide +kernel
theorem dX0_blockOf_53 : decode cX0_blockOf 53 = .ok (.iload 7, 2) := by decide +kernel
theorem dX0_blockOf_55 : decode cX0_blockOf 55 = .ok (.iaload, 1) := by decide +kernel
theorem dX0_blockOf_56 : decode cX0_blockOf 56 = .ok (.aload_n 3, 1) := by decide +kernel
theorem dX0_blockOf_57 : decode cX0_blockOf 57 = .ok (.getfield 51, 3) := by decide +kernel
theorem dX0_blockOf_60 : decode cX0_blockOf 60 = .ok (.iload 4, 2) := by decide +kernel
theorem dX0_blockOf_62 : decode cX0_blockOf 62 = .ok (.iaload, 1) := by decide +kernel
theorem dX0_blockOf_63 : decode cX0_blockOf 63 = .ok (.if_icmp .lt 26, 3) := by decide +kernel
theorem dX0_blockOf_66 : decode cX0_blockOf 66 = .ok (.aload_n 3, 1) := by decide +kernel
theorem dX0_blockOf_67 : decode cX0_blockOf 67 = .ok (.getfield 51, 3) := by decide +kernel
theorem dX0_blockOf_70 : decode cX0_blockOf 70 = .ok (.iload 7, 2) := by decide +kernel
theorem dX0_blockOf_72 : decode cX0_blockOf 72 = .ok (.iaload, 1) := by decide +kernel
theorem dX0_blockOf_73 : decode cX0_blockOf 73 = .ok (.aload_n 3, 1) := by decide +kernel
theorem dX0_blockOf_74 : decode cX0_blockOf 74 = .ok (.getfield 51, 3) := by decide +kernel
theorem dX0_blockOf_77 : decode cX0_blockOf 77 = .ok (.iload 4, 2) := by decide +kernel
theorem dX0_blockOf_79 : decode cX0_blockOf 79 = .ok (.iaload, 1) := by decide +kernel
theorem dX0_blockOf_80 : decode cX0_blockOf 80 = .ok (.if_icmp .ne 13, 3) := by decide +kernel
theorem dX0_blockOf_83 : decode cX0_blockOf 83 = .ok (.iload 6, 2) := by decide +kernel
theorem dX0_blockOf_85 : decode cX0_blockOf 85 = .ok (.iload_n 2, 1) := by decide +kernel
theorem dX0_blockOf_86 : decode cX0_blockOf 86 = .ok (.if_icmp .gt 7, 3) := by decide +kernel
theorem dX0_blockOf_89 : decode cX0_blockOf 89 = .ok (.iconst 1, 1) := by decide +kernel
theorem dX0_blockOf_90 : decode cX0_blockOf 90 = .ok (.goto 4, 3) := by decide +kernel
theorem dX0_blockOf_93 : decode cX0_blockOf 93 = .ok (.iconst 0, 1) := by decide +kernel
theorem dX0_blockOf_94 : decode cX0_blockOf 94 = .ok (.istore 8, 2) := by decide +kernel
theorem dX0_blockOf_96 : decode cX0_blockOf 96 = .ok (.aload_n 3, 1) := by decide +kernel
theorem dX0_blockOf_97 : decode cX0_blockOf 97 = .ok (.getfield 19, 3) := by decide +kernel
theorem dX0_blockOf_100 : decode cX0_blockOf 100 = .ok (.iload 7, 2) := by decide +kernel
theorem dX0_blockOf_102 : decode cX0_blockOf 102 = .ok (.iaload, 1) := by decide +kernel
theorem dX0_blockOf_103 : decode cX0_blockOf 103 = .ok (.iconst 1, 1) := by decide +kernel
theorem dX0_blockOf_104 : decode cX0_blockOf 104 = .ok (.if_icmp .ne 39, 3) := by decide +kernel
theorem dX0_blockOf_107 : decode cX0_blockOf 107 = .ok (.iload 8, 2) := by decide +kernel
theorem dX0_blockOf_109 : decode cX0_blockOf 109 = .ok (.ifCond .eq 34, 3) := by decide +kernel
theorem dX0_blockOf_112 : decode cX0_blockOf 112 = .ok (.iload 5, 2) := by decide +kernel
theorem dX0_blockOf_114 : decode cX0_blockOf 114 = .ok (.iconst (-1), 1) := by decide +kernel
theorem dX0_blockOf_115 : decode cX0_blockOf 115 = .ok (.if_icmp .eq 24, 3) := by decide +kernel
theorem dX0_blockOf_118 : decode cX0_blockOf 118 = .ok (.aload_n 3, 1) := by decide +kernel
theorem dX0_blockOf_119 : decode cX0_blockOf 119 = .ok (.getfield 51, 3) := by decide +kernel
theorem dX0_blockOf_122 : decode cX0_blockOf 122 = .ok (.iload 7, 2) := by decide +kernel
theorem dX0_blockOf_124 : decode cX0_blockOf 124 = .ok (.iaload, 1) := by decide +kernel
theorem dX0_blockOf_125 : decode cX0_blockOf 125 = .ok (.aload_n 3, 1) := by decide +kernel
theorem dX0_blockOf_126 : decode cX0_blockOf 126 = .ok (.getfield 51, 3) := by decide +kernel
theorem dX0_blockOf_129 : decode cX0_blockOf 129 = .ok (.iload_n 1, 1) := by decide +kernel
theorem dX0_blockOf_130 : decode cX0_blockOf 130 = .ok (.iload 5, 2) := by decide +kernel
theorem dX0_blockOf_132 : decode cX0_blockOf 132 = .ok (.invokestatic 25, 3) := by decide +kernel
theorem dX0_blockOf_135 : decode cX0_blockOf 135 = .ok (.iaload, 1) := by decide +kernel
theorem dX0_blockOf_136 : decode cX0_blockOf 136 = .ok (.if_icmp .ge 7, 3) := by decide +kernel
theorem dX0_blockOf_139 : decode cX0_blockOf 139 = .ok (.iload 6, 2) := by decide +kernel
theorem dX0_blockOf_141 : decode cX0_blockOf 141 = .ok (.istore 5, 2) := by decide +kernel
theorem dX0_blockOf_143 : decode cX0_blockOf 143 = .ok (.iinc 6 1, 3) := by decide +kernel
theorem dX0_blockOf_146 : decode cX0_blockOf 146 = .ok (.goto (-117), 3) := by decide +kernel
theorem dX0_blockOf_149 : decode cX0_blockOf 149 = .ok (.iload 5, 2) := by decide +kernel
theorem dX0_blockOf_151 : decode cX0_blockOf 151 = .ok (.ireturn, 1) := by decide +kernel
theorem dX7_isUp_0 : decode cX7_isUp 0 = .ok (.aload_n 0, 1) := by decide +kernel
theorem dX7_isUp_1 : decode cX7_isUp 1 = .ok (.getfield 44, 3) := by decide +kernel
theorem dX7_isUp_4 : decode cX7_isUp 4 = .ok (.iload_n 1, 1) := by decide +kernel
theorem dX7_isUp_5 : decode cX7_isUp 5 = .ok (.iaload, 1) := by decide +kernel
theorem dX7_isUp_6 : decode cX7_isUp 6 = .ok (.iconst (-1), 1) := by decide +kernel
theorem dX7_isUp_7 : decode cX7_isUp 7 = .ok (.if_icmp .ne 7, 3) := by decide +kernel
theorem dX7_isUp_10 : decode cX7_isUp 10 = .ok (.iconst 1, 1) := by decide +kernel
theorem dX7_isUp_11 : decode cX7_isUp 11 = .ok (.goto 4, 3) := by decide +kernel
theorem dX7_isUp_14 : decode cX7_isUp 14 = .ok (.iconst 0, 1) := by decide +kernel
theorem dX7_isUp_15 : decode cX7_isUp 15 = .ok (.ireturn, 1) := by decide +kernel
theorem dX7_isNoticed_0 : decode cX7_isNoticed 0 = .ok (.aload_n 0, 1) := by decide +kernel
theorem dX7_isNoticed_1 : decode cX7_isNoticed 1 = .ok (.iload_n 1, 1) := by decide +kernel
theorem dX7_isNoticed_2 : decode cX7_isNoticed 2 = .ok (.invokevirtual 135, 3) := by decide +kernel
theorem dX7_isNoticed_5 : decode cX7_isNoticed 5 = .ok (.ifCond .ne 25, 3) := by decide +kernel
theorem dX7_isNoticed_8 : decode cX7_isNoticed 8 = .ok (.aload_n 0, 1) := by decide +kernel
theorem dX7_isNoticed_9 : decode cX7_isNoticed 9 = .ok (.getfield 21, 3) := by decide +kernel
theorem dX7_isNoticed_12 : decode cX7_isNoticed 12 = .ok (.aload_n 0, 1) := by decide +kernel
theorem dX7_isNoticed_13 : decode cX7_isNoticed 13 = .ok (.getfield 44, 3) := by decide +kernel
theorem dX7_isNoticed_16 : decode cX7_isNoticed 16 = .ok (.iload_n 1, 1) := by decide +kernel
theorem dX7_isNoticed_17 : decode cX7_isNoticed 17 = .ok (.iaload, 1) := by decide +kernel
theorem dX7_isNoticed_18 : decode cX7_isNoticed 18 = .ok (.isub, 1) := by decide +kernel
theorem dX7_isNoticed_19 : decode cX7_isNoticed 19 = .ok (.aload_n 0, 1) := by decide +kernel
theorem dX7_isNoticed_20 : decode cX7_isNoticed 20 = .ok (.getfield 27, 3) := by decide +kernel
theorem dX7_isNoticed_23 : decode cX7_isNoticed 23 = .ok (.if_icmp .lt 7, 3) := by decide +kernel
theorem dX7_isNoticed_26 : decode cX7_isNoticed 26 = .ok (.iconst 1, 1) := by decide +kernel
theorem dX7_isNoticed_27 : decode cX7_isNoticed 27 = .ok (.goto 4, 3) := by decide +kernel
theorem dX7_isNoticed_30 : decode cX7_isNoticed 30 = .ok (.iconst 0, 1) := by decide +kernel
theorem dX7_isNoticed_31 : decode cX7_isNoticed 31 = .ok (.ireturn, 1) := by decide +kernel
theorem dX7_noticedNodes_0 : decode cX7_noticedNodes 0 = .ok (.iconst 0, 1) := by decide +kernel
theorem dX7_noticedNodes_1 : decode cX7_noticedNodes 1 = .ok (.istore_n 1, 1) := by decide +kernel
theorem dX7_noticedNodes_2 : decode cX7_noticedNodes 2 = .ok (.iconst 0, 1) := by decide +kernel
theorem dX7_noticedNodes_3 : decode cX7_noticedNodes 3 = .ok (.istore_n 2, 1) := by decide +kernel
theorem dX7_noticedNodes_4 : decode cX7_noticedNodes 4 = .ok (.iload_n 2, 1) := by decide +kernel
theorem dX7_noticedNodes_5 : decode cX7_noticedNodes 5 = .ok (.aload_n 0, 1) := by decide +kernel
theorem dX7_noticedNodes_6 : decode cX7_noticedNodes 6 = .ok (.getfield 9, 3) := by decide +kernel
theorem dX7_noticedNodes_9 : decode cX7_noticedNodes 9 = .ok (.if_icmp .ge 23, 3) := by decide +kernel
theorem dX7_noticedNodes_12 : decode cX7_noticedNodes 12 = .ok (.aload_n 0, 1) := by decide +kernel
theorem dX7_noticedNodes_13 : decode cX7_noticedNodes 13 = .ok (.iload_n 2, 1) := by decide +kernel
theorem dX7_noticedNodes_14 : decode cX7_noticedNodes 14 = .ok (.invokevirtual 142, 3) := by decide +kernel
theorem dX7_noticedNodes_17 : decode cX7_noticedNodes 17 = .ok (.ifCond .eq 9, 3) := by decide +kernel
theorem dX7_noticedNodes_20 : decode cX7_noticedNodes 20 = .ok (.iload_n 1, 1) := by decide +kernel
theorem dX7_noticedNodes_21 : decode cX7_noticedNodes 21 = .ok (.iconst 1, 1) := by decide +kernel
theorem dX7_noticedNodes_22 : decode cX7_noticedNodes 22 = .ok (.iload_n 2, 1) := by decide +kernel
theorem dX7_noticedNodes_23 : decode cX7_noticedNodes 23 = .ok (.ishl, 1) := by decide +kernel
theorem dX7_noticedNodes_24 : decode cX7_noticedNodes 24 = .ok (.ior, 1) := by decide +kernel
theorem dX7_noticedNodes_25 : decode cX7_noticedNodes 25 = .ok (.istore_n 1, 1) := by decide +kernel
theorem dX7_noticedNodes_26 : decode cX7_noticedNodes 26 = .ok (.iinc 2 1, 3) := by decide +kernel
theorem dX7_noticedNodes_29 : decode cX7_noticedNodes 29 = .ok (.goto (-25), 3) := by decide +kernel
theorem dX7_noticedNodes_32 : decode cX7_noticedNodes 32 = .ok (.iload_n 1, 1) := by decide +kernel
theorem dX7_noticedNodes_33 : decode cX7_noticedNodes 33 = .ok (.ireturn, 1) := by decide +kernel
theorem dX0_waitsOf_0 : decode cX0_waitsOf 0 = .ok (.iconst (-1), 1) := by decide +kernel
theorem dX0_waitsOf_1 : decode cX0_waitsOf 1 = .ok (.istore_n 2, 1) := by decide +kernel
theorem dX0_waitsOf_2 : decode cX0_waitsOf 2 = .ok (.aload_n 0, 1) := by decide +kernel
theorem dX0_waitsOf_3 : decode cX0_waitsOf 3 = .ok (.getfield 42, 3) := by decide +kernel
theorem dX0_waitsOf_6 : decode cX0_waitsOf 6 = .ok (.getfield 54, 3) := by decide +kernel
theorem dX0_waitsOf_9 : decode cX0_waitsOf 9 = .ok (.iload_n 1, 1) := by decide +kernel
theorem dX0_waitsOf_10 : decode cX0_waitsOf 10 = .ok (.iaload, 1) := by decide +kernel
theorem dX0_waitsOf_11 : decode cX0_waitsOf 11 = .ok (.aload_n 0, 1) := by decide +kernel
theorem dX0_waitsOf_12 : decode cX0_waitsOf 12 = .ok (.invokevirtual 57, 3) := by decide +kernel
theorem dX0_waitsOf_15 : decode cX0_waitsOf 15 = .ok (.iconst (-1), 1) := by decide +kernel
theorem dX0_waitsOf_16 : decode cX0_waitsOf 16 = .ok (.ixor, 1) := by decide +kernel
theorem dX0_waitsOf_17 : decode cX0_waitsOf 17 = .ok (.iand, 1) := by decide +kernel
theorem dX0_waitsOf_18 : decode cX0_waitsOf 18 = .ok (.istore_n 3, 1) := by decide +kernel
theorem dX0_waitsOf_19 : decode cX0_waitsOf 19 = .ok (.iconst 0, 1) := by decide +kernel
theorem dX0_waitsOf_20 : decode cX0_waitsOf 20 = .ok (.istore 4, 2) := by decide +kernel
theorem dX0_waitsOf_22 : decode cX0_waitsOf 22 = .ok (.iload 4, 2) := by decide +kernel
theorem dX0_waitsOf_24 : decode cX0_waitsOf 24 = .ok (.aload_n 0, 1) := by decide +kernel
theorem dX0_waitsOf_25 : decode cX0_waitsOf 25 = .ok (.getfield 9, 3) := by decide +kernel
theorem dX0_waitsOf_28 : decode cX0_waitsOf 28 = .ok (.if_icmp .ge 64, 3) := by decide +kernel
theorem dX0_waitsOf_31 : decode cX0_waitsOf 31 = .ok (.iload 4, 2) := by decide +kernel
theorem dX0_waitsOf_33 : decode cX0_waitsOf 33 = .ok (.iload_n 1, 1) := by decide +kernel
theorem dX0_waitsOf_34 : decode cX0_waitsOf 34 = .ok (.invokestatic 25, 3) := by decide +kernel
theorem dX0_waitsOf_37 : decode cX0_waitsOf 37 = .ok (.istore 5, 2) := by decide +kernel
theorem dX0_waitsOf_39 : decode cX0_waitsOf 39 = .ok (.aload_n 0, 1) := by decide +kernel
theorem dX0_waitsOf_40 : decode cX0_waitsOf 40 = .ok (.iload 4, 2) := by decide +kernel
theorem dX0_waitsOf_42 : decode cX0_waitsOf 42 = .ok (.invokevirtual 61, 3) := by decide +kernel
theorem dX0_waitsOf_45 : decode cX0_waitsOf 45 = .ok (.ifCond .eq 41, 3) := by decide +kernel
theorem dX0_waitsOf_48 : decode cX0_waitsOf 48 = .ok (.aload_n 0, 1) := by decide +kernel
theorem dX0_waitsOf_49 : decode cX0_waitsOf 49 = .ok (.getfield 29, 3) := by decide +kernel
theorem dX0_waitsOf_52 : decode cX0_waitsOf 52 = .ok (.iload 5, 2) := by decide +kernel
theorem dX0_waitsOf_54 : decode cX0_waitsOf 54 = .ok (.invokevirtual 33, 3) := by decide +kernel
theorem dX0_waitsOf_57 : decode cX0_waitsOf 57 = .ok (.ifCond .eq 29, 3) := by decide +kernel
theorem dX0_waitsOf_60 : decode cX0_waitsOf 60 = .ok (.iload_n 2, 1) := by decide +kernel
theorem dX0_waitsOf_61 : decode cX0_waitsOf 61 = .ok (.iconst (-1), 1) := by decide +kernel
theorem dX0_waitsOf_62 : decode cX0_waitsOf 62 = .ok (.if_icmp .ne 7, 3) := by decide +kernel
theorem dX0_waitsOf_65 : decode cX0_waitsOf 65 = .ok (.iconst 0, 1) := by decide +kernel
theorem dX0_waitsOf_66 : decode cX0_waitsOf 66 = .ok (.goto 4, 3) := by decide +kernel
theorem dX0_waitsOf_69 : decode cX0_waitsOf 69 = .ok (.iload_n 2, 1) := by decide +kernel
theorem dX0_waitsOf_70 : decode cX0_waitsOf 70 = .ok (.iload_n 3, 1) := by decide +kernel
theorem dX0_waitsOf_71 : decode cX0_waitsOf 71 = .ok (.aload_n 0, 1) := by decide +kernel
theorem dX0_waitsOf_72 : decode cX0_waitsOf 72 = .ok (.getfield 29, 3) := by decide +kernel
theorem dX0_waitsOf_75 : decode cX0_waitsOf 75 = .ok (.getfield 64, 3) := by decide +kernel
theorem dX0_waitsOf_78 : decode cX0_waitsOf 78 = .ok (.iload 5, 2) := by decide +kernel
theorem dX0_waitsOf_80 : decode cX0_waitsOf 80 = .ok (.iaload, 1) := by decide +kernel
theorem dX0_waitsOf_81 : decode cX0_waitsOf 81 = .ok (.iconst (-1), 1) := by decide +kernel
theorem dX0_waitsOf_82 : decode cX0_waitsOf 82 = .ok (.ixor, 1) := by decide +kernel
theorem dX0_waitsOf_83 : decode cX0_waitsOf 83 = .ok (.iand, 1) := by decide +kernel
theorem dX0_waitsOf_84 : decode cX0_waitsOf 84 = .ok (.ior, 1) := by decide +kernel
theorem dX0_waitsOf_85 : decode cX0_waitsOf 85 = .ok (.istore_n 2, 1) := by decide +kernel
theorem dX0_waitsOf_86 : decode cX0_waitsOf 86 = .ok (.iinc 4 1, 3) := by decide +kernel
theorem dX0_waitsOf_89 : decode cX0_waitsOf 89 = .ok (.goto (-67), 3) := by decide +kernel
theorem dX0_waitsOf_92 : decode cX0_waitsOf 92 = .ok (.iload_n 2, 1) := by decide +kernel
theorem dX0_waitsOf_93 : decode cX0_waitsOf 93 = .ok (.ireturn, 1) := by decide +kernel
theorem dX0_leastOf_0 : decode cX0_leastOf 0 = .ok (.iload_n 0, 1) := by decide +kernel
theorem dX0_leastOf_1 : decode cX0_leastOf 1 = .ok (.iconst (-1), 1) := by decide +kernel
theorem dX0_leastOf_2 : decode cX0_leastOf 2 = .ok (.if_icmp .ne 5, 3) := by decide +kernel
theorem dX0_leastOf_5 : decode cX0_leastOf 5 = .ok (.iconst (-1), 1) := by decide +kernel
theorem dX0_leastOf_6 : decode cX0_leastOf 6 = .ok (.ireturn, 1) := by decide +kernel
theorem dX0_leastOf_7 : decode cX0_leastOf 7 = .ok (.iconst 0, 1) := by decide +kernel
theorem dX0_leastOf_8 : decode cX0_leastOf 8 = .ok (.istore_n 1, 1) := by decide +kernel
theorem dX0_leastOf_9 : decode cX0_leastOf 9 = .ok (.iload_n 1, 1) := by decide +kernel
theorem dX0_leastOf_10 : decode cX0_leastOf 10 = .ok (.bipush 6, 2) := by decide +kernel
theorem dX0_leastOf_12 : decode cX0_leastOf 12 = .ok (.if_icmp .ge 19, 3) := by decide +kernel
theorem dX0_leastOf_15 : decode cX0_leastOf 15 = .ok (.iload_n 0, 1) := by decide +kernel
theorem dX0_leastOf_16 : decode cX0_leastOf 16 = .ok (.iload_n 1, 1) := by decide +kernel
theorem dX0_leastOf_17 : decode cX0_leastOf 17 = .ok (.invokestatic 73, 3) := by decide +kernel
theorem dX0_leastOf_20 : decode cX0_leastOf 20 = .ok (.ifCond .eq 5, 3) := by decide +kernel
theorem dX0_leastOf_23 : decode cX0_leastOf 23 = .ok (.iload_n 1, 1) := by decide +kernel
theorem dX0_leastOf_24 : decode cX0_leastOf 24 = .ok (.ireturn, 1) := by decide +kernel
theorem dX0_leastOf_25 : decode cX0_leastOf 25 = .ok (.iinc 1 1, 3) := by decide +kernel
theorem dX0_leastOf_28 : decode cX0_leastOf 28 = .ok (.goto (-19), 3) := by decide +kernel
theorem dX0_leastOf_31 : decode cX0_leastOf 31 = .ok (.iconst (-1), 1) := by decide +kernel
theorem dX0_leastOf_32 : decode cX0_leastOf 32 = .ok (.ireturn, 1) := by decide +kernel
theorem dX0_chainAt_0 : decode cX0_chainAt 0 = .ok (.iconst 1, 1) := by decide +kernel
theorem dX0_chainAt_1 : decode cX0_chainAt 1 = .ok (.iload_n 2, 1) := by decide +kernel
theorem dX0_chainAt_2 : decode cX0_chainAt 2 = .ok (.ishl, 1) := by decide +kernel
theorem dX0_chainAt_3 : decode cX0_chainAt 3 = .ok (.istore 4, 2) := by decide +kernel
theorem dX0_chainAt_5 : decode cX0_chainAt 5 = .ok (.aload_n 0, 1) := by decide +kernel
theorem dX0_chainAt_6 : decode cX0_chainAt 6 = .ok (.iload_n 1, 1) := by decide +kernel
theorem dX0_chainAt_7 : decode cX0_chainAt 7 = .ok (.iload_n 2, 1) := by decide +kernel
theorem dX0_chainAt_8 : decode cX0_chainAt 8 = .ok (.invokestatic 67, 3) := by decide +kernel
theorem dX0_chainAt_11 : decode cX0_chainAt 11 = .ok (.istore 5, 2) := by decide +kernel
theorem dX0_chainAt_13 : decode cX0_chainAt 13 = .ok (.iconst 0, 1) := by decide +kernel
theorem dX0_chainAt_14 : decode cX0_chainAt 14 = .ok (.istore 6, 2) := by decide +kernel
theorem dX0_chainAt_16 : decode cX0_chainAt 16 = .ok (.iload 6, 2) := by decide +kernel
theorem dX0_chainAt_18 : decode cX0_chainAt 18 = .ok (.bipush 20, 2) := by decide +kernel
theorem dX0_chainAt_20 : decode cX0_chainAt 20 = .ok (.if_icmp .ge 76, 3) := by decide +kernel
theorem dX0_chainAt_23 : decode cX0_chainAt 23 = .ok (.iload 5, 2) := by decide +kernel
theorem dX0_chainAt_25 : decode cX0_chainAt 25 = .ok (.iconst (-1), 1) := by decide +kernel
theorem dX0_chainAt_26 : decode cX0_chainAt 26 = .ok (.if_icmp .eq 13, 3) := by decide +kernel
theorem dX0_chainAt_29 : decode cX0_chainAt 29 = .ok (.iload 4, 2) := by decide +kernel
theorem dX0_chainAt_31 : decode cX0_chainAt 31 = .ok (.iload 5, 2) := by decide +kernel
theorem dX0_chainAt_33 : decode cX0_chainAt 33 = .ok (.invokestatic 73, 3) := by decide +kernel
theorem dX0_chainAt_36 : decode cX0_chainAt 36 = .ok (.ifCond .eq 5, 3) := by decide +kernel
theorem dX0_chainAt_39 : decode cX0_chainAt 39 = .ok (.iconst (-1), 1) := by decide +kernel
theorem dX0_chainAt_40 : decode cX0_chainAt 40 = .ok (.ireturn, 1) := by decide +kernel
theorem dX0_chainAt_41 : decode cX0_chainAt 41 = .ok (.iload 6, 2) := by decide +kernel
theorem dX0_chainAt_43 : decode cX0_chainAt 43 = .ok (.iload_n 3, 1) := by decide +kernel
theorem dX0_chainAt_44 : decode cX0_chainAt 44 = .ok (.if_icmp .ne 6, 3) := by decide +kernel
theorem dX0_chainAt_47 : decode cX0_chainAt 47 = .ok (.iload 5, 2) := by decide +kernel
theorem dX0_chainAt_49 : decode cX0_chainAt 49 = .ok (.ireturn, 1) := by decide +kernel
theorem dX0_chainAt_50 : decode cX0_chainAt 50 = .ok (.iload 4, 2) := by decide +kernel
theorem dX0_chainAt_52 : decode cX0_chainAt 52 = .ok (.iconst 1, 1) := by decide +kernel
theorem dX0_chainAt_53 : decode cX0_chainAt 53 = .ok (.iload 5, 2) := by decide +kernel
theorem dX0_chainAt_55 : decode cX0_chainAt 55 = .ok (.ishl, 1) := by decide +kernel
theorem dX0_chainAt_56 : decode cX0_chainAt 56 = .ok (.ior, 1) := by decide +kernel
theorem dX0_chainAt_57 : decode cX0_chainAt 57 = .ok (.istore 4, 2) := by decide +kernel
theorem dX0_chainAt_59 : decode cX0_chainAt 59 = .ok (.aload_n 0, 1) := by decide +kernel
theorem dX0_chainAt_60 : decode cX0_chainAt 60 = .ok (.iload 5, 2) := by decide +kernel
theorem dX0_chainAt_62 : decode cX0_chainAt 62 = .ok (.invokestatic 77, 3) := by decide +kernel
theorem dX0_chainAt_65 : decode cX0_chainAt 65 = .ok (.invokestatic 81, 3) := by decide +kernel
theorem dX0_chainAt_68 : decode cX0_chainAt 68 = .ok (.istore 7, 2) := by decide +kernel
theorem dX0_chainAt_70 : decode cX0_chainAt 70 = .ok (.aload_n 0, 1) := by decide +kernel
theorem dX0_chainAt_71 : decode cX0_chainAt 71 = .ok (.iload 7, 2) := by decide +kernel
theorem dX0_chainAt_73 : decode cX0_chainAt 73 = .ok (.iconst (-1), 1) := by decide +kernel
theorem dX0_chainAt_74 : decode cX0_chainAt 74 = .ok (.if_icmp .ne 7, 3) := by decide +kernel
theorem dX0_chainAt_77 : decode cX0_chainAt 77 = .ok (.iload_n 1, 1) := by decide +kernel
theorem dX0_chainAt_78 : decode cX0_chainAt 78 = .ok (.goto 5, 3) := by decide +kernel
theorem dX0_chainAt_81 : decode cX0_chainAt 81 = .ok (.iload 7, 2) := by decide +kernel
theorem dX0_chainAt_83 : decode cX0_chainAt 83 = .ok (.iload 5, 2) := by decide +kernel
theorem dX0_chainAt_85 : decode cX0_chainAt 85 = .ok (.invokestatic 67, 3) := by decide +kernel
theorem dX0_chainAt_88 : decode cX0_chainAt 88 = .ok (.istore 5, 2) := by decide +kernel
theorem dX0_chainAt_90 : decode cX0_chainAt 90 = .ok (.iinc 6 1, 3) := by decide +kernel
theorem dX0_chainAt_93 : decode cX0_chainAt 93 = .ok (.goto (-77), 3) := by decide +kernel
theorem dX0_chainAt_96 : decode cX0_chainAt 96 = .ok (.iconst (-1), 1) := by decide +kernel
theorem dX0_chainAt_97 : decode cX0_chainAt 97 = .ok (.ireturn, 1) := by decide +kernel
theorem dX7_upNodes_0 : decode cX7_upNodes 0 = .ok (.iconst 0, 1) := by decide +kernel
theorem dX7_upNodes_1 : decode cX7_upNodes 1 = .ok (.istore_n 1, 1) := by decide +kernel
theorem dX7_upNodes_2 : decode cX7_upNodes 2 = .ok (.iconst 0, 1) := by decide +kernel
theorem dX7_upNodes_3 : decode cX7_upNodes 3 = .ok (.istore_n 2, 1) := by decide +kernel
theorem dX7_upNodes_4 : decode cX7_upNodes 4 = .ok (.iload_n 2, 1) := by decide +kernel
theorem dX7_upNodes_5 : decode cX7_upNodes 5 = .ok (.aload_n 0, 1) := by decide +kernel
theorem dX7_upNodes_6 : decode cX7_upNodes 6 = .ok (.getfield 9, 3) := by decide +kernel
theorem dX7_upNodes_9 : decode cX7_upNodes 9 = .ok (.if_icmp .ge 23, 3) := by decide +kernel
theorem dX7_upNodes_12 : decode cX7_upNodes 12 = .ok (.aload_n 0, 1) := by decide +kernel
theorem dX7_upNodes_13 : decode cX7_upNodes 13 = .ok (.iload_n 2, 1) := by decide +kernel
theorem dX7_upNodes_14 : decode cX7_upNodes 14 = .ok (.invokevirtual 135, 3) := by decide +kernel
theorem dX7_upNodes_17 : decode cX7_upNodes 17 = .ok (.ifCond .eq 9, 3) := by decide +kernel
theorem dX7_upNodes_20 : decode cX7_upNodes 20 = .ok (.iload_n 1, 1) := by decide +kernel
theorem dX7_upNodes_21 : decode cX7_upNodes 21 = .ok (.iconst 1, 1) := by decide +kernel
theorem dX7_upNodes_22 : decode cX7_upNodes 22 = .ok (.iload_n 2, 1) := by decide +kernel
theorem dX7_upNodes_23 : decode cX7_upNodes 23 = .ok (.ishl, 1) := by decide +kernel
theorem dX7_upNodes_24 : decode cX7_upNodes 24 = .ok (.ior, 1) := by decide +kernel
theorem dX7_upNodes_25 : decode cX7_upNodes 25 = .ok (.istore_n 1, 1) := by decide +kernel
theorem dX7_upNodes_26 : decode cX7_upNodes 26 = .ok (.iinc 2 1, 3) := by decide +kernel
theorem dX7_upNodes_29 : decode cX7_upNodes 29 = .ok (.goto (-25), 3) := by decide +kernel
theorem dX7_upNodes_32 : decode cX7_upNodes 32 = .ok (.iload_n 1, 1) := by decide +kernel
theorem dX7_upNodes_33 : decode cX7_upNodes 33 = .ok (.ireturn, 1) := by decide +kernel
theorem dX0_lateOf_0 : decode cX0_lateOf 0 = .ok (.aload_n 0, 1) := by decide +kernel
theorem dX0_lateOf_1 : decode cX0_lateOf 1 = .ok (.iload_n 1, 1) := by decide +kernel
theorem dX0_lateOf_2 : decode cX0_lateOf 2 = .ok (.invokestatic 85, 3) := by decide +kernel
theorem dX0_lateOf_5 : decode cX0_lateOf 5 = .ok (.istore_n 2, 1) := by decide +kernel
theorem dX0_lateOf_6 : decode cX0_lateOf 6 = .ok (.aload_n 0, 1) := by decide +kernel
theorem dX0_lateOf_7 : decode cX0_lateOf 7 = .ok (.getfield 42, 3) := by decide +kernel
theorem dX0_lateOf_10 : decode cX0_lateOf 10 = .ok (.getfield 54, 3) := by decide +kernel
theorem dX0_lateOf_13 : decode cX0_lateOf 13 = .ok (.iload_n 1, 1) := by decide +kernel
theorem dX0_lateOf_14 : decode cX0_lateOf 14 = .ok (.iaload, 1) := by decide +kernel
theorem dX0_lateOf_15 : decode cX0_lateOf 15 = .ok (.aload_n 0, 1) := by decide +kernel
theorem dX0_lateOf_16 : decode cX0_lateOf 16 = .ok (.invokevirtual 88, 3) := by decide +kernel
theorem dX0_lateOf_19 : decode cX0_lateOf 19 = .ok (.iand, 1) := by decide +kernel
theorem dX0_lateOf_20 : decode cX0_lateOf 20 = .ok (.iload_n 2, 1) := by decide +kernel
theorem dX0_lateOf_21 : decode cX0_lateOf 21 = .ok (.iconst (-1), 1) := by decide +kernel
theorem dX0_lateOf_22 : decode cX0_lateOf 22 = .ok (.ixor, 1) := by decide +kernel
theorem dX0_lateOf_23 : decode cX0_lateOf 23 = .ok (.iand, 1) := by decide +kernel
theorem dX0_lateOf_24 : decode cX0_lateOf 24 = .ok (.ifCond .eq 5, 3) := by decide +kernel
theorem dX0_lateOf_27 : decode cX0_lateOf 27 = .ok (.iconst (-1), 1) := by decide +kernel
theorem dX0_lateOf_28 : decode cX0_lateOf 28 = .ok (.ireturn, 1) := by decide +kernel
theorem dX0_lateOf_29 : decode cX0_lateOf 29 = .ok (.iconst (-1), 1) := by decide +kernel
theorem dX0_lateOf_30 : decode cX0_lateOf 30 = .ok (.istore_n 3, 1) := by decide +kernel
theorem dX0_lateOf_31 : decode cX0_lateOf 31 = .ok (.iconst 0, 1) := by decide +kernel
theorem dX0_lateOf_32 : decode cX0_lateOf 32 = .ok (.istore 4, 2) := by decide +kernel
theorem dX0_lateOf_34 : decode cX0_lateOf 34 = .ok (.iload 4, 2) := by decide +kernel
theorem dX0_lateOf_36 : decode cX0_lateOf 36 = .ok (.aload_n 0, 1) := by decide +kernel
theorem dX0_lateOf_37 : decode cX0_lateOf 37 = .ok (.getfield 9, 3) := by decide +kernel
theorem dX0_lateOf_40 : decode cX0_lateOf 40 = .ok (.if_icmp .ge 47, 3) := by decide +kernel
theorem dX0_lateOf_43 : decode cX0_lateOf 43 = .ok (.iload_n 2, 1) := by decide +kernel
theorem dX0_lateOf_44 : decode cX0_lateOf 44 = .ok (.iload 4, 2) := by decide +kernel
theorem dX0_lateOf_46 : decode cX0_lateOf 46 = .ok (.invokestatic 73, 3) := by decide +kernel
theorem dX0_lateOf_49 : decode cX0_lateOf 49 = .ok (.ifCond .eq 32, 3) := by decide +kernel
theorem dX0_lateOf_52 : decode cX0_lateOf 52 = .ok (.iload_n 3, 1) := by decide +kernel
theorem dX0_lateOf_53 : decode cX0_lateOf 53 = .ok (.aload_n 0, 1) := by decide +kernel
theorem dX0_lateOf_54 : decode cX0_lateOf 54 = .ok (.getfield 15, 3) := by decide +kernel
theorem dX0_lateOf_57 : decode cX0_lateOf 57 = .ok (.getfield 91, 3) := by decide +kernel
theorem dX0_lateOf_60 : decode cX0_lateOf 60 = .ok (.iload 4, 2) := by decide +kernel
theorem dX0_lateOf_62 : decode cX0_lateOf 62 = .ok (.iload_n 1, 1) := by decide +kernel
theorem dX0_lateOf_63 : decode cX0_lateOf 63 = .ok (.invokestatic 25, 3) := by decide +kernel
theorem dX0_lateOf_66 : decode cX0_lateOf 66 = .ok (.iaload, 1) := by decide +kernel
theorem dX0_lateOf_67 : decode cX0_lateOf 67 = .ok (.aload_n 0, 1) := by decide +kernel
theorem dX0_lateOf_68 : decode cX0_lateOf 68 = .ok (.getfield 42, 3) := by decide +kernel
theorem dX0_lateOf_71 : decode cX0_lateOf 71 = .ok (.getfield 94, 3) := by decide +kernel
theorem dX0_lateOf_74 : decode cX0_lateOf 74 = .ok (.iload_n 1, 1) := by decide +kernel
theorem dX0_lateOf_75 : decode cX0_lateOf 75 = .ok (.iaload, 1) := by decide +kernel
theorem dX0_lateOf_76 : decode cX0_lateOf 76 = .ok (.isub, 1) := by decide +kernel
theorem dX0_lateOf_77 : decode cX0_lateOf 77 = .ok (.invokestatic 97, 3) := by decide +kernel
theorem dX0_lateOf_80 : decode cX0_lateOf 80 = .ok (.istore_n 3, 1) := by decide +kernel
theorem dX0_lateOf_81 : decode cX0_lateOf 81 = .ok (.iinc 4 1, 3) := by decide +kernel
theorem dX0_lateOf_84 : decode cX0_lateOf 84 = .ok (.goto (-50), 3) := by decide +kernel
theorem dX0_lateOf_87 : decode cX0_lateOf 87 = .ok (.iload_n 3, 1) := by decide +kernel
theorem dX0_lateOf_88 : decode cX0_lateOf 88 = .ok (.ireturn, 1) := by decide +kernel
theorem dX4_placeOf_0 : decode cX4_placeOf 0 = .ok (.iconst 0, 1) := by decide +kernel
theorem dX4_placeOf_1 : decode cX4_placeOf 1 = .ok (.istore_n 3, 1) := by decide +kernel
theorem dX4_placeOf_2 : decode cX4_placeOf 2 = .ok (.iload_n 3, 1) := by decide +kernel
theorem dX4_placeOf_3 : decode cX4_placeOf 3 = .ok (.aload_n 0, 1) := by decide +kernel
theorem dX4_placeOf_4 : decode cX4_placeOf 4 = .ok (.getfield 27, 3) := by decide +kernel
theorem dX4_placeOf_7 : decode cX4_placeOf 7 = .ok (.iload_n 1, 1) := by decide +kernel
theorem dX4_placeOf_8 : decode cX4_placeOf 8 = .ok (.iaload, 1) := by decide +kernel
theorem dX4_placeOf_9 : decode cX4_placeOf 9 = .ok (.if_icmp .ge 25, 3) := by decide +kernel
theorem dX4_placeOf_12 : decode cX4_placeOf 12 = .ok (.aload_n 0, 1) := by decide +kernel
theorem dX4_placeOf_13 : decode cX4_placeOf 13 = .ok (.getfield 24, 3) := by decide +kernel
theorem dX4_placeOf_16 : decode cX4_placeOf 16 = .ok (.iload_n 1, 1) := by decide +kernel
theorem dX4_placeOf_17 : decode cX4_placeOf 17 = .ok (.iload_n 3, 1) := by decide +kernel
theorem dX4_placeOf_18 : decode cX4_placeOf 18 = .ok (.invokestatic 34, 3) := by decide +kernel
theorem dX4_placeOf_21 : decode cX4_placeOf 21 = .ok (.iaload, 1) := by decide +kernel
theorem dX4_placeOf_22 : decode cX4_placeOf 22 = .ok (.iload_n 2, 1) := by decide +kernel
theorem dX4_placeOf_23 : decode cX4_placeOf 23 = .ok (.if_icmp .ne 5, 3) := by decide +kernel
theorem dX4_placeOf_26 : decode cX4_placeOf 26 = .ok (.iload_n 3, 1) := by decide +kernel
theorem dX4_placeOf_27 : decode cX4_placeOf 27 = .ok (.ireturn, 1) := by decide +kernel
theorem dX4_placeOf_28 : decode cX4_placeOf 28 = .ok (.iinc 3 1, 3) := by decide +kernel
theorem dX4_placeOf_31 : decode cX4_placeOf 31 = .ok (.goto (-29), 3) := by decide +kernel
theorem dX4_placeOf_34 : decode cX4_placeOf 34 = .ok (.iconst (-1), 1) := by decide +kernel
theorem dX4_placeOf_35 : decode cX4_placeOf 35 = .ok (.ireturn, 1) := by decide +kernel
theorem dX0_firstOf_0 : decode cX0_firstOf 0 = .ok (.iconst 0, 1) := by decide +kernel
theorem dX0_firstOf_1 : decode cX0_firstOf 1 = .ok (.istore_n 3, 1) := by decide +kernel
theorem dX0_firstOf_2 : decode cX0_firstOf 2 = .ok (.iload_n 3, 1) := by decide +kernel
theorem dX0_firstOf_3 : decode cX0_firstOf 3 = .ok (.aload_n 0, 1) := by decide +kernel
theorem dX0_firstOf_4 : decode cX0_firstOf 4 = .ok (.getfield 9, 3) := by decide +kernel
theorem dX0_firstOf_7 : decode cX0_firstOf 7 = .ok (.if_icmp .ge 56, 3) := by decide +kernel
theorem dX0_firstOf_10 : decode cX0_firstOf 10 = .ok (.aload_n 0, 1) := by decide +kernel
theorem dX0_firstOf_11 : decode cX0_firstOf 11 = .ok (.getfield 15, 3) := by decide +kernel
theorem dX0_firstOf_14 : decode cX0_firstOf 14 = .ok (.iload_n 3, 1) := by decide +kernel
theorem dX0_firstOf_15 : decode cX0_firstOf 15 = .ok (.iload_n 1, 1) := by decide +kernel
theorem dX0_firstOf_16 : decode cX0_firstOf 16 = .ok (.invokevirtual 102, 3) := by decide +kernel
theorem dX0_firstOf_19 : decode cX0_firstOf 19 = .ok (.istore 4, 2) := by decide +kernel
theorem dX0_firstOf_21 : decode cX0_firstOf 21 = .ok (.aload_n 0, 1) := by decide +kernel
theorem dX0_firstOf_22 : decode cX0_firstOf 22 = .ok (.getfield 15, 3) := by decide +kernel
theorem dX0_firstOf_25 : decode cX0_firstOf 25 = .ok (.iload_n 3, 1) := by decide +kernel
theorem dX0_firstOf_26 : decode cX0_firstOf 26 = .ok (.iload_n 2, 1) := by decide +kernel
theorem dX0_firstOf_27 : decode cX0_firstOf 27 = .ok (.invokevirtual 102, 3) := by decide +kernel
theorem dX0_firstOf_30 : decode cX0_firstOf 30 = .ok (.istore 5, 2) := by decide +kernel
theorem dX0_firstOf_32 : decode cX0_firstOf 32 = .ok (.iload 4, 2) := by decide +kernel
theorem dX0_firstOf_34 : decode cX0_firstOf 34 = .ok (.iconst (-1), 1) := by decide +kernel
theorem dX0_firstOf_35 : decode cX0_firstOf 35 = .ok (.if_icmp .eq 22, 3) := by decide +kernel
theorem dX0_firstOf_38 : decode cX0_firstOf 38 = .ok (.iload 5, 2) := by decide +kernel
theorem dX0_firstOf_40 : decode cX0_firstOf 40 = .ok (.iconst (-1), 1) := by decide +kernel
theorem dX0_firstOf_41 : decode cX0_firstOf 41 = .ok (.if_icmp .eq 16, 3) := by decide +kernel
theorem dX0_firstOf_44 : decode cX0_firstOf 44 = .ok (.iload 4, 2) := by decide +kernel
theorem dX0_firstOf_46 : decode cX0_firstOf 46 = .ok (.iload 5, 2) := by decide +kernel
theorem dX0_firstOf_48 : decode cX0_firstOf 48 = .ok (.if_icmp .ge 7, 3) := by decide +kernel
theorem dX0_firstOf_51 : decode cX0_firstOf 51 = .ok (.iload_n 1, 1) := by decide +kernel
theorem dX0_firstOf_52 : decode cX0_firstOf 52 = .ok (.goto 4, 3) := by decide +kernel
theorem dX0_firstOf_55 : decode cX0_firstOf 55 = .ok (.iload_n 2, 1) := by decide +kernel
theorem dX0_firstOf_56 : decode cX0_firstOf 56 = .ok (.ireturn, 1) := by decide +kernel
theorem dX0_firstOf_57 : decode cX0_firstOf 57 = .ok (.iinc 3 1, 3) := by decide +kernel
theorem dX0_firstOf_60 : decode cX0_firstOf 60 = .ok (.goto (-58), 3) := by decide +kernel
theorem dX0_firstOf_63 : decode cX0_firstOf 63 = .ok (.iconst (-1), 1) := by decide +kernel
theorem dX0_firstOf_64 : decode cX0_firstOf 64 = .ok (.ireturn, 1) := by decide +kernel
theorem dX0_partedPairs_0 : decode cX0_partedPairs 0 = .ok (.aload_n 0, 1) := by decide +kernel
theorem dX0_partedPairs_1 : decode cX0_partedPairs 1 = .ok (.getfield 15, 3) := by decide +kernel
theorem dX0_partedPairs_4 : decode cX0_partedPairs 4 = .ok (.astore_n 3, 1) := by decide +kernel
theorem dX0_partedPairs_5 : decode cX0_partedPairs 5 = .ok (.iconst 0, 1) := by decide +kernel
theorem dX0_partedPairs_6 : decode cX0_partedPairs 6 = .ok (.istore 4, 2) := by decide +kernel
theorem dX0_partedPairs_8 : decode cX0_partedPairs 8 = .ok (.iconst 0, 1) := by decide +kernel
theorem dX0_partedPairs_9 : decode cX0_partedPairs 9 = .ok (.istore 5, 2) := by decide +kernel
theorem dX0_partedPairs_11 : decode cX0_partedPairs 11 = .ok (.iload 5, 2) := by decide +kernel
theorem dX0_partedPairs_13 : decode cX0_partedPairs 13 = .ok (.aload_n 3, 1) := by decide +kernel
theorem dX0_partedPairs_14 : decode cX0_partedPairs 14 = .ok (.getfield 105, 3) := by decide +kernel
theorem dX0_partedPairs_17 : decode cX0_partedPairs 17 = .ok (.iload_n 1, 1) := by decide +kernel
theorem dX0_partedPairs_18 : decode cX0_partedPairs 18 = .ok (.iaload, 1) := by decide +kernel
theorem dX0_partedPairs_19 : decode cX0_partedPairs 19 = .ok (.if_icmp .ge 90, 3) := by decide +kernel
theorem dX0_partedPairs_22 : decode cX0_partedPairs 22 = .ok (.aload_n 3, 1) := by decide +kernel
theorem dX0_partedPairs_23 : decode cX0_partedPairs 23 = .ok (.iload_n 2, 1) := by decide +kernel
theorem dX0_partedPairs_24 : decode cX0_partedPairs 24 = .ok (.aload_n 3, 1) := by decide +kernel
theorem dX0_partedPairs_25 : decode cX0_partedPairs 25 = .ok (.getfield 108, 3) := by decide +kernel
theorem dX0_partedPairs_28 : decode cX0_partedPairs 28 = .ok (.iload_n 1, 1) := by decide +kernel
theorem dX0_partedPairs_29 : decode cX0_partedPairs 29 = .ok (.iload 5, 2) := by decide +kernel
theorem dX0_partedPairs_31 : decode cX0_partedPairs 31 = .ok (.invokestatic 25, 3) := by decide +kernel
theorem dX0_partedPairs_34 : decode cX0_partedPairs 34 = .ok (.iaload, 1) := by decide +kernel
theorem dX0_partedPairs_35 : decode cX0_partedPairs 35 = .ok (.invokevirtual 102, 3) := by decide +kernel
theorem dX0_partedPairs_38 : decode cX0_partedPairs 38 = .ok (.istore 6, 2) := by decide +kernel
theorem dX0_partedPairs_40 : decode cX0_partedPairs 40 = .ok (.iload 5, 2) := by decide +kernel
theorem dX0_partedPairs_42 : decode cX0_partedPairs 42 = .ok (.iconst 1, 1) := by decide +kernel
theorem dX0_partedPairs_43 : decode cX0_partedPairs 43 = .ok (.iadd, 1) := by decide +kernel
theorem dX0_partedPairs_44 : decode cX0_partedPairs 44 = .ok (.istore 7, 2) := by decide +kernel
theorem dX0_partedPairs_46 : decode cX0_partedPairs 46 = .ok (.iload 7, 2) := by decide +kernel
theorem dX0_partedPairs_48 : decode cX0_partedPairs 48 = .ok (.aload_n 3, 1) := by decide +kernel
theorem dX0_partedPairs_49 : decode cX0_partedPairs 49 = .ok (.getfield 105, 3) := by decide +kernel
theorem dX0_partedPairs_52 : decode cX0_partedPairs 52 = .ok (.iload_n 1, 1) := by decide +kernel
theorem dX0_partedPairs_53 : decode cX0_partedPairs 53 = .ok (.iaload, 1) := by decide +kernel
theorem dX0_partedPairs_54 : decode cX0_partedPairs 54 = .ok (.if_icmp .ge 49, 3) := by decide +kernel
theorem dX0_partedPairs_57 : decode cX0_partedPairs 57 = .ok (.iload 6, 2) := by decide +kernel
theorem dX0_partedPairs_59 : decode cX0_partedPairs 59 = .ok (.iconst (-1), 1) := by decide +kernel
theorem dX0_partedPairs_60 : decode cX0_partedPairs 60 = .ok (.if_icmp .eq 43, 3) := by decide +kernel
theorem dX0_partedPairs_63 : decode cX0_partedPairs 63 = .ok (.aload_n 3, 1) := by decide +kernel
theorem dX0_partedPairs_64 : decode cX0_partedPairs 64 = .ok (.iload_n 2, 1) := by decide +kernel
theorem dX0_partedPairs_65 : decode cX0_partedPairs 65 = .ok (.aload_n 3, 1) := by decide +kernel
theorem dX0_partedPairs_66 : decode cX0_partedPairs 66 = .ok (.getfield 108, 3) := by decide +kernel
theorem dX0_partedPairs_69 : decode cX0_partedPairs 69 = .ok (.iload_n 1, 1) := by decide +kernel
theorem dX0_partedPairs_70 : decode cX0_partedPairs 70 = .ok (.iload 7, 2) := by decide +kernel
theorem dX0_partedPairs_72 : decode cX0_partedPairs 72 = .ok (.invokestatic 25, 3) := by decide +kernel
theorem dX0_partedPairs_75 : decode cX0_partedPairs 75 = .ok (.iaload, 1) := by decide +kernel
theorem dX0_partedPairs_76 : decode cX0_partedPairs 76 = .ok (.invokevirtual 102, 3) := by decide +kernel
theorem dX0_partedPairs_79 : decode cX0_partedPairs 79 = .ok (.istore 8, 2) := by decide +kernel
theorem dX0_partedPairs_81 : decode cX0_partedPairs 81 = .ok (.iload 8, 2) := by decide +kernel
theorem dX0_partedPairs_83 : decode cX0_partedPairs 83 = .ok (.iconst (-1), 1) := by decide +kernel
theorem dX0_partedPairs_84 : decode cX0_partedPairs 84 = .ok (.if_icmp .eq 13, 3) := by decide +kernel
theorem dX0_partedPairs_87 : decode cX0_partedPairs 87 = .ok (.iload 8, 2) := by decide +kernel
theorem dX0_partedPairs_89 : decode cX0_partedPairs 89 = .ok (.iload 6, 2) := by decide +kernel
theorem dX0_partedPairs_91 : decode cX0_partedPairs 91 = .ok (.if_icmp .ge 6, 3) := by decide +kernel
theorem dX0_partedPairs_94 : decode cX0_partedPairs 94 = .ok (.iinc 4 1, 3) := by decide +kernel
theorem dX0_partedPairs_97 : decode cX0_partedPairs 97 = .ok (.iinc 7 1, 3) := by decide +kernel
theorem dX0_partedPairs_100 : decode cX0_partedPairs 100 = .ok (.goto (-54), 3) := by decide +kernel
theorem dX0_partedPairs_103 : decode cX0_partedPairs 103 = .ok (.iinc 5 1, 3) := by decide +kernel
theorem dX0_partedPairs_106 : decode cX0_partedPairs 106 = .ok (.goto (-95), 3) := by decide +kernel
theorem dX0_partedPairs_109 : decode cX0_partedPairs 109 = .ok (.iload 4, 2) := by decide +kernel
theorem dX0_partedPairs_111 : decode cX0_partedPairs 111 = .ok (.ireturn, 1) := by decide +kernel
section S_20_n00
variable {p : Program} {l : Launch} {e : Env} {R : Room} {s : State} {m : MethodId} {args : Array Value} {below : List Frame} {meth : Method} {c : Code} {A : Nat → Prop} {D : va_G} {cI cB cL : ClassId} {ad : Nat → Nat} {pa pl : Nat}
noncomputable def fX0_deliveredBy_35 (K4 : Int32 → Int32 → Int32 → Option Int32) (x1 : Int32) (x2 : Int32) (x3 : Int32) (u : Sg) : Option Int32 := bnd (x3 + 1) (fun v4 => K4 x1 x2 v4)
noncomputable def fX0_deliveredBy_4 (u : Sg) : Nat → Int32 → Int32 → Int32 → Option Int32
  | 0, _, _, _ => none
  | n + 1, x1, x2, x3 => cnd ((u 0 0) ≤ x3) (some x2) (grd (vp_in (fX11_spotOf x3 x1) 120) (cnd ((u 20 (((fX11_spotOf x3 x1) : Int32).toNatClampNeg)) = 3) (bnd (x2 ||| ((1 : Int32) <<< ((x3 &&& 31 : Int32)))) (fun v5 => fX0_deliveredBy_35 (fun a0 a1 a2 => fX0_deliveredBy_4 u n a0 a1 a2) x1 v5 x3 u)) (fX0_deliveredBy_35 (fun a0 a1 a2 => fX0_deliveredBy_4 u n a0 a1 a2) x1 x2 x3 u)))
noncomputable def fX0_deliveredBy_0 (x1 : Int32) (u : Sg) : Option Int32 := fX0_deliveredBy_4 u FU x1 0 0
noncomputable def fX0_deliveredBy (x1 : Int32) (u : Sg) : Option Int32 := fX0_deliveredBy_0 x1 u
set_option maxRecDepth 10000 in
set_option maxHeartbeats 4000000 in
theorem wX0_deliveredBy_35 (C : cx D (tyl cI cB cL) A RX0 cX0_deliveredBy 4 (some .int) p s m args c meth) (hR : 1 ≤ R.frames ∧ 21 ≤ R.locals) {r : Int32} (u : Sg) {K4 : Int32 → Int32 → Int32 → Option Int32} (hK4 : ∀ (y1 : Int32) (y2 : Int32) (y3 : Int32) (H : Heap) (locs : List Loc) (ls : Array Slot), lv_has ls 4 [(0, .ref (ad 0)), (1, .int y1), (2, .int y2), (3, .int y3)] → st D (wN cI ad pa pl) A s u H locs → K4 y1 y2 y3 = some r → W p l e R s m args below meth c H locs 0 0 (MQ below (qI D (tyl cI cB cL) (wN cI ad pa pl) A r u) args s 0 0 A) (F0 m 4 ls [])) (x1 : Int32) (x2 : Int32) (x3 : Int32) {H : Heap} {locs : List Loc} {ls : Array Slot} (hl : lv_has ls 4 [(0, .ref (ad 0)), (1, .int x1), (2, .int x2), (3, .int x3)]) (S : st D (wN cI ad pa pl) A s u H locs) (h : fX0_deliveredBy_35 K4 x1 x2 x3 u = some r) : W p l e R s m args below meth c H locs 0 0 (MQ below (qI D (tyl cI cB cL) (wN cI ad pa pl) A r u) args s 0 0 A) (F0 m 35 ls []) := by
  have hx := C.1
  have hb := C.2.1
  have hsz := hl.1
  unfold fX0_deliveredBy_35 at h
  obtain ⟨v4, ev4⟩ : ∃ y : Int32, y = x3 + 1 := ⟨_, rfl⟩
  have h := bnd_of ev4 h
  refine lv_iinc (v := v4) (lv' := [(3, .int v4), (0, .ref (ad 0)), (1, .int x1), (2, .int x2)]) hx hb dX0_deliveredBy_35 hl (k := 3) rfl (by rw [ev4]; rfl) (by decide) rfl (fun ls hl => ?_)
  have hsz := hl.1
  refine lv_goto (tgt := 4) hx hb dX0_deliveredBy_38 (by decide) ?_
  exact hK4 x1 x2 v4 H locs ls (lv_sub hl [1, 2, 3, 0] rfl) S h
set_option maxRecDepth 10000 in
set_option maxHeartbeats 4000000 in
theorem wX0_deliveredBy_4 (C : cx D (tyl cI cB cL) A RX0 cX0_deliveredBy 4 (some .int) p s m args c meth) (hR : 1 ≤ R.frames ∧ 21 ≤ R.locals) {r : Int32} (u : Sg) : ∀ (n : Nat) (x1 : Int32) (x2 : Int32) (x3 : Int32) (H : Heap) (locs : List Loc) (ls : Array Slot), lv_has ls 4 [(0, .ref (ad 0)), (1, .int x1), (2, .int x2), (3, .int x3)] → st D (wN cI ad pa pl) A s u H locs → fX0_deliveredBy_4 u n x1 x2 x3 = some r → W p l e R s m args below meth c H locs 0 0 (MQ below (qI D (tyl cI cB cL) (wN cI ad pa pl) A r u) args s 0 0 A) (F0 m 4 ls []) := by
  have hx := C.1
  have hb := C.2.1
  intro n
  induction n with
  | zero =>
    intro x1 x2 x3 H locs ls hl S h
    cases h
  | succ n ih =>
    intro x1 x2 x3 H locs ls hl S h
    rw [fX0_deliveredBy_4] at h
    have hsz := hl.1
    refine lv_iload_n hx hb dX0_deliveredBy_4 rfl (lv_at hl 3 rfl) ?_
    refine lv_aload_n hx hb dX0_deliveredBy_5 rfl (lv_at hl 0 rfl) ?_
    refine q_get (v := .int (u 0 0)) C S (oN0 cI ad pa pl) rfl iwX7 0 (by decide) mw_317 rfl dX0_deliveredBy_6 ?_
    refine lv_icmp_ge (tgt := 41) hx hb dX0_deliveredBy_9 (by decide) (fun c1 => ?_) (fun c1 => ?_)
    · have h := cnd_t c1 h
      refine lv_iload_n hx hb dX0_deliveredBy_41 rfl (lv_at hl 2 rfl) ?_
      exact q_iret C S (rt_R h) dX0_deliveredBy_42
    · have h := cnd_f c1 h
      refine lv_aload_n hx hb dX0_deliveredBy_12 rfl (lv_at hl 0 rfl) ?_
      refine q_get (v := .ref (ad 19)) C S (oN0 cI ad pa pl) rfl iwX7 15 (by decide) mw_318 rfl dX0_deliveredBy_13 ?_
      refine q_get (v := .ref (ad 20)) C S (oN19 cI ad pa pl) rfl iwX4 0 (by decide) mw_319 rfl dX0_deliveredBy_16 ?_
      refine lv_iload_n hx hb dX0_deliveredBy_19 rfl (lv_at hl 3 rfl) ?_
      refine lv_iload_n hx hb dX0_deliveredBy_20 rfl (lv_at hl 1 rfl) ?_
      refine q_callPN (As := [.int x3, .int x1]) (na := 2) C S (ct_X11_spotOf l D cI cB cL x3 x1) (List.mem_of_getElem? (i := 2) rfl) mw_322 mw_321 mw_320 hdX11_spotOf ⟨Nat.le_trans (Nat.le_of_ble_eq_true rfl) hR.1, Nat.le_trans (Nat.le_of_ble_eq_true rfl) hR.2⟩ rfl hsz ⟨Nat.zero_le _, Nat.zero_le _⟩ (Nat.le_of_ble_eq_true rfl) dX0_deliveredBy_21 rfl (fun H locs S => ?_)
      obtain ⟨g2, h⟩ := grd_some h
      refine q_iald C S (aN20 cI ad pa pl) 0 rfl g2 dX0_deliveredBy_24 (j := ((fX11_spotOf x3 x1) : Int32).toNatClampNeg) rfl ?_
      refine lv_iconst (v := 3) hx hb dX0_deliveredBy_25 (by decide) ?_
      refine lv_icmp_ne (tgt := 35) hx hb dX0_deliveredBy_26 (by decide) (fun c3 => ?_) (fun c3 => ?_)
      · have h := cnd_f c3 h
        exact wX0_deliveredBy_35 C hR u ih x1 x2 x3 (lv_sub hl [0, 1, 2, 3] rfl) S h
      · have h := cnd_t c3 h
        refine lv_iload_n hx hb dX0_deliveredBy_29 rfl (lv_at hl 2 rfl) ?_
        refine lv_iconst (v := 1) hx hb dX0_deliveredBy_30 (by decide) ?_
        refine lv_iload_n hx hb dX0_deliveredBy_31 rfl (lv_at hl 3 rfl) ?_
        refine lv_ishl hx hb dX0_deliveredBy_32 ?_
        refine lv_ior hx hb dX0_deliveredBy_33 ?_
        refine lv_topi (fun v5 ev5 => ?_)
        have h := bnd_of ev5 h
        refine lv_istore_n (lv' := [(2, .int v5), (0, .ref (ad 0)), (1, .int x1), (3, .int x3)]) hx hb dX0_deliveredBy_34 rfl hl (by decide) rfl (fun ls hl => ?_)
        have hsz := hl.1
        exact wX0_deliveredBy_35 C hR u ih x1 v5 x3 (lv_sub hl [1, 2, 0, 3] rfl) S h
set_option maxRecDepth 10000 in
set_option maxHeartbeats 4000000 in
theorem wX0_deliveredBy_0 (C : cx D (tyl cI cB cL) A RX0 cX0_deliveredBy 4 (some .int) p s m args c meth) (hR : 1 ≤ R.frames ∧ 21 ≤ R.locals) {r : Int32} (u : Sg) (x1 : Int32) {H : Heap} {locs : List Loc} {ls : Array Slot} (hl : lv_has ls 4 [(0, .ref (ad 0)), (1, .int x1)]) (S : st D (wN cI ad pa pl) A s u H locs) (h : fX0_deliveredBy_0 x1 u = some r) : W p l e R s m args below meth c H locs 0 0 (MQ below (qI D (tyl cI cB cL) (wN cI ad pa pl) A r u) args s 0 0 A) (F0 m 0 ls []) := by
  have hx := C.1
  have hb := C.2.1
  have hsz := hl.1
  unfold fX0_deliveredBy_0 at h
  refine lv_iconst (v := 0) hx hb dX0_deliveredBy_0 (by decide) ?_
  refine lv_istore_n (lv' := [(2, .int 0), (0, .ref (ad 0)), (1, .int x1)]) hx hb dX0_deliveredBy_1 rfl hl (by decide) rfl (fun ls hl => ?_)
  have hsz := hl.1
  refine lv_iconst (v := 0) hx hb dX0_deliveredBy_2 (by decide) ?_
  refine lv_istore_n (lv' := [(3, .int 0), (2, .int 0), (0, .ref (ad 0)), (1, .int x1)]) hx hb dX0_deliveredBy_3 rfl hl (by decide) rfl (fun ls hl => ?_)
  have hsz := hl.1
  exact wX0_deliveredBy_4 C hR u FU x1 0 0 H locs ls (lv_sub hl [2, 3, 1, 0] rfl) S h
set_option maxRecDepth 10000 in
set_option maxHeartbeats 4000000 in
theorem ct_X0_deliveredBy (l : Launch) (D : va_G) (cI cB cL : ClassId) (ad : Nat → Nat) (pa pl : Nat) (x1 : Int32) (u : Sg) {r : Int32} (h : fX0_deliveredBy x1 u = some r) : metI l D (tyl cI cB cL) yX0_deliveredBy cX0_deliveredBy 4 (some .int) 1 21 (wN cI ad pa pl) [.ref (ad 0), .int x1] u r u := by
  intro sz
  refine Met.ofW (cc := cX0_deliveredBy) (maxL := 4) (ret := (some .int)) (by decide) rfl ?_
  intro p e s m args below meth c s₁ B hml hv
  obtain ⟨rfl, C, S⟩ := q_entry B hml hv
  have hl := lv_entry ([.ref (ad 0), .int x1]) (n := 4) (Nat.le_of_ble_eq_true rfl)
  rw [lg_entry_eq]
  generalize (lg_sl ([.ref (ad 0), .int x1]) ++ List.replicate (4 - (lg_sl ([.ref (ad 0), .int x1])).length) Slot.unset).toArray = ls at hl ⊢
  exact wX0_deliveredBy_0 C ⟨Nat.le_refl _, Nat.le_refl _⟩ u x1 (lv_sub hl [0, 1] rfl) S h
noncomputable def fX3_isOn_0 (x1 : Int32) (u : Sg) : Option Int32 := grd (vp_in x1 120) (cnd ((u 27 ((x1 : Int32).toNatClampNeg)) = (-1)) (some 0) (some 1))
noncomputable def fX3_isOn (x1 : Int32) (u : Sg) : Option Int32 := fX3_isOn_0 x1 u
set_option maxRecDepth 10000 in
set_option maxHeartbeats 4000000 in
theorem wX3_isOn_0 (C : cx D (tyl cI cB cL) A RX3 cX3_isOn 2 (some .boolean) p s m args c meth) (hR : 0 ≤ R.frames ∧ 0 ≤ R.locals) {r : Int32} (u : Sg) (x1 : Int32) {H : Heap} {locs : List Loc} {ls : Array Slot} (hl : lv_has ls 2 [(0, .ref (ad 26)), (1, .int x1)]) (S : st D (wN cI ad pa pl) A s u H locs) (h : fX3_isOn_0 x1 u = some r) : W p l e R s m args below meth c H locs 0 0 (MQ below (qI D (tyl cI cB cL) (wN cI ad pa pl) A r u) args s 0 0 A) (F0 m 0 ls []) := by
  have hx := C.1
  have hb := C.2.1
  have hsz := hl.1
  unfold fX3_isOn_0 at h
  refine lv_aload_n hx hb dX3_isOn_0 rfl (lv_at hl 0 rfl) ?_
  refine q_get (v := .ref (ad 27)) C S (oN26 cI ad pa pl) rfl iwX3 0 (by decide) mw_323 rfl dX3_isOn_1 ?_
  refine lv_iload_n hx hb dX3_isOn_4 rfl (lv_at hl 1 rfl) ?_
  obtain ⟨g1, h⟩ := grd_some h
  refine q_iald C S (aN27 cI ad pa pl) 0 rfl g1 dX3_isOn_5 (j := (x1 : Int32).toNatClampNeg) rfl ?_
  refine lv_iconst (v := (-1)) hx hb dX3_isOn_6 (by decide) ?_
  refine lv_icmp_eq (tgt := 14) hx hb dX3_isOn_7 (by decide) (fun c2 => ?_) (fun c2 => ?_)
  · have h := cnd_t c2 h
    refine lv_iconst (v := 0) hx hb dX3_isOn_14 (by decide) ?_
    exact q_zret C S rfl (rt_R h) dX3_isOn_15
  · have h := cnd_f c2 h
    refine lv_iconst (v := 1) hx hb dX3_isOn_10 (by decide) ?_
    refine lv_goto (tgt := 15) hx hb dX3_isOn_11 (by decide) ?_
    exact q_zret C S rfl (rt_R h) dX3_isOn_15
set_option maxRecDepth 10000 in
set_option maxHeartbeats 4000000 in
theorem ct_X3_isOn (l : Launch) (D : va_G) (cI cB cL : ClassId) (ad : Nat → Nat) (pa pl : Nat) (x1 : Int32) (u : Sg) {r : Int32} (h : fX3_isOn x1 u = some r) : metI l D (tyl cI cB cL) yX3_isOn cX3_isOn 2 (some .boolean) 0 0 (wN cI ad pa pl) [.ref (ad 26), .int x1] u r u := by
  intro sz
  refine Met.ofW (cc := cX3_isOn) (maxL := 2) (ret := (some .boolean)) (by decide) rfl ?_
  intro p e s m args below meth c s₁ B hml hv
  obtain ⟨rfl, C, S⟩ := q_entry B hml hv
  have hl := lv_entry ([.ref (ad 26), .int x1]) (n := 2) (Nat.le_of_ble_eq_true rfl)
  rw [lg_entry_eq]
  generalize (lg_sl ([.ref (ad 26), .int x1]) ++ List.replicate (2 - (lg_sl ([.ref (ad 26), .int x1])).length) Slot.unset).toArray = ls at hl ⊢
  exact wX3_isOn_0 C ⟨Nat.le_refl _, Nat.le_refl _⟩ u x1 (lv_sub hl [0, 1] rfl) S h
noncomputable def fX0_gatherers_33 (K4 : Int32 → Int32 → Int32 → Option Int32) (x1 : Int32) (x2 : Int32) (x3 : Int32) (u : Sg) : Option Int32 := bnd (x3 + 1) (fun v5 => K4 x1 x2 v5)
noncomputable def fX0_gatherers_4 (u : Sg) : Nat → Int32 → Int32 → Int32 → Option Int32
  | 0, _, _, _ => none
  | n + 1, x1, x2, x3 => cnd ((u 0 0) ≤ x3) (some x2) (obr (fX3_isOn (fX11_spotOf x3 x1) u) (fun r3 => cnd (r3 = 0) (fX0_gatherers_33 (fun a0 a1 a2 => fX0_gatherers_4 u n a0 a1 a2) x1 x2 x3 u) (bnd (x2 ||| ((1 : Int32) <<< ((x3 &&& 31 : Int32)))) (fun v6 => fX0_gatherers_33 (fun a0 a1 a2 => fX0_gatherers_4 u n a0 a1 a2) x1 v6 x3 u))))
noncomputable def fX0_gatherers_0 (x1 : Int32) (u : Sg) : Option Int32 := fX0_gatherers_4 u FU x1 0 0
noncomputable def fX0_gatherers (x1 : Int32) (u : Sg) : Option Int32 := fX0_gatherers_0 x1 u
set_option maxRecDepth 10000 in
set_option maxHeartbeats 4000000 in
theorem wX0_gatherers_33 (C : cx D (tyl cI cB cL) A RX0 cX0_gatherers 4 (some .int) p s m args c meth) (hR : 1 ≤ R.frames ∧ 21 ≤ R.locals) {r : Int32} (u : Sg) {K4 : Int32 → Int32 → Int32 → Option Int32} (hK4 : ∀ (y1 : Int32) (y2 : Int32) (y3 : Int32) (H : Heap) (locs : List Loc) (ls : Array Slot), lv_has ls 4 [(0, .ref (ad 0)), (1, .int y1), (2, .int y2), (3, .int y3)] → st D (wN cI ad pa pl) A s u H locs → K4 y1 y2 y3 = some r → W p l e R s m args below meth c H locs 0 0 (MQ below (qI D (tyl cI cB cL) (wN cI ad pa pl) A r u) args s 0 0 A) (F0 m 4 ls [])) (x1 : Int32) (x2 : Int32) (x3 : Int32) {H : Heap} {locs : List Loc} {ls : Array Slot} (hl : lv_has ls 4 [(0, .ref (ad 0)), (1, .int x1), (2, .int x2), (3, .int x3)]) (S : st D (wN cI ad pa pl) A s u H locs) (h : fX0_gatherers_33 K4 x1 x2 x3 u = some r) : W p l e R s m args below meth c H locs 0 0 (MQ below (qI D (tyl cI cB cL) (wN cI ad pa pl) A r u) args s 0 0 A) (F0 m 33 ls []) := by
  have hx := C.1
  have hb := C.2.1
  have hsz := hl.1
  unfold fX0_gatherers_33 at h
  obtain ⟨v5, ev5⟩ : ∃ y : Int32, y = x3 + 1 := ⟨_, rfl⟩
  have h := bnd_of ev5 h
  refine lv_iinc (v := v5) (lv' := [(3, .int v5), (0, .ref (ad 0)), (1, .int x1), (2, .int x2)]) hx hb dX0_gatherers_33 hl (k := 3) rfl (by rw [ev5]; rfl) (by decide) rfl (fun ls hl => ?_)
  have hsz := hl.1
  refine lv_goto (tgt := 4) hx hb dX0_gatherers_36 (by decide) ?_
  exact hK4 x1 x2 v5 H locs ls (lv_sub hl [1, 2, 3, 0] rfl) S h
set_option maxRecDepth 10000 in
set_option maxHeartbeats 4000000 in
theorem wX0_gatherers_4 (C : cx D (tyl cI cB cL) A RX0 cX0_gatherers 4 (some .int) p s m args c meth) (hR : 1 ≤ R.frames ∧ 21 ≤ R.locals) {r : Int32} (u : Sg) : ∀ (n : Nat) (x1 : Int32) (x2 : Int32) (x3 : Int32) (H : Heap) (locs : List Loc) (ls : Array Slot), lv_has ls 4 [(0, .ref (ad 0)), (1, .int x1), (2, .int x2), (3, .int x3)] → st D (wN cI ad pa pl) A s u H locs → fX0_gatherers_4 u n x1 x2 x3 = some r → W p l e R s m args below meth c H locs 0 0 (MQ below (qI D (tyl cI cB cL) (wN cI ad pa pl) A r u) args s 0 0 A) (F0 m 4 ls []) := by
  have hx := C.1
  have hb := C.2.1
  intro n
  induction n with
  | zero =>
    intro x1 x2 x3 H locs ls hl S h
    cases h
  | succ n ih =>
    intro x1 x2 x3 H locs ls hl S h
    rw [fX0_gatherers_4] at h
    have hsz := hl.1
    refine lv_iload_n hx hb dX0_gatherers_4 rfl (lv_at hl 3 rfl) ?_
    refine lv_aload_n hx hb dX0_gatherers_5 rfl (lv_at hl 0 rfl) ?_
    refine q_get (v := .int (u 0 0)) C S (oN0 cI ad pa pl) rfl iwX7 0 (by decide) mw_317 rfl dX0_gatherers_6 ?_
    refine lv_icmp_ge (tgt := 39) hx hb dX0_gatherers_9 (by decide) (fun c1 => ?_) (fun c1 => ?_)
    · have h := cnd_t c1 h
      refine lv_iload_n hx hb dX0_gatherers_39 rfl (lv_at hl 2 rfl) ?_
      exact q_iret C S (rt_R h) dX0_gatherers_40
    · have h := cnd_f c1 h
      refine lv_aload_n hx hb dX0_gatherers_12 rfl (lv_at hl 0 rfl) ?_
      refine q_get (v := .ref (ad 26)) C S (oN0 cI ad pa pl) rfl iwX7 16 (by decide) mw_324 rfl dX0_gatherers_13 ?_
      refine lv_iload_n hx hb dX0_gatherers_16 rfl (lv_at hl 3 rfl) ?_
      refine lv_iload_n hx hb dX0_gatherers_17 rfl (lv_at hl 1 rfl) ?_
      refine q_callPN (As := [.int x3, .int x1]) (na := 2) C S (ct_X11_spotOf l D cI cB cL x3 x1) (List.mem_of_getElem? (i := 2) rfl) mw_322 mw_321 mw_320 hdX11_spotOf ⟨Nat.le_trans (Nat.le_of_ble_eq_true rfl) hR.1, Nat.le_trans (Nat.le_of_ble_eq_true rfl) hR.2⟩ rfl hsz ⟨Nat.zero_le _, Nat.zero_le _⟩ (Nat.le_of_ble_eq_true rfl) dX0_gatherers_18 rfl (fun H locs S => ?_)
      obtain ⟨r3, h2, h⟩ := obr_some h
      refine q_callVi (As := [.int (fX11_spotOf x3 x1)]) (na := 1) C S (oN26 cI ad pa pl) rfl (ct_X3_isOn l D cI cB cL ad pa pl (fX11_spotOf x3 x1) u h2) mw_328 mw_327 mw_329 mw_326 mw_325 hdX3_isOn ⟨Nat.le_trans (Nat.le_of_ble_eq_true rfl) hR.1, Nat.le_trans (Nat.le_of_ble_eq_true rfl) hR.2⟩ rfl hsz ⟨Nat.zero_le _, Nat.zero_le _⟩ (Nat.le_of_ble_eq_true rfl) dX0_gatherers_21 rfl (fun H locs S => ?_)
      refine lv_if_eq (tgt := 33) hx hb dX0_gatherers_24 (by decide) (fun c4 => ?_) (fun c4 => ?_)
      · have h := cnd_t c4 h
        exact wX0_gatherers_33 C hR u ih x1 x2 x3 (lv_sub hl [0, 1, 2, 3] rfl) S h
      · have h := cnd_f c4 h
        refine lv_iload_n hx hb dX0_gatherers_27 rfl (lv_at hl 2 rfl) ?_
        refine lv_iconst (v := 1) hx hb dX0_gatherers_28 (by decide) ?_
        refine lv_iload_n hx hb dX0_gatherers_29 rfl (lv_at hl 3 rfl) ?_
        refine lv_ishl hx hb dX0_gatherers_30 ?_
        refine lv_ior hx hb dX0_gatherers_31 ?_
        refine lv_topi (fun v6 ev6 => ?_)
        have h := bnd_of ev6 h
        refine lv_istore_n (lv' := [(2, .int v6), (0, .ref (ad 0)), (1, .int x1), (3, .int x3)]) hx hb dX0_gatherers_32 rfl hl (by decide) rfl (fun ls hl => ?_)
        have hsz := hl.1
        exact wX0_gatherers_33 C hR u ih x1 v6 x3 (lv_sub hl [1, 2, 0, 3] rfl) S h
set_option maxRecDepth 10000 in
set_option maxHeartbeats 4000000 in
theorem wX0_gatherers_0 (C : cx D (tyl cI cB cL) A RX0 cX0_gatherers 4 (some .int) p s m args c meth) (hR : 1 ≤ R.frames ∧ 21 ≤ R.locals) {r : Int32} (u : Sg) (x1 : Int32) {H : Heap} {locs : List Loc} {ls : Array Slot} (hl : lv_has ls 4 [(0, .ref (ad 0)), (1, .int x1)]) (S : st D (wN cI ad pa pl) A s u H locs) (h : fX0_gatherers_0 x1 u = some r) : W p l e R s m args below meth c H locs 0 0 (MQ below (qI D (tyl cI cB cL) (wN cI ad pa pl) A r u) args s 0 0 A) (F0 m 0 ls []) := by
  have hx := C.1
  have hb := C.2.1
  have hsz := hl.1
  unfold fX0_gatherers_0 at h
  refine lv_iconst (v := 0) hx hb dX0_gatherers_0 (by decide) ?_
  refine lv_istore_n (lv' := [(2, .int 0), (0, .ref (ad 0)), (1, .int x1)]) hx hb dX0_gatherers_1 rfl hl (by decide) rfl (fun ls hl => ?_)
  have hsz := hl.1
  refine lv_iconst (v := 0) hx hb dX0_gatherers_2 (by decide) ?_
  refine lv_istore_n (lv' := [(3, .int 0), (2, .int 0), (0, .ref (ad 0)), (1, .int x1)]) hx hb dX0_gatherers_3 rfl hl (by decide) rfl (fun ls hl => ?_)
  have hsz := hl.1
  exact wX0_gatherers_4 C hR u FU x1 0 0 H locs ls (lv_sub hl [2, 3, 1, 0] rfl) S h
set_option maxRecDepth 10000 in
set_option maxHeartbeats 4000000 in
theorem ct_X0_gatherers (l : Launch) (D : va_G) (cI cB cL : ClassId) (ad : Nat → Nat) (pa pl : Nat) (x1 : Int32) (u : Sg) {r : Int32} (h : fX0_gatherers x1 u = some r) : metI l D (tyl cI cB cL) yX0_gatherers cX0_gatherers 4 (some .int) 1 21 (wN cI ad pa pl) [.ref (ad 0), .int x1] u r u := by
  intro sz
  refine Met.ofW (cc := cX0_gatherers) (maxL := 4) (ret := (some .int)) (by decide) rfl ?_
  intro p e s m args below meth c s₁ B hml hv
  obtain ⟨rfl, C, S⟩ := q_entry B hml hv
  have hl := lv_entry ([.ref (ad 0), .int x1]) (n := 4) (Nat.le_of_ble_eq_true rfl)
  rw [lg_entry_eq]
  generalize (lg_sl ([.ref (ad 0), .int x1]) ++ List.replicate (4 - (lg_sl ([.ref (ad 0), .int x1])).length) Slot.unset).toArray = ls at hl ⊢
  exact wX0_gatherers_0 C ⟨Nat.le_refl _, Nat.le_refl _⟩ u x1 (lv_sub hl [0, 1] rfl) S h
noncomputable def fX4_isPending_20 (u : Sg) : Option Int32 := some 1
noncomputable def fX4_isPending_0 (x1 : Int32) (u : Sg) : Option Int32 := grd (vp_in x1 120) (cnd ((u 20 ((x1 : Int32).toNatClampNeg)) = 1) (fX4_isPending_20 u) (grd (vp_in x1 120) (cnd ((u 20 ((x1 : Int32).toNatClampNeg)) = 2) (fX4_isPending_20 u) (some 0))))
noncomputable def fX4_isPending (x1 : Int32) (u : Sg) : Option Int32 := fX4_isPending_0 x1 u
set_option maxRecDepth 10000 in
set_option maxHeartbeats 4000000 in
theorem wX4_isPending_20 (C : cx D (tyl cI cB cL) A RX4 cX4_isPending 2 (some .boolean) p s m args c meth) (hR : 0 ≤ R.frames ∧ 0 ≤ R.locals) {r : Int32} (u : Sg) {H : Heap} {locs : List Loc} {ls : Array Slot} (hl : lv_has ls 2 []) (S : st D (wN cI ad pa pl) A s u H locs) (h : fX4_isPending_20 u = some r) : W p l e R s m args below meth c H locs 0 0 (MQ below (qI D (tyl cI cB cL) (wN cI ad pa pl) A r u) args s 0 0 A) (F0 m 20 ls []) := by
  have hx := C.1
  have hb := C.2.1
  have hsz := hl.1
  unfold fX4_isPending_20 at h
  refine lv_iconst (v := 1) hx hb dX4_isPending_20 (by decide) ?_
  refine lv_goto (tgt := 25) hx hb dX4_isPending_21 (by decide) ?_
  exact q_zret C S rfl (rt_R h) dX4_isPending_25
set_option maxRecDepth 10000 in
set_option maxHeartbeats 4000000 in
theorem wX4_isPending_0 (C : cx D (tyl cI cB cL) A RX4 cX4_isPending 2 (some .boolean) p s m args c meth) (hR : 0 ≤ R.frames ∧ 0 ≤ R.locals) {r : Int32} (u : Sg) (x1 : Int32) {H : Heap} {locs : List Loc} {ls : Array Slot} (hl : lv_has ls 2 [(0, .ref (ad 19)), (1, .int x1)]) (S : st D (wN cI ad pa pl) A s u H locs) (h : fX4_isPending_0 x1 u = some r) : W p l e R s m args below meth c H locs 0 0 (MQ below (qI D (tyl cI cB cL) (wN cI ad pa pl) A r u) args s 0 0 A) (F0 m 0 ls []) := by
  have hx := C.1
  have hb := C.2.1
  have hsz := hl.1
  unfold fX4_isPending_0 at h
  refine lv_aload_n hx hb dX4_isPending_0 rfl (lv_at hl 0 rfl) ?_
  refine q_get (v := .ref (ad 20)) C S (oN19 cI ad pa pl) rfl iwX4 0 (by decide) mw_330 rfl dX4_isPending_1 ?_
  refine lv_iload_n hx hb dX4_isPending_4 rfl (lv_at hl 1 rfl) ?_
  obtain ⟨g1, h⟩ := grd_some h
  refine q_iald C S (aN20 cI ad pa pl) 0 rfl g1 dX4_isPending_5 (j := (x1 : Int32).toNatClampNeg) rfl ?_
  refine lv_iconst (v := 1) hx hb dX4_isPending_6 (by decide) ?_
  refine lv_icmp_eq (tgt := 20) hx hb dX4_isPending_7 (by decide) (fun c2 => ?_) (fun c2 => ?_)
  · have h := cnd_t c2 h
    exact wX4_isPending_20 C hR u (lv_sub hl [] rfl) S h
  · have h := cnd_f c2 h
    refine lv_aload_n hx hb dX4_isPending_10 rfl (lv_at hl 0 rfl) ?_
    refine q_get (v := .ref (ad 20)) C S (oN19 cI ad pa pl) rfl iwX4 0 (by decide) mw_330 rfl dX4_isPending_11 ?_
    refine lv_iload_n hx hb dX4_isPending_14 rfl (lv_at hl 1 rfl) ?_
    obtain ⟨g3, h⟩ := grd_some h
    refine q_iald C S (aN20 cI ad pa pl) 0 rfl g3 dX4_isPending_15 (j := (x1 : Int32).toNatClampNeg) rfl ?_
    refine lv_iconst (v := 2) hx hb dX4_isPending_16 (by decide) ?_
    refine lv_icmp_ne (tgt := 24) hx hb dX4_isPending_17 (by decide) (fun c4 => ?_) (fun c4 => ?_)
    · have h := cnd_f c4 h
      refine lv_iconst (v := 0) hx hb dX4_isPending_24 (by decide) ?_
      exact q_zret C S rfl (rt_R h) dX4_isPending_25
    · have h := cnd_t c4 h
      exact wX4_isPending_20 C hR u (lv_sub hl [] rfl) S h
set_option maxRecDepth 10000 in
set_option maxHeartbeats 4000000 in
theorem ct_X4_isPending (l : Launch) (D : va_G) (cI cB cL : ClassId) (ad : Nat → Nat) (pa pl : Nat) (x1 : Int32) (u : Sg) {r : Int32} (h : fX4_isPending x1 u = some r) : metI l D (tyl cI cB cL) yX4_isPending cX4_isPending 2 (some .boolean) 0 0 (wN cI ad pa pl) [.ref (ad 19), .int x1] u r u := by
  intro sz
  refine Met.ofW (cc := cX4_isPending) (maxL := 2) (ret := (some .boolean)) (by decide) rfl ?_
  intro p e s m args below meth c s₁ B hml hv
  obtain ⟨rfl, C, S⟩ := q_entry B hml hv
  have hl := lv_entry ([.ref (ad 19), .int x1]) (n := 2) (Nat.le_of_ble_eq_true rfl)
  rw [lg_entry_eq]
  generalize (lg_sl ([.ref (ad 19), .int x1]) ++ List.replicate (2 - (lg_sl ([.ref (ad 19), .int x1])).length) Slot.unset).toArray = ls at hl ⊢
  exact wX4_isPending_0 C ⟨Nat.le_refl _, Nat.le_refl _⟩ u x1 (lv_sub hl [0, 1] rfl) S h
noncomputable def fX0_blockOf_143 (K29 : Int32 → Int32 → Int32 → Int32 → Int32 → Option Int32) (x1 : Int32) (x2 : Int32) (x4 : Int32) (x5 : Int32) (x6 : Int32) (u : Sg) : Option Int32 := bnd (x6 + 1) (fun v12 => K29 x1 x2 x4 x5 v12)
noncomputable def fX0_blockOf_139 (K29 : Int32 → Int32 → Int32 → Int32 → Int32 → Option Int32) (x1 : Int32) (x2 : Int32) (x4 : Int32) (x6 : Int32) (u : Sg) : Option Int32 := fX0_blockOf_143 K29 x1 x2 x4 x6 x6 u
noncomputable def fX0_blockOf_94 (K29 : Int32 → Int32 → Int32 → Int32 → Int32 → Option Int32) (x1 : Int32) (x2 : Int32) (x4 : Int32) (x5 : Int32) (x6 : Int32) (x7 : Int32) (t0 : Int32) (u : Sg) : Option Int32 := grd (vp_in x7 120) (cnd ((u 20 ((x7 : Int32).toNatClampNeg)) = 1) (cnd (t0 = 0) (fX0_blockOf_143 K29 x1 x2 x4 x5 x6 u) (cnd (x5 = (-1)) (fX0_blockOf_139 K29 x1 x2 x4 x6 u) (grd (vp_in x7 120) (grd (vp_in (fX11_spotOf x1 x5) 120) (cnd ((u 21 (((fX11_spotOf x1 x5) : Int32).toNatClampNeg)) ≤ (u 21 ((x7 : Int32).toNatClampNeg))) (fX0_blockOf_143 K29 x1 x2 x4 x5 x6 u) (fX0_blockOf_139 K29 x1 x2 x4 x6 u)))))) (fX0_blockOf_143 K29 x1 x2 x4 x5 x6 u))
noncomputable def fX0_blockOf_89 (K29 : Int32 → Int32 → Int32 → Int32 → Int32 → Option Int32) (x1 : Int32) (x2 : Int32) (x4 : Int32) (x5 : Int32) (x6 : Int32) (x7 : Int32) (u : Sg) : Option Int32 := fX0_blockOf_94 K29 x1 x2 x4 x5 x6 x7 1 u
noncomputable def fX0_blockOf_93 (K29 : Int32 → Int32 → Int32 → Int32 → Int32 → Option Int32) (x1 : Int32) (x2 : Int32) (x4 : Int32) (x5 : Int32) (x6 : Int32) (x7 : Int32) (u : Sg) : Option Int32 := fX0_blockOf_94 K29 x1 x2 x4 x5 x6 x7 0 u
noncomputable def fX0_blockOf_29 (u : Sg) : Nat → Int32 → Int32 → Int32 → Int32 → Int32 → Option Int32
  | 0, _, _, _, _, _ => none
  | n + 1, x1, x2, x4, x5, x6 => cnd ((u 13 0) ≤ x6) (some x5) (bnd (fX11_spotOf x1 x6) (fun v6 => grd (vp_in v6 120) (grd (vp_in x4 120) (cnd ((u 21 ((v6 : Int32).toNatClampNeg)) < (u 21 ((x4 : Int32).toNatClampNeg))) (fX0_blockOf_89 (fun a0 a1 a2 a3 a4 => fX0_blockOf_29 u n a0 a1 a2 a3 a4) x1 x2 x4 x5 x6 v6 u) (grd (vp_in v6 120) (grd (vp_in x4 120) (cnd ((u 21 ((v6 : Int32).toNatClampNeg)) = (u 21 ((x4 : Int32).toNatClampNeg))) (cnd (x2 < x6) (fX0_blockOf_93 (fun a0 a1 a2 a3 a4 => fX0_blockOf_29 u n a0 a1 a2 a3 a4) x1 x2 x4 x5 x6 v6 u) (fX0_blockOf_89 (fun a0 a1 a2 a3 a4 => fX0_blockOf_29 u n a0 a1 a2 a3 a4) x1 x2 x4 x5 x6 v6 u)) (fX0_blockOf_93 (fun a0 a1 a2 a3 a4 => fX0_blockOf_29 u n a0 a1 a2 a3 a4) x1 x2 x4 x5 x6 v6 u))))))))
noncomputable def fX0_blockOf_0 (x1 : Int32) (x2 : Int32) (u : Sg) : Option Int32 := bnd (fX11_spotOf x1 x2) (fun v1 => obr (fX4_isPending v1 u) (fun r3 => cnd (r3 = 0) (some (-1)) (fX0_blockOf_29 u FU x1 x2 v1 (-1) 0)))
noncomputable def fX0_blockOf (x1 : Int32) (x2 : Int32) (u : Sg) : Option Int32 := fX0_blockOf_0 x1 x2 u
set_option maxRecDepth 10000 in
set_option maxHeartbeats 4000000 in
theorem wX0_blockOf_143 (C : cx D (tyl cI cB cL) A RX0 cX0_blockOf 9 (some .int) p s m args c meth) (hR : 1 ≤ R.frames ∧ 21 ≤ R.locals) {r : Int32} (u : Sg) {K29 : Int32 → Int32 → Int32 → Int32 → Int32 → Option Int32} (hK29 : ∀ (y1 : Int32) (y2 : Int32) (y4 : Int32) (y5 : Int32) (y6 : Int32) (H : Heap) (locs : List Loc) (ls : Array Slot), lv_has ls 9 [(0, .ref (ad 0)), (1, .int y1), (2, .int y2), (3, .ref (ad 19)), (4, .int y4), (5, .int y5), (6, .int y6)] → st D (wN cI ad pa pl) A s u H locs → K29 y1 y2 y4 y5 y6 = some r → W p l e R s m args below meth c H locs 0 0 (MQ below (qI D (tyl cI cB cL) (wN cI ad pa pl) A r u) args s 0 0 A) (F0 m 29 ls [])) (x1 : Int32) (x2 : Int32) (x4 : Int32) (x5 : Int32) (x6 : Int32) {H : Heap} {locs : List Loc} {ls : Array Slot} (hl : lv_has ls 9 [(0, .ref (ad 0)), (1, .int x1), (2, .int x2), (3, .ref (ad 19)), (4, .int x4), (5, .int x5), (6, .int x6)]) (S : st D (wN cI ad pa pl) A s u H locs) (h : fX0_blockOf_143 K29 x1 x2 x4 x5 x6 u = some r) : W p l e R s m args below meth c H locs 0 0 (MQ below (qI D (tyl cI cB cL) (wN cI ad pa pl) A r u) args s 0 0 A) (F0 m 143 ls []) := by
  have hx := C.1
  have hb := C.2.1
  have hsz := hl.1
  unfold fX0_blockOf_143 at h
  obtain ⟨v12, ev12⟩ : ∃ y : Int32, y = x6 + 1 := ⟨_, rfl⟩
  have h := bnd_of ev12 h
  refine lv_iinc (v := v12) (lv' := [(6, .int v12), (0, .ref (ad 0)), (1, .int x1), (2, .int x2), (3, .ref (ad 19)), (4, .int x4), (5, .int x5)]) hx hb dX0_blockOf_143 hl (k := 6) rfl (by rw [ev12]; rfl) (by decide) rfl (fun ls hl => ?_)
  have hsz := hl.1
  refine lv_goto (tgt := 29) hx hb dX0_blockOf_146 (by decide) ?_
  exact hK29 x1 x2 x4 x5 v12 H locs ls (lv_sub hl [1, 2, 3, 4, 5, 6, 0] rfl) S h
set_option maxRecDepth 10000 in
set_option maxHeartbeats 4000000 in
theorem wX0_blockOf_139 (C : cx D (tyl cI cB cL) A RX0 cX0_blockOf 9 (some .int) p s m args c meth) (hR : 1 ≤ R.frames ∧ 21 ≤ R.locals) {r : Int32} (u : Sg) {K29 : Int32 → Int32 → Int32 → Int32 → Int32 → Option Int32} (hK29 : ∀ (y1 : Int32) (y2 : Int32) (y4 : Int32) (y5 : Int32) (y6 : Int32) (H : Heap) (locs : List Loc) (ls : Array Slot), lv_has ls 9 [(0, .ref (ad 0)), (1, .int y1), (2, .int y2), (3, .ref (ad 19)), (4, .int y4), (5, .int y5), (6, .int y6)] → st D (wN cI ad pa pl) A s u H locs → K29 y1 y2 y4 y5 y6 = some r → W p l e R s m args below meth c H locs 0 0 (MQ below (qI D (tyl cI cB cL) (wN cI ad pa pl) A r u) args s 0 0 A) (F0 m 29 ls [])) (x1 : Int32) (x2 : Int32) (x4 : Int32) (x6 : Int32) {H : Heap} {locs : List Loc} {ls : Array Slot} (hl : lv_has ls 9 [(0, .ref (ad 0)), (1, .int x1), (2, .int x2), (3, .ref (ad 19)), (4, .int x4), (6, .int x6)]) (S : st D (wN cI ad pa pl) A s u H locs) (h : fX0_blockOf_139 K29 x1 x2 x4 x6 u = some r) : W p l e R s m args below meth c H locs 0 0 (MQ below (qI D (tyl cI cB cL) (wN cI ad pa pl) A r u) args s 0 0 A) (F0 m 139 ls []) := by
  have hx := C.1
  have hb := C.2.1
  have hsz := hl.1
  unfold fX0_blockOf_139 at h
  refine lv_iload hx hb dX0_blockOf_139 (lv_at hl 5 rfl) ?_
  refine lv_istore (lv' := [(5, .int x6), (0, .ref (ad 0)), (1, .int x1), (2, .int x2), (3, .ref (ad 19)), (4, .int x4), (6, .int x6)]) hx hb dX0_blockOf_141 hl (by decide) rfl (fun ls hl => ?_)
  have hsz := hl.1
  exact wX0_blockOf_143 C hR u hK29 x1 x2 x4 x6 x6 (lv_sub hl [1, 2, 3, 4, 5, 0, 6] rfl) S h
set_option maxRecDepth 10000 in
set_option maxHeartbeats 4000000 in
theorem wX0_blockOf_94 (C : cx D (tyl cI cB cL) A RX0 cX0_blockOf 9 (some .int) p s m args c meth) (hR : 1 ≤ R.frames ∧ 21 ≤ R.locals) {r : Int32} (u : Sg) {K29 : Int32 → Int32 → Int32 → Int32 → Int32 → Option Int32} (hK29 : ∀ (y1 : Int32) (y2 : Int32) (y4 : Int32) (y5 : Int32) (y6 : Int32) (H : Heap) (locs : List Loc) (ls : Array Slot), lv_has ls 9 [(0, .ref (ad 0)), (1, .int y1), (2, .int y2), (3, .ref (ad 19)), (4, .int y4), (5, .int y5), (6, .int y6)] → st D (wN cI ad pa pl) A s u H locs → K29 y1 y2 y4 y5 y6 = some r → W p l e R s m args below meth c H locs 0 0 (MQ below (qI D (tyl cI cB cL) (wN cI ad pa pl) A r u) args s 0 0 A) (F0 m 29 ls [])) (x1 : Int32) (x2 : Int32) (x4 : Int32) (x5 : Int32) (x6 : Int32) (x7 : Int32) (t0 : Int32) {H : Heap} {locs : List Loc} {ls : Array Slot} (hl : lv_has ls 9 [(0, .ref (ad 0)), (1, .int x1), (2, .int x2), (3, .ref (ad 19)), (4, .int x4), (5, .int x5), (6, .int x6), (7, .int x7)]) (S : st D (wN cI ad pa pl) A s u H locs) (h : fX0_blockOf_94 K29 x1 x2 x4 x5 x6 x7 t0 u = some r) : W p l e R s m args below meth c H locs 0 0 (MQ below (qI D (tyl cI cB cL) (wN cI ad pa pl) A r u) args s 0 0 A) (F0 m 94 ls [.int t0]) := by
  have hx := C.1
  have hb := C.2.1
  have hsz := hl.1
  unfold fX0_blockOf_94 at h
  refine lv_istore (lv' := [(8, .int t0), (0, .ref (ad 0)), (1, .int x1), (2, .int x2), (3, .ref (ad 19)), (4, .int x4), (5, .int x5), (6, .int x6), (7, .int x7)]) hx hb dX0_blockOf_94 hl (by decide) rfl (fun ls hl => ?_)
  have hsz := hl.1
  refine lv_aload_n hx hb dX0_blockOf_96 rfl (lv_at hl 4 rfl) ?_
  refine q_get (v := .ref (ad 20)) C S (oN19 cI ad pa pl) rfl iwX4 0 (by decide) mw_319 rfl dX0_blockOf_97 ?_
  refine lv_iload hx hb dX0_blockOf_100 (lv_at hl 8 rfl) ?_
  obtain ⟨g10, h⟩ := grd_some h
  refine q_iald C S (aN20 cI ad pa pl) 0 rfl g10 dX0_blockOf_102 (j := (x7 : Int32).toNatClampNeg) rfl ?_
  refine lv_iconst (v := 1) hx hb dX0_blockOf_103 (by decide) ?_
  refine lv_icmp_ne (tgt := 143) hx hb dX0_blockOf_104 (by decide) (fun c11 => ?_) (fun c11 => ?_)
  · have h := cnd_f c11 h
    exact wX0_blockOf_143 C hR u hK29 x1 x2 x4 x5 x6 (lv_sub hl [1, 2, 3, 4, 5, 6, 7] rfl) S h
  · have h := cnd_t c11 h
    refine lv_iload hx hb dX0_blockOf_107 (lv_at hl 0 rfl) ?_
    refine lv_if_eq (tgt := 143) hx hb dX0_blockOf_109 (by decide) (fun c13 => ?_) (fun c13 => ?_)
    · have h := cnd_t c13 h
      exact wX0_blockOf_143 C hR u hK29 x1 x2 x4 x5 x6 (lv_sub hl [1, 2, 3, 4, 5, 6, 7] rfl) S h
    · have h := cnd_f c13 h
      refine lv_iload hx hb dX0_blockOf_112 (lv_at hl 6 rfl) ?_
      refine lv_iconst (v := (-1)) hx hb dX0_blockOf_114 (by decide) ?_
      refine lv_icmp_eq (tgt := 139) hx hb dX0_blockOf_115 (by decide) (fun c14 => ?_) (fun c14 => ?_)
      · have h := cnd_t c14 h
        exact wX0_blockOf_139 C hR u hK29 x1 x2 x4 x6 (lv_sub hl [1, 2, 3, 4, 5, 7] rfl) S h
      · have h := cnd_f c14 h
        refine lv_aload_n hx hb dX0_blockOf_118 rfl (lv_at hl 4 rfl) ?_
        refine q_get (v := .ref (ad 21)) C S (oN19 cI ad pa pl) rfl iwX4 1 (by decide) mw_338 rfl dX0_blockOf_119 ?_
        refine lv_iload hx hb dX0_blockOf_122 (lv_at hl 8 rfl) ?_
        obtain ⟨g15, h⟩ := grd_some h
        refine q_iald C S (aN21 cI ad pa pl) 0 rfl g15 dX0_blockOf_124 (j := (x7 : Int32).toNatClampNeg) rfl ?_
        refine lv_aload_n hx hb dX0_blockOf_125 rfl (lv_at hl 4 rfl) ?_
        refine q_get (v := .ref (ad 21)) C S (oN19 cI ad pa pl) rfl iwX4 1 (by decide) mw_338 rfl dX0_blockOf_126 ?_
        refine lv_iload_n hx hb dX0_blockOf_129 rfl (lv_at hl 2 rfl) ?_
        refine lv_iload hx hb dX0_blockOf_130 (lv_at hl 6 rfl) ?_
        refine q_callPN (As := [.int x1, .int x5]) (na := 2) C S (ct_X11_spotOf l D cI cB cL x1 x5) (List.mem_of_getElem? (i := 2) rfl) mw_322 mw_321 mw_320 hdX11_spotOf ⟨Nat.le_trans (Nat.le_of_ble_eq_true rfl) hR.1, Nat.le_trans (Nat.le_of_ble_eq_true rfl) hR.2⟩ rfl hsz ⟨Nat.zero_le _, Nat.zero_le _⟩ (Nat.le_of_ble_eq_true rfl) dX0_blockOf_132 rfl (fun H locs S => ?_)
        obtain ⟨g16, h⟩ := grd_some h
        refine q_iald C S (aN21 cI ad pa pl) 0 rfl g16 dX0_blockOf_135 (j := ((fX11_spotOf x1 x5) : Int32).toNatClampNeg) rfl ?_
        refine lv_icmp_ge (tgt := 143) hx hb dX0_blockOf_136 (by decide) (fun c17 => ?_) (fun c17 => ?_)
        · have h := cnd_t c17 h
          exact wX0_blockOf_143 C hR u hK29 x1 x2 x4 x5 x6 (lv_sub hl [1, 2, 3, 4, 5, 6, 7] rfl) S h
        · have h := cnd_f c17 h
          exact wX0_blockOf_139 C hR u hK29 x1 x2 x4 x6 (lv_sub hl [1, 2, 3, 4, 5, 7] rfl) S h
set_option maxRecDepth 10000 in
set_option maxHeartbeats 4000000 in
theorem wX0_blockOf_89 (C : cx D (tyl cI cB cL) A RX0 cX0_blockOf 9 (some .int) p s m args c meth) (hR : 1 ≤ R.frames ∧ 21 ≤ R.locals) {r : Int32} (u : Sg) {K29 : Int32 → Int32 → Int32 → Int32 → Int32 → Option Int32} (hK29 : ∀ (y1 : Int32) (y2 : Int32) (y4 : Int32) (y5 : Int32) (y6 : Int32) (H : Heap) (locs : List Loc) (ls : Array Slot), lv_has ls 9 [(0, .ref (ad 0)), (1, .int y1), (2, .int y2), (3, .ref (ad 19)), (4, .int y4), (5, .int y5), (6, .int y6)] → st D (wN cI ad pa pl) A s u H locs → K29 y1 y2 y4 y5 y6 = some r → W p l e R s m args below meth c H locs 0 0 (MQ below (qI D (tyl cI cB cL) (wN cI ad pa pl) A r u) args s 0 0 A) (F0 m 29 ls [])) (x1 : Int32) (x2 : Int32) (x4 : Int32) (x5 : Int32) (x6 : Int32) (x7 : Int32) {H : Heap} {locs : List Loc} {ls : Array Slot} (hl : lv_has ls 9 [(0, .ref (ad 0)), (1, .int x1), (2, .int x2), (3, .ref (ad 19)), (4, .int x4), (5, .int x5), (6, .int x6), (7, .int x7)]) (S : st D (wN cI ad pa pl) A s u H locs) (h : fX0_blockOf_89 K29 x1 x2 x4 x5 x6 x7 u = some r) : W p l e R s m args below meth c H locs 0 0 (MQ below (qI D (tyl cI cB cL) (wN cI ad pa pl) A r u) args s 0 0 A) (F0 m 89 ls []) := by
  have hx := C.1
  have hb := C.2.1
  have hsz := hl.1
  unfold fX0_blockOf_89 at h
  refine lv_iconst (v := 1) hx hb dX0_blockOf_89 (by decide) ?_
  refine lv_goto (tgt := 94) hx hb dX0_blockOf_90 (by decide) ?_
  exact wX0_blockOf_94 C hR u hK29 x1 x2 x4 x5 x6 x7 1 (lv_sub hl [0, 1, 2, 3, 4, 5, 6, 7] rfl) S h
set_option maxRecDepth 10000 in
set_option maxHeartbeats 4000000 in
theorem wX0_blockOf_93 (C : cx D (tyl cI cB cL) A RX0 cX0_blockOf 9 (some .int) p s m args c meth) (hR : 1 ≤ R.frames ∧ 21 ≤ R.locals) {r : Int32} (u : Sg) {K29 : Int32 → Int32 → Int32 → Int32 → Int32 → Option Int32} (hK29 : ∀ (y1 : Int32) (y2 : Int32) (y4 : Int32) (y5 : Int32) (y6 : Int32) (H : Heap) (locs : List Loc) (ls : Array Slot), lv_has ls 9 [(0, .ref (ad 0)), (1, .int y1), (2, .int y2), (3, .ref (ad 19)), (4, .int y4), (5, .int y5), (6, .int y6)] → st D (wN cI ad pa pl) A s u H locs → K29 y1 y2 y4 y5 y6 = some r → W p l e R s m args below meth c H locs 0 0 (MQ below (qI D (tyl cI cB cL) (wN cI ad pa pl) A r u) args s 0 0 A) (F0 m 29 ls [])) (x1 : Int32) (x2 : Int32) (x4 : Int32) (x5 : Int32) (x6 : Int32) (x7 : Int32) {H : Heap} {locs : List Loc} {ls : Array Slot} (hl : lv_has ls 9 [(0, .ref (ad 0)), (1, .int x1), (2, .int x2), (3, .ref (ad 19)), (4, .int x4), (5, .int x5), (6, .int x6), (7, .int x7)]) (S : st D (wN cI ad pa pl) A s u H locs) (h : fX0_blockOf_93 K29 x1 x2 x4 x5 x6 x7 u = some r) : W p l e R s m args below meth c H locs 0 0 (MQ below (qI D (tyl cI cB cL) (wN cI ad pa pl) A r u) args s 0 0 A) (F0 m 93 ls []) := by
  have hx := C.1
  have hb := C.2.1
  have hsz := hl.1
  unfold fX0_blockOf_93 at h
  refine lv_iconst (v := 0) hx hb dX0_blockOf_93 (by decide) ?_
  exact wX0_blockOf_94 C hR u hK29 x1 x2 x4 x5 x6 x7 0 (lv_sub hl [0, 1, 2, 3, 4, 5, 6, 7] rfl) S h
set_option maxRecDepth 10000 in
set_option maxHeartbeats 4000000 in
theorem wX0_blockOf_29 (C : cx D (tyl cI cB cL) A RX0 cX0_blockOf 9 (some .int) p s m args c meth) (hR : 1 ≤ R.frames ∧ 21 ≤ R.locals) {r : Int32} (u : Sg) : ∀ (n : Nat) (x1 : Int32) (x2 : Int32) (x4 : Int32) (x5 : Int32) (x6 : Int32) (H : Heap) (locs : List Loc) (ls : Array Slot), lv_has ls 9 [(0, .ref (ad 0)), (1, .int x1), (2, .int x2), (3, .ref (ad 19)), (4, .int x4), (5, .int x5), (6, .int x6)] → st D (wN cI ad pa pl) A s u H locs → fX0_blockOf_29 u n x1 x2 x4 x5 x6 = some r → W p l e R s m args below meth c H locs 0 0 (MQ below (qI D (tyl cI cB cL) (wN cI ad pa pl) A r u) args s 0 0 A) (F0 m 29 ls []) := by
  have hx := C.1
  have hb := C.2.1
  intro n
  induction n with
  | zero =>
    intro x1 x2 x4 x5 x6 H locs ls hl S h
    cases h
  | succ n ih =>
    intro x1 x2 x4 x5 x6 H locs ls hl S h
    rw [fX0_blockOf_29] at h
    have hsz := hl.1
    refine lv_iload hx hb dX0_blockOf_29 (lv_at hl 6 rfl) ?_
    refine lv_aload_n hx hb dX0_blockOf_31 rfl (lv_at hl 0 rfl) ?_
    refine q_get (v := .ref (ad 13)) C S (oN0 cI ad pa pl) rfl iwX7 14 (by decide) mw_336 rfl dX0_blockOf_32 ?_
    refine q_get (v := .int (u 13 0)) C S (oN13 cI ad pa pl) rfl iwX6 0 (by decide) mw_337 rfl dX0_blockOf_35 ?_
    refine lv_icmp_ge (tgt := 149) hx hb dX0_blockOf_38 (by decide) (fun c5 => ?_) (fun c5 => ?_)
    · have h := cnd_t c5 h
      refine lv_iload hx hb dX0_blockOf_149 (lv_at hl 5 rfl) ?_
      exact q_iret C S (rt_R h) dX0_blockOf_151
    · have h := cnd_f c5 h
      refine lv_iload_n hx hb dX0_blockOf_41 rfl (lv_at hl 1 rfl) ?_
      refine lv_iload hx hb dX0_blockOf_42 (lv_at hl 6 rfl) ?_
      refine q_callPN (As := [.int x1, .int x6]) (na := 2) C S (ct_X11_spotOf l D cI cB cL x1 x6) (List.mem_of_getElem? (i := 2) rfl) mw_322 mw_321 mw_320 hdX11_spotOf ⟨Nat.le_trans (Nat.le_of_ble_eq_true rfl) hR.1, Nat.le_trans (Nat.le_of_ble_eq_true rfl) hR.2⟩ rfl hsz ⟨Nat.zero_le _, Nat.zero_le _⟩ (Nat.le_of_ble_eq_true rfl) dX0_blockOf_44 rfl (fun H locs S => ?_)
      refine lv_topi (fun v6 ev6 => ?_)
      have h := bnd_of ev6 h
      refine lv_istore (lv' := [(7, .int v6), (0, .ref (ad 0)), (1, .int x1), (2, .int x2), (3, .ref (ad 19)), (4, .int x4), (5, .int x5), (6, .int x6)]) hx hb dX0_blockOf_47 hl (by decide) rfl (fun ls hl => ?_)
      have hsz := hl.1
      refine lv_aload_n hx hb dX0_blockOf_49 rfl (lv_at hl 4 rfl) ?_
      refine q_get (v := .ref (ad 21)) C S (oN19 cI ad pa pl) rfl iwX4 1 (by decide) mw_338 rfl dX0_blockOf_50 ?_
      refine lv_iload hx hb dX0_blockOf_53 (lv_at hl 0 rfl) ?_
      obtain ⟨g7, h⟩ := grd_some h
      refine q_iald C S (aN21 cI ad pa pl) 0 rfl g7 dX0_blockOf_55 (j := (v6 : Int32).toNatClampNeg) rfl ?_
      refine lv_aload_n hx hb dX0_blockOf_56 rfl (lv_at hl 4 rfl) ?_
      refine q_get (v := .ref (ad 21)) C S (oN19 cI ad pa pl) rfl iwX4 1 (by decide) mw_338 rfl dX0_blockOf_57 ?_
      refine lv_iload hx hb dX0_blockOf_60 (lv_at hl 5 rfl) ?_
      obtain ⟨g8, h⟩ := grd_some h
      refine q_iald C S (aN21 cI ad pa pl) 0 rfl g8 dX0_blockOf_62 (j := (x4 : Int32).toNatClampNeg) rfl ?_
      refine lv_icmp_lt (tgt := 89) hx hb dX0_blockOf_63 (by decide) (fun c9 => ?_) (fun c9 => ?_)
      · have h := cnd_t c9 h
        exact wX0_blockOf_89 C hR u ih x1 x2 x4 x5 x6 v6 (lv_sub hl [1, 2, 3, 4, 5, 6, 7, 0] rfl) S h
      · have h := cnd_f c9 h
        refine lv_aload_n hx hb dX0_blockOf_66 rfl (lv_at hl 4 rfl) ?_
        refine q_get (v := .ref (ad 21)) C S (oN19 cI ad pa pl) rfl iwX4 1 (by decide) mw_338 rfl dX0_blockOf_67 ?_
        refine lv_iload hx hb dX0_blockOf_70 (lv_at hl 0 rfl) ?_
        obtain ⟨g18, h⟩ := grd_some h
        refine q_iald C S (aN21 cI ad pa pl) 0 rfl g18 dX0_blockOf_72 (j := (v6 : Int32).toNatClampNeg) rfl ?_
        refine lv_aload_n hx hb dX0_blockOf_73 rfl (lv_at hl 4 rfl) ?_
        refine q_get (v := .ref (ad 21)) C S (oN19 cI ad pa pl) rfl iwX4 1 (by decide) mw_338 rfl dX0_blockOf_74 ?_
        refine lv_iload hx hb dX0_blockOf_77 (lv_at hl 5 rfl) ?_
        obtain ⟨g19, h⟩ := grd_some h
        refine q_iald C S (aN21 cI ad pa pl) 0 rfl g19 dX0_blockOf_79 (j := (x4 : Int32).toNatClampNeg) rfl ?_
        refine lv_icmp_ne (tgt := 93) hx hb dX0_blockOf_80 (by decide) (fun c20 => ?_) (fun c20 => ?_)
        · have h := cnd_f c20 h
          exact wX0_blockOf_93 C hR u ih x1 x2 x4 x5 x6 v6 (lv_sub hl [1, 2, 3, 4, 5, 6, 7, 0] rfl) S h
        · have h := cnd_t c20 h
          refine lv_iload hx hb dX0_blockOf_83 (lv_at hl 7 rfl) ?_
          refine lv_iload_n hx hb dX0_blockOf_85 rfl (lv_at hl 3 rfl) ?_
          refine lv_icmp_gt (tgt := 93) hx hb dX0_blockOf_86 (by decide) (fun c21 => ?_) (fun c21 => ?_)
          · have h := cnd_t c21 h
            exact wX0_blockOf_93 C hR u ih x1 x2 x4 x5 x6 v6 (lv_sub hl [1, 2, 3, 4, 5, 6, 7, 0] rfl) S h
          · have h := cnd_f c21 h
            exact wX0_blockOf_89 C hR u ih x1 x2 x4 x5 x6 v6 (lv_sub hl [1, 2, 3, 4, 5, 6, 7, 0] rfl) S h
set_option maxRecDepth 10000 in
set_option maxHeartbeats 4000000 in
theorem wX0_blockOf_0 (C : cx D (tyl cI cB cL) A RX0 cX0_blockOf 9 (some .int) p s m args c meth) (hR : 1 ≤ R.frames ∧ 21 ≤ R.locals) {r : Int32} (u : Sg) (x1 : Int32) (x2 : Int32) {H : Heap} {locs : List Loc} {ls : Array Slot} (hl : lv_has ls 9 [(0, .ref (ad 0)), (1, .int x1), (2, .int x2)]) (S : st D (wN cI ad pa pl) A s u H locs) (h : fX0_blockOf_0 x1 x2 u = some r) : W p l e R s m args below meth c H locs 0 0 (MQ below (qI D (tyl cI cB cL) (wN cI ad pa pl) A r u) args s 0 0 A) (F0 m 0 ls []) := by
  have hx := C.1
  have hb := C.2.1
  have hsz := hl.1
  unfold fX0_blockOf_0 at h
  refine lv_aload_n hx hb dX0_blockOf_0 rfl (lv_at hl 0 rfl) ?_
  refine q_get (v := .ref (ad 19)) C S (oN0 cI ad pa pl) rfl iwX7 15 (by decide) mw_318 rfl dX0_blockOf_1 ?_
  refine lv_astore_n (lv' := [(3, .ref (ad 19)), (0, .ref (ad 0)), (1, .int x1), (2, .int x2)]) hx hb dX0_blockOf_4 rfl hl (by decide) rfl (fun ls hl => ?_)
  have hsz := hl.1
  refine lv_iload_n hx hb dX0_blockOf_5 rfl (lv_at hl 2 rfl) ?_
  refine lv_iload_n hx hb dX0_blockOf_6 rfl (lv_at hl 3 rfl) ?_
  refine q_callPN (As := [.int x1, .int x2]) (na := 2) C S (ct_X11_spotOf l D cI cB cL x1 x2) (List.mem_of_getElem? (i := 2) rfl) mw_322 mw_321 mw_320 hdX11_spotOf ⟨Nat.le_trans (Nat.le_of_ble_eq_true rfl) hR.1, Nat.le_trans (Nat.le_of_ble_eq_true rfl) hR.2⟩ rfl hsz ⟨Nat.zero_le _, Nat.zero_le _⟩ (Nat.le_of_ble_eq_true rfl) dX0_blockOf_7 rfl (fun H locs S => ?_)
  refine lv_topi (fun v1 ev1 => ?_)
  have h := bnd_of ev1 h
  refine lv_istore (lv' := [(4, .int v1), (3, .ref (ad 19)), (0, .ref (ad 0)), (1, .int x1), (2, .int x2)]) hx hb dX0_blockOf_10 hl (by decide) rfl (fun ls hl => ?_)
  have hsz := hl.1
  refine lv_aload_n hx hb dX0_blockOf_12 rfl (lv_at hl 1 rfl) ?_
  refine lv_iload hx hb dX0_blockOf_13 (lv_at hl 0 rfl) ?_
  obtain ⟨r3, h2, h⟩ := obr_some h
  refine q_callVi (As := [.int v1]) (na := 1) C S (oN19 cI ad pa pl) rfl (ct_X4_isPending l D cI cB cL ad pa pl v1 u h2) mw_334 mw_333 mw_335 mw_332 mw_331 hdX4_isPending ⟨Nat.le_trans (Nat.le_of_ble_eq_true rfl) hR.1, Nat.le_trans (Nat.le_of_ble_eq_true rfl) hR.2⟩ rfl hsz ⟨Nat.zero_le _, Nat.zero_le _⟩ (Nat.le_of_ble_eq_true rfl) dX0_blockOf_15 rfl (fun H locs S => ?_)
  refine lv_if_ne (tgt := 23) hx hb dX0_blockOf_18 (by decide) (fun c4 => ?_) (fun c4 => ?_)
  · have h := cnd_f c4 h
    refine lv_iconst (v := (-1)) hx hb dX0_blockOf_23 (by decide) ?_
    refine lv_istore (lv' := [(5, .int (-1)), (4, .int v1), (3, .ref (ad 19)), (0, .ref (ad 0)), (1, .int x1), (2, .int x2)]) hx hb dX0_blockOf_24 hl (by decide) rfl (fun ls hl => ?_)
    have hsz := hl.1
    refine lv_iconst (v := 0) hx hb dX0_blockOf_26 (by decide) ?_
    refine lv_istore (lv' := [(6, .int 0), (5, .int (-1)), (4, .int v1), (3, .ref (ad 19)), (0, .ref (ad 0)), (1, .int x1), (2, .int x2)]) hx hb dX0_blockOf_27 hl (by decide) rfl (fun ls hl => ?_)
    have hsz := hl.1
    exact wX0_blockOf_29 C hR u FU x1 x2 v1 (-1) 0 H locs ls (lv_sub hl [4, 5, 6, 3, 2, 1, 0] rfl) S h
  · have h := cnd_t c4 h
    refine lv_iconst (v := (-1)) hx hb dX0_blockOf_21 (by decide) ?_
    exact q_iret C S (rt_R h) dX0_blockOf_22
set_option maxRecDepth 10000 in
set_option maxHeartbeats 4000000 in
theorem ct_X0_blockOf (l : Launch) (D : va_G) (cI cB cL : ClassId) (ad : Nat → Nat) (pa pl : Nat) (x1 : Int32) (x2 : Int32) (u : Sg) {r : Int32} (h : fX0_blockOf x1 x2 u = some r) : metI l D (tyl cI cB cL) yX0_blockOf cX0_blockOf 9 (some .int) 1 21 (wN cI ad pa pl) [.ref (ad 0), .int x1, .int x2] u r u := by
  intro sz
  refine Met.ofW (cc := cX0_blockOf) (maxL := 9) (ret := (some .int)) (by decide) rfl ?_
  intro p e s m args below meth c s₁ B hml hv
  obtain ⟨rfl, C, S⟩ := q_entry B hml hv
  have hl := lv_entry ([.ref (ad 0), .int x1, .int x2]) (n := 9) (Nat.le_of_ble_eq_true rfl)
  rw [lg_entry_eq]
  generalize (lg_sl ([.ref (ad 0), .int x1, .int x2]) ++ List.replicate (9 - (lg_sl ([.ref (ad 0), .int x1, .int x2])).length) Slot.unset).toArray = ls at hl ⊢
  exact wX0_blockOf_0 C ⟨Nat.le_refl _, Nat.le_refl _⟩ u x1 x2 (lv_sub hl [0, 1, 2] rfl) S h
noncomputable def fX7_isUp_0 (x1 : Int32) (u : Sg) : Option Int32 := grd (vp_in x1 6) (cnd ((u 2 ((x1 : Int32).toNatClampNeg)) = (-1)) (some 1) (some 0))
noncomputable def fX7_isUp (x1 : Int32) (u : Sg) : Option Int32 := fX7_isUp_0 x1 u
set_option maxRecDepth 10000 in
set_option maxHeartbeats 4000000 in
theorem wX7_isUp_0 (C : cx D (tyl cI cB cL) A RX7 cX7_isUp 2 (some .boolean) p s m args c meth) (hR : 0 ≤ R.frames ∧ 0 ≤ R.locals) {r : Int32} (u : Sg) (x1 : Int32) {H : Heap} {locs : List Loc} {ls : Array Slot} (hl : lv_has ls 2 [(0, .ref (ad 0)), (1, .int x1)]) (S : st D (wN cI ad pa pl) A s u H locs) (h : fX7_isUp_0 x1 u = some r) : W p l e R s m args below meth c H locs 0 0 (MQ below (qI D (tyl cI cB cL) (wN cI ad pa pl) A r u) args s 0 0 A) (F0 m 0 ls []) := by
  have hx := C.1
  have hb := C.2.1
  have hsz := hl.1
  unfold fX7_isUp_0 at h
  refine lv_aload_n hx hb dX7_isUp_0 rfl (lv_at hl 0 rfl) ?_
  refine q_get (v := .ref (ad 2)) C S (oN0 cI ad pa pl) rfl iwX7 10 (by decide) mw_339 rfl dX7_isUp_1 ?_
  refine lv_iload_n hx hb dX7_isUp_4 rfl (lv_at hl 1 rfl) ?_
  obtain ⟨g1, h⟩ := grd_some h
  refine q_iald C S (aN2 cI ad pa pl) 0 rfl g1 dX7_isUp_5 (j := (x1 : Int32).toNatClampNeg) rfl ?_
  refine lv_iconst (v := (-1)) hx hb dX7_isUp_6 (by decide) ?_
  refine lv_icmp_ne (tgt := 14) hx hb dX7_isUp_7 (by decide) (fun c2 => ?_) (fun c2 => ?_)
  · have h := cnd_f c2 h
    refine lv_iconst (v := 0) hx hb dX7_isUp_14 (by decide) ?_
    exact q_zret C S rfl (rt_R h) dX7_isUp_15
  · have h := cnd_t c2 h
    refine lv_iconst (v := 1) hx hb dX7_isUp_10 (by decide) ?_
    refine lv_goto (tgt := 15) hx hb dX7_isUp_11 (by decide) ?_
    exact q_zret C S rfl (rt_R h) dX7_isUp_15
set_option maxRecDepth 10000 in
set_option maxHeartbeats 4000000 in
theorem ct_X7_isUp (l : Launch) (D : va_G) (cI cB cL : ClassId) (ad : Nat → Nat) (pa pl : Nat) (x1 : Int32) (u : Sg) {r : Int32} (h : fX7_isUp x1 u = some r) : metI l D (tyl cI cB cL) yX7_isUp cX7_isUp 2 (some .boolean) 0 0 (wN cI ad pa pl) [.ref (ad 0), .int x1] u r u := by
  intro sz
  refine Met.ofW (cc := cX7_isUp) (maxL := 2) (ret := (some .boolean)) (by decide) rfl ?_
  intro p e s m args below meth c s₁ B hml hv
  obtain ⟨rfl, C, S⟩ := q_entry B hml hv
  have hl := lv_entry ([.ref (ad 0), .int x1]) (n := 2) (Nat.le_of_ble_eq_true rfl)
  rw [lg_entry_eq]
  generalize (lg_sl ([.ref (ad 0), .int x1]) ++ List.replicate (2 - (lg_sl ([.ref (ad 0), .int x1])).length) Slot.unset).toArray = ls at hl ⊢
  exact wX7_isUp_0 C ⟨Nat.le_refl _, Nat.le_refl _⟩ u x1 (lv_sub hl [0, 1] rfl) S h
noncomputable def fX7_isNoticed_0 (x1 : Int32) (u : Sg) : Option Int32 := obr (fX7_isUp x1 u) (fun r2 => cnd (r2 = 0) (grd (vp_in x1 6) (cnd (((u 0 3) - (u 2 ((x1 : Int32).toNatClampNeg))) < (u 0 5)) (some 0) (some 1))) (some 0))
noncomputable def fX7_isNoticed (x1 : Int32) (u : Sg) : Option Int32 := fX7_isNoticed_0 x1 u
set_option maxRecDepth 10000 in
set_option maxHeartbeats 4000000 in
theorem wX7_isNoticed_0 (C : cx D (tyl cI cB cL) A RX7 cX7_isNoticed 2 (some .boolean) p s m args c meth) (hR : 1 ≤ R.frames ∧ 21 ≤ R.locals) {r : Int32} (u : Sg) (x1 : Int32) {H : Heap} {locs : List Loc} {ls : Array Slot} (hl : lv_has ls 2 [(0, .ref (ad 0)), (1, .int x1)]) (S : st D (wN cI ad pa pl) A s u H locs) (h : fX7_isNoticed_0 x1 u = some r) : W p l e R s m args below meth c H locs 0 0 (MQ below (qI D (tyl cI cB cL) (wN cI ad pa pl) A r u) args s 0 0 A) (F0 m 0 ls []) := by
  have hx := C.1
  have hb := C.2.1
  have hsz := hl.1
  unfold fX7_isNoticed_0 at h
  refine lv_aload_n hx hb dX7_isNoticed_0 rfl (lv_at hl 0 rfl) ?_
  refine lv_iload_n hx hb dX7_isNoticed_1 rfl (lv_at hl 1 rfl) ?_
  obtain ⟨r2, h1, h⟩ := obr_some h
  refine q_callVi (As := [.int x1]) (na := 1) C S (oN0 cI ad pa pl) rfl (ct_X7_isUp l D cI cB cL ad pa pl x1 u h1) mw_343 mw_342 mw_344 mw_341 mw_340 hdX7_isUp ⟨Nat.le_trans (Nat.le_of_ble_eq_true rfl) hR.1, Nat.le_trans (Nat.le_of_ble_eq_true rfl) hR.2⟩ rfl hsz ⟨Nat.zero_le _, Nat.zero_le _⟩ (Nat.le_of_ble_eq_true rfl) dX7_isNoticed_2 rfl (fun H locs S => ?_)
  refine lv_if_ne (tgt := 30) hx hb dX7_isNoticed_5 (by decide) (fun c3 => ?_) (fun c3 => ?_)
  · have h := cnd_f c3 h
    refine lv_iconst (v := 0) hx hb dX7_isNoticed_30 (by decide) ?_
    exact q_zret C S rfl (rt_R h) dX7_isNoticed_31
  · have h := cnd_t c3 h
    refine lv_aload_n hx hb dX7_isNoticed_8 rfl (lv_at hl 0 rfl) ?_
    refine q_get (v := .int (u 0 3)) C S (oN0 cI ad pa pl) rfl iwX7 3 (by decide) mw_345 rfl dX7_isNoticed_9 ?_
    refine lv_aload_n hx hb dX7_isNoticed_12 rfl (lv_at hl 0 rfl) ?_
    refine q_get (v := .ref (ad 2)) C S (oN0 cI ad pa pl) rfl iwX7 10 (by decide) mw_339 rfl dX7_isNoticed_13 ?_
    refine lv_iload_n hx hb dX7_isNoticed_16 rfl (lv_at hl 1 rfl) ?_
    obtain ⟨g4, h⟩ := grd_some h
    refine q_iald C S (aN2 cI ad pa pl) 0 rfl g4 dX7_isNoticed_17 (j := (x1 : Int32).toNatClampNeg) rfl ?_
    refine lv_isub hx hb dX7_isNoticed_18 ?_
    refine lv_aload_n hx hb dX7_isNoticed_19 rfl (lv_at hl 0 rfl) ?_
    refine q_get (v := .int (u 0 5)) C S (oN0 cI ad pa pl) rfl iwX7 5 (by decide) mw_346 rfl dX7_isNoticed_20 ?_
    refine lv_icmp_lt (tgt := 30) hx hb dX7_isNoticed_23 (by decide) (fun c5 => ?_) (fun c5 => ?_)
    · have h := cnd_t c5 h
      refine lv_iconst (v := 0) hx hb dX7_isNoticed_30 (by decide) ?_
      exact q_zret C S rfl (rt_R h) dX7_isNoticed_31
    · have h := cnd_f c5 h
      refine lv_iconst (v := 1) hx hb dX7_isNoticed_26 (by decide) ?_
      refine lv_goto (tgt := 31) hx hb dX7_isNoticed_27 (by decide) ?_
      exact q_zret C S rfl (rt_R h) dX7_isNoticed_31
set_option maxRecDepth 10000 in
set_option maxHeartbeats 4000000 in
theorem ct_X7_isNoticed (l : Launch) (D : va_G) (cI cB cL : ClassId) (ad : Nat → Nat) (pa pl : Nat) (x1 : Int32) (u : Sg) {r : Int32} (h : fX7_isNoticed x1 u = some r) : metI l D (tyl cI cB cL) yX7_isNoticed cX7_isNoticed 2 (some .boolean) 1 21 (wN cI ad pa pl) [.ref (ad 0), .int x1] u r u := by
  intro sz
  refine Met.ofW (cc := cX7_isNoticed) (maxL := 2) (ret := (some .boolean)) (by decide) rfl ?_
  intro p e s m args below meth c s₁ B hml hv
  obtain ⟨rfl, C, S⟩ := q_entry B hml hv
  have hl := lv_entry ([.ref (ad 0), .int x1]) (n := 2) (Nat.le_of_ble_eq_true rfl)
  rw [lg_entry_eq]
  generalize (lg_sl ([.ref (ad 0), .int x1]) ++ List.replicate (2 - (lg_sl ([.ref (ad 0), .int x1])).length) Slot.unset).toArray = ls at hl ⊢
  exact wX7_isNoticed_0 C ⟨Nat.le_refl _, Nat.le_refl _⟩ u x1 (lv_sub hl [0, 1] rfl) S h
noncomputable def fX7_noticedNodes_26 (K4 : Int32 → Int32 → Option Int32) (x1 : Int32) (x2 : Int32) (u : Sg) : Option Int32 := bnd (x2 + 1) (fun v5 => K4 x1 v5)
noncomputable def fX7_noticedNodes_4 (u : Sg) : Nat → Int32 → Int32 → Option Int32
  | 0, _, _ => none
  | n + 1, x1, x2 => cnd ((u 0 0) ≤ x2) (some x1) (obr (fX7_isNoticed x2 u) (fun r3 => cnd (r3 = 0) (fX7_noticedNodes_26 (fun a0 a1 => fX7_noticedNodes_4 u n a0 a1) x1 x2 u) (bnd (x1 ||| ((1 : Int32) <<< ((x2 &&& 31 : Int32)))) (fun v6 => fX7_noticedNodes_26 (fun a0 a1 => fX7_noticedNodes_4 u n a0 a1) v6 x2 u))))
noncomputable def fX7_noticedNodes_0 (u : Sg) : Option Int32 := fX7_noticedNodes_4 u FU 0 0
noncomputable def fX7_noticedNodes (u : Sg) : Option Int32 := fX7_noticedNodes_0 u
set_option maxRecDepth 10000 in
set_option maxHeartbeats 4000000 in
theorem wX7_noticedNodes_26 (C : cx D (tyl cI cB cL) A RX7 cX7_noticedNodes 3 (some .int) p s m args c meth) (hR : 2 ≤ R.frames ∧ 42 ≤ R.locals) {r : Int32} (u : Sg) {K4 : Int32 → Int32 → Option Int32} (hK4 : ∀ (y1 : Int32) (y2 : Int32) (H : Heap) (locs : List Loc) (ls : Array Slot), lv_has ls 3 [(0, .ref (ad 0)), (1, .int y1), (2, .int y2)] → st D (wN cI ad pa pl) A s u H locs → K4 y1 y2 = some r → W p l e R s m args below meth c H locs 0 0 (MQ below (qI D (tyl cI cB cL) (wN cI ad pa pl) A r u) args s 0 0 A) (F0 m 4 ls [])) (x1 : Int32) (x2 : Int32) {H : Heap} {locs : List Loc} {ls : Array Slot} (hl : lv_has ls 3 [(0, .ref (ad 0)), (1, .int x1), (2, .int x2)]) (S : st D (wN cI ad pa pl) A s u H locs) (h : fX7_noticedNodes_26 K4 x1 x2 u = some r) : W p l e R s m args below meth c H locs 0 0 (MQ below (qI D (tyl cI cB cL) (wN cI ad pa pl) A r u) args s 0 0 A) (F0 m 26 ls []) := by
  have hx := C.1
  have hb := C.2.1
  have hsz := hl.1
  unfold fX7_noticedNodes_26 at h
  obtain ⟨v5, ev5⟩ : ∃ y : Int32, y = x2 + 1 := ⟨_, rfl⟩
  have h := bnd_of ev5 h
  refine lv_iinc (v := v5) (lv' := [(2, .int v5), (0, .ref (ad 0)), (1, .int x1)]) hx hb dX7_noticedNodes_26 hl (k := 2) rfl (by rw [ev5]; rfl) (by decide) rfl (fun ls hl => ?_)
  have hsz := hl.1
  refine lv_goto (tgt := 4) hx hb dX7_noticedNodes_29 (by decide) ?_
  exact hK4 x1 v5 H locs ls (lv_sub hl [1, 2, 0] rfl) S h
set_option maxRecDepth 10000 in
set_option maxHeartbeats 4000000 in
theorem wX7_noticedNodes_4 (C : cx D (tyl cI cB cL) A RX7 cX7_noticedNodes 3 (some .int) p s m args c meth) (hR : 2 ≤ R.frames ∧ 42 ≤ R.locals) {r : Int32} (u : Sg) : ∀ (n : Nat) (x1 : Int32) (x2 : Int32) (H : Heap) (locs : List Loc) (ls : Array Slot), lv_has ls 3 [(0, .ref (ad 0)), (1, .int x1), (2, .int x2)] → st D (wN cI ad pa pl) A s u H locs → fX7_noticedNodes_4 u n x1 x2 = some r → W p l e R s m args below meth c H locs 0 0 (MQ below (qI D (tyl cI cB cL) (wN cI ad pa pl) A r u) args s 0 0 A) (F0 m 4 ls []) := by
  have hx := C.1
  have hb := C.2.1
  intro n
  induction n with
  | zero =>
    intro x1 x2 H locs ls hl S h
    cases h
  | succ n ih =>
    intro x1 x2 H locs ls hl S h
    rw [fX7_noticedNodes_4] at h
    have hsz := hl.1
    refine lv_iload_n hx hb dX7_noticedNodes_4 rfl (lv_at hl 2 rfl) ?_
    refine lv_aload_n hx hb dX7_noticedNodes_5 rfl (lv_at hl 0 rfl) ?_
    refine q_get (v := .int (u 0 0)) C S (oN0 cI ad pa pl) rfl iwX7 0 (by decide) mw_347 rfl dX7_noticedNodes_6 ?_
    refine lv_icmp_ge (tgt := 32) hx hb dX7_noticedNodes_9 (by decide) (fun c1 => ?_) (fun c1 => ?_)
    · have h := cnd_t c1 h
      refine lv_iload_n hx hb dX7_noticedNodes_32 rfl (lv_at hl 1 rfl) ?_
      exact q_iret C S (rt_R h) dX7_noticedNodes_33
    · have h := cnd_f c1 h
      refine lv_aload_n hx hb dX7_noticedNodes_12 rfl (lv_at hl 0 rfl) ?_
      refine lv_iload_n hx hb dX7_noticedNodes_13 rfl (lv_at hl 2 rfl) ?_
      obtain ⟨r3, h2, h⟩ := obr_some h
      refine q_callVi (As := [.int x2]) (na := 1) C S (oN0 cI ad pa pl) rfl (ct_X7_isNoticed l D cI cB cL ad pa pl x2 u h2) mw_350 mw_349 mw_351 mw_341 mw_348 hdX7_isNoticed ⟨Nat.le_trans (Nat.le_of_ble_eq_true rfl) hR.1, Nat.le_trans (Nat.le_of_ble_eq_true rfl) hR.2⟩ rfl hsz ⟨Nat.zero_le _, Nat.zero_le _⟩ (Nat.le_of_ble_eq_true rfl) dX7_noticedNodes_14 rfl (fun H locs S => ?_)
      refine lv_if_eq (tgt := 26) hx hb dX7_noticedNodes_17 (by decide) (fun c4 => ?_) (fun c4 => ?_)
      · have h := cnd_t c4 h
        exact wX7_noticedNodes_26 C hR u ih x1 x2 (lv_sub hl [0, 1, 2] rfl) S h
      · have h := cnd_f c4 h
        refine lv_iload_n hx hb dX7_noticedNodes_20 rfl (lv_at hl 1 rfl) ?_
        refine lv_iconst (v := 1) hx hb dX7_noticedNodes_21 (by decide) ?_
        refine lv_iload_n hx hb dX7_noticedNodes_22 rfl (lv_at hl 2 rfl) ?_
        refine lv_ishl hx hb dX7_noticedNodes_23 ?_
        refine lv_ior hx hb dX7_noticedNodes_24 ?_
        refine lv_topi (fun v6 ev6 => ?_)
        have h := bnd_of ev6 h
        refine lv_istore_n (lv' := [(1, .int v6), (0, .ref (ad 0)), (2, .int x2)]) hx hb dX7_noticedNodes_25 rfl hl (by decide) rfl (fun ls hl => ?_)
        have hsz := hl.1
        exact wX7_noticedNodes_26 C hR u ih v6 x2 (lv_sub hl [1, 0, 2] rfl) S h
set_option maxRecDepth 10000 in
set_option maxHeartbeats 4000000 in
theorem wX7_noticedNodes_0 (C : cx D (tyl cI cB cL) A RX7 cX7_noticedNodes 3 (some .int) p s m args c meth) (hR : 2 ≤ R.frames ∧ 42 ≤ R.locals) {r : Int32} (u : Sg) {H : Heap} {locs : List Loc} {ls : Array Slot} (hl : lv_has ls 3 [(0, .ref (ad 0))]) (S : st D (wN cI ad pa pl) A s u H locs) (h : fX7_noticedNodes_0 u = some r) : W p l e R s m args below meth c H locs 0 0 (MQ below (qI D (tyl cI cB cL) (wN cI ad pa pl) A r u) args s 0 0 A) (F0 m 0 ls []) := by
  have hx := C.1
  have hb := C.2.1
  have hsz := hl.1
  unfold fX7_noticedNodes_0 at h
  refine lv_iconst (v := 0) hx hb dX7_noticedNodes_0 (by decide) ?_
  refine lv_istore_n (lv' := [(1, .int 0), (0, .ref (ad 0))]) hx hb dX7_noticedNodes_1 rfl hl (by decide) rfl (fun ls hl => ?_)
  have hsz := hl.1
  refine lv_iconst (v := 0) hx hb dX7_noticedNodes_2 (by decide) ?_
  refine lv_istore_n (lv' := [(2, .int 0), (1, .int 0), (0, .ref (ad 0))]) hx hb dX7_noticedNodes_3 rfl hl (by decide) rfl (fun ls hl => ?_)
  have hsz := hl.1
  exact wX7_noticedNodes_4 C hR u FU 0 0 H locs ls (lv_sub hl [2, 1, 0] rfl) S h
set_option maxRecDepth 10000 in
set_option maxHeartbeats 4000000 in
theorem ct_X7_noticedNodes (l : Launch) (D : va_G) (cI cB cL : ClassId) (ad : Nat → Nat) (pa pl : Nat) (u : Sg) {r : Int32} (h : fX7_noticedNodes u = some r) : metI l D (tyl cI cB cL) yX7_noticedNodes cX7_noticedNodes 3 (some .int) 2 42 (wN cI ad pa pl) [.ref (ad 0)] u r u := by
  intro sz
  refine Met.ofW (cc := cX7_noticedNodes) (maxL := 3) (ret := (some .int)) (by decide) rfl ?_
  intro p e s m args below meth c s₁ B hml hv
  obtain ⟨rfl, C, S⟩ := q_entry B hml hv
  have hl := lv_entry ([.ref (ad 0)]) (n := 3) (Nat.le_of_ble_eq_true rfl)
  rw [lg_entry_eq]
  generalize (lg_sl ([.ref (ad 0)]) ++ List.replicate (3 - (lg_sl ([.ref (ad 0)])).length) Slot.unset).toArray = ls at hl ⊢
  exact wX7_noticedNodes_0 C ⟨Nat.le_refl _, Nat.le_refl _⟩ u (lv_sub hl [0] rfl) S h
noncomputable def fX0_waitsOf_86 (K22 : Int32 → Int32 → Int32 → Int32 → Option Int32) (x1 : Int32) (x2 : Int32) (x3 : Int32) (x4 : Int32) (u : Sg) : Option Int32 := bnd (x4 + 1) (fun v10 => K22 x1 x2 x3 v10)
noncomputable def fX0_waitsOf_70 (K22 : Int32 → Int32 → Int32 → Int32 → Option Int32) (x1 : Int32) (x3 : Int32) (x4 : Int32) (x5 : Int32) (t0 : Int32) (u : Sg) : Option Int32 := grd (vp_in x5 120) (bnd (t0 ||| (x3 &&& ((u 27 ((x5 : Int32).toNatClampNeg)) ^^^ (-1)))) (fun v16 => fX0_waitsOf_86 K22 x1 v16 x3 x4 u))
noncomputable def fX0_waitsOf_22 (u : Sg) : Nat → Int32 → Int32 → Int32 → Int32 → Option Int32
  | 0, _, _, _, _ => none
  | n + 1, x1, x2, x3, x4 => cnd ((u 0 0) ≤ x4) (some x2) (bnd (fX11_spotOf x4 x1) (fun v6 => obr (fX7_isUp x4 u) (fun r8 => cnd (r8 = 0) (fX0_waitsOf_86 (fun a0 a1 a2 a3 => fX0_waitsOf_22 u n a0 a1 a2 a3) x1 x2 x3 x4 u) (obr (fX3_isOn v6 u) (fun r12 => cnd (r12 = 0) (fX0_waitsOf_86 (fun a0 a1 a2 a3 => fX0_waitsOf_22 u n a0 a1 a2 a3) x1 x2 x3 x4 u) (cnd (x2 = (-1)) (fX0_waitsOf_70 (fun a0 a1 a2 a3 => fX0_waitsOf_22 u n a0 a1 a2 a3) x1 x3 x4 v6 0 u) (fX0_waitsOf_70 (fun a0 a1 a2 a3 => fX0_waitsOf_22 u n a0 a1 a2 a3) x1 x3 x4 v6 x2 u)))))))
noncomputable def fX0_waitsOf_0 (x1 : Int32) (u : Sg) : Option Int32 := grd (vp_in x1 20) (obr (fX7_noticedNodes u) (fun r3 => bnd ((u 15 ((x1 : Int32).toNatClampNeg)) &&& (r3 ^^^ (-1))) (fun v4 => fX0_waitsOf_22 u FU x1 (-1) v4 0)))
noncomputable def fX0_waitsOf (x1 : Int32) (u : Sg) : Option Int32 := fX0_waitsOf_0 x1 u
set_option maxRecDepth 10000 in
set_option maxHeartbeats 4000000 in
theorem wX0_waitsOf_86 (C : cx D (tyl cI cB cL) A RX0 cX0_waitsOf 6 (some .int) p s m args c meth) (hR : 3 ≤ R.frames ∧ 64 ≤ R.locals) {r : Int32} (u : Sg) {K22 : Int32 → Int32 → Int32 → Int32 → Option Int32} (hK22 : ∀ (y1 : Int32) (y2 : Int32) (y3 : Int32) (y4 : Int32) (H : Heap) (locs : List Loc) (ls : Array Slot), lv_has ls 6 [(0, .ref (ad 0)), (1, .int y1), (2, .int y2), (3, .int y3), (4, .int y4)] → st D (wN cI ad pa pl) A s u H locs → K22 y1 y2 y3 y4 = some r → W p l e R s m args below meth c H locs 0 0 (MQ below (qI D (tyl cI cB cL) (wN cI ad pa pl) A r u) args s 0 0 A) (F0 m 22 ls [])) (x1 : Int32) (x2 : Int32) (x3 : Int32) (x4 : Int32) {H : Heap} {locs : List Loc} {ls : Array Slot} (hl : lv_has ls 6 [(0, .ref (ad 0)), (1, .int x1), (2, .int x2), (3, .int x3), (4, .int x4)]) (S : st D (wN cI ad pa pl) A s u H locs) (h : fX0_waitsOf_86 K22 x1 x2 x3 x4 u = some r) : W p l e R s m args below meth c H locs 0 0 (MQ below (qI D (tyl cI cB cL) (wN cI ad pa pl) A r u) args s 0 0 A) (F0 m 86 ls []) := by
  have hx := C.1
  have hb := C.2.1
  have hsz := hl.1
  unfold fX0_waitsOf_86 at h
  obtain ⟨v10, ev10⟩ : ∃ y : Int32, y = x4 + 1 := ⟨_, rfl⟩
  have h := bnd_of ev10 h
  refine lv_iinc (v := v10) (lv' := [(4, .int v10), (0, .ref (ad 0)), (1, .int x1), (2, .int x2), (3, .int x3)]) hx hb dX0_waitsOf_86 hl (k := 4) rfl (by rw [ev10]; rfl) (by decide) rfl (fun ls hl => ?_)
  have hsz := hl.1
  refine lv_goto (tgt := 22) hx hb dX0_waitsOf_89 (by decide) ?_
  exact hK22 x1 x2 x3 v10 H locs ls (lv_sub hl [1, 2, 3, 4, 0] rfl) S h
set_option maxRecDepth 10000 in
set_option maxHeartbeats 4000000 in
theorem wX0_waitsOf_70 (C : cx D (tyl cI cB cL) A RX0 cX0_waitsOf 6 (some .int) p s m args c meth) (hR : 3 ≤ R.frames ∧ 64 ≤ R.locals) {r : Int32} (u : Sg) {K22 : Int32 → Int32 → Int32 → Int32 → Option Int32} (hK22 : ∀ (y1 : Int32) (y2 : Int32) (y3 : Int32) (y4 : Int32) (H : Heap) (locs : List Loc) (ls : Array Slot), lv_has ls 6 [(0, .ref (ad 0)), (1, .int y1), (2, .int y2), (3, .int y3), (4, .int y4)] → st D (wN cI ad pa pl) A s u H locs → K22 y1 y2 y3 y4 = some r → W p l e R s m args below meth c H locs 0 0 (MQ below (qI D (tyl cI cB cL) (wN cI ad pa pl) A r u) args s 0 0 A) (F0 m 22 ls [])) (x1 : Int32) (x3 : Int32) (x4 : Int32) (x5 : Int32) (t0 : Int32) {H : Heap} {locs : List Loc} {ls : Array Slot} (hl : lv_has ls 6 [(0, .ref (ad 0)), (1, .int x1), (3, .int x3), (4, .int x4), (5, .int x5)]) (S : st D (wN cI ad pa pl) A s u H locs) (h : fX0_waitsOf_70 K22 x1 x3 x4 x5 t0 u = some r) : W p l e R s m args below meth c H locs 0 0 (MQ below (qI D (tyl cI cB cL) (wN cI ad pa pl) A r u) args s 0 0 A) (F0 m 70 ls [.int t0]) := by
  have hx := C.1
  have hb := C.2.1
  have hsz := hl.1
  unfold fX0_waitsOf_70 at h
  refine lv_iload_n hx hb dX0_waitsOf_70 rfl (lv_at hl 2 rfl) ?_
  refine lv_aload_n hx hb dX0_waitsOf_71 rfl (lv_at hl 0 rfl) ?_
  refine q_get (v := .ref (ad 26)) C S (oN0 cI ad pa pl) rfl iwX7 16 (by decide) mw_324 rfl dX0_waitsOf_72 ?_
  refine q_get (v := .ref (ad 27)) C S (oN26 cI ad pa pl) rfl iwX3 0 (by decide) mw_358 rfl dX0_waitsOf_75 ?_
  refine lv_iload hx hb dX0_waitsOf_78 (lv_at hl 4 rfl) ?_
  obtain ⟨g15, h⟩ := grd_some h
  refine q_iald C S (aN27 cI ad pa pl) 0 rfl g15 dX0_waitsOf_80 (j := (x5 : Int32).toNatClampNeg) rfl ?_
  refine lv_iconst (v := (-1)) hx hb dX0_waitsOf_81 (by decide) ?_
  refine lv_ixor hx hb dX0_waitsOf_82 ?_
  refine lv_iand hx hb dX0_waitsOf_83 ?_
  refine lv_ior hx hb dX0_waitsOf_84 ?_
  refine lv_topi (fun v16 ev16 => ?_)
  have h := bnd_of ev16 h
  refine lv_istore_n (lv' := [(2, .int v16), (0, .ref (ad 0)), (1, .int x1), (3, .int x3), (4, .int x4), (5, .int x5)]) hx hb dX0_waitsOf_85 rfl hl (by decide) rfl (fun ls hl => ?_)
  have hsz := hl.1
  exact wX0_waitsOf_86 C hR u hK22 x1 v16 x3 x4 (lv_sub hl [1, 2, 0, 3, 4] rfl) S h
set_option maxRecDepth 10000 in
set_option maxHeartbeats 4000000 in
theorem wX0_waitsOf_22 (C : cx D (tyl cI cB cL) A RX0 cX0_waitsOf 6 (some .int) p s m args c meth) (hR : 3 ≤ R.frames ∧ 64 ≤ R.locals) {r : Int32} (u : Sg) : ∀ (n : Nat) (x1 : Int32) (x2 : Int32) (x3 : Int32) (x4 : Int32) (H : Heap) (locs : List Loc) (ls : Array Slot), lv_has ls 6 [(0, .ref (ad 0)), (1, .int x1), (2, .int x2), (3, .int x3), (4, .int x4)] → st D (wN cI ad pa pl) A s u H locs → fX0_waitsOf_22 u n x1 x2 x3 x4 = some r → W p l e R s m args below meth c H locs 0 0 (MQ below (qI D (tyl cI cB cL) (wN cI ad pa pl) A r u) args s 0 0 A) (F0 m 22 ls []) := by
  have hx := C.1
  have hb := C.2.1
  intro n
  induction n with
  | zero =>
    intro x1 x2 x3 x4 H locs ls hl S h
    cases h
  | succ n ih =>
    intro x1 x2 x3 x4 H locs ls hl S h
    rw [fX0_waitsOf_22] at h
    have hsz := hl.1
    refine lv_iload hx hb dX0_waitsOf_22 (lv_at hl 4 rfl) ?_
    refine lv_aload_n hx hb dX0_waitsOf_24 rfl (lv_at hl 0 rfl) ?_
    refine q_get (v := .int (u 0 0)) C S (oN0 cI ad pa pl) rfl iwX7 0 (by decide) mw_317 rfl dX0_waitsOf_25 ?_
    refine lv_icmp_ge (tgt := 92) hx hb dX0_waitsOf_28 (by decide) (fun c5 => ?_) (fun c5 => ?_)
    · have h := cnd_t c5 h
      refine lv_iload_n hx hb dX0_waitsOf_92 rfl (lv_at hl 2 rfl) ?_
      exact q_iret C S (rt_R h) dX0_waitsOf_93
    · have h := cnd_f c5 h
      refine lv_iload hx hb dX0_waitsOf_31 (lv_at hl 4 rfl) ?_
      refine lv_iload_n hx hb dX0_waitsOf_33 rfl (lv_at hl 1 rfl) ?_
      refine q_callPN (As := [.int x4, .int x1]) (na := 2) C S (ct_X11_spotOf l D cI cB cL x4 x1) (List.mem_of_getElem? (i := 2) rfl) mw_322 mw_321 mw_320 hdX11_spotOf ⟨Nat.le_trans (Nat.le_of_ble_eq_true rfl) hR.1, Nat.le_trans (Nat.le_of_ble_eq_true rfl) hR.2⟩ rfl hsz ⟨Nat.zero_le _, Nat.zero_le _⟩ (Nat.le_of_ble_eq_true rfl) dX0_waitsOf_34 rfl (fun H locs S => ?_)
      refine lv_topi (fun v6 ev6 => ?_)
      have h := bnd_of ev6 h
      refine lv_istore (lv' := [(5, .int v6), (0, .ref (ad 0)), (1, .int x1), (2, .int x2), (3, .int x3), (4, .int x4)]) hx hb dX0_waitsOf_37 hl (by decide) rfl (fun ls hl => ?_)
      have hsz := hl.1
      refine lv_aload_n hx hb dX0_waitsOf_39 rfl (lv_at hl 1 rfl) ?_
      refine lv_iload hx hb dX0_waitsOf_40 (lv_at hl 5 rfl) ?_
      obtain ⟨r8, h7, h⟩ := obr_some h
      refine q_callVi (As := [.int x4]) (na := 1) C S (oN0 cI ad pa pl) rfl (ct_X7_isUp l D cI cB cL ad pa pl x4 u h7) mw_357 mw_342 mw_344 mw_341 mw_340 hdX7_isUp ⟨Nat.le_trans (Nat.le_of_ble_eq_true rfl) hR.1, Nat.le_trans (Nat.le_of_ble_eq_true rfl) hR.2⟩ rfl hsz ⟨Nat.zero_le _, Nat.zero_le _⟩ (Nat.le_of_ble_eq_true rfl) dX0_waitsOf_42 rfl (fun H locs S => ?_)
      refine lv_if_eq (tgt := 86) hx hb dX0_waitsOf_45 (by decide) (fun c9 => ?_) (fun c9 => ?_)
      · have h := cnd_t c9 h
        exact wX0_waitsOf_86 C hR u ih x1 x2 x3 x4 (lv_sub hl [1, 2, 3, 4, 5] rfl) S h
      · have h := cnd_f c9 h
        refine lv_aload_n hx hb dX0_waitsOf_48 rfl (lv_at hl 1 rfl) ?_
        refine q_get (v := .ref (ad 26)) C S (oN0 cI ad pa pl) rfl iwX7 16 (by decide) mw_324 rfl dX0_waitsOf_49 ?_
        refine lv_iload hx hb dX0_waitsOf_52 (lv_at hl 0 rfl) ?_
        obtain ⟨r12, h11, h⟩ := obr_some h
        refine q_callVi (As := [.int v6]) (na := 1) C S (oN26 cI ad pa pl) rfl (ct_X3_isOn l D cI cB cL ad pa pl v6 u h11) mw_328 mw_327 mw_329 mw_326 mw_325 hdX3_isOn ⟨Nat.le_trans (Nat.le_of_ble_eq_true rfl) hR.1, Nat.le_trans (Nat.le_of_ble_eq_true rfl) hR.2⟩ rfl hsz ⟨Nat.zero_le _, Nat.zero_le _⟩ (Nat.le_of_ble_eq_true rfl) dX0_waitsOf_54 rfl (fun H locs S => ?_)
        refine lv_if_eq (tgt := 86) hx hb dX0_waitsOf_57 (by decide) (fun c13 => ?_) (fun c13 => ?_)
        · have h := cnd_t c13 h
          exact wX0_waitsOf_86 C hR u ih x1 x2 x3 x4 (lv_sub hl [1, 2, 3, 4, 5] rfl) S h
        · have h := cnd_f c13 h
          refine lv_iload_n hx hb dX0_waitsOf_60 rfl (lv_at hl 3 rfl) ?_
          refine lv_iconst (v := (-1)) hx hb dX0_waitsOf_61 (by decide) ?_
          refine lv_icmp_ne (tgt := 69) hx hb dX0_waitsOf_62 (by decide) (fun c14 => ?_) (fun c14 => ?_)
          · have h := cnd_f c14 h
            refine lv_iload_n hx hb dX0_waitsOf_69 rfl (lv_at hl 3 rfl) ?_
            exact wX0_waitsOf_70 C hR u ih x1 x3 x4 v6 x2 (lv_sub hl [1, 2, 4, 5, 0] rfl) S h
          · have h := cnd_t c14 h
            refine lv_iconst (v := 0) hx hb dX0_waitsOf_65 (by decide) ?_
            refine lv_goto (tgt := 70) hx hb dX0_waitsOf_66 (by decide) ?_
            exact wX0_waitsOf_70 C hR u ih x1 x3 x4 v6 0 (lv_sub hl [1, 2, 4, 5, 0] rfl) S h
set_option maxRecDepth 10000 in
set_option maxHeartbeats 4000000 in
theorem wX0_waitsOf_0 (C : cx D (tyl cI cB cL) A RX0 cX0_waitsOf 6 (some .int) p s m args c meth) (hR : 3 ≤ R.frames ∧ 64 ≤ R.locals) {r : Int32} (u : Sg) (x1 : Int32) {H : Heap} {locs : List Loc} {ls : Array Slot} (hl : lv_has ls 6 [(0, .ref (ad 0)), (1, .int x1)]) (S : st D (wN cI ad pa pl) A s u H locs) (h : fX0_waitsOf_0 x1 u = some r) : W p l e R s m args below meth c H locs 0 0 (MQ below (qI D (tyl cI cB cL) (wN cI ad pa pl) A r u) args s 0 0 A) (F0 m 0 ls []) := by
  have hx := C.1
  have hb := C.2.1
  have hsz := hl.1
  unfold fX0_waitsOf_0 at h
  refine lv_iconst (v := (-1)) hx hb dX0_waitsOf_0 (by decide) ?_
  refine lv_istore_n (lv' := [(2, .int (-1)), (0, .ref (ad 0)), (1, .int x1)]) hx hb dX0_waitsOf_1 rfl hl (by decide) rfl (fun ls hl => ?_)
  have hsz := hl.1
  refine lv_aload_n hx hb dX0_waitsOf_2 rfl (lv_at hl 1 rfl) ?_
  refine q_get (v := .ref (ad 13)) C S (oN0 cI ad pa pl) rfl iwX7 14 (by decide) mw_336 rfl dX0_waitsOf_3 ?_
  refine q_get (v := .ref (ad 15)) C S (oN13 cI ad pa pl) rfl iwX6 2 (by decide) mw_352 rfl dX0_waitsOf_6 ?_
  refine lv_iload_n hx hb dX0_waitsOf_9 rfl (lv_at hl 2 rfl) ?_
  obtain ⟨g1, h⟩ := grd_some h
  refine q_iald C S (aN15 cI ad pa pl) 0 rfl g1 dX0_waitsOf_10 (j := (x1 : Int32).toNatClampNeg) rfl ?_
  refine lv_aload_n hx hb dX0_waitsOf_11 rfl (lv_at hl 1 rfl) ?_
  obtain ⟨r3, h2, h⟩ := obr_some h
  refine q_callVi (As := []) (na := 0) C S (oN0 cI ad pa pl) rfl (ct_X7_noticedNodes l D cI cB cL ad pa pl u h2) mw_355 mw_354 mw_356 mw_341 mw_353 hdX7_noticedNodes ⟨Nat.le_trans (Nat.le_of_ble_eq_true rfl) hR.1, Nat.le_trans (Nat.le_of_ble_eq_true rfl) hR.2⟩ rfl hsz ⟨Nat.zero_le _, Nat.zero_le _⟩ (Nat.le_of_ble_eq_true rfl) dX0_waitsOf_12 rfl (fun H locs S => ?_)
  refine lv_iconst (v := (-1)) hx hb dX0_waitsOf_15 (by decide) ?_
  refine lv_ixor hx hb dX0_waitsOf_16 ?_
  refine lv_iand hx hb dX0_waitsOf_17 ?_
  refine lv_topi (fun v4 ev4 => ?_)
  have h := bnd_of ev4 h
  refine lv_istore_n (lv' := [(3, .int v4), (2, .int (-1)), (0, .ref (ad 0)), (1, .int x1)]) hx hb dX0_waitsOf_18 rfl hl (by decide) rfl (fun ls hl => ?_)
  have hsz := hl.1
  refine lv_iconst (v := 0) hx hb dX0_waitsOf_19 (by decide) ?_
  refine lv_istore (lv' := [(4, .int 0), (3, .int v4), (2, .int (-1)), (0, .ref (ad 0)), (1, .int x1)]) hx hb dX0_waitsOf_20 hl (by decide) rfl (fun ls hl => ?_)
  have hsz := hl.1
  exact wX0_waitsOf_22 C hR u FU x1 (-1) v4 0 H locs ls (lv_sub hl [3, 4, 2, 1, 0] rfl) S h
set_option maxRecDepth 10000 in
set_option maxHeartbeats 4000000 in
theorem ct_X0_waitsOf (l : Launch) (D : va_G) (cI cB cL : ClassId) (ad : Nat → Nat) (pa pl : Nat) (x1 : Int32) (u : Sg) {r : Int32} (h : fX0_waitsOf x1 u = some r) : metI l D (tyl cI cB cL) yX0_waitsOf cX0_waitsOf 6 (some .int) 3 64 (wN cI ad pa pl) [.ref (ad 0), .int x1] u r u := by
  intro sz
  refine Met.ofW (cc := cX0_waitsOf) (maxL := 6) (ret := (some .int)) (by decide) rfl ?_
  intro p e s m args below meth c s₁ B hml hv
  obtain ⟨rfl, C, S⟩ := q_entry B hml hv
  have hl := lv_entry ([.ref (ad 0), .int x1]) (n := 6) (Nat.le_of_ble_eq_true rfl)
  rw [lg_entry_eq]
  generalize (lg_sl ([.ref (ad 0), .int x1]) ++ List.replicate (6 - (lg_sl ([.ref (ad 0), .int x1])).length) Slot.unset).toArray = ls at hl ⊢
  exact wX0_waitsOf_0 C ⟨Nat.le_refl _, Nat.le_refl _⟩ u x1 (lv_sub hl [0, 1] rfl) S h
noncomputable def fX0_leastOf_9 (u : Sg) : Nat → Int32 → Int32 → Option Int32
  | 0, _, _ => none
  | n + 1, x0, x1 => cnd (6 ≤ x1) (some (-1)) (cnd ((fX11_isIn x0 x1) = 0) (bnd (x1 + 1) (fun v4 => fX0_leastOf_9 u n x0 v4)) (some x1))
noncomputable def fX0_leastOf_0 (x0 : Int32) (u : Sg) : Option Int32 := cnd (x0 = (-1)) (some (-1)) (fX0_leastOf_9 u FU x0 0)
noncomputable def fX0_leastOf (x0 : Int32) (u : Sg) : Option Int32 := fX0_leastOf_0 x0 u
set_option maxRecDepth 10000 in
set_option maxHeartbeats 4000000 in
theorem wX0_leastOf_9 (C : cx D (tyl cI cB cL) A RX0 cX0_leastOf 2 (some .int) p s m args c meth) (hR : 1 ≤ R.frames ∧ 21 ≤ R.locals) {r : Int32} (u : Sg) : ∀ (n : Nat) (x0 : Int32) (x1 : Int32) (H : Heap) (locs : List Loc) (ls : Array Slot), lv_has ls 2 [(0, .int x0), (1, .int x1)] → st D (wN cI ad pa pl) A s u H locs → fX0_leastOf_9 u n x0 x1 = some r → W p l e R s m args below meth c H locs 0 0 (MQ below (qI D (tyl cI cB cL) (wN cI ad pa pl) A r u) args s 0 0 A) (F0 m 9 ls []) := by
  have hx := C.1
  have hb := C.2.1
  intro n
  induction n with
  | zero =>
    intro x0 x1 H locs ls hl S h
    cases h
  | succ n ih =>
    intro x0 x1 H locs ls hl S h
    rw [fX0_leastOf_9] at h
    have hsz := hl.1
    refine lv_iload_n hx hb dX0_leastOf_9 rfl (lv_at hl 1 rfl) ?_
    refine lv_bipush (v := 6) hx hb dX0_leastOf_10 (by decide) ?_
    refine lv_icmp_ge (tgt := 31) hx hb dX0_leastOf_12 (by decide) (fun c2 => ?_) (fun c2 => ?_)
    · have h := cnd_t c2 h
      refine lv_iconst (v := (-1)) hx hb dX0_leastOf_31 (by decide) ?_
      exact q_iret C S (rt_R h) dX0_leastOf_32
    · have h := cnd_f c2 h
      refine lv_iload_n hx hb dX0_leastOf_15 rfl (lv_at hl 0 rfl) ?_
      refine lv_iload_n hx hb dX0_leastOf_16 rfl (lv_at hl 1 rfl) ?_
      refine q_callPN (As := [.int x0, .int x1]) (na := 2) C S (ct_X11_isIn l D cI cB cL x0 x1) (List.mem_of_getElem? (i := 3) rfl) mw_360 mw_321 mw_359 hdX11_isIn ⟨Nat.le_trans (Nat.le_of_ble_eq_true rfl) hR.1, Nat.le_trans (Nat.le_of_ble_eq_true rfl) hR.2⟩ rfl hsz ⟨Nat.zero_le _, Nat.zero_le _⟩ (Nat.le_of_ble_eq_true rfl) dX0_leastOf_17 rfl (fun H locs S => ?_)
      refine lv_if_eq (tgt := 25) hx hb dX0_leastOf_20 (by decide) (fun c3 => ?_) (fun c3 => ?_)
      · have h := cnd_t c3 h
        obtain ⟨v4, ev4⟩ : ∃ y : Int32, y = x1 + 1 := ⟨_, rfl⟩
        have h := bnd_of ev4 h
        refine lv_iinc (v := v4) (lv' := [(1, .int v4), (0, .int x0)]) hx hb dX0_leastOf_25 hl (k := 1) rfl (by rw [ev4]; rfl) (by decide) rfl (fun ls hl => ?_)
        have hsz := hl.1
        refine lv_goto (tgt := 9) hx hb dX0_leastOf_28 (by decide) ?_
        exact ih x0 v4 H locs ls (lv_sub hl [1, 0] rfl) S h
      · have h := cnd_f c3 h
        refine lv_iload_n hx hb dX0_leastOf_23 rfl (lv_at hl 1 rfl) ?_
        exact q_iret C S (rt_R h) dX0_leastOf_24
set_option maxRecDepth 10000 in
set_option maxHeartbeats 4000000 in
theorem wX0_leastOf_0 (C : cx D (tyl cI cB cL) A RX0 cX0_leastOf 2 (some .int) p s m args c meth) (hR : 1 ≤ R.frames ∧ 21 ≤ R.locals) {r : Int32} (u : Sg) (x0 : Int32) {H : Heap} {locs : List Loc} {ls : Array Slot} (hl : lv_has ls 2 [(0, .int x0)]) (S : st D (wN cI ad pa pl) A s u H locs) (h : fX0_leastOf_0 x0 u = some r) : W p l e R s m args below meth c H locs 0 0 (MQ below (qI D (tyl cI cB cL) (wN cI ad pa pl) A r u) args s 0 0 A) (F0 m 0 ls []) := by
  have hx := C.1
  have hb := C.2.1
  have hsz := hl.1
  unfold fX0_leastOf_0 at h
  refine lv_iload_n hx hb dX0_leastOf_0 rfl (lv_at hl 0 rfl) ?_
  refine lv_iconst (v := (-1)) hx hb dX0_leastOf_1 (by decide) ?_
  refine lv_icmp_ne (tgt := 7) hx hb dX0_leastOf_2 (by decide) (fun c1 => ?_) (fun c1 => ?_)
  · have h := cnd_f c1 h
    refine lv_iconst (v := 0) hx hb dX0_leastOf_7 (by decide) ?_
    refine lv_istore_n (lv' := [(1, .int 0), (0, .int x0)]) hx hb dX0_leastOf_8 rfl hl (by decide) rfl (fun ls hl => ?_)
    have hsz := hl.1
    exact wX0_leastOf_9 C hR u FU x0 0 H locs ls (lv_sub hl [1, 0] rfl) S h
  · have h := cnd_t c1 h
    refine lv_iconst (v := (-1)) hx hb dX0_leastOf_5 (by decide) ?_
    exact q_iret C S (rt_R h) dX0_leastOf_6
set_option maxRecDepth 10000 in
set_option maxHeartbeats 4000000 in
theorem ct_X0_leastOf (l : Launch) (D : va_G) (cI cB cL : ClassId) (ad : Nat → Nat) (pa pl : Nat) (x0 : Int32) (u : Sg) {r : Int32} (h : fX0_leastOf x0 u = some r) : metI l D (tyl cI cB cL) yX0_leastOf cX0_leastOf 2 (some .int) 1 21 (wN cI ad pa pl) [.int x0] u r u := by
  intro sz
  refine Met.ofW (cc := cX0_leastOf) (maxL := 2) (ret := (some .int)) (by decide) rfl ?_
  intro p e s m args below meth c s₁ B hml hv
  obtain ⟨rfl, C, S⟩ := q_entry B hml hv
  have hl := lv_entry ([.int x0]) (n := 2) (Nat.le_of_ble_eq_true rfl)
  rw [lg_entry_eq]
  generalize (lg_sl ([.int x0]) ++ List.replicate (2 - (lg_sl ([.int x0])).length) Slot.unset).toArray = ls at hl ⊢
  exact wX0_leastOf_0 C ⟨Nat.le_refl _, Nat.le_refl _⟩ u x0 (lv_sub hl [0] rfl) S h
noncomputable def fX0_chainAt_83 (K16 : Int32 → Int32 → Int32 → Int32 → Int32 → Option Int32) (x1 : Int32) (x3 : Int32) (x4 : Int32) (x5 : Int32) (x6 : Int32) (t0 : Int32) (u : Sg) : Option Int32 := obr (fX0_blockOf t0 x5 u) (fun r15 => bnd (x6 + 1) (fun v16 => K16 x1 x3 x4 r15 v16))
noncomputable def fX0_chainAt_16 (u : Sg) : Nat → Int32 → Int32 → Int32 → Int32 → Int32 → Option Int32
  | 0, _, _, _, _, _ => none
  | n + 1, x1, x3, x4, x5, x6 => cnd (20 ≤ x6) (some (-1)) (cnd (x5 = (-1)) (some (-1)) (cnd ((fX11_isIn x4 x5) = 0) (cnd (x6 = x3) (some x5) (bnd (x4 ||| ((1 : Int32) <<< ((x5 &&& 31 : Int32)))) (fun v8 => obr (fX0_waitsOf x5 u) (fun r10 => obr (fX0_leastOf r10 u) (fun r12 => cnd (r12 = (-1)) (fX0_chainAt_83 (fun a0 a1 a2 a3 a4 => fX0_chainAt_16 u n a0 a1 a2 a3 a4) x1 x3 v8 x5 x6 x1 u) (fX0_chainAt_83 (fun a0 a1 a2 a3 a4 => fX0_chainAt_16 u n a0 a1 a2 a3 a4) x1 x3 v8 x5 x6 r12 u)))))) (some (-1))))
noncomputable def fX0_chainAt_0 (x1 : Int32) (x2 : Int32) (x3 : Int32) (u : Sg) : Option Int32 := bnd ((1 : Int32) <<< ((x2 &&& 31 : Int32))) (fun v1 => obr (fX0_blockOf x1 x2 u) (fun r3 => fX0_chainAt_16 u FU x1 x3 v1 r3 0))
noncomputable def fX0_chainAt (x1 : Int32) (x2 : Int32) (x3 : Int32) (u : Sg) : Option Int32 := fX0_chainAt_0 x1 x2 x3 u
set_option maxRecDepth 10000 in
set_option maxHeartbeats 4000000 in
theorem wX0_chainAt_83 (C : cx D (tyl cI cB cL) A RX0 cX0_chainAt 8 (some .int) p s m args c meth) (hR : 4 ≤ R.frames ∧ 89 ≤ R.locals) {r : Int32} (u : Sg) {K16 : Int32 → Int32 → Int32 → Int32 → Int32 → Option Int32} (hK16 : ∀ (y1 : Int32) (y3 : Int32) (y4 : Int32) (y5 : Int32) (y6 : Int32) (H : Heap) (locs : List Loc) (ls : Array Slot), lv_has ls 8 [(0, .ref (ad 0)), (1, .int y1), (3, .int y3), (4, .int y4), (5, .int y5), (6, .int y6)] → st D (wN cI ad pa pl) A s u H locs → K16 y1 y3 y4 y5 y6 = some r → W p l e R s m args below meth c H locs 0 0 (MQ below (qI D (tyl cI cB cL) (wN cI ad pa pl) A r u) args s 0 0 A) (F0 m 16 ls [])) (x1 : Int32) (x3 : Int32) (x4 : Int32) (x5 : Int32) (x6 : Int32) (t0 : Int32) {H : Heap} {locs : List Loc} {ls : Array Slot} (hl : lv_has ls 8 [(0, .ref (ad 0)), (1, .int x1), (3, .int x3), (4, .int x4), (5, .int x5), (6, .int x6)]) (S : st D (wN cI ad pa pl) A s u H locs) (h : fX0_chainAt_83 K16 x1 x3 x4 x5 x6 t0 u = some r) : W p l e R s m args below meth c H locs 0 0 (MQ below (qI D (tyl cI cB cL) (wN cI ad pa pl) A r u) args s 0 0 A) (F0 m 83 ls [.int t0, .ref (ad 0)]) := by
  have hx := C.1
  have hb := C.2.1
  have hsz := hl.1
  unfold fX0_chainAt_83 at h
  refine lv_iload hx hb dX0_chainAt_83 (lv_at hl 4 rfl) ?_
  obtain ⟨r15, h14, h⟩ := obr_some h
  refine q_callSi (As := [.ref (ad 0), .int t0, .int x5]) (na := 3) C S (ct_X0_blockOf l D cI cB cL ad pa pl t0 x5 u h14) mw_364 mw_363 mw_362 mw_361 hdX0_blockOf ⟨Nat.le_trans (Nat.le_of_ble_eq_true rfl) hR.1, Nat.le_trans (Nat.le_of_ble_eq_true rfl) hR.2⟩ rfl hsz ⟨Nat.zero_le _, Nat.zero_le _⟩ (Nat.le_of_ble_eq_true rfl) dX0_chainAt_85 rfl (fun H locs S => ?_)
  refine lv_istore (lv' := [(5, .int r15), (0, .ref (ad 0)), (1, .int x1), (3, .int x3), (4, .int x4), (6, .int x6)]) hx hb dX0_chainAt_88 hl (by decide) rfl (fun ls hl => ?_)
  have hsz := hl.1
  obtain ⟨v16, ev16⟩ : ∃ y : Int32, y = x6 + 1 := ⟨_, rfl⟩
  have h := bnd_of ev16 h
  refine lv_iinc (v := v16) (lv' := [(6, .int v16), (5, .int r15), (0, .ref (ad 0)), (1, .int x1), (3, .int x3), (4, .int x4)]) hx hb dX0_chainAt_90 hl (k := 5) rfl (by rw [ev16]; rfl) (by decide) rfl (fun ls hl => ?_)
  have hsz := hl.1
  refine lv_goto (tgt := 16) hx hb dX0_chainAt_93 (by decide) ?_
  exact hK16 x1 x3 x4 r15 v16 H locs ls (lv_sub hl [2, 3, 4, 5, 1, 0] rfl) S h
set_option maxRecDepth 10000 in
set_option maxHeartbeats 4000000 in
theorem wX0_chainAt_16 (C : cx D (tyl cI cB cL) A RX0 cX0_chainAt 8 (some .int) p s m args c meth) (hR : 4 ≤ R.frames ∧ 89 ≤ R.locals) {r : Int32} (u : Sg) : ∀ (n : Nat) (x1 : Int32) (x3 : Int32) (x4 : Int32) (x5 : Int32) (x6 : Int32) (H : Heap) (locs : List Loc) (ls : Array Slot), lv_has ls 8 [(0, .ref (ad 0)), (1, .int x1), (3, .int x3), (4, .int x4), (5, .int x5), (6, .int x6)] → st D (wN cI ad pa pl) A s u H locs → fX0_chainAt_16 u n x1 x3 x4 x5 x6 = some r → W p l e R s m args below meth c H locs 0 0 (MQ below (qI D (tyl cI cB cL) (wN cI ad pa pl) A r u) args s 0 0 A) (F0 m 16 ls []) := by
  have hx := C.1
  have hb := C.2.1
  intro n
  induction n with
  | zero =>
    intro x1 x3 x4 x5 x6 H locs ls hl S h
    cases h
  | succ n ih =>
    intro x1 x3 x4 x5 x6 H locs ls hl S h
    rw [fX0_chainAt_16] at h
    have hsz := hl.1
    refine lv_iload hx hb dX0_chainAt_16 (lv_at hl 5 rfl) ?_
    refine lv_bipush (v := 20) hx hb dX0_chainAt_18 (by decide) ?_
    refine lv_icmp_ge (tgt := 96) hx hb dX0_chainAt_20 (by decide) (fun c4 => ?_) (fun c4 => ?_)
    · have h := cnd_t c4 h
      refine lv_iconst (v := (-1)) hx hb dX0_chainAt_96 (by decide) ?_
      exact q_iret C S (rt_R h) dX0_chainAt_97
    · have h := cnd_f c4 h
      refine lv_iload hx hb dX0_chainAt_23 (lv_at hl 4 rfl) ?_
      refine lv_iconst (v := (-1)) hx hb dX0_chainAt_25 (by decide) ?_
      refine lv_icmp_eq (tgt := 39) hx hb dX0_chainAt_26 (by decide) (fun c5 => ?_) (fun c5 => ?_)
      · have h := cnd_t c5 h
        refine lv_iconst (v := (-1)) hx hb dX0_chainAt_39 (by decide) ?_
        exact q_iret C S (rt_R h) dX0_chainAt_40
      · have h := cnd_f c5 h
        refine lv_iload hx hb dX0_chainAt_29 (lv_at hl 3 rfl) ?_
        refine lv_iload hx hb dX0_chainAt_31 (lv_at hl 4 rfl) ?_
        refine q_callPN (As := [.int x4, .int x5]) (na := 2) C S (ct_X11_isIn l D cI cB cL x4 x5) (List.mem_of_getElem? (i := 3) rfl) mw_360 mw_321 mw_359 hdX11_isIn ⟨Nat.le_trans (Nat.le_of_ble_eq_true rfl) hR.1, Nat.le_trans (Nat.le_of_ble_eq_true rfl) hR.2⟩ rfl hsz ⟨Nat.zero_le _, Nat.zero_le _⟩ (Nat.le_of_ble_eq_true rfl) dX0_chainAt_33 rfl (fun H locs S => ?_)
        refine lv_if_eq (tgt := 41) hx hb dX0_chainAt_36 (by decide) (fun c6 => ?_) (fun c6 => ?_)
        · have h := cnd_t c6 h
          refine lv_iload hx hb dX0_chainAt_41 (lv_at hl 5 rfl) ?_
          refine lv_iload_n hx hb dX0_chainAt_43 rfl (lv_at hl 2 rfl) ?_
          refine lv_icmp_ne (tgt := 50) hx hb dX0_chainAt_44 (by decide) (fun c7 => ?_) (fun c7 => ?_)
          · have h := cnd_f c7 h
            refine lv_iload hx hb dX0_chainAt_50 (lv_at hl 3 rfl) ?_
            refine lv_iconst (v := 1) hx hb dX0_chainAt_52 (by decide) ?_
            refine lv_iload hx hb dX0_chainAt_53 (lv_at hl 4 rfl) ?_
            refine lv_ishl hx hb dX0_chainAt_55 ?_
            refine lv_ior hx hb dX0_chainAt_56 ?_
            refine lv_topi (fun v8 ev8 => ?_)
            have h := bnd_of ev8 h
            refine lv_istore (lv' := [(4, .int v8), (0, .ref (ad 0)), (1, .int x1), (3, .int x3), (5, .int x5), (6, .int x6)]) hx hb dX0_chainAt_57 hl (by decide) rfl (fun ls hl => ?_)
            have hsz := hl.1
            refine lv_aload_n hx hb dX0_chainAt_59 rfl (lv_at hl 1 rfl) ?_
            refine lv_iload hx hb dX0_chainAt_60 (lv_at hl 4 rfl) ?_
            obtain ⟨r10, h9, h⟩ := obr_some h
            refine q_callSi (As := [.ref (ad 0), .int x5]) (na := 2) C S (ct_X0_waitsOf l D cI cB cL ad pa pl x5 u h9) mw_367 mw_366 mw_362 mw_365 hdX0_waitsOf ⟨Nat.le_trans (Nat.le_of_ble_eq_true rfl) hR.1, Nat.le_trans (Nat.le_of_ble_eq_true rfl) hR.2⟩ rfl hsz ⟨Nat.zero_le _, Nat.zero_le _⟩ (Nat.le_of_ble_eq_true rfl) dX0_chainAt_62 rfl (fun H locs S => ?_)
            obtain ⟨r12, h11, h⟩ := obr_some h
            refine q_callSi (As := [.int r10]) (na := 1) C S (ct_X0_leastOf l D cI cB cL ad pa pl r10 u h11) mw_370 mw_369 mw_362 mw_368 hdX0_leastOf ⟨Nat.le_trans (Nat.le_of_ble_eq_true rfl) hR.1, Nat.le_trans (Nat.le_of_ble_eq_true rfl) hR.2⟩ rfl hsz ⟨Nat.zero_le _, Nat.zero_le _⟩ (Nat.le_of_ble_eq_true rfl) dX0_chainAt_65 rfl (fun H locs S => ?_)
            refine lv_istore (lv' := [(7, .int r12), (4, .int v8), (0, .ref (ad 0)), (1, .int x1), (3, .int x3), (5, .int x5), (6, .int x6)]) hx hb dX0_chainAt_68 hl (by decide) rfl (fun ls hl => ?_)
            have hsz := hl.1
            refine lv_aload_n hx hb dX0_chainAt_70 rfl (lv_at hl 2 rfl) ?_
            refine lv_iload hx hb dX0_chainAt_71 (lv_at hl 0 rfl) ?_
            refine lv_iconst (v := (-1)) hx hb dX0_chainAt_73 (by decide) ?_
            refine lv_icmp_ne (tgt := 81) hx hb dX0_chainAt_74 (by decide) (fun c13 => ?_) (fun c13 => ?_)
            · have h := cnd_f c13 h
              refine lv_iload hx hb dX0_chainAt_81 (lv_at hl 0 rfl) ?_
              exact wX0_chainAt_83 C hR u ih x1 x3 v8 x5 x6 r12 (lv_sub hl [2, 3, 4, 1, 5, 6] rfl) S h
            · have h := cnd_t c13 h
              refine lv_iload_n hx hb dX0_chainAt_77 rfl (lv_at hl 3 rfl) ?_
              refine lv_goto (tgt := 83) hx hb dX0_chainAt_78 (by decide) ?_
              exact wX0_chainAt_83 C hR u ih x1 x3 v8 x5 x6 x1 (lv_sub hl [2, 3, 4, 1, 5, 6] rfl) S h
          · have h := cnd_t c7 h
            refine lv_iload hx hb dX0_chainAt_47 (lv_at hl 4 rfl) ?_
            exact q_iret C S (rt_R h) dX0_chainAt_49
        · have h := cnd_f c6 h
          refine lv_iconst (v := (-1)) hx hb dX0_chainAt_39 (by decide) ?_
          exact q_iret C S (rt_R h) dX0_chainAt_40
set_option maxRecDepth 10000 in
set_option maxHeartbeats 4000000 in
theorem wX0_chainAt_0 (C : cx D (tyl cI cB cL) A RX0 cX0_chainAt 8 (some .int) p s m args c meth) (hR : 4 ≤ R.frames ∧ 89 ≤ R.locals) {r : Int32} (u : Sg) (x1 : Int32) (x2 : Int32) (x3 : Int32) {H : Heap} {locs : List Loc} {ls : Array Slot} (hl : lv_has ls 8 [(0, .ref (ad 0)), (1, .int x1), (2, .int x2), (3, .int x3)]) (S : st D (wN cI ad pa pl) A s u H locs) (h : fX0_chainAt_0 x1 x2 x3 u = some r) : W p l e R s m args below meth c H locs 0 0 (MQ below (qI D (tyl cI cB cL) (wN cI ad pa pl) A r u) args s 0 0 A) (F0 m 0 ls []) := by
  have hx := C.1
  have hb := C.2.1
  have hsz := hl.1
  unfold fX0_chainAt_0 at h
  refine lv_iconst (v := 1) hx hb dX0_chainAt_0 (by decide) ?_
  refine lv_iload_n hx hb dX0_chainAt_1 rfl (lv_at hl 2 rfl) ?_
  refine lv_ishl hx hb dX0_chainAt_2 ?_
  refine lv_topi (fun v1 ev1 => ?_)
  have h := bnd_of ev1 h
  refine lv_istore (lv' := [(4, .int v1), (0, .ref (ad 0)), (1, .int x1), (2, .int x2), (3, .int x3)]) hx hb dX0_chainAt_3 hl (by decide) rfl (fun ls hl => ?_)
  have hsz := hl.1
  refine lv_aload_n hx hb dX0_chainAt_5 rfl (lv_at hl 1 rfl) ?_
  refine lv_iload_n hx hb dX0_chainAt_6 rfl (lv_at hl 2 rfl) ?_
  refine lv_iload_n hx hb dX0_chainAt_7 rfl (lv_at hl 3 rfl) ?_
  obtain ⟨r3, h2, h⟩ := obr_some h
  refine q_callSi (As := [.ref (ad 0), .int x1, .int x2]) (na := 3) C S (ct_X0_blockOf l D cI cB cL ad pa pl x1 x2 u h2) mw_364 mw_363 mw_362 mw_361 hdX0_blockOf ⟨Nat.le_trans (Nat.le_of_ble_eq_true rfl) hR.1, Nat.le_trans (Nat.le_of_ble_eq_true rfl) hR.2⟩ rfl hsz ⟨Nat.zero_le _, Nat.zero_le _⟩ (Nat.le_of_ble_eq_true rfl) dX0_chainAt_8 rfl (fun H locs S => ?_)
  refine lv_istore (lv' := [(5, .int r3), (4, .int v1), (0, .ref (ad 0)), (1, .int x1), (2, .int x2), (3, .int x3)]) hx hb dX0_chainAt_11 hl (by decide) rfl (fun ls hl => ?_)
  have hsz := hl.1
  refine lv_iconst (v := 0) hx hb dX0_chainAt_13 (by decide) ?_
  refine lv_istore (lv' := [(6, .int 0), (5, .int r3), (4, .int v1), (0, .ref (ad 0)), (1, .int x1), (2, .int x2), (3, .int x3)]) hx hb dX0_chainAt_14 hl (by decide) rfl (fun ls hl => ?_)
  have hsz := hl.1
  exact wX0_chainAt_16 C hR u FU x1 x3 v1 r3 0 H locs ls (lv_sub hl [3, 4, 6, 2, 1, 0] rfl) S h
set_option maxRecDepth 10000 in
set_option maxHeartbeats 4000000 in
theorem ct_X0_chainAt (l : Launch) (D : va_G) (cI cB cL : ClassId) (ad : Nat → Nat) (pa pl : Nat) (x1 : Int32) (x2 : Int32) (x3 : Int32) (u : Sg) {r : Int32} (h : fX0_chainAt x1 x2 x3 u = some r) : metI l D (tyl cI cB cL) yX0_chainAt cX0_chainAt 8 (some .int) 4 89 (wN cI ad pa pl) [.ref (ad 0), .int x1, .int x2, .int x3] u r u := by
  intro sz
  refine Met.ofW (cc := cX0_chainAt) (maxL := 8) (ret := (some .int)) (by decide) rfl ?_
  intro p e s m args below meth c s₁ B hml hv
  obtain ⟨rfl, C, S⟩ := q_entry B hml hv
  have hl := lv_entry ([.ref (ad 0), .int x1, .int x2, .int x3]) (n := 8) (Nat.le_of_ble_eq_true rfl)
  rw [lg_entry_eq]
  generalize (lg_sl ([.ref (ad 0), .int x1, .int x2, .int x3]) ++ List.replicate (8 - (lg_sl ([.ref (ad 0), .int x1, .int x2, .int x3])).length) Slot.unset).toArray = ls at hl ⊢
  exact wX0_chainAt_0 C ⟨Nat.le_refl _, Nat.le_refl _⟩ u x1 x2 x3 (lv_sub hl [0, 1, 2, 3] rfl) S h
noncomputable def fX7_upNodes_26 (K4 : Int32 → Int32 → Option Int32) (x1 : Int32) (x2 : Int32) (u : Sg) : Option Int32 := bnd (x2 + 1) (fun v5 => K4 x1 v5)
noncomputable def fX7_upNodes_4 (u : Sg) : Nat → Int32 → Int32 → Option Int32
  | 0, _, _ => none
  | n + 1, x1, x2 => cnd ((u 0 0) ≤ x2) (some x1) (obr (fX7_isUp x2 u) (fun r3 => cnd (r3 = 0) (fX7_upNodes_26 (fun a0 a1 => fX7_upNodes_4 u n a0 a1) x1 x2 u) (bnd (x1 ||| ((1 : Int32) <<< ((x2 &&& 31 : Int32)))) (fun v6 => fX7_upNodes_26 (fun a0 a1 => fX7_upNodes_4 u n a0 a1) v6 x2 u))))
noncomputable def fX7_upNodes_0 (u : Sg) : Option Int32 := fX7_upNodes_4 u FU 0 0
noncomputable def fX7_upNodes (u : Sg) : Option Int32 := fX7_upNodes_0 u
set_option maxRecDepth 10000 in
set_option maxHeartbeats 4000000 in
theorem wX7_upNodes_26 (C : cx D (tyl cI cB cL) A RX7 cX7_upNodes 3 (some .int) p s m args c meth) (hR : 1 ≤ R.frames ∧ 21 ≤ R.locals) {r : Int32} (u : Sg) {K4 : Int32 → Int32 → Option Int32} (hK4 : ∀ (y1 : Int32) (y2 : Int32) (H : Heap) (locs : List Loc) (ls : Array Slot), lv_has ls 3 [(0, .ref (ad 0)), (1, .int y1), (2, .int y2)] → st D (wN cI ad pa pl) A s u H locs → K4 y1 y2 = some r → W p l e R s m args below meth c H locs 0 0 (MQ below (qI D (tyl cI cB cL) (wN cI ad pa pl) A r u) args s 0 0 A) (F0 m 4 ls [])) (x1 : Int32) (x2 : Int32) {H : Heap} {locs : List Loc} {ls : Array Slot} (hl : lv_has ls 3 [(0, .ref (ad 0)), (1, .int x1), (2, .int x2)]) (S : st D (wN cI ad pa pl) A s u H locs) (h : fX7_upNodes_26 K4 x1 x2 u = some r) : W p l e R s m args below meth c H locs 0 0 (MQ below (qI D (tyl cI cB cL) (wN cI ad pa pl) A r u) args s 0 0 A) (F0 m 26 ls []) := by
  have hx := C.1
  have hb := C.2.1
  have hsz := hl.1
  unfold fX7_upNodes_26 at h
  obtain ⟨v5, ev5⟩ : ∃ y : Int32, y = x2 + 1 := ⟨_, rfl⟩
  have h := bnd_of ev5 h
  refine lv_iinc (v := v5) (lv' := [(2, .int v5), (0, .ref (ad 0)), (1, .int x1)]) hx hb dX7_upNodes_26 hl (k := 2) rfl (by rw [ev5]; rfl) (by decide) rfl (fun ls hl => ?_)
  have hsz := hl.1
  refine lv_goto (tgt := 4) hx hb dX7_upNodes_29 (by decide) ?_
  exact hK4 x1 v5 H locs ls (lv_sub hl [1, 2, 0] rfl) S h
set_option maxRecDepth 10000 in
set_option maxHeartbeats 4000000 in
theorem wX7_upNodes_4 (C : cx D (tyl cI cB cL) A RX7 cX7_upNodes 3 (some .int) p s m args c meth) (hR : 1 ≤ R.frames ∧ 21 ≤ R.locals) {r : Int32} (u : Sg) : ∀ (n : Nat) (x1 : Int32) (x2 : Int32) (H : Heap) (locs : List Loc) (ls : Array Slot), lv_has ls 3 [(0, .ref (ad 0)), (1, .int x1), (2, .int x2)] → st D (wN cI ad pa pl) A s u H locs → fX7_upNodes_4 u n x1 x2 = some r → W p l e R s m args below meth c H locs 0 0 (MQ below (qI D (tyl cI cB cL) (wN cI ad pa pl) A r u) args s 0 0 A) (F0 m 4 ls []) := by
  have hx := C.1
  have hb := C.2.1
  intro n
  induction n with
  | zero =>
    intro x1 x2 H locs ls hl S h
    cases h
  | succ n ih =>
    intro x1 x2 H locs ls hl S h
    rw [fX7_upNodes_4] at h
    have hsz := hl.1
    refine lv_iload_n hx hb dX7_upNodes_4 rfl (lv_at hl 2 rfl) ?_
    refine lv_aload_n hx hb dX7_upNodes_5 rfl (lv_at hl 0 rfl) ?_
    refine q_get (v := .int (u 0 0)) C S (oN0 cI ad pa pl) rfl iwX7 0 (by decide) mw_347 rfl dX7_upNodes_6 ?_
    refine lv_icmp_ge (tgt := 32) hx hb dX7_upNodes_9 (by decide) (fun c1 => ?_) (fun c1 => ?_)
    · have h := cnd_t c1 h
      refine lv_iload_n hx hb dX7_upNodes_32 rfl (lv_at hl 1 rfl) ?_
      exact q_iret C S (rt_R h) dX7_upNodes_33
    · have h := cnd_f c1 h
      refine lv_aload_n hx hb dX7_upNodes_12 rfl (lv_at hl 0 rfl) ?_
      refine lv_iload_n hx hb dX7_upNodes_13 rfl (lv_at hl 2 rfl) ?_
      obtain ⟨r3, h2, h⟩ := obr_some h
      refine q_callVi (As := [.int x2]) (na := 1) C S (oN0 cI ad pa pl) rfl (ct_X7_isUp l D cI cB cL ad pa pl x2 u h2) mw_343 mw_342 mw_344 mw_341 mw_340 hdX7_isUp ⟨Nat.le_trans (Nat.le_of_ble_eq_true rfl) hR.1, Nat.le_trans (Nat.le_of_ble_eq_true rfl) hR.2⟩ rfl hsz ⟨Nat.zero_le _, Nat.zero_le _⟩ (Nat.le_of_ble_eq_true rfl) dX7_upNodes_14 rfl (fun H locs S => ?_)
      refine lv_if_eq (tgt := 26) hx hb dX7_upNodes_17 (by decide) (fun c4 => ?_) (fun c4 => ?_)
      · have h := cnd_t c4 h
        exact wX7_upNodes_26 C hR u ih x1 x2 (lv_sub hl [0, 1, 2] rfl) S h
      · have h := cnd_f c4 h
        refine lv_iload_n hx hb dX7_upNodes_20 rfl (lv_at hl 1 rfl) ?_
        refine lv_iconst (v := 1) hx hb dX7_upNodes_21 (by decide) ?_
        refine lv_iload_n hx hb dX7_upNodes_22 rfl (lv_at hl 2 rfl) ?_
        refine lv_ishl hx hb dX7_upNodes_23 ?_
        refine lv_ior hx hb dX7_upNodes_24 ?_
        refine lv_topi (fun v6 ev6 => ?_)
        have h := bnd_of ev6 h
        refine lv_istore_n (lv' := [(1, .int v6), (0, .ref (ad 0)), (2, .int x2)]) hx hb dX7_upNodes_25 rfl hl (by decide) rfl (fun ls hl => ?_)
        have hsz := hl.1
        exact wX7_upNodes_26 C hR u ih v6 x2 (lv_sub hl [1, 0, 2] rfl) S h
set_option maxRecDepth 10000 in
set_option maxHeartbeats 4000000 in
theorem wX7_upNodes_0 (C : cx D (tyl cI cB cL) A RX7 cX7_upNodes 3 (some .int) p s m args c meth) (hR : 1 ≤ R.frames ∧ 21 ≤ R.locals) {r : Int32} (u : Sg) {H : Heap} {locs : List Loc} {ls : Array Slot} (hl : lv_has ls 3 [(0, .ref (ad 0))]) (S : st D (wN cI ad pa pl) A s u H locs) (h : fX7_upNodes_0 u = some r) : W p l e R s m args below meth c H locs 0 0 (MQ below (qI D (tyl cI cB cL) (wN cI ad pa pl) A r u) args s 0 0 A) (F0 m 0 ls []) := by
  have hx := C.1
  have hb := C.2.1
  have hsz := hl.1
  unfold fX7_upNodes_0 at h
  refine lv_iconst (v := 0) hx hb dX7_upNodes_0 (by decide) ?_
  refine lv_istore_n (lv' := [(1, .int 0), (0, .ref (ad 0))]) hx hb dX7_upNodes_1 rfl hl (by decide) rfl (fun ls hl => ?_)
  have hsz := hl.1
  refine lv_iconst (v := 0) hx hb dX7_upNodes_2 (by decide) ?_
  refine lv_istore_n (lv' := [(2, .int 0), (1, .int 0), (0, .ref (ad 0))]) hx hb dX7_upNodes_3 rfl hl (by decide) rfl (fun ls hl => ?_)
  have hsz := hl.1
  exact wX7_upNodes_4 C hR u FU 0 0 H locs ls (lv_sub hl [2, 1, 0] rfl) S h
set_option maxRecDepth 10000 in
set_option maxHeartbeats 4000000 in
theorem ct_X7_upNodes (l : Launch) (D : va_G) (cI cB cL : ClassId) (ad : Nat → Nat) (pa pl : Nat) (u : Sg) {r : Int32} (h : fX7_upNodes u = some r) : metI l D (tyl cI cB cL) yX7_upNodes cX7_upNodes 3 (some .int) 1 21 (wN cI ad pa pl) [.ref (ad 0)] u r u := by
  intro sz
  refine Met.ofW (cc := cX7_upNodes) (maxL := 3) (ret := (some .int)) (by decide) rfl ?_
  intro p e s m args below meth c s₁ B hml hv
  obtain ⟨rfl, C, S⟩ := q_entry B hml hv
  have hl := lv_entry ([.ref (ad 0)]) (n := 3) (Nat.le_of_ble_eq_true rfl)
  rw [lg_entry_eq]
  generalize (lg_sl ([.ref (ad 0)]) ++ List.replicate (3 - (lg_sl ([.ref (ad 0)])).length) Slot.unset).toArray = ls at hl ⊢
  exact wX7_upNodes_0 C ⟨Nat.le_refl _, Nat.le_refl _⟩ u (lv_sub hl [0] rfl) S h
noncomputable def fX0_lateOf_81 (K34 : Int32 → Int32 → Int32 → Int32 → Option Int32) (x1 : Int32) (x2 : Int32) (x3 : Int32) (x4 : Int32) (u : Sg) : Option Int32 := bnd (x4 + 1) (fun v9 => K34 x1 x2 x3 v9)
noncomputable def fX0_lateOf_34 (u : Sg) : Nat → Int32 → Int32 → Int32 → Int32 → Option Int32
  | 0, _, _, _, _ => none
  | n + 1, x1, x2, x3, x4 => cnd ((u 0 0) ≤ x4) (some x3) (cnd ((fX11_isIn x2 x4) = 0) (fX0_lateOf_81 (fun a0 a1 a2 a3 => fX0_lateOf_34 u n a0 a1 a2 a3) x1 x2 x3 x4 u) (grd (vp_in (fX11_spotOf x4 x1) 120) (grd (vp_in x1 20) (bnd (if x3 < ((u 23 (((fX11_spotOf x4 x1) : Int32).toNatClampNeg)) - (u 17 ((x1 : Int32).toNatClampNeg))) then ((u 23 (((fX11_spotOf x4 x1) : Int32).toNatClampNeg)) - (u 17 ((x1 : Int32).toNatClampNeg))) else x3) (fun v12 => fX0_lateOf_81 (fun a0 a1 a2 a3 => fX0_lateOf_34 u n a0 a1 a2 a3) x1 x2 v12 x4 u)))))
noncomputable def fX0_lateOf_0 (x1 : Int32) (u : Sg) : Option Int32 := obr (fX0_deliveredBy x1 u) (fun r2 => grd (vp_in x1 20) (obr (fX7_upNodes u) (fun r5 => cnd ((((u 15 ((x1 : Int32).toNatClampNeg)) &&& r5) &&& (r2 ^^^ (-1))) = 0) (fX0_lateOf_34 u FU x1 r2 (-1) 0) (some (-1)))))
noncomputable def fX0_lateOf (x1 : Int32) (u : Sg) : Option Int32 := fX0_lateOf_0 x1 u
set_option maxRecDepth 10000 in
set_option maxHeartbeats 4000000 in
theorem wX0_lateOf_81 (C : cx D (tyl cI cB cL) A RX0 cX0_lateOf 5 (some .int) p s m args c meth) (hR : 2 ≤ R.frames ∧ 44 ≤ R.locals) {r : Int32} (u : Sg) {K34 : Int32 → Int32 → Int32 → Int32 → Option Int32} (hK34 : ∀ (y1 : Int32) (y2 : Int32) (y3 : Int32) (y4 : Int32) (H : Heap) (locs : List Loc) (ls : Array Slot), lv_has ls 5 [(0, .ref (ad 0)), (1, .int y1), (2, .int y2), (3, .int y3), (4, .int y4)] → st D (wN cI ad pa pl) A s u H locs → K34 y1 y2 y3 y4 = some r → W p l e R s m args below meth c H locs 0 0 (MQ below (qI D (tyl cI cB cL) (wN cI ad pa pl) A r u) args s 0 0 A) (F0 m 34 ls [])) (x1 : Int32) (x2 : Int32) (x3 : Int32) (x4 : Int32) {H : Heap} {locs : List Loc} {ls : Array Slot} (hl : lv_has ls 5 [(0, .ref (ad 0)), (1, .int x1), (2, .int x2), (3, .int x3), (4, .int x4)]) (S : st D (wN cI ad pa pl) A s u H locs) (h : fX0_lateOf_81 K34 x1 x2 x3 x4 u = some r) : W p l e R s m args below meth c H locs 0 0 (MQ below (qI D (tyl cI cB cL) (wN cI ad pa pl) A r u) args s 0 0 A) (F0 m 81 ls []) := by
  have hx := C.1
  have hb := C.2.1
  have hsz := hl.1
  unfold fX0_lateOf_81 at h
  obtain ⟨v9, ev9⟩ : ∃ y : Int32, y = x4 + 1 := ⟨_, rfl⟩
  have h := bnd_of ev9 h
  refine lv_iinc (v := v9) (lv' := [(4, .int v9), (0, .ref (ad 0)), (1, .int x1), (2, .int x2), (3, .int x3)]) hx hb dX0_lateOf_81 hl (k := 4) rfl (by rw [ev9]; rfl) (by decide) rfl (fun ls hl => ?_)
  have hsz := hl.1
  refine lv_goto (tgt := 34) hx hb dX0_lateOf_84 (by decide) ?_
  exact hK34 x1 x2 x3 v9 H locs ls (lv_sub hl [1, 2, 3, 4, 0] rfl) S h
set_option maxRecDepth 10000 in
set_option maxHeartbeats 4000000 in
theorem wX0_lateOf_34 (C : cx D (tyl cI cB cL) A RX0 cX0_lateOf 5 (some .int) p s m args c meth) (hR : 2 ≤ R.frames ∧ 44 ≤ R.locals) {r : Int32} (u : Sg) : ∀ (n : Nat) (x1 : Int32) (x2 : Int32) (x3 : Int32) (x4 : Int32) (H : Heap) (locs : List Loc) (ls : Array Slot), lv_has ls 5 [(0, .ref (ad 0)), (1, .int x1), (2, .int x2), (3, .int x3), (4, .int x4)] → st D (wN cI ad pa pl) A s u H locs → fX0_lateOf_34 u n x1 x2 x3 x4 = some r → W p l e R s m args below meth c H locs 0 0 (MQ below (qI D (tyl cI cB cL) (wN cI ad pa pl) A r u) args s 0 0 A) (F0 m 34 ls []) := by
  have hx := C.1
  have hb := C.2.1
  intro n
  induction n with
  | zero =>
    intro x1 x2 x3 x4 H locs ls hl S h
    cases h
  | succ n ih =>
    intro x1 x2 x3 x4 H locs ls hl S h
    rw [fX0_lateOf_34] at h
    have hsz := hl.1
    refine lv_iload hx hb dX0_lateOf_34 (lv_at hl 4 rfl) ?_
    refine lv_aload_n hx hb dX0_lateOf_36 rfl (lv_at hl 0 rfl) ?_
    refine q_get (v := .int (u 0 0)) C S (oN0 cI ad pa pl) rfl iwX7 0 (by decide) mw_317 rfl dX0_lateOf_37 ?_
    refine lv_icmp_ge (tgt := 87) hx hb dX0_lateOf_40 (by decide) (fun c7 => ?_) (fun c7 => ?_)
    · have h := cnd_t c7 h
      refine lv_iload_n hx hb dX0_lateOf_87 rfl (lv_at hl 3 rfl) ?_
      exact q_iret C S (rt_R h) dX0_lateOf_88
    · have h := cnd_f c7 h
      refine lv_iload_n hx hb dX0_lateOf_43 rfl (lv_at hl 2 rfl) ?_
      refine lv_iload hx hb dX0_lateOf_44 (lv_at hl 4 rfl) ?_
      refine q_callPN (As := [.int x2, .int x4]) (na := 2) C S (ct_X11_isIn l D cI cB cL x2 x4) (List.mem_of_getElem? (i := 3) rfl) mw_360 mw_321 mw_359 hdX11_isIn ⟨Nat.le_trans (Nat.le_of_ble_eq_true rfl) hR.1, Nat.le_trans (Nat.le_of_ble_eq_true rfl) hR.2⟩ rfl hsz ⟨Nat.zero_le _, Nat.zero_le _⟩ (Nat.le_of_ble_eq_true rfl) dX0_lateOf_46 rfl (fun H locs S => ?_)
      refine lv_if_eq (tgt := 81) hx hb dX0_lateOf_49 (by decide) (fun c8 => ?_) (fun c8 => ?_)
      · have h := cnd_t c8 h
        exact wX0_lateOf_81 C hR u ih x1 x2 x3 x4 (lv_sub hl [0, 1, 2, 3, 4] rfl) S h
      · have h := cnd_f c8 h
        refine lv_iload_n hx hb dX0_lateOf_52 rfl (lv_at hl 3 rfl) ?_
        refine lv_aload_n hx hb dX0_lateOf_53 rfl (lv_at hl 0 rfl) ?_
        refine q_get (v := .ref (ad 19)) C S (oN0 cI ad pa pl) rfl iwX7 15 (by decide) mw_318 rfl dX0_lateOf_54 ?_
        refine q_get (v := .ref (ad 23)) C S (oN19 cI ad pa pl) rfl iwX4 3 (by decide) mw_378 rfl dX0_lateOf_57 ?_
        refine lv_iload hx hb dX0_lateOf_60 (lv_at hl 4 rfl) ?_
        refine lv_iload_n hx hb dX0_lateOf_62 rfl (lv_at hl 1 rfl) ?_
        refine q_callPN (As := [.int x4, .int x1]) (na := 2) C S (ct_X11_spotOf l D cI cB cL x4 x1) (List.mem_of_getElem? (i := 2) rfl) mw_322 mw_321 mw_320 hdX11_spotOf ⟨Nat.le_trans (Nat.le_of_ble_eq_true rfl) hR.1, Nat.le_trans (Nat.le_of_ble_eq_true rfl) hR.2⟩ rfl hsz ⟨Nat.zero_le _, Nat.zero_le _⟩ (Nat.le_of_ble_eq_true rfl) dX0_lateOf_63 rfl (fun H locs S => ?_)
        obtain ⟨g10, h⟩ := grd_some h
        refine q_iald C S (aN23 cI ad pa pl) 0 rfl g10 dX0_lateOf_66 (j := ((fX11_spotOf x4 x1) : Int32).toNatClampNeg) rfl ?_
        refine lv_aload_n hx hb dX0_lateOf_67 rfl (lv_at hl 0 rfl) ?_
        refine q_get (v := .ref (ad 13)) C S (oN0 cI ad pa pl) rfl iwX7 14 (by decide) mw_336 rfl dX0_lateOf_68 ?_
        refine q_get (v := .ref (ad 17)) C S (oN13 cI ad pa pl) rfl iwX6 4 (by decide) mw_379 rfl dX0_lateOf_71 ?_
        refine lv_iload_n hx hb dX0_lateOf_74 rfl (lv_at hl 1 rfl) ?_
        obtain ⟨g11, h⟩ := grd_some h
        refine q_iald C S (aN17 cI ad pa pl) 0 rfl g11 dX0_lateOf_75 (j := (x1 : Int32).toNatClampNeg) rfl ?_
        refine lv_isub hx hb dX0_lateOf_76 ?_
        refine q_mmax C mw_380 mw_91 mw_92 mw_93 ⟨Nat.le_trans (Nat.le_of_ble_eq_true rfl) hR.1, Nat.le_trans (Nat.le_of_ble_eq_true rfl) hR.2⟩ hsz ⟨Nat.zero_le _, Nat.zero_le _⟩ (Nat.le_of_ble_eq_true rfl) dX0_lateOf_77 ?_
        refine lv_topi (fun v12 ev12 => ?_)
        have h := bnd_of ev12 h
        refine lv_istore_n (lv' := [(3, .int v12), (0, .ref (ad 0)), (1, .int x1), (2, .int x2), (4, .int x4)]) hx hb dX0_lateOf_80 rfl hl (by decide) rfl (fun ls hl => ?_)
        have hsz := hl.1
        exact wX0_lateOf_81 C hR u ih x1 x2 v12 x4 (lv_sub hl [1, 2, 3, 0, 4] rfl) S h
set_option maxRecDepth 10000 in
set_option maxHeartbeats 4000000 in
theorem wX0_lateOf_0 (C : cx D (tyl cI cB cL) A RX0 cX0_lateOf 5 (some .int) p s m args c meth) (hR : 2 ≤ R.frames ∧ 44 ≤ R.locals) {r : Int32} (u : Sg) (x1 : Int32) {H : Heap} {locs : List Loc} {ls : Array Slot} (hl : lv_has ls 5 [(0, .ref (ad 0)), (1, .int x1)]) (S : st D (wN cI ad pa pl) A s u H locs) (h : fX0_lateOf_0 x1 u = some r) : W p l e R s m args below meth c H locs 0 0 (MQ below (qI D (tyl cI cB cL) (wN cI ad pa pl) A r u) args s 0 0 A) (F0 m 0 ls []) := by
  have hx := C.1
  have hb := C.2.1
  have hsz := hl.1
  unfold fX0_lateOf_0 at h
  refine lv_aload_n hx hb dX0_lateOf_0 rfl (lv_at hl 0 rfl) ?_
  refine lv_iload_n hx hb dX0_lateOf_1 rfl (lv_at hl 1 rfl) ?_
  obtain ⟨r2, h1, h⟩ := obr_some h
  refine q_callSi (As := [.ref (ad 0), .int x1]) (na := 2) C S (ct_X0_deliveredBy l D cI cB cL ad pa pl x1 u h1) mw_373 mw_372 mw_362 mw_371 hdX0_deliveredBy ⟨Nat.le_trans (Nat.le_of_ble_eq_true rfl) hR.1, Nat.le_trans (Nat.le_of_ble_eq_true rfl) hR.2⟩ rfl hsz ⟨Nat.zero_le _, Nat.zero_le _⟩ (Nat.le_of_ble_eq_true rfl) dX0_lateOf_2 rfl (fun H locs S => ?_)
  refine lv_istore_n (lv' := [(2, .int r2), (0, .ref (ad 0)), (1, .int x1)]) hx hb dX0_lateOf_5 rfl hl (by decide) rfl (fun ls hl => ?_)
  have hsz := hl.1
  refine lv_aload_n hx hb dX0_lateOf_6 rfl (lv_at hl 1 rfl) ?_
  refine q_get (v := .ref (ad 13)) C S (oN0 cI ad pa pl) rfl iwX7 14 (by decide) mw_336 rfl dX0_lateOf_7 ?_
  refine q_get (v := .ref (ad 15)) C S (oN13 cI ad pa pl) rfl iwX6 2 (by decide) mw_352 rfl dX0_lateOf_10 ?_
  refine lv_iload_n hx hb dX0_lateOf_13 rfl (lv_at hl 2 rfl) ?_
  obtain ⟨g3, h⟩ := grd_some h
  refine q_iald C S (aN15 cI ad pa pl) 0 rfl g3 dX0_lateOf_14 (j := (x1 : Int32).toNatClampNeg) rfl ?_
  refine lv_aload_n hx hb dX0_lateOf_15 rfl (lv_at hl 1 rfl) ?_
  obtain ⟨r5, h4, h⟩ := obr_some h
  refine q_callVi (As := []) (na := 0) C S (oN0 cI ad pa pl) rfl (ct_X7_upNodes l D cI cB cL ad pa pl u h4) mw_376 mw_375 mw_377 mw_341 mw_374 hdX7_upNodes ⟨Nat.le_trans (Nat.le_of_ble_eq_true rfl) hR.1, Nat.le_trans (Nat.le_of_ble_eq_true rfl) hR.2⟩ rfl hsz ⟨Nat.zero_le _, Nat.zero_le _⟩ (Nat.le_of_ble_eq_true rfl) dX0_lateOf_16 rfl (fun H locs S => ?_)
  refine lv_iand hx hb dX0_lateOf_19 ?_
  refine lv_iload_n hx hb dX0_lateOf_20 rfl (lv_at hl 0 rfl) ?_
  refine lv_iconst (v := (-1)) hx hb dX0_lateOf_21 (by decide) ?_
  refine lv_ixor hx hb dX0_lateOf_22 ?_
  refine lv_iand hx hb dX0_lateOf_23 ?_
  refine lv_if_eq (tgt := 29) hx hb dX0_lateOf_24 (by decide) (fun c6 => ?_) (fun c6 => ?_)
  · have h := cnd_t c6 h
    refine lv_iconst (v := (-1)) hx hb dX0_lateOf_29 (by decide) ?_
    refine lv_istore_n (lv' := [(3, .int (-1)), (2, .int r2), (0, .ref (ad 0)), (1, .int x1)]) hx hb dX0_lateOf_30 rfl hl (by decide) rfl (fun ls hl => ?_)
    have hsz := hl.1
    refine lv_iconst (v := 0) hx hb dX0_lateOf_31 (by decide) ?_
    refine lv_istore (lv' := [(4, .int 0), (3, .int (-1)), (2, .int r2), (0, .ref (ad 0)), (1, .int x1)]) hx hb dX0_lateOf_32 hl (by decide) rfl (fun ls hl => ?_)
    have hsz := hl.1
    exact wX0_lateOf_34 C hR u FU x1 r2 (-1) 0 H locs ls (lv_sub hl [3, 4, 2, 1, 0] rfl) S h
  · have h := cnd_f c6 h
    refine lv_iconst (v := (-1)) hx hb dX0_lateOf_27 (by decide) ?_
    exact q_iret C S (rt_R h) dX0_lateOf_28
set_option maxRecDepth 10000 in
set_option maxHeartbeats 4000000 in
theorem ct_X0_lateOf (l : Launch) (D : va_G) (cI cB cL : ClassId) (ad : Nat → Nat) (pa pl : Nat) (x1 : Int32) (u : Sg) {r : Int32} (h : fX0_lateOf x1 u = some r) : metI l D (tyl cI cB cL) yX0_lateOf cX0_lateOf 5 (some .int) 2 44 (wN cI ad pa pl) [.ref (ad 0), .int x1] u r u := by
  intro sz
  refine Met.ofW (cc := cX0_lateOf) (maxL := 5) (ret := (some .int)) (by decide) rfl ?_
  intro p e s m args below meth c s₁ B hml hv
  obtain ⟨rfl, C, S⟩ := q_entry B hml hv
  have hl := lv_entry ([.ref (ad 0), .int x1]) (n := 5) (Nat.le_of_ble_eq_true rfl)
  rw [lg_entry_eq]
  generalize (lg_sl ([.ref (ad 0), .int x1]) ++ List.replicate (5 - (lg_sl ([.ref (ad 0), .int x1])).length) Slot.unset).toArray = ls at hl ⊢
  exact wX0_lateOf_0 C ⟨Nat.le_refl _, Nat.le_refl _⟩ u x1 (lv_sub hl [0, 1] rfl) S h
noncomputable def fX4_placeOf_2 (u : Sg) : Nat → Int32 → Int32 → Int32 → Option Int32
  | 0, _, _, _ => none
  | n + 1, x1, x2, x3 => grd (vp_in x1 6) (cnd ((u 25 ((x1 : Int32).toNatClampNeg)) ≤ x3) (some (-1)) (grd (vp_in (fX11_spotOf x1 x3) 120) (cnd ((u 24 (((fX11_spotOf x1 x3) : Int32).toNatClampNeg)) = x2) (some x3) (bnd (x3 + 1) (fun v5 => fX4_placeOf_2 u n x1 x2 v5)))))
noncomputable def fX4_placeOf_0 (x1 : Int32) (x2 : Int32) (u : Sg) : Option Int32 := fX4_placeOf_2 u FU x1 x2 0
noncomputable def fX4_placeOf (x1 : Int32) (x2 : Int32) (u : Sg) : Option Int32 := fX4_placeOf_0 x1 x2 u
set_option maxRecDepth 10000 in
set_option maxHeartbeats 4000000 in
theorem wX4_placeOf_2 (C : cx D (tyl cI cB cL) A RX4 cX4_placeOf 4 (some .int) p s m args c meth) (hR : 1 ≤ R.frames ∧ 21 ≤ R.locals) {r : Int32} (u : Sg) : ∀ (n : Nat) (x1 : Int32) (x2 : Int32) (x3 : Int32) (H : Heap) (locs : List Loc) (ls : Array Slot), lv_has ls 4 [(0, .ref (ad 19)), (1, .int x1), (2, .int x2), (3, .int x3)] → st D (wN cI ad pa pl) A s u H locs → fX4_placeOf_2 u n x1 x2 x3 = some r → W p l e R s m args below meth c H locs 0 0 (MQ below (qI D (tyl cI cB cL) (wN cI ad pa pl) A r u) args s 0 0 A) (F0 m 2 ls []) := by
  have hx := C.1
  have hb := C.2.1
  intro n
  induction n with
  | zero =>
    intro x1 x2 x3 H locs ls hl S h
    cases h
  | succ n ih =>
    intro x1 x2 x3 H locs ls hl S h
    rw [fX4_placeOf_2] at h
    have hsz := hl.1
    refine lv_iload_n hx hb dX4_placeOf_2 rfl (lv_at hl 3 rfl) ?_
    refine lv_aload_n hx hb dX4_placeOf_3 rfl (lv_at hl 0 rfl) ?_
    refine q_get (v := .ref (ad 25)) C S (oN19 cI ad pa pl) rfl iwX4 5 (by decide) mw_381 rfl dX4_placeOf_4 ?_
    refine lv_iload_n hx hb dX4_placeOf_7 rfl (lv_at hl 1 rfl) ?_
    obtain ⟨g1, h⟩ := grd_some h
    refine q_iald C S (aN25 cI ad pa pl) 0 rfl g1 dX4_placeOf_8 (j := (x1 : Int32).toNatClampNeg) rfl ?_
    refine lv_icmp_ge (tgt := 34) hx hb dX4_placeOf_9 (by decide) (fun c2 => ?_) (fun c2 => ?_)
    · have h := cnd_t c2 h
      refine lv_iconst (v := (-1)) hx hb dX4_placeOf_34 (by decide) ?_
      exact q_iret C S (rt_R h) dX4_placeOf_35
    · have h := cnd_f c2 h
      refine lv_aload_n hx hb dX4_placeOf_12 rfl (lv_at hl 0 rfl) ?_
      refine q_get (v := .ref (ad 24)) C S (oN19 cI ad pa pl) rfl iwX4 4 (by decide) mw_382 rfl dX4_placeOf_13 ?_
      refine lv_iload_n hx hb dX4_placeOf_16 rfl (lv_at hl 1 rfl) ?_
      refine lv_iload_n hx hb dX4_placeOf_17 rfl (lv_at hl 3 rfl) ?_
      refine q_callPN (As := [.int x1, .int x3]) (na := 2) C S (ct_X11_spotOf l D cI cB cL x1 x3) (List.mem_of_getElem? (i := 18) rfl) mw_322 mw_321 mw_320 hdX11_spotOf ⟨Nat.le_trans (Nat.le_of_ble_eq_true rfl) hR.1, Nat.le_trans (Nat.le_of_ble_eq_true rfl) hR.2⟩ rfl hsz ⟨Nat.zero_le _, Nat.zero_le _⟩ (Nat.le_of_ble_eq_true rfl) dX4_placeOf_18 rfl (fun H locs S => ?_)
      obtain ⟨g3, h⟩ := grd_some h
      refine q_iald C S (aN24 cI ad pa pl) 0 rfl g3 dX4_placeOf_21 (j := ((fX11_spotOf x1 x3) : Int32).toNatClampNeg) rfl ?_
      refine lv_iload_n hx hb dX4_placeOf_22 rfl (lv_at hl 2 rfl) ?_
      refine lv_icmp_ne (tgt := 28) hx hb dX4_placeOf_23 (by decide) (fun c4 => ?_) (fun c4 => ?_)
      · have h := cnd_f c4 h
        obtain ⟨v5, ev5⟩ : ∃ y : Int32, y = x3 + 1 := ⟨_, rfl⟩
        have h := bnd_of ev5 h
        refine lv_iinc (v := v5) (lv' := [(3, .int v5), (0, .ref (ad 19)), (1, .int x1), (2, .int x2)]) hx hb dX4_placeOf_28 hl (k := 3) rfl (by rw [ev5]; rfl) (by decide) rfl (fun ls hl => ?_)
        have hsz := hl.1
        refine lv_goto (tgt := 2) hx hb dX4_placeOf_31 (by decide) ?_
        exact ih x1 x2 v5 H locs ls (lv_sub hl [1, 2, 3, 0] rfl) S h
      · have h := cnd_t c4 h
        refine lv_iload_n hx hb dX4_placeOf_26 rfl (lv_at hl 3 rfl) ?_
        exact q_iret C S (rt_R h) dX4_placeOf_27
set_option maxRecDepth 10000 in
set_option maxHeartbeats 4000000 in
theorem wX4_placeOf_0 (C : cx D (tyl cI cB cL) A RX4 cX4_placeOf 4 (some .int) p s m args c meth) (hR : 1 ≤ R.frames ∧ 21 ≤ R.locals) {r : Int32} (u : Sg) (x1 : Int32) (x2 : Int32) {H : Heap} {locs : List Loc} {ls : Array Slot} (hl : lv_has ls 4 [(0, .ref (ad 19)), (1, .int x1), (2, .int x2)]) (S : st D (wN cI ad pa pl) A s u H locs) (h : fX4_placeOf_0 x1 x2 u = some r) : W p l e R s m args below meth c H locs 0 0 (MQ below (qI D (tyl cI cB cL) (wN cI ad pa pl) A r u) args s 0 0 A) (F0 m 0 ls []) := by
  have hx := C.1
  have hb := C.2.1
  have hsz := hl.1
  unfold fX4_placeOf_0 at h
  refine lv_iconst (v := 0) hx hb dX4_placeOf_0 (by decide) ?_
  refine lv_istore_n (lv' := [(3, .int 0), (0, .ref (ad 19)), (1, .int x1), (2, .int x2)]) hx hb dX4_placeOf_1 rfl hl (by decide) rfl (fun ls hl => ?_)
  have hsz := hl.1
  exact wX4_placeOf_2 C hR u FU x1 x2 0 H locs ls (lv_sub hl [1, 2, 3, 0] rfl) S h
set_option maxRecDepth 10000 in
set_option maxHeartbeats 4000000 in
theorem ct_X4_placeOf (l : Launch) (D : va_G) (cI cB cL : ClassId) (ad : Nat → Nat) (pa pl : Nat) (x1 : Int32) (x2 : Int32) (u : Sg) {r : Int32} (h : fX4_placeOf x1 x2 u = some r) : metI l D (tyl cI cB cL) yX4_placeOf cX4_placeOf 4 (some .int) 1 21 (wN cI ad pa pl) [.ref (ad 19), .int x1, .int x2] u r u := by
  intro sz
  refine Met.ofW (cc := cX4_placeOf) (maxL := 4) (ret := (some .int)) (by decide) rfl ?_
  intro p e s m args below meth c s₁ B hml hv
  obtain ⟨rfl, C, S⟩ := q_entry B hml hv
  have hl := lv_entry ([.ref (ad 19), .int x1, .int x2]) (n := 4) (Nat.le_of_ble_eq_true rfl)
  rw [lg_entry_eq]
  generalize (lg_sl ([.ref (ad 19), .int x1, .int x2]) ++ List.replicate (4 - (lg_sl ([.ref (ad 19), .int x1, .int x2])).length) Slot.unset).toArray = ls at hl ⊢
  exact wX4_placeOf_0 C ⟨Nat.le_refl _, Nat.le_refl _⟩ u x1 x2 (lv_sub hl [0, 1, 2] rfl) S h
noncomputable def fX0_firstOf_57 (K2 : Int32 → Int32 → Int32 → Option Int32) (x1 : Int32) (x2 : Int32) (x3 : Int32) (u : Sg) : Option Int32 := bnd (x3 + 1) (fun v7 => K2 x1 x2 v7)
noncomputable def fX0_firstOf_2 (u : Sg) : Nat → Int32 → Int32 → Int32 → Option Int32
  | 0, _, _, _ => none
  | n + 1, x1, x2, x3 => cnd ((u 0 0) ≤ x3) (some (-1)) (obr (fX4_placeOf x3 x1 u) (fun r3 => obr (fX4_placeOf x3 x2 u) (fun r5 => cnd (r3 = (-1)) (fX0_firstOf_57 (fun a0 a1 a2 => fX0_firstOf_2 u n a0 a1 a2) x1 x2 x3 u) (cnd (r5 = (-1)) (fX0_firstOf_57 (fun a0 a1 a2 => fX0_firstOf_2 u n a0 a1 a2) x1 x2 x3 u) (cnd (r5 ≤ r3) (some x2) (some x1))))))
noncomputable def fX0_firstOf_0 (x1 : Int32) (x2 : Int32) (u : Sg) : Option Int32 := fX0_firstOf_2 u FU x1 x2 0
noncomputable def fX0_firstOf (x1 : Int32) (x2 : Int32) (u : Sg) : Option Int32 := fX0_firstOf_0 x1 x2 u
set_option maxRecDepth 10000 in
set_option maxHeartbeats 4000000 in
theorem wX0_firstOf_57 (C : cx D (tyl cI cB cL) A RX0 cX0_firstOf 6 (some .int) p s m args c meth) (hR : 2 ≤ R.frames ∧ 44 ≤ R.locals) {r : Int32} (u : Sg) {K2 : Int32 → Int32 → Int32 → Option Int32} (hK2 : ∀ (y1 : Int32) (y2 : Int32) (y3 : Int32) (H : Heap) (locs : List Loc) (ls : Array Slot), lv_has ls 6 [(0, .ref (ad 0)), (1, .int y1), (2, .int y2), (3, .int y3)] → st D (wN cI ad pa pl) A s u H locs → K2 y1 y2 y3 = some r → W p l e R s m args below meth c H locs 0 0 (MQ below (qI D (tyl cI cB cL) (wN cI ad pa pl) A r u) args s 0 0 A) (F0 m 2 ls [])) (x1 : Int32) (x2 : Int32) (x3 : Int32) {H : Heap} {locs : List Loc} {ls : Array Slot} (hl : lv_has ls 6 [(0, .ref (ad 0)), (1, .int x1), (2, .int x2), (3, .int x3)]) (S : st D (wN cI ad pa pl) A s u H locs) (h : fX0_firstOf_57 K2 x1 x2 x3 u = some r) : W p l e R s m args below meth c H locs 0 0 (MQ below (qI D (tyl cI cB cL) (wN cI ad pa pl) A r u) args s 0 0 A) (F0 m 57 ls []) := by
  have hx := C.1
  have hb := C.2.1
  have hsz := hl.1
  unfold fX0_firstOf_57 at h
  obtain ⟨v7, ev7⟩ : ∃ y : Int32, y = x3 + 1 := ⟨_, rfl⟩
  have h := bnd_of ev7 h
  refine lv_iinc (v := v7) (lv' := [(3, .int v7), (0, .ref (ad 0)), (1, .int x1), (2, .int x2)]) hx hb dX0_firstOf_57 hl (k := 3) rfl (by rw [ev7]; rfl) (by decide) rfl (fun ls hl => ?_)
  have hsz := hl.1
  refine lv_goto (tgt := 2) hx hb dX0_firstOf_60 (by decide) ?_
  exact hK2 x1 x2 v7 H locs ls (lv_sub hl [1, 2, 3, 0] rfl) S h
set_option maxRecDepth 10000 in
set_option maxHeartbeats 4000000 in
theorem wX0_firstOf_2 (C : cx D (tyl cI cB cL) A RX0 cX0_firstOf 6 (some .int) p s m args c meth) (hR : 2 ≤ R.frames ∧ 44 ≤ R.locals) {r : Int32} (u : Sg) : ∀ (n : Nat) (x1 : Int32) (x2 : Int32) (x3 : Int32) (H : Heap) (locs : List Loc) (ls : Array Slot), lv_has ls 6 [(0, .ref (ad 0)), (1, .int x1), (2, .int x2), (3, .int x3)] → st D (wN cI ad pa pl) A s u H locs → fX0_firstOf_2 u n x1 x2 x3 = some r → W p l e R s m args below meth c H locs 0 0 (MQ below (qI D (tyl cI cB cL) (wN cI ad pa pl) A r u) args s 0 0 A) (F0 m 2 ls []) := by
  have hx := C.1
  have hb := C.2.1
  intro n
  induction n with
  | zero =>
    intro x1 x2 x3 H locs ls hl S h
    cases h
  | succ n ih =>
    intro x1 x2 x3 H locs ls hl S h
    rw [fX0_firstOf_2] at h
    have hsz := hl.1
    refine lv_iload_n hx hb dX0_firstOf_2 rfl (lv_at hl 3 rfl) ?_
    refine lv_aload_n hx hb dX0_firstOf_3 rfl (lv_at hl 0 rfl) ?_
    refine q_get (v := .int (u 0 0)) C S (oN0 cI ad pa pl) rfl iwX7 0 (by decide) mw_317 rfl dX0_firstOf_4 ?_
    refine lv_icmp_ge (tgt := 63) hx hb dX0_firstOf_7 (by decide) (fun c1 => ?_) (fun c1 => ?_)
    · have h := cnd_t c1 h
      refine lv_iconst (v := (-1)) hx hb dX0_firstOf_63 (by decide) ?_
      exact q_iret C S (rt_R h) dX0_firstOf_64
    · have h := cnd_f c1 h
      refine lv_aload_n hx hb dX0_firstOf_10 rfl (lv_at hl 0 rfl) ?_
      refine q_get (v := .ref (ad 19)) C S (oN0 cI ad pa pl) rfl iwX7 15 (by decide) mw_318 rfl dX0_firstOf_11 ?_
      refine lv_iload_n hx hb dX0_firstOf_14 rfl (lv_at hl 3 rfl) ?_
      refine lv_iload_n hx hb dX0_firstOf_15 rfl (lv_at hl 1 rfl) ?_
      obtain ⟨r3, h2, h⟩ := obr_some h
      refine q_callVi (As := [.int x3, .int x1]) (na := 2) C S (oN19 cI ad pa pl) rfl (ct_X4_placeOf l D cI cB cL ad pa pl x3 x1 u h2) mw_385 mw_384 mw_386 mw_332 mw_383 hdX4_placeOf ⟨Nat.le_trans (Nat.le_of_ble_eq_true rfl) hR.1, Nat.le_trans (Nat.le_of_ble_eq_true rfl) hR.2⟩ rfl hsz ⟨Nat.zero_le _, Nat.zero_le _⟩ (Nat.le_of_ble_eq_true rfl) dX0_firstOf_16 rfl (fun H locs S => ?_)
      refine lv_istore (lv' := [(4, .int r3), (0, .ref (ad 0)), (1, .int x1), (2, .int x2), (3, .int x3)]) hx hb dX0_firstOf_19 hl (by decide) rfl (fun ls hl => ?_)
      have hsz := hl.1
      refine lv_aload_n hx hb dX0_firstOf_21 rfl (lv_at hl 1 rfl) ?_
      refine q_get (v := .ref (ad 19)) C S (oN0 cI ad pa pl) rfl iwX7 15 (by decide) mw_318 rfl dX0_firstOf_22 ?_
      refine lv_iload_n hx hb dX0_firstOf_25 rfl (lv_at hl 4 rfl) ?_
      refine lv_iload_n hx hb dX0_firstOf_26 rfl (lv_at hl 3 rfl) ?_
      obtain ⟨r5, h4, h⟩ := obr_some h
      refine q_callVi (As := [.int x3, .int x2]) (na := 2) C S (oN19 cI ad pa pl) rfl (ct_X4_placeOf l D cI cB cL ad pa pl x3 x2 u h4) mw_385 mw_384 mw_386 mw_332 mw_383 hdX4_placeOf ⟨Nat.le_trans (Nat.le_of_ble_eq_true rfl) hR.1, Nat.le_trans (Nat.le_of_ble_eq_true rfl) hR.2⟩ rfl hsz ⟨Nat.zero_le _, Nat.zero_le _⟩ (Nat.le_of_ble_eq_true rfl) dX0_firstOf_27 rfl (fun H locs S => ?_)
      refine lv_istore (lv' := [(5, .int r5), (4, .int r3), (0, .ref (ad 0)), (1, .int x1), (2, .int x2), (3, .int x3)]) hx hb dX0_firstOf_30 hl (by decide) rfl (fun ls hl => ?_)
      have hsz := hl.1
      refine lv_iload hx hb dX0_firstOf_32 (lv_at hl 1 rfl) ?_
      refine lv_iconst (v := (-1)) hx hb dX0_firstOf_34 (by decide) ?_
      refine lv_icmp_eq (tgt := 57) hx hb dX0_firstOf_35 (by decide) (fun c6 => ?_) (fun c6 => ?_)
      · have h := cnd_t c6 h
        exact wX0_firstOf_57 C hR u ih x1 x2 x3 (lv_sub hl [2, 3, 4, 5] rfl) S h
      · have h := cnd_f c6 h
        refine lv_iload hx hb dX0_firstOf_38 (lv_at hl 0 rfl) ?_
        refine lv_iconst (v := (-1)) hx hb dX0_firstOf_40 (by decide) ?_
        refine lv_icmp_eq (tgt := 57) hx hb dX0_firstOf_41 (by decide) (fun c8 => ?_) (fun c8 => ?_)
        · have h := cnd_t c8 h
          exact wX0_firstOf_57 C hR u ih x1 x2 x3 (lv_sub hl [2, 3, 4, 5] rfl) S h
        · have h := cnd_f c8 h
          refine lv_iload hx hb dX0_firstOf_44 (lv_at hl 1 rfl) ?_
          refine lv_iload hx hb dX0_firstOf_46 (lv_at hl 0 rfl) ?_
          refine lv_icmp_ge (tgt := 55) hx hb dX0_firstOf_48 (by decide) (fun c9 => ?_) (fun c9 => ?_)
          · have h := cnd_t c9 h
            refine lv_iload_n hx hb dX0_firstOf_55 rfl (lv_at hl 4 rfl) ?_
            exact q_iret C S (rt_R h) dX0_firstOf_56
          · have h := cnd_f c9 h
            refine lv_iload_n hx hb dX0_firstOf_51 rfl (lv_at hl 3 rfl) ?_
            refine lv_goto (tgt := 56) hx hb dX0_firstOf_52 (by decide) ?_
            exact q_iret C S (rt_R h) dX0_firstOf_56
set_option maxRecDepth 10000 in
set_option maxHeartbeats 4000000 in
theorem wX0_firstOf_0 (C : cx D (tyl cI cB cL) A RX0 cX0_firstOf 6 (some .int) p s m args c meth) (hR : 2 ≤ R.frames ∧ 44 ≤ R.locals) {r : Int32} (u : Sg) (x1 : Int32) (x2 : Int32) {H : Heap} {locs : List Loc} {ls : Array Slot} (hl : lv_has ls 6 [(0, .ref (ad 0)), (1, .int x1), (2, .int x2)]) (S : st D (wN cI ad pa pl) A s u H locs) (h : fX0_firstOf_0 x1 x2 u = some r) : W p l e R s m args below meth c H locs 0 0 (MQ below (qI D (tyl cI cB cL) (wN cI ad pa pl) A r u) args s 0 0 A) (F0 m 0 ls []) := by
  have hx := C.1
  have hb := C.2.1
  have hsz := hl.1
  unfold fX0_firstOf_0 at h
  refine lv_iconst (v := 0) hx hb dX0_firstOf_0 (by decide) ?_
  refine lv_istore_n (lv' := [(3, .int 0), (0, .ref (ad 0)), (1, .int x1), (2, .int x2)]) hx hb dX0_firstOf_1 rfl hl (by decide) rfl (fun ls hl => ?_)
  have hsz := hl.1
  exact wX0_firstOf_2 C hR u FU x1 x2 0 H locs ls (lv_sub hl [1, 2, 3, 0] rfl) S h
set_option maxRecDepth 10000 in
set_option maxHeartbeats 4000000 in
theorem ct_X0_firstOf (l : Launch) (D : va_G) (cI cB cL : ClassId) (ad : Nat → Nat) (pa pl : Nat) (x1 : Int32) (x2 : Int32) (u : Sg) {r : Int32} (h : fX0_firstOf x1 x2 u = some r) : metI l D (tyl cI cB cL) yX0_firstOf cX0_firstOf 6 (some .int) 2 44 (wN cI ad pa pl) [.ref (ad 0), .int x1, .int x2] u r u := by
  intro sz
  refine Met.ofW (cc := cX0_firstOf) (maxL := 6) (ret := (some .int)) (by decide) rfl ?_
  intro p e s m args below meth c s₁ B hml hv
  obtain ⟨rfl, C, S⟩ := q_entry B hml hv
  have hl := lv_entry ([.ref (ad 0), .int x1, .int x2]) (n := 6) (Nat.le_of_ble_eq_true rfl)
  rw [lg_entry_eq]
  generalize (lg_sl ([.ref (ad 0), .int x1, .int x2]) ++ List.replicate (6 - (lg_sl ([.ref (ad 0), .int x1, .int x2])).length) Slot.unset).toArray = ls at hl ⊢
  exact wX0_firstOf_0 C ⟨Nat.le_refl _, Nat.le_refl _⟩ u x1 x2 (lv_sub hl [0, 1, 2] rfl) S h
noncomputable def fX0_partedPairs_103 (K11 : Int32 → Int32 → Int32 → Int32 → Option Int32) (x1 : Int32) (x2 : Int32) (x4 : Int32) (x5 : Int32) (u : Sg) : Option Int32 := bnd (x5 + 1) (fun v9 => K11 x1 x2 x4 v9)
noncomputable def fX0_partedPairs_97 (K11 : Int32 → Int32 → Int32 → Int32 → Option Int32) (K46 : Int32 → Int32 → Int32 → Int32 → Int32 → Int32 → Option Int32) (x1 : Int32) (x2 : Int32) (x4 : Int32) (x5 : Int32) (x6 : Int32) (x7 : Int32) (u : Sg) : Option Int32 := bnd (x7 + 1) (fun v15 => K46 x1 x2 x4 x5 x6 v15)
noncomputable def fX0_partedPairs_46 (K11 : Int32 → Int32 → Int32 → Int32 → Option Int32) (u : Sg) : Nat → Int32 → Int32 → Int32 → Int32 → Int32 → Int32 → Option Int32
  | 0, _, _, _, _, _, _ => none
  | n + 1, x1, x2, x4, x5, x6, x7 => grd (vp_in x1 6) (cnd ((u 25 ((x1 : Int32).toNatClampNeg)) ≤ x7) (fX0_partedPairs_103 K11 x1 x2 x4 x5 u) (cnd (x6 = (-1)) (fX0_partedPairs_103 K11 x1 x2 x4 x5 u) (grd (vp_in (fX11_spotOf x1 x7) 120) (obr (fX4_placeOf x2 (u 24 (((fX11_spotOf x1 x7) : Int32).toNatClampNeg)) u) (fun r13 => cnd (r13 = (-1)) (fX0_partedPairs_97 K11 (fun a0 a1 a2 a3 a4 a5 => fX0_partedPairs_46 K11 u n a0 a1 a2 a3 a4 a5) x1 x2 x4 x5 x6 x7 u) (cnd (x6 ≤ r13) (fX0_partedPairs_97 K11 (fun a0 a1 a2 a3 a4 a5 => fX0_partedPairs_46 K11 u n a0 a1 a2 a3 a4 a5) x1 x2 x4 x5 x6 x7 u) (bnd (x4 + 1) (fun v17 => fX0_partedPairs_97 K11 (fun a0 a1 a2 a3 a4 a5 => fX0_partedPairs_46 K11 u n a0 a1 a2 a3 a4 a5) x1 x2 v17 x5 x6 x7 u))))))))
noncomputable def fX0_partedPairs_11 (u : Sg) : Nat → Int32 → Int32 → Int32 → Int32 → Option Int32
  | 0, _, _, _, _ => none
  | n + 1, x1, x2, x4, x5 => grd (vp_in x1 6) (cnd ((u 25 ((x1 : Int32).toNatClampNeg)) ≤ x5) (some x4) (grd (vp_in (fX11_spotOf x1 x5) 120) (obr (fX4_placeOf x2 (u 24 (((fX11_spotOf x1 x5) : Int32).toNatClampNeg)) u) (fun r5 => bnd (x5 + 1) (fun v6 => fX0_partedPairs_46 (fun a0 a1 a2 a3 => fX0_partedPairs_11 u n a0 a1 a2 a3) u FU x1 x2 x4 x5 r5 v6)))))
noncomputable def fX0_partedPairs_0 (x1 : Int32) (x2 : Int32) (u : Sg) : Option Int32 := fX0_partedPairs_11 u FU x1 x2 0 0
noncomputable def fX0_partedPairs (x1 : Int32) (x2 : Int32) (u : Sg) : Option Int32 := fX0_partedPairs_0 x1 x2 u
set_option maxRecDepth 10000 in
set_option maxHeartbeats 4000000 in
theorem wX0_partedPairs_103 (C : cx D (tyl cI cB cL) A RX0 cX0_partedPairs 9 (some .int) p s m args c meth) (hR : 2 ≤ R.frames ∧ 44 ≤ R.locals) {r : Int32} (u : Sg) {K11 : Int32 → Int32 → Int32 → Int32 → Option Int32} (hK11 : ∀ (y1 : Int32) (y2 : Int32) (y4 : Int32) (y5 : Int32) (H : Heap) (locs : List Loc) (ls : Array Slot), lv_has ls 9 [(1, .int y1), (2, .int y2), (3, .ref (ad 19)), (4, .int y4), (5, .int y5)] → st D (wN cI ad pa pl) A s u H locs → K11 y1 y2 y4 y5 = some r → W p l e R s m args below meth c H locs 0 0 (MQ below (qI D (tyl cI cB cL) (wN cI ad pa pl) A r u) args s 0 0 A) (F0 m 11 ls [])) (x1 : Int32) (x2 : Int32) (x4 : Int32) (x5 : Int32) {H : Heap} {locs : List Loc} {ls : Array Slot} (hl : lv_has ls 9 [(1, .int x1), (2, .int x2), (3, .ref (ad 19)), (4, .int x4), (5, .int x5)]) (S : st D (wN cI ad pa pl) A s u H locs) (h : fX0_partedPairs_103 K11 x1 x2 x4 x5 u = some r) : W p l e R s m args below meth c H locs 0 0 (MQ below (qI D (tyl cI cB cL) (wN cI ad pa pl) A r u) args s 0 0 A) (F0 m 103 ls []) := by
  have hx := C.1
  have hb := C.2.1
  have hsz := hl.1
  unfold fX0_partedPairs_103 at h
  obtain ⟨v9, ev9⟩ : ∃ y : Int32, y = x5 + 1 := ⟨_, rfl⟩
  have h := bnd_of ev9 h
  refine lv_iinc (v := v9) (lv' := [(5, .int v9), (1, .int x1), (2, .int x2), (3, .ref (ad 19)), (4, .int x4)]) hx hb dX0_partedPairs_103 hl (k := 4) rfl (by rw [ev9]; rfl) (by decide) rfl (fun ls hl => ?_)
  have hsz := hl.1
  refine lv_goto (tgt := 11) hx hb dX0_partedPairs_106 (by decide) ?_
  exact hK11 x1 x2 x4 v9 H locs ls (lv_sub hl [1, 2, 3, 4, 0] rfl) S h
set_option maxRecDepth 10000 in
set_option maxHeartbeats 4000000 in
theorem wX0_partedPairs_97 (C : cx D (tyl cI cB cL) A RX0 cX0_partedPairs 9 (some .int) p s m args c meth) (hR : 2 ≤ R.frames ∧ 44 ≤ R.locals) {r : Int32} (u : Sg) {K11 : Int32 → Int32 → Int32 → Int32 → Option Int32} (hK11 : ∀ (y1 : Int32) (y2 : Int32) (y4 : Int32) (y5 : Int32) (H : Heap) (locs : List Loc) (ls : Array Slot), lv_has ls 9 [(1, .int y1), (2, .int y2), (3, .ref (ad 19)), (4, .int y4), (5, .int y5)] → st D (wN cI ad pa pl) A s u H locs → K11 y1 y2 y4 y5 = some r → W p l e R s m args below meth c H locs 0 0 (MQ below (qI D (tyl cI cB cL) (wN cI ad pa pl) A r u) args s 0 0 A) (F0 m 11 ls [])) {K46 : Int32 → Int32 → Int32 → Int32 → Int32 → Int32 → Option Int32} (hK46 : ∀ (y1 : Int32) (y2 : Int32) (y4 : Int32) (y5 : Int32) (y6 : Int32) (y7 : Int32) (H : Heap) (locs : List Loc) (ls : Array Slot), lv_has ls 9 [(1, .int y1), (2, .int y2), (3, .ref (ad 19)), (4, .int y4), (5, .int y5), (6, .int y6), (7, .int y7)] → st D (wN cI ad pa pl) A s u H locs → K46 y1 y2 y4 y5 y6 y7 = some r → W p l e R s m args below meth c H locs 0 0 (MQ below (qI D (tyl cI cB cL) (wN cI ad pa pl) A r u) args s 0 0 A) (F0 m 46 ls [])) (x1 : Int32) (x2 : Int32) (x4 : Int32) (x5 : Int32) (x6 : Int32) (x7 : Int32) {H : Heap} {locs : List Loc} {ls : Array Slot} (hl : lv_has ls 9 [(1, .int x1), (2, .int x2), (3, .ref (ad 19)), (4, .int x4), (5, .int x5), (6, .int x6), (7, .int x7)]) (S : st D (wN cI ad pa pl) A s u H locs) (h : fX0_partedPairs_97 K11 K46 x1 x2 x4 x5 x6 x7 u = some r) : W p l e R s m args below meth c H locs 0 0 (MQ below (qI D (tyl cI cB cL) (wN cI ad pa pl) A r u) args s 0 0 A) (F0 m 97 ls []) := by
  have hx := C.1
  have hb := C.2.1
  have hsz := hl.1
  unfold fX0_partedPairs_97 at h
  obtain ⟨v15, ev15⟩ : ∃ y : Int32, y = x7 + 1 := ⟨_, rfl⟩
  have h := bnd_of ev15 h
  refine lv_iinc (v := v15) (lv' := [(7, .int v15), (1, .int x1), (2, .int x2), (3, .ref (ad 19)), (4, .int x4), (5, .int x5), (6, .int x6)]) hx hb dX0_partedPairs_97 hl (k := 6) rfl (by rw [ev15]; rfl) (by decide) rfl (fun ls hl => ?_)
  have hsz := hl.1
  refine lv_goto (tgt := 46) hx hb dX0_partedPairs_100 (by decide) ?_
  exact hK46 x1 x2 x4 x5 x6 v15 H locs ls (lv_sub hl [1, 2, 3, 4, 5, 6, 0] rfl) S h
set_option maxRecDepth 10000 in
set_option maxHeartbeats 4000000 in
theorem wX0_partedPairs_46 (C : cx D (tyl cI cB cL) A RX0 cX0_partedPairs 9 (some .int) p s m args c meth) (hR : 2 ≤ R.frames ∧ 44 ≤ R.locals) {r : Int32} (u : Sg) {K11 : Int32 → Int32 → Int32 → Int32 → Option Int32} (hK11 : ∀ (y1 : Int32) (y2 : Int32) (y4 : Int32) (y5 : Int32) (H : Heap) (locs : List Loc) (ls : Array Slot), lv_has ls 9 [(1, .int y1), (2, .int y2), (3, .ref (ad 19)), (4, .int y4), (5, .int y5)] → st D (wN cI ad pa pl) A s u H locs → K11 y1 y2 y4 y5 = some r → W p l e R s m args below meth c H locs 0 0 (MQ below (qI D (tyl cI cB cL) (wN cI ad pa pl) A r u) args s 0 0 A) (F0 m 11 ls [])) : ∀ (n : Nat) (x1 : Int32) (x2 : Int32) (x4 : Int32) (x5 : Int32) (x6 : Int32) (x7 : Int32) (H : Heap) (locs : List Loc) (ls : Array Slot), lv_has ls 9 [(1, .int x1), (2, .int x2), (3, .ref (ad 19)), (4, .int x4), (5, .int x5), (6, .int x6), (7, .int x7)] → st D (wN cI ad pa pl) A s u H locs → fX0_partedPairs_46 K11 u n x1 x2 x4 x5 x6 x7 = some r → W p l e R s m args below meth c H locs 0 0 (MQ below (qI D (tyl cI cB cL) (wN cI ad pa pl) A r u) args s 0 0 A) (F0 m 46 ls []) := by
  have hx := C.1
  have hb := C.2.1
  intro n
  induction n with
  | zero =>
    intro x1 x2 x4 x5 x6 x7 H locs ls hl S h
    cases h
  | succ n ih =>
    intro x1 x2 x4 x5 x6 x7 H locs ls hl S h
    rw [fX0_partedPairs_46] at h
    have hsz := hl.1
    refine lv_iload hx hb dX0_partedPairs_46 (lv_at hl 6 rfl) ?_
    refine lv_aload_n hx hb dX0_partedPairs_48 rfl (lv_at hl 2 rfl) ?_
    refine q_get (v := .ref (ad 25)) C S (oN19 cI ad pa pl) rfl iwX4 5 (by decide) mw_387 rfl dX0_partedPairs_49 ?_
    refine lv_iload_n hx hb dX0_partedPairs_52 rfl (lv_at hl 0 rfl) ?_
    obtain ⟨g7, h⟩ := grd_some h
    refine q_iald C S (aN25 cI ad pa pl) 0 rfl g7 dX0_partedPairs_53 (j := (x1 : Int32).toNatClampNeg) rfl ?_
    refine lv_icmp_ge (tgt := 103) hx hb dX0_partedPairs_54 (by decide) (fun c8 => ?_) (fun c8 => ?_)
    · have h := cnd_t c8 h
      exact wX0_partedPairs_103 C hR u hK11 x1 x2 x4 x5 (lv_sub hl [0, 1, 2, 3, 4] rfl) S h
    · have h := cnd_f c8 h
      refine lv_iload hx hb dX0_partedPairs_57 (lv_at hl 5 rfl) ?_
      refine lv_iconst (v := (-1)) hx hb dX0_partedPairs_59 (by decide) ?_
      refine lv_icmp_eq (tgt := 103) hx hb dX0_partedPairs_60 (by decide) (fun c10 => ?_) (fun c10 => ?_)
      · have h := cnd_t c10 h
        exact wX0_partedPairs_103 C hR u hK11 x1 x2 x4 x5 (lv_sub hl [0, 1, 2, 3, 4] rfl) S h
      · have h := cnd_f c10 h
        refine lv_aload_n hx hb dX0_partedPairs_63 rfl (lv_at hl 2 rfl) ?_
        refine lv_iload_n hx hb dX0_partedPairs_64 rfl (lv_at hl 1 rfl) ?_
        refine lv_aload_n hx hb dX0_partedPairs_65 rfl (lv_at hl 2 rfl) ?_
        refine q_get (v := .ref (ad 24)) C S (oN19 cI ad pa pl) rfl iwX4 4 (by decide) mw_388 rfl dX0_partedPairs_66 ?_
        refine lv_iload_n hx hb dX0_partedPairs_69 rfl (lv_at hl 0 rfl) ?_
        refine lv_iload hx hb dX0_partedPairs_70 (lv_at hl 6 rfl) ?_
        refine q_callPN (As := [.int x1, .int x7]) (na := 2) C S (ct_X11_spotOf l D cI cB cL x1 x7) (List.mem_of_getElem? (i := 2) rfl) mw_322 mw_321 mw_320 hdX11_spotOf ⟨Nat.le_trans (Nat.le_of_ble_eq_true rfl) hR.1, Nat.le_trans (Nat.le_of_ble_eq_true rfl) hR.2⟩ rfl hsz ⟨Nat.zero_le _, Nat.zero_le _⟩ (Nat.le_of_ble_eq_true rfl) dX0_partedPairs_72 rfl (fun H locs S => ?_)
        obtain ⟨g11, h⟩ := grd_some h
        refine q_iald C S (aN24 cI ad pa pl) 0 rfl g11 dX0_partedPairs_75 (j := ((fX11_spotOf x1 x7) : Int32).toNatClampNeg) rfl ?_
        obtain ⟨r13, h12, h⟩ := obr_some h
        refine q_callVi (As := [.int x2, .int (u 24 (((fX11_spotOf x1 x7) : Int32).toNatClampNeg))]) (na := 2) C S (oN19 cI ad pa pl) rfl (ct_X4_placeOf l D cI cB cL ad pa pl x2 (u 24 (((fX11_spotOf x1 x7) : Int32).toNatClampNeg)) u h12) mw_385 mw_384 mw_386 mw_332 mw_383 hdX4_placeOf ⟨Nat.le_trans (Nat.le_of_ble_eq_true rfl) hR.1, Nat.le_trans (Nat.le_of_ble_eq_true rfl) hR.2⟩ rfl hsz ⟨Nat.zero_le _, Nat.zero_le _⟩ (Nat.le_of_ble_eq_true rfl) dX0_partedPairs_76 rfl (fun H locs S => ?_)
        refine lv_istore (lv' := [(8, .int r13), (1, .int x1), (2, .int x2), (3, .ref (ad 19)), (4, .int x4), (5, .int x5), (6, .int x6), (7, .int x7)]) hx hb dX0_partedPairs_79 hl (by decide) rfl (fun ls hl => ?_)
        have hsz := hl.1
        refine lv_iload hx hb dX0_partedPairs_81 (lv_at hl 0 rfl) ?_
        refine lv_iconst (v := (-1)) hx hb dX0_partedPairs_83 (by decide) ?_
        refine lv_icmp_eq (tgt := 97) hx hb dX0_partedPairs_84 (by decide) (fun c14 => ?_) (fun c14 => ?_)
        · have h := cnd_t c14 h
          exact wX0_partedPairs_97 C hR u hK11 ih x1 x2 x4 x5 x6 x7 (lv_sub hl [1, 2, 3, 4, 5, 6, 7] rfl) S h
        · have h := cnd_f c14 h
          refine lv_iload hx hb dX0_partedPairs_87 (lv_at hl 0 rfl) ?_
          refine lv_iload hx hb dX0_partedPairs_89 (lv_at hl 6 rfl) ?_
          refine lv_icmp_ge (tgt := 97) hx hb dX0_partedPairs_91 (by decide) (fun c16 => ?_) (fun c16 => ?_)
          · have h := cnd_t c16 h
            exact wX0_partedPairs_97 C hR u hK11 ih x1 x2 x4 x5 x6 x7 (lv_sub hl [1, 2, 3, 4, 5, 6, 7] rfl) S h
          · have h := cnd_f c16 h
            obtain ⟨v17, ev17⟩ : ∃ y : Int32, y = x4 + 1 := ⟨_, rfl⟩
            have h := bnd_of ev17 h
            refine lv_iinc (v := v17) (lv' := [(4, .int v17), (8, .int r13), (1, .int x1), (2, .int x2), (3, .ref (ad 19)), (5, .int x5), (6, .int x6), (7, .int x7)]) hx hb dX0_partedPairs_94 hl (k := 4) rfl (by rw [ev17]; rfl) (by decide) rfl (fun ls hl => ?_)
            have hsz := hl.1
            exact wX0_partedPairs_97 C hR u hK11 ih x1 x2 v17 x5 x6 x7 (lv_sub hl [2, 3, 4, 0, 5, 6, 7] rfl) S h
set_option maxRecDepth 10000 in
set_option maxHeartbeats 4000000 in
theorem wX0_partedPairs_11 (C : cx D (tyl cI cB cL) A RX0 cX0_partedPairs 9 (some .int) p s m args c meth) (hR : 2 ≤ R.frames ∧ 44 ≤ R.locals) {r : Int32} (u : Sg) : ∀ (n : Nat) (x1 : Int32) (x2 : Int32) (x4 : Int32) (x5 : Int32) (H : Heap) (locs : List Loc) (ls : Array Slot), lv_has ls 9 [(1, .int x1), (2, .int x2), (3, .ref (ad 19)), (4, .int x4), (5, .int x5)] → st D (wN cI ad pa pl) A s u H locs → fX0_partedPairs_11 u n x1 x2 x4 x5 = some r → W p l e R s m args below meth c H locs 0 0 (MQ below (qI D (tyl cI cB cL) (wN cI ad pa pl) A r u) args s 0 0 A) (F0 m 11 ls []) := by
  have hx := C.1
  have hb := C.2.1
  intro n
  induction n with
  | zero =>
    intro x1 x2 x4 x5 H locs ls hl S h
    cases h
  | succ n ih =>
    intro x1 x2 x4 x5 H locs ls hl S h
    rw [fX0_partedPairs_11] at h
    have hsz := hl.1
    refine lv_iload hx hb dX0_partedPairs_11 (lv_at hl 4 rfl) ?_
    refine lv_aload_n hx hb dX0_partedPairs_13 rfl (lv_at hl 2 rfl) ?_
    refine q_get (v := .ref (ad 25)) C S (oN19 cI ad pa pl) rfl iwX4 5 (by decide) mw_387 rfl dX0_partedPairs_14 ?_
    refine lv_iload_n hx hb dX0_partedPairs_17 rfl (lv_at hl 0 rfl) ?_
    obtain ⟨g1, h⟩ := grd_some h
    refine q_iald C S (aN25 cI ad pa pl) 0 rfl g1 dX0_partedPairs_18 (j := (x1 : Int32).toNatClampNeg) rfl ?_
    refine lv_icmp_ge (tgt := 109) hx hb dX0_partedPairs_19 (by decide) (fun c2 => ?_) (fun c2 => ?_)
    · have h := cnd_t c2 h
      refine lv_iload hx hb dX0_partedPairs_109 (lv_at hl 3 rfl) ?_
      exact q_iret C S (rt_R h) dX0_partedPairs_111
    · have h := cnd_f c2 h
      refine lv_aload_n hx hb dX0_partedPairs_22 rfl (lv_at hl 2 rfl) ?_
      refine lv_iload_n hx hb dX0_partedPairs_23 rfl (lv_at hl 1 rfl) ?_
      refine lv_aload_n hx hb dX0_partedPairs_24 rfl (lv_at hl 2 rfl) ?_
      refine q_get (v := .ref (ad 24)) C S (oN19 cI ad pa pl) rfl iwX4 4 (by decide) mw_388 rfl dX0_partedPairs_25 ?_
      refine lv_iload_n hx hb dX0_partedPairs_28 rfl (lv_at hl 0 rfl) ?_
      refine lv_iload hx hb dX0_partedPairs_29 (lv_at hl 4 rfl) ?_
      refine q_callPN (As := [.int x1, .int x5]) (na := 2) C S (ct_X11_spotOf l D cI cB cL x1 x5) (List.mem_of_getElem? (i := 2) rfl) mw_322 mw_321 mw_320 hdX11_spotOf ⟨Nat.le_trans (Nat.le_of_ble_eq_true rfl) hR.1, Nat.le_trans (Nat.le_of_ble_eq_true rfl) hR.2⟩ rfl hsz ⟨Nat.zero_le _, Nat.zero_le _⟩ (Nat.le_of_ble_eq_true rfl) dX0_partedPairs_31 rfl (fun H locs S => ?_)
      obtain ⟨g3, h⟩ := grd_some h
      refine q_iald C S (aN24 cI ad pa pl) 0 rfl g3 dX0_partedPairs_34 (j := ((fX11_spotOf x1 x5) : Int32).toNatClampNeg) rfl ?_
      obtain ⟨r5, h4, h⟩ := obr_some h
      refine q_callVi (As := [.int x2, .int (u 24 (((fX11_spotOf x1 x5) : Int32).toNatClampNeg))]) (na := 2) C S (oN19 cI ad pa pl) rfl (ct_X4_placeOf l D cI cB cL ad pa pl x2 (u 24 (((fX11_spotOf x1 x5) : Int32).toNatClampNeg)) u h4) mw_385 mw_384 mw_386 mw_332 mw_383 hdX4_placeOf ⟨Nat.le_trans (Nat.le_of_ble_eq_true rfl) hR.1, Nat.le_trans (Nat.le_of_ble_eq_true rfl) hR.2⟩ rfl hsz ⟨Nat.zero_le _, Nat.zero_le _⟩ (Nat.le_of_ble_eq_true rfl) dX0_partedPairs_35 rfl (fun H locs S => ?_)
      refine lv_istore (lv' := [(6, .int r5), (1, .int x1), (2, .int x2), (3, .ref (ad 19)), (4, .int x4), (5, .int x5)]) hx hb dX0_partedPairs_38 hl (by decide) rfl (fun ls hl => ?_)
      have hsz := hl.1
      refine lv_iload hx hb dX0_partedPairs_40 (lv_at hl 5 rfl) ?_
      refine lv_iconst (v := 1) hx hb dX0_partedPairs_42 (by decide) ?_
      refine lv_iadd hx hb dX0_partedPairs_43 ?_
      refine lv_topi (fun v6 ev6 => ?_)
      have h := bnd_of ev6 h
      refine lv_istore (lv' := [(7, .int v6), (6, .int r5), (1, .int x1), (2, .int x2), (3, .ref (ad 19)), (4, .int x4), (5, .int x5)]) hx hb dX0_partedPairs_44 hl (by decide) rfl (fun ls hl => ?_)
      have hsz := hl.1
      exact wX0_partedPairs_46 C hR u ih FU x1 x2 x4 x5 r5 v6 H locs ls (lv_sub hl [2, 3, 4, 5, 6, 1, 0] rfl) S h
set_option maxRecDepth 10000 in
set_option maxHeartbeats 4000000 in
theorem wX0_partedPairs_0 (C : cx D (tyl cI cB cL) A RX0 cX0_partedPairs 9 (some .int) p s m args c meth) (hR : 2 ≤ R.frames ∧ 44 ≤ R.locals) {r : Int32} (u : Sg) (x1 : Int32) (x2 : Int32) {H : Heap} {locs : List Loc} {ls : Array Slot} (hl : lv_has ls 9 [(0, .ref (ad 0)), (1, .int x1), (2, .int x2)]) (S : st D (wN cI ad pa pl) A s u H locs) (h : fX0_partedPairs_0 x1 x2 u = some r) : W p l e R s m args below meth c H locs 0 0 (MQ below (qI D (tyl cI cB cL) (wN cI ad pa pl) A r u) args s 0 0 A) (F0 m 0 ls []) := by
  have hx := C.1
  have hb := C.2.1
  have hsz := hl.1
  unfold fX0_partedPairs_0 at h
  refine lv_aload_n hx hb dX0_partedPairs_0 rfl (lv_at hl 0 rfl) ?_
  refine q_get (v := .ref (ad 19)) C S (oN0 cI ad pa pl) rfl iwX7 15 (by decide) mw_318 rfl dX0_partedPairs_1 ?_
  refine lv_astore_n (lv' := [(3, .ref (ad 19)), (0, .ref (ad 0)), (1, .int x1), (2, .int x2)]) hx hb dX0_partedPairs_4 rfl hl (by decide) rfl (fun ls hl => ?_)
  have hsz := hl.1
  refine lv_iconst (v := 0) hx hb dX0_partedPairs_5 (by decide) ?_
  refine lv_istore (lv' := [(4, .int 0), (3, .ref (ad 19)), (0, .ref (ad 0)), (1, .int x1), (2, .int x2)]) hx hb dX0_partedPairs_6 hl (by decide) rfl (fun ls hl => ?_)
  have hsz := hl.1
  refine lv_iconst (v := 0) hx hb dX0_partedPairs_8 (by decide) ?_
  refine lv_istore (lv' := [(5, .int 0), (4, .int 0), (3, .ref (ad 19)), (0, .ref (ad 0)), (1, .int x1), (2, .int x2)]) hx hb dX0_partedPairs_9 hl (by decide) rfl (fun ls hl => ?_)
  have hsz := hl.1
  exact wX0_partedPairs_11 C hR u FU x1 x2 0 0 H locs ls (lv_sub hl [4, 5, 2, 1, 0] rfl) S h
set_option maxRecDepth 10000 in
set_option maxHeartbeats 4000000 in
theorem ct_X0_partedPairs (l : Launch) (D : va_G) (cI cB cL : ClassId) (ad : Nat → Nat) (pa pl : Nat) (x1 : Int32) (x2 : Int32) (u : Sg) {r : Int32} (h : fX0_partedPairs x1 x2 u = some r) : metI l D (tyl cI cB cL) yX0_partedPairs cX0_partedPairs 9 (some .int) 2 44 (wN cI ad pa pl) [.ref (ad 0), .int x1, .int x2] u r u := by
  intro sz
  refine Met.ofW (cc := cX0_partedPairs) (maxL := 9) (ret := (some .int)) (by decide) rfl ?_
  intro p e s m args below meth c s₁ B hml hv
  obtain ⟨rfl, C, S⟩ := q_entry B hml hv
  have hl := lv_entry ([.ref (ad 0), .int x1, .int x2]) (n := 9) (Nat.le_of_ble_eq_true rfl)
  rw [lg_entry_eq]
  generalize (lg_sl ([.ref (ad 0), .int x1, .int x2]) ++ List.replicate (9 - (lg_sl ([.ref (ad 0), .int x1, .int x2])).length) Slot.unset).toArray = ls at hl ⊢
  exact wX0_partedPairs_0 C ⟨Nat.le_refl _, Nat.le_refl _⟩ u x1 x2 (lv_sub hl [0, 1, 2] rfl) S h
end S_20_n00
