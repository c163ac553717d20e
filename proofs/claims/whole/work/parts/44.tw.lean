def flT0 (cI cB : ClassId) (ad : Nat → Nat) (tr kt pa pl : Nat) (σ : Sg) : List Value := [.int (σ 0 0), .int (σ 0 1), .int (σ 0 2), .int (σ 0 3), .int (σ 0 4), .int (σ 0 5), .int (σ 0 6), .int (σ 0 7), .int (σ 0 8), .ref (ad 1), .ref (ad 2), .ref (ad 3), .ref (ad 4), .ref (ad 5), .ref (ad 13), .ref (ad 19), .ref (ad 26), .ref (ad 30), .ref (ad 34)]
def flT5 (cI cB : ClassId) (ad : Nat → Nat) (tr kt pa pl : Nat) (σ : Sg) : List Value := [.ref (ad 6), .ref (ad 7), .ref (ad 8), .ref (ad 9), .ref pa, .ref (ad 11), .ref (ad 12), .int (σ 5 7), .int (σ 5 8)]
def flT13 (cI cB : ClassId) (ad : Nat → Nat) (tr kt pa pl : Nat) (σ : Sg) : List Value := [.int (σ 13 0), .ref (ad 14), .ref (ad 15), .ref (ad 16), .ref (ad 17), .ref (ad 18)]
def flT19 (cI cB : ClassId) (ad : Nat → Nat) (tr kt pa pl : Nat) (σ : Sg) : List Value := [.ref (ad 20), .ref (ad 21), .ref (ad 22), .ref (ad 23), .ref (ad 24), .ref (ad 25)]
def flT26 (cI cB : ClassId) (ad : Nat → Nat) (tr kt pa pl : Nat) (σ : Sg) : List Value := [.ref (ad 27), .ref (ad 28), .ref (ad 29)]
def flT30 (cI cB : ClassId) (ad : Nat → Nat) (tr kt pa pl : Nat) (σ : Sg) : List Value := [.int (σ 30 0), .ref (ad 31), .ref (ad 32), .ref (ad 33)]
def flT34 (cI cB : ClassId) (ad : Nat → Nat) (tr kt pa pl : Nat) (σ : Sg) : List Value := [.int (σ 34 0), .int (σ 34 1), .ref (ad 35)]
def flT36 (cI cB : ClassId) (ad : Nat → Nat) (tr kt pa pl : Nat) (σ : Sg) : List Value := [.ref (ad 37), .ref (ad 39), .ref (ad 40), .ref kt, .ref (ad 0), .ref tr, .int (σ 36 6), .int (σ 36 7)]
def flT37 (cI cB : ClassId) (ad : Nat → Nat) (tr kt pa pl : Nat) (σ : Sg) : List Value := [.ref (ad 38), .int (σ 37 1)]
def flT39 (cI cB : ClassId) (ad : Nat → Nat) (tr kt pa pl : Nat) (σ : Sg) : List Value := [.ref (ad 37), .int (σ 39 1), .int (σ 39 2), .int (σ 39 3)]
def flT40 (cI cB : ClassId) (ad : Nat → Nat) (tr kt pa pl : Nat) (σ : Sg) : List Value := [.ref (ad 41), .int (σ 40 1)]
def wT (cI cB : ClassId) (ad : Nat → Nat) (tr kt pa pl : Nat) (σ : Sg) : va_W := [((ad 0), .inr (6, flT0 cI cB ad tr kt pa pl σ)), ((ad 1), .inl (cI, 6, .inl (σ 1))), ((ad 2), .inl (cI, 6, .inl (σ 2))), ((ad 3), .inl (cI, 6, .inl (σ 3))), ((ad 4), .inl (cI, 6, .inl (σ 4))), ((ad 5), .inr (0, flT5 cI cB ad tr kt pa pl σ)), ((ad 6), .inl (cI, 36, .inl (σ 6))), ((ad 7), .inl (cI, 36, .inl (σ 7))), ((ad 8), .inl (cI, 36, .inl (σ 8))), ((ad 9), .inl (cI, 36, .inl (σ 9))), (pa, .inl (cI, pl, .inl (σ 10))), ((ad 11), .inl (cI, 36, .inl (σ 11))), ((ad 12), .inl (cI, 36, .inl (σ 12))), ((ad 13), .inr (5, flT13 cI cB ad tr kt pa pl σ)), ((ad 14), .inl (cI, 20, .inl (σ 14))), ((ad 15), .inl (cI, 20, .inl (σ 15))), ((ad 16), .inl (cI, 20, .inl (σ 16))), ((ad 17), .inl (cI, 20, .inl (σ 17))), ((ad 18), .inl (cI, 20, .inl (σ 18))), ((ad 19), .inr (3, flT19 cI cB ad tr kt pa pl σ)), ((ad 20), .inl (cI, 120, .inl (σ 20))), ((ad 21), .inl (cI, 120, .inl (σ 21))), ((ad 22), .inl (cI, 120, .inl (σ 22))), ((ad 23), .inl (cI, 120, .inl (σ 23))), ((ad 24), .inl (cI, 120, .inl (σ 24))), ((ad 25), .inl (cI, 6, .inl (σ 25))), ((ad 26), .inr (2, flT26 cI cB ad tr kt pa pl σ)), ((ad 27), .inl (cI, 120, .inl (σ 27))), ((ad 28), .inl (cI, 120, .inl (σ 28))), ((ad 29), .inl (cI, 120, .inl (σ 29))), ((ad 30), .inr (1, flT30 cI cB ad tr kt pa pl σ)), ((ad 31), .inl (cI, 8, .inl (σ 31))), ((ad 32), .inl (cI, 8, .inl (σ 32))), ((ad 33), .inl (cI, 8, .inl (σ 33))), ((ad 34), .inr (4, flT34 cI cB ad tr kt pa pl σ)), ((ad 35), .inl (cI, 240, .inl (σ 35))), ((ad 36), .inr (10, flT36 cI cB ad tr kt pa pl σ)), ((ad 37), .inr (9, flT37 cI cB ad tr kt pa pl σ)), ((ad 38), .inl (cB, 400, .inl (σ 38))), ((ad 39), .inr (8, flT39 cI cB ad tr kt pa pl σ)), ((ad 40), .inr (7, flT40 cI cB ad tr kt pa pl σ)), ((ad 41), .inl (cI, 20, .inl (σ 41)))]
theorem oT0 (cI cB : ClassId) (ad : Nat → Nat) (tr kt pa pl : Nat) : objAt (wT cI cB ad tr kt pa pl) 0 (ad 0) 6 (flT0 cI cB ad tr kt pa pl) := fun _ => rfl
theorem iT0_0 (cI cB : ClassId) (ad : Nat → Nat) (tr kt pa pl : Nat) : intAt (wT cI cB ad tr kt pa pl) 0 (ad 0) 6 (flT0 cI cB ad tr kt pa pl) 0 := ⟨fun _ => rfl, fun _ _ => rfl⟩
theorem iT0_1 (cI cB : ClassId) (ad : Nat → Nat) (tr kt pa pl : Nat) : intAt (wT cI cB ad tr kt pa pl) 0 (ad 0) 6 (flT0 cI cB ad tr kt pa pl) 1 := ⟨fun _ => rfl, fun _ _ => rfl⟩
theorem iT0_2 (cI cB : ClassId) (ad : Nat → Nat) (tr kt pa pl : Nat) : intAt (wT cI cB ad tr kt pa pl) 0 (ad 0) 6 (flT0 cI cB ad tr kt pa pl) 2 := ⟨fun _ => rfl, fun _ _ => rfl⟩
theorem iT0_3 (cI cB : ClassId) (ad : Nat → Nat) (tr kt pa pl : Nat) : intAt (wT cI cB ad tr kt pa pl) 0 (ad 0) 6 (flT0 cI cB ad tr kt pa pl) 3 := ⟨fun _ => rfl, fun _ _ => rfl⟩
theorem iT0_4 (cI cB : ClassId) (ad : Nat → Nat) (tr kt pa pl : Nat) : intAt (wT cI cB ad tr kt pa pl) 0 (ad 0) 6 (flT0 cI cB ad tr kt pa pl) 4 := ⟨fun _ => rfl, fun _ _ => rfl⟩
theorem iT0_5 (cI cB : ClassId) (ad : Nat → Nat) (tr kt pa pl : Nat) : intAt (wT cI cB ad tr kt pa pl) 0 (ad 0) 6 (flT0 cI cB ad tr kt pa pl) 5 := ⟨fun _ => rfl, fun _ _ => rfl⟩
theorem iT0_6 (cI cB : ClassId) (ad : Nat → Nat) (tr kt pa pl : Nat) : intAt (wT cI cB ad tr kt pa pl) 0 (ad 0) 6 (flT0 cI cB ad tr kt pa pl) 6 := ⟨fun _ => rfl, fun _ _ => rfl⟩
theorem iT0_7 (cI cB : ClassId) (ad : Nat → Nat) (tr kt pa pl : Nat) : intAt (wT cI cB ad tr kt pa pl) 0 (ad 0) 6 (flT0 cI cB ad tr kt pa pl) 7 := ⟨fun _ => rfl, fun _ _ => rfl⟩
theorem iT0_8 (cI cB : ClassId) (ad : Nat → Nat) (tr kt pa pl : Nat) : intAt (wT cI cB ad tr kt pa pl) 0 (ad 0) 6 (flT0 cI cB ad tr kt pa pl) 8 := ⟨fun _ => rfl, fun _ _ => rfl⟩
theorem aT1 (cI cB : ClassId) (ad : Nat → Nat) (tr kt pa pl : Nat) : arrAt (wT cI cB ad tr kt pa pl) 1 (ad 1) cI 6 := ⟨fun _ => rfl, fun _ _ => rfl⟩
theorem aT2 (cI cB : ClassId) (ad : Nat → Nat) (tr kt pa pl : Nat) : arrAt (wT cI cB ad tr kt pa pl) 2 (ad 2) cI 6 := ⟨fun _ => rfl, fun _ _ => rfl⟩
theorem aT3 (cI cB : ClassId) (ad : Nat → Nat) (tr kt pa pl : Nat) : arrAt (wT cI cB ad tr kt pa pl) 3 (ad 3) cI 6 := ⟨fun _ => rfl, fun _ _ => rfl⟩
theorem aT4 (cI cB : ClassId) (ad : Nat → Nat) (tr kt pa pl : Nat) : arrAt (wT cI cB ad tr kt pa pl) 4 (ad 4) cI 6 := ⟨fun _ => rfl, fun _ _ => rfl⟩
theorem oT5 (cI cB : ClassId) (ad : Nat → Nat) (tr kt pa pl : Nat) : objAt (wT cI cB ad tr kt pa pl) 5 (ad 5) 0 (flT5 cI cB ad tr kt pa pl) := fun _ => rfl
theorem iT5_7 (cI cB : ClassId) (ad : Nat → Nat) (tr kt pa pl : Nat) : intAt (wT cI cB ad tr kt pa pl) 5 (ad 5) 0 (flT5 cI cB ad tr kt pa pl) 7 := ⟨fun _ => rfl, fun _ _ => rfl⟩
theorem iT5_8 (cI cB : ClassId) (ad : Nat → Nat) (tr kt pa pl : Nat) : intAt (wT cI cB ad tr kt pa pl) 5 (ad 5) 0 (flT5 cI cB ad tr kt pa pl) 8 := ⟨fun _ => rfl, fun _ _ => rfl⟩
theorem aT6 (cI cB : ClassId) (ad : Nat → Nat) (tr kt pa pl : Nat) : arrAt (wT cI cB ad tr kt pa pl) 6 (ad 6) cI 36 := ⟨fun _ => rfl, fun _ _ => rfl⟩
theorem aT7 (cI cB : ClassId) (ad : Nat → Nat) (tr kt pa pl : Nat) : arrAt (wT cI cB ad tr kt pa pl) 7 (ad 7) cI 36 := ⟨fun _ => rfl, fun _ _ => rfl⟩
theorem aT8 (cI cB : ClassId) (ad : Nat → Nat) (tr kt pa pl : Nat) : arrAt (wT cI cB ad tr kt pa pl) 8 (ad 8) cI 36 := ⟨fun _ => rfl, fun _ _ => rfl⟩
theorem aT9 (cI cB : ClassId) (ad : Nat → Nat) (tr kt pa pl : Nat) : arrAt (wT cI cB ad tr kt pa pl) 9 (ad 9) cI 36 := ⟨fun _ => rfl, fun _ _ => rfl⟩
theorem aT10 (cI cB : ClassId) (ad : Nat → Nat) (tr kt pa pl : Nat) : arrAt (wT cI cB ad tr kt pa pl) 10 pa cI pl := ⟨fun _ => rfl, fun _ _ => rfl⟩
theorem aT11 (cI cB : ClassId) (ad : Nat → Nat) (tr kt pa pl : Nat) : arrAt (wT cI cB ad tr kt pa pl) 11 (ad 11) cI 36 := ⟨fun _ => rfl, fun _ _ => rfl⟩
theorem aT12 (cI cB : ClassId) (ad : Nat → Nat) (tr kt pa pl : Nat) : arrAt (wT cI cB ad tr kt pa pl) 12 (ad 12) cI 36 := ⟨fun _ => rfl, fun _ _ => rfl⟩
theorem oT13 (cI cB : ClassId) (ad : Nat → Nat) (tr kt pa pl : Nat) : objAt (wT cI cB ad tr kt pa pl) 13 (ad 13) 5 (flT13 cI cB ad tr kt pa pl) := fun _ => rfl
theorem iT13_0 (cI cB : ClassId) (ad : Nat → Nat) (tr kt pa pl : Nat) : intAt (wT cI cB ad tr kt pa pl) 13 (ad 13) 5 (flT13 cI cB ad tr kt pa pl) 0 := ⟨fun _ => rfl, fun _ _ => rfl⟩
theorem aT14 (cI cB : ClassId) (ad : Nat → Nat) (tr kt pa pl : Nat) : arrAt (wT cI cB ad tr kt pa pl) 14 (ad 14) cI 20 := ⟨fun _ => rfl, fun _ _ => rfl⟩
theorem aT15 (cI cB : ClassId) (ad : Nat → Nat) (tr kt pa pl : Nat) : arrAt (wT cI cB ad tr kt pa pl) 15 (ad 15) cI 20 := ⟨fun _ => rfl, fun _ _ => rfl⟩
theorem aT16 (cI cB : ClassId) (ad : Nat → Nat) (tr kt pa pl : Nat) : arrAt (wT cI cB ad tr kt pa pl) 16 (ad 16) cI 20 := ⟨fun _ => rfl, fun _ _ => rfl⟩
theorem aT17 (cI cB : ClassId) (ad : Nat → Nat) (tr kt pa pl : Nat) : arrAt (wT cI cB ad tr kt pa pl) 17 (ad 17) cI 20 := ⟨fun _ => rfl, fun _ _ => rfl⟩
theorem aT18 (cI cB : ClassId) (ad : Nat → Nat) (tr kt pa pl : Nat) : arrAt (wT cI cB ad tr kt pa pl) 18 (ad 18) cI 20 := ⟨fun _ => rfl, fun _ _ => rfl⟩
theorem oT19 (cI cB : ClassId) (ad : Nat → Nat) (tr kt pa pl : Nat) : objAt (wT cI cB ad tr kt pa pl) 19 (ad 19) 3 (flT19 cI cB ad tr kt pa pl) := fun _ => rfl
theorem aT20 (cI cB : ClassId) (ad : Nat → Nat) (tr kt pa pl : Nat) : arrAt (wT cI cB ad tr kt pa pl) 20 (ad 20) cI 120 := ⟨fun _ => rfl, fun _ _ => rfl⟩
theorem aT21 (cI cB : ClassId) (ad : Nat → Nat) (tr kt pa pl : Nat) : arrAt (wT cI cB ad tr kt pa pl) 21 (ad 21) cI 120 := ⟨fun _ => rfl, fun _ _ => rfl⟩
theorem aT22 (cI cB : ClassId) (ad : Nat → Nat) (tr kt pa pl : Nat) : arrAt (wT cI cB ad tr kt pa pl) 22 (ad 22) cI 120 := ⟨fun _ => rfl, fun _ _ => rfl⟩
theorem aT23 (cI cB : ClassId) (ad : Nat → Nat) (tr kt pa pl : Nat) : arrAt (wT cI cB ad tr kt pa pl) 23 (ad 23) cI 120 := ⟨fun _ => rfl, fun _ _ => rfl⟩
theorem aT24 (cI cB : ClassId) (ad : Nat → Nat) (tr kt pa pl : Nat) : arrAt (wT cI cB ad tr kt pa pl) 24 (ad 24) cI 120 := ⟨fun _ => rfl, fun _ _ => rfl⟩
theorem aT25 (cI cB : ClassId) (ad : Nat → Nat) (tr kt pa pl : Nat) : arrAt (wT cI cB ad tr kt pa pl) 25 (ad 25) cI 6 := ⟨fun _ => rfl, fun _ _ => rfl⟩
theorem oT26 (cI cB : ClassId) (ad : Nat → Nat) (tr kt pa pl : Nat) : objAt (wT cI cB ad tr kt pa pl) 26 (ad 26) 2 (flT26 cI cB ad tr kt pa pl) := fun _ => rfl
theorem aT27 (cI cB : ClassId) (ad : Nat → Nat) (tr kt pa pl : Nat) : arrAt (wT cI cB ad tr kt pa pl) 27 (ad 27) cI 120 := ⟨fun _ => rfl, fun _ _ => rfl⟩
theorem aT28 (cI cB : ClassId) (ad : Nat → Nat) (tr kt pa pl : Nat) : arrAt (wT cI cB ad tr kt pa pl) 28 (ad 28) cI 120 := ⟨fun _ => rfl, fun _ _ => rfl⟩
theorem aT29 (cI cB : ClassId) (ad : Nat → Nat) (tr kt pa pl : Nat) : arrAt (wT cI cB ad tr kt pa pl) 29 (ad 29) cI 120 := ⟨fun _ => rfl, fun _ _ => rfl⟩
theorem oT30 (cI cB : ClassId) (ad : Nat → Nat) (tr kt pa pl : Nat) : objAt (wT cI cB ad tr kt pa pl) 30 (ad 30) 1 (flT30 cI cB ad tr kt pa pl) := fun _ => rfl
theorem iT30_0 (cI cB : ClassId) (ad : Nat → Nat) (tr kt pa pl : Nat) : intAt (wT cI cB ad tr kt pa pl) 30 (ad 30) 1 (flT30 cI cB ad tr kt pa pl) 0 := ⟨fun _ => rfl, fun _ _ => rfl⟩
theorem aT31 (cI cB : ClassId) (ad : Nat → Nat) (tr kt pa pl : Nat) : arrAt (wT cI cB ad tr kt pa pl) 31 (ad 31) cI 8 := ⟨fun _ => rfl, fun _ _ => rfl⟩
theorem aT32 (cI cB : ClassId) (ad : Nat → Nat) (tr kt pa pl : Nat) : arrAt (wT cI cB ad tr kt pa pl) 32 (ad 32) cI 8 := ⟨fun _ => rfl, fun _ _ => rfl⟩
theorem aT33 (cI cB : ClassId) (ad : Nat → Nat) (tr kt pa pl : Nat) : arrAt (wT cI cB ad tr kt pa pl) 33 (ad 33) cI 8 := ⟨fun _ => rfl, fun _ _ => rfl⟩
theorem oT34 (cI cB : ClassId) (ad : Nat → Nat) (tr kt pa pl : Nat) : objAt (wT cI cB ad tr kt pa pl) 34 (ad 34) 4 (flT34 cI cB ad tr kt pa pl) := fun _ => rfl
theorem iT34_0 (cI cB : ClassId) (ad : Nat → Nat) (tr kt pa pl : Nat) : intAt (wT cI cB ad tr kt pa pl) 34 (ad 34) 4 (flT34 cI cB ad tr kt pa pl) 0 := ⟨fun _ => rfl, fun _ _ => rfl⟩
theorem iT34_1 (cI cB : ClassId) (ad : Nat → Nat) (tr kt pa pl : Nat) : intAt (wT cI cB ad tr kt pa pl) 34 (ad 34) 4 (flT34 cI cB ad tr kt pa pl) 1 := ⟨fun _ => rfl, fun _ _ => rfl⟩
theorem aT35 (cI cB : ClassId) (ad : Nat → Nat) (tr kt pa pl : Nat) : arrAt (wT cI cB ad tr kt pa pl) 35 (ad 35) cI 240 := ⟨fun _ => rfl, fun _ _ => rfl⟩
theorem oT36 (cI cB : ClassId) (ad : Nat → Nat) (tr kt pa pl : Nat) : objAt (wT cI cB ad tr kt pa pl) 36 (ad 36) 10 (flT36 cI cB ad tr kt pa pl) := fun _ => rfl
theorem iT36_6 (cI cB : ClassId) (ad : Nat → Nat) (tr kt pa pl : Nat) : intAt (wT cI cB ad tr kt pa pl) 36 (ad 36) 10 (flT36 cI cB ad tr kt pa pl) 6 := ⟨fun _ => rfl, fun _ _ => rfl⟩
theorem iT36_7 (cI cB : ClassId) (ad : Nat → Nat) (tr kt pa pl : Nat) : intAt (wT cI cB ad tr kt pa pl) 36 (ad 36) 10 (flT36 cI cB ad tr kt pa pl) 7 := ⟨fun _ => rfl, fun _ _ => rfl⟩
theorem oT37 (cI cB : ClassId) (ad : Nat → Nat) (tr kt pa pl : Nat) : objAt (wT cI cB ad tr kt pa pl) 37 (ad 37) 9 (flT37 cI cB ad tr kt pa pl) := fun _ => rfl
theorem iT37_1 (cI cB : ClassId) (ad : Nat → Nat) (tr kt pa pl : Nat) : intAt (wT cI cB ad tr kt pa pl) 37 (ad 37) 9 (flT37 cI cB ad tr kt pa pl) 1 := ⟨fun _ => rfl, fun _ _ => rfl⟩
theorem aT38 (cI cB : ClassId) (ad : Nat → Nat) (tr kt pa pl : Nat) : arrAt (wT cI cB ad tr kt pa pl) 38 (ad 38) cB 400 := ⟨fun _ => rfl, fun _ _ => rfl⟩
theorem oT39 (cI cB : ClassId) (ad : Nat → Nat) (tr kt pa pl : Nat) : objAt (wT cI cB ad tr kt pa pl) 39 (ad 39) 8 (flT39 cI cB ad tr kt pa pl) := fun _ => rfl
theorem iT39_1 (cI cB : ClassId) (ad : Nat → Nat) (tr kt pa pl : Nat) : intAt (wT cI cB ad tr kt pa pl) 39 (ad 39) 8 (flT39 cI cB ad tr kt pa pl) 1 := ⟨fun _ => rfl, fun _ _ => rfl⟩
theorem iT39_2 (cI cB : ClassId) (ad : Nat → Nat) (tr kt pa pl : Nat) : intAt (wT cI cB ad tr kt pa pl) 39 (ad 39) 8 (flT39 cI cB ad tr kt pa pl) 2 := ⟨fun _ => rfl, fun _ _ => rfl⟩
theorem iT39_3 (cI cB : ClassId) (ad : Nat → Nat) (tr kt pa pl : Nat) : intAt (wT cI cB ad tr kt pa pl) 39 (ad 39) 8 (flT39 cI cB ad tr kt pa pl) 3 := ⟨fun _ => rfl, fun _ _ => rfl⟩
theorem oT40 (cI cB : ClassId) (ad : Nat → Nat) (tr kt pa pl : Nat) : objAt (wT cI cB ad tr kt pa pl) 40 (ad 40) 7 (flT40 cI cB ad tr kt pa pl) := fun _ => rfl
theorem iT40_1 (cI cB : ClassId) (ad : Nat → Nat) (tr kt pa pl : Nat) : intAt (wT cI cB ad tr kt pa pl) 40 (ad 40) 7 (flT40 cI cB ad tr kt pa pl) 1 := ⟨fun _ => rfl, fun _ _ => rfl⟩
theorem aT41 (cI cB : ClassId) (ad : Nat → Nat) (tr kt pa pl : Nat) : arrAt (wT cI cB ad tr kt pa pl) 41 (ad 41) cI 20 := ⟨fun _ => rfl, fun _ _ => rfl⟩
theorem iwX11 : ∀ w ∈ u_ws RX11 TX11 8, w ∈ gw := by
  intro w hw
  obtain ⟨k, hk, rfl⟩ := List.mem_map.mp hw
  have hk := List.mem_range.mp hk
  rcases (show k = 0 ∨ k = 1 ∨ k = 2 ∨ k = 3 ∨ k = 4 ∨ k = 5 ∨ k = 6 ∨ k = 7 by omega) with rfl | rfl | rfl | rfl | rfl | rfl | rfl | rfl
  · exact gw_t2 146 rfl rfl
  · exact gw_t2 148 rfl rfl
  · exact gw_t2 150 rfl rfl
  · exact gw_t2 152 rfl rfl
  · exact gw_t2 154 rfl rfl
  · exact gw_t2 156 rfl rfl
  · exact gw_t2 158 rfl rfl
  · exact gw_t2 160 rfl rfl
def sbTN (σ : Sg) : Sg := fun q => if 0 ≤ q ∧ q < 36 then σ (0 + (q - 0)) else σ q
def ubTN (σ ν : Sg) : Sg := fun q => if 0 ≤ q ∧ q < 36 then ν (0 + (q - 0)) else σ q
def adTN (ad : Nat → Nat) : Nat → Nat := fun k => if 0 ≤ k ∧ k < 36 then ad (0 + (k - 0)) else ad k
set_option maxRecDepth 20000 in
set_option maxHeartbeats 4000000 in
theorem spl_TN (cI cB : ClassId) (ad : Nat → Nat) (tr kt : Nat) : splA (wT cI cB ad tr kt) (wN cI (adTN ad)) sbTN ubTN [0,1,2,3,4,5,6,7,8,9,10,11,12,13,14,15,16,17,18,19,20,21,22,23,24,25,26,27,28,29,30,31,32,33,34,35] [36,37,38,39,40,41] [6,7,8,9,10,11,12,13,14,15,16,17,18,19,20,21,22,23,24,25,26,27,28,29,30,31,32,33,34,35,36,37,38,39,40,41,0,1,2,3,4,5] := by
  refine ⟨fun _ _ _ => rfl, fun _ _ _ _ _ _ => rfl, fun _ _ _ => rfl, by decide, by decide, by decide, by decide, fun σ => ?_⟩
  funext q
  unfold ubTN
  by_cases h0 : 0 ≤ q ∧ q < 36
  · rw [if_pos h0]; unfold sbTN; rw [if_pos (by omega)]; congr 1; omega
  · rw [if_neg h0]
def sbTO (σ : Sg) : Sg := fun q => if 0 ≤ q ∧ q < 36 then σ (0 + (q - 0)) else if 36 ≤ q ∧ q < 38 then σ (40 + (q - 36)) else σ q
def ubTO (σ ν : Sg) : Sg := fun q => if 0 ≤ q ∧ q < 36 then ν (0 + (q - 0)) else if 40 ≤ q ∧ q < 42 then ν (36 + (q - 40)) else σ q
def adTO (ad : Nat → Nat) : Nat → Nat := fun k => if 0 ≤ k ∧ k < 36 then ad (0 + (k - 0)) else if 36 ≤ k ∧ k < 38 then ad (40 + (k - 36)) else ad k
set_option maxRecDepth 20000 in
set_option maxHeartbeats 4000000 in
theorem spl_TO (cI cB : ClassId) (ad : Nat → Nat) (tr kt : Nat) : splA (wT cI cB ad tr kt) (wO cI (adTO ad)) sbTO ubTO [0,1,2,3,4,5,6,7,8,9,10,11,12,13,14,15,16,17,18,19,20,21,22,23,24,25,26,27,28,29,30,31,32,33,34,35,40,41] [36,37,38,39] [4,5,6,7,8,9,10,11,12,13,14,15,16,17,18,19,20,21,22,23,24,25,26,27,28,29,30,31,32,33,34,35,36,37,38,39,0,1,2,3,40,41] := by
  refine ⟨fun _ _ _ => rfl, fun _ _ _ _ _ _ => rfl, fun _ _ _ => rfl, by decide, by decide, by decide, by decide, fun σ => ?_⟩
  funext q
  unfold ubTO
  by_cases h0 : 0 ≤ q ∧ q < 36
  · rw [if_pos h0]; unfold sbTO; rw [if_pos (by omega)]; congr 1; omega
  · rw [if_neg h0]
    by_cases h1 : 40 ≤ q ∧ q < 42
    · rw [if_pos h1]; unfold sbTO; rw [if_neg (by omega)]; rw [if_pos (by omega)]; congr 1; omega
    · rw [if_neg h1]
def sbTQ (σ : Sg) : Sg := fun q => if 0 ≤ q ∧ q < 2 then σ (37 + (q - 0)) else σ q
def ubTQ (σ ν : Sg) : Sg := fun q => if 37 ≤ q ∧ q < 39 then ν (0 + (q - 37)) else σ q
def adTQ (ad : Nat → Nat) : Nat → Nat := fun k => if 0 ≤ k ∧ k < 2 then ad (37 + (k - 0)) else ad k
set_option maxRecDepth 20000 in
set_option maxHeartbeats 4000000 in
theorem spl_TQ (cI cB : ClassId) (ad : Nat → Nat) (tr kt pa pl : Nat) : splA (fun _ _ => wT cI cB ad tr kt pa pl) (fun _ _ => wQ cB (adTQ ad)) sbTQ ubTQ [37,38] [0,1,2,3,4,5,6,7,8,9,10,11,12,13,14,15,16,17,18,19,20,21,22,23,24,25,26,27,28,29,30,31,32,33,34,35,36,39,40,41] [0,1,2,3,4,5,6,7,8,9,10,11,12,13,14,15,16,17,18,19,20,21,22,23,24,25,26,27,28,29,30,31,32,33,34,35,36,40,41,37,38,39] := by
  refine ⟨fun _ _ _ => rfl, fun _ _ _ _ _ _ => rfl, fun _ _ _ => rfl, by decide, by decide, by decide, by decide, fun σ => ?_⟩
  funext q
  unfold ubTQ
  by_cases h0 : 37 ≤ q ∧ q < 39
  · rw [if_pos h0]; unfold sbTQ; rw [if_pos (by omega)]; congr 1; omega
  · rw [if_neg h0]
