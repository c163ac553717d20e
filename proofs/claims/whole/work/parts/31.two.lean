def fl20 (cI : ClassId) (ad : Nat → Nat) (p2 l2 pa pl : Nat) (σ : Sg) : List Value := [.int (σ 0 0), .int (σ 0 1), .int (σ 0 2), .int (σ 0 3), .int (σ 0 4), .int (σ 0 5), .int (σ 0 6), .int (σ 0 7), .int (σ 0 8), .ref (ad 1), .ref (ad 2), .ref (ad 3), .ref (ad 4), .ref (ad 5), .ref (ad 13), .ref (ad 19), .ref (ad 26), .ref (ad 30), .ref (ad 34)]
def fl25 (cI : ClassId) (ad : Nat → Nat) (p2 l2 pa pl : Nat) (σ : Sg) : List Value := [.ref (ad 6), .ref (ad 7), .ref (ad 8), .ref (ad 9), .ref pa, .ref (ad 11), .ref (ad 12), .int (σ 5 7), .int (σ 5 8)]
def fl213 (cI : ClassId) (ad : Nat → Nat) (p2 l2 pa pl : Nat) (σ : Sg) : List Value := [.int (σ 13 0), .ref (ad 14), .ref (ad 15), .ref (ad 16), .ref (ad 17), .ref (ad 18)]
def fl219 (cI : ClassId) (ad : Nat → Nat) (p2 l2 pa pl : Nat) (σ : Sg) : List Value := [.ref (ad 20), .ref (ad 21), .ref (ad 22), .ref (ad 23), .ref (ad 24), .ref (ad 25)]
def fl226 (cI : ClassId) (ad : Nat → Nat) (p2 l2 pa pl : Nat) (σ : Sg) : List Value := [.ref (ad 27), .ref (ad 28), .ref (ad 29)]
def fl230 (cI : ClassId) (ad : Nat → Nat) (p2 l2 pa pl : Nat) (σ : Sg) : List Value := [.int (σ 30 0), .ref (ad 31), .ref (ad 32), .ref (ad 33)]
def fl234 (cI : ClassId) (ad : Nat → Nat) (p2 l2 pa pl : Nat) (σ : Sg) : List Value := [.int (σ 34 0), .int (σ 34 1), .ref (ad 35)]
def fl236 (cI : ClassId) (ad : Nat → Nat) (p2 l2 pa pl : Nat) (σ : Sg) : List Value := [.int (σ 36 0), .int (σ 36 1), .int (σ 36 2), .int (σ 36 3), .int (σ 36 4), .int (σ 36 5), .int (σ 36 6), .int (σ 36 7), .int (σ 36 8), .ref (ad 37), .ref (ad 38), .ref (ad 39), .ref (ad 40), .ref (ad 41), .ref (ad 49), .ref (ad 55), .ref (ad 62), .ref (ad 66), .ref (ad 70)]
def fl241 (cI : ClassId) (ad : Nat → Nat) (p2 l2 pa pl : Nat) (σ : Sg) : List Value := [.ref (ad 42), .ref (ad 43), .ref (ad 44), .ref (ad 45), .ref p2, .ref (ad 47), .ref (ad 48), .int (σ 41 7), .int (σ 41 8)]
def fl249 (cI : ClassId) (ad : Nat → Nat) (p2 l2 pa pl : Nat) (σ : Sg) : List Value := [.int (σ 49 0), .ref (ad 50), .ref (ad 51), .ref (ad 52), .ref (ad 53), .ref (ad 54)]
def fl255 (cI : ClassId) (ad : Nat → Nat) (p2 l2 pa pl : Nat) (σ : Sg) : List Value := [.ref (ad 56), .ref (ad 57), .ref (ad 58), .ref (ad 59), .ref (ad 60), .ref (ad 61)]
def fl262 (cI : ClassId) (ad : Nat → Nat) (p2 l2 pa pl : Nat) (σ : Sg) : List Value := [.ref (ad 63), .ref (ad 64), .ref (ad 65)]
def fl266 (cI : ClassId) (ad : Nat → Nat) (p2 l2 pa pl : Nat) (σ : Sg) : List Value := [.int (σ 66 0), .ref (ad 67), .ref (ad 68), .ref (ad 69)]
def fl270 (cI : ClassId) (ad : Nat → Nat) (p2 l2 pa pl : Nat) (σ : Sg) : List Value := [.int (σ 70 0), .int (σ 70 1), .ref (ad 71)]
def w2 (cI : ClassId) (ad : Nat → Nat) (p2 l2 pa pl : Nat) (σ : Sg) : va_W := [((ad 0), .inr (6, fl20 cI ad p2 l2 pa pl σ)), ((ad 1), .inl (cI, 6, .inl (σ 1))), ((ad 2), .inl (cI, 6, .inl (σ 2))), ((ad 3), .inl (cI, 6, .inl (σ 3))), ((ad 4), .inl (cI, 6, .inl (σ 4))), ((ad 5), .inr (0, fl25 cI ad p2 l2 pa pl σ)), ((ad 6), .inl (cI, 36, .inl (σ 6))), ((ad 7), .inl (cI, 36, .inl (σ 7))), ((ad 8), .inl (cI, 36, .inl (σ 8))), ((ad 9), .inl (cI, 36, .inl (σ 9))), (pa, .inl (cI, pl, .inl (σ 10))), ((ad 11), .inl (cI, 36, .inl (σ 11))), ((ad 12), .inl (cI, 36, .inl (σ 12))), ((ad 13), .inr (5, fl213 cI ad p2 l2 pa pl σ)), ((ad 14), .inl (cI, 20, .inl (σ 14))), ((ad 15), .inl (cI, 20, .inl (σ 15))), ((ad 16), .inl (cI, 20, .inl (σ 16))), ((ad 17), .inl (cI, 20, .inl (σ 17))), ((ad 18), .inl (cI, 20, .inl (σ 18))), ((ad 19), .inr (3, fl219 cI ad p2 l2 pa pl σ)), ((ad 20), .inl (cI, 120, .inl (σ 20))), ((ad 21), .inl (cI, 120, .inl (σ 21))), ((ad 22), .inl (cI, 120, .inl (σ 22))), ((ad 23), .inl (cI, 120, .inl (σ 23))), ((ad 24), .inl (cI, 120, .inl (σ 24))), ((ad 25), .inl (cI, 6, .inl (σ 25))), ((ad 26), .inr (2, fl226 cI ad p2 l2 pa pl σ)), ((ad 27), .inl (cI, 120, .inl (σ 27))), ((ad 28), .inl (cI, 120, .inl (σ 28))), ((ad 29), .inl (cI, 120, .inl (σ 29))), ((ad 30), .inr (1, fl230 cI ad p2 l2 pa pl σ)), ((ad 31), .inl (cI, 8, .inl (σ 31))), ((ad 32), .inl (cI, 8, .inl (σ 32))), ((ad 33), .inl (cI, 8, .inl (σ 33))), ((ad 34), .inr (4, fl234 cI ad p2 l2 pa pl σ)), ((ad 35), .inl (cI, 240, .inl (σ 35))), ((ad 36), .inr (6, fl236 cI ad p2 l2 pa pl σ)), ((ad 37), .inl (cI, 6, .inl (σ 37))), ((ad 38), .inl (cI, 6, .inl (σ 38))), ((ad 39), .inl (cI, 6, .inl (σ 39))), ((ad 40), .inl (cI, 6, .inl (σ 40))), ((ad 41), .inr (0, fl241 cI ad p2 l2 pa pl σ)), ((ad 42), .inl (cI, 36, .inl (σ 42))), ((ad 43), .inl (cI, 36, .inl (σ 43))), ((ad 44), .inl (cI, 36, .inl (σ 44))), ((ad 45), .inl (cI, 36, .inl (σ 45))), (p2, .inl (cI, l2, .inl (σ 46))), ((ad 47), .inl (cI, 36, .inl (σ 47))), ((ad 48), .inl (cI, 36, .inl (σ 48))), ((ad 49), .inr (5, fl249 cI ad p2 l2 pa pl σ)), ((ad 50), .inl (cI, 20, .inl (σ 50))), ((ad 51), .inl (cI, 20, .inl (σ 51))), ((ad 52), .inl (cI, 20, .inl (σ 52))), ((ad 53), .inl (cI, 20, .inl (σ 53))), ((ad 54), .inl (cI, 20, .inl (σ 54))), ((ad 55), .inr (3, fl255 cI ad p2 l2 pa pl σ)), ((ad 56), .inl (cI, 120, .inl (σ 56))), ((ad 57), .inl (cI, 120, .inl (σ 57))), ((ad 58), .inl (cI, 120, .inl (σ 58))), ((ad 59), .inl (cI, 120, .inl (σ 59))), ((ad 60), .inl (cI, 120, .inl (σ 60))), ((ad 61), .inl (cI, 6, .inl (σ 61))), ((ad 62), .inr (2, fl262 cI ad p2 l2 pa pl σ)), ((ad 63), .inl (cI, 120, .inl (σ 63))), ((ad 64), .inl (cI, 120, .inl (σ 64))), ((ad 65), .inl (cI, 120, .inl (σ 65))), ((ad 66), .inr (1, fl266 cI ad p2 l2 pa pl σ)), ((ad 67), .inl (cI, 8, .inl (σ 67))), ((ad 68), .inl (cI, 8, .inl (σ 68))), ((ad 69), .inl (cI, 8, .inl (σ 69))), ((ad 70), .inr (4, fl270 cI ad p2 l2 pa pl σ)), ((ad 71), .inl (cI, 240, .inl (σ 71)))]
theorem o20 (cI : ClassId) (ad : Nat → Nat) (p2 l2 pa pl : Nat) : objAt (w2 cI ad p2 l2 pa pl) 0 (ad 0) 6 (fl20 cI ad p2 l2 pa pl) := fun _ => rfl
theorem i20_0 (cI : ClassId) (ad : Nat → Nat) (p2 l2 pa pl : Nat) : intAt (w2 cI ad p2 l2 pa pl) 0 (ad 0) 6 (fl20 cI ad p2 l2 pa pl) 0 := ⟨fun _ => rfl, fun _ _ => rfl⟩
theorem i20_1 (cI : ClassId) (ad : Nat → Nat) (p2 l2 pa pl : Nat) : intAt (w2 cI ad p2 l2 pa pl) 0 (ad 0) 6 (fl20 cI ad p2 l2 pa pl) 1 := ⟨fun _ => rfl, fun _ _ => rfl⟩
theorem i20_2 (cI : ClassId) (ad : Nat → Nat) (p2 l2 pa pl : Nat) : intAt (w2 cI ad p2 l2 pa pl) 0 (ad 0) 6 (fl20 cI ad p2 l2 pa pl) 2 := ⟨fun _ => rfl, fun _ _ => rfl⟩
theorem i20_3 (cI : ClassId) (ad : Nat → Nat) (p2 l2 pa pl : Nat) : intAt (w2 cI ad p2 l2 pa pl) 0 (ad 0) 6 (fl20 cI ad p2 l2 pa pl) 3 := ⟨fun _ => rfl, fun _ _ => rfl⟩
theorem i20_4 (cI : ClassId) (ad : Nat → Nat) (p2 l2 pa pl : Nat) : intAt (w2 cI ad p2 l2 pa pl) 0 (ad 0) 6 (fl20 cI ad p2 l2 pa pl) 4 := ⟨fun _ => rfl, fun _ _ => rfl⟩
theorem i20_5 (cI : ClassId) (ad : Nat → Nat) (p2 l2 pa pl : Nat) : intAt (w2 cI ad p2 l2 pa pl) 0 (ad 0) 6 (fl20 cI ad p2 l2 pa pl) 5 := ⟨fun _ => rfl, fun _ _ => rfl⟩
theorem i20_6 (cI : ClassId) (ad : Nat → Nat) (p2 l2 pa pl : Nat) : intAt (w2 cI ad p2 l2 pa pl) 0 (ad 0) 6 (fl20 cI ad p2 l2 pa pl) 6 := ⟨fun _ => rfl, fun _ _ => rfl⟩
theorem i20_7 (cI : ClassId) (ad : Nat → Nat) (p2 l2 pa pl : Nat) : intAt (w2 cI ad p2 l2 pa pl) 0 (ad 0) 6 (fl20 cI ad p2 l2 pa pl) 7 := ⟨fun _ => rfl, fun _ _ => rfl⟩
theorem i20_8 (cI : ClassId) (ad : Nat → Nat) (p2 l2 pa pl : Nat) : intAt (w2 cI ad p2 l2 pa pl) 0 (ad 0) 6 (fl20 cI ad p2 l2 pa pl) 8 := ⟨fun _ => rfl, fun _ _ => rfl⟩
theorem a21 (cI : ClassId) (ad : Nat → Nat) (p2 l2 pa pl : Nat) : arrAt (w2 cI ad p2 l2 pa pl) 1 (ad 1) cI 6 := ⟨fun _ => rfl, fun _ _ => rfl⟩
theorem a22 (cI : ClassId) (ad : Nat → Nat) (p2 l2 pa pl : Nat) : arrAt (w2 cI ad p2 l2 pa pl) 2 (ad 2) cI 6 := ⟨fun _ => rfl, fun _ _ => rfl⟩
theorem a23 (cI : ClassId) (ad : Nat → Nat) (p2 l2 pa pl : Nat) : arrAt (w2 cI ad p2 l2 pa pl) 3 (ad 3) cI 6 := ⟨fun _ => rfl, fun _ _ => rfl⟩
theorem a24 (cI : ClassId) (ad : Nat → Nat) (p2 l2 pa pl : Nat) : arrAt (w2 cI ad p2 l2 pa pl) 4 (ad 4) cI 6 := ⟨fun _ => rfl, fun _ _ => rfl⟩
theorem o25 (cI : ClassId) (ad : Nat → Nat) (p2 l2 pa pl : Nat) : objAt (w2 cI ad p2 l2 pa pl) 5 (ad 5) 0 (fl25 cI ad p2 l2 pa pl) := fun _ => rfl
theorem i25_7 (cI : ClassId) (ad : Nat → Nat) (p2 l2 pa pl : Nat) : intAt (w2 cI ad p2 l2 pa pl) 5 (ad 5) 0 (fl25 cI ad p2 l2 pa pl) 7 := ⟨fun _ => rfl, fun _ _ => rfl⟩
theorem i25_8 (cI : ClassId) (ad : Nat → Nat) (p2 l2 pa pl : Nat) : intAt (w2 cI ad p2 l2 pa pl) 5 (ad 5) 0 (fl25 cI ad p2 l2 pa pl) 8 := ⟨fun _ => rfl, fun _ _ => rfl⟩
theorem a26 (cI : ClassId) (ad : Nat → Nat) (p2 l2 pa pl : Nat) : arrAt (w2 cI ad p2 l2 pa pl) 6 (ad 6) cI 36 := ⟨fun _ => rfl, fun _ _ => rfl⟩
theorem a27 (cI : ClassId) (ad : Nat → Nat) (p2 l2 pa pl : Nat) : arrAt (w2 cI ad p2 l2 pa pl) 7 (ad 7) cI 36 := ⟨fun _ => rfl, fun _ _ => rfl⟩
theorem a28 (cI : ClassId) (ad : Nat → Nat) (p2 l2 pa pl : Nat) : arrAt (w2 cI ad p2 l2 pa pl) 8 (ad 8) cI 36 := ⟨fun _ => rfl, fun _ _ => rfl⟩
theorem a29 (cI : ClassId) (ad : Nat → Nat) (p2 l2 pa pl : Nat) : arrAt (w2 cI ad p2 l2 pa pl) 9 (ad 9) cI 36 := ⟨fun _ => rfl, fun _ _ => rfl⟩
theorem a210 (cI : ClassId) (ad : Nat → Nat) (p2 l2 pa pl : Nat) : arrAt (w2 cI ad p2 l2 pa pl) 10 pa cI pl := ⟨fun _ => rfl, fun _ _ => rfl⟩
theorem a211 (cI : ClassId) (ad : Nat → Nat) (p2 l2 pa pl : Nat) : arrAt (w2 cI ad p2 l2 pa pl) 11 (ad 11) cI 36 := ⟨fun _ => rfl, fun _ _ => rfl⟩
theorem a212 (cI : ClassId) (ad : Nat → Nat) (p2 l2 pa pl : Nat) : arrAt (w2 cI ad p2 l2 pa pl) 12 (ad 12) cI 36 := ⟨fun _ => rfl, fun _ _ => rfl⟩
theorem o213 (cI : ClassId) (ad : Nat → Nat) (p2 l2 pa pl : Nat) : objAt (w2 cI ad p2 l2 pa pl) 13 (ad 13) 5 (fl213 cI ad p2 l2 pa pl) := fun _ => rfl
theorem i213_0 (cI : ClassId) (ad : Nat → Nat) (p2 l2 pa pl : Nat) : intAt (w2 cI ad p2 l2 pa pl) 13 (ad 13) 5 (fl213 cI ad p2 l2 pa pl) 0 := ⟨fun _ => rfl, fun _ _ => rfl⟩
theorem a214 (cI : ClassId) (ad : Nat → Nat) (p2 l2 pa pl : Nat) : arrAt (w2 cI ad p2 l2 pa pl) 14 (ad 14) cI 20 := ⟨fun _ => rfl, fun _ _ => rfl⟩
theorem a215 (cI : ClassId) (ad : Nat → Nat) (p2 l2 pa pl : Nat) : arrAt (w2 cI ad p2 l2 pa pl) 15 (ad 15) cI 20 := ⟨fun _ => rfl, fun _ _ => rfl⟩
theorem a216 (cI : ClassId) (ad : Nat → Nat) (p2 l2 pa pl : Nat) : arrAt (w2 cI ad p2 l2 pa pl) 16 (ad 16) cI 20 := ⟨fun _ => rfl, fun _ _ => rfl⟩
theorem a217 (cI : ClassId) (ad : Nat → Nat) (p2 l2 pa pl : Nat) : arrAt (w2 cI ad p2 l2 pa pl) 17 (ad 17) cI 20 := ⟨fun _ => rfl, fun _ _ => rfl⟩
theorem a218 (cI : ClassId) (ad : Nat → Nat) (p2 l2 pa pl : Nat) : arrAt (w2 cI ad p2 l2 pa pl) 18 (ad 18) cI 20 := ⟨fun _ => rfl, fun _ _ => rfl⟩
theorem o219 (cI : ClassId) (ad : Nat → Nat) (p2 l2 pa pl : Nat) : objAt (w2 cI ad p2 l2 pa pl) 19 (ad 19) 3 (fl219 cI ad p2 l2 pa pl) := fun _ => rfl
theorem a220 (cI : ClassId) (ad : Nat → Nat) (p2 l2 pa pl : Nat) : arrAt (w2 cI ad p2 l2 pa pl) 20 (ad 20) cI 120 := ⟨fun _ => rfl, fun _ _ => rfl⟩
theorem a221 (cI : ClassId) (ad : Nat → Nat) (p2 l2 pa pl : Nat) : arrAt (w2 cI ad p2 l2 pa pl) 21 (ad 21) cI 120 := ⟨fun _ => rfl, fun _ _ => rfl⟩
theorem a222 (cI : ClassId) (ad : Nat → Nat) (p2 l2 pa pl : Nat) : arrAt (w2 cI ad p2 l2 pa pl) 22 (ad 22) cI 120 := ⟨fun _ => rfl, fun _ _ => rfl⟩
theorem a223 (cI : ClassId) (ad : Nat → Nat) (p2 l2 pa pl : Nat) : arrAt (w2 cI ad p2 l2 pa pl) 23 (ad 23) cI 120 := ⟨fun _ => rfl, fun _ _ => rfl⟩
theorem a224 (cI : ClassId) (ad : Nat → Nat) (p2 l2 pa pl : Nat) : arrAt (w2 cI ad p2 l2 pa pl) 24 (ad 24) cI 120 := ⟨fun _ => rfl, fun _ _ => rfl⟩
theorem a225 (cI : ClassId) (ad : Nat → Nat) (p2 l2 pa pl : Nat) : arrAt (w2 cI ad p2 l2 pa pl) 25 (ad 25) cI 6 := ⟨fun _ => rfl, fun _ _ => rfl⟩
theorem o226 (cI : ClassId) (ad : Nat → Nat) (p2 l2 pa pl : Nat) : objAt (w2 cI ad p2 l2 pa pl) 26 (ad 26) 2 (fl226 cI ad p2 l2 pa pl) := fun _ => rfl
theorem a227 (cI : ClassId) (ad : Nat → Nat) (p2 l2 pa pl : Nat) : arrAt (w2 cI ad p2 l2 pa pl) 27 (ad 27) cI 120 := ⟨fun _ => rfl, fun _ _ => rfl⟩
theorem a228 (cI : ClassId) (ad : Nat → Nat) (p2 l2 pa pl : Nat) : arrAt (w2 cI ad p2 l2 pa pl) 28 (ad 28) cI 120 := ⟨fun _ => rfl, fun _ _ => rfl⟩
theorem a229 (cI : ClassId) (ad : Nat → Nat) (p2 l2 pa pl : Nat) : arrAt (w2 cI ad p2 l2 pa pl) 29 (ad 29) cI 120 := ⟨fun _ => rfl, fun _ _ => rfl⟩
theorem o230 (cI : ClassId) (ad : Nat → Nat) (p2 l2 pa pl : Nat) : objAt (w2 cI ad p2 l2 pa pl) 30 (ad 30) 1 (fl230 cI ad p2 l2 pa pl) := fun _ => rfl
theorem i230_0 (cI : ClassId) (ad : Nat → Nat) (p2 l2 pa pl : Nat) : intAt (w2 cI ad p2 l2 pa pl) 30 (ad 30) 1 (fl230 cI ad p2 l2 pa pl) 0 := ⟨fun _ => rfl, fun _ _ => rfl⟩
theorem a231 (cI : ClassId) (ad : Nat → Nat) (p2 l2 pa pl : Nat) : arrAt (w2 cI ad p2 l2 pa pl) 31 (ad 31) cI 8 := ⟨fun _ => rfl, fun _ _ => rfl⟩
theorem a232 (cI : ClassId) (ad : Nat → Nat) (p2 l2 pa pl : Nat) : arrAt (w2 cI ad p2 l2 pa pl) 32 (ad 32) cI 8 := ⟨fun _ => rfl, fun _ _ => rfl⟩
theorem a233 (cI : ClassId) (ad : Nat → Nat) (p2 l2 pa pl : Nat) : arrAt (w2 cI ad p2 l2 pa pl) 33 (ad 33) cI 8 := ⟨fun _ => rfl, fun _ _ => rfl⟩
theorem o234 (cI : ClassId) (ad : Nat → Nat) (p2 l2 pa pl : Nat) : objAt (w2 cI ad p2 l2 pa pl) 34 (ad 34) 4 (fl234 cI ad p2 l2 pa pl) := fun _ => rfl
theorem i234_0 (cI : ClassId) (ad : Nat → Nat) (p2 l2 pa pl : Nat) : intAt (w2 cI ad p2 l2 pa pl) 34 (ad 34) 4 (fl234 cI ad p2 l2 pa pl) 0 := ⟨fun _ => rfl, fun _ _ => rfl⟩
theorem i234_1 (cI : ClassId) (ad : Nat → Nat) (p2 l2 pa pl : Nat) : intAt (w2 cI ad p2 l2 pa pl) 34 (ad 34) 4 (fl234 cI ad p2 l2 pa pl) 1 := ⟨fun _ => rfl, fun _ _ => rfl⟩
theorem a235 (cI : ClassId) (ad : Nat → Nat) (p2 l2 pa pl : Nat) : arrAt (w2 cI ad p2 l2 pa pl) 35 (ad 35) cI 240 := ⟨fun _ => rfl, fun _ _ => rfl⟩
theorem o236 (cI : ClassId) (ad : Nat → Nat) (p2 l2 pa pl : Nat) : objAt (w2 cI ad p2 l2 pa pl) 36 (ad 36) 6 (fl236 cI ad p2 l2 pa pl) := fun _ => rfl
theorem i236_0 (cI : ClassId) (ad : Nat → Nat) (p2 l2 pa pl : Nat) : intAt (w2 cI ad p2 l2 pa pl) 36 (ad 36) 6 (fl236 cI ad p2 l2 pa pl) 0 := ⟨fun _ => rfl, fun _ _ => rfl⟩
theorem i236_1 (cI : ClassId) (ad : Nat → Nat) (p2 l2 pa pl : Nat) : intAt (w2 cI ad p2 l2 pa pl) 36 (ad 36) 6 (fl236 cI ad p2 l2 pa pl) 1 := ⟨fun _ => rfl, fun _ _ => rfl⟩
theorem i236_2 (cI : ClassId) (ad : Nat → Nat) (p2 l2 pa pl : Nat) : intAt (w2 cI ad p2 l2 pa pl) 36 (ad 36) 6 (fl236 cI ad p2 l2 pa pl) 2 := ⟨fun _ => rfl, fun _ _ => rfl⟩
theorem i236_3 (cI : ClassId) (ad : Nat → Nat) (p2 l2 pa pl : Nat) : intAt (w2 cI ad p2 l2 pa pl) 36 (ad 36) 6 (fl236 cI ad p2 l2 pa pl) 3 := ⟨fun _ => rfl, fun _ _ => rfl⟩
theorem i236_4 (cI : ClassId) (ad : Nat → Nat) (p2 l2 pa pl : Nat) : intAt (w2 cI ad p2 l2 pa pl) 36 (ad 36) 6 (fl236 cI ad p2 l2 pa pl) 4 := ⟨fun _ => rfl, fun _ _ => rfl⟩
theorem i236_5 (cI : ClassId) (ad : Nat → Nat) (p2 l2 pa pl : Nat) : intAt (w2 cI ad p2 l2 pa pl) 36 (ad 36) 6 (fl236 cI ad p2 l2 pa pl) 5 := ⟨fun _ => rfl, fun _ _ => rfl⟩
theorem i236_6 (cI : ClassId) (ad : Nat → Nat) (p2 l2 pa pl : Nat) : intAt (w2 cI ad p2 l2 pa pl) 36 (ad 36) 6 (fl236 cI ad p2 l2 pa pl) 6 := ⟨fun _ => rfl, fun _ _ => rfl⟩
theorem i236_7 (cI : ClassId) (ad : Nat → Nat) (p2 l2 pa pl : Nat) : intAt (w2 cI ad p2 l2 pa pl) 36 (ad 36) 6 (fl236 cI ad p2 l2 pa pl) 7 := ⟨fun _ => rfl, fun _ _ => rfl⟩
theorem i236_8 (cI : ClassId) (ad : Nat → Nat) (p2 l2 pa pl : Nat) : intAt (w2 cI ad p2 l2 pa pl) 36 (ad 36) 6 (fl236 cI ad p2 l2 pa pl) 8 := ⟨fun _ => rfl, fun _ _ => rfl⟩
theorem a237 (cI : ClassId) (ad : Nat → Nat) (p2 l2 pa pl : Nat) : arrAt (w2 cI ad p2 l2 pa pl) 37 (ad 37) cI 6 := ⟨fun _ => rfl, fun _ _ => rfl⟩
theorem a238 (cI : ClassId) (ad : Nat → Nat) (p2 l2 pa pl : Nat) : arrAt (w2 cI ad p2 l2 pa pl) 38 (ad 38) cI 6 := ⟨fun _ => rfl, fun _ _ => rfl⟩
theorem a239 (cI : ClassId) (ad : Nat → Nat) (p2 l2 pa pl : Nat) : arrAt (w2 cI ad p2 l2 pa pl) 39 (ad 39) cI 6 := ⟨fun _ => rfl, fun _ _ => rfl⟩
theorem a240 (cI : ClassId) (ad : Nat → Nat) (p2 l2 pa pl : Nat) : arrAt (w2 cI ad p2 l2 pa pl) 40 (ad 40) cI 6 := ⟨fun _ => rfl, fun _ _ => rfl⟩
theorem o241 (cI : ClassId) (ad : Nat → Nat) (p2 l2 pa pl : Nat) : objAt (w2 cI ad p2 l2 pa pl) 41 (ad 41) 0 (fl241 cI ad p2 l2 pa pl) := fun _ => rfl
theorem i241_7 (cI : ClassId) (ad : Nat → Nat) (p2 l2 pa pl : Nat) : intAt (w2 cI ad p2 l2 pa pl) 41 (ad 41) 0 (fl241 cI ad p2 l2 pa pl) 7 := ⟨fun _ => rfl, fun _ _ => rfl⟩
theorem i241_8 (cI : ClassId) (ad : Nat → Nat) (p2 l2 pa pl : Nat) : intAt (w2 cI ad p2 l2 pa pl) 41 (ad 41) 0 (fl241 cI ad p2 l2 pa pl) 8 := ⟨fun _ => rfl, fun _ _ => rfl⟩
theorem a242 (cI : ClassId) (ad : Nat → Nat) (p2 l2 pa pl : Nat) : arrAt (w2 cI ad p2 l2 pa pl) 42 (ad 42) cI 36 := ⟨fun _ => rfl, fun _ _ => rfl⟩
theorem a243 (cI : ClassId) (ad : Nat → Nat) (p2 l2 pa pl : Nat) : arrAt (w2 cI ad p2 l2 pa pl) 43 (ad 43) cI 36 := ⟨fun _ => rfl, fun _ _ => rfl⟩
theorem a244 (cI : ClassId) (ad : Nat → Nat) (p2 l2 pa pl : Nat) : arrAt (w2 cI ad p2 l2 pa pl) 44 (ad 44) cI 36 := ⟨fun _ => rfl, fun _ _ => rfl⟩
theorem a245 (cI : ClassId) (ad : Nat → Nat) (p2 l2 pa pl : Nat) : arrAt (w2 cI ad p2 l2 pa pl) 45 (ad 45) cI 36 := ⟨fun _ => rfl, fun _ _ => rfl⟩
theorem a246 (cI : ClassId) (ad : Nat → Nat) (p2 l2 pa pl : Nat) : arrAt (w2 cI ad p2 l2 pa pl) 46 p2 cI l2 := ⟨fun _ => rfl, fun _ _ => rfl⟩
theorem a247 (cI : ClassId) (ad : Nat → Nat) (p2 l2 pa pl : Nat) : arrAt (w2 cI ad p2 l2 pa pl) 47 (ad 47) cI 36 := ⟨fun _ => rfl, fun _ _ => rfl⟩
theorem a248 (cI : ClassId) (ad : Nat → Nat) (p2 l2 pa pl : Nat) : arrAt (w2 cI ad p2 l2 pa pl) 48 (ad 48) cI 36 := ⟨fun _ => rfl, fun _ _ => rfl⟩
theorem o249 (cI : ClassId) (ad : Nat → Nat) (p2 l2 pa pl : Nat) : objAt (w2 cI ad p2 l2 pa pl) 49 (ad 49) 5 (fl249 cI ad p2 l2 pa pl) := fun _ => rfl
theorem i249_0 (cI : ClassId) (ad : Nat → Nat) (p2 l2 pa pl : Nat) : intAt (w2 cI ad p2 l2 pa pl) 49 (ad 49) 5 (fl249 cI ad p2 l2 pa pl) 0 := ⟨fun _ => rfl, fun _ _ => rfl⟩
theorem a250 (cI : ClassId) (ad : Nat → Nat) (p2 l2 pa pl : Nat) : arrAt (w2 cI ad p2 l2 pa pl) 50 (ad 50) cI 20 := ⟨fun _ => rfl, fun _ _ => rfl⟩
theorem a251 (cI : ClassId) (ad : Nat → Nat) (p2 l2 pa pl : Nat) : arrAt (w2 cI ad p2 l2 pa pl) 51 (ad 51) cI 20 := ⟨fun _ => rfl, fun _ _ => rfl⟩
theorem a252 (cI : ClassId) (ad : Nat → Nat) (p2 l2 pa pl : Nat) : arrAt (w2 cI ad p2 l2 pa pl) 52 (ad 52) cI 20 := ⟨fun _ => rfl, fun _ _ => rfl⟩
theorem a253 (cI : ClassId) (ad : Nat → Nat) (p2 l2 pa pl : Nat) : arrAt (w2 cI ad p2 l2 pa pl) 53 (ad 53) cI 20 := ⟨fun _ => rfl, fun _ _ => rfl⟩
theorem a254 (cI : ClassId) (ad : Nat → Nat) (p2 l2 pa pl : Nat) : arrAt (w2 cI ad p2 l2 pa pl) 54 (ad 54) cI 20 := ⟨fun _ => rfl, fun _ _ => rfl⟩
theorem o255 (cI : ClassId) (ad : Nat → Nat) (p2 l2 pa pl : Nat) : objAt (w2 cI ad p2 l2 pa pl) 55 (ad 55) 3 (fl255 cI ad p2 l2 pa pl) := fun _ => rfl
theorem a256 (cI : ClassId) (ad : Nat → Nat) (p2 l2 pa pl : Nat) : arrAt (w2 cI ad p2 l2 pa pl) 56 (ad 56) cI 120 := ⟨fun _ => rfl, fun _ _ => rfl⟩
theorem a257 (cI : ClassId) (ad : Nat → Nat) (p2 l2 pa pl : Nat) : arrAt (w2 cI ad p2 l2 pa pl) 57 (ad 57) cI 120 := ⟨fun _ => rfl, fun _ _ => rfl⟩
theorem a258 (cI : ClassId) (ad : Nat → Nat) (p2 l2 pa pl : Nat) : arrAt (w2 cI ad p2 l2 pa pl) 58 (ad 58) cI 120 := ⟨fun _ => rfl, fun _ _ => rfl⟩
theorem a259 (cI : ClassId) (ad : Nat → Nat) (p2 l2 pa pl : Nat) : arrAt (w2 cI ad p2 l2 pa pl) 59 (ad 59) cI 120 := ⟨fun _ => rfl, fun _ _ => rfl⟩
theorem a260 (cI : ClassId) (ad : Nat → Nat) (p2 l2 pa pl : Nat) : arrAt (w2 cI ad p2 l2 pa pl) 60 (ad 60) cI 120 := ⟨fun _ => rfl, fun _ _ => rfl⟩
theorem a261 (cI : ClassId) (ad : Nat → Nat) (p2 l2 pa pl : Nat) : arrAt (w2 cI ad p2 l2 pa pl) 61 (ad 61) cI 6 := ⟨fun _ => rfl, fun _ _ => rfl⟩
theorem o262 (cI : ClassId) (ad : Nat → Nat) (p2 l2 pa pl : Nat) : objAt (w2 cI ad p2 l2 pa pl) 62 (ad 62) 2 (fl262 cI ad p2 l2 pa pl) := fun _ => rfl
theorem a263 (cI : ClassId) (ad : Nat → Nat) (p2 l2 pa pl : Nat) : arrAt (w2 cI ad p2 l2 pa pl) 63 (ad 63) cI 120 := ⟨fun _ => rfl, fun _ _ => rfl⟩
theorem a264 (cI : ClassId) (ad : Nat → Nat) (p2 l2 pa pl : Nat) : arrAt (w2 cI ad p2 l2 pa pl) 64 (ad 64) cI 120 := ⟨fun _ => rfl, fun _ _ => rfl⟩
theorem a265 (cI : ClassId) (ad : Nat → Nat) (p2 l2 pa pl : Nat) : arrAt (w2 cI ad p2 l2 pa pl) 65 (ad 65) cI 120 := ⟨fun _ => rfl, fun _ _ => rfl⟩
theorem o266 (cI : ClassId) (ad : Nat → Nat) (p2 l2 pa pl : Nat) : objAt (w2 cI ad p2 l2 pa pl) 66 (ad 66) 1 (fl266 cI ad p2 l2 pa pl) := fun _ => rfl
theorem i266_0 (cI : ClassId) (ad : Nat → Nat) (p2 l2 pa pl : Nat) : intAt (w2 cI ad p2 l2 pa pl) 66 (ad 66) 1 (fl266 cI ad p2 l2 pa pl) 0 := ⟨fun _ => rfl, fun _ _ => rfl⟩
theorem a267 (cI : ClassId) (ad : Nat → Nat) (p2 l2 pa pl : Nat) : arrAt (w2 cI ad p2 l2 pa pl) 67 (ad 67) cI 8 := ⟨fun _ => rfl, fun _ _ => rfl⟩
theorem a268 (cI : ClassId) (ad : Nat → Nat) (p2 l2 pa pl : Nat) : arrAt (w2 cI ad p2 l2 pa pl) 68 (ad 68) cI 8 := ⟨fun _ => rfl, fun _ _ => rfl⟩
theorem a269 (cI : ClassId) (ad : Nat → Nat) (p2 l2 pa pl : Nat) : arrAt (w2 cI ad p2 l2 pa pl) 69 (ad 69) cI 8 := ⟨fun _ => rfl, fun _ _ => rfl⟩
theorem o270 (cI : ClassId) (ad : Nat → Nat) (p2 l2 pa pl : Nat) : objAt (w2 cI ad p2 l2 pa pl) 70 (ad 70) 4 (fl270 cI ad p2 l2 pa pl) := fun _ => rfl
theorem i270_0 (cI : ClassId) (ad : Nat → Nat) (p2 l2 pa pl : Nat) : intAt (w2 cI ad p2 l2 pa pl) 70 (ad 70) 4 (fl270 cI ad p2 l2 pa pl) 0 := ⟨fun _ => rfl, fun _ _ => rfl⟩
theorem i270_1 (cI : ClassId) (ad : Nat → Nat) (p2 l2 pa pl : Nat) : intAt (w2 cI ad p2 l2 pa pl) 70 (ad 70) 4 (fl270 cI ad p2 l2 pa pl) 1 := ⟨fun _ => rfl, fun _ _ => rfl⟩
theorem a271 (cI : ClassId) (ad : Nat → Nat) (p2 l2 pa pl : Nat) : arrAt (w2 cI ad p2 l2 pa pl) 71 (ad 71) cI 240 := ⟨fun _ => rfl, fun _ _ => rfl⟩
section S31
variable {p : Program} {l : Launch} {e : Env} {R : Room} {s : State} {m : MethodId} {args : Array Value} {below : List Frame} {meth : Method} {c : Code} {H : Heap} {locs : List Loc} {cells slots : Nat} {Q : State → Prop}
variable {D : va_G} {A : Nat → Prop} {own : String} {cc : ByteArray} {nL : Nat} {ret : Option FieldType} {wd : Sg → va_W} {σ : Sg} {pc : Nat} {ls : Array Slot} {rest : List Value}
variable {cI cB cL : ClassId} {ad : Nat → Nat} {pa pl p2 l2 : Nat}
theorem q_acopy (C : cx D (tyl cI cB cL) A own cc nL ret p s m args c meth) (S : st D wd A s σ H locs) {qa qb a b na nb idx : Nat} (Aq : arrAt wd qa a cI na) (Bq : arrAt wd qb b cI nb) {n : Int32} (hn : ¬ n < 0) (h4 : n.toNatClampNeg ≤ na) (h5 : n.toNatClampNeg ≤ nb) (h1 : Cond.methodLink own idx arraycopyName ∈ gw) (hR : 1 ≤ R.frames ∧ 26 ≤ R.locals) (hls : ls.size = nL) (hre : (rest.map fun v => v.category).sum ≤ 8) (hdg : decode cc pc = .ok (.invokestatic idx, 3))
    {σ' : Sg} (hσ : σ' = sq σ qb (cpy n.toNatClampNeg (σ qa) (σ qb))) (kk : ∀ (H1 : Heap) (locs1 : List Loc), st D wd A s σ' H1 locs1 → W p l e R s m args below meth c H1 locs1 cells slots Q (F0 m (pc + 3) ls rest)) : W p l e R s m args below meth c H locs cells slots Q (F0 m pc ls (.int n :: .int 0 :: .ref b :: .int 0 :: .ref a :: rest)) := by
  have e0 : (0 : Int32).toNatClampNeg = 0 := by decide
  refine va_copyi C.1 C.2.1 (C.2.2.1.trans hls.symm) C.2.2.2.1 (C.2.2.2.2.1 _ h1) (C.2.2.2.2.1 _ mwJ3) (C.2.2.2.2.1 _ mwJ4) (C.2.2.2.2.1 _ mwJ5) C.2.2.2.2.2.2.2.1 S.1 S.2.1 S.2.2 qa qb 0 0 (Aq.1 σ) (Bq.1 σ) (ty := .int) rfl rfl rfl (by decide) (by decide) hn (by rw [e0]; omega) (by rw [e0]; omega) (fun _ _ => rfl) hR.1 (Nat.le_trans (Nat.add_le_add_right hre 18) hR.2) hdg (fun H1 locs1 h1 h2 h3 => ?_)
  rw [e0, Bq.2] at h1 h2
  subst hσ
  exact kk H1 locs1 ⟨h1, h2, h3⟩
set_option maxRecDepth 10000 in
set_option maxHeartbeats 4000000 in
/-- pool = new int[other.pool.length] -/
theorem q_newpool (C : cx D (tyl cI cB cL) A RX1 cc nL ret p s m args c meth) (S : st D (w2 cI ad p2 l2 pa pl) A s σ H locs) (hg : 2 * pl ≤ l2 ∧ 1 ≤ l2 ∧ l2 ≤ 1000000) {i2 : Nat} (hf : Cond.fieldLink RX1 i2 "LeastPending$Channels" "pool" "[I" ∈ gw) {dt dz : Nat} (hC : R.cells = dt ∧ R.slots = 2 * dt) (ha : dt = cells + ((l2 - pl) + dz)) (hdg : decode cc pc = .ok (.newarray .int, 2)) (hdg2 : decode cc (pc + 2) = .ok (.putfield i2, 3))
    (kk : ∀ (pa1 : Nat) (H1 : Heap) (locs1 : List Loc), st D (w2 cI ad p2 l2 pa1 l2) A s (sq σ 10 (fun _ => 0)) H1 locs1 → W p l e R s m args below meth c H1 locs1 (cells + (l2 - pl)) (2 * (cells + (l2 - pl))) Q (F0 m (pc + 2 + 3) ls rest)) : W p l e R s m args below meth c H locs cells (2 * cells) Q (F0 m pc ls (.int (Int32.ofNat l2) :: .ref (ad 5) :: rest)) := by
  have hb : l2 < 2 ^ 31 := by omega
  refine va_newa (atype := .int) (N' := l2) (a0 := (l2, .inl (fun _ => 0))) C.1 C.2.1 (C.2.2.2.2.1 _ mw_arrI) (ty := .int) rfl C.2.2.2.2.2.2.2.1 S.1 S.2.1 S.2.2 C.2.2.2.2.2.2.2.2.1 (fun _ => rfl) (nI_pos hb) (nI_clamp hb) (show l2 * 4 ≤ 536870912 by omega) (by omega) (by omega) hdg (fun q cA H1 hK2 hP hD hS => ?_)
  obtain rfl := tyl_int C.2.2.2.2.2.2.2.1 hK2
  refine va_put (D := D) (ci := 0) (v := .ref q) (ty := .array .int) (C := RX1) (T := TX1) (N := 9) (fs := fl25 cA ad p2 l2 pa pl σ) C.1 C.2.1 C.2.2.2.2.1 iwX1 tyX1 tyX1_ok nmX1 C.2.2.2.1 C.2.2.2.2.2.2.2.1 hP hD hS 5 rfl rfl 4 (by decide) (C.2.2.2.2.1 _ hf) (fun _ h9 => h9) rfl (by decide +kernel) rfl rfl (Nat.le_of_ble_eq_true rfl) hdg2 (fun H2 locs2 hP hD hS => ?_)
  have hP9 := hP.sub (ws' := w2 cA ad p2 l2 q l2 (sq σ 10 (fun _ => 0))) [0, 1, 2, 3, 4, 5, 6, 7, 8, 9, 72, 11, 12, 13, 14, 15, 16, 17, 18, 19, 20, 21, 22, 23, 24, 25, 26, 27, 28, 29, 30, 31, 32, 33, 34, 35, 36, 37, 38, 39, 40, 41, 42, 43, 44, 45, 46, 47, 48, 49, 50, 51, 52, 53, 54, 55, 56, 57, 58, 59, 60, 61, 62, 63, 64, 65, 66, 67, 68, 69, 70, 71] rfl
  have hD9 := hD.sub (ws' := w2 cA ad p2 l2 q l2 (sq σ 10 (fun _ => 0))) [0, 1, 2, 3, 4, 5, 6, 7, 8, 9, 72, 11, 12, 13, 14, 15, 16, 17, 18, 19, 20, 21, 22, 23, 24, 25, 26, 27, 28, 29, 30, 31, 32, 33, 34, 35, 36, 37, 38, 39, 40, 41, 42, 43, 44, 45, 46, 47, 48, 49, 50, 51, 52, 53, 54, 55, 56, 57, 58, 59, 60, 61, 62, 63, 64, 65, 66, 67, 68, 69, 70, 71] (by decide) rfl
  refine W.widen (k := cells + (l2 - pl)) (n := 2 * (cells + (l2 - pl))) (by omega) (by omega) ?_
  exact kk q H2 locs2 ⟨hP9, hD9, hS⟩
end S31
