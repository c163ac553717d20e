def flU0 (cI cB : ClassId) (ad : Nat → Nat) (kt p0 l0 pa pl : Nat) (σ : Sg) : List Value := [.int (σ 0 0), .int (σ 0 1), .int (σ 0 2), .int (σ 0 3), .int (σ 0 4), .int (σ 0 5), .int (σ 0 6), .int (σ 0 7), .int (σ 0 8), .ref (ad 1), .ref (ad 2), .ref (ad 3), .ref (ad 4), .ref (ad 5), .ref (ad 13), .ref (ad 19), .ref (ad 26), .ref (ad 30), .ref (ad 34)]
def flU5 (cI cB : ClassId) (ad : Nat → Nat) (kt p0 l0 pa pl : Nat) (σ : Sg) : List Value := [.ref (ad 6), .ref (ad 7), .ref (ad 8), .ref (ad 9), .ref p0, .ref (ad 11), .ref (ad 12), .int (σ 5 7), .int (σ 5 8)]
def flU13 (cI cB : ClassId) (ad : Nat → Nat) (kt p0 l0 pa pl : Nat) (σ : Sg) : List Value := [.int (σ 13 0), .ref (ad 14), .ref (ad 15), .ref (ad 16), .ref (ad 17), .ref (ad 18)]
def flU19 (cI cB : ClassId) (ad : Nat → Nat) (kt p0 l0 pa pl : Nat) (σ : Sg) : List Value := [.ref (ad 20), .ref (ad 21), .ref (ad 22), .ref (ad 23), .ref (ad 24), .ref (ad 25)]
def flU26 (cI cB : ClassId) (ad : Nat → Nat) (kt p0 l0 pa pl : Nat) (σ : Sg) : List Value := [.ref (ad 27), .ref (ad 28), .ref (ad 29)]
def flU30 (cI cB : ClassId) (ad : Nat → Nat) (kt p0 l0 pa pl : Nat) (σ : Sg) : List Value := [.int (σ 30 0), .ref (ad 31), .ref (ad 32), .ref (ad 33)]
def flU34 (cI cB : ClassId) (ad : Nat → Nat) (kt p0 l0 pa pl : Nat) (σ : Sg) : List Value := [.int (σ 34 0), .int (σ 34 1), .ref (ad 35)]
def flU36 (cI cB : ClassId) (ad : Nat → Nat) (kt p0 l0 pa pl : Nat) (σ : Sg) : List Value := [.int (σ 36 0), .int (σ 36 1), .int (σ 36 2), .int (σ 36 3), .int (σ 36 4), .int (σ 36 5), .int (σ 36 6), .int (σ 36 7), .int (σ 36 8), .ref (ad 37), .ref (ad 38), .ref (ad 39), .ref (ad 40), .ref (ad 41), .ref (ad 49), .ref (ad 55), .ref (ad 62), .ref (ad 66), .ref (ad 70)]
def flU41 (cI cB : ClassId) (ad : Nat → Nat) (kt p0 l0 pa pl : Nat) (σ : Sg) : List Value := [.ref (ad 42), .ref (ad 43), .ref (ad 44), .ref (ad 45), .ref pa, .ref (ad 47), .ref (ad 48), .int (σ 41 7), .int (σ 41 8)]
def flU49 (cI cB : ClassId) (ad : Nat → Nat) (kt p0 l0 pa pl : Nat) (σ : Sg) : List Value := [.int (σ 49 0), .ref (ad 50), .ref (ad 51), .ref (ad 52), .ref (ad 53), .ref (ad 54)]
def flU55 (cI cB : ClassId) (ad : Nat → Nat) (kt p0 l0 pa pl : Nat) (σ : Sg) : List Value := [.ref (ad 56), .ref (ad 57), .ref (ad 58), .ref (ad 59), .ref (ad 60), .ref (ad 61)]
def flU62 (cI cB : ClassId) (ad : Nat → Nat) (kt p0 l0 pa pl : Nat) (σ : Sg) : List Value := [.ref (ad 63), .ref (ad 64), .ref (ad 65)]
def flU66 (cI cB : ClassId) (ad : Nat → Nat) (kt p0 l0 pa pl : Nat) (σ : Sg) : List Value := [.int (σ 66 0), .ref (ad 67), .ref (ad 68), .ref (ad 69)]
def flU70 (cI cB : ClassId) (ad : Nat → Nat) (kt p0 l0 pa pl : Nat) (σ : Sg) : List Value := [.int (σ 70 0), .int (σ 70 1), .ref (ad 71)]
def flU72 (cI cB : ClassId) (ad : Nat → Nat) (kt p0 l0 pa pl : Nat) (σ : Sg) : List Value := [.ref (ad 73), .ref (ad 75), .ref (ad 76), .ref kt, .ref (ad 0), .ref (ad 36), .int (σ 72 6), .int (σ 72 7)]
def flU73 (cI cB : ClassId) (ad : Nat → Nat) (kt p0 l0 pa pl : Nat) (σ : Sg) : List Value := [.ref (ad 74), .int (σ 73 1)]
def flU75 (cI cB : ClassId) (ad : Nat → Nat) (kt p0 l0 pa pl : Nat) (σ : Sg) : List Value := [.ref (ad 73), .int (σ 75 1), .int (σ 75 2), .int (σ 75 3)]
def flU76 (cI cB : ClassId) (ad : Nat → Nat) (kt p0 l0 pa pl : Nat) (σ : Sg) : List Value := [.ref (ad 77), .int (σ 76 1)]
def wU (cI cB : ClassId) (ad : Nat → Nat) (kt p0 l0 pa pl : Nat) (σ : Sg) : va_W := [((ad 0), .inr (6, flU0 cI cB ad kt p0 l0 pa pl σ)), ((ad 1), .inl (cI, 6, .inl (σ 1))), ((ad 2), .inl (cI, 6, .inl (σ 2))), ((ad 3), .inl (cI, 6, .inl (σ 3))), ((ad 4), .inl (cI, 6, .inl (σ 4))), ((ad 5), .inr (0, flU5 cI cB ad kt p0 l0 pa pl σ)), ((ad 6), .inl (cI, 36, .inl (σ 6))), ((ad 7), .inl (cI, 36, .inl (σ 7))), ((ad 8), .inl (cI, 36, .inl (σ 8))), ((ad 9), .inl (cI, 36, .inl (σ 9))), (p0, .inl (cI, l0, .inl (σ 10))), ((ad 11), .inl (cI, 36, .inl (σ 11))), ((ad 12), .inl (cI, 36, .inl (σ 12))), ((ad 13), .inr (5, flU13 cI cB ad kt p0 l0 pa pl σ)), ((ad 14), .inl (cI, 20, .inl (σ 14))), ((ad 15), .inl (cI, 20, .inl (σ 15))), ((ad 16), .inl (cI, 20, .inl (σ 16))), ((ad 17), .inl (cI, 20, .inl (σ 17))), ((ad 18), .inl (cI, 20, .inl (σ 18))), ((ad 19), .inr (3, flU19 cI cB ad kt p0 l0 pa pl σ)), ((ad 20), .inl (cI, 120, .inl (σ 20))), ((ad 21), .inl (cI, 120, .inl (σ 21))), ((ad 22), .inl (cI, 120, .inl (σ 22))), ((ad 23), .inl (cI, 120, .inl (σ 23))), ((ad 24), .inl (cI, 120, .inl (σ 24))), ((ad 25), .inl (cI, 6, .inl (σ 25))), ((ad 26), .inr (2, flU26 cI cB ad kt p0 l0 pa pl σ)), ((ad 27), .inl (cI, 120, .inl (σ 27))), ((ad 28), .inl (cI, 120, .inl (σ 28))), ((ad 29), .inl (cI, 120, .inl (σ 29))), ((ad 30), .inr (1, flU30 cI cB ad kt p0 l0 pa pl σ)), ((ad 31), .inl (cI, 8, .inl (σ 31))), ((ad 32), .inl (cI, 8, .inl (σ 32))), ((ad 33), .inl (cI, 8, .inl (σ 33))), ((ad 34), .inr (4, flU34 cI cB ad kt p0 l0 pa pl σ)), ((ad 35), .inl (cI, 240, .inl (σ 35))), ((ad 36), .inr (6, flU36 cI cB ad kt p0 l0 pa pl σ)), ((ad 37), .inl (cI, 6, .inl (σ 37))), ((ad 38), .inl (cI, 6, .inl (σ 38))), ((ad 39), .inl (cI, 6, .inl (σ 39))), ((ad 40), .inl (cI, 6, .inl (σ 40))), ((ad 41), .inr (0, flU41 cI cB ad kt p0 l0 pa pl σ)), ((ad 42), .inl (cI, 36, .inl (σ 42))), ((ad 43), .inl (cI, 36, .inl (σ 43))), ((ad 44), .inl (cI, 36, .inl (σ 44))), ((ad 45), .inl (cI, 36, .inl (σ 45))), (pa, .inl (cI, pl, .inl (σ 46))), ((ad 47), .inl (cI, 36, .inl (σ 47))), ((ad 48), .inl (cI, 36, .inl (σ 48))), ((ad 49), .inr (5, flU49 cI cB ad kt p0 l0 pa pl σ)), ((ad 50), .inl (cI, 20, .inl (σ 50))), ((ad 51), .inl (cI, 20, .inl (σ 51))), ((ad 52), .inl (cI, 20, .inl (σ 52))), ((ad 53), .inl (cI, 20, .inl (σ 53))), ((ad 54), .inl (cI, 20, .inl (σ 54))), ((ad 55), .inr (3, flU55 cI cB ad kt p0 l0 pa pl σ)), ((ad 56), .inl (cI, 120, .inl (σ 56))), ((ad 57), .inl (cI, 120, .inl (σ 57))), ((ad 58), .inl (cI, 120, .inl (σ 58))), ((ad 59), .inl (cI, 120, .inl (σ 59))), ((ad 60), .inl (cI, 120, .inl (σ 60))), ((ad 61), .inl (cI, 6, .inl (σ 61))), ((ad 62), .inr (2, flU62 cI cB ad kt p0 l0 pa pl σ)), ((ad 63), .inl (cI, 120, .inl (σ 63))), ((ad 64), .inl (cI, 120, .inl (σ 64))), ((ad 65), .inl (cI, 120, .inl (σ 65))), ((ad 66), .inr (1, flU66 cI cB ad kt p0 l0 pa pl σ)), ((ad 67), .inl (cI, 8, .inl (σ 67))), ((ad 68), .inl (cI, 8, .inl (σ 68))), ((ad 69), .inl (cI, 8, .inl (σ 69))), ((ad 70), .inr (4, flU70 cI cB ad kt p0 l0 pa pl σ)), ((ad 71), .inl (cI, 240, .inl (σ 71))), ((ad 72), .inr (10, flU72 cI cB ad kt p0 l0 pa pl σ)), ((ad 73), .inr (9, flU73 cI cB ad kt p0 l0 pa pl σ)), ((ad 74), .inl (cB, 400, .inl (σ 74))), ((ad 75), .inr (8, flU75 cI cB ad kt p0 l0 pa pl σ)), ((ad 76), .inr (7, flU76 cI cB ad kt p0 l0 pa pl σ)), ((ad 77), .inl (cI, 20, .inl (σ 77)))]
theorem oU36 (cI cB : ClassId) (ad : Nat → Nat) (kt p0 l0 pa pl : Nat) : objAt (wU cI cB ad kt p0 l0 pa pl) 36 (ad 36) 6 (flU36 cI cB ad kt p0 l0 pa pl) := fun _ => rfl
theorem oU49 (cI cB : ClassId) (ad : Nat → Nat) (kt p0 l0 pa pl : Nat) : objAt (wU cI cB ad kt p0 l0 pa pl) 49 (ad 49) 5 (flU49 cI cB ad kt p0 l0 pa pl) := fun _ => rfl
theorem aU51 (cI cB : ClassId) (ad : Nat → Nat) (kt p0 l0 pa pl : Nat) : arrAt (wU cI cB ad kt p0 l0 pa pl) 51 (ad 51) cI 20 := ⟨fun _ => rfl, fun _ _ => rfl⟩
theorem oU55 (cI cB : ClassId) (ad : Nat → Nat) (kt p0 l0 pa pl : Nat) : objAt (wU cI cB ad kt p0 l0 pa pl) 55 (ad 55) 3 (flU55 cI cB ad kt p0 l0 pa pl) := fun _ => rfl
theorem aU56 (cI cB : ClassId) (ad : Nat → Nat) (kt p0 l0 pa pl : Nat) : arrAt (wU cI cB ad kt p0 l0 pa pl) 56 (ad 56) cI 120 := ⟨fun _ => rfl, fun _ _ => rfl⟩
theorem oU72 (cI cB : ClassId) (ad : Nat → Nat) (kt p0 l0 pa pl : Nat) : objAt (wU cI cB ad kt p0 l0 pa pl) 72 (ad 72) 10 (flU72 cI cB ad kt p0 l0 pa pl) := fun _ => rfl
def sbUT (σ : Sg) : Sg := fun q => if 0 ≤ q ∧ q < 36 then σ (0 + (q - 0)) else if 36 ≤ q ∧ q < 42 then σ (72 + (q - 36)) else σ q
def ubUT (σ ν : Sg) : Sg := fun q => if 0 ≤ q ∧ q < 36 then ν (0 + (q - 0)) else if 72 ≤ q ∧ q < 78 then ν (36 + (q - 72)) else σ q
def adUT (ad : Nat → Nat) : Nat → Nat := fun k => if 0 ≤ k ∧ k < 36 then ad (0 + (k - 0)) else if 36 ≤ k ∧ k < 42 then ad (72 + (k - 36)) else ad k
set_option maxRecDepth 20000 in
set_option maxHeartbeats 4000000 in
theorem spl_UT (cI cB : ClassId) (ad : Nat → Nat) (kt p0 l0 pa pl : Nat) : splA (fun _ _ => wU cI cB ad kt p0 l0 pa pl) (fun _ _ => wT cI cB (adUT ad) (ad 36) kt p0 l0) sbUT ubUT [0,1,2,3,4,5,6,7,8,9,10,11,12,13,14,15,16,17,18,19,20,21,22,23,24,25,26,27,28,29,30,31,32,33,34,35,72,73,74,75,76,77] [36,37,38,39,40,41,42,43,44,45,46,47,48,49,50,51,52,53,54,55,56,57,58,59,60,61,62,63,64,65,66,67,68,69,70,71] [36,37,38,39,40,41,42,43,44,45,46,47,48,49,50,51,52,53,54,55,56,57,58,59,60,61,62,63,64,65,66,67,68,69,70,71,0,1,2,3,4,5,6,7,8,9,10,11,12,13,14,15,16,17,18,19,20,21,22,23,24,25,26,27,28,29,30,31,32,33,34,35,72,73,74,75,76,77] := by
  refine ⟨fun _ _ _ => rfl, fun _ _ _ _ _ _ => rfl, fun _ _ _ => rfl, by decide, by decide, by decide, by decide, fun σ => ?_⟩
  funext q
  unfold ubUT
  by_cases h0 : 0 ≤ q ∧ q < 36
  · rw [if_pos h0]; unfold sbUT; rw [if_pos (by omega)]; congr 1; omega
  · rw [if_neg h0]
    by_cases h1 : 72 ≤ q ∧ q < 78
    · rw [if_pos h1]; unfold sbUT; rw [if_neg (by omega)]; rw [if_pos (by omega)]; congr 1; omega
    · rw [if_neg h1]
def sbUN (σ : Sg) : Sg := fun q => if 0 ≤ q ∧ q < 36 then σ (36 + (q - 0)) else σ q
def ubUN (σ ν : Sg) : Sg := fun q => if 36 ≤ q ∧ q < 72 then ν (0 + (q - 36)) else σ q
def adUN (ad : Nat → Nat) : Nat → Nat := fun k => if 0 ≤ k ∧ k < 36 then ad (36 + (k - 0)) else ad k
set_option maxRecDepth 20000 in
set_option maxHeartbeats 4000000 in
theorem spl_UN (cI cB : ClassId) (ad : Nat → Nat) (kt p0 l0 : Nat) : splA (wU cI cB ad kt p0 l0) (wN cI (adUN ad)) sbUN ubUN [36,37,38,39,40,41,42,43,44,45,46,47,48,49,50,51,52,53,54,55,56,57,58,59,60,61,62,63,64,65,66,67,68,69,70,71] [0,1,2,3,4,5,6,7,8,9,10,11,12,13,14,15,16,17,18,19,20,21,22,23,24,25,26,27,28,29,30,31,32,33,34,35,72,73,74,75,76,77] [0,1,2,3,4,5,6,7,8,9,10,11,12,13,14,15,16,17,18,19,20,21,22,23,24,25,26,27,28,29,30,31,32,33,34,35,42,43,44,45,46,47,48,49,50,51,52,53,54,55,56,57,58,59,60,61,62,63,64,65,66,67,68,69,70,71,72,73,74,75,76,77,36,37,38,39,40,41] := by
  refine ⟨fun _ _ _ => rfl, fun _ _ _ _ _ _ => rfl, fun _ _ _ => rfl, by decide, by decide, by decide, by decide, fun σ => ?_⟩
  funext q
  unfold ubUN
  by_cases h0 : 36 ≤ q ∧ q < 72
  · rw [if_pos h0]; unfold sbUN; rw [if_pos (by omega)]; congr 1; omega
  · rw [if_neg h0]
def sbUR (σ : Sg) : Sg := fun q => if 0 ≤ q ∧ q < 36 then σ (36 + (q - 0)) else if 36 ≤ q ∧ q < 37 then σ (75 + (q - 36)) else if 37 ≤ q ∧ q < 39 then σ (73 + (q - 37)) else σ q
def ubUR (σ ν : Sg) : Sg := fun q => if 36 ≤ q ∧ q < 72 then ν (0 + (q - 36)) else if 75 ≤ q ∧ q < 76 then ν (36 + (q - 75)) else if 73 ≤ q ∧ q < 75 then ν (37 + (q - 73)) else σ q
def adUR (ad : Nat → Nat) : Nat → Nat := fun k => if 0 ≤ k ∧ k < 36 then ad (36 + (k - 0)) else if 36 ≤ k ∧ k < 37 then ad (75 + (k - 36)) else if 37 ≤ k ∧ k < 39 then ad (73 + (k - 37)) else ad k
set_option maxRecDepth 20000 in
set_option maxHeartbeats 4000000 in
theorem spl_UR (cI cB : ClassId) (ad : Nat → Nat) (kt p0 l0 : Nat) : splA (wU cI cB ad kt p0 l0) (wR cI cB (adUR ad)) sbUR ubUR [36,37,38,39,40,41,42,43,44,45,46,47,48,49,50,51,52,53,54,55,56,57,58,59,60,61,62,63,64,65,66,67,68,69,70,71,75,73,74] [0,1,2,3,4,5,6,7,8,9,10,11,12,13,14,15,16,17,18,19,20,21,22,23,24,25,26,27,28,29,30,31,32,33,34,35,72,76,77] [0,1,2,3,4,5,6,7,8,9,10,11,12,13,14,15,16,17,18,19,20,21,22,23,24,25,26,27,28,29,30,31,32,33,34,35,39,40,41,42,43,44,45,46,47,48,49,50,51,52,53,54,55,56,57,58,59,60,61,62,63,64,65,66,67,68,69,70,71,72,73,74,36,76,77,75,37,38] := by
  refine ⟨fun _ _ _ => rfl, fun _ _ _ _ _ _ => rfl, fun _ _ _ => rfl, by decide, by decide, by decide, by decide, fun σ => ?_⟩
  funext q
  unfold ubUR
  by_cases h0 : 36 ≤ q ∧ q < 72
  · rw [if_pos h0]; unfold sbUR; rw [if_pos (by omega)]; congr 1; omega
  · rw [if_neg h0]
    by_cases h1 : 75 ≤ q ∧ q < 76
    · rw [if_pos h1]; unfold sbUR; rw [if_neg (by omega)]; rw [if_pos (by omega)]; congr 1; omega
    · rw [if_neg h1]
      by_cases h2 : 73 ≤ q ∧ q < 75
      · rw [if_pos h2]; unfold sbUR; rw [if_neg (by omega)]; rw [if_neg (by omega)]; rw [if_pos (by omega)]; congr 1; omega
      · rw [if_neg h2]
def sbU2 (σ : Sg) : Sg := fun q => if 0 ≤ q ∧ q < 36 then σ (36 + (q - 0)) else if 36 ≤ q ∧ q < 72 then σ (0 + (q - 36)) else σ q
def ubU2 (σ ν : Sg) : Sg := fun q => if 36 ≤ q ∧ q < 72 then ν (0 + (q - 36)) else if 0 ≤ q ∧ q < 36 then ν (36 + (q - 0)) else σ q
def adU2 (ad : Nat → Nat) : Nat → Nat := fun k => if 0 ≤ k ∧ k < 36 then ad (36 + (k - 0)) else if 36 ≤ k ∧ k < 72 then ad (0 + (k - 36)) else ad k
set_option maxRecDepth 20000 in
set_option maxHeartbeats 4000000 in
theorem spl_U2 (cI cB : ClassId) (ad : Nat → Nat) (kt p0 l0 : Nat) : splA (wU cI cB ad kt p0 l0) (w2 cI (adU2 ad) p0 l0) sbU2 ubU2 [36,37,38,39,40,41,42,43,44,45,46,47,48,49,50,51,52,53,54,55,56,57,58,59,60,61,62,63,64,65,66,67,68,69,70,71,0,1,2,3,4,5,6,7,8,9,10,11,12,13,14,15,16,17,18,19,20,21,22,23,24,25,26,27,28,29,30,31,32,33,34,35] [72,73,74,75,76,77] [42,43,44,45,46,47,48,49,50,51,52,53,54,55,56,57,58,59,60,61,62,63,64,65,66,67,68,69,70,71,72,73,74,75,76,77,6,7,8,9,10,11,12,13,14,15,16,17,18,19,20,21,22,23,24,25,26,27,28,29,30,31,32,33,34,35,36,37,38,39,40,41,0,1,2,3,4,5] := by
  refine ⟨fun _ _ _ => rfl, fun _ _ _ _ _ _ => rfl, fun _ _ _ => rfl, by decide, by decide, by decide, by decide, fun σ => ?_⟩
  funext q
  unfold ubU2
  by_cases h0 : 36 ≤ q ∧ q < 72
  · rw [if_pos h0]; unfold sbU2; rw [if_pos (by omega)]; congr 1; omega
  · rw [if_neg h0]
    by_cases h1 : 0 ≤ q ∧ q < 36
    · rw [if_pos h1]; unfold sbU2; rw [if_neg (by omega)]; rw [if_pos (by omega)]; congr 1; omega
    · rw [if_neg h1]
