/-! how many bits a set of twenty has -/
theorem nI_bt {X i : Nat} (hX : X < 4294967296) : bt (nI X) i = X.testBit i := by
  unfold bt
  show (BitVec.ofNat 32 X).getLsbD i = _
  rw [BitVec.getLsbD_ofNat]
  by_cases hi : i < 32
  · rw [decide_eq_true hi, Bool.true_and]
  · rw [decide_eq_false hi, Bool.false_and]
    exact (Nat.testBit_lt_two_pow (Nat.lt_of_lt_of_le (show X < 2 ^ 32 from hX) (Nat.pow_le_pow_right (n := 2) (by omega) (show 32 ≤ i by omega)))).symm
theorem nI_and {X Y : Nat} (hX : X < 4294967296) (hY : Y < 4294967296) : nI X &&& nI Y = nI (X &&& Y) := by
  have := Nat.and_le_left (n := X) (m := Y)
  exact b_ext (fun i _ => by rw [b_and, nI_bt hX, nI_bt hY, nI_bt (by omega), Nat.testBit_and])
theorem nI_shr {X s : Nat} (hX : X < 4294967296) (hs : s < 32) : ((nI X).toUInt32 >>> ((nI s).toUInt32 &&& Int32.toUInt32 31)).toInt32 = nI (X >>> s) := by
  have := Nat.shiftRight_le X s
  exact b_ext (fun i _ => by rw [b_ushr s hs, nI_bt hX, nI_bt (by omega), Nat.testBit_shiftRight])
theorem land_split {a b c d k : Nat} (ha : a < 2 ^ k) (hc : c < 2 ^ k) : (2 ^ k * b + a) &&& (2 ^ k * d + c) = 2 ^ k * (b &&& d) + (a &&& c) := by
  have hac : a &&& c < 2 ^ k := Nat.lt_of_le_of_lt Nat.and_le_left ha
  apply Nat.eq_of_testBit_eq
  intro i
  rw [Nat.testBit_and, Nat.testBit_two_pow_mul_add _ ha, Nat.testBit_two_pow_mul_add _ hc, Nat.testBit_two_pow_mul_add _ hac]
  split
  · rw [Nat.testBit_and]
  · rw [Nat.testBit_and]
/-- the first three steps, of a number of bytes, with their masks -/
def y1 (m x : Nat) : Nat := x - (x / 2 &&& m)
def y2 (m x : Nat) : Nat := (x &&& m) + (x / 4 &&& m)
def y3 (m x : Nat) : Nat := (x + x / 16) &&& m
theorem c1 : ∀ a, a < 256 → (∀ t, t < 2 → (a / 2 + 128 * t) &&& 85 = a / 2 &&& 85) ∧ (a / 2 &&& 85) ≤ a := by decide +kernel
theorem c2 : ∀ a, a < 256 → ∀ t, t < 4 → (a / 4 + 64 * t) &&& 51 = a / 4 &&& 51 := by decide +kernel
theorem c3 : ∀ a, a < 256 → a / 16 < 8 → a % 16 < 8 → ∀ t, t < 8 → (a + a / 16 + 16 * t) &&& 15 = (a + a / 16) &&& 15 := by decide +kernel
theorem y1_s {a y m : Nat} (ha : a < 256) (hy : y / 2 &&& m ≤ y) : y1 (85 + 256 * m) (a + 256 * y) = y1 85 a + 256 * y1 m y := by
  obtain ⟨h1, h2⟩ := c1 a ha
  unfold y1
  have e : (a + 256 * y) / 2 = 2 ^ 8 * (y / 2) + (a / 2 + 128 * (y % 2)) := by omega
  have hl := land_split (a := a / 2 + 128 * (y % 2)) (b := y / 2) (c := 85) (d := m) (k := 8) (by omega) (by omega)
  rw [e, show 85 + 256 * m = 2 ^ 8 * m + 85 from by omega, hl, h1 (y % 2) (by omega)]
  omega
theorem y2_s {a y m : Nat} (ha : a < 256) : y2 (51 + 256 * m) (a + 256 * y) = y2 51 a + 256 * y2 m y := by
  unfold y2
  have e : (a + 256 * y) / 4 = 2 ^ 8 * (y / 4) + (a / 4 + 64 * (y % 4)) := by omega
  have hl := land_split (a := a / 4 + 64 * (y % 4)) (b := y / 4) (c := 51) (d := m) (k := 8) (by omega) (by omega)
  have hl2 := land_split (a := a) (b := y) (c := 51) (d := m) (k := 8) (by omega) (by omega)
  rw [e, show 51 + 256 * m = 2 ^ 8 * m + 51 from by omega, hl, show a + 256 * y = 2 ^ 8 * y + a from by omega, hl2, c2 a ha (y % 4) (by omega)]
  omega
theorem y3_s {a y m : Nat} (ha : a < 128) (h1 : a / 16 < 8) (h2 : a % 16 < 8) (hy : y % 16 < 8) : y3 (15 + 256 * m) (a + 256 * y) = y3 15 a + 256 * y3 m y := by
  unfold y3
  have e : a + 256 * y + (a + 256 * y) / 16 = 2 ^ 8 * (y + y / 16) + (a + a / 16 + 16 * (y % 16)) := by omega
  have hl := land_split (a := a + a / 16 + 16 * (y % 16)) (b := y + y / 16) (c := 15) (d := m) (k := 8) (by omega) (by omega)
  rw [e, show 15 + 256 * m = 2 ^ 8 * m + 15 from by omega, hl, c3 a (by omega) h1 h2 (y % 16) (by omega)]
  omega
/-- a byte's bits -/
def by8 (a : Nat) : Nat := a % 2 + a / 2 % 2 + a / 4 % 2 + a / 8 % 2 + a / 16 % 2 + a / 32 % 2 + a / 64 % 2 + a / 128 % 2
theorem c4 : ∀ a, a < 256 → y1 85 a < 256 ∧ y2 51 (y1 85 a) < 128 ∧ y2 51 (y1 85 a) / 16 < 8 ∧ y2 51 (y1 85 a) % 16 < 8 ∧ y3 15 (y2 51 (y1 85 a)) = by8 a := by decide +kernel
theorem y123 {a b c : Nat} (ha : a < 256) (hb : b < 256) (hc : c < 256) : y1 5592405 (a + 256 * (b + 256 * c)) = y1 85 a + 256 * (y1 85 b + 256 * y1 85 c) ∧ y2 3355443 (y1 85 a + 256 * (y1 85 b + 256 * y1 85 c)) = y2 51 (y1 85 a) + 256 * (y2 51 (y1 85 b) + 256 * y2 51 (y1 85 c)) ∧ y3 986895 (y2 51 (y1 85 a) + 256 * (y2 51 (y1 85 b) + 256 * y2 51 (y1 85 c))) = by8 a + 256 * (by8 b + 256 * by8 c) := by
  obtain ⟨a1, a2, a3, a4, a5⟩ := c4 a ha
  obtain ⟨b1, b2', b3, b4, b5⟩ := c4 b hb
  obtain ⟨d1, d2, d3, d4, d5⟩ := c4 c hc
  have i1 := y1_s (a := b) (y := c) (m := 85) hb (c1 c hc).2
  have le1 : ∀ x, x < 65536 → (x / 2 &&& (85 + 256 * 85)) ≤ x := fun x _ => by
    have := Nat.and_le_left (n := x / 2) (m := 85 + 256 * 85); omega
  refine ⟨?_, ?_, ?_⟩
  · rw [show 5592405 = 85 + 256 * (85 + 256 * 85) from rfl, y1_s ha (le1 _ (by omega)), i1]
  · rw [show 3355443 = 51 + 256 * (51 + 256 * 51) from rfl, y2_s a1, y2_s b1]
  · rw [show 986895 = 15 + 256 * (15 + 256 * 15) from rfl, y3_s a2 a3 a4 (by omega), y3_s b2' b3 b4 (by omega), a5, b5, d5]
theorem mask_lo {x d c : Nat} (hx : x < 16777216) (hc : c < 16777216) : x &&& (16777216 * d + c) = x &&& c := by
  have := land_split (a := x) (b := 0) (c := c) (d := d) (k := 24) hx hc
  rw [Nat.zero_and, Nat.mul_zero, Nat.zero_add, Nat.zero_add] at this
  exact this
def G1 (x : Int32) : Int32 := x - ((x.toUInt32 >>> ((nI 1).toUInt32 &&& Int32.toUInt32 31)).toInt32 &&& nI 1431655765)
def G2 (x : Int32) : Int32 := (x &&& nI 858993459) + ((x.toUInt32 >>> ((nI 2).toUInt32 &&& Int32.toUInt32 31)).toInt32 &&& nI 858993459)
def G3 (x : Int32) : Int32 := (x + (x.toUInt32 >>> ((nI 4).toUInt32 &&& Int32.toUInt32 31)).toInt32) &&& nI 252645135
def G4 (x : Int32) : Int32 := x + (x.toUInt32 >>> ((nI 8).toUInt32 &&& Int32.toUInt32 31)).toInt32
def G5 (x : Int32) : Int32 := (x + (x.toUInt32 >>> ((nI 16).toUInt32 &&& Int32.toUInt32 31)).toInt32) &&& nI 63
theorem G_eq (x : Int32) : fJ6_bitCount_0f7a4 x = G5 (G4 (G3 (G2 (G1 x)))) := rfl
theorem bc_n {X : Nat} (hX : X < 1048576) : fJ6_bitCount_0f7a4 (nI X) = nI (by8 (X % 256) + by8 (X / 256 % 256) + by8 (X / 65536)) := by
  have hx : X = X % 256 + 256 * (X / 256 % 256 + 256 * (X / 65536)) := by omega
  obtain ⟨g1, g2, g3⟩ := y123 (a := X % 256) (b := X / 256 % 256) (c := X / 65536) (by omega) (by omega) (by omega)
  rw [← hx] at g1
  obtain ⟨a1, a2, a3, a4, a5⟩ := c4 (X % 256) (by omega)
  obtain ⟨b1, b2', b3, b4, b5⟩ := c4 (X / 256 % 256) (by omega)
  obtain ⟨d1, d2, d3, d4, d5⟩ := c4 (X / 65536) (by omega)
  have hA : by8 (X % 256) ≤ 8 := by unfold by8; omega
  have hB : by8 (X / 256 % 256) ≤ 8 := by unfold by8; omega
  have hC : by8 (X / 65536) ≤ 8 := by unfold by8; omega
  have sh : ∀ (Y s : Nat), Y < 16777216 → s < 32 → ((nI Y).toUInt32 >>> ((nI s).toUInt32 &&& Int32.toUInt32 31)).toInt32 = nI (Y / 2 ^ s) := fun Y s hY hs => by
    rw [nI_shr (by omega) hs, Nat.shiftRight_eq_div_pow]
  have s1 : nI X - (nI (X / 2 ^ 1) &&& nI 1431655765) = nI (y1 85 (X % 256) + 256 * (y1 85 (X / 256 % 256) + 256 * y1 85 (X / 65536))) := by
    rw [← g1, nI_and (by omega) (by omega), show (1431655765 : Nat) = 16777216 * 85 + 5592405 from rfl, mask_lo (by omega) (by omega)]
    have := Nat.and_le_left (n := X / 2) (m := 5592405)
    show nI X - nI (X / 2 &&& 5592405) = nI (X - (X / 2 &&& 5592405))
    exact pk_sub (by omega)
  have s2' : ∀ Y, Y < 16777216 → (nI Y &&& nI 858993459) + (nI (Y / 2 ^ 2) &&& nI 858993459) = nI (y2 3355443 Y) := fun Y hY => by
    rw [nI_and (by omega) (by omega), nI_and (by omega) (by omega), show (858993459 : Nat) = 16777216 * 51 + 3355443 from rfl, mask_lo (by omega) (by omega), mask_lo (by omega) (by omega), nI_add]; rfl
  have s3 : ∀ Y, Y + Y / 16 < 16777216 → (nI Y + nI (Y / 2 ^ 4)) &&& nI 252645135 = nI (y3 986895 Y) := fun Y hY => by
    have : Y / 2 ^ 4 = Y / 16 := rfl
    rw [nI_add, nI_and (by omega) (by omega), show (252645135 : Nat) = 16777216 * 15 + 986895 from rfl, mask_lo (by omega) (by omega)]; rfl
  have s6 : ∀ Y, Y < 16777216 → nI Y &&& nI 63 = nI (Y % 64) := fun Y hY => by
    rw [nI_and (by omega) (by omega), show (63 : Nat) = 2 ^ 6 - 1 from rfl, Nat.and_two_pow_sub_one_eq_mod]
  rw [G_eq]
  have e1 : G1 (nI X) = nI (y1 85 (X % 256) + 256 * (y1 85 (X / 256 % 256) + 256 * y1 85 (X / 65536))) := by
    unfold G1; rw [sh X 1 (by omega) (by omega)]; exact s1
  generalize y1 85 (X % 256) = p at *
  generalize y1 85 (X / 256 % 256) = q at *
  generalize y1 85 (X / 65536) = r at *
  have e2 : G2 (nI (p + 256 * (q + 256 * r))) = nI (y2 51 p + 256 * (y2 51 q + 256 * y2 51 r)) := by
    unfold G2; rw [sh _ 2 (by omega) (by omega), s2' _ (by omega), g2]
  generalize y2 51 p = P at *
  generalize y2 51 q = Qq at *
  generalize y2 51 r = R at *
  have e3 : G3 (nI (P + 256 * (Qq + 256 * R))) = nI (by8 (X % 256) + 256 * (by8 (X / 256 % 256) + 256 * by8 (X / 65536))) := by
    unfold G3; rw [sh _ 4 (by omega) (by omega), s3 _ (by omega), g3]
  generalize by8 (X % 256) = A at *
  generalize by8 (X / 256 % 256) = Bb at *
  generalize by8 (X / 65536) = Cc at *
  have e4 : G4 (nI (A + 256 * (Bb + 256 * Cc))) = nI (A + 256 * (Bb + 256 * Cc) + (Bb + 256 * Cc)) := by
    unfold G4; rw [sh _ 8 (by omega) (by omega), nI_add]
    congr 1
    have : (A + 256 * (Bb + 256 * Cc)) / 2 ^ 8 = Bb + 256 * Cc := by
      show (A + 256 * (Bb + 256 * Cc)) / 256 = _; omega
    rw [this]
  have e5 : G5 (nI (A + 256 * (Bb + 256 * Cc) + (Bb + 256 * Cc))) = nI (A + Bb + Cc) := by
    unfold G5; rw [sh _ 16 (by omega) (by omega), nI_add]
    have : (A + 256 * (Bb + 256 * Cc) + (Bb + 256 * Cc)) / 2 ^ 16 = Cc := by
      show (A + 256 * (Bb + 256 * Cc) + (Bb + 256 * Cc)) / 65536 = _; omega
    rw [this, s6 _ (by omega)]
    congr 1; omega
  rw [e1, e2, e3, e4, e5]
theorem qb0 (X : Nat) : X % 256 % 2 = X / 2 ^ 0 % 2 := by show _ = X / 1 % 2; omega
theorem qb1 (X : Nat) : X % 256 / 2 % 2 = X / 2 ^ 1 % 2 := by show _ = X / 2 % 2; omega
theorem qb2 (X : Nat) : X % 256 / 4 % 2 = X / 2 ^ 2 % 2 := by show _ = X / 4 % 2; omega
theorem qb3 (X : Nat) : X % 256 / 8 % 2 = X / 2 ^ 3 % 2 := by show _ = X / 8 % 2; omega
theorem qb4 (X : Nat) : X % 256 / 16 % 2 = X / 2 ^ 4 % 2 := by show _ = X / 16 % 2; omega
theorem qb5 (X : Nat) : X % 256 / 32 % 2 = X / 2 ^ 5 % 2 := by show _ = X / 32 % 2; omega
theorem qb6 (X : Nat) : X % 256 / 64 % 2 = X / 2 ^ 6 % 2 := by show _ = X / 64 % 2; omega
theorem qb7 (X : Nat) : X % 256 / 128 % 2 = X / 2 ^ 7 % 2 := by show _ = X / 128 % 2; omega
theorem qb8 (X : Nat) : X / 256 % 256 % 2 = X / 2 ^ 8 % 2 := by show _ = X / 256 % 2; omega
theorem qb9 (X : Nat) : X / 256 % 256 / 2 % 2 = X / 2 ^ 9 % 2 := by show _ = X / 512 % 2; omega
theorem qb10 (X : Nat) : X / 256 % 256 / 4 % 2 = X / 2 ^ 10 % 2 := by show _ = X / 1024 % 2; omega
theorem qb11 (X : Nat) : X / 256 % 256 / 8 % 2 = X / 2 ^ 11 % 2 := by show _ = X / 2048 % 2; omega
theorem qb12 (X : Nat) : X / 256 % 256 / 16 % 2 = X / 2 ^ 12 % 2 := by show _ = X / 4096 % 2; omega
theorem qb13 (X : Nat) : X / 256 % 256 / 32 % 2 = X / 2 ^ 13 % 2 := by show _ = X / 8192 % 2; omega
theorem qb14 (X : Nat) : X / 256 % 256 / 64 % 2 = X / 2 ^ 14 % 2 := by show _ = X / 16384 % 2; omega
theorem qb15 (X : Nat) : X / 256 % 256 / 128 % 2 = X / 2 ^ 15 % 2 := by show _ = X / 32768 % 2; omega
theorem qb16 (X : Nat) : X / 65536 % 2 = X / 2 ^ 16 % 2 := by show _ = X / 65536 % 2; omega
theorem qb17 (X : Nat) : X / 65536 / 2 % 2 = X / 2 ^ 17 % 2 := by show _ = X / 131072 % 2; omega
theorem qb18 (X : Nat) : X / 65536 / 4 % 2 = X / 2 ^ 18 % 2 := by show _ = X / 262144 % 2; omega
theorem qb19 (X : Nat) : X / 65536 / 8 % 2 = X / 2 ^ 19 % 2 := by show _ = X / 524288 % 2; omega
theorem qz0 (X : Nat) (h : X < 1048576) : X / 65536 / 16 % 2 = 0 := by omega
theorem qz1 (X : Nat) (h : X < 1048576) : X / 65536 / 32 % 2 = 0 := by omega
theorem qz2 (X : Nat) (h : X < 1048576) : X / 65536 / 64 % 2 = 0 := by omega
theorem qz3 (X : Nat) (h : X < 1048576) : X / 65536 / 128 % 2 = 0 := by omega
/-- the count of a set of twenty -/
def cn20 (S : Int32) : Nat := sumL (fun i => i01 (bt S i)) 20
theorem bc20 {S : Int32} (h : ∀ i, 20 ≤ i → bt S i = false) : fJ6_bitCount_0f7a4 S = nI (cn20 S) := by
  have hb : ∀ i, bt S i = S.toBitVec.toNat.testBit i := fun i => by unfold bt; rw [BitVec.testBit_toNat]
  generalize hX : S.toBitVec.toNat = X at hb
  have hlt : X < 1048576 := by
    have : X < 2 ^ 20 := Nat.lt_pow_two_of_testBit X (fun i hi => by rw [← hb]; exact h i hi)
    exact this
  have hS : S = nI X := b_ext (fun i _ => by rw [hb i, nI_bt (by omega)])
  have hi : ∀ i, i01 (bt S i) = X / 2 ^ i % 2 := fun i => by
    rw [hb i, Nat.testBit_eq_decide_div_mod_eq]
    unfold i01
    by_cases e : X / 2 ^ i % 2 = 1
    · rw [if_pos (decide_eq_true e), e]
    · rw [if_neg (by rw [decide_eq_false e]; decide)]; omega
  have hc : cn20 S = sumL (fun i => X / 2 ^ i % 2) 20 := by unfold cn20; exact sumL_congr (fun i _ => hi i)
  rw [hc]
  clear hc hi
  rw [hS, bc_n hlt]
  congr 1
  simp only [sumL, by8]
  rw [qb0, qb1, qb2, qb3, qb4, qb5, qb6, qb7, qb8, qb9, qb10, qb11, qb12, qb13, qb14, qb15, qb16, qb17, qb18, qb19, qz0 X hlt, qz1 X hlt, qz2 X hlt, qz3 X hlt]
  clear hS hb hlt hX h
  generalize X / 2 ^ 0 % 2 = t0
  generalize X / 2 ^ 1 % 2 = t1
  generalize X / 2 ^ 2 % 2 = t2
  generalize X / 2 ^ 3 % 2 = t3
  generalize X / 2 ^ 4 % 2 = t4
  generalize X / 2 ^ 5 % 2 = t5
  generalize X / 2 ^ 6 % 2 = t6
  generalize X / 2 ^ 7 % 2 = t7
  generalize X / 2 ^ 8 % 2 = t8
  generalize X / 2 ^ 9 % 2 = t9
  generalize X / 2 ^ 10 % 2 = t10
  generalize X / 2 ^ 11 % 2 = t11
  generalize X / 2 ^ 12 % 2 = t12
  generalize X / 2 ^ 13 % 2 = t13
  generalize X / 2 ^ 14 % 2 = t14
  generalize X / 2 ^ 15 % 2 = t15
  generalize X / 2 ^ 16 % 2 = t16
  generalize X / 2 ^ 17 % 2 = t17
  generalize X / 2 ^ 18 % 2 = t18
  generalize X / 2 ^ 19 % 2 = t19
  omega
