/-! the second layer: numbers, bits, evaluation -/
def bt (x : Int32) (i : Nat) : Bool := x.toBitVec.getLsbD i
theorem b_ext {x y : Int32} (h : ∀ i, i < 32 → bt x i = bt y i) : x = y := Int32.toBitVec_inj.mp (BitVec.eq_of_getLsbD_eq (fun i hi => h i hi))
theorem b_or (x y : Int32) (i : Nat) : bt (x ||| y) i = (bt x i || bt y i) := by unfold bt; rw [Int32.toBitVec_or, BitVec.getLsbD_or]
theorem b_and (x y : Int32) (i : Nat) : bt (x &&& y) i = (bt x i && bt y i) := by unfold bt; rw [Int32.toBitVec_and, BitVec.getLsbD_and]
theorem b_xor (x y : Int32) (i : Nat) : bt (x ^^^ y) i = (bt x i ^^ bt y i) := by unfold bt; rw [Int32.toBitVec_xor, BitVec.getLsbD_xor]
theorem b_big {x : Int32} {i : Nat} (h : 32 ≤ i) : bt x i = false := BitVec.getLsbD_of_ge _ _ h
theorem b_m1 : ∀ i, i < 32 → bt (-1) i = true := by decide +kernel
theorem b_0 (i : Nat) : bt 0 i = false := BitVec.getLsbD_zero
theorem b_n0 (i : Nat) : bt (nI 0) i = false := b_0 i
theorem s_l : ∀ n, n < 32 → ((nI n &&& 31).toBitVec.smod 32).toNat = n := by decide +kernel
theorem s_u : ∀ n, n < 32 → (((nI n).toUInt32 &&& Int32.toUInt32 31).toBitVec % 32).toNat = n := by decide +kernel
theorem b_shl (n : Nat) (hn : n < 32) (x : Int32) {i : Nat} (hi : i < 32) : bt (x <<< (nI n &&& 31)) i = (decide (n ≤ i) && bt x (i - n)) := by
  unfold bt
  rw [Int32.toBitVec_shiftLeft]
  show (x.toBitVec <<< ((nI n &&& 31).toBitVec.smod 32).toNat).getLsbD i = _
  rw [s_l n hn, BitVec.getLsbD_shiftLeft]
  rcases Nat.lt_or_ge i n with h | h
  · simp [h, Nat.not_le.mpr h]
  · simp [hi, h, Nat.not_lt.mpr h]
theorem b_ushr (n : Nat) (hn : n < 32) (x : Int32) (i : Nat) : bt ((x.toUInt32 >>> ((nI n).toUInt32 &&& Int32.toUInt32 31)).toInt32) i = bt x (n + i) := by
  show (x.toUInt32 >>> ((nI n).toUInt32 &&& Int32.toUInt32 31)).toBitVec.getLsbD i = x.toUInt32.toBitVec.getLsbD (n + i)
  rw [UInt32.toBitVec_shiftRight]
  show (x.toUInt32.toBitVec >>> (((nI n).toUInt32 &&& Int32.toUInt32 31).toBitVec % 32).toNat).getLsbD i = _
  rw [s_u n hn, BitVec.getLsbD_ushiftRight]
theorem b_sshr (n : Nat) (hn : n < 32) (x : Int32) {i : Nat} (hi : i < 32) : bt (x >>> (nI n &&& 31)) i = if n + i < 32 then bt x (n + i) else bt x 31 := by
  unfold bt
  rw [Int32.toBitVec_shiftRight]
  show (x.toBitVec.sshiftRight ((nI n &&& 31).toBitVec.smod 32).toNat).getLsbD i = _
  rw [s_l n hn, BitVec.getLsbD_sshiftRight, BitVec.msb_eq_getLsbD_last]
  simp [hi]
theorem fa_or (a b : Nat) : nI a ||| nI b = nI (a ||| b) := by
  apply Int32.toBitVec_inj.1
  show BitVec.ofNat 32 a ||| BitVec.ofNat 32 b = BitVec.ofNat 32 (a ||| b)
  apply BitVec.eq_of_getLsbD_eq
  intro i hi
  simp [hi]
theorem fa_or_sum {a k : Nat} (b : Nat) (h : a < 2 ^ k) : nI (2 ^ k * b) ||| nI a = nI (2 ^ k * b + a) := by rw [fa_or, Nat.two_pow_add_eq_or_of_lt h]
theorem b_NO : ∀ i, i < 32 → bt NO i = true := b_m1
theorem b_not (x : Int32) {i : Nat} (hi : i < 32) : bt (x ^^^ NO) i = !bt x i := by rw [b_xor, b_NO i hi]; cases bt x i <;> rfl
theorem b_1 : ∀ i, i < 32 → bt 1 i = decide (i = 0) := by decide +kernel
theorem b_sh1 {j : Nat} (hj : j < 32) (i : Nat) : bt (sh1 (nI j)) i = decide (i = j) := by
  rcases Nat.lt_or_ge i 32 with h | h
  · unfold sh1
    rw [b_shl j hj _ h, b_1 _ (by omega)]
    by_cases e : i = j
    · subst e; simp
    · simp [e]; omega
  · rw [b_big h, decide_eq_false (by omega)]
theorem shr1 (x : Int32) {k : Nat} (hk : k < 32) : (x >>> (nI k &&& 31)) &&& 1 = if bt x k = true then 1 else 0 := by
  apply b_ext
  intro i hi
  rw [b_and, b_1 i hi]
  by_cases e : i = 0
  · subst e
    rw [b_sshr k hk x (by omega)]
    simp only [Nat.add_zero, hk, if_true]
    cases bt x k <;> simp [b_0, b_1]
  · simp only [e, decide_false, Bool.and_false]
    cases bt x k <;> simp [b_0, b_1 i hi, e]
theorem k_isIn (x : Int32) {k : Nat} (hk : k < 32) : fX11_isIn x (nI k) = if bt x k = true then nI 1 else nI 0 := by
  show cnd (((x >>> (nI k &&& 31)) &&& 1) = 0) (nI 0) (nI 1) = _
  rw [shr1 x hk]
  cases bt x k
  · exact cnd_pos rfl
  · exact cnd_neg (by decide)
theorem k_holds (x : Int32) {k : Nat} (hk : k < 32) : fX12_holds x (nI k) = if bt x k = true then nI 1 else nI 0 := by
  show cnd (((x >>> (nI k &&& 31)) &&& 1) = 1) (nI 1) (nI 0) = _
  rw [shr1 x hk]
  cases bt x k
  · exact cnd_neg (by decide)
  · exact cnd_pos rfl
/-! evaluation -/
theorem e_bnd {α β : Type} (e : α) (k : α → β) : bnd e k = k e := rfl
theorem e_obr {β γ : Type} (z : β) (k : β → Option γ) : obr (some z) k = k z := rfl
theorem e_obd {α β γ : Type} (r : α) (u : β) (k : α → β → Option γ) : obd (some (r, u)) k = k r u := rfl
theorem e_obt {α β γ δ : Type} (r : α) (u : β) (d : γ) (k : α → β → γ → Option δ) : obt (some (r, u, d)) k = k r u d := rfl
theorem e_addB (d n : Nat) (u : Sg) : addB d (some (u, n)) = some (u, d + n) := rfl
theorem e_addA (d n : Nat) (r : Int32) (u : Sg) : addA d (some (r, u, n)) = some (r, u, d + n) := rfl
theorem e_in {α : Type} {j n : Nat} {o : Option α} (h : j < n) (hn : n < 2147483648) : grd (vp_in (nI j) n) o = o := grd_pos (vp_in_nI h hn)
theorem e_cl {n : Nat} (h : n < 2147483648) : (nI n).toNatClampNeg = n := nI_clamp h
theorem e_leT {α : Type} {a b : Nat} {x y : α} (h : a ≤ b) (hb : b < 2147483648) : cnd (nI a ≤ nI b) x y = x := cnd_pos (nI_le h hb)
theorem e_leF {α : Type} {a b : Nat} {x y : α} (h : b < a) (ha : a < 2147483648) : cnd (nI a ≤ nI b) x y = y := cnd_neg (nI_ge h ha)
theorem e_ltT {α : Type} {a b : Nat} {x y : α} (h : a < b) (hb : b < 2147483648) : cnd (nI a < nI b) x y = x := cnd_pos (nI_lt h hb)
theorem e_ltF {α : Type} {a b : Nat} {x y : α} (h : b ≤ a) (ha : a < 2147483648) : cnd (nI a < nI b) x y = y := cnd_neg (nI_nlt h ha)
theorem e_eqT {α : Type} {a b : Nat} {x y : α} (h : a = b) : cnd (nI a = nI b) x y = x := cnd_pos (by rw [h])
theorem e_eqF {α : Type} {a b : Nat} {x y : α} (h : a ≠ b) (ha : a < 2147483648) (hb : b < 2147483648) : cnd (nI a = nI b) x y = y := cnd_neg (fun e => h ((nI_eq ha hb).mp e))
theorem NO_ne {a : Nat} (h : a < 2147483648) : nI a ≠ NO := fun e => absurd (congrArg Int32.toInt e) (by rw [nI_toInt h]; show (a : Int) ≠ -1; omega)
theorem NO_toInt : NO.toInt = -1 := rfl
theorem e_NOT {α : Type} {x y : α} : cnd (NO = NO) x y = x := cnd_pos rfl
theorem e_NOF {α : Type} {a : Nat} {x y : α} (h : a < 2147483648) : cnd (nI a = NO) x y = y := cnd_neg (NO_ne h)
theorem NO_lt {a : Nat} (h : a < 2147483648) : NO < nI a := by rw [Int32.lt_iff_toInt_lt, nI_toInt h, NO_toInt]; omega
theorem NO_le {a : Nat} (h : a < 2147483648) : NO ≤ nI a := by rw [Int32.le_iff_toInt_le, nI_toInt h, NO_toInt]; omega
theorem NO_nle {a : Nat} (h : a < 2147483648) : ¬ nI a ≤ NO := by rw [Int32.le_iff_toInt_le, nI_toInt h, NO_toInt]; omega
theorem NO_nlt {a : Nat} (h : a < 2147483648) : ¬ nI a < NO := by rw [Int32.lt_iff_toInt_lt, nI_toInt h, NO_toInt]; omega
theorem e_s2 (u : Sg) (q i : Nat) (x : Int32) : s2 u q i x q = upd (u q) i x := by simp [s2, sq]
theorem e_s2n {p q : Nat} (u : Sg) (i : Nat) (x : Int32) (h : p ≠ q) : s2 u q i x p = u p := by simp [s2, sq, h]
theorem e_s2' (u : Sg) (q i : Nat) (x : Int32) (j : Nat) : s2 u q i x q j = if j = i then x else u q j := by simp [s2, sq, upd]
theorem e_s2'' (u : Sg) (p q i : Nat) (x : Int32) (j : Nat) : s2 u q i x p j = if p = q ∧ j = i then x else u p j := by
  by_cases h : p = q
  · subst h; simp [e_s2']
  · rw [e_s2n _ _ _ h]; simp [h]
theorem e_upd (f : Nat → Int32) (i : Nat) (x : Int32) (j : Nat) : upd f i x j = if j = i then x else f j := rfl
/-! places in the model's row -/
def pN (n w : Nat) : Nat := 17 + 245 * n + w
def pP (n m w : Nat) : Nat := 42 + 245 * n + 11 * m + w
def pM (m w : Nat) : Nat := 1487 + 5 * m + w
def pE (k w : Nat) : Nat := 1587 + 4 * k + w
def pL (k w : Nat) : Nat := 1619 + 4 * k + w
def pC (c w : Nat) : Nat := 1859 + 844 * c + w
def pK (c k w : Nat) : Nat := 1863 + 844 * c + 6 * k + w
def sp (n m : Nat) : Nat := 20 * n + m
theorem k_spot (n m : Nat) : fX11_spotOf (nI n) (nI m) = nI (sp n m) := by
  show nI n * nI 20 + nI m = _
  rw [pk_mul, nI_add, sp, Nat.mul_comm]
theorem k_chan (a b : Nat) : fX11_channelOf (nI a) (nI b) = nI (6 * a + b) := by
  show nI a * nI 6 + nI b = _
  rw [pk_mul, nI_add, Nat.mul_comm]
theorem m_node (n w : Nat) : fX12_nodeAt (nI n) (nI w) = nI (pN n w) := by
  show nI 17 + nI 245 * nI n + nI w = _
  rw [pk_mul, nI_add, nI_add]; rfl
theorem m_pair (n m w : Nat) : fX12_pairAt (nI n) (nI m) (nI w) = nI (pP n m w) := by
  show fX12_nodeAt (nI n) (nI 25 + nI 11 * nI m + nI w) = _
  rw [pk_mul, nI_add, nI_add, m_node]; congr 1; unfold pN pP; omega
theorem m_msg (m w : Nat) : fX12_messageAt (nI m) (nI w) = nI (pM m w) := by
  show nI 1487 + nI 5 * nI m + nI w = _
  rw [pk_mul, nI_add, nI_add]; rfl
theorem m_chan (a b w : Nat) : fX12_channelAt (nI a) (nI b) (nI w) = nI (pC (6 * a + b) w) := by
  show nI 1859 + nI 844 * (nI 6 * nI a + nI b) + nI w = _
  rw [pk_mul, nI_add, pk_mul, nI_add, nI_add]; rfl
theorem m_pack (a b k w : Nat) : fX12_packetAt (nI a) (nI b) (nI k) (nI w) = nI (pK (6 * a + b) k w) := by
  show fX12_channelAt (nI a) (nI b) (nI 4 + nI 6 * nI k + nI w) = _
  rw [pk_mul, nI_add, nI_add, m_chan]; congr 1; unfold pC pK; omega
theorem e_T {α : Type} {x y : α} : cnd True x y = x := cnd_pos trivial
theorem e_F {α : Type} {x y : α} : cnd False x y = y := cnd_neg id
