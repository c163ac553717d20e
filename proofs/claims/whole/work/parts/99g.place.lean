/-! the lowest place of a set; places in what a node has delivered -/
theorem cnd_if {α : Type} {P : Prop} [Decidable P] {a b : α} : cnd P a b = if P then a else b := by
  by_cases h : P
  · rw [cnd_pos h, if_pos h]
  · rw [cnd_neg h, if_neg h]
def tz1 (x0 x1 : Int32) : Int32 := (x1 + ((x0 : Int32).toUInt32 >>> ((1 : Int32).toUInt32 &&& Int32.toUInt32 31)).toInt32)
def tz2 (x0 x1 : Int32) : Int32 := if x0 ≤ 4 then tz1 x0 x1 else tz1 (((x0 : Int32).toUInt32 >>> ((2 : Int32).toUInt32 &&& Int32.toUInt32 31)).toInt32) (x1 + 2)
def tz3 (x0 x1 : Int32) : Int32 := if x0 ≤ 16 then tz2 x0 x1 else tz2 (((x0 : Int32).toUInt32 >>> ((4 : Int32).toUInt32 &&& Int32.toUInt32 31)).toInt32) (x1 + 4)
def tz4 (x0 x1 : Int32) : Int32 := if x0 ≤ 256 then tz3 x0 x1 else tz3 (((x0 : Int32).toUInt32 >>> ((8 : Int32).toUInt32 &&& Int32.toUInt32 31)).toInt32) (x1 + 8)
def tz5 (v1 : Int32) : Int32 := if 0 < v1 then (if v1 ≤ 65536 then tz4 v1 1 else tz4 (((v1 : Int32).toUInt32 >>> ((16 : Int32).toUInt32 &&& Int32.toUInt32 31)).toInt32) (1 + 16)) else (v1 &&& 32)
theorem tz_f (x : Int32) : fJ6_numberOfTrailingZeros_0f7a4 x = tz5 ((x ^^^ (-1)) &&& (x - 1)) := by
  unfold fJ6_numberOfTrailingZeros_0f7a4 fJ6_numberOfTrailingZeros_0f7a4_0 fJ6_numberOfTrailingZeros_0f7a4_34 fJ6_numberOfTrailingZeros_0f7a4_49 fJ6_numberOfTrailingZeros_0f7a4_62 fJ6_numberOfTrailingZeros_0f7a4_74 tz5 tz4 tz3 tz2 tz1
  simp only [cnd_if, bnd]
theorem tz_c : ∀ j, j < 21 → tz5 (nI (2 ^ j - 1)) = nI j := by decide +kernel
theorem tz_v {x : Int32} {j : Nat} (hj : j < 31) (h1 : bt x j = true) (h0 : ∀ i, i < j → bt x i = false) : (x ^^^ (-1)) &&& (x - 1) = nI (2 ^ j - 1) := by
  have hb : ∀ y : Int32, ∀ i, bt y i = y.toBitVec.toNat.testBit i := fun y i => by unfold bt; rw [BitVec.testBit_toNat]
  generalize hX : x.toBitVec.toNat = X
  have hx : ∀ i, bt x i = X.testBit i := fun i => by rw [hb, hX]
  have hmod : X % 2 ^ j = 0 := by
    apply Nat.eq_of_testBit_eq
    intro i
    rw [Nat.testBit_mod_two_pow, Nat.zero_testBit]
    by_cases hi : i < j
    · rw [← hx, h0 i hi]; simp
    · simp [hi]
  have hdv : X = 2 ^ j * (X / 2 ^ j) := by
    have := Nat.div_add_mod X (2 ^ j); omega
  have hpos : 0 < 2 ^ j := Nat.two_pow_pos j
  generalize hB : X / 2 ^ j = b at hdv
  have hodd : b % 2 = 1 := by
    have : b.testBit 0 = true := by
      rw [← hB, Nat.testBit_div_two_pow, Nat.zero_add, ← hx]; exact h1
    rw [Nat.testBit_zero] at this
    exact of_decide_eq_true this
  have hlt : X < 2 ^ 32 := by rw [← hX]; exact x.toBitVec.isLt
  have hb1 : 1 ≤ b := by omega
  have hX1 : X - 1 = 2 ^ j * (b - 1) + (2 ^ j - 1) := by
    obtain ⟨d, rfl⟩ : ∃ d, b = d + 1 := ⟨b - 1, by omega⟩
    rw [Nat.mul_add] at hdv
    rw [Nat.add_sub_cancel]; omega
  have hge : 1 ≤ X := by
    have := Nat.mul_le_mul hpos hb1; omega
  have hs : (x - 1).toBitVec.toNat = X - 1 := by
    rw [Int32.toBitVec_sub, BitVec.toNat_sub, hX]
    have : ((1 : Int32).toBitVec).toNat = 1 := rfl
    rw [this]; omega
  have hp31 : 2 ^ j ≤ 2 ^ 30 := Nat.pow_le_pow_right (by omega) (by omega)
  have hr : (nI (2 ^ j - 1)).toBitVec.toNat = 2 ^ j - 1 := by
    show (BitVec.ofNat 32 (2 ^ j - 1)).toNat = _
    rw [BitVec.toNat_ofNat]; omega
  apply b_ext
  intro i hi
  rw [b_and, show ((-1 : Int32)) = NO from rfl, b_not x hi, hb (x - 1), hs, hb (nI _), hr, hX1, Nat.testBit_two_pow_mul_add _ (by omega), Nat.testBit_two_pow_sub_one]
  by_cases hij : i < j
  · rw [if_pos hij, h0 i hij, decide_eq_true hij]; rfl
  · rw [if_neg hij, decide_eq_false hij]
    by_cases e : i = j
    · subst e; rw [h1]; rfl
    · have : (b - 1).testBit (i - j) = bt x i := by
        obtain ⟨t, ht⟩ : ∃ t, i - j = t + 1 := ⟨i - j - 1, by omega⟩
        rw [hx i, hdv, ← Nat.add_zero (2 ^ j * b), Nat.testBit_two_pow_mul_add _ (by omega), if_neg hij, ht, Nat.testBit_succ, Nat.testBit_succ]
        congr 1; omega
      rw [this]; cases bt x i <;> rfl
/-- the lowest one -/
theorem tz {x : Int32} {j : Nat} (hj : j < 21) (h1 : bt x j = true) (h0 : ∀ i, i < j → bt x i = false) : fJ6_numberOfTrailingZeros_0f7a4 x = nI j := by
  rw [tz_f, tz_v (by omega) h1 h0, tz_c j hj]
theorem low_ex {P : Nat → Bool} : ∀ {k : Nat}, (∃ i, i < k ∧ P i = true) → ∃ j, j < k ∧ P j = true ∧ ∀ i, i < j → P i = false
  | 0, h => by obtain ⟨i, hi, -⟩ := h; omega
  | k + 1, h => by
    by_cases hh : ∃ i, i < k ∧ P i = true
    · obtain ⟨j, j1, j2, j3⟩ := low_ex hh
      exact ⟨j, by omega, j2, j3⟩
    · obtain ⟨i, hi, h1⟩ := h
      have hik : i = k := by
        refine Classical.byContradiction (fun q => hh ⟨i, by omega, h1⟩)
      subst hik
      refine ⟨i, by omega, h1, fun i' hi' => ?_⟩
      cases h2 : P i' with
      | false => rfl
      | true => exact absurd ⟨i', hi', h2⟩ hh
/-! places -/
def posN (k : Nat) : List Nat → Nat → Nat
  | [], _ => k
  | v :: l, m => if v = m then k else posN (k + 1) l m
def plI (k : Nat) : List Nat → Nat → Int32
  | [], _ => NO
  | v :: l, m => if v = m then nI k else plI (k + 1) l m
theorem plI_in {m : Nat} : ∀ {l : List Nat} {k : Nat}, m ∈ l → plI k l m = nI (posN k l m) ∧ k ≤ posN k l m ∧ posN k l m < k + l.length
  | [], _, h => by cases h
  | v :: l, k, h => by
    unfold plI posN
    by_cases e : v = m
    · rw [if_pos e, if_pos e]; exact ⟨rfl, Nat.le_refl _, by simp⟩
    · rw [if_neg e, if_neg e]
      have := plI_in (k := k + 1) ((List.mem_cons.mp h).resolve_left (fun q => e q.symm))
      exact ⟨this.1, by omega, by have := this.2.2; simp only [List.length_cons]; omega⟩
theorem plI_out {m : Nat} : ∀ {l : List Nat} {k : Nat}, m ∉ l → plI k l m = NO
  | [], _, _ => rfl
  | v :: l, k, h => by
    unfold plI
    rw [if_neg (fun e => h (by rw [e]; exact List.mem_cons_self))]
    exact plI_out (fun q => h (List.mem_cons_of_mem _ q))
/-- a stands before b -/
def bef : List Nat → Nat → Nat → Bool
  | [], _, _ => false
  | v :: l, a, b => if v = a then decide (b ∈ l) else bef l a b
theorem bef_out {a b : Nat} : ∀ {l : List Nat}, b ∉ l → bef l a b = false
  | [], _ => rfl
  | v :: l, h => by
    unfold bef
    have h2 : b ∉ l := fun q => h (List.mem_cons_of_mem _ q)
    by_cases e : v = a
    · rw [if_pos e]; exact decide_eq_false h2
    · rw [if_neg e]; exact bef_out h2
theorem bef_out1 {a b : Nat} : ∀ {l : List Nat}, a ∉ l → bef l a b = false
  | [], _ => rfl
  | v :: l, h => by
    unfold bef
    rw [if_neg (fun e => h (by rw [e]; exact List.mem_cons_self))]
    exact bef_out1 (fun q => h (List.mem_cons_of_mem _ q))
theorem bef_pos {a b : Nat} (hab : a ≠ b) : ∀ {l : List Nat} {k : Nat}, l.Nodup → a ∈ l → b ∈ l → (bef l a b = true ↔ posN k l a < posN k l b)
  | [], _, _, h, _ => by cases h
  | v :: l, k, hn, ha, hb => by
    unfold bef posN
    have hnd := (List.nodup_cons.mp hn)
    by_cases e1 : v = a
    · subst e1
      have hb' : b ∈ l := (List.mem_cons.mp hb).resolve_left (fun q => hab q.symm)
      rw [if_pos rfl, if_pos rfl, if_neg hab, decide_eq_true hb']
      have := (plI_in (k := k + 1) hb').2.1
      exact ⟨fun _ => by omega, fun _ => rfl⟩
    · have ha' : a ∈ l := (List.mem_cons.mp ha).resolve_left (fun q => e1 q.symm)
      rw [if_neg e1, if_neg e1]
      by_cases e2 : v = b
      · subst e2
        rw [if_pos rfl, bef_out hnd.1]
        have := (plI_in (k := k + 1) ha').2.1
        exact ⟨fun q => (by cases q), fun q => (by omega)⟩
      · rw [if_neg e2]
        exact bef_pos hab hnd.2 ha' ((List.mem_cons.mp hb).resolve_left (fun q => e2 q.symm))
def haB (a b : Nat) : Bool → Bool → List Nat → Bool
  | _, q, [] => q
  | p, q, v :: l => haB a b (p || decide (v = a)) (q || (p && decide (v = b))) l
theorem haB_t {a b : Nat} : ∀ {l : List Nat} {p : Bool}, haB a b p true l = true
  | [], _ => rfl
  | v :: l, p => by unfold haB; rw [Bool.true_or]; exact haB_t
theorem haB_p {a b : Nat} : ∀ {l : List Nat}, haB a b true false l = decide (b ∈ l)
  | [] => by unfold haB; exact (decide_eq_false (fun q => by cases q)).symm
  | v :: l => by
    unfold haB
    rw [Bool.true_or, Bool.false_or, Bool.true_and]
    by_cases e : v = b
    · rw [decide_eq_true e, haB_t, decide_eq_true (by rw [e]; exact List.mem_cons_self)]
    · rw [decide_eq_false e, haB_p]
      congr 1
      exact propext ⟨fun q => List.mem_cons_of_mem _ q, fun q => (List.mem_cons.mp q).resolve_left (fun z => e z.symm)⟩
theorem haB_bef {a b : Nat} : ∀ {l : List Nat}, haB a b false false l = bef l a b
  | [] => rfl
  | v :: l => by
    unfold haB bef
    rw [Bool.false_or, Bool.false_and, Bool.false_or]
    by_cases e : v = a
    · rw [decide_eq_true e, if_pos e, haB_p]
    · rw [decide_eq_false e, if_neg e, haB_bef]
section PL
variable {Dl : Nat → List Nat} {σ u : Sg} {ω : Nat → Int32} {N n m a b : Nat}
theorem drop_c {L l : List Nat} {k v : Nat} (h : L.drop k = v :: l) : L[k]? = some v ∧ L.drop (k + 1) = l ∧ k + (l.length + 1) = L.length := by
  have h1 : (L.drop k)[0]? = some v := by rw [h]; rfl
  rw [List.getElem?_drop] at h1
  have h2 : (L.drop k).tail = l := by rw [h]; rfl
  rw [List.tail_drop] at h2
  have h3 := congrArg List.length h
  rw [List.length_drop, List.length_cons] at h3
  exact ⟨h1, h2, by omega⟩
theorem drop_n {L : List Nat} {k : Nat} (h : L.drop k = []) : L.length ≤ k := by
  have h3 := congrArg List.length h
  rw [List.length_drop] at h3
  have : ([] : List Nat).length = 0 := rfl
  omega
theorem k_place_lp (hD : rD Dl σ ω) (hn : n < 6) (hm : m < 20) : ∀ l k f, (Dl n).drop k = l → k ≤ 20 → l.length < f → fX4_placeOf_2 σ f (nI n) (nI m) (nI k) = some (plI k l m) := by
  have hlen := dl_len hD hn
  obtain ⟨d1, d2, d3, d4, d5⟩ := hD n hn
  intro l
  induction l with
  | nil =>
    intro k f hk hk2 hf
    obtain ⟨f, rfl⟩ : ∃ g, f = g + 1 := ⟨f - 1, by omega⟩
    have := drop_n hk
    simp (disch := first | omega | (simp only [pN, pP, pM, pE, pL, pC, pK, sp]; omega)) only [u_fX4_placeOf_2, d3, plI, e_T, e_F, e_bnd, e_obr, e_obd, e_obt, e_addB, e_addA, e_in, e_cl, e_leT, e_leF, e_ltT, e_ltF, e_eqT, e_eqF, e_NOT, e_NOF, nI_add, pk_mul, k_spot, k_chan, m_node, m_pair, m_msg, m_chan, m_pack, e_w, e_wn, e_ws]
  | cons v l ih =>
    intro k f hk hk2 hf
    obtain ⟨f, rfl⟩ : ∃ g, f = g + 1 := ⟨f - 1, by omega⟩
    obtain ⟨q1, q2, q3⟩ := drop_c hk
    rw [List.length_cons] at hf
    have hv := ((d2 v).mp (List.mem_of_getElem? q1)).1
    have h24 := (d5 k v q1).1
    by_cases e : v = m
    · subst e
      unfold plI
      rw [if_pos rfl]
      simp (disch := first | omega | (simp only [pN, pP, pM, pE, pL, pC, pK, sp]; omega)) only [u_fX4_placeOf_2, d3, h24, e_T, e_F, e_bnd, e_obr, e_obd, e_obt, e_addB, e_addA, e_in, e_cl, e_leT, e_leF, e_ltT, e_ltF, e_eqT, e_eqF, e_NOT, e_NOF, nI_add, pk_mul, k_spot, k_chan, m_node, m_pair, m_msg, m_chan, m_pack, e_w, e_wn, e_ws]
    · have := ih (k + 1) f q2 (by omega) (by omega)
      unfold plI
      rw [if_neg e]
      simp (disch := first | omega | (simp only [pN, pP, pM, pE, pL, pC, pK, sp]; omega)) only [u_fX4_placeOf_2, d3, h24, this, e_T, e_F, e_bnd, e_obr, e_obd, e_obt, e_addB, e_addA, e_in, e_cl, e_leT, e_leF, e_ltT, e_ltF, e_eqT, e_eqF, e_NOT, e_NOF, nI_add, pk_mul, k_spot, k_chan, m_node, m_pair, m_msg, m_chan, m_pack, e_w, e_wn, e_ws]
theorem k_place (hD : rD Dl σ ω) (hn : n < 6) (hm : m < 20) : fX4_placeOf (nI n) (nI m) σ = some (plI 0 (Dl n) m) := by
  have := dl_len hD hn
  exact k_place_lp hD hn hm (Dl n) 0 FU rfl (by omega) (by show (Dl n).length < 100000; omega)
theorem m_has_lp (hD : rD Dl σ ω) (hn : n < 6) (ha : a < 20) (hb : b < 20) : ∀ l k f p q, (Dl n).drop k = l → k ≤ 20 → l.length < f → fX12_hasAhead_9 (sq u 1 ω) f (nI n) (nI a) (nI b) (b2 p) (b2 q) (nI k) = some (b2 (haB a b p q l)) := by
  have hlen := dl_len hD hn
  obtain ⟨d1, d2, d3, d4, d5⟩ := hD n hn
  intro l
  induction l with
  | nil =>
    intro k f p q hk hk2 hf
    obtain ⟨f, rfl⟩ : ∃ g, f = g + 1 := ⟨f - 1, by omega⟩
    have := drop_n hk
    cases q
    · simp (disch := first | omega | (simp only [pN, pP, pM, pE, pL, pC, pK, sp]; omega)) only [u_fX12_hasAhead_9, m_of, d4, haB, b2_f, e_isB0, e_T, e_F, e_bnd, e_obr, e_obd, e_obt, e_addB, e_addA, e_in, e_cl, e_leT, e_leF, e_ltT, e_ltF, e_eqT, e_eqF, e_NOT, e_NOF, nI_add, pk_mul, k_spot, k_chan, m_node, m_pair, m_msg, m_chan, m_pack, e_w, e_wn, e_ws]
    · simp (disch := first | omega | (simp only [pN, pP, pM, pE, pL, pC, pK, sp]; omega)) only [u_fX12_hasAhead_9, m_of, d4, haB, b2_t, e_isB1, e_T, e_F, e_bnd, e_obr, e_obd, e_obt, e_addB, e_addA, e_in, e_cl, e_leT, e_leF, e_ltT, e_ltF, e_eqT, e_eqF, e_NOT, e_NOF, nI_add, pk_mul, k_spot, k_chan, m_node, m_pair, m_msg, m_chan, m_pack, e_w, e_wn, e_ws]
  | cons v l ih =>
    intro k f p q hk hk2 hf
    obtain ⟨f, rfl⟩ : ∃ g, f = g + 1 := ⟨f - 1, by omega⟩
    obtain ⟨q1, q2, q3⟩ := drop_c hk
    rw [List.length_cons] at hf
    have hv := ((d2 v).mp (List.mem_of_getElem? q1)).1
    have h5 := (d5 k v q1).2.1
    have I : ∀ p q, fX12_hasAhead_9 (sq u 1 ω) f (nI n) (nI a) (nI b) (b2 p) (b2 q) (nI (k + 1)) = some (b2 (haB a b p q l)) := fun p q => ih (k + 1) f p q q2 (by omega) (by omega)
    have Itt := I true true
    have Itf := I true false
    have Ift := I false true
    have Iff := I false false
    rw [b2_t] at Itt
    rw [b2_t, b2_f] at Itf Ift
    rw [b2_f] at Iff
    unfold haB
    by_cases ea : v = a
    · have da := decide_eq_true ea
      by_cases eb : v = b
      · have db := decide_eq_true eb
        cases p <;> cases q <;> simp (disch := first | omega | (simp only [pN, pP, pM, pE, pL, pC, pK, sp]; omega)) only [u_fX12_hasAhead_9, u_fX12_hasAhead_43, u_fX12_hasAhead_47, u_fX12_hasAhead_48, u_fX12_hasAhead_68, u_fX12_hasAhead_73, m_of, d4, h5, b2_t, b2_f, Itt, Itf, Ift, Iff, da, db, Bool.or_true, Bool.or_false, Bool.true_or, Bool.false_or, Bool.and_true, Bool.and_false, Bool.true_and, Bool.false_and, e_T, e_F, e_bnd, e_obr, e_obd, e_obt, e_addB, e_addA, e_in, e_cl, e_leT, e_leF, e_ltT, e_ltF, e_eqT, e_eqF, e_NOT, e_NOF, nI_add, pk_mul, k_spot, k_chan, m_node, m_pair, m_msg, m_chan, m_pack, e_w, e_wn, e_ws]
      · have db := decide_eq_false eb
        cases p <;> cases q <;> simp (disch := first | omega | (simp only [pN, pP, pM, pE, pL, pC, pK, sp]; omega)) only [u_fX12_hasAhead_9, u_fX12_hasAhead_43, u_fX12_hasAhead_47, u_fX12_hasAhead_48, u_fX12_hasAhead_68, u_fX12_hasAhead_73, m_of, d4, h5, b2_t, b2_f, Itt, Itf, Ift, Iff, da, db, Bool.or_true, Bool.or_false, Bool.true_or, Bool.false_or, Bool.and_true, Bool.and_false, Bool.true_and, Bool.false_and, e_T, e_F, e_bnd, e_obr, e_obd, e_obt, e_addB, e_addA, e_in, e_cl, e_leT, e_leF, e_ltT, e_ltF, e_eqT, e_eqF, e_NOT, e_NOF, nI_add, pk_mul, k_spot, k_chan, m_node, m_pair, m_msg, m_chan, m_pack, e_w, e_wn, e_ws]
    · have da := decide_eq_false ea
      by_cases eb : v = b
      · have db := decide_eq_true eb
        cases p <;> cases q <;> simp (disch := first | omega | (simp only [pN, pP, pM, pE, pL, pC, pK, sp]; omega)) only [u_fX12_hasAhead_9, u_fX12_hasAhead_43, u_fX12_hasAhead_47, u_fX12_hasAhead_48, u_fX12_hasAhead_68, u_fX12_hasAhead_73, m_of, d4, h5, b2_t, b2_f, Itt, Itf, Ift, Iff, da, db, Bool.or_true, Bool.or_false, Bool.true_or, Bool.false_or, Bool.and_true, Bool.and_false, Bool.true_and, Bool.false_and, e_T, e_F, e_bnd, e_obr, e_obd, e_obt, e_addB, e_addA, e_in, e_cl, e_leT, e_leF, e_ltT, e_ltF, e_eqT, e_eqF, e_NOT, e_NOF, nI_add, pk_mul, k_spot, k_chan, m_node, m_pair, m_msg, m_chan, m_pack, e_w, e_wn, e_ws]
      · have db := decide_eq_false eb
        cases p <;> cases q <;> simp (disch := first | omega | (simp only [pN, pP, pM, pE, pL, pC, pK, sp]; omega)) only [u_fX12_hasAhead_9, u_fX12_hasAhead_43, u_fX12_hasAhead_47, u_fX12_hasAhead_48, u_fX12_hasAhead_68, u_fX12_hasAhead_73, m_of, d4, h5, b2_t, b2_f, Itt, Itf, Ift, Iff, da, db, Bool.or_true, Bool.or_false, Bool.true_or, Bool.false_or, Bool.and_true, Bool.and_false, Bool.true_and, Bool.false_and, e_T, e_F, e_bnd, e_obr, e_obd, e_obt, e_addB, e_addA, e_in, e_cl, e_leT, e_leF, e_ltT, e_ltF, e_eqT, e_eqF, e_NOT, e_NOF, nI_add, pk_mul, k_spot, k_chan, m_node, m_pair, m_msg, m_chan, m_pack, e_w, e_wn, e_ws]
theorem m_has (hD : rD Dl σ ω) (hn : n < 6) (ha : a < 20) (hb : b < 20) : fX12_hasAhead (nI n) (nI a) (nI b) (sq u 1 ω) = some (b2 (bef (Dl n) a b)) := by
  have := dl_len hD hn
  rw [u_fX12_hasAhead, u_fX12_hasAhead_0, ← haB_bef]
  exact m_has_lp hD hn ha hb (Dl n) 0 FU false false rfl (by omega) (by show (Dl n).length < 100000; omega)
end PL
