/-! who must take over, which gather is full -/
def allB (P : Nat → Bool) : Nat → Bool
  | 0 => true
  | k + 1 => allB P k && P k
theorem allB_iff {P : Nat → Bool} : ∀ {k : Nat}, allB P k = true ↔ ∀ i, i < k → P i = true
  | 0 => ⟨fun _ i hi => absurd hi (by omega), fun _ => rfl⟩
  | k + 1 => by
    show (allB P k && P k) = true ↔ _
    rw [Bool.and_eq_true, allB_iff]
    constructor
    · rintro ⟨h1, h2⟩ i hi
      by_cases e : i = k
      · subst e; exact h2
      · exact h1 i (by omega)
    · intro h; exact ⟨fun i hi => h i (by omega), h k (by omega)⟩
theorem allB_s {P : Nat → Bool} {k : Nat} : allB P (k + 1) = (allB P k && P k) := rfl
theorem z_iff (x : Int32) : x = nI 0 ↔ ∀ i, i < 32 → bt x i = false := by
  constructor
  · rintro rfl i _; exact b_n0 i
  · intro h; exact b_ext (fun i hi => by rw [h i hi, b_n0])
theorem b_low : ∀ n, n < 6 → ∀ i, i < 32 → bt (nI (2 ^ n - 1)) i = decide (i < n) := by decide +kernel
theorem b2_if (P : Prop) (b : Bool) (h : P ↔ b = true) : cnd P (some (nI 1)) (some (nI 0)) = some (b2 b) := by
  cases b with
  | true => rw [cnd_pos (h.mpr rfl)]; rfl
  | false => rw [cnd_neg (fun q => absurd (h.mp q) (by decide))]; rfl
def fullP (σ : Sg) (n m x : Nat) : Bool := !bt (σ 15 m) x || (bt (σ 27 (sp n m)) x || ntB σ x)
def fullB (N : Nat) (σ : Sg) (n m : Nat) : Bool := !decide (σ 27 (sp n m) = NO) && allB (fullP σ n m) N
def ldr (σ : Sg) (n m : Nat) : Nat := (σ 22 (sp n m)).toNatClampNeg
def mustB (σ : Sg) (n m : Nat) : Bool := !decide (σ 20 (sp n m) = nI 0) && (decide (σ 27 (sp n m) = NO) && (ntB σ (ldr σ n m) && (bt (σ 15 m) n && allB (fun o => !bt (σ 15 m) o || ntB σ o) n)))
section MU
variable {dr : Prop} {tk : Int32} {pl N G M T B : Nat} {e : Nat → Nat → Nat} {Q Q' : Qs} {Dl : Nat → List Nat} {u σ σ' : Sg} {ω ω' : Nat → Int32}
theorem k_full {n m : Nat} (h : R0 dr tk pl N G M T B Q Dl σ ω) (hn : n < N) (hm : m < M) : fX7_isFull (nI n) (nI m) σ = some (b2 (fullB N σ n m)) := by
  have h6 := h.1.1.1
  have hM20 := h.1.1.2.2.1
  have hsp : sp n m < 120 := by unfold sp; omega
  have z1 := h.1.2.1.1
  have hto := ((h.2.2.2.2.1 m (by omega)).2.1 hm).2.1
  simp (disch := first | omega | (simp only [pN, pP, pM, pE, pL, pC, pK, sp]; omega)) only [u_fX7_isFull, u_fX7_isFull_0, k_isOn, k_noticed z1 h6, e_T, e_F, e_bnd, e_obr, e_obd, e_obt, e_addB, e_addA, e_in, e_cl, e_leT, e_leF, e_ltT, e_ltF, e_eqT, e_eqF, e_NOT, e_NOF, nI_add, pk_mul, k_spot, k_chan, m_node, m_pair, m_msg, m_chan, m_pack, e_w, e_wn, e_ws]
  unfold fullB
  cases hon : decide (σ 27 (sp n m) = NO) with
  | true => rw [Bool.not_true, e_b2F rfl, Bool.false_and]; rfl
  | false =>
    rw [Bool.not_false, e_b2T rfl, Bool.true_and]
    apply b2_if
    rw [z_iff, allB_iff]
    constructor
    · intro hz x hx
      have := hz x (by omega)
      rw [b_and, b_and, b_not _ (by omega), b_not _ (by omega), bt_setOf (by omega), decide_eq_true hx] at this
      unfold fullP
      cases h1 : bt (σ 15 m) x <;> cases h2 : bt (σ 27 (sp n m)) x <;> cases h3 : ntB σ x <;> simp_all
    · intro hz i hi
      rw [b_and, b_and, b_not _ hi, b_not _ hi, bt_setOf (by omega)]
      by_cases hx : i < N
      · have := hz i hx
        unfold fullP at this
        rw [decide_eq_true hx]
        cases h1 : bt (σ 15 m) i <;> cases h2 : bt (σ 27 (sp n m)) i <;> cases h3 : ntB σ i <;> simp_all
      · rw [hto i (by omega)]; rfl
theorem m_full_lp {n m : Nat} (h : R0 dr tk pl N G M T B Q Dl σ ω) (hn : n < N) (hm : m < M) (hw : ω (pP n m 6) = σ 27 (sp n m)) : ∀ r i f, i + r = N → r < f → fX12_isFull_5 (sq u 1 ω) f (nI n) (nI m) (b2 (allB (fullP σ n m) i)) (nI i) = some (b2 (allB (fullP σ n m) N)) := by
  have h6 := h.1.1.1
  have hM20 := h.1.1.2.2.1
  have z2 := h.1.2.1.2
  intro r
  induction r with
  | zero =>
    intro i f hi hf
    obtain ⟨f, rfl⟩ : ∃ k, f = k + 1 := ⟨f - 1, by omega⟩
    have hi : i = N := by omega
    subst hi
    simp (disch := first | omega | (simp only [pN, pP, pM, pE, pL, pC, pK, sp]; omega)) only [u_fX12_isFull_5, m_nodes, z2, e_isB, e_T, e_F, e_bnd, e_obr, e_obd, e_obt, e_addB, e_addA, e_in, e_cl, e_leT, e_leF, e_ltT, e_ltF, e_eqT, e_eqF, e_NOT, e_NOF, nI_add, pk_mul, k_spot, k_chan, m_node, m_pair, m_msg, m_chan, m_pack, e_w, e_wn, e_ws]
  | succ r ih =>
    intro i f hi hf
    obtain ⟨f, rfl⟩ : ∃ k, f = k + 1 := ⟨f - 1, by omega⟩
    have ih := ih (i + 1) f (by omega) (by omega)
    rw [allB_s] at ih
    have hto := q_isTo (u := u) h.2.2.2.2.1 (m := m) (k := i) (by omega) (by omega)
    have hnt := q_isNoticed (u := u) h.1 h.2.1 (show i < N by omega)
    cases ha : allB (fullP σ n m) i with
    | false =>
      rw [ha, Bool.false_and] at ih
      simp (disch := first | omega | (simp only [pN, pP, pM, pE, pL, pC, pK, sp]; omega)) only [u_fX12_isFull_5, u_fX12_isFull_57, u_fX12_isFull_58, m_nodes, z2, b2_f, e_T, e_F, e_bnd, e_obr, e_obd, e_obt, e_addB, e_addA, e_in, e_cl, e_leT, e_leF, e_ltT, e_ltF, e_eqT, e_eqF, e_NOT, e_NOF, nI_add, pk_mul, k_spot, k_chan, m_node, m_pair, m_msg, m_chan, m_pack, e_w, e_wn, e_ws]
      exact ih
    | true =>
      rw [ha, Bool.true_and] at ih
      unfold fullP at ih
      cases h1 : bt (σ 15 m) i with
      | false =>
        rw [h1, Bool.not_false, Bool.true_or] at ih
        simp (disch := first | omega | (simp only [pN, pP, pM, pE, pL, pC, pK, sp]; omega)) only [u_fX12_isFull_5, u_fX12_isFull_53, u_fX12_isFull_58, m_nodes, z2, hto, h1, b2_t, b2_f, e_T, e_F, e_bnd, e_obr, e_obd, e_obt, e_addB, e_addA, e_in, e_cl, e_leT, e_leF, e_ltT, e_ltF, e_eqT, e_eqF, e_NOT, e_NOF, nI_add, pk_mul, k_spot, k_chan, m_node, m_pair, m_msg, m_chan, m_pack, e_w, e_wn, e_ws]
        exact ih
      | true =>
        rw [h1, Bool.not_true, Bool.false_or] at ih
        cases h2 : bt (σ 27 (sp n m)) i with
        | true =>
          rw [h2, Bool.true_or] at ih
          simp (disch := first | omega | (simp only [pN, pP, pM, pE, pL, pC, pK, sp]; omega)) only [u_fX12_isFull_5, u_fX12_isFull_53, u_fX12_isFull_58, m_nodes, z2, hto, h1, m_ofPair, hw, k_holds2, h2, b2_t, b2_f, e_T, e_F, e_bnd, e_obr, e_obd, e_obt, e_addB, e_addA, e_in, e_cl, e_leT, e_leF, e_ltT, e_ltF, e_eqT, e_eqF, e_NOT, e_NOF, nI_add, pk_mul, k_spot, k_chan, m_node, m_pair, m_msg, m_chan, m_pack, e_w, e_wn, e_ws]
          exact ih
        | false =>
          rw [h2, Bool.false_or] at ih
          cases h3 : ntB σ i with
          | true =>
            rw [h3] at ih
            simp (disch := first | omega | (simp only [pN, pP, pM, pE, pL, pC, pK, sp]; omega)) only [u_fX12_isFull_5, u_fX12_isFull_53, u_fX12_isFull_58, m_nodes, z2, hto, h1, m_ofPair, hw, k_holds2, h2, hnt, h3, b2_t, b2_f, e_T, e_F, e_bnd, e_obr, e_obd, e_obt, e_addB, e_addA, e_in, e_cl, e_leT, e_leF, e_ltT, e_ltF, e_eqT, e_eqF, e_NOT, e_NOF, nI_add, pk_mul, k_spot, k_chan, m_node, m_pair, m_msg, m_chan, m_pack, e_w, e_wn, e_ws]
            exact ih
          | false =>
            rw [h3] at ih
            simp (disch := first | omega | (simp only [pN, pP, pM, pE, pL, pC, pK, sp]; omega)) only [u_fX12_isFull_5, u_fX12_isFull_57, u_fX12_isFull_58, m_nodes, z2, hto, h1, m_ofPair, hw, k_holds2, h2, hnt, h3, b2_t, b2_f, e_T, e_F, e_bnd, e_obr, e_obd, e_obt, e_addB, e_addA, e_in, e_cl, e_leT, e_leF, e_ltT, e_ltF, e_eqT, e_eqF, e_NOT, e_NOF, nI_add, pk_mul, k_spot, k_chan, m_node, m_pair, m_msg, m_chan, m_pack, e_w, e_wn, e_ws]
            exact ih
/-- a gather is on, or not -/
theorem on_off {n m : Nat} (h : R0 dr tk pl N G M T B Q Dl σ ω) (hn : n < 6) (hm : m < 20) : (σ 27 (sp n m) = NO ∧ ω (pP n m 5) = nI 0) ∨ (σ 27 (sp n m) ≠ NO ∧ ω (pP n m 5) = nI 1 ∧ ω (pP n m 6) = σ 27 (sp n m)) := by
  rcases (h.2.2.1 n m hn hm).2.2.2 with ⟨g1, g2⟩ | ⟨-, -, g1, ⟨hh, g2, g3, g4, -⟩, -⟩
  · exact Or.inl ⟨g1, g2⟩
  · exact Or.inr ⟨by rw [g3]; exact NO_ne (by omega), g1, by rw [g3, g4]⟩
theorem m_full {n m : Nat} (h : R0 dr tk pl N G M T B Q Dl σ ω) (hn : n < N) (hm : m < M) (hon : σ 27 (sp n m) ≠ NO) : fX12_isFull (nI n) (nI m) (sq u 1 ω) = some (b2 (fullB N σ n m)) := by
  have h6 := h.1.1.1
  have hM20 := h.1.1.2.2.1
  rcases on_off h (show n < 6 by omega) (show m < 20 by omega) with ⟨g, -⟩ | ⟨-, -, g⟩
  · exact absurd g hon
  · have := m_full_lp (u := u) h hn hm g N 0 FU (by omega) (by show N < 100000; omega)
    unfold fullB
    rw [decide_eq_false hon, Bool.not_false, Bool.true_and]
    exact this
theorem k_must {n m : Nat} (h : R0 dr tk pl N G M T B Q Dl σ ω) (hn : n < N) (hm : m < M) (hu : σ 2 n = NO) : fX7_mustTakeOver (nI n) (nI m) σ = some (b2 (mustB σ n m)) := by
  have h6 := h.1.1.1
  have hM20 := h.1.1.2.2.1
  have hsp : sp n m < 120 := by unfold sp; omega
  have z1 := h.1.2.1.1
  obtain ⟨⟨k, k1, k2, k3, k4, -⟩, -⟩ := h.2.2.1 n m (by omega) (by omega)
  have hto := ((h.2.2.2.2.1 m (by omega)).2.1 hm).2.1
  simp (disch := first | omega | (simp only [pN, pP, pM, pE, pL, pC, pK, sp]; omega)) only [u_fX7_mustTakeOver, u_fX7_mustTakeOver_0, k_isOn, k_noticed z1 h6, k_isIn2, k2, e_T, e_F, e_bnd, e_obr, e_obd, e_obt, e_addB, e_addA, e_in, e_cl, e_leT, e_leF, e_ltT, e_ltF, e_eqT, e_eqF, e_NOT, e_NOF, nI_add, pk_mul, k_spot, k_chan, m_node, m_pair, m_msg, m_chan, m_pack, e_w, e_wn, e_ws]
  unfold mustB
  by_cases hk : k = 0
  · subst hk; rw [e_eqT rfl, k2]; rfl
  · rw [e_eqF hk (by omega) (by omega), k2, decide_eq_false (fun q => hk ((nI_eq (by omega) (by omega)).mp q)), Bool.not_false, Bool.true_and]
    cases hon : decide (σ 27 (sp n m) = NO) with
    | false => rw [Bool.not_false, e_b2T rfl, Bool.false_and]; rfl
    | true =>
      rw [Bool.not_true, e_b2F rfl, Bool.true_and]
      obtain ⟨-, -, l, hl, k5⟩ := k4 hk
      have e1 : ldr σ n m = l := by unfold ldr; rw [k5]; exact e_cl (by omega)
      rw [k5, k_isNoticed (by omega), e_obr, e1]
      cases hnt : ntB σ l with
      | false => rw [e_b2F rfl, Bool.false_and]; rfl
      | true =>
        rw [e_b2T rfl, Bool.true_and]
        have hp : 1 ≤ 2 ^ n := Nat.one_le_two_pow
        have hb : bt (σ 15 m &&& (setOf (ntB σ) N ^^^ NO)) n = bt (σ 15 m) n := by
          rw [b_and, b_not _ (by omega), bt_setOf (by omega), decide_eq_true hn, up_nt hu]; simp
        rw [hb, sh1_v (by omega), pk_sub hp]
        cases h1 : bt (σ 15 m) n with
        | false => rw [e_b2F rfl, Bool.false_and]; rfl
        | true =>
          rw [e_b2T rfl, Bool.true_and]
          apply b2_if
          rw [z_iff, allB_iff]
          constructor
          · intro hz x hx
            have := hz x (by omega)
            rw [b_and, b_low n (by omega) x (by omega), b_and, b_not _ (by omega), bt_setOf (by omega), decide_eq_true hx, decide_eq_true (show x < N by omega)] at this
            cases h2 : bt (σ 15 m) x <;> cases h3 : ntB σ x <;> simp_all
          · intro hz i hi
            rw [b_and, b_low n (by omega) i hi, b_and, b_not _ hi, bt_setOf (by omega)]
            by_cases hx : i < n
            · have := hz i hx
              rw [decide_eq_true hx, decide_eq_true (show i < N by omega)]
              cases h2 : bt (σ 15 m) i <;> cases h3 : ntB σ i <;> simp_all
            · rw [decide_eq_false hx, Bool.and_false]
theorem m_heir_lp {n m : Nat} {b : Bool} (h : R0 dr tk pl N G M T B Q Dl σ ω) (hn : n < N) (hm : m < M) : ∀ r i f, i + r = n → r < f → fX12_isHeir_52 (sq u 1 ω) f (nI n) (nI m) (b2 (b && allB (fun o => !bt (σ 15 m) o || ntB σ o) i)) (nI i) = some (b2 (b && allB (fun o => !bt (σ 15 m) o || ntB σ o) n)) := by
  have h6 := h.1.1.1
  have hM20 := h.1.1.2.2.1
  intro r
  induction r with
  | zero =>
    intro i f hi hf
    obtain ⟨f, rfl⟩ : ∃ k, f = k + 1 := ⟨f - 1, by omega⟩
    have hi : i = n := by omega
    subst hi
    simp (disch := first | omega | (simp only [pN, pP, pM, pE, pL, pC, pK, sp]; omega)) only [u_fX12_isHeir_52, e_isB, e_T, e_F, e_bnd, e_obr, e_obd, e_obt, e_addB, e_addA, e_in, e_cl, e_leT, e_leF, e_ltT, e_ltF, e_eqT, e_eqF, e_NOT, e_NOF, nI_add, pk_mul, k_spot, k_chan, m_node, m_pair, m_msg, m_chan, m_pack, e_w, e_wn, e_ws]
  | succ r ih =>
    intro i f hi hf
    obtain ⟨f, rfl⟩ : ∃ k, f = k + 1 := ⟨f - 1, by omega⟩
    have ih := ih (i + 1) f (by omega) (by omega)
    rw [allB_s, ← Bool.and_assoc] at ih
    have hto := q_isTo (u := u) h.2.2.2.2.1 (m := m) (k := i) (by omega) (by omega)
    have hnt := q_isNoticed (u := u) h.1 h.2.1 (show i < N by omega)
    cases ha : (b && allB (fun o => !bt (σ 15 m) o || ntB σ o) i) with
    | false =>
      rw [ha, Bool.false_and] at ih
      simp (disch := first | omega | (simp only [pN, pP, pM, pE, pL, pC, pK, sp]; omega)) only [u_fX12_isHeir_52, u_fX12_isHeir_85, u_fX12_isHeir_86, b2_f, e_T, e_F, e_bnd, e_obr, e_obd, e_obt, e_addB, e_addA, e_in, e_cl, e_leT, e_leF, e_ltT, e_ltF, e_eqT, e_eqF, e_NOT, e_NOF, nI_add, pk_mul, k_spot, k_chan, m_node, m_pair, m_msg, m_chan, m_pack, e_w, e_wn, e_ws]
      exact ih
    | true =>
      rw [ha, Bool.true_and] at ih
      cases h1 : bt (σ 15 m) i with
      | false =>
        rw [h1, Bool.not_false, Bool.true_or] at ih
        simp (disch := first | omega | (simp only [pN, pP, pM, pE, pL, pC, pK, sp]; omega)) only [u_fX12_isHeir_52, u_fX12_isHeir_81, u_fX12_isHeir_86, hto, h1, b2_t, b2_f, e_T, e_F, e_bnd, e_obr, e_obd, e_obt, e_addB, e_addA, e_in, e_cl, e_leT, e_leF, e_ltT, e_ltF, e_eqT, e_eqF, e_NOT, e_NOF, nI_add, pk_mul, k_spot, k_chan, m_node, m_pair, m_msg, m_chan, m_pack, e_w, e_wn, e_ws]
        exact ih
      | true =>
        rw [h1, Bool.not_true, Bool.false_or] at ih
        cases h3 : ntB σ i with
        | true =>
          rw [h3] at ih
          simp (disch := first | omega | (simp only [pN, pP, pM, pE, pL, pC, pK, sp]; omega)) only [u_fX12_isHeir_52, u_fX12_isHeir_81, u_fX12_isHeir_86, hto, h1, hnt, h3, b2_t, b2_f, e_T, e_F, e_bnd, e_obr, e_obd, e_obt, e_addB, e_addA, e_in, e_cl, e_leT, e_leF, e_ltT, e_ltF, e_eqT, e_eqF, e_NOT, e_NOF, nI_add, pk_mul, k_spot, k_chan, m_node, m_pair, m_msg, m_chan, m_pack, e_w, e_wn, e_ws]
          exact ih
        | false =>
          rw [h3] at ih
          simp (disch := first | omega | (simp only [pN, pP, pM, pE, pL, pC, pK, sp]; omega)) only [u_fX12_isHeir_52, u_fX12_isHeir_85, u_fX12_isHeir_86, hto, h1, hnt, h3, b2_t, b2_f, e_T, e_F, e_bnd, e_obr, e_obd, e_obt, e_addB, e_addA, e_in, e_cl, e_leT, e_leF, e_ltT, e_ltF, e_eqT, e_eqF, e_NOT, e_NOF, nI_add, pk_mul, k_spot, k_chan, m_node, m_pair, m_msg, m_chan, m_pack, e_w, e_wn, e_ws]
          exact ih
theorem m_heir {n m : Nat} (h : R0 dr tk pl N G M T B Q Dl σ ω) (hn : n < N) (hm : m < M) : fX12_isHeir (nI n) (nI m) (sq u 1 ω) = some (b2 (mustB σ n m)) := by
  have h6 := h.1.1.1
  have hM20 := h.1.1.2.2.1
  obtain ⟨⟨k, k1, k2, k3, k4, -⟩, -, l1, -⟩ := h.2.2.1 n m (by omega) (by omega)
  have hF : fX12_isHeir_47 (nI n) (nI m) (sq u 1 ω) = some (b2 false) := by
    have := m_heir_lp (u := u) (b := false) h hn hm n 0 FU (by omega) (by show n < 100000; omega)
    simp only [Bool.false_and] at this
    rw [u_fX12_isHeir_47, u_fX12_isHeir_48]; exact this
  have hT := m_heir_lp (u := u) (b := true) h hn hm n 0 FU (by omega) (by show n < 100000; omega)
  simp only [Bool.true_and] at hT
  have hT : fX12_isHeir_48 (nI n) (nI m) (nI 1) (sq u 1 ω) = some (b2 (allB (fun o => !bt (σ 15 m) o || ntB σ o) n)) := by
    rw [u_fX12_isHeir_48]; exact hT
  have hto := q_isTo (u := u) h.2.2.2.2.1 (m := m) (k := n) (by omega) (by omega)
  unfold mustB
  rw [k2]
  by_cases hk : k = 0
  · subst hk
    simp (disch := first | omega | (simp only [pN, pP, pM, pE, pL, pC, pK, sp]; omega)) only [u_fX12_isHeir, u_fX12_isHeir_0, m_ofPair, k3, hF, e_T, e_F, e_bnd, e_obr, e_obd, e_obt, e_addB, e_addA, e_in, e_cl, e_leT, e_leF, e_ltT, e_ltF, e_eqT, e_eqF, e_NOT, e_NOF, nI_add, pk_mul, k_spot, k_chan, m_node, m_pair, m_msg, m_chan, m_pack, e_w, e_wn, e_ws]
    rfl
  · obtain ⟨-, -, l, hl, k5⟩ := k4 hk
    have e1 : ldr σ n m = l := by unfold ldr; rw [k5]; exact e_cl (by omega)
    have hnt := q_isNoticed (u := u) h.1 h.2.1 hl
    rw [k5] at l1
    rw [decide_eq_false (fun q => hk ((nI_eq (by omega) (by omega)).mp q)), Bool.not_false, Bool.true_and, e1]
    cases h1 : ntB σ l with
    | false =>
      simp (disch := first | omega | (simp only [pN, pP, pM, pE, pL, pC, pK, sp]; omega)) only [u_fX12_isHeir, u_fX12_isHeir_0, m_ofPair, k3, ← l1, hnt, h1, b2_f, hF, e_T, e_F, e_bnd, e_obr, e_obd, e_obt, e_addB, e_addA, e_in, e_cl, e_leT, e_leF, e_ltT, e_ltF, e_eqT, e_eqF, e_NOT, e_NOF, nI_add, pk_mul, k_spot, k_chan, m_node, m_pair, m_msg, m_chan, m_pack, e_w, e_wn, e_ws, Bool.false_and, Bool.and_false]
    | true =>
      cases h2 : bt (σ 15 m) n with
      | false =>
        simp (disch := first | omega | (simp only [pN, pP, pM, pE, pL, pC, pK, sp]; omega)) only [u_fX12_isHeir, u_fX12_isHeir_0, m_ofPair, k3, ← l1, hnt, h1, hto, h2, b2_t, b2_f, hF, e_T, e_F, e_bnd, e_obr, e_obd, e_obt, e_addB, e_addA, e_in, e_cl, e_leT, e_leF, e_ltT, e_ltF, e_eqT, e_eqF, e_NOT, e_NOF, nI_add, pk_mul, k_spot, k_chan, m_node, m_pair, m_msg, m_chan, m_pack, e_w, e_wn, e_ws, Bool.false_and, Bool.and_false]
      | true =>
        rcases on_off h (show n < 6 by omega) (show m < 20 by omega) with ⟨g1, g2⟩ | ⟨g1, g2, -⟩
        · rw [decide_eq_true g1]
          simp (disch := first | omega | (simp only [pN, pP, pM, pE, pL, pC, pK, sp]; omega)) only [u_fX12_isHeir, u_fX12_isHeir_0, m_ofPair, k3, ← l1, hnt, h1, hto, h2, g2, b2_t, b2_f, hT, e_T, e_F, e_bnd, e_obr, e_obd, e_obt, e_addB, e_addA, e_in, e_cl, e_leT, e_leF, e_ltT, e_ltF, e_eqT, e_eqF, e_NOT, e_NOF, nI_add, pk_mul, k_spot, k_chan, m_node, m_pair, m_msg, m_chan, m_pack, e_w, e_wn, e_ws, Bool.true_and]
        · rw [decide_eq_false g1]
          simp (disch := first | omega | (simp only [pN, pP, pM, pE, pL, pC, pK, sp]; omega)) only [u_fX12_isHeir, u_fX12_isHeir_0, m_ofPair, k3, ← l1, hnt, h1, hto, h2, g2, b2_t, b2_f, hF, e_T, e_F, e_bnd, e_obr, e_obd, e_obt, e_addB, e_addA, e_in, e_cl, e_leT, e_leF, e_ltT, e_ltF, e_eqT, e_eqF, e_NOT, e_NOF, nI_add, pk_mul, k_spot, k_chan, m_node, m_pair, m_msg, m_chan, m_pack, e_w, e_wn, e_ws, Bool.false_and]
end MU
