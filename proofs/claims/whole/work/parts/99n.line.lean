/-! line -/
def lw (P : Nat → Bool) : Nat → Nat → Option Nat
  | 0, _ => none
  | r + 1, k => if P k = true then some k else lw P r (k + 1)
theorem lw_cg {P P' : Nat → Bool} : ∀ {r k : Nat}, (∀ i, k ≤ i → i < k + r → P i = P' i) → lw P r k = lw P' r k
  | 0, _, _ => rfl
  | r + 1, k, h => by
    show (if P k = true then some k else lw P r (k + 1)) = (if P' k = true then some k else lw P' r (k + 1))
    rw [h k (by omega) (by omega), lw_cg (fun i h1 h2 => h i (by omega) (by omega))]
theorem lw_none {P : Nat → Bool} : ∀ {r k : Nat}, (∀ i, k ≤ i → i < k + r → P i = false) → lw P r k = none
  | 0, _, _ => rfl
  | r + 1, k, h => by
    show (if P k = true then some k else lw P r (k + 1)) = none
    rw [if_neg (by rw [h k (by omega) (by omega)]; decide), lw_none (fun i h1 h2 => h i (by omega) (by omega))]
theorem lw_more {P : Nat → Bool} : ∀ {r s k : Nat}, (∀ i, k + r ≤ i → i < k + r + s → P i = false) → lw P (r + s) k = lw P r k
  | 0, s, k, h => by rw [Nat.zero_add, lw_none (fun i h1 h2 => h i (by omega) (by omega))]; rfl
  | r + 1, s, k, h => by
    rw [show r + 1 + s = (r + s) + 1 from by omega]
    show (if P k = true then some k else lw P (r + s) (k + 1)) = (if P k = true then some k else lw P r (k + 1))
    rw [lw_more (fun i h1 h2 => h i (by omega) (by omega))]
theorem lw_some {P : Nat → Bool} : ∀ {r k j : Nat}, lw P r k = some j → k ≤ j ∧ j < k + r ∧ P j = true ∧ ∀ i, k ≤ i → i < j → P i = false
  | 0, _, _, h => by cases h
  | r + 1, k, j, h => by
    have h : (if P k = true then some k else lw P r (k + 1)) = some j := h
    by_cases e : P k = true
    · rw [if_pos e] at h
      cases h
      exact ⟨Nat.le_refl _, by omega, e, fun i h1 h2 => by omega⟩
    · rw [if_neg e] at h
      obtain ⟨a, b, c, d⟩ := lw_some h
      refine ⟨by omega, by omega, c, fun i h1 h2 => ?_⟩
      by_cases ei : i = k
      · subst ei; exact Bool.eq_false_iff.mpr e
      · exact d i (by omega) h2
theorem lw_none' {P : Nat → Bool} : ∀ {r k : Nat}, lw P r k = none → ∀ i, k ≤ i → i < k + r → P i = false
  | 0, _, _, i, h1, h2 => by omega
  | r + 1, k, h, i, h1, h2 => by
    have h : (if P k = true then some k else lw P r (k + 1)) = none := h
    by_cases e : P k = true
    · rw [if_pos e] at h; cases h
    · rw [if_neg e] at h
      by_cases ei : i = k
      · subst ei; exact Bool.eq_false_iff.mpr e
      · exact lw_none' h i (by omega) (by omega)
theorem anyF_more {P : Nat → Bool} : ∀ {r s k : Nat}, (∀ i, k + r ≤ i → i < k + r + s → P i = false) → anyF P (r + s) k = anyF P r k
  | 0, s, k, h => by rw [Nat.zero_add, anyF_f (fun i h1 h2 => h i (by omega) (by omega))]; rfl
  | r + 1, s, k, h => by
    rw [show r + 1 + s = (r + s) + 1 from by omega]
    show (P k || anyF P (r + s) (k + 1)) = (P k || anyF P r (k + 1))
    rw [anyF_more (fun i h1 h2 => h i (by omega) (by omega))]
theorem anyF_cg {P P' : Nat → Bool} : ∀ {r k : Nat}, (∀ i, k ≤ i → i < k + r → P i = P' i) → anyF P r k = anyF P' r k
  | 0, _, _ => rfl
  | r + 1, k, h => by
    show (P k || anyF P r (k + 1)) = (P' k || anyF P' r (k + 1))
    rw [h k (by omega) (by omega), anyF_cg (fun i h1 h2 => h i (by omega) (by omega))]
/-- y stands before x, and is still there -/
def bhP (R : Nat → Int32) (S : Int32) (x y : Nat) : Bool := !decide (y = x) && (bt S y && bt (R y) x)
def cdP (R : Nat → Int32) (n : Nat) (S : Int32) (x : Nat) : Bool := bt S x && !anyF (bhP R S x) n 0
def nxI (R : Nat → Int32) (S : Int32) : Int32 := match lw (cdP R 20 S) 20 0 with
  | some x => nI x
  | none => oI (lw (bt S) 20 0)
def rem (S x : Int32) : Int32 := S &&& (sh1 x ^^^ NO)
section LI
variable {dr : Prop} {tk : Int32} {pl N G M T B : Nat} {Q : Qs} {Dl : Nat → List Nat} {σ u : Sg} {ω : Nat → Int32}
theorem k_behind {S : Int32} {x : Nat} (hx : x < 20) : ∀ r k f, k + r = 20 → r < f → fX8_isBehindOne_2 u f (nI x) S (nI k) = some (b2 (anyF (bhP (u 37) S x) r k)) := by
  intro r
  induction r with
  | zero =>
    intro k f hk hf
    obtain ⟨f, rfl⟩ : ∃ g, f = g + 1 := ⟨f - 1, by omega⟩
    simp (disch := first | omega | (simp only [pN, pP, pM, pE, pL, pC, pK, sp]; omega)) only [u_fX8_isBehindOne_2, show anyF (bhP (u 37) S x) 0 k = false from rfl, b2_f, e_T, e_F, e_bnd, e_obr, e_obd, e_obt, e_addB, e_addA, e_in, e_cl, e_leT, e_leF, e_ltT, e_ltF, e_eqT, e_eqF, e_NOT, e_NOF, nI_add, pk_mul, k_spot, k_chan, m_node, m_pair, m_msg, m_chan, m_pack, e_w, e_wn, e_ws]
  | succ r ih =>
    intro k f hk hf
    obtain ⟨f, rfl⟩ : ∃ g, f = g + 1 := ⟨f - 1, by omega⟩
    have I := ih (k + 1) f (by omega) (by omega)
    have es : anyF (bhP (u 37) S x) (r + 1) k = (bhP (u 37) S x k || anyF (bhP (u 37) S x) r (k + 1)) := rfl
    have kS := k_isIn2 S (k := k) (by omega)
    have kR := k_isIn2 (u 37 k) (k := x) (by omega)
    rw [es]
    by_cases e : k = x
    · subst e
      rw [show bhP (u 37) S k k = false from by unfold bhP; rw [decide_eq_true rfl]; rfl, Bool.false_or, ← I]
      simp (disch := first | omega | (simp only [pN, pP, pM, pE, pL, pC, pK, sp]; omega)) only [u_fX8_isBehindOne_2, u_fX8_isBehindOne_32, e_T, e_F, e_bnd, e_obr, e_obd, e_obt, e_addB, e_addA, e_in, e_cl, e_leT, e_leF, e_ltT, e_ltF, e_eqT, e_eqF, e_NOT, e_NOF, nI_add, pk_mul, k_spot, k_chan, m_node, m_pair, m_msg, m_chan, m_pack, e_w, e_wn, e_ws]
    · cases h1 : bt S k with
      | false =>
        rw [h1] at kS
        rw [show bhP (u 37) S x k = false from by unfold bhP; rw [h1, Bool.false_and, Bool.and_false], Bool.false_or, ← I]
        simp (disch := first | omega | (simp only [pN, pP, pM, pE, pL, pC, pK, sp]; omega)) only [u_fX8_isBehindOne_2, u_fX8_isBehindOne_32, kS, b2_f, e_T, e_F, e_bnd, e_obr, e_obd, e_obt, e_addB, e_addA, e_in, e_cl, e_leT, e_leF, e_ltT, e_ltF, e_eqT, e_eqF, e_NOT, e_NOF, nI_add, pk_mul, k_spot, k_chan, m_node, m_pair, m_msg, m_chan, m_pack, e_w, e_wn, e_ws]
      | true =>
        rw [h1] at kS
        cases h2 : bt (u 37 k) x with
        | false =>
          rw [h2] at kR
          rw [show bhP (u 37) S x k = false from by unfold bhP; rw [h2, Bool.and_false, Bool.and_false], Bool.false_or, ← I]
          simp (disch := first | omega | (simp only [pN, pP, pM, pE, pL, pC, pK, sp]; omega)) only [u_fX8_isBehindOne_2, u_fX8_isBehindOne_32, u_fX8_isAhead, u_fX8_isAhead_0, kS, kR, b2_f, b2_t, e_isB0, e_T, e_F, e_bnd, e_obr, e_obd, e_obt, e_addB, e_addA, e_in, e_cl, e_leT, e_leF, e_ltT, e_ltF, e_eqT, e_eqF, e_NOT, e_NOF, nI_add, pk_mul, k_spot, k_chan, m_node, m_pair, m_msg, m_chan, m_pack, e_w, e_wn, e_ws]
        | true =>
          rw [h2] at kR
          rw [show bhP (u 37) S x k = true from by unfold bhP; rw [h1, h2, decide_eq_false e]; rfl, Bool.true_or]
          simp (disch := first | omega | (simp only [pN, pP, pM, pE, pL, pC, pK, sp]; omega)) only [u_fX8_isBehindOne_2, u_fX8_isBehindOne_32, u_fX8_isAhead, u_fX8_isAhead_0, kS, kR, b2_t, e_isB1, e_T, e_F, e_bnd, e_obr, e_obd, e_obt, e_addB, e_addA, e_in, e_cl, e_leT, e_leF, e_ltT, e_ltF, e_eqT, e_eqF, e_NOT, e_NOF, nI_add, pk_mul, k_spot, k_chan, m_node, m_pair, m_msg, m_chan, m_pack, e_w, e_wn, e_ws]
theorem k_next27 {S d : Int32} : ∀ r k f, k + r = 20 → r < f → fX8_nextOf_27 u f S d (nI k) = some (match lw (cdP (u 37) 20 S) r k with | some x => nI x | none => d) := by
  intro r
  induction r with
  | zero =>
    intro k f hk hf
    obtain ⟨f, rfl⟩ : ∃ g, f = g + 1 := ⟨f - 1, by omega⟩
    simp (disch := first | omega | (simp only [pN, pP, pM, pE, pL, pC, pK, sp]; omega)) only [u_fX8_nextOf_27, lw, e_T, e_F, e_bnd, e_obr, e_obd, e_obt, e_addB, e_addA, e_in, e_cl, e_leT, e_leF, e_ltT, e_ltF, e_eqT, e_eqF, e_NOT, e_NOF, nI_add, pk_mul, k_spot, k_chan, m_node, m_pair, m_msg, m_chan, m_pack, e_w, e_wn, e_ws]
  | succ r ih =>
    intro k f hk hf
    obtain ⟨f, rfl⟩ : ∃ g, f = g + 1 := ⟨f - 1, by omega⟩
    have I := ih (k + 1) f (by omega) (by omega)
    have kS := k_isIn2 S (k := k) (by omega)
    have kb : fX8_isBehindOne (nI k) S u = some (b2 (anyF (bhP (u 37) S k) 20 0)) := k_behind (by omega) 20 0 FU (by omega) (by show 20 < 100000; omega)
    have es : lw (cdP (u 37) 20 S) (r + 1) k = if cdP (u 37) 20 S k = true then some k else lw (cdP (u 37) 20 S) r (k + 1) := rfl
    rw [es]
    cases h1 : bt S k with
    | false =>
      rw [h1] at kS
      rw [if_neg (by unfold cdP; rw [h1, Bool.false_and]; decide), ← I]
      simp (disch := first | omega | (simp only [pN, pP, pM, pE, pL, pC, pK, sp]; omega)) only [u_fX8_nextOf_27, u_fX8_nextOf_52, kS, b2_f, e_T, e_F, e_bnd, e_obr, e_obd, e_obt, e_addB, e_addA, e_in, e_cl, e_leT, e_leF, e_ltT, e_ltF, e_eqT, e_eqF, e_NOT, e_NOF, nI_add, pk_mul, k_spot, k_chan, m_node, m_pair, m_msg, m_chan, m_pack, e_w, e_wn, e_ws]
    | true =>
      rw [h1] at kS
      cases h2 : anyF (bhP (u 37) S k) 20 0 with
      | true =>
        rw [h2] at kb
        rw [if_neg (by unfold cdP; rw [h2, Bool.not_true, Bool.and_false]; decide), ← I]
        simp (disch := first | omega | (simp only [pN, pP, pM, pE, pL, pC, pK, sp]; omega)) only [u_fX8_nextOf_27, u_fX8_nextOf_52, kS, kb, b2_t, e_T, e_F, e_bnd, e_obr, e_obd, e_obt, e_addB, e_addA, e_in, e_cl, e_leT, e_leF, e_ltT, e_ltF, e_eqT, e_eqF, e_NOT, e_NOF, nI_add, pk_mul, k_spot, k_chan, m_node, m_pair, m_msg, m_chan, m_pack, e_w, e_wn, e_ws]
      | false =>
        rw [h2] at kb
        rw [if_pos (by unfold cdP; rw [h1, h2]; rfl)]
        simp (disch := first | omega | (simp only [pN, pP, pM, pE, pL, pC, pK, sp]; omega)) only [u_fX8_nextOf_27, u_fX8_nextOf_52, kS, kb, b2_t, b2_f, e_T, e_F, e_bnd, e_obr, e_obd, e_obt, e_addB, e_addA, e_in, e_cl, e_leT, e_leF, e_ltT, e_ltF, e_eqT, e_eqF, e_NOT, e_NOF, nI_add, pk_mul, k_spot, k_chan, m_node, m_pair, m_msg, m_chan, m_pack, e_w, e_wn, e_ws]
theorem k_next5 {S : Int32} : ∀ p f, p ≤ 20 → p < f → fX8_nextOf_5 u f S (oI (lw (bt S) (20 - p) p)) (pmI p) = fX8_nextOf_27 u FU S (oI (lw (bt S) 20 0)) (nI 0) := by
  intro p
  induction p with
  | zero =>
    intro f hp hf
    obtain ⟨f, rfl⟩ : ∃ g, f = g + 1 := ⟨f - 1, by omega⟩
    rw [u_fX8_nextOf_5, show pmI 0 = NO from rfl, cnd_pos (by decide)]
  | succ p ih =>
    intro f hp hf
    obtain ⟨f, rfl⟩ : ∃ g, f = g + 1 := ⟨f - 1, by omega⟩
    have I := ih f (by omega) (by omega)
    have kS := k_isIn2 S (k := p) (by omega)
    have hpm := pm_add p
    have es : lw (bt S) (20 - p) p = if bt S p = true then some p else lw (bt S) (20 - (p + 1)) (p + 1) := by
      rw [show 20 - p = (20 - (p + 1)) + 1 from by omega]; rfl
    rw [es] at I
    rw [← I, show pmI (p + 1) = nI p from rfl]
    cases h1 : bt S p with
    | false =>
      rw [h1] at kS
      rw [if_neg (by decide)]
      simp (disch := first | omega | (simp only [pN, pP, pM, pE, pL, pC, pK, sp]; omega)) only [u_fX8_nextOf_5, u_fX8_nextOf_19, kS, b2_f, hpm, e_T, e_F, e_bnd, e_obr, e_obd, e_obt, e_addB, e_addA, e_in, e_cl, e_leT, e_leF, e_ltT, e_ltF, e_eqT, e_eqF, e_NOT, e_NOF, nI_add, pk_mul, k_spot, k_chan, m_node, m_pair, m_msg, m_chan, m_pack, e_w, e_wn, e_ws]
    | true =>
      rw [h1] at kS
      rw [if_pos rfl]
      simp (disch := first | omega | (simp only [pN, pP, pM, pE, pL, pC, pK, sp]; omega)) only [u_fX8_nextOf_5, u_fX8_nextOf_19, kS, b2_t, hpm, oI, e_T, e_F, e_bnd, e_obr, e_obd, e_obt, e_addB, e_addA, e_in, e_cl, e_leT, e_leF, e_ltT, e_ltF, e_eqT, e_eqF, e_NOT, e_NOF, nI_add, pk_mul, k_spot, k_chan, m_node, m_pair, m_msg, m_chan, m_pack, e_w, e_wn, e_ws]
theorem k_next (S : Int32) : fX8_nextOf S u = some (nxI (u 37) S) := by
  have h1 := k_next5 (u := u) (S := S) 20 FU (by omega) (by show 20 < 100000; omega)
  have h2 := k_next27 (u := u) (S := S) (d := oI (lw (bt S) 20 0)) 20 0 FU (by omega) (by show 20 < 100000; omega)
  rw [u_fX8_nextOf, u_fX8_nextOf_0]
  have h1 : fX8_nextOf_5 u FU S NO (nI 19) = _ := h1
  rw [h1, h2]; rfl
/-! the model's -/
theorem m_behind (z3 : ω 3 = nI M) (hM : M ≤ 20) {S : Int32} {x : Nat} (hx : x < M) : ∀ r k f b, k + r = M → r < f → fX12_isBehindNone_5 (sq u 1 ω) f (nI x) S (b2 b) (nI k) = some (b2 (b && !anyF (bhP (u 9) S x) r k)) := by
  have w9 : sq u 1 ω 9 = u 9 := e_wn _ _ (by omega)
  intro r
  induction r with
  | zero =>
    intro k f b hk hf
    obtain ⟨f, rfl⟩ : ∃ g, f = g + 1 := ⟨f - 1, by omega⟩
    rw [show anyF (bhP (u 9) S x) 0 k = false from rfl, Bool.not_false, Bool.and_true]
    cases b
    · simp (disch := first | omega | (simp only [pN, pP, pM, pE, pL, pC, pK, sp]; omega)) only [u_fX12_isBehindNone_5, m_messages, z3, b2_f, e_isB0, e_T, e_F, e_bnd, e_obr, e_obd, e_obt, e_addB, e_addA, e_in, e_cl, e_leT, e_leF, e_ltT, e_ltF, e_eqT, e_eqF, e_NOT, e_NOF, nI_add, pk_mul, k_spot, k_chan, m_node, m_pair, m_msg, m_chan, m_pack, e_w, e_wn, e_ws]
    · simp (disch := first | omega | (simp only [pN, pP, pM, pE, pL, pC, pK, sp]; omega)) only [u_fX12_isBehindNone_5, m_messages, z3, b2_t, e_isB1, e_T, e_F, e_bnd, e_obr, e_obd, e_obt, e_addB, e_addA, e_in, e_cl, e_leT, e_leF, e_ltT, e_ltF, e_eqT, e_eqF, e_NOT, e_NOF, nI_add, pk_mul, k_spot, k_chan, m_node, m_pair, m_msg, m_chan, m_pack, e_w, e_wn, e_ws]
  | succ r ih =>
    intro k f b hk hf
    obtain ⟨f, rfl⟩ : ∃ g, f = g + 1 := ⟨f - 1, by omega⟩
    have It := ih (k + 1) f true (by omega) (by omega)
    have If := ih (k + 1) f false (by omega) (by omega)
    rw [b2_t, Bool.true_and] at It
    rw [Bool.false_and, b2_f] at If
    have es : anyF (bhP (u 9) S x) (r + 1) k = (bhP (u 9) S x k || anyF (bhP (u 9) S x) r (k + 1)) := rfl
    have kS := k_holds2 S (k := k) (by omega)
    have kR := k_holds2 (u 9 k) (k := x) (by omega)
    rw [es]
    cases b with
    | false =>
      rw [Bool.false_and, b2_f, ← If]
      simp (disch := first | omega | (simp only [pN, pP, pM, pE, pL, pC, pK, sp]; omega)) only [u_fX12_isBehindNone_5, u_fX12_isBehindNone_51, u_fX12_isBehindNone_52, m_messages, z3, e_T, e_F, e_bnd, e_obr, e_obd, e_obt, e_addB, e_addA, e_in, e_cl, e_leT, e_leF, e_ltT, e_ltF, e_eqT, e_eqF, e_NOT, e_NOF, nI_add, pk_mul, k_spot, k_chan, m_node, m_pair, m_msg, m_chan, m_pack, e_w, e_wn, e_ws]
    | true =>
      rw [Bool.true_and, b2_t]
      by_cases e : k = x
      · subst e
        rw [show bhP (u 9) S k k = false from by unfold bhP; rw [decide_eq_true rfl]; rfl, Bool.false_or, ← It]
        simp (disch := first | omega | (simp only [pN, pP, pM, pE, pL, pC, pK, sp]; omega)) only [u_fX12_isBehindNone_5, u_fX12_isBehindNone_47, u_fX12_isBehindNone_52, m_messages, z3, e_T, e_F, e_bnd, e_obr, e_obd, e_obt, e_addB, e_addA, e_in, e_cl, e_leT, e_leF, e_ltT, e_ltF, e_eqT, e_eqF, e_NOT, e_NOF, nI_add, pk_mul, k_spot, k_chan, m_node, m_pair, m_msg, m_chan, m_pack, e_w, e_wn, e_ws]
      · cases h1 : bt S k with
        | false =>
          rw [h1] at kS
          rw [show bhP (u 9) S x k = false from by unfold bhP; rw [h1, Bool.false_and, Bool.and_false], Bool.false_or, ← It]
          simp (disch := first | omega | (simp only [pN, pP, pM, pE, pL, pC, pK, sp]; omega)) only [u_fX12_isBehindNone_5, u_fX12_isBehindNone_47, u_fX12_isBehindNone_52, m_messages, z3, kS, b2_f, e_T, e_F, e_bnd, e_obr, e_obd, e_obt, e_addB, e_addA, e_in, e_cl, e_leT, e_leF, e_ltT, e_ltF, e_eqT, e_eqF, e_NOT, e_NOF, nI_add, pk_mul, k_spot, k_chan, m_node, m_pair, m_msg, m_chan, m_pack, e_w, e_wn, e_ws]
        | true =>
          rw [h1] at kS
          cases h2 : bt (u 9 k) x with
          | false =>
            rw [h2] at kR
            rw [show bhP (u 9) S x k = false from by unfold bhP; rw [h2, Bool.and_false, Bool.and_false], Bool.false_or, ← It]
            simp (disch := first | omega | (simp only [pN, pP, pM, pE, pL, pC, pK, sp]; omega)) only [u_fX12_isBehindNone_5, u_fX12_isBehindNone_47, u_fX12_isBehindNone_52, m_messages, z3, w9, kS, kR, b2_f, b2_t, e_T, e_F, e_bnd, e_obr, e_obd, e_obt, e_addB, e_addA, e_in, e_cl, e_leT, e_leF, e_ltT, e_ltF, e_eqT, e_eqF, e_NOT, e_NOF, nI_add, pk_mul, k_spot, k_chan, m_node, m_pair, m_msg, m_chan, m_pack, e_w, e_wn, e_ws]
          | true =>
            rw [h2] at kR
            rw [show bhP (u 9) S x k = true from by unfold bhP; rw [h1, h2, decide_eq_false e]; rfl, Bool.true_or, Bool.not_true, b2_f, ← If]
            simp (disch := first | omega | (simp only [pN, pP, pM, pE, pL, pC, pK, sp]; omega)) only [u_fX12_isBehindNone_5, u_fX12_isBehindNone_51, u_fX12_isBehindNone_52, m_messages, z3, w9, kS, kR, b2_t, e_T, e_F, e_bnd, e_obr, e_obd, e_obt, e_addB, e_addA, e_in, e_cl, e_leT, e_leF, e_ltT, e_ltF, e_eqT, e_eqF, e_NOT, e_NOF, nI_add, pk_mul, k_spot, k_chan, m_node, m_pair, m_msg, m_chan, m_pack, e_w, e_wn, e_ws]
theorem m_next82 (z3 : ω 3 = nI M) (hM : M ≤ 20) {S : Int32} {x1 x4 : Int32} {K : Int32 → Int32 → Int32 → Int32 → Sg → Option (Int32 × Sg)} : ∀ p f, p ≤ M → p < f → fX12_line_82 K f x1 S (oI (lw (cdP (u 9) M S) (M - p) p)) x4 (pmI p) (sq u 1 ω) = cnd (oI (lw (cdP (u 9) M S) M 0) = NO) (fX12_line_132 K x1 S x4 (fJ6_numberOfTrailingZeros_0f7a4 S) (sq u 1 ω)) (fX12_line_132 K x1 S x4 (oI (lw (cdP (u 9) M S) M 0)) (sq u 1 ω)) := by
  intro p
  induction p with
  | zero =>
    intro f hp hf
    obtain ⟨f, rfl⟩ : ∃ g, f = g + 1 := ⟨f - 1, by omega⟩
    rw [u_fX12_line_82, show pmI 0 = NO from rfl, cnd_pos (by decide)]; rfl
  | succ p ih =>
    intro f hp hf
    obtain ⟨f, rfl⟩ : ∃ g, f = g + 1 := ⟨f - 1, by omega⟩
    have I := ih f (by omega) (by omega)
    have kS := k_holds2 S (k := p) (by omega)
    have hpm := pm_add p
    have kb : fX12_isBehindNone (nI p) S (sq u 1 ω) = some (b2 (true && !anyF (bhP (u 9) S p) M 0)) := m_behind z3 hM (by omega) M 0 FU true (by omega) (by show M < 100000; omega)
    rw [Bool.true_and] at kb
    have es : lw (cdP (u 9) M S) (M - p) p = if cdP (u 9) M S p = true then some p else lw (cdP (u 9) M S) (M - (p + 1)) (p + 1) := by
      rw [show M - p = (M - (p + 1)) + 1 from by omega]; rfl
    rw [es] at I
    rw [← I, show pmI (p + 1) = nI p from rfl]
    cases h1 : bt S p with
    | false =>
      rw [h1] at kS
      rw [if_neg (by unfold cdP; rw [h1, Bool.false_and]; decide)]
      simp (disch := first | omega | (simp only [pN, pP, pM, pE, pL, pC, pK, sp]; omega)) only [u_fX12_line_82, u_fX12_line_111, u_fX12_line_112, kS, b2_f, hpm, e_T, e_F, e_bnd, e_obr, e_obd, e_obt, e_addB, e_addA, e_in, e_cl, e_leT, e_leF, e_ltT, e_ltF, e_eqT, e_eqF, e_NOT, e_NOF, nI_add, pk_mul, k_spot, k_chan, m_node, m_pair, m_msg, m_chan, m_pack, e_w, e_wn, e_ws]
    | true =>
      rw [h1] at kS
      cases h2 : anyF (bhP (u 9) S p) M 0 with
      | true =>
        rw [h2, Bool.not_true] at kb
        rw [if_neg (by unfold cdP; rw [h2, Bool.not_true, Bool.and_false]; decide)]
        simp (disch := first | omega | (simp only [pN, pP, pM, pE, pL, pC, pK, sp]; omega)) only [u_fX12_line_82, u_fX12_line_111, u_fX12_line_112, kS, kb, b2_t, b2_f, hpm, e_T, e_F, e_bnd, e_obr, e_obd, e_obt, e_addB, e_addA, e_in, e_cl, e_leT, e_leF, e_ltT, e_ltF, e_eqT, e_eqF, e_NOT, e_NOF, nI_add, pk_mul, k_spot, k_chan, m_node, m_pair, m_msg, m_chan, m_pack, e_w, e_wn, e_ws]
      | false =>
        rw [h2, Bool.not_false] at kb
        rw [if_pos (by unfold cdP; rw [h1, h2]; rfl)]
        simp (disch := first | omega | (simp only [pN, pP, pM, pE, pL, pC, pK, sp]; omega)) only [u_fX12_line_82, u_fX12_line_111, u_fX12_line_112, kS, kb, b2_t, hpm, oI, e_T, e_F, e_bnd, e_obr, e_obd, e_obt, e_addB, e_addA, e_in, e_cl, e_leT, e_leF, e_ltT, e_ltF, e_eqT, e_eqF, e_NOT, e_NOF, nI_add, pk_mul, k_spot, k_chan, m_node, m_pair, m_msg, m_chan, m_pack, e_w, e_wn, e_ws]
end LI
