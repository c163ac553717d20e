/-! a packet is heard, on both sides -/
def mx (s t : Int32) : Int32 := if s < t then t else s
theorem mx_vS {B : Nat} {s t : Int32} (hB : B < 100000) (h : oS B s) (h' : vS B t) : vS B (mx s t) := by
  unfold mx
  split
  · exact h'
  · rename_i g
    rcases h with rfl | h
    · obtain ⟨a, b, z1, z2, rfl⟩ := h'
      exact absurd (NO_lt (by omega)) g
    · exact h
theorem sh1_v {f : Nat} (h : f < 6) : sh1 (nI f) = nI (2 ^ f) := by
  rcases (show f = 0 ∨ f = 1 ∨ f = 2 ∨ f = 3 ∨ f = 4 ∨ f = 5 by omega) with rfl | rfl | rfl | rfl | rfl | rfl <;> decide +kernel
theorem or_lt {h f : Nat} (h1 : h < 64) (h2 : f < 6) : h ||| 2 ^ f < 64 := by
  have : 2 ^ f < 2 ^ 6 := Nat.pow_lt_pow_right (by omega) h2
  exact Nat.or_lt_two_pow (n := 6) h1 this
theorem or_ne0 {h f : Nat} : h ||| 2 ^ f ≠ 0 := by
  intro e
  have : 2 ^ f ≤ h ||| 2 ^ f := Nat.right_le_or
  have := Nat.two_pow_pos f
  omega
section HE
variable {dr : Prop} {tk : Int32} {pl N G M T B : Nat} {e : Nat → Nat → Nat} {Q Q' : Qs} {Dl : Nat → List Nat} {u σ σ' : Sg} {ω ω' : Nat → Int32}
theorem m_goesUp {n m at' : Nat} {s st : Int32} (hn : n < 6) (hm : m < 20) (ha : at' < 10) (hB : B < 100000) (h1 : ω (pP n m at') = num s) (h2 : ω (pP n m (at' + 1)) = nod s) (hs : oS B s) (hv : vS B st) : ∃ ω', fX12_goesUp (nI n) (nI m) (nI at') (num st) (nod st) (sq u 1 ω) = some (sq u 1 ω') ∧ ω' (pP n m at') = num (mx s st) ∧ ω' (pP n m (at' + 1)) = nod (mx s st) ∧ ∀ i, i ≠ pP n m at' → i ≠ pP n m (at' + 1) → ω' i = ω i := by
  have hl := lt_st hB hs hv
  by_cases g : s < st
  · rw [decide_eq_true g] at hl
    have e1 : mx s st = st := if_pos g
    simp (disch := first | omega | (simp only [pN, pP, pM, pE, pL, pC, pK, sp]; omega)) only [u_fX12_goesUp, u_fX12_goesUp_0, m_ofPair, m_lays, h1, h2, hl, b2_t, e1, e_T, e_F, e_bnd, e_obr, e_obd, e_obt, e_addB, e_addA, e_in, e_cl, e_leT, e_leF, e_ltT, e_ltF, e_eqT, e_eqF, e_NOT, e_NOF, nI_add, pk_mul, k_spot, k_chan, m_node, m_pair, m_msg, m_chan, m_pack, e_w, e_wn, e_ws]
    refine ⟨_, rfl, ?_, ?_, fun i h3 h4 => ?_⟩
    all_goals simp (disch := first | omega | (simp only [pN, pP, pM, pE, pL, pC, pK, sp]; omega)) only [pk_us, pk_un]
  · rw [decide_eq_false g] at hl
    have e1 : mx s st = s := if_neg g
    simp (disch := first | omega | (simp only [pN, pP, pM, pE, pL, pC, pK, sp]; omega)) only [u_fX12_goesUp, u_fX12_goesUp_0, m_ofPair, m_lays, h1, h2, hl, b2_f, e1, e_T, e_F, e_bnd, e_obr, e_obd, e_obt, e_addB, e_addA, e_in, e_cl, e_leT, e_leF, e_ltT, e_ltF, e_eqT, e_eqF, e_NOT, e_NOF, nI_add, pk_mul, k_spot, k_chan, m_node, m_pair, m_msg, m_chan, m_pack, e_w, e_wn, e_ws]
    exact ⟨ω, rfl, h1, h2, fun i _ _ => rfl⟩
/-- a stamp is heard -/
theorem h_st {n f m s : Nat} {st : Int32} (h : R0 dr tk pl N G M T B Q Dl σ ω) (hl : ∀ c, c < 36 → (Q c).length ≤ 110) (hI : rI N e Q σ) (hn : n < N) (hf : f < N) (hm : m < M) (hs : s ≤ 1) (hv : vS B st) (hz : σ 2 f = NO → cN m kR (Q (6 * n + f)) + cN m kA (Q (6 * f + n)) = 0) :
    ∃ σ' ω', fX3_hear (nI (sp n m)) (nI f) st (nI s) σ = some σ' ∧ fX12_hearsStamp (nI n) (nI f) (nI m) (num st) (nod st) (nI s) (sq u 1 ω) = some (sq u 1 ω') ∧ R0 dr tk pl N G M T B Q Dl σ' ω' ∧ rI N e Q σ' ∧ fc [27, 28, 29] σ σ' := by
  have h6 := h.1.1.1
  have hM20 := h.1.1.2.2.1
  have hB := h.2.2.2.2.2.2.2.2.2.2
  have hB2 := cnt_le (σ := σ)
  have hsp : sp n m < 120 := by unfold sp; omega
  have hp := h.2.2.1 n m (by omega) (by omega)
  rcases hp.2.2.2 with ⟨g1, g2⟩ | ⟨-, -, g1, ⟨hh, g2, g3, g4, g5⟩, g6, ⟨g7, g8, g9⟩, g10, g11, g12⟩
  · refine ⟨σ, ω, ?_, ?_, h, hI, fc_rf _ _⟩
    · simp (disch := first | omega | (simp only [pN, pP, pM, pE, pL, pC, pK, sp]; omega)) only [u_fX3_hear, u_fX3_hear_0, k_isOn, g1, decide_true, Bool.not_true, b2_f, e_T, e_F, e_bnd, e_obr, e_obd, e_obt, e_addB, e_addA, e_in, e_cl, e_leT, e_leF, e_ltT, e_ltF, e_eqT, e_eqF, e_NOT, e_NOF, nI_add, pk_mul, k_spot, k_chan, m_node, m_pair, m_msg, m_chan, m_pack, e_w, e_wn, e_ws]
    · simp (disch := first | omega | (simp only [pN, pP, pM, pE, pL, pC, pK, sp]; omega)) only [u_fX12_hearsStamp, u_fX12_hearsStamp_0, m_ofPair, g2, e_T, e_F, e_bnd, e_obr, e_obd, e_obt, e_addB, e_addA, e_in, e_cl, e_leT, e_leF, e_ltT, e_ltF, e_eqT, e_eqF, e_NOT, e_NOF, nI_add, pk_mul, k_spot, k_chan, m_node, m_pair, m_msg, m_chan, m_pack, e_w, e_wn, e_ws]
  · have hon : σ 27 (sp n m) ≠ NO := by rw [g3]; exact NO_ne (by omega)
    have hor : nI hh ||| sh1 (nI f) = nI (hh ||| 2 ^ f) := by rw [sh1_v (by omega), fa_or]
    have hdec : decide (nI hh = NO) = false := decide_eq_false (NO_ne (by omega))
    have hlt := or_lt g2 (show f < 6 by omega)
    obtain ⟨ω1, m1, m2, m3, m4⟩ := m_goesUp (u := u) (n := n) (m := m) (at' := 7) (ω := upd ω (pP n m 6) (nI (hh ||| 2 ^ f))) (by omega) (by omega) (by omega) (show B < 100000 by omega) (by rw [pk_un (by first | omega | exact pP_pN (by omega) (by omega) (by omega) | exact (pP_pN (by omega) (by omega) (by omega)).symm | exact pP_pP (by omega) (by omega) (by omega) (by omega) (by omega) | (simp only [pN, pP, pM, pE, pL, pC, pK, sp]; omega))]; exact g8) (by rw [pk_un (by first | omega | exact pP_pN (by omega) (by omega) (by omega) | exact (pP_pN (by omega) (by omega) (by omega)).symm | exact pP_pP (by omega) (by omega) (by omega) (by omega) (by omega) | (simp only [pN, pP, pM, pE, pL, pC, pK, sp]; omega))]; exact g9) g7 hv
    have fin : ∀ (σ' : Sg) (ω' : Nat → Int32), fc [27, 28, 29] σ σ' → (∀ q i, i ≠ sp n m → σ' q i = σ q i) → σ' 27 (sp n m) = nI (hh ||| 2 ^ f) → σ' 28 (sp n m) = mx (σ 28 (sp n m)) st → (oS B (σ' 29 (sp n m)) ∧ ω' (pP n m 9) = num (σ' 29 (sp n m)) ∧ ω' (pP n m 10) = nod (σ' 29 (sp n m))) → ω' (pP n m 6) = nI (hh ||| 2 ^ f) → ω' (pP n m 7) = num (mx (σ 28 (sp n m)) st) → ω' (pP n m 8) = nod (mx (σ 28 (sp n m)) st) → (∀ i, (∀ w, 6 ≤ w → w < 11 → i ≠ pP n m w) → ω' i = ω i) → R0 dr tk pl N G M T B Q Dl σ' ω' ∧ rI N e Q σ' ∧ fc [27, 28, 29] σ σ' := by
      intro σ' ω' c f2 e27 e28 e29 w6 w7 w8 fw
      refine ⟨R0_pair h hl (by omega) (by omega) (fc_wk c (by decide)) f2 (fun i hi => fw i (fun w _ h2 => hi w h2)) ?_ (by rw [c 20 (by decide)]) (by rw [cnt_fr (σ := σ) (fun i _ => by rw [c 20 (by decide)])]; exact hB), ?_, c⟩
      · refine rP1_g hp (by rw [c 20 (by decide)]) (by rw [c 21 (by decide)]) (by rw [c 22 (by decide)]) (by rw [c 23 (by decide)]) (fun w hw => fw _ (fun v _ _ => (by first | omega | exact pP_pN (by omega) (by omega) (by omega) | exact (pP_pN (by omega) (by omega) (by omega)).symm | exact pP_pP (by omega) (by omega) (by omega) (by omega) (by omega) | (simp only [pN, pP, pM, pE, pL, pC, pK, sp]; omega)))) (Or.inr ⟨hn, hm, ?_⟩)
        have hmx := mx_vS (show B < 100000 by omega) g7 hv
        refine ⟨by rw [fw _ (fun v _ _ => (by first | omega | exact pP_pN (by omega) (by omega) (by omega) | exact (pP_pN (by omega) (by omega) (by omega)).symm | exact pP_pP (by omega) (by omega) (by omega) (by omega) (by omega) | (simp only [pN, pP, pM, pE, pL, pC, pK, sp]; omega)))]; exact g1, ⟨_, hlt, e27, w6, ⟨fun q => absurd q or_ne0, fun q => ?_⟩, fun q => absurd q or_ne0⟩, fun k hk => ?_, ⟨by rw [e28]; exact Or.inr hmx, by rw [e28]; exact w7, by rw [e28]; exact w8⟩, e29⟩
        · rw [e28] at q; exact absurd q (vS_NO hmx (by omega))
        · rw [e27, ← hor, b_or, ← g3, g6 k hk, b_sh1 (by omega), decide_eq_false (by omega)]; rfl
      · refine rI_heard hI (n := n) (f := f) (m₀ := m) (by omega) (by omega) hon hz (c 15 (by decide)) (c 2 (by decide)) ?_ (by rw [g3, hor]; exact NO_ne (by omega))
        funext i
        by_cases hi : i = sp n m
        · subst hi; rw [pk_us, e27, g3, hor]
        · rw [pk_un hi, f2 27 i hi]
    rcases (show s = 0 ∨ s = 1 by omega) with rfl | rfl
    · refine ⟨s2 (s2 σ 27 (sp n m) (nI (hh ||| 2 ^ f))) 28 (sp n m) (mx (σ 28 (sp n m)) st), ω1, ?_, ?_, fin _ _ ?_ ?_ ?_ ?_ ?_ ?_ m2 m3 ?_⟩
      · simp (disch := first | omega | (simp only [pN, pP, pM, pE, pL, pC, pK, sp]; omega)) only [u_fX3_hear, u_fX3_hear_0, k_isOn, hdec, Bool.not_false, b2_t, g3, hor, mx, e_T, e_F, e_bnd, e_obr, e_obd, e_obt, e_addB, e_addA, e_in, e_cl, e_leT, e_leF, e_ltT, e_ltF, e_eqT, e_eqF, e_NOT, e_NOF, nI_add, pk_mul, k_spot, k_chan, m_node, m_pair, m_msg, m_chan, m_pack, e_w, e_wn, e_ws, e_s2, e_s2n, pk_us, pk_un]
      · simp (disch := first | omega | (simp only [pN, pP, pM, pE, pL, pC, pK, sp]; omega)) only [u_fX12_hearsStamp, u_fX12_hearsStamp_0, m_ofPair, m_lays, g1, g4, hor, m1, e_T, e_F, e_bnd, e_obr, e_obd, e_obt, e_addB, e_addA, e_in, e_cl, e_leT, e_leF, e_ltT, e_ltF, e_eqT, e_eqF, e_NOT, e_NOF, nI_add, pk_mul, k_spot, k_chan, m_node, m_pair, m_msg, m_chan, m_pack, e_w, e_wn, e_ws]
      · exact fc_wk (fc_tr (fc_s2 _ _ _ _) (fc_s2 _ _ _ _)) (by decide)
      · intro q i hi; simp only [e_s2'', hi, and_false, if_false]
      · simp (disch := first | omega | (simp only [pN, pP, pM, pE, pL, pC, pK, sp]; omega)) only [e_s2, e_s2n, pk_us, pk_un]
      · simp (disch := first | omega | (simp only [pN, pP, pM, pE, pL, pC, pK, sp]; omega)) only [e_s2, e_s2n, pk_us, pk_un]
      · rw [e_s2n _ _ _ (by omega), e_s2n _ _ _ (by omega), m4 _ (by first | omega | exact pP_pN (by omega) (by omega) (by omega) | exact (pP_pN (by omega) (by omega) (by omega)).symm | exact pP_pP (by omega) (by omega) (by omega) (by omega) (by omega) | (simp only [pN, pP, pM, pE, pL, pC, pK, sp]; omega)) (by first | omega | exact pP_pN (by omega) (by omega) (by omega) | exact (pP_pN (by omega) (by omega) (by omega)).symm | exact pP_pP (by omega) (by omega) (by omega) (by omega) (by omega) | (simp only [pN, pP, pM, pE, pL, pC, pK, sp]; omega)), m4 _ (by first | omega | exact pP_pN (by omega) (by omega) (by omega) | exact (pP_pN (by omega) (by omega) (by omega)).symm | exact pP_pP (by omega) (by omega) (by omega) (by omega) (by omega) | (simp only [pN, pP, pM, pE, pL, pC, pK, sp]; omega)) (by first | omega | exact pP_pN (by omega) (by omega) (by omega) | exact (pP_pN (by omega) (by omega) (by omega)).symm | exact pP_pP (by omega) (by omega) (by omega) (by omega) (by omega) | (simp only [pN, pP, pM, pE, pL, pC, pK, sp]; omega)), pk_un (by first | omega | exact pP_pN (by omega) (by omega) (by omega) | exact (pP_pN (by omega) (by omega) (by omega)).symm | exact pP_pP (by omega) (by omega) (by omega) (by omega) (by omega) | (simp only [pN, pP, pM, pE, pL, pC, pK, sp]; omega)), pk_un (by first | omega | exact pP_pN (by omega) (by omega) (by omega) | exact (pP_pN (by omega) (by omega) (by omega)).symm | exact pP_pP (by omega) (by omega) (by omega) (by omega) (by omega) | (simp only [pN, pP, pM, pE, pL, pC, pK, sp]; omega))]
        exact ⟨g10, g11, g12⟩
      · rw [m4 _ (by first | omega | exact pP_pN (by omega) (by omega) (by omega) | exact (pP_pN (by omega) (by omega) (by omega)).symm | exact pP_pP (by omega) (by omega) (by omega) (by omega) (by omega) | (simp only [pN, pP, pM, pE, pL, pC, pK, sp]; omega)) (by first | omega | exact pP_pN (by omega) (by omega) (by omega) | exact (pP_pN (by omega) (by omega) (by omega)).symm | exact pP_pP (by omega) (by omega) (by omega) (by omega) (by omega) | (simp only [pN, pP, pM, pE, pL, pC, pK, sp]; omega)), pk_us]
      · intro i hi
        rw [m4 i (hi 7 (by omega) (by omega)) (hi 8 (by omega) (by omega)), pk_un (hi 6 (by omega) (by omega))]
    · obtain ⟨ω2, m5, m6, m7, m8⟩ := m_goesUp (u := u) (n := n) (m := m) (at' := 9) (ω := ω1) (s := σ 29 (sp n m)) (by omega) (by omega) (by omega) (show B < 100000 by omega) (by rw [m4 _ (by first | omega | exact pP_pN (by omega) (by omega) (by omega) | exact (pP_pN (by omega) (by omega) (by omega)).symm | exact pP_pP (by omega) (by omega) (by omega) (by omega) (by omega) | (simp only [pN, pP, pM, pE, pL, pC, pK, sp]; omega)) (by first | omega | exact pP_pN (by omega) (by omega) (by omega) | exact (pP_pN (by omega) (by omega) (by omega)).symm | exact pP_pP (by omega) (by omega) (by omega) (by omega) (by omega) | (simp only [pN, pP, pM, pE, pL, pC, pK, sp]; omega)), pk_un (by first | omega | exact pP_pN (by omega) (by omega) (by omega) | exact (pP_pN (by omega) (by omega) (by omega)).symm | exact pP_pP (by omega) (by omega) (by omega) (by omega) (by omega) | (simp only [pN, pP, pM, pE, pL, pC, pK, sp]; omega))]; exact g11) (by rw [m4 _ (by first | omega | exact pP_pN (by omega) (by omega) (by omega) | exact (pP_pN (by omega) (by omega) (by omega)).symm | exact pP_pP (by omega) (by omega) (by omega) (by omega) (by omega) | (simp only [pN, pP, pM, pE, pL, pC, pK, sp]; omega)) (by first | omega | exact pP_pN (by omega) (by omega) (by omega) | exact (pP_pN (by omega) (by omega) (by omega)).symm | exact pP_pP (by omega) (by omega) (by omega) (by omega) (by omega) | (simp only [pN, pP, pM, pE, pL, pC, pK, sp]; omega)), pk_un (by first | omega | exact pP_pN (by omega) (by omega) (by omega) | exact (pP_pN (by omega) (by omega) (by omega)).symm | exact pP_pP (by omega) (by omega) (by omega) (by omega) (by omega) | (simp only [pN, pP, pM, pE, pL, pC, pK, sp]; omega))]; exact g12) g10 hv
      refine ⟨s2 (s2 (s2 σ 27 (sp n m) (nI (hh ||| 2 ^ f))) 28 (sp n m) (mx (σ 28 (sp n m)) st)) 29 (sp n m) (mx (σ 29 (sp n m)) st), ω2, ?_, ?_, fin _ _ ?_ ?_ ?_ ?_ ?_ ?_ ?_ ?_ ?_⟩
      · simp (disch := first | omega | (simp only [pN, pP, pM, pE, pL, pC, pK, sp]; omega)) only [u_fX3_hear, u_fX3_hear_0, k_isOn, hdec, Bool.not_false, b2_t, g3, hor, mx, e_T, e_F, e_bnd, e_obr, e_obd, e_obt, e_addB, e_addA, e_in, e_cl, e_leT, e_leF, e_ltT, e_ltF, e_eqT, e_eqF, e_NOT, e_NOF, nI_add, pk_mul, k_spot, k_chan, m_node, m_pair, m_msg, m_chan, m_pack, e_w, e_wn, e_ws, e_s2, e_s2n, pk_us, pk_un]
      · simp (disch := first | omega | (simp only [pN, pP, pM, pE, pL, pC, pK, sp]; omega)) only [u_fX12_hearsStamp, u_fX12_hearsStamp_0, m_ofPair, m_lays, g1, g4, hor, m1, m5, e_T, e_F, e_bnd, e_obr, e_obd, e_obt, e_addB, e_addA, e_in, e_cl, e_leT, e_leF, e_ltT, e_ltF, e_eqT, e_eqF, e_NOT, e_NOF, nI_add, pk_mul, k_spot, k_chan, m_node, m_pair, m_msg, m_chan, m_pack, e_w, e_wn, e_ws]
      · exact fc_wk (fc_tr (fc_tr (fc_s2 _ _ _ _) (fc_s2 _ _ _ _)) (fc_s2 _ _ _ _)) (by decide)
      · intro q i hi; simp only [e_s2'', hi, and_false, if_false]
      · simp (disch := first | omega | (simp only [pN, pP, pM, pE, pL, pC, pK, sp]; omega)) only [e_s2, e_s2n, pk_us, pk_un]
      · simp (disch := first | omega | (simp only [pN, pP, pM, pE, pL, pC, pK, sp]; omega)) only [e_s2, e_s2n, pk_us, pk_un]
      · rw [e_s2, pk_us]
        exact ⟨Or.inr (mx_vS (show B < 100000 by omega) g10 hv), m6, m7⟩
      · rw [m8 _ (by first | omega | exact pP_pN (by omega) (by omega) (by omega) | exact (pP_pN (by omega) (by omega) (by omega)).symm | exact pP_pP (by omega) (by omega) (by omega) (by omega) (by omega) | (simp only [pN, pP, pM, pE, pL, pC, pK, sp]; omega)) (by first | omega | exact pP_pN (by omega) (by omega) (by omega) | exact (pP_pN (by omega) (by omega) (by omega)).symm | exact pP_pP (by omega) (by omega) (by omega) (by omega) (by omega) | (simp only [pN, pP, pM, pE, pL, pC, pK, sp]; omega)), m4 _ (by first | omega | exact pP_pN (by omega) (by omega) (by omega) | exact (pP_pN (by omega) (by omega) (by omega)).symm | exact pP_pP (by omega) (by omega) (by omega) (by omega) (by omega) | (simp only [pN, pP, pM, pE, pL, pC, pK, sp]; omega)) (by first | omega | exact pP_pN (by omega) (by omega) (by omega) | exact (pP_pN (by omega) (by omega) (by omega)).symm | exact pP_pP (by omega) (by omega) (by omega) (by omega) (by omega) | (simp only [pN, pP, pM, pE, pL, pC, pK, sp]; omega)), pk_us]
      · rw [m8 _ (by first | omega | exact pP_pN (by omega) (by omega) (by omega) | exact (pP_pN (by omega) (by omega) (by omega)).symm | exact pP_pP (by omega) (by omega) (by omega) (by omega) (by omega) | (simp only [pN, pP, pM, pE, pL, pC, pK, sp]; omega)) (by first | omega | exact pP_pN (by omega) (by omega) (by omega) | exact (pP_pN (by omega) (by omega) (by omega)).symm | exact pP_pP (by omega) (by omega) (by omega) (by omega) (by omega) | (simp only [pN, pP, pM, pE, pL, pC, pK, sp]; omega))]; exact m2
      · rw [m8 _ (by first | omega | exact pP_pN (by omega) (by omega) (by omega) | exact (pP_pN (by omega) (by omega) (by omega)).symm | exact pP_pP (by omega) (by omega) (by omega) (by omega) (by omega) | (simp only [pN, pP, pM, pE, pL, pC, pK, sp]; omega)) (by first | omega | exact pP_pN (by omega) (by omega) (by omega) | exact (pP_pN (by omega) (by omega) (by omega)).symm | exact pP_pP (by omega) (by omega) (by omega) (by omega) (by omega) | (simp only [pN, pP, pM, pE, pL, pC, pK, sp]; omega))]; exact m3
      · intro i hi
        rw [m8 i (hi 9 (by omega) (by omega)) (hi 10 (by omega) (by omega)), m4 i (hi 7 (by omega) (by omega)) (hi 8 (by omega) (by omega)), pk_un (hi 6 (by omega) (by omega))]
end HE
