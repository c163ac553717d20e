/-! a final stamp is heard; any packet is heard -/
theorem e_max {a b : Nat} (ha : a < 2147483648) (hb : b < 2147483648) : (if nI a < nI b then nI b else nI a) = nI (if a < b then b else a) := by
  by_cases g : a < b
  · rw [if_pos (nI_lt g hb), if_pos g]
  · rw [if_neg (nI_nlt (by omega) ha), if_neg g]
theorem addB_addB (a b : Nat) (o : Option (Sg × Nat)) : addB a (addB b o) = addB (a + b) o := by
  rcases o with _ | ⟨u, n⟩
  · rfl
  · show some (u, a + (b + n)) = some (u, a + b + n); rw [Nat.add_assoc]
theorem addB_0 (o : Option (Sg × Nat)) : addB 0 o = o := by
  rcases o with _ | ⟨u, n⟩
  · rfl
  · show some (u, 0 + n) = some (u, n); rw [Nat.zero_add]
section FI
variable {dr : Prop} {tk : Int32} {pl N G M T B : Nat} {e : Nat → Nat → Nat} {Q Q' : Qs} {Dl : Nat → List Nat} {u σ σ' : Sg} {ω ω' : Nat → Int32}
theorem h_fin {n f m : Nat} {st x6 : Int32} (h : R0 dr tk pl N G M T B Q Dl σ ω) (hl : ∀ c, c < 36 → (Q c).length ≤ 110) (hI : rI N e Q σ) (hn : n < N) (hf : f < N) (hm : m < M) (hv : vS B st) :
    ∃ σ' ω', fX7_hear (nI f) (nI n) (nI 2) (nI m) st x6 σ pl = some (σ', 0) ∧ fX12_hearsFinal (nI n) (nI f) (nI m) (num st) (nod st) (sq u 1 ω) = some (sq u 1 ω') ∧ R0 dr tk pl N G M T B Q Dl σ' ω' ∧ rI N e Q σ' ∧ fc [3, 20, 21, 22] σ σ' := by
  have h6 := h.1.1.1
  have hM20 := h.1.1.2.2.1
  have hB := h.2.2.2.2.2.2.2.2.2.2
  have hB2 := cnt_le (σ := σ)
  have hsp : sp n m < 120 := by unfold sp; omega
  obtain ⟨⟨k, k1, k2, k3, k4, k5⟩, ⟨s1, s2', s3⟩, l1, -⟩ := h.2.2.1 n m (by omega) (by omega)
  obtain ⟨a, ha, a1, a2⟩ := (h.2.1 n (by omega)).2.2.1
  obtain ⟨b, b', z1, z2, hst⟩ := id hv
  have hnum : num st = nI b := by rw [hst, num_v (by omega) (by omega)]
  have hnum' : fX11_numberOf st = nI b := hnum
  generalize hc : (if a < b then b else a) = cc
  have hcc : cc ≤ B := by rw [← hc]; split <;> omega
  have hmax : (if nI a < nI b then nI b else nI a) = nI cc := by rw [e_max (by omega) (by omega), hc]
  have r1 := Rm_clock (Rm_of h) hl (n₀ := n) (a := cc) (by omega) hcc
  have y20 : s2 σ 3 n (nI cc) 20 (sp n m) = nI k := by rw [e_s2n _ _ _ (by omega)]; exact k2
  have w0 : upd ω (pN n 2) (nI cc) (pP n m 0) = nI k := by rw [pk_un (by first | omega | exact pP_pN (by omega) (by omega) (by omega) | exact (pP_pN (by omega) (by omega) (by omega)).symm | exact pP_pP (by omega) (by omega) (by omega) (by omega) (by omega) | (simp only [pN, pP, pM, pE, pL, pC, pK, sp]; omega))]; exact k3
  have w3 : upd ω (pN n 2) (nI cc) (pP n m 3) = σ 22 (sp n m) := by rw [pk_un (by first | omega | exact pP_pN (by omega) (by omega) (by omega) | exact (pP_pN (by omega) (by omega) (by omega)).symm | exact pP_pP (by omega) (by omega) (by omega) (by omega) (by omega) | (simp only [pN, pP, pM, pE, pL, pC, pK, sp]; omega))]; exact l1.symm
  have y22 : s2 σ 3 n (nI cc) 22 (sp n m) = σ 22 (sp n m) := by rw [e_s2n _ _ _ (by omega)]
  have same : cnt (s2 σ 3 n (nI cc)) = cnt σ := cnt_fr (fun i _ => by rw [e_s2n _ _ _ (by omega)])
  -- what is settled
  have fin : ∀ ω', (k = 0 ∨ k = 1) → (∀ i, (∀ w, w < 4 → i ≠ pP n m w) → ω' i = upd ω (pN n 2) (nI cc) i) → ω' (pP n m 0) = nI 2 → ω' (pP n m 1) = num st → ω' (pP n m 2) = nod st → ω' (pP n m 3) = nI f → R0 dr tk pl N G M T B Q Dl (s2 (s2 (s2 (s2 σ 3 n (nI cc)) 20 (sp n m) (nI 2)) 21 (sp n m) st) 22 (sp n m) (nI f)) ω' := by
    intro ω' hk fw v0 v1 v2 v3
    refine R0_of (Rm_pair r1 hl (n₀ := n) (m₀ := m) (by omega) (by omega) ?_ ?_ (fun i hi => fw i (fun w hw => hi w (by omega))) ?_ ?_) ?_
    · exact fc_wk (fc_tr (fc_tr (fc_s2 _ _ _ _) (fc_s2 _ _ _ _)) (fc_s2 _ _ _ _)) (by decide)
    · intro q i hi; simp only [e_s2'', hi, and_false, if_false]
    · refine rP1_h (r1.2.2.1 n m (by omega) (by omega)) ?_ ?_ ?_ (fun w h1 h2 => fw _ (fun v hv' => (by first | omega | exact pP_pN (by omega) (by omega) (by omega) | exact (pP_pN (by omega) (by omega) (by omega)).symm | exact pP_pP (by omega) (by omega) (by omega) (by omega) (by omega) | (simp only [pN, pP, pM, pE, pL, pC, pK, sp]; omega)))) ⟨2, by omega, ?_, v0, fun _ => ⟨hn, hm, f, hf, ?_⟩, fun z => by omega⟩ ⟨?_, ?_, ?_⟩ ?_
      all_goals simp (disch := first | omega | (simp only [pN, pP, pM, pE, pL, pC, pK, sp]; omega)) only [e_s2, e_s2n, pk_us, pk_un]
      · exact hv
      · exact v1
      · exact v2
      · exact v3.symm
    · simp (disch := first | omega | (simp only [pN, pP, pM, pE, pL, pC, pK, sp]; omega)) only [e_s2, e_s2n, pk_us, pk_un]
      rw [k2]
      constructor
      · intro q; exact absurd q (by decide)
      · intro q; rcases hk with rfl | rfl <;> exact absurd q (by decide)
    · rcases hk with rfl | rfl
      · rw [cnt_up (σ := σ) (i := sp n m) hsp k2 (by simp (disch := first | omega | (simp only [pN, pP, pM, pE, pL, pC, pK, sp]; omega)) only [e_s2, e_s2n, pk_us, pk_un]; decide) (fun j hj => by simp (disch := first | omega | (simp only [pN, pP, pM, pE, pL, pC, pK, sp]; omega)) only [e_s2, e_s2n, pk_us, pk_un])]; omega
      · rw [cnt_same (σ := σ) (i := sp n m) hsp (by rw [k2]; decide) (by simp (disch := first | omega | (simp only [pN, pP, pM, pE, pL, pC, pK, sp]; omega)) only [e_s2, e_s2n, pk_us, pk_un]; decide) (fun j hj => by simp (disch := first | omega | (simp only [pN, pP, pM, pE, pL, pC, pK, sp]; omega)) only [e_s2, e_s2n, pk_us, pk_un])]; exact hB
  have cf : fc [3, 20, 21, 22] σ (s2 (s2 (s2 (s2 σ 3 n (nI cc)) 20 (sp n m) (nI 2)) 21 (sp n m) st) 22 (sp n m) (nI f)) := fc_tr (fc_tr (fc_tr (fc_s2 _ _ _ _) (fc_s2 _ _ _ _)) (fc_s2 _ _ _ _)) (fc_s2 _ _ _ _)
  have cn : fc [3, 20, 21, 22] σ (s2 σ 3 n (nI cc)) := fc_wk (fc_s2 _ _ _ _) (by decide)
  have stay : R0 dr tk pl N G M T B Q Dl (s2 σ 3 n (nI cc)) (upd ω (pN n 2) (nI cc)) := R0_of r1 (by rw [same]; exact hB)
  rcases (show k = 0 ∨ k = 1 ∨ 2 ≤ k by omega) with rfl | rfl | hk
  · refine ⟨_, upd (upd (upd (upd (upd ω (pN n 2) (nI cc)) (pP n m 0) (nI 2)) (pP n m 1) (num st)) (pP n m 2) (nod st)) (pP n m 3) (nI f), ?_, ?_, fin _ (Or.inl rfl) ?_ ?_ ?_ ?_ ?_, rI_c hI (cf 15 (by decide)) (cf 2 (by decide)) (cf 27 (by decide)), cf⟩
    · simp (disch := first | omega | (simp only [pN, pP, pM, pE, pL, pC, pK, sp]; omega)) only [u_fX7_hear, u_fX7_hear_0, a1, hnum', hmax, u_fX4_settle, u_fX4_settle_0, u_fX4_settle_14, u_fX4_settle_41, y20, e_T, e_F, e_bnd, e_obr, e_obd, e_obt, e_addB, e_addA, e_in, e_cl, e_leT, e_leF, e_ltT, e_ltF, e_eqT, e_eqF, e_NOT, e_NOF, nI_add, pk_mul, k_spot, k_chan, m_node, m_pair, m_msg, m_chan, m_pack, e_w, e_wn, e_ws]
    · simp (disch := first | omega | (simp only [pN, pP, pM, pE, pL, pC, pK, sp]; omega)) only [u_fX12_hearsFinal, u_fX12_hearsFinal_0, u_fX12_hearsFinal_54, m_of, m_ofPair, m_lays, a2, hnum, hmax, w0, e_T, e_F, e_bnd, e_obr, e_obd, e_obt, e_addB, e_addA, e_in, e_cl, e_leT, e_leF, e_ltT, e_ltF, e_eqT, e_eqF, e_NOT, e_NOF, nI_add, pk_mul, k_spot, k_chan, m_node, m_pair, m_msg, m_chan, m_pack, e_w, e_wn, e_ws]
    · intro i hi
      have z0 := hi 0 (by omega)
      have z1 := hi 1 (by omega)
      have z2 := hi 2 (by omega)
      have z3 := hi 3 (by omega)
      rw [pk_un z3, pk_un z2, pk_un z1, pk_un z0]
    all_goals simp (disch := first | omega | (simp only [pN, pP, pM, pE, pL, pC, pK, sp]; omega)) only [pk_us, pk_un]
  · by_cases hL : σ 22 (sp n m) = nI f
    · refine ⟨_, upd (upd (upd (upd ω (pN n 2) (nI cc)) (pP n m 0) (nI 2)) (pP n m 1) (num st)) (pP n m 2) (nod st), ?_, ?_, fin _ (Or.inr rfl) ?_ ?_ ?_ ?_ ?_, rI_c hI (cf 15 (by decide)) (cf 2 (by decide)) (cf 27 (by decide)), cf⟩
      · simp (disch := first | omega | (simp only [pN, pP, pM, pE, pL, pC, pK, sp]; omega)) only [u_fX7_hear, u_fX7_hear_0, a1, hnum', hmax, u_fX4_settle, u_fX4_settle_0, u_fX4_settle_14, u_fX4_settle_41, y20, y22, hL, e_T, e_F, e_bnd, e_obr, e_obd, e_obt, e_addB, e_addA, e_in, e_cl, e_leT, e_leF, e_ltT, e_ltF, e_eqT, e_eqF, e_NOT, e_NOF, nI_add, pk_mul, k_spot, k_chan, m_node, m_pair, m_msg, m_chan, m_pack, e_w, e_wn, e_ws]
      · simp (disch := first | omega | (simp only [pN, pP, pM, pE, pL, pC, pK, sp]; omega)) only [u_fX12_hearsFinal, u_fX12_hearsFinal_0, u_fX12_hearsFinal_54, m_of, m_ofPair, m_lays, a2, hnum, hmax, w0, w3, hL, e_T, e_F, e_bnd, e_obr, e_obd, e_obt, e_addB, e_addA, e_in, e_cl, e_leT, e_leF, e_ltT, e_ltF, e_eqT, e_eqF, e_NOT, e_NOF, nI_add, pk_mul, k_spot, k_chan, m_node, m_pair, m_msg, m_chan, m_pack, e_w, e_wn, e_ws]
      · intro i hi
        have z0 := hi 0 (by omega)
        have z1 := hi 1 (by omega)
        have z2 := hi 2 (by omega)
        rw [pk_un z2, pk_un z1, pk_un z0]
      · simp (disch := first | omega | (simp only [pN, pP, pM, pE, pL, pC, pK, sp]; omega)) only [pk_us, pk_un]
      · simp (disch := first | omega | (simp only [pN, pP, pM, pE, pL, pC, pK, sp]; omega)) only [pk_us, pk_un]
      · simp (disch := first | omega | (simp only [pN, pP, pM, pE, pL, pC, pK, sp]; omega)) only [pk_us, pk_un]
      · simp (disch := first | omega | (simp only [pN, pP, pM, pE, pL, pC, pK, sp]; omega)) only [pk_us, pk_un]; rw [← l1]; exact hL
    · refine ⟨_, _, ?_, ?_, stay, rI_c hI (cn 15 (by decide)) (cn 2 (by decide)) (cn 27 (by decide)), cn⟩
      · simp (disch := first | omega | (simp only [pN, pP, pM, pE, pL, pC, pK, sp]; omega)) only [u_fX7_hear, u_fX7_hear_0, a1, hnum', hmax, u_fX4_settle, u_fX4_settle_0, u_fX4_settle_14, u_fX4_settle_41, y20, y22, e_T, e_F, e_bnd, e_obr, e_obd, e_obt, e_addB, e_addA, e_in, e_cl, e_leT, e_leF, e_ltT, e_ltF, e_eqT, e_eqF, e_NOT, e_NOF, nI_add, pk_mul, k_spot, k_chan, m_node, m_pair, m_msg, m_chan, m_pack, e_w, e_wn, e_ws]
        rw [cnd_neg hL]; rfl
      · simp (disch := first | omega | (simp only [pN, pP, pM, pE, pL, pC, pK, sp]; omega)) only [u_fX12_hearsFinal, u_fX12_hearsFinal_0, u_fX12_hearsFinal_54, m_of, m_ofPair, m_lays, a2, hnum, hmax, w0, w3, e_T, e_F, e_bnd, e_obr, e_obd, e_obt, e_addB, e_addA, e_in, e_cl, e_leT, e_leF, e_ltT, e_ltF, e_eqT, e_eqF, e_NOT, e_NOF, nI_add, pk_mul, k_spot, k_chan, m_node, m_pair, m_msg, m_chan, m_pack, e_w, e_wn, e_ws]
        rw [cnd_neg hL]
  · refine ⟨_, _, ?_, ?_, stay, rI_c hI (cn 15 (by decide)) (cn 2 (by decide)) (cn 27 (by decide)), cn⟩
    · simp (disch := first | omega | (simp only [pN, pP, pM, pE, pL, pC, pK, sp]; omega)) only [u_fX7_hear, u_fX7_hear_0, a1, hnum', hmax, u_fX4_settle, u_fX4_settle_0, u_fX4_settle_14, u_fX4_settle_41, y20, y22, e_T, e_F, e_bnd, e_obr, e_obd, e_obt, e_addB, e_addA, e_in, e_cl, e_leT, e_leF, e_ltT, e_ltF, e_eqT, e_eqF, e_NOT, e_NOF, nI_add, pk_mul, k_spot, k_chan, m_node, m_pair, m_msg, m_chan, m_pack, e_w, e_wn, e_ws]
    · simp (disch := first | omega | (simp only [pN, pP, pM, pE, pL, pC, pK, sp]; omega)) only [u_fX12_hearsFinal, u_fX12_hearsFinal_0, u_fX12_hearsFinal_54, m_of, m_ofPair, m_lays, a2, hnum, hmax, w0, w3, e_T, e_F, e_bnd, e_obr, e_obd, e_obt, e_addB, e_addA, e_in, e_cl, e_leT, e_leF, e_ltT, e_ltF, e_eqT, e_eqF, e_NOT, e_NOF, nI_add, pk_mul, k_spot, k_chan, m_node, m_pair, m_msg, m_chan, m_pack, e_w, e_wn, e_ws]
/-- any packet -/
theorem s_hear {n f k m : Nat} {t st se : Int32} (h : R0 dr tk pl N G M T B Q Dl σ ω) (hl : ∀ c, c < 36 → (Q c).length ≤ 110) (hI : rI N e Q σ) (hd : dF dr u) (hn : n < N) (hf : f < N) (hv : vK M B (t, k, m, st, se)) (hu : u 7 1 = nI k ∧ u 7 2 = nI m ∧ u 7 3 = num st ∧ u 7 4 = nod st ∧ u 7 5 = se)
    (preR : kR k = true → cN m kR (Q (6 * f + n)) = 0 ∧ cN m kA (Q (6 * n + f)) = 0 ∧ bt (σ 15 m) n = true ∧ σ 27 (sp f m) ≠ NO ∧ bt (σ 27 (sp f m)) n = false) (preA : kA k = true → σ 2 f = NO → cN m kR (Q (6 * n + f)) + cN m kA (Q (6 * f + n)) = 0) :
    ∃ σ' d ω' Q' B', fX7_hear (nI f) (nI n) (nI k) (nI m) st se σ pl = some (σ', d) ∧ fX12_hears (nI f) (nI n) (sq u 1 ω) = some (sq u 1 ω') ∧ R0 dr tk (pl + d) N G M T B' Q' Dl σ' ω' ∧ rI N e Q' σ' ∧ fc [0, 3, 4, 5, 8, 9, 10, 11, 12, 16, 18, 20, 21, 22, 27, 28, 29] σ σ' ∧ (Q' = Q ∨ ∃ p : Pk, nI T < p.1 ∧ Q' = uQ Q (6 * n + f) (Q (6 * n + f) ++ [p])) := by
  have h6 := h.1.1.1
  have hM20 := h.1.1.2.2.1
  obtain ⟨v1, v2, ⟨v3, v4⟩, v5, v6⟩ := hv
  simp only at v1 v2 v3 v4 v5 v6
  obtain ⟨u1, u2, u3, u4, u5⟩ := hu
  rcases (show k = 0 ∨ k = 1 ∨ k = 2 ∨ k = 3 ∨ k = 4 by omega) with rfl | rfl | rfl | rfl | rfl
  · obtain ⟨x1, x2, x3, x4, x5⟩ := preR rfl
    obtain ⟨σ', d, ω', Q', B', g1, g2, g3⟩ := h_req (u := u) (x5 := st) (x6 := se) h hl hI hd hn hf v2 x1 x2 x3 x4 x5
    refine ⟨σ', d, ω', Q', B', g1, ?_, g3⟩
    simp (disch := first | omega | (simp only [pN, pP, pM, pE, pL, pC, pK, sp]; omega)) only [u_fX12_hears, u_fX12_hears_0, u1, u2, u3, u4, g2, e_T, e_F, e_bnd, e_obr, e_obd, e_obt, e_addB, e_addA, e_in, e_cl, e_leT, e_leF, e_ltT, e_ltF, e_eqT, e_eqF, e_NOT, e_NOF, nI_add, pk_mul, k_spot, k_chan, m_node, m_pair, m_msg, m_chan, m_pack, e_w, e_wn, e_ws]
  · have hse : se = nI 0 := v4 (by omega)
    subst hse
    obtain ⟨σ', ω', g1, g2, g3, g4, g5⟩ := h_st (u := u) (s := 0) h hl hI hn hf v2 (by omega) (v6 (by omega)) (preA rfl)
    refine ⟨σ', 0, ω', Q, B, ?_, ?_, g3, g4, fc_wk g5 (by decide), Or.inl rfl⟩
    · simp (disch := first | omega | (simp only [pN, pP, pM, pE, pL, pC, pK, sp]; omega)) only [u_fX7_hear, u_fX7_hear_0, g1, e_T, e_F, e_bnd, e_obr, e_obd, e_obt, e_addB, e_addA, e_in, e_cl, e_leT, e_leF, e_ltT, e_ltF, e_eqT, e_eqF, e_NOT, e_NOF, nI_add, pk_mul, k_spot, k_chan, m_node, m_pair, m_msg, m_chan, m_pack, e_w, e_wn, e_ws]
    · simp (disch := first | omega | (simp only [pN, pP, pM, pE, pL, pC, pK, sp]; omega)) only [u_fX12_hears, u_fX12_hears_0, u1, u2, u3, u4, g2, e_T, e_F, e_bnd, e_obr, e_obd, e_obt, e_addB, e_addA, e_in, e_cl, e_leT, e_leF, e_ltT, e_ltF, e_eqT, e_eqF, e_NOT, e_NOF, nI_add, pk_mul, k_spot, k_chan, m_node, m_pair, m_msg, m_chan, m_pack, e_w, e_wn, e_ws]
  · obtain ⟨σ', ω', g1, g2, g3, g4, g5⟩ := h_fin (u := u) (x6 := se) h hl hI hn hf v2 (v6 (by omega))
    refine ⟨σ', 0, ω', Q, B, g1, ?_, g3, g4, fc_wk g5 (by decide), Or.inl rfl⟩
    simp (disch := first | omega | (simp only [pN, pP, pM, pE, pL, pC, pK, sp]; omega)) only [u_fX12_hears, u_fX12_hears_0, u1, u2, u3, u4, g2, e_T, e_F, e_bnd, e_obr, e_obd, e_obt, e_addB, e_addA, e_in, e_cl, e_leT, e_leF, e_ltT, e_ltF, e_eqT, e_eqF, e_NOT, e_NOF, nI_add, pk_mul, k_spot, k_chan, m_node, m_pair, m_msg, m_chan, m_pack, e_w, e_wn, e_ws]
  · obtain ⟨x1, x2, x3, x4, x5⟩ := preR rfl
    obtain ⟨σ', d, ω', Q', B', g1, g2, g3⟩ := h_take (u := u) (x5 := st) (x6 := se) h hl hI hd hn hf v2 x1 x2 x3 x4 x5
    refine ⟨σ', d, ω', Q', B', g1, ?_, g3⟩
    simp (disch := first | omega | (simp only [pN, pP, pM, pE, pL, pC, pK, sp]; omega)) only [u_fX12_hears, u_fX12_hears_0, u1, u2, u3, u4, g2, e_T, e_F, e_bnd, e_obr, e_obd, e_obt, e_addB, e_addA, e_in, e_cl, e_leT, e_leF, e_ltT, e_ltF, e_eqT, e_eqF, e_NOT, e_NOF, nI_add, pk_mul, k_spot, k_chan, m_node, m_pair, m_msg, m_chan, m_pack, e_w, e_wn, e_ws]
  · rcases v3 with rfl | rfl
    · obtain ⟨σ', ω', g1, g2, g3, g4, g5⟩ := h_st (u := u) (s := 0) h hl hI hn hf v2 (by omega) (v6 (by omega)) (preA rfl)
      refine ⟨σ', 0, ω', Q, B, ?_, ?_, g3, g4, fc_wk g5 (by decide), Or.inl rfl⟩
      · simp (disch := first | omega | (simp only [pN, pP, pM, pE, pL, pC, pK, sp]; omega)) only [u_fX7_hear, u_fX7_hear_0, g1, e_T, e_F, e_bnd, e_obr, e_obd, e_obt, e_addB, e_addA, e_in, e_cl, e_leT, e_leF, e_ltT, e_ltF, e_eqT, e_eqF, e_NOT, e_NOF, nI_add, pk_mul, k_spot, k_chan, m_node, m_pair, m_msg, m_chan, m_pack, e_w, e_wn, e_ws]
      · simp (disch := first | omega | (simp only [pN, pP, pM, pE, pL, pC, pK, sp]; omega)) only [u_fX12_hears, u_fX12_hears_0, u_fX12_hears_132, u1, u2, u3, u4, u5, g2, e_T, e_F, e_bnd, e_obr, e_obd, e_obt, e_addB, e_addA, e_in, e_cl, e_leT, e_leF, e_ltT, e_ltF, e_eqT, e_eqF, e_NOT, e_NOF, nI_add, pk_mul, k_spot, k_chan, m_node, m_pair, m_msg, m_chan, m_pack, e_w, e_wn, e_ws]
    · obtain ⟨σ', ω', g1, g2, g3, g4, g5⟩ := h_st (u := u) (s := 1) h hl hI hn hf v2 (by omega) (v6 (by omega)) (preA rfl)
      refine ⟨σ', 0, ω', Q, B, ?_, ?_, g3, g4, fc_wk g5 (by decide), Or.inl rfl⟩
      · simp (disch := first | omega | (simp only [pN, pP, pM, pE, pL, pC, pK, sp]; omega)) only [u_fX7_hear, u_fX7_hear_0, g1, e_T, e_F, e_bnd, e_obr, e_obd, e_obt, e_addB, e_addA, e_in, e_cl, e_leT, e_leF, e_ltT, e_ltF, e_eqT, e_eqF, e_NOT, e_NOF, nI_add, pk_mul, k_spot, k_chan, m_node, m_pair, m_msg, m_chan, m_pack, e_w, e_wn, e_ws]
      · simp (disch := first | omega | (simp only [pN, pP, pM, pE, pL, pC, pK, sp]; omega)) only [u_fX12_hears, u_fX12_hears_0, u_fX12_hears_132, u1, u2, u3, u4, u5, g2, e_T, e_F, e_bnd, e_obr, e_obd, e_obt, e_addB, e_addA, e_in, e_cl, e_leT, e_leF, e_ltT, e_ltF, e_eqT, e_eqF, e_NOT, e_NOF, nI_add, pk_mul, k_spot, k_chan, m_node, m_pair, m_msg, m_chan, m_pack, e_w, e_wn, e_ws]
/-- what stands of a taken packet's askers -/
theorem pop_R {f n : Nat} {p : Pk} {ps : List Pk} (h : rI N e Q σ) (hn : n < N) (hf : f < N) (hu : σ 2 n = NO) (hm : p.2.2.1 < 20) (hq : Q (6 * f + n) = p :: ps) (hk : kR p.2.1 = true) :
    cN p.2.2.1 kR (uQ Q (6 * f + n) ps (6 * f + n)) = 0 ∧ cN p.2.2.1 kA (uQ Q (6 * f + n) ps (6 * n + f)) = 0 ∧ bt (σ 15 p.2.2.1) n = true ∧ σ 27 (sp f p.2.2.1) ≠ NO ∧ bt (σ 27 (sp f p.2.2.1)) n = false := by
  obtain ⟨i1, i2, i3, -⟩ := h f n p.2.2.1 hf hn hm
  obtain ⟨o1, o2, o3, o4, o5⟩ := i3 hu
  have hR := cN_cons p.2.2.1 kR p ps
  rw [if_pos ⟨rfl, hk⟩, ← hq] at hR
  have hA : cN p.2.2.1 kA (uQ Q (6 * f + n) ps (6 * n + f)) ≤ cN p.2.2.1 kA (Q (6 * n + f)) := by
    by_cases ea : 6 * n + f = 6 * f + n
    · rw [ea, uQ_s, hq, cN_cons]; omega
    · rw [uQ_n _ _ ea]; exact Nat.le_refl _
  refine ⟨by rw [uQ_s]; omega, by omega, ?_, fun z => ?_, ?_⟩
  · cases hb : bt (σ 15 p.2.2.1) n with
    | true => rfl
    | false => have := i2 hb; omega
  · have := o4 (Or.inl z); omega
  · cases hb : bt (σ 27 (sp f p.2.2.1)) n with
    | false => rfl
    | true => have := o4 (Or.inr hb); omega
theorem pop_A {f n : Nat} {p : Pk} {ps : List Pk} (h : rI N e Q σ) (hn : n < N) (hf : f < N) (hm : p.2.2.1 < 20) (hq : Q (6 * f + n) = p :: ps) (hk : kA p.2.1 = true) (hu : σ 2 f = NO) :
    cN p.2.2.1 kR (uQ Q (6 * f + n) ps (6 * n + f)) + cN p.2.2.1 kA (uQ Q (6 * f + n) ps (6 * f + n)) = 0 := by
  obtain ⟨i1, i2, i3, -⟩ := h n f p.2.2.1 hn hf hm
  obtain ⟨o1, o2, o3, o4, o5⟩ := i3 hu
  have hA := cN_cons p.2.2.1 kA p ps
  rw [if_pos ⟨rfl, hk⟩, ← hq] at hA
  have hR : cN p.2.2.1 kR (uQ Q (6 * f + n) ps (6 * n + f)) ≤ cN p.2.2.1 kR (Q (6 * n + f)) := by
    by_cases ea : 6 * n + f = 6 * f + n
    · rw [ea, uQ_s, hq, cN_cons]; omega
    · rw [uQ_n _ _ ea]; exact Nat.le_refl _
  rw [uQ_s]; omega
end FI
