/-! delay -/
section L3
variable {L p pl N G M T : Nat} {Dl : Nat → List Nat} {σ μ : Sg}
theorem m_nds (ν : Sg) : fX12_nodes ν = some (ν 1 0) := rfl
theorem le_pm {k N : Nat} (hk : k < 2147483648) (hN : N < 1000000) (h : nI k ≤ nI N - nI 1) : k < N := by
  rw [pm_sub] at h
  cases N with
  | zero =>
    exfalso
    rw [Int32.le_iff_toInt_le, nI_toInt (by omega)] at h
    have : (pmI 0).toInt = -1 := rfl
    omega
  | succ N => have := (nI_leI hk (by omega)).mp h; omega
/-- a number of so many -/
theorem s_one (hN : N < 1000000) (h : tp L p σ μ) (h2 : σ 36 2 = NO) :
    (∃ k p' σ' μ' t, k < N ∧ fX9_readNumber (nI 0) (nI N - nI 1) σ = some (nI k, σ') ∧ fX12_number (nI 0) (nI N - nI 1) μ = some (nI k, μ') ∧ tp L p' σ' μ' ∧ σ' 36 2 = NO ∧ σ' 36 3 = nI t ∧ μ' 0 10 = nI t ∧ kQ σ σ' ∧ kN μ μ' ∧ t ≤ 400) ∨
    (∃ p' σ' μ' t, fX9_readNumber (nI 0) (nI N - nI 1) σ = some (NO, σ') ∧ fX12_number (nI 0) (nI N - nI 1) μ = some (NO, μ') ∧ tp L p' σ' μ' ∧ σ' 36 2 = nI t ∧ μ' 0 10 = nI t ∧ kQ σ σ' ∧ kN μ μ' ∧ t ≤ 400) := by
  rcases s_num (x1 := nI 0) (x2 := nI N - nI 1) h h2 with ⟨v, p', σ', μ', t, v1, v2, v3, v4, r⟩ | hf
  · left
    obtain ⟨k, -, k2, rfl⟩ := ge_nI (by omega) v1
    exact ⟨k, p', σ', μ', t, le_pm k2 hN v2, v3, v4, r⟩
  · exact Or.inr hf
/-- after a fault nothing is read -/
theorem k_stuck {x1 x2 : Int32} {t : Nat} (ht : t < 2147483648) (h : σ 36 2 = nI t) : fX9_readNumber x1 x2 σ = some (NO, σ) := by
  rw [u_fX9_readNumber, u_fX9_readNumber_0, cnd_neg (by rw [h]; exact NO_ne ht)]
theorem tO_f {p' t : Nat} {σ' μ' : Sg} {k : Option Sg} {m : Option (Int32 × Sg)} (hk : k = some σ') (hm : m = some (nI 0, μ')) (h1 : tp L p' σ' μ') (h2 : σ' 36 2 = nI t) (h3 : μ' 0 10 = nI t) (h4 : t ≤ 400) (h5 : kQ σ σ') (h6 : kN μ μ') : tOut L pl M T Dl σ μ k m :=
  Or.inr ⟨σ', μ', p', t, hk, hm, h1, h2, h3, h4, fun q hq => h5 q (by omega), fun q h0 _ => h6.1 q h0, fun j a b _ => h6.2 j a b⟩
theorem kQ_tr {a b c : Sg} (h1 : kQ a b) (h2 : kQ b c) : kQ a c := fun q hq => (h2 q hq).trans (h1 q hq)
theorem kN_tr {a b c : Sg} (h1 : kN a b) (h2 : kN b c) : kN a c := ⟨fun q hq => (h2.1 q hq).trans (h1.1 q hq), fun j x y => (h2.2 j x y).trans (h1.2 j x y)⟩
theorem t_dly (h : rdR L p pl N G M T Dl σ μ) : tOut L pl M T Dl σ μ (fX9_tellDelay σ) (fX12_readDelay μ) := by
  obtain ⟨ht, h2, Q, B, hR, hI, hd⟩ := h
  have hll := RR_len (u := μ) hR hI
  have h6 := hR.1.1.1
  have z0 := hR.1.2.1.1
  have y0 := hR.1.2.1.2
  have mz : fX12_nodes μ = some (nI N) := by rw [m_nds, y0]
  rcases s_one (N := N) (by omega) ht h2 with ⟨k1, p1, σ1, μ1, t1, a1, a2, a3, a4, a5, a6, a7, a8, a9, a10⟩ | ⟨p1, σ1, μ1, t1, a2, a3, a4, a5, a7, a8, a9, a10⟩
  · have z1 : σ1 0 0 = nI N := by rw [a8 0 (by omega)]; exact z0
    have mz1 : fX12_nodes μ1 = some (nI N) := by rw [m_nds, a9.1 1 (by omega), y0]
    rcases s_one (N := N) (by omega) a4 a5 with ⟨k2, p2, σ2, μ2, t2, b1, b2', b3, b4, b5, b6, b7, b8, b9, b10⟩ | ⟨p2, σ2, μ2, t2, b2', b3, b4, b5, b7, b8, b9, b10⟩
    · have z2 := kQ_tr a8 b8
      have y2 := kN_tr a9 b9
      have hc : 6 * k1 + k2 < 36 := by omega
      have hi : pC (6 * k1 + k2) 0 < 32243 := by unfold pC; omega
      rcases s_to (i := pC (6 * k1 + k2) 0) (a := 1) (b := 9) hi (by omega) (by omega) b4 b5 with ⟨k, p3, σ3, μ3, t3, c0, c1, c2, c3, c4, c5, c6, c7, c8, c9, c10⟩ | ⟨p3, σ3, μ3, t3, c2, c3, c4, c5, c7, c8, c9, c10⟩
      · left
        have z3 := kQ_tr z2 c8
        have y3 := kN_tr y2 c9
        have w1 : s2 μ3 1 (pC (6 * k1 + k2) 0) (nI k) 1 = upd (μ 1) (pC (6 * k1 + k2) 0) (nI k) := by rw [e_s2, y3.1 1 (by omega)]
        have r1 := R0_cg (σ' := s2 σ3 6 (6 * k1 + k2) (nI k)) (σ := s2 σ 6 (6 * k1 + k2) (nI k)) (fun q hq => by
          by_cases e : q = 6
          · subst e; rw [e_s2, e_s2, z3 6 (by omega)]
          · rw [e_s2n _ _ _ e, e_s2n _ _ _ e, z3 q (by omega)]) (R0_dly c0 c1 hR hll hc)
        obtain ⟨d1, d2, d3, d4, d5, d6, d7⟩ := c4
        refine ⟨s2 σ3 6 (6 * k1 + k2) (nI k), s2 μ3 1 (pC (6 * k1 + k2) 0) (nI k), p3, N, G, ?_, ?_, ⟨⟨d1, d2, ?_, ?_, ?_, ?_, fun j hj => ?_⟩, ?_, Q, B, ?_, ?_, ?_⟩, ?_⟩
        · simp (disch := first | omega | (simp only [pN, pP, pM, pE, pL, pC, pK, sp]; omega)) only [u_fX9_tellDelay, u_fX9_tellDelay_0, z0, z1, a2, b2', c2, e_T, e_F, e_bnd, e_obr, e_obd, e_obt, e_addB, e_addA, e_in, e_cl, e_leT, e_leF, e_ltT, e_ltF, e_eqT, e_eqF, e_NOT, e_NOF, nI_add, pk_mul, k_spot, k_chan, m_node, m_pair, m_msg, m_chan, m_pack, e_w, e_wn, e_ws]
        · simp (disch := first | omega | (simp only [pN, pP, pM, pE, pL, pC, pK, sp]; omega)) only [u_fX12_readDelay, u_fX12_readDelay_0, u_fX12_readDelay_31, mz, mz1, a3, b3, c3, e_T, e_F, e_bnd, e_obr, e_obd, e_obt, e_addB, e_addA, e_in, e_cl, e_leT, e_leF, e_ltT, e_ltF, e_eqT, e_eqF, e_NOT, e_NOF, nI_add, pk_mul, k_spot, k_chan, m_node, m_pair, m_msg, m_chan, m_pack, e_w, e_wn, e_ws]
        · rw [e_s2n _ _ _ (by omega)]; exact d3
        · rw [e_s2n _ _ _ (by omega)]; exact d4
        · rw [e_s2n _ _ _ (by omega)]; exact d5
        · rw [e_s2n _ _ _ (by omega)]; exact d6
        · rw [e_s2n _ _ _ (by omega), e_s2n _ _ _ (by omega)]; exact d7 j hj
        · rw [e_s2n _ _ _ (by omega)]; exact c5
        · rw [w1]; exact r1
        · exact rI_c hI (by rw [e_s2n _ _ _ (by omega), z3 15 (by omega)]) (by rw [e_s2n _ _ _ (by omega), z3 2 (by omega)]) (by rw [e_s2n _ _ _ (by omega), z3 27 (by omega)])
        · unfold dF at hd ⊢; rw [e_s2n _ _ _ (by omega), y3.2 14 (by omega) (by omega)]; exact hd
        · refine ⟨fun q hq => by rw [e_s2n _ _ _ (by omega), z3 q (by omega)], fun q h0 h1 => by rw [e_s2n _ _ _ h1, y3.1 q h0], fun j h8 h10 _ => by rw [e_s2n _ _ _ (by omega), y3.2 j h8 h10], by rw [e_s2n _ _ _ (by omega), z3 0 (by omega)], by rw [e_s2n _ _ _ (by omega), z3 0 (by omega)]⟩
      · have e1 : s2 μ3 1 (pC (6 * k1 + k2) 0) (μ3 1 (pC (6 * k1 + k2) 0)) = μ3 := s2_id _ _ _
        rw [e1] at c3
        refine tO_f (σ' := σ3) (μ' := μ3) ?_ ?_ c4 c5 c7 c10 (kQ_tr z2 c8) (kN_tr y2 c9)
        · simp (disch := first | omega | (simp only [pN, pP, pM, pE, pL, pC, pK, sp]; omega)) only [u_fX9_tellDelay, u_fX9_tellDelay_0, z0, z1, a2, b2', c2, e_T, e_F, e_bnd, e_obr, e_obd, e_obt, e_addB, e_addA, e_in, e_cl, e_leT, e_leF, e_ltT, e_ltF, e_eqT, e_eqF, e_NOT, e_NOF, nI_add, pk_mul, k_spot, k_chan, m_node, m_pair, m_msg, m_chan, m_pack, e_w, e_wn, e_ws]
        · simp (disch := first | omega | (simp only [pN, pP, pM, pE, pL, pC, pK, sp]; omega)) only [u_fX12_readDelay, u_fX12_readDelay_0, u_fX12_readDelay_31, mz, mz1, a3, b3, c3, e_T, e_F, e_bnd, e_obr, e_obd, e_obt, e_addB, e_addA, e_in, e_cl, e_leT, e_leF, e_ltT, e_ltF, e_eqT, e_eqF, e_NOT, e_NOF, nI_add, pk_mul, k_spot, k_chan, m_node, m_pair, m_msg, m_chan, m_pack, e_w, e_wn, e_ws]
    · have st := fun x1 x2 => k_stuck (x1 := x1) (x2 := x2) (show t2 < 2147483648 by omega) b5
      refine tO_f (σ' := σ2) (μ' := μ2) ?_ ?_ b4 b5 b7 b10 (kQ_tr a8 b8) (kN_tr a9 b9)
      · simp (disch := first | omega | (simp only [pN, pP, pM, pE, pL, pC, pK, sp]; omega)) only [u_fX9_tellDelay, u_fX9_tellDelay_0, z0, z1, a2, b2', st, e_T, e_F, e_bnd, e_obr, e_obd, e_obt, e_addB, e_addA, e_in, e_cl, e_leT, e_leF, e_ltT, e_ltF, e_eqT, e_eqF, e_NOT, e_NOF, nI_add, pk_mul, k_spot, k_chan, m_node, m_pair, m_msg, m_chan, m_pack, e_w, e_wn, e_ws]
      · have : NO < nI 0 := by decide
        simp (disch := first | omega | (simp only [pN, pP, pM, pE, pL, pC, pK, sp]; omega)) only [u_fX12_readDelay, u_fX12_readDelay_0, u_fX12_readDelay_31, mz, mz1, a3, b3, cnd_pos this, e_T, e_F, e_bnd, e_obr, e_obd, e_obt, e_addB, e_addA, e_in, e_cl, e_leT, e_leF, e_ltT, e_ltF, e_eqT, e_eqF, e_NOT, e_NOF, nI_add, pk_mul, k_spot, k_chan, m_node, m_pair, m_msg, m_chan, m_pack, e_w, e_wn, e_ws]
  · have st := fun x1 x2 => k_stuck (x1 := x1) (x2 := x2) (show t1 < 2147483648 by omega) a5
    refine tO_f (σ' := σ1) (μ' := μ1) ?_ ?_ a4 a5 a7 a10 a8 a9
    · simp (disch := first | omega | (simp only [pN, pP, pM, pE, pL, pC, pK, sp]; omega)) only [u_fX9_tellDelay, u_fX9_tellDelay_0, z0, a2, st, e_T, e_F, e_bnd, e_obr, e_obd, e_obt, e_addB, e_addA, e_in, e_cl, e_leT, e_leF, e_ltT, e_ltF, e_eqT, e_eqF, e_NOT, e_NOF, nI_add, pk_mul, k_spot, k_chan, m_node, m_pair, m_msg, m_chan, m_pack, e_w, e_wn, e_ws]
    · have h1 : NO < nI 0 := by decide
      have h2 : ¬ nI 0 ≤ NO := by decide
      simp (disch := first | omega | (simp only [pN, pP, pM, pE, pL, pC, pK, sp]; omega)) only [u_fX12_readDelay, u_fX12_readDelay_0, u_fX12_readDelay_31, mz, a3, cnd_pos h1, cnd_neg h2, e_T, e_F, e_bnd, e_obr, e_obd, e_obt, e_addB, e_addA, e_in, e_cl, e_leT, e_leF, e_ltT, e_ltF, e_eqT, e_eqF, e_NOT, e_NOF, nI_add, pk_mul, k_spot, k_chan, m_node, m_pair, m_msg, m_chan, m_pack, e_w, e_wn, e_ws]
end L3
