/-! nodes -/
section L4
variable {L p pl N G M T : Nat} {Dl : Nat → List Nat} {σ μ : Sg}
theorem m_nds39 {n : Nat} (hn : n ≤ 6) : ∀ (r j f : Nat) (ν : Sg), j + r = n → r < f → ∃ ν', fX12_readNodes_39 f (nI n) (nI j) ν = some (nI 1, ν') ∧ (∀ q, q ≠ 1 → ν' q = ν q) ∧ (∀ i, (∀ k, j ≤ k → k < n → i ≠ pN k 0) → ν' 1 i = ν 1 i) ∧ ∀ k, j ≤ k → k < n → ν' 1 (pN k 0) = nI 1 := by
  intro r
  induction r with
  | zero =>
    intro j f ν hj hf
    obtain ⟨f, rfl⟩ : ∃ g, f = g + 1 := ⟨f - 1, by omega⟩
    refine ⟨ν, ?_, fun _ _ => rfl, fun _ _ => rfl, fun k h1 h2 => by omega⟩
    rw [u_fX12_readNodes_39, cnd_pos (nI_le (by omega) (by omega))]
  | succ r ih =>
    intro j f ν hj hf
    obtain ⟨f, rfl⟩ : ∃ g, f = g + 1 := ⟨f - 1, by omega⟩
    obtain ⟨ν', e1, e2, e3, e4⟩ := ih (j + 1) f (s2 ν 1 (pN j 0) (nI 1)) (by omega) (by omega)
    refine ⟨ν', ?_, fun q hq => by rw [e2 q hq, e_s2n _ _ _ hq], fun i hi => ?_, fun k h1 h2 => ?_⟩
    · rw [← e1]
      simp (disch := first | omega | (simp only [pN, pP, pM, pE, pL, pC, pK, sp]; omega)) only [u_fX12_readNodes_39, e_T, e_F, e_bnd, e_obr, e_obd, e_obt, e_addB, e_addA, e_in, e_cl, e_leT, e_leF, e_ltT, e_ltF, e_eqT, e_eqF, e_NOT, e_NOF, nI_add, pk_mul, k_spot, k_chan, m_node, m_pair, m_msg, m_chan, m_pack, e_w, e_wn, e_ws]
    · rw [e3 i (fun k h1 h2 => hi k (by omega) h2), e_s2, pk_un (hi j (by omega) (by omega))]
    · by_cases e : k = j
      · subst e
        rw [e3 _ (fun k' h3 h4 => by unfold pN; omega), e_s2, pk_us]
      · exact e4 k (by omega) h2
theorem t_nds {ln t : Nat} (h : rdR L p pl N G M T Dl σ μ) (hln : ln ≤ 14) (h13 : μ 0 13 = nI ln) (h10 : μ 0 10 = nI t) (ht4 : t ≤ 400) : tOut L pl M T Dl σ μ (fX9_tellNodes (nI t) (nI ln) σ) (fX12_readNodes μ) := by
  obtain ⟨ht, h2, Q, B, hR, hI, hd⟩ := h
  have hll := RR_len (u := μ) hR hI
  have h6 := hR.1.1.1
  have z0 := hR.1.2.1.1
  have y0 := hR.1.2.1.2
  have mz : fX12_nodes μ = some (nI N) := by rw [m_nds, y0]
  have bad : fX9_tellNodes (nI t) (nI ln) σ = some (s2 σ 36 2 (nI t)) → fX12_readNodes μ = some (nI 0, μ) → tOut L pl M T Dl σ μ (fX9_tellNodes (nI t) (nI ln) σ) (fX12_readNodes μ) := fun y1 y2 => by
    obtain ⟨d1, d2, d3, d4, d5, d6, d7⟩ := ht
    refine tO_f (p' := p) y1 y2 ⟨d1, d2, ?_, d4, ?_, d6, fun j hj => ?_⟩ (by rw [e_s2, pk_us]) h10 ht4 (fun q hq => e_s2n _ _ _ hq) ⟨fun _ _ => rfl, fun _ _ _ => rfl⟩
    · rw [e_s2n _ _ _ (by omega)]; exact d3
    · rw [e_s2, pk_un (by omega)]; exact d5
    · rw [e_s2n _ _ _ (by omega)]; exact d7 j hj
  by_cases hl0 : ln = 0
  · subst hl0
    by_cases hN : N = 0
    · subst hN
      rcases s_num (x1 := nI 1) (x2 := nI 6) ht h2 with ⟨v, p', σ', μ', t', v1, v2, v3, v4, c4, c5, c6, c7, c8, c9, c10⟩ | ⟨p', σ', μ', t', v3, v4, c4, c5, c7, c8, c9, c10⟩
      · obtain ⟨k, k1, k2, rfl⟩ := ge_nI (by omega) v1
        have hk6 : k ≤ 6 := (nI_leI k2 (by omega)).mp v2
        obtain ⟨ν, e1, e2, e3, e4⟩ := m_nds39 hk6 k 0 FU (s2 μ' 1 0 (nI k)) (by omega) (by show k < 100000; omega)
        left
        have w : ∀ i, i ≠ 0 → (∀ j, j < k → i ≠ pN j 0) → ν 1 i = μ 1 i := fun i h0 hi => by
          rw [e3 i (fun j _ h2 => hi j h2), e_s2, pk_un h0, c9.1 1 (by omega)]
        have w0 : ν 1 0 = nI k := by rw [e3 0 (fun j _ _ => by unfold pN; omega), e_s2, pk_us]
        have r1 := R0_nds (σ := σ) (σ' := s2 σ 0 0 (nI k)) (ω' := ν 1) hk6 (fc_s2 _ _ _ _) (by rw [e_s2, pk_us]) (fun j hj => by rw [e_s2, pk_un hj]) w0 (fun j hj => e4 j (by omega) hj) w hR hll
        have r2 := R0_cg (σ' := s2 σ' 0 0 (nI k)) (σ := s2 σ 0 0 (nI k)) (fun q hq => by
          by_cases e : q = 0
          · subst e; rw [e_s2, e_s2, c8 0 (by omega)]
          · rw [e_s2n _ _ _ e, e_s2n _ _ _ e, c8 q (by omega)]) r1
        have hQ : ∀ a b, a < 6 → b < 6 → Q (6 * a + b) = [] := fun a b ha hb => (hR.2.2.2.2.2.2.2.2.1 a b ha hb).2 (Or.inl (by omega))
        obtain ⟨d1, d2, d3, d4, d5, d6, d7⟩ := c4
        refine ⟨s2 σ' 0 0 (nI k), ν, p', k, G, ?_, ?_, ⟨⟨d1, d2, ?_, ?_, ?_, ?_, fun j hj => ?_⟩, ?_, Q, B, r2, ?_, ?_⟩, ?_⟩
        · simp (disch := first | omega | (simp only [pN, pP, pM, pE, pL, pC, pK, sp]; omega)) only [u_fX9_tellNodes, u_fX9_tellNodes_0, z0, v3, e_T, e_F, e_bnd, e_obr, e_obd, e_obt, e_addB, e_addA, e_in, e_cl, e_leT, e_leF, e_ltT, e_ltF, e_eqT, e_eqF, e_NOT, e_NOF, nI_add, pk_mul, k_spot, k_chan, m_node, m_pair, m_msg, m_chan, m_pack, e_w, e_wn, e_ws]
        · simp (disch := first | omega | (simp only [pN, pP, pM, pE, pL, pC, pK, sp]; omega)) only [u_fX12_readNodes, u_fX12_readNodes_0, h13, mz, v4, e1, e_T, e_F, e_bnd, e_obr, e_obd, e_obt, e_addB, e_addA, e_in, e_cl, e_leT, e_leF, e_ltT, e_ltF, e_eqT, e_eqF, e_NOT, e_NOF, nI_add, pk_mul, k_spot, k_chan, m_node, m_pair, m_msg, m_chan, m_pack, e_w, e_wn, e_ws]
        · rw [e_s2n _ _ _ (by omega)]; exact d3
        · rw [e2 0 (by omega), e_s2n _ _ _ (by omega)]; exact d4
        · rw [e_s2n _ _ _ (by omega)]; exact d5
        · rw [e2 0 (by omega), e_s2n _ _ _ (by omega)]; exact d6
        · rw [e_s2n _ _ _ (by omega), e2 5 (by omega), e_s2n _ _ _ (by omega)]; exact d7 j hj
        · rw [e_s2n _ _ _ (by omega)]; exact c5
        · intro n x m hn hx hm
          rw [hQ x n (by omega) (by omega), hQ n x (by omega) (by omega)]
          refine ⟨by decide +revert, fun _ => ⟨rfl, rfl⟩, fun _ => ⟨trivial, ?_, ?_, fun _ => rfl, fun _ _ _ => rfl⟩, fun _ => ⟨?_, ?_⟩⟩ <;> exact Nat.zero_le _
        · unfold dF at hd ⊢; rw [e2 0 (by omega), e_s2n _ _ _ (by omega), c9.2 14 (by omega) (by omega)]; exact hd
        · refine ⟨fun q hq => by rw [e_s2n _ _ _ (by omega), c8 q (by omega)], fun q h0 h1 => by rw [e2 q h1, e_s2n _ _ _ h1, c9.1 q h0], fun j h8 h10 _ => by rw [e2 0 (by omega), e_s2n _ _ _ (by omega), c9.2 j h8 h10], by rw [e_s2, pk_un (by omega), c8 0 (by omega)], by rw [e_s2, pk_un (by omega), c8 0 (by omega)]⟩
      · have hneg : ¬ nI 0 ≤ NO := by decide
        refine tO_f (σ' := σ') (μ' := μ') ?_ ?_ c4 c5 c7 c10 c8 c9
        · simp (disch := first | omega | (simp only [pN, pP, pM, pE, pL, pC, pK, sp]; omega)) only [u_fX9_tellNodes, u_fX9_tellNodes_0, z0, v3, e_T, e_F, e_bnd, e_obr, e_obd, e_obt, e_addB, e_addA, e_in, e_cl, e_leT, e_leF, e_ltT, e_ltF, e_eqT, e_eqF, e_NOT, e_NOF, nI_add, pk_mul, k_spot, k_chan, m_node, m_pair, m_msg, m_chan, m_pack, e_w, e_wn, e_ws]
        · simp (disch := first | omega | (simp only [pN, pP, pM, pE, pL, pC, pK, sp]; omega)) only [u_fX12_readNodes, u_fX12_readNodes_0, h13, mz, v4, cnd_neg hneg, e_T, e_F, e_bnd, e_obr, e_obd, e_obt, e_addB, e_addA, e_in, e_cl, e_leT, e_leF, e_ltT, e_ltF, e_eqT, e_eqF, e_NOT, e_NOF, nI_add, pk_mul, k_spot, k_chan, m_node, m_pair, m_msg, m_chan, m_pack, e_w, e_wn, e_ws]
    · refine bad ?_ ?_
      · simp (disch := first | omega | (simp only [pN, pP, pM, pE, pL, pC, pK, sp]; omega)) only [u_fX9_tellNodes, u_fX9_tellNodes_0, u_fX9_tellNodes_11, z0, e_T, e_F, e_bnd, e_obr, e_obd, e_obt, e_addB, e_addA, e_in, e_cl, e_leT, e_leF, e_ltT, e_ltF, e_eqT, e_eqF, e_NOT, e_NOF, nI_add, pk_mul, k_spot, k_chan, m_node, m_pair, m_msg, m_chan, m_pack, e_w, e_wn, e_ws]
      · simp (disch := first | omega | (simp only [pN, pP, pM, pE, pL, pC, pK, sp]; omega)) only [u_fX12_readNodes, u_fX12_readNodes_0, h13, mz, e_T, e_F, e_bnd, e_obr, e_obd, e_obt, e_addB, e_addA, e_in, e_cl, e_leT, e_leF, e_ltT, e_ltF, e_eqT, e_eqF, e_NOT, e_NOF, nI_add, pk_mul, k_spot, k_chan, m_node, m_pair, m_msg, m_chan, m_pack, e_w, e_wn, e_ws]
  · refine bad ?_ ?_
    · simp (disch := first | omega | (simp only [pN, pP, pM, pE, pL, pC, pK, sp]; omega)) only [u_fX9_tellNodes, u_fX9_tellNodes_0, u_fX9_tellNodes_11, e_T, e_F, e_bnd, e_obr, e_obd, e_obt, e_addB, e_addA, e_in, e_cl, e_leT, e_leF, e_ltT, e_ltF, e_eqT, e_eqF, e_NOT, e_NOF, nI_add, pk_mul, k_spot, k_chan, m_node, m_pair, m_msg, m_chan, m_pack, e_w, e_wn, e_ws]
    · simp (disch := first | omega | (simp only [pN, pP, pM, pE, pL, pC, pK, sp]; omega)) only [u_fX12_readNodes, u_fX12_readNodes_0, h13, e_T, e_F, e_bnd, e_obr, e_obd, e_obt, e_addB, e_addA, e_in, e_cl, e_leT, e_leF, e_ltT, e_ltF, e_eqT, e_eqF, e_NOT, e_NOF, nI_add, pk_mul, k_spot, k_chan, m_node, m_pair, m_msg, m_chan, m_pack, e_w, e_wn, e_ws]
end L4
