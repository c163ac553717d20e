/-! jitter, notice -/
section L2
variable {L p pl N G M T : Nat} {Dl : Nat → List Nat} {σ μ : Sg}
theorem t_jit (h : rdR L p pl N G M T Dl σ μ) : tOut L pl M T Dl σ μ (obd (fX9_readNumber (nI 0) (nI 5) σ) (fun r31 u32 => bnd (s2 u32 0 4 r31) (fun u33 => some u33))) (fX12_readTo (nI 5) (nI 0) (nI 5) μ) := by
  obtain ⟨ht, h2, Q, B, hR, hI, hd⟩ := h
  have hll := RR_len (u := μ) hR hI
  rcases s_to (i := 5) (a := 0) (b := 5) (by omega) (by omega) (by omega) ht h2 with ⟨k, p', σ', μ', t, k1, k2, v3, v4, t1, t2, t3, t4, t5, t6, t7⟩ | ⟨p', σ', μ', t, v3, v4, t1, t2, t4, t5, t6, t7⟩
  · left
    have w1 : s2 μ' 1 5 (nI k) 1 = upd (μ 1) 5 (nI k) := by rw [e_s2, t6.1 1 (by omega)]
    have r1 := R0_cg (σ' := s2 σ' 0 4 (nI k)) (σ := s2 σ 0 4 (nI k)) (fun q hq => by
      by_cases e : q = 0
      · subst e; rw [e_s2, e_s2, t5 0 (by omega)]
      · rw [e_s2n _ _ _ e, e_s2n _ _ _ e, t5 q (by omega)]) (R0_jit trivial (show k ≤ 5 by omega) hR hll)
    obtain ⟨a1, a2, a3, a4, a5, a6, a7⟩ := t1
    refine ⟨s2 σ' 0 4 (nI k), s2 μ' 1 5 (nI k), p', N, G, ?_, v4, ⟨⟨a1, a2, ?_, ?_, ?_, ?_, fun j hj => ?_⟩, ?_, Q, B, ?_, ?_, ?_⟩, ?_⟩
    · rw [v3, e_obd, e_bnd]
    · rw [e_s2n _ _ _ (by omega)]; exact a3
    · rw [e_s2n _ _ _ (by omega)]; exact a4
    · rw [e_s2n _ _ _ (by omega)]; exact a5
    · rw [e_s2n _ _ _ (by omega)]; exact a6
    · rw [e_s2n _ _ _ (by omega), e_s2n _ _ _ (by omega)]; exact a7 j hj
    · rw [e_s2n _ _ _ (by omega)]; exact t2
    · rw [w1]; exact r1
    · exact rI_c hI (by rw [e_s2n _ _ _ (by omega), t5 15 (by omega)]) (by rw [e_s2n _ _ _ (by omega), t5 2 (by omega)]) (by rw [e_s2n _ _ _ (by omega), t5 27 (by omega)])
    · unfold dF at hd ⊢; rw [e_s2n _ _ _ (by omega), t6.2 14 (by omega) (by omega)]; exact hd
    · refine ⟨fun q hq => by rw [e_s2n _ _ _ (by omega), t5 q (by omega)], fun q h0 h1 => by rw [e_s2n _ _ _ h1, t6.1 q h0], fun j h8 h10 _ => by rw [e_s2n _ _ _ (by omega), t6.2 j h8 h10], by rw [e_s2, pk_un (by omega), t5 0 (by omega)], by rw [e_s2, pk_un (by omega), t5 0 (by omega)]⟩
  · right
    obtain ⟨a1, a2, a3, a4, a5, a6, a7⟩ := t1
    refine ⟨s2 σ' 0 4 NO, s2 μ' 1 5 (μ' 1 5), p', t, ?_, v4, ⟨a1, a2, ?_, ?_, ?_, ?_, fun j hj => ?_⟩, ?_, ?_, t7, fun q hq => ?_, fun q h0 h1 => ?_, fun j h8 h10 _ => ?_⟩
    · rw [v3, e_obd, e_bnd]
    · rw [e_s2n _ _ _ (by omega)]; exact a3
    · rw [e_s2n _ _ _ (by omega)]; exact a4
    · rw [e_s2n _ _ _ (by omega)]; exact a5
    · rw [e_s2n _ _ _ (by omega)]; exact a6
    · rw [e_s2n _ _ _ (by omega), e_s2n _ _ _ (by omega)]; exact a7 j hj
    · rw [e_s2n _ _ _ (by omega)]; exact t2
    · rw [e_s2n _ _ _ (by omega)]; exact t4
    · rw [e_s2n _ _ _ (by omega), t5 q (by omega)]
    · rw [e_s2n _ _ _ h1, t6.1 q h0]
    · rw [e_s2n _ _ _ (by omega), t6.2 j h8 h10]
theorem t_ntc (h : rdR L p pl N G M T Dl σ μ) : tOut L pl M T Dl σ μ (obd (fX9_readNumber (nI 0) (nI 20) σ) (fun r31 u32 => bnd (s2 u32 0 5 r31) (fun u33 => some u33))) (fX12_readTo (nI 6) (nI 0) (nI 20) μ) := by
  obtain ⟨ht, h2, Q, B, hR, hI, hd⟩ := h
  have hll := RR_len (u := μ) hR hI
  rcases s_to (i := 6) (a := 0) (b := 20) (by omega) (by omega) (by omega) ht h2 with ⟨k, p', σ', μ', t, k1, k2, v3, v4, t1, t2, t3, t4, t5, t6, t7⟩ | ⟨p', σ', μ', t, v3, v4, t1, t2, t4, t5, t6, t7⟩
  · left
    have w1 : s2 μ' 1 6 (nI k) 1 = upd (μ 1) 6 (nI k) := by rw [e_s2, t6.1 1 (by omega)]
    have r1 := R0_cg (σ' := s2 σ' 0 5 (nI k)) (σ := s2 σ 0 5 (nI k)) (fun q hq => by
      by_cases e : q = 0
      · subst e; rw [e_s2, e_s2, t5 0 (by omega)]
      · rw [e_s2n _ _ _ e, e_s2n _ _ _ e, t5 q (by omega)]) (R0_ntc (show k ≤ 20 by omega) hR hll)
    obtain ⟨a1, a2, a3, a4, a5, a6, a7⟩ := t1
    refine ⟨s2 σ' 0 5 (nI k), s2 μ' 1 6 (nI k), p', N, G, ?_, v4, ⟨⟨a1, a2, ?_, ?_, ?_, ?_, fun j hj => ?_⟩, ?_, Q, B, ?_, ?_, ?_⟩, ?_⟩
    · rw [v3, e_obd, e_bnd]
    · rw [e_s2n _ _ _ (by omega)]; exact a3
    · rw [e_s2n _ _ _ (by omega)]; exact a4
    · rw [e_s2n _ _ _ (by omega)]; exact a5
    · rw [e_s2n _ _ _ (by omega)]; exact a6
    · rw [e_s2n _ _ _ (by omega), e_s2n _ _ _ (by omega)]; exact a7 j hj
    · rw [e_s2n _ _ _ (by omega)]; exact t2
    · rw [w1]; exact r1
    · exact rI_c hI (by rw [e_s2n _ _ _ (by omega), t5 15 (by omega)]) (by rw [e_s2n _ _ _ (by omega), t5 2 (by omega)]) (by rw [e_s2n _ _ _ (by omega), t5 27 (by omega)])
    · unfold dF at hd ⊢; rw [e_s2n _ _ _ (by omega), t6.2 14 (by omega) (by omega)]; exact hd
    · refine ⟨fun q hq => by rw [e_s2n _ _ _ (by omega), t5 q (by omega)], fun q h0 h1 => by rw [e_s2n _ _ _ h1, t6.1 q h0], fun j h8 h10 _ => by rw [e_s2n _ _ _ (by omega), t6.2 j h8 h10], by rw [e_s2, pk_un (by omega), t5 0 (by omega)], by rw [e_s2, pk_un (by omega), t5 0 (by omega)]⟩
  · right
    obtain ⟨a1, a2, a3, a4, a5, a6, a7⟩ := t1
    refine ⟨s2 σ' 0 5 NO, s2 μ' 1 6 (μ' 1 6), p', t, ?_, v4, ⟨a1, a2, ?_, ?_, ?_, ?_, fun j hj => ?_⟩, ?_, ?_, t7, fun q hq => ?_, fun q h0 h1 => ?_, fun j h8 h10 _ => ?_⟩
    · rw [v3, e_obd, e_bnd]
    · rw [e_s2n _ _ _ (by omega)]; exact a3
    · rw [e_s2n _ _ _ (by omega)]; exact a4
    · rw [e_s2n _ _ _ (by omega)]; exact a5
    · rw [e_s2n _ _ _ (by omega)]; exact a6
    · rw [e_s2n _ _ _ (by omega), e_s2n _ _ _ (by omega)]; exact a7 j hj
    · rw [e_s2n _ _ _ (by omega)]; exact t2
    · rw [e_s2n _ _ _ (by omega)]; exact t4
    · rw [e_s2n _ _ _ (by omega), t5 q (by omega)]
    · rw [e_s2n _ _ _ h1, t6.1 q h0]
    · rw [e_s2n _ _ _ (by omega), t6.2 j h8 h10]
end L2
