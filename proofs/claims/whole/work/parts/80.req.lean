/-! requests, final stamps, takes -/
def prp (σ : Sg) (n m a : Nat) : Sg := s2 (s2 (s2 σ 3 n (nI (a + 1))) 20 (sp n m) (nI 1)) 21 (sp n m) (nI (8 * (a + 1) + n))
def prw (ω : Nat → Int32) (n m l a : Nat) : Nat → Int32 := upd (upd (upd (upd (upd ω (pN n 2) (nI (a + 1))) (pP n m 0) (nI 1)) (pP n m 1) (nI (a + 1))) (pP n m 2) (nI n)) (pP n m 3) (nI l)
section RQ
variable {dr : Prop} {tk : Int32} {pl N G M T B : Nat} {e : Nat → Nat → Nat} {Q Q' : Qs} {Dl : Nat → List Nat} {u σ σ' : Sg} {ω ω' : Nat → Int32}
theorem rP1_h {n m : Nat} (h : rP1 N M T B σ ω n m) (h27 : σ' 27 (sp n m) = σ 27 (sp n m)) (h28 : σ' 28 (sp n m) = σ 28 (sp n m)) (h29 : σ' 29 (sp n m) = σ 29 (sp n m)) (hw : ∀ w, 5 ≤ w → w < 11 → ω' (pP n m w) = ω (pP n m w))
    (x1 : ∃ k, k ≤ 3 ∧ σ' 20 (sp n m) = nI k ∧ ω' (pP n m 0) = nI k ∧ (k ≠ 0 → n < N ∧ m < M ∧ ∃ l, l < N ∧ σ' 22 (sp n m) = nI l) ∧ (k = 3 → ∃ t, t ≤ T ∧ σ' 23 (sp n m) = nI t ∧ ω' (pP n m 4) = nI t))
    (x2 : vS B (σ' 21 (sp n m)) ∧ ω' (pP n m 1) = num (σ' 21 (sp n m)) ∧ ω' (pP n m 2) = nod (σ' 21 (sp n m))) (x3 : σ' 22 (sp n m) = ω' (pP n m 3)) : rP1 N M T B σ' ω' n m := by
  refine ⟨x1, x2, x3, ?_⟩
  have g := h.2.2.2
  unfold rG at g ⊢
  rw [h27, h28, h29, hw 5 (by omega) (by omega), hw 6 (by omega) (by omega), hw 7 (by omega) (by omega), hw 8 (by omega) (by omega), hw 9 (by omega) (by omega), hw 10 (by omega) (by omega)]
  exact g
theorem s_prop {n m l : Nat} (h : R0 dr tk pl N G M T B Q Dl σ ω) (hl : ∀ c, c < 36 → (Q c).length ≤ 110) (hn : n < N) (hm : m < M) (hlN : l < N) (h0 : σ 20 (sp n m) = nI 0) :
    ∃ a, a ≤ B ∧ fX7_propose (nI n) (nI (sp n m)) σ = some (prp σ n m a) ∧ fX12_proposes (nI n) (nI m) (nI l) (sq u 1 ω) = some (sq u 1 (prw ω n m l a)) ∧ R0 dr tk pl N G M T (B + 1) Q Dl (s2 (prp σ n m a) 22 (sp n m) (nI l)) (prw ω n m l a) := by
  have h6 := h.1.1.1
  have hM20 := h.1.1.2.2.1
  have hB := h.2.2.2.2.2.2.2.2.2.2
  have hB2 := cnt_le (σ := σ)
  have hsp : sp n m < 120 := by unfold sp; omega
  obtain ⟨a, ha, a1, a2⟩ := (h.2.1 n (by omega)).2.2.1
  refine ⟨a, ha, ?_, ?_, ?_⟩
  · simp (disch := first | omega | (simp only [pN, pP, pM, pE, pL, pC, pK, sp]; omega)) only [u_fX7_propose, u_fX7_propose_0, a1, prp, stamp_v, e_T, e_F, e_bnd, e_obr, e_obd, e_obt, e_addB, e_addA, e_in, e_cl, e_leT, e_leF, e_ltT, e_ltF, e_eqT, e_eqF, e_NOT, e_NOF, nI_add, pk_mul, k_spot, k_chan, m_node, m_pair, m_msg, m_chan, m_pack, e_w, e_wn, e_ws, e_s2, e_s2n, pk_us, pk_un]
  · simp (disch := first | omega | (simp only [pN, pP, pM, pE, pL, pC, pK, sp]; omega)) only [u_fX12_proposes, u_fX12_proposes_0, m_lays, m_of, a2, prw, e_T, e_F, e_bnd, e_obr, e_obd, e_obt, e_addB, e_addA, e_in, e_cl, e_leT, e_leF, e_ltT, e_ltF, e_eqT, e_eqF, e_NOT, e_NOF, nI_add, pk_mul, k_spot, k_chan, m_node, m_pair, m_msg, m_chan, m_pack, e_w, e_wn, e_ws, pk_us, pk_un]
  · have r1 := Rm_clock (Rm_B (Rm_of h) (show B ≤ B + 1 by omega)) hl (n₀ := n) (a := a + 1) (by omega) (by omega)
    refine R0_of (Rm_pair r1 hl (n₀ := n) (m₀ := m) (by omega) (by omega) ?_ ?_ ?_ ?_ ?_) ?_
    · exact fc_wk (fc_tr (fc_tr (fc_s2 _ _ _ _) (fc_s2 _ _ _ _)) (fc_s2 _ _ _ _)) (by decide)
    · intro q i hi; simp only [prp, e_s2'', hi, and_false, if_false]
    · intro i hi
      have z0 := hi 0 (by omega)
      have z1 := hi 1 (by omega)
      have z2 := hi 2 (by omega)
      have z3 := hi 3 (by omega)
      unfold prw
      simp (disch := assumption) only [pk_un]
    · refine rP1_h (r1.2.2.1 n m (by omega) (by omega)) ?_ ?_ ?_ (fun w h1 h2 => ?_) ⟨1, by omega, ?_, ?_, fun _ => ⟨hn, hm, l, hlN, ?_⟩, fun z => by omega⟩ ⟨⟨a + 1, n, by omega, by omega, ?_⟩, ?_, ?_⟩ ?_
      · simp (disch := first | omega | (simp only [pN, pP, pM, pE, pL, pC, pK, sp]; omega)) only [prp, e_s2, e_s2n, pk_us, pk_un]
      · simp (disch := first | omega | (simp only [pN, pP, pM, pE, pL, pC, pK, sp]; omega)) only [prp, e_s2, e_s2n, pk_us, pk_un]
      · simp (disch := first | omega | (simp only [pN, pP, pM, pE, pL, pC, pK, sp]; omega)) only [prp, e_s2, e_s2n, pk_us, pk_un]
      · unfold prw; simp (disch := first | omega | (simp only [pN, pP, pM, pE, pL, pC, pK, sp]; omega)) only [pk_un]
      · simp (disch := first | omega | (simp only [pN, pP, pM, pE, pL, pC, pK, sp]; omega)) only [prp, e_s2, e_s2n, pk_us, pk_un]
      · unfold prw; simp (disch := first | omega | (simp only [pN, pP, pM, pE, pL, pC, pK, sp]; omega)) only [pk_us, pk_un]
      · simp (disch := first | omega | (simp only [pN, pP, pM, pE, pL, pC, pK, sp]; omega)) only [prp, e_s2, e_s2n, pk_us, pk_un]
      · simp (disch := first | omega | (simp only [pN, pP, pM, pE, pL, pC, pK, sp]; omega)) only [prp, e_s2, e_s2n, pk_us, pk_un]
      · simp (disch := first | omega | (simp only [pN, pP, pM, pE, pL, pC, pK, sp]; omega)) only [prp, prw, num_v, e_s2, e_s2n, pk_us, pk_un]
      · simp (disch := first | omega | (simp only [pN, pP, pM, pE, pL, pC, pK, sp]; omega)) only [prp, prw, nod_v, e_s2, e_s2n, pk_us, pk_un]
      · simp (disch := first | omega | (simp only [pN, pP, pM, pE, pL, pC, pK, sp]; omega)) only [prp, prw, e_s2, e_s2n, pk_us, pk_un]
    · simp (disch := first | omega | (simp only [pN, pP, pM, pE, pL, pC, pK, sp]; omega)) only [prp, e_s2, e_s2n, pk_us, pk_un]
      rw [h0]
      constructor
      · intro q; exact absurd q (by decide)
      · intro q; exact absurd q (by decide)
    · rw [cnt_up (σ := σ) (i := sp n m) hsp h0 (by simp (disch := first | omega | (simp only [pN, pP, pM, pE, pL, pC, pK, sp]; omega)) only [prp, e_s2, e_s2n, pk_us, pk_un]; decide) (fun j hj => by simp (disch := first | omega | (simp only [pN, pP, pM, pE, pL, pC, pK, sp]; omega)) only [prp, e_s2, e_s2n, pk_us, pk_un])]
      omega
/-- an answer -/
theorem s_ans {n f m k s : Nat} {st : Int32} (h : R0 dr tk pl N G M T B Q Dl σ ω) (hl : ∀ c, c < 36 → (Q c).length ≤ 110) (hI : rI N e Q σ) (hd : dF dr u) (hn : n < N) (hf : f < N) (hk : kA k = true) (hs : s ≤ 1) (hv : ∀ t, vK M B (t, k, m, st, nI s)) (hR0 : cN m kR (Q (6 * f + n)) = 0) (hA0 : cN m kA (Q (6 * n + f)) = 0) (hto : bt (σ 15 m) n = true) (hon : σ 27 (sp f m) ≠ NO) (hh : bt (σ 27 (sp f m)) n = false) :
    ∃ σ' d ω' Q', fX7_put (nI n) (nI f) (nI k) (nI m) st (nI s) σ pl = some (σ', d) ∧ fX12_puts (nI n) (nI f) (nI k) (nI m) (num st) (nod st) (nI s) (sq u 1 ω) = some (sq u 1 ω') ∧ R0 dr tk (pl + d) N G M T B Q' Dl σ' ω' ∧ rI N e Q' σ' ∧ fP σ σ' ∧ (Q' = Q ∨ ∃ p : Pk, nI T < p.1 ∧ Q' = uQ Q (6 * n + f) (Q (6 * n + f) ++ [p])) := by
  have h6 := h.1.1.1
  cases hnt : ntB σ f with
  | true =>
    obtain ⟨p1, p2⟩ := s_put0 (u := u) (pl := pl) (a := n) (x1 := nI k) (x2 := nI m) (x3 := st) (x4 := nI s) (y1 := nI k) (y2 := nI m) (y3 := num st) (y4 := nod st) (y5 := nI s) h.1 h.2.1 hf hnt
    exact ⟨σ, 0, ω, Q, p1, p2, h, hI, fP_rf σ, Or.inl rfl⟩
  | false =>
    obtain ⟨σ1, d1, ω1, t, p1, p2, p3, p4, p5⟩ := s_put (u := u) (a := n) (b := f) (s := s) h hl hd hn hf hs hv hnt
    refine ⟨σ1, d1, ω1, _, p1, p2, p3, ?_, p4, Or.inr ⟨_, p5, rfl⟩⟩
    exact rI_c (rI_reply hI h6 hn hf (p := (t, k, m, st, nI s)) hk hR0 hA0 hto hon hh) (fP_c p4 15 (by decide)) (fP_c p4 2 (by decide)) (fP_c p4 27 (by decide))
theorem vS_vK {m k s : Nat} {st : Int32} (hm : m < M) (hv : vS B st) (hk : k = 1 ∨ k = 4) (hs : s ≤ 1) (h1 : k = 1 → s = 0) (t : Int32) : vK M B (t, k, m, st, nI s) := by
  refine ⟨?_, hm, ⟨?_, fun z => ?_⟩, fun z => ?_, fun _ => hv⟩
  · show k ≤ 4; omega
  · show nI s = nI 0 ∨ nI s = nI 1
    rcases (show s = 0 ∨ s = 1 by omega) with rfl | rfl
    · exact Or.inl rfl
    · exact Or.inr rfl
  · show nI s = nI 0
    have z : k ≠ 4 := z
    rw [h1 (by omega)]
  · have z : k = 0 ∨ k = 3 := z
    omega
/-- a request is heard -/
theorem h_req {n f m : Nat} (h : R0 dr tk pl N G M T B Q Dl σ ω) (hl : ∀ c, c < 36 → (Q c).length ≤ 110) (hI : rI N e Q σ) (hd : dF dr u) (hn : n < N) (hf : f < N) (hm : m < M) (hR0 : cN m kR (Q (6 * f + n)) = 0) (hA0 : cN m kA (Q (6 * n + f)) = 0) (hto : bt (σ 15 m) n = true) (hon : σ 27 (sp f m) ≠ NO) (hh : bt (σ 27 (sp f m)) n = false) {x5 x6 : Int32} :
    ∃ σ' d ω' Q' B', fX7_hear (nI f) (nI n) (nI 0) (nI m) x5 x6 σ pl = some (σ', d) ∧ fX12_hearsRequest (nI n) (nI f) (nI m) (sq u 1 ω) = some (sq u 1 ω') ∧ R0 dr tk (pl + d) N G M T B' Q' Dl σ' ω' ∧ rI N e Q' σ' ∧ fc [0, 3, 4, 5, 8, 9, 10, 11, 12, 16, 18, 20, 21, 22, 27, 28, 29] σ σ' ∧ (Q' = Q ∨ ∃ p : Pk, nI T < p.1 ∧ Q' = uQ Q (6 * n + f) (Q (6 * n + f) ++ [p])) := by
  have h6 := h.1.1.1
  have hM20 := h.1.1.2.2.1
  have hB := h.2.2.2.2.2.2.2.2.2.2
  have hB2 := cnt_le (σ := σ)
  have hsp : sp n m < 120 := by unfold sp; omega
  obtain ⟨⟨k, k1, k2, k3, -⟩, -⟩ := h.2.2.1 n m (by omega) (by omega)
  by_cases hk : k = 0
  · subst hk
    obtain ⟨a, ha, p1, p2, p3⟩ := s_prop (u := u) h hl hn hm hf k2
    have c1 : fc [3, 20, 21, 22] σ (s2 (prp σ n m a) 22 (sp n m) (nI f)) := fc_tr (fc_tr (fc_tr (fc_s2 _ _ _ _) (fc_s2 _ _ _ _)) (fc_s2 _ _ _ _)) (fc_s2 _ _ _ _)
    obtain ⟨σ', d, ω', Q', q1, q2, q3, q4, q5, q6⟩ := s_ans (u := u) (n := n) (f := f) (m := m) (k := 1) (s := 0) (st := nI (8 * (a + 1) + n)) p3 hl (rI_c hI (c1 15 (by decide)) (c1 2 (by decide)) (c1 27 (by decide))) hd hn hf rfl (by omega) (fun t => vS_vK hm ⟨a + 1, n, by omega, by omega, rfl⟩ (by omega) (by omega) (by omega) t) hR0 hA0 (by rw [c1 15 (by decide)]; exact hto) (by rw [c1 27 (by decide)]; exact hon) (by rw [c1 27 (by decide)]; exact hh)
    refine ⟨σ', d, ω', Q', B + 1, ?_, ?_, q3, q4, fc_wk (fc_tr c1 (fP_c q5)) (by decide), q6⟩
    · have e1 : s2 (prp σ n m a) 22 (sp n m) (nI f) 21 (sp n m) = nI (8 * (a + 1) + n) := by simp (disch := first | omega | (simp only [pN, pP, pM, pE, pL, pC, pK, sp]; omega)) only [prp, e_s2, e_s2n, pk_us, pk_un]
      simp (disch := first | omega | (simp only [pN, pP, pM, pE, pL, pC, pK, sp]; omega)) only [u_fX7_hear, u_fX7_hear_0, k2, p1, e1, q1, Nat.add_zero, e_T, e_F, e_bnd, e_obr, e_obd, e_obt, e_addB, e_addA, e_in, e_cl, e_leT, e_leF, e_ltT, e_ltF, e_eqT, e_eqF, e_NOT, e_NOF, nI_add, pk_mul, k_spot, k_chan, m_node, m_pair, m_msg, m_chan, m_pack, e_w, e_wn, e_ws]
    · rw [num_v (by omega) (by omega), nod_v (by omega) (by omega)] at q2
      have e1 : prw ω n m f a (pP n m 1) = nI (a + 1) := by unfold prw; simp (disch := first | omega | (simp only [pN, pP, pM, pE, pL, pC, pK, sp]; omega)) only [pk_us, pk_un]
      simp (disch := first | omega | (simp only [pN, pP, pM, pE, pL, pC, pK, sp]; omega)) only [u_fX12_hearsRequest, u_fX12_hearsRequest_0, m_ofPair, k3, p2, e1, q2, e_T, e_F, e_bnd, e_obr, e_obd, e_obt, e_addB, e_addA, e_in, e_cl, e_leT, e_leF, e_ltT, e_ltF, e_eqT, e_eqF, e_NOT, e_NOF, nI_add, pk_mul, k_spot, k_chan, m_node, m_pair, m_msg, m_chan, m_pack, e_w, e_wn, e_ws]
  · refine ⟨σ, 0, ω, Q, B, ?_, ?_, h, hI, fc_rf _ _, Or.inl rfl⟩
    · simp (disch := first | omega | (simp only [pN, pP, pM, pE, pL, pC, pK, sp]; omega)) only [u_fX7_hear, u_fX7_hear_0, k2, e_T, e_F, e_bnd, e_obr, e_obd, e_obt, e_addB, e_addA, e_in, e_cl, e_leT, e_leF, e_ltT, e_ltF, e_eqT, e_eqF, e_NOT, e_NOF, nI_add, pk_mul, k_spot, k_chan, m_node, m_pair, m_msg, m_chan, m_pack, e_w, e_wn, e_ws]
    · simp (disch := first | omega | (simp only [pN, pP, pM, pE, pL, pC, pK, sp]; omega)) only [u_fX12_hearsRequest, u_fX12_hearsRequest_0, m_ofPair, k3, e_T, e_F, e_bnd, e_obr, e_obd, e_obt, e_addB, e_addA, e_in, e_cl, e_leT, e_leF, e_ltT, e_ltF, e_eqT, e_eqF, e_NOT, e_NOF, nI_add, pk_mul, k_spot, k_chan, m_node, m_pair, m_msg, m_chan, m_pack, e_w, e_wn, e_ws]
/-- one who takes over is heard -/
theorem h_take {n f m : Nat} (h : R0 dr tk pl N G M T B Q Dl σ ω) (hl : ∀ c, c < 36 → (Q c).length ≤ 110) (hI : rI N e Q σ) (hd : dF dr u) (hn : n < N) (hf : f < N) (hm : m < M) (hR0 : cN m kR (Q (6 * f + n)) = 0) (hA0 : cN m kA (Q (6 * n + f)) = 0) (hto : bt (σ 15 m) n = true) (hon : σ 27 (sp f m) ≠ NO) (hh : bt (σ 27 (sp f m)) n = false) {x5 x6 : Int32} :
    ∃ σ' d ω' Q' B', fX7_hear (nI f) (nI n) (nI 3) (nI m) x5 x6 σ pl = some (σ', d) ∧ fX12_hearsTake (nI n) (nI f) (nI m) (sq u 1 ω) = some (sq u 1 ω') ∧ R0 dr tk (pl + d) N G M T B' Q' Dl σ' ω' ∧ rI N e Q' σ' ∧ fc [0, 3, 4, 5, 8, 9, 10, 11, 12, 16, 18, 20, 21, 22, 27, 28, 29] σ σ' ∧ (Q' = Q ∨ ∃ p : Pk, nI T < p.1 ∧ Q' = uQ Q (6 * n + f) (Q (6 * n + f) ++ [p])) := by
  have h6 := h.1.1.1
  have hM20 := h.1.1.2.2.1
  have hB := h.2.2.2.2.2.2.2.2.2.2
  have hB2 := cnt_le (σ := σ)
  have hsp : sp n m < 120 := by unfold sp; omega
  have hp := h.2.2.1 n m (by omega) (by omega)
  obtain ⟨⟨k, k1, k2, k3, k4, k5⟩, ⟨s1, s2', s3⟩, l1, -⟩ := h.2.2.1 n m (by omega) (by omega)
  by_cases hk : k = 0
  · subst hk
    obtain ⟨a, ha, p1, p2, p3⟩ := s_prop (u := u) h hl hn hm hf k2
    have c1 : fc [3, 20, 21, 22] σ (s2 (prp σ n m a) 22 (sp n m) (nI f)) := fc_tr (fc_tr (fc_tr (fc_s2 _ _ _ _) (fc_s2 _ _ _ _)) (fc_s2 _ _ _ _)) (fc_s2 _ _ _ _)
    obtain ⟨σ', d, ω', Q', q1, q2, q3, q4, q5, q6⟩ := s_ans (u := u) (n := n) (f := f) (m := m) (k := 4) (s := 0) (st := nI (8 * (a + 1) + n)) p3 hl (rI_c hI (c1 15 (by decide)) (c1 2 (by decide)) (c1 27 (by decide))) hd hn hf rfl (by omega) (fun t => vS_vK hm ⟨a + 1, n, by omega, by omega, rfl⟩ (by omega) (by omega) (by omega) t) hR0 hA0 (by rw [c1 15 (by decide)]; exact hto) (by rw [c1 27 (by decide)]; exact hon) (by rw [c1 27 (by decide)]; exact hh)
    refine ⟨σ', d, ω', Q', B + 1, ?_, ?_, q3, q4, fc_wk (fc_tr c1 (fP_c q5)) (by decide), q6⟩
    · have e1 : s2 (prp σ n m a) 22 (sp n m) (nI f) 21 (sp n m) = nI (8 * (a + 1) + n) := by simp (disch := first | omega | (simp only [pN, pP, pM, pE, pL, pC, pK, sp]; omega)) only [prp, e_s2, e_s2n, pk_us, pk_un]
      have e2 : s2 (prp σ n m a) 22 (sp n m) (nI f) 20 (sp n m) = nI 1 := by simp (disch := first | omega | (simp only [pN, pP, pM, pE, pL, pC, pK, sp]; omega)) only [prp, e_s2, e_s2n, pk_us, pk_un]
      simp (disch := first | omega | (simp only [pN, pP, pM, pE, pL, pC, pK, sp]; omega)) only [u_fX7_hear, u_fX7_hear_0, u_fX7_hear_114, u_fX7_hear_160, k2, p1, e1, e2, q1, Nat.add_zero, e_T, e_F, e_bnd, e_obr, e_obd, e_obt, e_addB, e_addA, e_in, e_cl, e_leT, e_leF, e_ltT, e_ltF, e_eqT, e_eqF, e_NOT, e_NOF, nI_add, pk_mul, k_spot, k_chan, m_node, m_pair, m_msg, m_chan, m_pack, e_w, e_wn, e_ws]
    · rw [num_v (by omega) (by omega), nod_v (by omega) (by omega)] at q2
      have e0 : upd (prw ω n m f a) (pP n m 3) (nI f) = prw ω n m f a := by
        funext i
        by_cases hi : i = pP n m 3
        · subst hi; rw [pk_us]; unfold prw; rw [pk_us]
        · rw [pk_un hi]
      have e1 : prw ω n m f a (pP n m 1) = nI (a + 1) := by unfold prw; simp (disch := first | omega | (simp only [pN, pP, pM, pE, pL, pC, pK, sp]; omega)) only [pk_us, pk_un]
      have e2 : prw ω n m f a (pP n m 2) = nI n := by unfold prw; simp (disch := first | omega | (simp only [pN, pP, pM, pE, pL, pC, pK, sp]; omega)) only [pk_us, pk_un]
      have e3 : prw ω n m f a (pP n m 0) = nI 1 := by unfold prw; simp (disch := first | omega | (simp only [pN, pP, pM, pE, pL, pC, pK, sp]; omega)) only [pk_us, pk_un]
      simp (disch := first | omega | (simp only [pN, pP, pM, pE, pL, pC, pK, sp]; omega)) only [u_fX12_hearsTake, u_fX12_hearsTake_0, u_fX12_hearsTake_17, u_fX12_hearsTake_60, m_ofPair, m_lays, k3, p2, e0, e1, e2, e3, q2, e_T, e_F, e_bnd, e_obr, e_obd, e_obt, e_addB, e_addA, e_in, e_cl, e_leT, e_leF, e_ltT, e_ltF, e_eqT, e_eqF, e_NOT, e_NOF, nI_add, pk_mul, k_spot, k_chan, m_node, m_pair, m_msg, m_chan, m_pack, e_w, e_wn, e_ws]
  · obtain ⟨k6, k7, l, k8, k9⟩ := k4 hk
    have c1 : fc [22] σ (s2 σ 22 (sp n m) (nI f)) := fc_s2 _ _ _ _
    have r1 : R0 dr tk pl N G M T B Q Dl (s2 σ 22 (sp n m) (nI f)) (upd ω (pP n m 3) (nI f)) := by
      refine R0_pair h hl (n₀ := n) (m₀ := m) (by omega) (by omega) (fc_wk c1 (by decide)) (fun q i hi => by simp only [e_s2'', hi, and_false, if_false]) (fun i hi => pk_un (hi 3 (by omega))) ?_ (by rw [c1 20 (by decide)]) (by rw [cnt_fr (σ := σ) (fun i _ => by rw [c1 20 (by decide)])]; exact hB)
      refine rP1_h hp (by rw [c1 27 (by decide)]) (by rw [c1 28 (by decide)]) (by rw [c1 29 (by decide)]) (fun w h1 h2 => pk_un (by first | omega | exact pP_pN (by omega) (by omega) (by omega) | exact (pP_pN (by omega) (by omega) (by omega)).symm | exact pP_pP (by omega) (by omega) (by omega) (by omega) (by omega) | (simp only [pN, pP, pM, pE, pL, pC, pK, sp]; omega))) ⟨k, k1, by rw [c1 20 (by decide)]; exact k2, by rw [pk_un (by first | omega | exact pP_pN (by omega) (by omega) (by omega) | exact (pP_pN (by omega) (by omega) (by omega)).symm | exact pP_pP (by omega) (by omega) (by omega) (by omega) (by omega) | (simp only [pN, pP, pM, pE, pL, pC, pK, sp]; omega))]; exact k3, fun _ => ⟨k6, k7, f, hf, by rw [e_s2, pk_us]⟩, fun z => by rw [c1 23 (by decide), pk_un (by first | omega | exact pP_pN (by omega) (by omega) (by omega) | exact (pP_pN (by omega) (by omega) (by omega)).symm | exact pP_pP (by omega) (by omega) (by omega) (by omega) (by omega) | (simp only [pN, pP, pM, pE, pL, pC, pK, sp]; omega))]; exact k5 z⟩ ⟨by rw [c1 21 (by decide)]; exact s1, by rw [c1 21 (by decide), pk_un (by first | omega | exact pP_pN (by omega) (by omega) (by omega) | exact (pP_pN (by omega) (by omega) (by omega)).symm | exact pP_pP (by omega) (by omega) (by omega) (by omega) (by omega) | (simp only [pN, pP, pM, pE, pL, pC, pK, sp]; omega))]; exact s2', by rw [c1 21 (by decide), pk_un (by first | omega | exact pP_pN (by omega) (by omega) (by omega) | exact (pP_pN (by omega) (by omega) (by omega)).symm | exact pP_pP (by omega) (by omega) (by omega) (by omega) (by omega) | (simp only [pN, pP, pM, pE, pL, pC, pK, sp]; omega))]; exact s3⟩ (by rw [e_s2, pk_us, pk_us])
    obtain ⟨σ', d, ω', Q', q1, q2, q3, q4, q5, q6⟩ := s_ans (u := u) (n := n) (f := f) (m := m) (k := 4) (s := if k = 1 then 0 else 1) (st := σ 21 (sp n m)) r1 hl (rI_c hI (c1 15 (by decide)) (c1 2 (by decide)) (c1 27 (by decide))) hd hn hf rfl (by split <;> omega) (fun t => vS_vK hm s1 (by omega) (by split <;> omega) (by omega) t) hR0 hA0 (by rw [c1 15 (by decide)]; exact hto) (by rw [c1 27 (by decide)]; exact hon) (by rw [c1 27 (by decide)]; exact hh)
    refine ⟨σ', d, ω', Q', B, ?_, ?_, q3, q4, fc_wk (fc_tr c1 (fP_c q5)) (by decide), q6⟩
    · by_cases h1 : k = 1
      · rw [if_pos h1] at q1
        subst h1
        simp (disch := first | omega | (simp only [pN, pP, pM, pE, pL, pC, pK, sp]; omega)) only [u_fX7_hear, u_fX7_hear_0, u_fX7_hear_114, u_fX7_hear_160, k2, q1, Nat.add_zero, e_T, e_F, e_bnd, e_obr, e_obd, e_obt, e_addB, e_addA, e_in, e_cl, e_leT, e_leF, e_ltT, e_ltF, e_eqT, e_eqF, e_NOT, e_NOF, nI_add, pk_mul, k_spot, k_chan, m_node, m_pair, m_msg, m_chan, m_pack, e_w, e_wn, e_ws, e_s2, e_s2n, pk_us, pk_un]
      · rw [if_neg h1] at q1
        simp (disch := first | omega | (simp only [pN, pP, pM, pE, pL, pC, pK, sp]; omega)) only [u_fX7_hear, u_fX7_hear_0, u_fX7_hear_114, u_fX7_hear_160, k2, q1, Nat.add_zero, e_T, e_F, e_bnd, e_obr, e_obd, e_obt, e_addB, e_addA, e_in, e_cl, e_leT, e_leF, e_ltT, e_ltF, e_eqT, e_eqF, e_NOT, e_NOF, nI_add, pk_mul, k_spot, k_chan, m_node, m_pair, m_msg, m_chan, m_pack, e_w, e_wn, e_ws, e_s2, e_s2n, pk_us, pk_un]
    · have e1 : upd ω (pP n m 3) (nI f) (pP n m 1) = num (σ 21 (sp n m)) := by rw [pk_un (by first | omega | exact pP_pN (by omega) (by omega) (by omega) | exact (pP_pN (by omega) (by omega) (by omega)).symm | exact pP_pP (by omega) (by omega) (by omega) (by omega) (by omega) | (simp only [pN, pP, pM, pE, pL, pC, pK, sp]; omega))]; exact s2'
      have e2 : upd ω (pP n m 3) (nI f) (pP n m 2) = nod (σ 21 (sp n m)) := by rw [pk_un (by first | omega | exact pP_pN (by omega) (by omega) (by omega) | exact (pP_pN (by omega) (by omega) (by omega)).symm | exact pP_pP (by omega) (by omega) (by omega) (by omega) (by omega) | (simp only [pN, pP, pM, pE, pL, pC, pK, sp]; omega))]; exact s3
      have e3 : upd ω (pP n m 3) (nI f) (pP n m 0) = nI k := by rw [pk_un (by first | omega | exact pP_pN (by omega) (by omega) (by omega) | exact (pP_pN (by omega) (by omega) (by omega)).symm | exact pP_pP (by omega) (by omega) (by omega) (by omega) (by omega) | (simp only [pN, pP, pM, pE, pL, pC, pK, sp]; omega))]; exact k3
      by_cases h1 : k = 1
      · rw [if_pos h1] at q2
        subst h1
        simp (disch := first | omega | (simp only [pN, pP, pM, pE, pL, pC, pK, sp]; omega)) only [u_fX12_hearsTake, u_fX12_hearsTake_0, u_fX12_hearsTake_17, u_fX12_hearsTake_60, m_ofPair, m_lays, k3, e1, e2, e3, q2, e_T, e_F, e_bnd, e_obr, e_obd, e_obt, e_addB, e_addA, e_in, e_cl, e_leT, e_leF, e_ltT, e_ltF, e_eqT, e_eqF, e_NOT, e_NOF, nI_add, pk_mul, k_spot, k_chan, m_node, m_pair, m_msg, m_chan, m_pack, e_w, e_wn, e_ws]
      · rw [if_neg h1] at q2
        simp (disch := first | omega | (simp only [pN, pP, pM, pE, pL, pC, pK, sp]; omega)) only [u_fX12_hearsTake, u_fX12_hearsTake_0, u_fX12_hearsTake_17, u_fX12_hearsTake_60, m_ofPair, m_lays, k3, e1, e2, e3, q2, e_T, e_F, e_bnd, e_obr, e_obd, e_obt, e_addB, e_addA, e_in, e_cl, e_leT, e_leF, e_ltT, e_ltF, e_eqT, e_eqF, e_NOT, e_NOF, nI_add, pk_mul, k_spot, k_chan, m_node, m_pair, m_msg, m_chan, m_pack, e_w, e_wn, e_ws]
end RQ
