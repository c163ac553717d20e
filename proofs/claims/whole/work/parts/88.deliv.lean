/-! the fourth part of a tick -/
theorem sumL_ge {f : Nat → Nat} {j k : Nat} (hj : j < k) : f j ≤ sumL f k := by
  have := sumL_upd (f := f) (g := fun i => if i = j then 0 else f i) (j := j) (k := k) hj (fun i _ hi => if_neg hi)
  simp only [if_true] at this
  omega
theorem lsO_cg {σ σ' : Sg} {n : Nat} : ∀ {k : Nat}, (∀ m, m < k → σ' 20 (sp n m) = σ 20 (sp n m)) → σ' 21 = σ 21 → lsO σ' n k = lsO σ n k
  | 0, _, _ => rfl
  | k + 1, h20, h21 => by
    rw [lsO_s, lsO_s, lsO_cg (fun m hm => h20 m (by omega)) h21]
    have e1 : pend σ' n k = pend σ n k := by unfold pend; rw [h20 k (by omega)]
    have e2 : ∀ o, upO σ' n k o = upO σ n k o := by
      intro o
      cases o with
      | none => rfl
      | some j => show (if σ' 21 (sp n k) < σ' 21 (sp n j) then some k else some j) = _; rw [h21]; rfl
    rw [e1, e2]
def pcn (σ : Sg) (n M : Nat) : Nat := sumL (fun m => if pend σ n m = true then 1 else 0) M
/-- what is nothing stays so -/
def kz (σ σ' : Sg) : Prop := ∀ i, σ' 20 i = nI 0 ↔ σ 20 i = nI 0
theorem kz_rf (σ : Sg) : kz σ σ := fun _ => Iff.rfl
def dnH (σ : Sg) (M n : Nat) : Prop := ∀ j, lsO σ n M = some j → σ 20 (sp n j) ≠ nI 2
section DE
variable {dr : Prop} {tk : Int32} {N G M T : Nat} {e : Nat → Nat → Nat}
theorem s_deliv {n : Nat} (hn : n < N) (he : ∀ n m, e n m ≤ 1) : ∀ (p k f f' c c' pl : Nat) (σ u : Sg) (ω : Nat → Int32) (Dl : Nat → List Nat), pcn σ n M ≤ p → k + p ≤ M → p < f → p < f' → σ 2 n = NO → RR dr tk e pl N G M T Dl σ u ω →
    ∃ t σ' ω' Dl', (∀ K4, fX7_handOutAll_14 K4 f (nI c) (nI n) (nI k) σ = K4 (nI (c + t)) (nI (n + 1)) σ') ∧ fX12_delivers_8 f' (nI n) (nI c') (oI (lsO σ n M)) (sq u 1 ω) = some (nI (c' + t), sq u 1 ω') ∧ RR dr tk e pl N G M T Dl' σ' u ω' ∧ fc [20, 23, 24, 25, 34, 35] σ σ' ∧ dnH σ' M n ∧ (∀ a m, a ≠ n → m < 20 → σ' 20 (sp a m) = σ 20 (sp a m)) ∧ (dnH σ M n → σ' = σ ∧ t = 0) ∧ kz σ σ' := by
  intro p
  induction p with
  | zero =>
    intro k f f' c c' pl σ u ω Dl hp hk hf hf' hu hR
    obtain ⟨f, rfl⟩ : ∃ g, f = g + 1 := ⟨f - 1, by omega⟩
    obtain ⟨f', rfl⟩ : ∃ g, f' = g + 1 := ⟨f' - 1, by omega⟩
    obtain ⟨Q, B, h, hI, hd⟩ := id hR
    have h6 := h.1.1.1
    have hM20 := h.1.1.2.2.1
    have z13 := h.1.2.2.2.1.1
    have hls : lsO σ n M = none := by
      rw [lsO_none]
      intro m hm
      have := sumL_ge (f := fun m => if pend σ n m = true then 1 else 0) hm
      cases hpe : pend σ n m with
      | false => rfl
      | true => simp only [hpe, if_true] at this; unfold pcn at hp; omega
    have hup := k_isUp (σ := σ) (n := n) (by omega)
    rw [show upB σ n = true from decide_eq_true hu] at hup
    refine ⟨0, σ, ω, Dl, fun K4 => ?_, ?_, hR, fc_rf _ _, (fun j hj => by rw [hls] at hj; cases hj), fun _ _ _ _ => rfl, fun _ => ⟨rfl, rfl⟩, kz_rf σ⟩
    · have kl := k_least (σ := σ) (n := n) (M := M) (by omega) hM20
      by_cases hkM : k = M
      · subst hkM
        simp (disch := first | omega | (simp only [pN, pP, pM, pE, pL, pC, pK, sp]; omega)) only [u_fX7_handOutAll_14, u_fX7_handOutAll_115, z13, Nat.add_zero, e_T, e_F, e_bnd, e_obr, e_obd, e_obt, e_addB, e_addA, e_in, e_cl, e_leT, e_leF, e_ltT, e_ltF, e_eqT, e_eqF, e_NOT, e_NOF, nI_add, pk_mul, k_spot, k_chan, m_node, m_pair, m_msg, m_chan, m_pack, e_w, e_wn, e_ws]
      · simp (disch := first | omega | (simp only [pN, pP, pM, pE, pL, pC, pK, sp]; omega)) only [u_fX7_handOutAll_14, u_fX7_handOutAll_115, z13, hup, kl, hls, oI, b2_t, Nat.add_zero, e_T, e_F, e_bnd, e_obr, e_obd, e_obt, e_addB, e_addA, e_in, e_cl, e_leT, e_leF, e_ltT, e_ltF, e_eqT, e_eqF, e_NOT, e_NOF, nI_add, pk_mul, k_spot, k_chan, m_node, m_pair, m_msg, m_chan, m_pack, e_w, e_wn, e_ws]
    · rw [hls]
      simp (disch := first | omega | (simp only [pN, pP, pM, pE, pL, pC, pK, sp]; omega)) only [u_fX12_delivers_8, oI, Nat.add_zero, e_T, e_F, e_bnd, e_obr, e_obd, e_obt, e_addB, e_addA, e_in, e_cl, e_leT, e_leF, e_ltT, e_ltF, e_eqT, e_eqF, e_NOT, e_NOF, nI_add, pk_mul, k_spot, k_chan, m_node, m_pair, m_msg, m_chan, m_pack, e_w, e_wn, e_ws]
  | succ p ih =>
    intro k f f' c c' pl σ u ω Dl hp hk hf hf' hu hR
    obtain ⟨f, rfl⟩ : ∃ g, f = g + 1 := ⟨f - 1, by omega⟩
    obtain ⟨f', rfl⟩ : ∃ g, f' = g + 1 := ⟨f' - 1, by omega⟩
    obtain ⟨Q, B, h, hI, hd⟩ := id hR
    have h6 := h.1.1.1
    have hM20 := h.1.1.2.2.1
    have z13 := h.1.2.2.2.1.1
    have hup := k_isUp (σ := σ) (n := n) (by omega)
    rw [show upB σ n = true from decide_eq_true hu] at hup
    have kl := k_least (σ := σ) (n := n) (M := M) (by omega) hM20
    have hll : ∀ c, c < 36 → (Q c).length ≤ 110 := fun c hc => Nat.le_trans (q_len h.2.2.2.2.2.2.2.2.1 hI he h6 hM20 hc) (by omega)
    cases hls : lsO σ n M with
    | none =>
      rw [hls] at kl
      refine ⟨0, σ, ω, Dl, fun K4 => ?_, ?_, hR, fc_rf _ _, (fun j hj => by rw [hls] at hj; cases hj), fun _ _ _ _ => rfl, fun _ => ⟨rfl, rfl⟩, kz_rf σ⟩
      · simp (disch := first | omega | (simp only [pN, pP, pM, pE, pL, pC, pK, sp]; omega)) only [u_fX7_handOutAll_14, u_fX7_handOutAll_115, z13, hup, kl, oI, b2_t, Nat.add_zero, e_T, e_F, e_bnd, e_obr, e_obd, e_obt, e_addB, e_addA, e_in, e_cl, e_leT, e_leF, e_ltT, e_ltF, e_eqT, e_eqF, e_NOT, e_NOF, nI_add, pk_mul, k_spot, k_chan, m_node, m_pair, m_msg, m_chan, m_pack, e_w, e_wn, e_ws]
      · simp (disch := first | omega | (simp only [pN, pP, pM, pE, pL, pC, pK, sp]; omega)) only [u_fX12_delivers_8, oI, Nat.add_zero, e_T, e_F, e_bnd, e_obr, e_obd, e_obt, e_addB, e_addA, e_in, e_cl, e_leT, e_leF, e_ltT, e_ltF, e_eqT, e_eqF, e_NOT, e_NOF, nI_add, pk_mul, k_spot, k_chan, m_node, m_pair, m_msg, m_chan, m_pack, e_w, e_wn, e_ws]
    | some j =>
      rw [hls] at kl
      obtain ⟨hj, hpj⟩ := lsO_some hls
      have hsp : sp n j < 120 := by unfold sp; omega
      obtain ⟨⟨kk, k1, k2, k3, -⟩, -⟩ := h.2.2.1 n j (by omega) (by omega)
      have hk12 : kk = 1 ∨ kk = 2 := by
        have := pend_k k1 k2
        rw [hpj] at this
        simpa using this.symm
      rcases hk12 with rfl | rfl
      · refine ⟨0, σ, ω, Dl, fun K4 => ?_, ?_, hR, fc_rf _ _, fun i hi => ?_, fun _ _ _ _ => rfl, fun _ => ⟨rfl, rfl⟩, kz_rf σ⟩
        · simp (disch := first | omega | (simp only [pN, pP, pM, pE, pL, pC, pK, sp]; omega)) only [u_fX7_handOutAll_14, u_fX7_handOutAll_115, z13, hup, kl, oI, k2, b2_t, Nat.add_zero, e_T, e_F, e_bnd, e_obr, e_obd, e_obt, e_addB, e_addA, e_in, e_cl, e_leT, e_leF, e_ltT, e_ltF, e_eqT, e_eqF, e_NOT, e_NOF, nI_add, pk_mul, k_spot, k_chan, m_node, m_pair, m_msg, m_chan, m_pack, e_w, e_wn, e_ws]
        · simp (disch := first | omega | (simp only [pN, pP, pM, pE, pL, pC, pK, sp]; omega)) only [u_fX12_delivers_8, oI, m_ofPair, k3, Nat.add_zero, e_T, e_F, e_bnd, e_obr, e_obd, e_obt, e_addB, e_addA, e_in, e_cl, e_leT, e_leF, e_ltT, e_ltF, e_eqT, e_eqF, e_NOT, e_NOF, nI_add, pk_mul, k_spot, k_chan, m_node, m_pair, m_msg, m_chan, m_pack, e_w, e_wn, e_ws]
        · rw [hls] at hi; cases hi; rw [k2]; decide
      · obtain ⟨hL, g1, g2, g3⟩ := s_hand h hll (show n < N from hn) hj k2
        obtain ⟨σ2, ω2, l1, l2, l3, l4, l5⟩ := s_log (u := u) (nI n) (nI 1) (nI j) g3 hll
        have ch : fc [20, 23, 24, 25] σ (hdS σ n j (Dl n).length) := fc_tr (fc_tr (fc_tr (fc_s2 _ _ _ _) (fc_s2 _ _ _ _)) (fc_s2 _ _ _ _)) (fc_s2 _ _ _ _)
        have c2 : fc [20, 23, 24, 25, 34, 35] σ σ2 := fc_tr ch l4
        have e20 : σ2 20 = upd (σ 20) (sp n j) (nI 3) := by
          rw [l4 20 (by decide)]; unfold hdS; simp (disch := first | omega | (simp only [pN, pP, pM, pE, pL, pC, pK, sp]; omega)) only [e_s2, e_s2n, pk_us, pk_un]
        have hI2 := rI_c hI (c2 15 (by decide)) (c2 2 (by decide)) (c2 27 (by decide))
        have hpc : pcn σ2 n M ≤ p := by
          have := sumL_upd (f := fun m => if pend σ n m = true then 1 else 0) (g := fun m => if pend σ2 n m = true then 1 else 0) (j := j) (k := M) hj (fun i hi hne => by
            have : pend σ2 n i = pend σ n i := by
              unfold pend; rw [e20, pk_un (fun q => hne (sp_inj (by omega) (by omega) q).2)]
            show (if pend σ2 n i = true then 1 else 0) = _
            rw [this])
          have e1 : pend σ2 n j = false := by unfold pend; rw [e20, pk_us]; decide
          simp only [hpj, e1, if_true] at this
          unfold pcn at hp ⊢
          simp at this
          omega
        obtain ⟨t, σ', ω', Dl', t1, t2, t3, t4, t5, t6, t7, t8⟩ := ih (k + 1) f f' (c + 1) (c' + 1) pl σ2 u ω2 _ hpc (by omega) (by omega) (by omega) (by rw [c2 2 (by decide)]; exact hu) ⟨Q, B, l3, hI2, hd⟩
        have ml := m_least (u := u) (n := n) l3 (by omega)
        refine ⟨1 + t, σ', ω', Dl', fun K4 => ?_, ?_, t3, fc_wk (fc_tr c2 t4) (by decide), t5, fun a m ha hm => ?_, fun q => absurd k2 (q j hls), fun i => (t8 i).trans ?_⟩
        · have := t1 K4
          rw [Nat.add_assoc] at this
          simp (disch := first | omega | (simp only [pN, pP, pM, pE, pL, pC, pK, sp]; omega)) only [u_fX7_handOutAll_14, u_fX7_handOutAll_115, z13, hup, kl, oI, k2, b2_t, g1, l1, this, e_T, e_F, e_bnd, e_obr, e_obd, e_obt, e_addB, e_addA, e_in, e_cl, e_leT, e_leF, e_ltT, e_ltF, e_eqT, e_eqF, e_NOT, e_NOF, nI_add, pk_mul, k_spot, k_chan, m_node, m_pair, m_msg, m_chan, m_pack, e_w, e_wn, e_ws]
        · rw [Nat.add_assoc] at t2
          unfold hdW at l2
          simp (disch := first | omega | (simp only [pN, pP, pM, pE, pL, pC, pK, sp]; omega)) only [u_fX12_delivers_8, oI, m_ofPair, m_lays, m_of, k3, g2, e_T, e_F, e_bnd, e_obr, e_obd, e_obt, e_addB, e_addA, e_in, e_cl, e_leT, e_leF, e_ltT, e_ltF, e_eqT, e_eqF, e_NOT, e_NOF, nI_add, pk_mul, k_spot, k_chan, m_node, m_pair, m_msg, m_chan, m_pack, e_w, e_wn, e_ws, pk_us, pk_un]
          rw [l2]
          simp (disch := first | omega | (simp only [pN, pP, pM, pE, pL, pC, pK, sp]; omega)) only [ml, t2, e_T, e_F, e_bnd, e_obr, e_obd, e_obt, e_addB, e_addA, e_in, e_cl, e_leT, e_leF, e_ltT, e_ltF, e_eqT, e_eqF, e_NOT, e_NOF, nI_add, pk_mul, k_spot, k_chan, m_node, m_pair, m_msg, m_chan, m_pack, e_w, e_wn, e_ws]
        · rw [t6 a m ha hm, e20, pk_un (fun q => ha (sp_inj hm (by omega) q).1)]
        · rw [e20]
          by_cases ei : i = sp n j
          · subst ei; rw [pk_us, k2]; exact ⟨fun q => absurd q (by decide), fun q => absurd q (by decide)⟩
          · rw [pk_un ei]
theorem s_handAll_lp (he : ∀ n m, e n m ≤ 1) : ∀ (r n f f' c pl : Nat) (σ u : Sg) (ω : Nat → Int32) (Dl : Nat → List Nat), n + r = N → r < f → r < f' → RR dr tk e pl N G M T Dl σ u ω →
    ∃ t σ' ω' Dl', fX7_handOutAll_4 f (nI c) (nI n) σ = some (nI t, σ') ∧ fX12_oneTick_101 f' (nI c) (nI n) (sq u 1 ω) = fX12_oneTick_133 FU (nI t) (nI 0) (sq u 1 ω') ∧ RR dr tk e pl N G M T Dl' σ' u ω' ∧ fc [20, 23, 24, 25, 34, 35] σ σ' ∧ (∀ a, n ≤ a → a < N → σ 2 a = NO → dnH σ' M a) ∧ (∀ a m, a < n → m < 20 → σ' 20 (sp a m) = σ 20 (sp a m)) ∧ ((∀ a, n ≤ a → a < N → σ 2 a = NO → dnH σ M a) → σ' = σ ∧ t = c) ∧ kz σ σ' := by
  intro r
  induction r with
  | zero =>
    intro n f f' c pl σ u ω Dl hn hf hf' hR
    obtain ⟨f, rfl⟩ : ∃ g, f = g + 1 := ⟨f - 1, by omega⟩
    obtain ⟨f', rfl⟩ : ∃ g, f' = g + 1 := ⟨f' - 1, by omega⟩
    have hn : n = N := by omega
    subst hn
    obtain ⟨Q, B, h, hI, hd⟩ := id hR
    have h6 := h.1.1.1
    have z1 := h.1.2.1.1
    have z2 := h.1.2.1.2
    refine ⟨c, σ, ω, Dl, ?_, ?_, hR, fc_rf _ _, fun a h1 h2 => by omega, fun _ _ _ _ => rfl, fun _ => ⟨rfl, rfl⟩, kz_rf σ⟩
    · simp (disch := first | omega | (simp only [pN, pP, pM, pE, pL, pC, pK, sp]; omega)) only [u_fX7_handOutAll_4, z1, e_T, e_F, e_bnd, e_obr, e_obd, e_obt, e_addB, e_addA, e_in, e_cl, e_leT, e_leF, e_ltT, e_ltF, e_eqT, e_eqF, e_NOT, e_NOF, nI_add, pk_mul, k_spot, k_chan, m_node, m_pair, m_msg, m_chan, m_pack, e_w, e_wn, e_ws]
    · simp (disch := first | omega | (simp only [pN, pP, pM, pE, pL, pC, pK, sp]; omega)) only [u_fX12_oneTick_101, m_nodes, z2, e_T, e_F, e_bnd, e_obr, e_obd, e_obt, e_addB, e_addA, e_in, e_cl, e_leT, e_leF, e_ltT, e_ltF, e_eqT, e_eqF, e_NOT, e_NOF, nI_add, pk_mul, k_spot, k_chan, m_node, m_pair, m_msg, m_chan, m_pack, e_w, e_wn, e_ws]
  | succ r ih =>
    intro n f f' c pl σ u ω Dl hn hf hf' hR
    obtain ⟨f, rfl⟩ : ∃ g, f = g + 1 := ⟨f - 1, by omega⟩
    obtain ⟨f', rfl⟩ : ∃ g, f' = g + 1 := ⟨f' - 1, by omega⟩
    obtain ⟨Q, B, h, hI, hd⟩ := id hR
    have h6 := h.1.1.1
    have hM20 := h.1.1.2.2.1
    have z1 := h.1.2.1.1
    have z2 := h.1.2.1.2
    have z13 := h.1.2.2.2.1.1
    have hup := k_isUp (σ := σ) (n := n) (by omega)
    have hup' := q_isUp (u := u) h.2.1 h.1.1.2.2.2 h6 (show n < N by omega)
    have one : ∃ t σ1 ω1 Dl1, (∀ K4, fX7_handOutAll_14 K4 FU (nI c) (nI n) (nI 0) σ = K4 (nI (c + t)) (nI (n + 1)) σ1) ∧ fX12_oneTick_101 (f' + 1) (nI c) (nI n) (sq u 1 ω) = fX12_oneTick_101 f' (nI (c + t)) (nI (n + 1)) (sq u 1 ω1) ∧ RR dr tk e pl N G M T Dl1 σ1 u ω1 ∧ fc [20, 23, 24, 25, 34, 35] σ σ1 ∧ (σ 2 n = NO → dnH σ1 M n) ∧ (∀ a m, a ≠ n → m < 20 → σ1 20 (sp a m) = σ 20 (sp a m)) ∧ ((σ 2 n = NO → dnH σ M n) → σ1 = σ ∧ t = 0) ∧ kz σ σ1 := by
      cases hu : upB σ n with
      | true =>
        rw [hu] at hup'
        have hu2 : σ 2 n = NO := by unfold upB at hu; exact of_decide_eq_true hu
        have hpc : pcn σ n M ≤ M := by
          have := sumL_le (f := fun m => if pend σ n m = true then 1 else 0) (c := 1) (k := M) (fun i _ => by show (if pend σ n i = true then 1 else 0) ≤ 1; split <;> omega)
          unfold pcn; omega
        obtain ⟨t, σ1, ω1, Dl1, t1, t2, t3, t4, t5, t6, t7, t8⟩ := s_deliv (show n < N by omega) he M 0 FU FU c 0 pl σ u ω Dl hpc (by omega) (by show M < 100000; omega) (by show M < 100000; omega) hu2 hR
        have ml := m_least (u := u) (n := n) h (by omega)
        refine ⟨t, σ1, ω1, Dl1, t1, ?_, t3, t4, fun _ => t5, t6, fun q => t7 (q hu2), t8⟩
        rw [Nat.zero_add] at t2
        simp (disch := first | omega | (simp only [pN, pP, pM, pE, pL, pC, pK, sp]; omega)) only [u_fX12_oneTick_101, u_fX12_oneTick_125, m_nodes, z2, hup', b2_t, u_fX12_delivers, u_fX12_delivers_0, ml, t2, e_T, e_F, e_bnd, e_obr, e_obd, e_obt, e_addB, e_addA, e_in, e_cl, e_leT, e_leF, e_ltT, e_ltF, e_eqT, e_eqF, e_NOT, e_NOF, nI_add, pk_mul, k_spot, k_chan, m_node, m_pair, m_msg, m_chan, m_pack, e_w, e_wn, e_ws]
      | false =>
        rw [hu] at hup hup'
        refine ⟨0, σ, ω, Dl, fun K4 => ?_, ?_, hR, fc_rf _ _, fun q => ?_, fun _ _ _ _ => rfl, fun _ => ⟨rfl, rfl⟩, kz_rf σ⟩
        · obtain ⟨k, hk⟩ : ∃ k, FU = k + 1 := ⟨99999, rfl⟩
          rw [hk]
          by_cases hM0 : M = 0
          · subst hM0
            simp (disch := first | omega | (simp only [pN, pP, pM, pE, pL, pC, pK, sp]; omega)) only [u_fX7_handOutAll_14, u_fX7_handOutAll_115, z13, Nat.add_zero, e_T, e_F, e_bnd, e_obr, e_obd, e_obt, e_addB, e_addA, e_in, e_cl, e_leT, e_leF, e_ltT, e_ltF, e_eqT, e_eqF, e_NOT, e_NOF, nI_add, pk_mul, k_spot, k_chan, m_node, m_pair, m_msg, m_chan, m_pack, e_w, e_wn, e_ws]
          · simp (disch := first | omega | (simp only [pN, pP, pM, pE, pL, pC, pK, sp]; omega)) only [u_fX7_handOutAll_14, u_fX7_handOutAll_115, z13, hup, b2_f, Nat.add_zero, e_T, e_F, e_bnd, e_obr, e_obd, e_obt, e_addB, e_addA, e_in, e_cl, e_leT, e_leF, e_ltT, e_ltF, e_eqT, e_eqF, e_NOT, e_NOF, nI_add, pk_mul, k_spot, k_chan, m_node, m_pair, m_msg, m_chan, m_pack, e_w, e_wn, e_ws]
        · simp (disch := first | omega | (simp only [pN, pP, pM, pE, pL, pC, pK, sp]; omega)) only [u_fX12_oneTick_101, u_fX12_oneTick_125, m_nodes, z2, hup', b2_f, Nat.add_zero, e_T, e_F, e_bnd, e_obr, e_obd, e_obt, e_addB, e_addA, e_in, e_cl, e_leT, e_leF, e_ltT, e_ltF, e_eqT, e_eqF, e_NOT, e_NOF, nI_add, pk_mul, k_spot, k_chan, m_node, m_pair, m_msg, m_chan, m_pack, e_w, e_wn, e_ws]
        · unfold upB at hu; rw [decide_eq_true q] at hu; cases hu
    obtain ⟨t0, σ1, ω1, Dl1, a1, a2, a3, a4, a5, a6, a7, a8⟩ := one
    obtain ⟨t, σ', ω', Dl', t1, t2, t3, t4, t5, t6, t7, t8⟩ := ih (n + 1) f f' (c + t0) pl σ1 u ω1 Dl1 (by omega) (by omega) (by omega) a3
    refine ⟨t, σ', ω', Dl', ?_, by rw [a2, t2], t3, fc_wk (fc_tr a4 t4) (by decide), fun a h1 h2 h3 => ?_, fun a m h1 h2 => ?_, fun q => ?_, fun i => (t8 i).trans (a8 i)⟩
    · simp (disch := first | omega | (simp only [pN, pP, pM, pE, pL, pC, pK, sp]; omega)) only [u_fX7_handOutAll_4, z1, a1, t1, e_T, e_F, e_bnd, e_obr, e_obd, e_obt, e_addB, e_addA, e_in, e_cl, e_leT, e_leF, e_ltT, e_ltF, e_eqT, e_eqF, e_NOT, e_NOF, nI_add, pk_mul, k_spot, k_chan, m_node, m_pair, m_msg, m_chan, m_pack, e_w, e_wn, e_ws]
    · by_cases ea : a = n
      · subst ea
        intro j hj
        rw [lsO_cg (σ := σ1) (fun m hm => t6 a m (by omega) (by omega)) (t4 21 (by decide))] at hj
        rw [t6 a j (by omega) (by have := (lsO_some hj).1; omega)]
        exact a5 h3 j hj
      · exact t5 a (by omega) h2 (by rw [a4 2 (by decide)]; exact h3)
    · rw [t6 a m (by omega) h2, a6 a m (by omega) h2]
    · obtain ⟨e1, e2⟩ := a7 (fun hu => q n (by omega) (by omega) hu)
      subst e1 e2
      exact t7 (fun a h1 h2 h3 => q a (by omega) h2 h3)
theorem s_handAll {pl : Nat} {σ u : Sg} {ω : Nat → Int32} {Dl : Nat → List Nat} (he : ∀ n m, e n m ≤ 1) (hR : RR dr tk e pl N G M T Dl σ u ω) :
    ∃ t σ' ω' Dl', fX7_handOutAll σ = some (nI t, σ') ∧ fX12_oneTick_101 FU (nI 0) (nI 0) (sq u 1 ω) = fX12_oneTick_133 FU (nI t) (nI 0) (sq u 1 ω') ∧ RR dr tk e pl N G M T Dl' σ' u ω' ∧ fc [20, 23, 24, 25, 34, 35] σ σ' ∧ (∀ a, a < N → σ 2 a = NO → dnH σ' M a) ∧ ((∀ a, a < N → σ 2 a = NO → dnH σ M a) → σ' = σ ∧ t = 0) ∧ kz σ σ' := by
  obtain ⟨Q, B, h, hI, hd⟩ := id hR
  have h6 := h.1.1.1
  obtain ⟨t, σ', ω', Dl', t1, t2, t3, t4, t5, t6, t7, t8⟩ := s_handAll_lp he N 0 FU FU 0 pl σ u ω Dl (by omega) (by show N < 100000; omega) (by show N < 100000; omega) hR
  exact ⟨t, σ', ω', Dl', t1, t2, t3, t4, fun a h1 => t5 a (by omega) h1, fun q => t7 (fun a h1 h2 => q a h2), t8⟩
end DE
