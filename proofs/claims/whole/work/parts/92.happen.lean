/-! events; ticks -/
section HP
variable {dr : Prop} {tk : Int32} {pl N G M T B : Nat} {e : Nat → Nat → Nat} {Q : Qs} {Dl : Nat → List Nat} {u σ σ' : Sg} {ω ω' : Nat → Int32}
theorem R0_evs {E l : Nat} (h : R0 dr tk pl N G M T B Q Dl σ ω) (hl : ∀ c, c < 36 → (Q c).length ≤ 110) (hE30 : σ 30 0 = nI E) (hE8 : E ≤ 8) (hlE : l ≤ E) : R0 dr tk pl N G M T B Q Dl (s2 σ 30 0 (nI l)) (upd ω 7 (nI l)) := by
  obtain ⟨hS, hN, hP, hD, hM, hE, hL, hC, hQ, hO, hB⟩ := h
  have c : fc [30] σ (s2 σ 30 0 (nI l)) := fc_s2 _ _ _ _
  have fw : ∀ i, i ≠ 7 → upd ω 7 (nI l) i = ω i := fun i hi => pk_un hi
  refine ⟨rS_fr hS (by rw [c 0 (by decide)]; exact ⟨rfl, rfl, rfl, rfl, rfl, rfl, rfl, rfl⟩) (fun g _ => by rw [c 1 (by decide)]) (by rw [c 13 (by decide)]) (fun i hi h7 h9 => fw _ (by first | omega | exact pN_pN (by omega) (by omega) (by omega) | exact pP_pN (by omega) (by omega) (by omega) | exact (pP_pN (by omega) (by omega) (by omega)).symm | exact pP_pP (by omega) (by omega) (by omega) (by omega) (by omega) | (simp only [pN, pP, pM, pE, pL, pC, pK, sp]; omega))), rN_fr hN (fun n _ => by rw [c 2 (by decide), c 3 (by decide), c 4 (by decide)]; exact ⟨rfl, rfl, rfl⟩) (fun n w hn hw => fw _ (by first | omega | exact pN_pN (by omega) (by omega) (by omega) | exact pP_pN (by omega) (by omega) (by omega) | exact (pP_pN (by omega) (by omega) (by omega)).symm | exact pP_pP (by omega) (by omega) (by omega) (by omega) (by omega) | (simp only [pN, pP, pM, pE, pL, pC, pK, sp]; omega))), rP_fr hP (fun i _ => by rw [c 20 (by decide), c 21 (by decide), c 22 (by decide), c 23 (by decide), c 27 (by decide), c 28 (by decide), c 29 (by decide)]; exact ⟨rfl, rfl, rfl, rfl, rfl, rfl, rfl⟩) (fun n m w hn hm hw => fw _ (by first | omega | exact pN_pN (by omega) (by omega) (by omega) | exact pP_pN (by omega) (by omega) (by omega) | exact (pP_pN (by omega) (by omega) (by omega)).symm | exact pP_pP (by omega) (by omega) (by omega) (by omega) (by omega) | (simp only [pN, pP, pM, pE, pL, pC, pK, sp]; omega))), rD_fr hD (fun i _ => by rw [c 20 (by decide), c 24 (by decide), c 23 (by decide)]; exact ⟨rfl, rfl, rfl⟩) (fun n m _ _ => by rw [c 17 (by decide)]) (fun n _ => by rw [c 25 (by decide)]) (fun n w hn hw h4 => fw _ (by first | omega | exact pN_pN (by omega) (by omega) (by omega) | exact pP_pN (by omega) (by omega) (by omega) | exact (pP_pN (by omega) (by omega) (by omega)).symm | exact pP_pP (by omega) (by omega) (by omega) (by omega) (by omega) | (simp only [pN, pP, pM, pE, pL, pC, pK, sp]; omega))), rM_fr hM (fun m _ => by rw [c 14 (by decide), c 15 (by decide), c 16 (by decide), c 17 (by decide), c 18 (by decide)]; exact ⟨rfl, rfl, rfl, rfl, rfl⟩) (fun m w hm hw => fw _ (by first | omega | exact pN_pN (by omega) (by omega) (by omega) | exact pP_pN (by omega) (by omega) (by omega) | exact (pP_pN (by omega) (by omega) (by omega)).symm | exact pP_pP (by omega) (by omega) (by omega) (by omega) (by omega) | (simp only [pN, pP, pM, pE, pL, pC, pK, sp]; omega))), ?_, rL_fr hL (by rw [c 34 (by decide)]; exact ⟨rfl, rfl⟩) (fun i _ => by rw [c 35 (by decide)]) (fw _ (by first | omega | exact pN_pN (by omega) (by omega) (by omega) | exact pP_pN (by omega) (by omega) (by omega) | exact (pP_pN (by omega) (by omega) (by omega)).symm | exact pP_pP (by omega) (by omega) (by omega) (by omega) (by omega) | (simp only [pN, pP, pM, pE, pL, pC, pK, sp]; omega))) (fun k w hk hw => fw _ (by first | omega | exact pN_pN (by omega) (by omega) (by omega) | exact pP_pN (by omega) (by omega) (by omega) | exact (pP_pN (by omega) (by omega) (by omega)).symm | exact pP_pP (by omega) (by omega) (by omega) (by omega) (by omega) | (simp only [pN, pP, pM, pE, pL, pC, pK, sp]; omega))), rC_fr hC (fun x hx => Nat.le_trans (hl x hx) (by omega)) (fun x _ => by rw [c 6 (by decide), c 7 (by decide), c 8 (by decide)]; exact ⟨rfl, rfl, rfl⟩) (fun x w hx hw => fw _ (by first | omega | exact pN_pN (by omega) (by omega) (by omega) | exact pP_pN (by omega) (by omega) (by omega) | exact (pP_pN (by omega) (by omega) (by omega)).symm | exact pP_pP (by omega) (by omega) (by omega) (by omega) (by omega) | (simp only [pN, pP, pM, pE, pL, pC, pK, sp]; omega))), hQ, rO_fr hO (by rw [c 5 (by decide)]; exact ⟨rfl, rfl⟩) (fun x _ => by rw [c 9 (by decide), c 11 (by decide), c 12 (by decide)]; exact ⟨rfl, rfl, rfl⟩) (fun i _ => by rw [c 10 (by decide)]), (by rw [cnt_fr (σ := σ) (fun i _ => by rw [c 20 (by decide)])]; exact hB)⟩
  obtain ⟨E', e1, e2, e3, e4⟩ := hE
  have : E' = E := (nI_eq (by omega) (by omega)).mp (e2.symm.trans hE30)
  subst this
  refine ⟨l, by omega, by rw [e_s2, pk_us], pk_us, fun k hk => ?_⟩
  rw [c 31 (by decide), c 32 (by decide), c 33 (by decide), fw (pE k 0) (by first | omega | exact pN_pN (by omega) (by omega) (by omega) | exact pP_pN (by omega) (by omega) (by omega) | exact (pP_pN (by omega) (by omega) (by omega)).symm | exact pP_pP (by omega) (by omega) (by omega) (by omega) (by omega) | (simp only [pN, pP, pM, pE, pL, pC, pK, sp]; omega)), fw (pE k 1) (by first | omega | exact pN_pN (by omega) (by omega) (by omega) | exact pP_pN (by omega) (by omega) (by omega) | exact (pP_pN (by omega) (by omega) (by omega)).symm | exact pP_pP (by omega) (by omega) (by omega) (by omega) (by omega) | (simp only [pN, pP, pM, pE, pL, pC, pK, sp]; omega)), fw (pE k 2) (by first | omega | exact pN_pN (by omega) (by omega) (by omega) | exact pP_pN (by omega) (by omega) (by omega) | exact (pP_pN (by omega) (by omega) (by omega)).symm | exact pP_pP (by omega) (by omega) (by omega) (by omega) (by omega) | (simp only [pN, pP, pM, pE, pL, pC, pK, sp]; omega)), fw (pE k 3) (by first | omega | exact pN_pN (by omega) (by omega) (by omega) | exact pP_pN (by omega) (by omega) (by omega) | exact (pP_pN (by omega) (by omega) (by omega)).symm | exact pP_pP (by omega) (by omega) (by omega) (by omega) (by omega) | (simp only [pN, pP, pM, pE, pL, pC, pK, sp]; omega))]
  exact e4 k (by omega)
def mvS (σ : Sg) (i l : Nat) : Sg := s2 (s2 (s2 σ 31 l (σ 31 i)) 32 l (σ 32 i)) 33 l (σ 33 i)
def mvW (ω : Nat → Int32) (i l : Nat) : Nat → Int32 := upd (upd (upd (upd ω (1587 + 4 * l + 0) (ω (1587 + 4 * i + 0))) (1587 + 4 * l + 1) (ω (1587 + 4 * i + 1))) (1587 + 4 * l + 2) (ω (1587 + 4 * i + 2))) (1587 + 4 * l + 3) (ω (1587 + 4 * i + 3))
theorem R0_move {E i l : Nat} (h : R0 dr tk pl N G M T B Q Dl σ ω) (hl : ∀ c, c < 36 → (Q c).length ≤ 110) (hE30 : σ 30 0 = nI E) (hE8 : E ≤ 8) (hi : i < E) (hli : l ≤ i) : R0 dr tk pl N G M T B Q Dl (mvS σ i l) (mvW ω i l) := by
  obtain ⟨hS, hN, hP, hD, hM, hE, hL, hC, hQ, hO, hB⟩ := h
  have c : fc [31, 32, 33] σ (mvS σ i l) := fc_tr (fc_tr (fc_s2 _ _ _ _) (fc_s2 _ _ _ _)) (fc_s2 _ _ _ _)
  have fw : ∀ j, (∀ w, w < 4 → j ≠ pE l w) → mvW ω i l j = ω j := fun j hj => by
    have z0 : j ≠ 1587 + 4 * l + 0 := hj 0 (by omega)
    have z1 : j ≠ 1587 + 4 * l + 1 := hj 1 (by omega)
    have z2 : j ≠ 1587 + 4 * l + 2 := hj 2 (by omega)
    have z3 : j ≠ 1587 + 4 * l + 3 := hj 3 (by omega)
    unfold mvW; rw [pk_un z3, pk_un z2, pk_un z1, pk_un z0]
  refine ⟨rS_fr hS (by rw [c 0 (by decide)]; exact ⟨rfl, rfl, rfl, rfl, rfl, rfl, rfl, rfl⟩) (fun g _ => by rw [c 1 (by decide)]) (by rw [c 13 (by decide)]) (fun i hi h7 h9 => fw _ (fun w hw => (by first | omega | exact pN_pN (by omega) (by omega) (by omega) | exact pP_pN (by omega) (by omega) (by omega) | exact (pP_pN (by omega) (by omega) (by omega)).symm | exact pP_pP (by omega) (by omega) (by omega) (by omega) (by omega) | (simp only [pN, pP, pM, pE, pL, pC, pK, sp]; omega)))), rN_fr hN (fun n _ => by rw [c 2 (by decide), c 3 (by decide), c 4 (by decide)]; exact ⟨rfl, rfl, rfl⟩) (fun n w hn hw => fw _ (fun w hw => (by first | omega | exact pN_pN (by omega) (by omega) (by omega) | exact pP_pN (by omega) (by omega) (by omega) | exact (pP_pN (by omega) (by omega) (by omega)).symm | exact pP_pP (by omega) (by omega) (by omega) (by omega) (by omega) | (simp only [pN, pP, pM, pE, pL, pC, pK, sp]; omega)))), rP_fr hP (fun i _ => by rw [c 20 (by decide), c 21 (by decide), c 22 (by decide), c 23 (by decide), c 27 (by decide), c 28 (by decide), c 29 (by decide)]; exact ⟨rfl, rfl, rfl, rfl, rfl, rfl, rfl⟩) (fun n m w hn hm hw => fw _ (fun w hw => (by first | omega | exact pN_pN (by omega) (by omega) (by omega) | exact pP_pN (by omega) (by omega) (by omega) | exact (pP_pN (by omega) (by omega) (by omega)).symm | exact pP_pP (by omega) (by omega) (by omega) (by omega) (by omega) | (simp only [pN, pP, pM, pE, pL, pC, pK, sp]; omega)))), rD_fr hD (fun i _ => by rw [c 20 (by decide), c 24 (by decide), c 23 (by decide)]; exact ⟨rfl, rfl, rfl⟩) (fun n m _ _ => by rw [c 17 (by decide)]) (fun n _ => by rw [c 25 (by decide)]) (fun n w hn hw h4 => fw _ (fun w hw => (by first | omega | exact pN_pN (by omega) (by omega) (by omega) | exact pP_pN (by omega) (by omega) (by omega) | exact (pP_pN (by omega) (by omega) (by omega)).symm | exact pP_pP (by omega) (by omega) (by omega) (by omega) (by omega) | (simp only [pN, pP, pM, pE, pL, pC, pK, sp]; omega)))), rM_fr hM (fun m _ => by rw [c 14 (by decide), c 15 (by decide), c 16 (by decide), c 17 (by decide), c 18 (by decide)]; exact ⟨rfl, rfl, rfl, rfl, rfl⟩) (fun m w hm hw => fw _ (fun w hw => (by first | omega | exact pN_pN (by omega) (by omega) (by omega) | exact pP_pN (by omega) (by omega) (by omega) | exact (pP_pN (by omega) (by omega) (by omega)).symm | exact pP_pP (by omega) (by omega) (by omega) (by omega) (by omega) | (simp only [pN, pP, pM, pE, pL, pC, pK, sp]; omega)))), ?_, rL_fr hL (by rw [c 34 (by decide)]; exact ⟨rfl, rfl⟩) (fun i _ => by rw [c 35 (by decide)]) (fw _ (fun w hw => (by first | omega | exact pN_pN (by omega) (by omega) (by omega) | exact pP_pN (by omega) (by omega) (by omega) | exact (pP_pN (by omega) (by omega) (by omega)).symm | exact pP_pP (by omega) (by omega) (by omega) (by omega) (by omega) | (simp only [pN, pP, pM, pE, pL, pC, pK, sp]; omega)))) (fun k w hk hw => fw _ (fun w hw => (by first | omega | exact pN_pN (by omega) (by omega) (by omega) | exact pP_pN (by omega) (by omega) (by omega) | exact (pP_pN (by omega) (by omega) (by omega)).symm | exact pP_pP (by omega) (by omega) (by omega) (by omega) (by omega) | (simp only [pN, pP, pM, pE, pL, pC, pK, sp]; omega)))), rC_fr hC (fun x hx => Nat.le_trans (hl x hx) (by omega)) (fun x _ => by rw [c 6 (by decide), c 7 (by decide), c 8 (by decide)]; exact ⟨rfl, rfl, rfl⟩) (fun x w hx hw => fw _ (fun w hw => (by first | omega | exact pN_pN (by omega) (by omega) (by omega) | exact pP_pN (by omega) (by omega) (by omega) | exact (pP_pN (by omega) (by omega) (by omega)).symm | exact pP_pP (by omega) (by omega) (by omega) (by omega) (by omega) | (simp only [pN, pP, pM, pE, pL, pC, pK, sp]; omega)))), hQ, rO_fr hO (by rw [c 5 (by decide)]; exact ⟨rfl, rfl⟩) (fun x _ => by rw [c 9 (by decide), c 11 (by decide), c 12 (by decide)]; exact ⟨rfl, rfl, rfl⟩) (fun i _ => by rw [c 10 (by decide)]), (by rw [cnt_fr (σ := σ) (fun i _ => by rw [c 20 (by decide)])]; exact hB)⟩
  obtain ⟨E', e1, e2, e3, e4⟩ := hE
  have : E' = E := (nI_eq (by omega) (by omega)).mp (e2.symm.trans hE30)
  subst this
  refine ⟨E', e1, by rw [c 30 (by decide)]; exact e2, by rw [fw _ (fun w hw => (by first | omega | exact pN_pN (by omega) (by omega) (by omega) | exact pP_pN (by omega) (by omega) (by omega) | exact (pP_pN (by omega) (by omega) (by omega)).symm | exact pP_pP (by omega) (by omega) (by omega) (by omega) (by omega) | (simp only [pN, pP, pM, pE, pL, pC, pK, sp]; omega)))]; exact e3, fun k hk => ?_⟩
  by_cases ek : k = l
  · subst ek
    have v : ∀ w, w < 4 → mvW ω i k (pE k w) = ω (pE i w) := fun w hw => by
      unfold mvW pE
      rcases (show w = 0 ∨ w = 1 ∨ w = 2 ∨ w = 3 by omega) with rfl | rfl | rfl | rfl <;> simp (disch := omega) only [pk_us, pk_un]
    have s31 : mvS σ i k 31 k = σ 31 i := by unfold mvS; simp (disch := first | omega | (simp only [pN, pP, pM, pE, pL, pC, pK, sp]; omega)) only [e_s2, e_s2n, pk_us, pk_un]
    have s32 : mvS σ i k 32 k = σ 32 i := by unfold mvS; simp (disch := first | omega | (simp only [pN, pP, pM, pE, pL, pC, pK, sp]; omega)) only [e_s2, e_s2n, pk_us, pk_un]
    have s33 : mvS σ i k 33 k = σ 33 i := by unfold mvS; simp (disch := first | omega | (simp only [pN, pP, pM, pE, pL, pC, pK, sp]; omega)) only [e_s2, e_s2n, pk_us, pk_un]
    rw [s31, s32, s33, v 0 (by omega), v 1 (by omega), v 2 (by omega), v 3 (by omega)]
    exact e4 i hi
  · have s31 : mvS σ i l 31 k = σ 31 k := by unfold mvS; simp (disch := first | omega | (simp only [pN, pP, pM, pE, pL, pC, pK, sp]; omega)) only [e_s2, e_s2n, pk_us, pk_un]
    have s32 : mvS σ i l 32 k = σ 32 k := by unfold mvS; simp (disch := first | omega | (simp only [pN, pP, pM, pE, pL, pC, pK, sp]; omega)) only [e_s2, e_s2n, pk_us, pk_un]
    have s33 : mvS σ i l 33 k = σ 33 k := by unfold mvS; simp (disch := first | omega | (simp only [pN, pP, pM, pE, pL, pC, pK, sp]; omega)) only [e_s2, e_s2n, pk_us, pk_un]
    rw [s31, s32, s33, fw (pE k 0) (fun w hw => (by first | omega | exact pN_pN (by omega) (by omega) (by omega) | exact pP_pN (by omega) (by omega) (by omega) | exact (pP_pN (by omega) (by omega) (by omega)).symm | exact pP_pP (by omega) (by omega) (by omega) (by omega) (by omega) | (simp only [pN, pP, pM, pE, pL, pC, pK, sp]; omega))), fw (pE k 1) (fun w hw => (by first | omega | exact pN_pN (by omega) (by omega) (by omega) | exact pP_pN (by omega) (by omega) (by omega) | exact (pP_pN (by omega) (by omega) (by omega)).symm | exact pP_pP (by omega) (by omega) (by omega) (by omega) (by omega) | (simp only [pN, pP, pM, pE, pL, pC, pK, sp]; omega))), fw (pE k 2) (fun w hw => (by first | omega | exact pN_pN (by omega) (by omega) (by omega) | exact pP_pN (by omega) (by omega) (by omega) | exact (pP_pN (by omega) (by omega) (by omega)).symm | exact pP_pP (by omega) (by omega) (by omega) (by omega) (by omega) | (simp only [pN, pP, pM, pE, pL, pC, pK, sp]; omega))), fw (pE k 3) (fun w hw => (by first | omega | exact pN_pN (by omega) (by omega) (by omega) | exact pP_pN (by omega) (by omega) (by omega) | exact (pP_pN (by omega) (by omega) (by omega)).symm | exact pP_pP (by omega) (by omega) (by omega) (by omega) (by omega) | (simp only [pN, pP, pM, pE, pL, pC, pK, sp]; omega)))]
    exact e4 k hk
theorem k_canStart {n : Nat} (hn : n < 6) (hM : M ≤ 20) (z13 : σ 13 0 = nI M) : fX7_canStart (nI n) σ = some (b2 (upB σ n && decide (M < 20))) := by
  have hup := k_isUp (σ := σ) (n := n) hn
  cases hu : upB σ n with
  | false =>
    rw [hu] at hup
    simp (disch := first | omega | (simp only [pN, pP, pM, pE, pL, pC, pK, sp]; omega)) only [u_fX7_canStart, u_fX7_canStart_0, hup, b2_f, Bool.false_and, e_T, e_F, e_bnd, e_obr, e_obd, e_obt, e_addB, e_addA, e_in, e_cl, e_leT, e_leF, e_ltT, e_ltF, e_eqT, e_eqF, e_NOT, e_NOF, nI_add, pk_mul, k_spot, k_chan, m_node, m_pair, m_msg, m_chan, m_pack, e_w, e_wn, e_ws]
  | true =>
    rw [hu] at hup
    by_cases h20 : M < 20
    · simp (disch := first | omega | (simp only [pN, pP, pM, pE, pL, pC, pK, sp]; omega)) only [u_fX7_canStart, u_fX7_canStart_0, hup, z13, b2_t, e_T, e_F, e_bnd, e_obr, e_obd, e_obt, e_addB, e_addA, e_in, e_cl, e_leT, e_leF, e_ltT, e_ltF, e_eqT, e_eqF, e_NOT, e_NOF, nI_add, pk_mul, k_spot, k_chan, m_node, m_pair, m_msg, m_chan, m_pack, e_w, e_wn, e_ws]
      rw [decide_eq_true h20]; rfl
    · simp (disch := first | omega | (simp only [pN, pP, pM, pE, pL, pC, pK, sp]; omega)) only [u_fX7_canStart, u_fX7_canStart_0, hup, z13, b2_t, e_T, e_F, e_bnd, e_obr, e_obd, e_obt, e_addB, e_addA, e_in, e_cl, e_leT, e_leF, e_ltT, e_ltF, e_eqT, e_eqF, e_NOT, e_NOF, nI_add, pk_mul, k_spot, k_chan, m_node, m_pair, m_msg, m_chan, m_pack, e_w, e_wn, e_ws]
      rw [decide_eq_false h20]; rfl
theorem s_happen_lp {E : Nat} (hE8 : E ≤ 8) : ∀ (r i l f f' pl M : Nat) (σ : Sg) (ω : Nat → Int32), i + r = E → l ≤ i → r < f → r < f' → RR dr tk (fun _ _ => 0) pl N G M T Dl σ u ω → σ 30 0 = nI E →
    ∃ σ' d ω' M', fX7_happen_4 f (nI l) (nI i) σ pl = some (σ', d) ∧ fX12_allHappen_12 f' (nI E) (nI l) (nI i) (sq u 1 ω) = some (sq u 1 ω') ∧ RR dr tk (fun _ _ => 0) (pl + d) N G M' T Dl σ' u ω' := by
  intro r
  induction r with
  | zero =>
    intro i l f f' pl M σ ω hi hli hf hf' hR h30
    obtain ⟨f, rfl⟩ : ∃ g, f = g + 1 := ⟨f - 1, by omega⟩
    obtain ⟨f', rfl⟩ : ∃ g, f' = g + 1 := ⟨f' - 1, by omega⟩
    have hi : i = E := by omega
    subst hi
    obtain ⟨Q, B, h, hI, hd⟩ := hR
    have h6 := h.1.1.1
    have hll : ∀ c, c < 36 → (Q c).length ≤ 110 := fun c hc => Nat.le_trans (q_len h.2.2.2.2.2.2.2.2.1 hI (fun _ _ => by omega) h6 h.1.1.2.2.1 hc) (by omega)
    have c : fc [30] σ (s2 σ 30 0 (nI l)) := fc_s2 _ _ _ _
    refine ⟨_, 0, _, M, ?_, ?_, ⟨Q, B, R0_evs h hll h30 hE8 hli, rI_c hI (c 15 (by decide)) (c 2 (by decide)) (c 27 (by decide)), hd⟩⟩
    · simp (disch := first | omega | (simp only [pN, pP, pM, pE, pL, pC, pK, sp]; omega)) only [u_fX7_happen_4, h30, e_T, e_F, e_bnd, e_obr, e_obd, e_obt, e_addB, e_addA, e_in, e_cl, e_leT, e_leF, e_ltT, e_ltF, e_eqT, e_eqF, e_NOT, e_NOF, nI_add, pk_mul, k_spot, k_chan, m_node, m_pair, m_msg, m_chan, m_pack, e_w, e_wn, e_ws]
    · simp (disch := first | omega | (simp only [pN, pP, pM, pE, pL, pC, pK, sp]; omega)) only [u_fX12_allHappen_12, e_T, e_F, e_bnd, e_obr, e_obd, e_obt, e_addB, e_addA, e_in, e_cl, e_leT, e_leF, e_ltT, e_ltF, e_eqT, e_eqF, e_NOT, e_NOF, nI_add, pk_mul, k_spot, k_chan, m_node, m_pair, m_msg, m_chan, m_pack, e_w, e_wn, e_ws]
  | succ r ih =>
    intro i l f f' pl M σ ω hi hli hf hf' hR h30
    obtain ⟨f, rfl⟩ : ∃ g, f = g + 1 := ⟨f - 1, by omega⟩
    obtain ⟨f', rfl⟩ : ∃ g, f' = g + 1 := ⟨f' - 1, by omega⟩
    obtain ⟨Q, B, h, hI, hd⟩ := id hR
    have h6 := h.1.1.1
    have hG := h.1.1.2.1
    have hM20 := h.1.1.2.2.1
    have z13 := h.1.2.2.2.1.1
    have z3 := h.1.2.2.2.1.2
    have hT := h.1.2.2.2.2.1.1
    have hT4 := h.1.2.2.2.2.1.2
    have hll : ∀ c, c < 36 → (Q c).length ≤ 110 := fun c hc => Nat.le_trans (q_len h.2.2.2.2.2.2.2.2.1 hI (fun _ _ => by omega) h6 hM20 hc) (by omega)
    obtain ⟨E', e1, e2, e3, e4⟩ := h.2.2.2.2.2.1
    have : E' = E := (nI_eq (by omega) (by omega)).mp (e2.symm.trans h30)
    subst this
    obtain ⟨v0, ⟨n, hn, v1, v2⟩, v3⟩ := e4 i (by omega)
    have v0 : ω (1587 + 4 * i + 0) = σ 31 i := v0.symm
    have v2 : ω (1587 + 4 * i + 2) = nI n := v2
    by_cases hdue : σ 31 i ≤ nI T
    · -- it happens
      have go : ∀ (pl1 d1 M1 : Nat) (σ1 : Sg) (ω1 : Nat → Int32), pl1 = pl + d1 → RR dr tk (fun _ _ => 0) pl1 N G M1 T Dl σ1 u ω1 → σ1 30 0 = nI E' → (∃ o, fX7_happen_4 (f + 1) (nI l) (nI i) σ pl = addB d1 o ∧ o = fX7_happen_4 f (nI l) (nI (i + 1)) σ1 pl1) → fX12_happens (nI (1587 + 4 * i)) (sq u 1 ω) = some (sq u 1 ω1) → ∃ σ' d ω' M', fX7_happen_4 (f + 1) (nI l) (nI i) σ pl = some (σ', d) ∧ fX12_allHappen_12 (f' + 1) (nI E') (nI l) (nI i) (sq u 1 ω) = some (sq u 1 ω') ∧ RR dr tk (fun _ _ => 0) (pl + d) N G M' T Dl σ' u ω' := by
        intro pl1 d1 M1 σ1 ω1 hpl hR1 h301 hk hm
        subst hpl
        obtain ⟨σ', d, ω', M', t1, t2, t3⟩ := ih (i + 1) l f f' (pl + d1) M1 σ1 ω1 (by omega) (by omega) (by omega) (by omega) hR1 h301
        obtain ⟨o, k1, k2⟩ := hk
        refine ⟨σ', d1 + d, ω', M', ?_, ?_, by rw [← Nat.add_assoc]; exact t3⟩
        · rw [k1, k2, t1]; rfl
        · simp (disch := first | omega | (simp only [pN, pP, pM, pE, pL, pC, pK, sp]; omega)) only [u_fX12_allHappen_12, u_fX12_allHappen_96, e_T, e_F, e_bnd, e_obr, e_obd, e_obt, e_addB, e_addA, e_in, e_cl, e_leT, e_leF, e_ltT, e_ltF, e_eqT, e_eqF, e_NOT, e_NOF, nI_add, pk_mul, k_spot, k_chan, m_node, m_pair, m_msg, m_chan, m_pack, e_w, e_wn, e_ws]
          rw [cnd_neg (by rw [hT4, v0]; exact i_lt_le.mpr hdue), hm]
          simp (disch := first | omega | (simp only [pN, pP, pM, pE, pL, pC, pK, sp]; omega)) only [t2, e_T, e_F, e_bnd, e_obr, e_obd, e_obt, e_addB, e_addA, e_in, e_cl, e_leT, e_leF, e_ltT, e_ltF, e_eqT, e_eqF, e_NOT, e_NOF, nI_add, pk_mul, k_spot, k_chan, m_node, m_pair, m_msg, m_chan, m_pack, e_w, e_wn, e_ws]
      have hup := k_isUp (σ := σ) (n := n) (by omega)
      have hup' := q_isUp (u := u) h.2.1 h.1.1.2.2.2 h6 hn
      rcases v3 with ⟨w1, w2, w3⟩ | ⟨g, hg, w1, w2, w3⟩
      · have w2 : ω (1587 + 4 * i + 1) = nI 1 := w2
        cases hu : upB σ n with
        | true =>
          rw [hu] at hup'
          have hu2 : σ 2 n = NO := by unfold upB at hu; exact of_decide_eq_true hu
          obtain ⟨σ1, ωa, ω1, a1, a2, a3, a4, a5, -, -⟩ := s_down (u := u) hR (fun _ _ => by omega) hn hu2
          refine go pl 0 M σ1 ω1 rfl a4 (by rw [a5 30 (by decide)]; exact h30) ⟨_, ?_, rfl⟩ ?_
          · rw [addB_0]
            simp (disch := first | omega | (simp only [pN, pP, pM, pE, pL, pC, pK, sp]; omega)) only [u_fX7_happen_4, u_fX7_happen_112, h30, hT, u_fX2_isCrash, u_fX2_isCrash_0, w1, v1, a1, e_T, e_F, e_bnd, e_obr, e_obd, e_obt, e_addB, e_addA, e_in, e_cl, e_leT, e_leF, e_ltT, e_ltF, e_eqT, e_eqF, e_NOT, e_NOF, nI_add, pk_mul, k_spot, k_chan, m_node, m_pair, m_msg, m_chan, m_pack, e_w, e_wn, e_ws]
            rw [cnd_pos hdue]
          · simp (disch := first | omega | (simp only [pN, pP, pM, pE, pL, pC, pK, sp]; omega)) only [u_fX12_happens, u_fX12_happens_0, v2, w2, hup', b2_t, a2, a3, e_T, e_F, e_bnd, e_obr, e_obd, e_obt, e_addB, e_addA, e_in, e_cl, e_leT, e_leF, e_ltT, e_ltF, e_eqT, e_eqF, e_NOT, e_NOF, nI_add, pk_mul, k_spot, k_chan, m_node, m_pair, m_msg, m_chan, m_pack, e_w, e_wn, e_ws]
        | false =>
          rw [hu] at hup hup'
          refine go pl 0 M σ ω rfl hR h30 ⟨_, ?_, rfl⟩ ?_
          · rw [addB_0]
            simp (disch := first | omega | (simp only [pN, pP, pM, pE, pL, pC, pK, sp]; omega)) only [u_fX7_happen_4, u_fX7_happen_112, h30, hT, u_fX2_isCrash, u_fX2_isCrash_0, w1, v1, u_fX7_goDown, u_fX7_goDown_0, hup, b2_f, e_T, e_F, e_bnd, e_obr, e_obd, e_obt, e_addB, e_addA, e_in, e_cl, e_leT, e_leF, e_ltT, e_ltF, e_eqT, e_eqF, e_NOT, e_NOF, nI_add, pk_mul, k_spot, k_chan, m_node, m_pair, m_msg, m_chan, m_pack, e_w, e_wn, e_ws]
            rw [cnd_pos hdue]
          · simp (disch := first | omega | (simp only [pN, pP, pM, pE, pL, pC, pK, sp]; omega)) only [u_fX12_happens, u_fX12_happens_0, v2, hup', b2_f, e_T, e_F, e_bnd, e_obr, e_obd, e_obt, e_addB, e_addA, e_in, e_cl, e_leT, e_leF, e_ltT, e_ltF, e_eqT, e_eqF, e_NOT, e_NOF, nI_add, pk_mul, k_spot, k_chan, m_node, m_pair, m_msg, m_chan, m_pack, e_w, e_wn, e_ws]
      · have w2 : ω (1587 + 4 * i + 1) = nI 0 := w2
        have w3 : ω (1587 + 4 * i + 3) = nI g := w3
        have kcs := k_canStart (σ := σ) (n := n) (by omega) hM20 z13
        by_cases hok : upB σ n = true ∧ M < 20
        · rw [hok.1, decide_eq_true hok.2] at kcs
          rw [hok.1] at hup'
          obtain ⟨σ1, d1, ω1, a1, a2, a3, a4, -⟩ := s_send (u := u) hR (fun _ _ => by omega) hn hg hok.2
          refine go (pl + d1) d1 (M + 1) σ1 ω1 rfl a3 (by rw [a4]; exact h30) ⟨_, ?_, rfl⟩ ?_
          · have hM := hok.2
            simp (disch := first | omega | (simp only [pN, pP, pM, pE, pL, pC, pK, sp]; omega)) only [u_fX7_happen_4, u_fX7_happen_112, h30, hT, u_fX2_isCrash, u_fX2_isCrash_0, w1, v1, kcs, Bool.and_self, b2_t, a1, e_T, e_F, e_bnd, e_obr, e_obd, e_obt, e_addB, e_addA, e_in, e_cl, e_leT, e_leF, e_ltT, e_ltF, e_eqT, e_eqF, e_NOT, e_NOF, nI_add, pk_mul, k_spot, k_chan, m_node, m_pair, m_msg, m_chan, m_pack, e_w, e_wn, e_ws]
            rw [cnd_pos hdue]
          · have hM := hok.2
            simp (disch := first | omega | (simp only [pN, pP, pM, pE, pL, pC, pK, sp]; omega)) only [u_fX12_happens, u_fX12_happens_0, v2, w2, w3, hup', b2_t, m_messages, z3, a2, e_T, e_F, e_bnd, e_obr, e_obd, e_obt, e_addB, e_addA, e_in, e_cl, e_leT, e_leF, e_ltT, e_ltF, e_eqT, e_eqF, e_NOT, e_NOF, nI_add, pk_mul, k_spot, k_chan, m_node, m_pair, m_msg, m_chan, m_pack, e_w, e_wn, e_ws]
        · have hb : (upB σ n && decide (M < 20)) = false := by
            cases h1 : upB σ n with
            | false => rfl
            | true =>
              have : ¬ M < 20 := fun q => hok ⟨h1, q⟩
              rw [decide_eq_false this]; rfl
          rw [hb] at kcs
          refine go pl 0 M σ ω rfl hR h30 ⟨_, ?_, rfl⟩ ?_
          · rw [addB_0]
            simp (disch := first | omega | (simp only [pN, pP, pM, pE, pL, pC, pK, sp]; omega)) only [u_fX7_happen_4, u_fX7_happen_112, h30, hT, u_fX2_isCrash, u_fX2_isCrash_0, w1, v1, kcs, b2_f, e_T, e_F, e_bnd, e_obr, e_obd, e_obt, e_addB, e_addA, e_in, e_cl, e_leT, e_leF, e_ltT, e_ltF, e_eqT, e_eqF, e_NOT, e_NOF, nI_add, pk_mul, k_spot, k_chan, m_node, m_pair, m_msg, m_chan, m_pack, e_w, e_wn, e_ws]
            rw [cnd_pos hdue]
          · cases h1 : upB σ n with
            | false =>
              rw [h1] at hup'
              simp (disch := first | omega | (simp only [pN, pP, pM, pE, pL, pC, pK, sp]; omega)) only [u_fX12_happens, u_fX12_happens_0, v2, hup', b2_f, e_T, e_F, e_bnd, e_obr, e_obd, e_obt, e_addB, e_addA, e_in, e_cl, e_leT, e_leF, e_ltT, e_ltF, e_eqT, e_eqF, e_NOT, e_NOF, nI_add, pk_mul, k_spot, k_chan, m_node, m_pair, m_msg, m_chan, m_pack, e_w, e_wn, e_ws]
            | true =>
              rw [h1] at hup'
              have : ¬ M < 20 := fun q => hok ⟨h1, q⟩
              simp (disch := first | omega | (simp only [pN, pP, pM, pE, pL, pC, pK, sp]; omega)) only [u_fX12_happens, u_fX12_happens_0, v2, w2, hup', b2_t, m_messages, z3, e_T, e_F, e_bnd, e_obr, e_obd, e_obt, e_addB, e_addA, e_in, e_cl, e_leT, e_leF, e_ltT, e_ltF, e_eqT, e_eqF, e_NOT, e_NOF, nI_add, pk_mul, k_spot, k_chan, m_node, m_pair, m_msg, m_chan, m_pack, e_w, e_wn, e_ws]
    · -- it stays
      have c : fc [31, 32, 33] σ (mvS σ i l) := fc_tr (fc_tr (fc_s2 _ _ _ _) (fc_s2 _ _ _ _)) (fc_s2 _ _ _ _)
      have r1 := R0_move (l := l) h hll h30 hE8 (show i < E' by omega) hli
      obtain ⟨σ', d, ω', M', t1, t2, t3⟩ := ih (i + 1) (l + 1) f f' pl M (mvS σ i l) (mvW ω i l) (by omega) (by omega) (by omega) (by omega) ⟨Q, B, r1, rI_c hI (c 15 (by decide)) (c 2 (by decide)) (c 27 (by decide)), hd⟩ (by rw [c 30 (by decide)]; exact h30)
      refine ⟨σ', d, ω', M', ?_, ?_, t3⟩
      · have km : fX2_move (nI i) (nI l) σ = some (mvS σ i l) := by
          simp (disch := first | omega | (simp only [pN, pP, pM, pE, pL, pC, pK, sp]; omega)) only [u_fX2_move, u_fX2_move_0, mvS, e_T, e_F, e_bnd, e_obr, e_obd, e_obt, e_addB, e_addA, e_in, e_cl, e_leT, e_leF, e_ltT, e_ltF, e_eqT, e_eqF, e_NOT, e_NOF, nI_add, pk_mul, k_spot, k_chan, m_node, m_pair, m_msg, m_chan, m_pack, e_w, e_wn, e_ws, e_s2, e_s2n, pk_us, pk_un]
        simp (disch := first | omega | (simp only [pN, pP, pM, pE, pL, pC, pK, sp]; omega)) only [u_fX7_happen_4, u_fX7_happen_112, h30, hT, km, t1, e_T, e_F, e_bnd, e_obr, e_obd, e_obt, e_addB, e_addA, e_in, e_cl, e_leT, e_leF, e_ltT, e_ltF, e_eqT, e_eqF, e_NOT, e_NOF, nI_add, pk_mul, k_spot, k_chan, m_node, m_pair, m_msg, m_chan, m_pack, e_w, e_wn, e_ws]
        rw [cnd_neg hdue]
      · obtain ⟨k, hk⟩ : ∃ k, FU = k + 1 + 1 + 1 + 1 + 1 := ⟨99995, rfl⟩
        have m56 : fX12_allHappen_56 (fun a0 a1 a2 w => fX12_allHappen_12 f' a0 a1 a2 w) FU (nI E') (nI l) (nI i) (nI (1587 + 4 * i)) (nI 0) (sq u 1 ω) = some (sq u 1 ω') := by
          rw [hk, ← t2]
          unfold mvW
          simp (disch := first | omega | (simp only [pN, pP, pM, pE, pL, pC, pK, sp]; omega)) only [u_fX12_allHappen_56, u_fX12_allHappen_96, e_T, e_F, e_bnd, e_obr, e_obd, e_obt, e_addB, e_addA, e_in, e_cl, e_leT, e_leF, e_ltT, e_ltF, e_eqT, e_eqF, e_NOT, e_NOF, nI_add, pk_mul, k_spot, k_chan, m_node, m_pair, m_msg, m_chan, m_pack, e_w, e_wn, e_ws, pk_un]
        simp (disch := first | omega | (simp only [pN, pP, pM, pE, pL, pC, pK, sp]; omega)) only [u_fX12_allHappen_12, e_T, e_F, e_bnd, e_obr, e_obd, e_obt, e_addB, e_addA, e_in, e_cl, e_leT, e_leF, e_ltT, e_ltF, e_eqT, e_eqF, e_NOT, e_NOF, nI_add, pk_mul, k_spot, k_chan, m_node, m_pair, m_msg, m_chan, m_pack, e_w, e_wn, e_ws]
        rw [cnd_pos (by rw [hT4, v0]; exact i_le_lt.mp hdue)]
        exact m56
theorem s_happen (hR : RR dr tk (fun _ _ => 0) pl N G M T Dl σ u ω) : ∃ σ' d ω' M', fX7_happen σ pl = some (σ', d) ∧ fX12_allHappen (sq u 1 ω) = some (sq u 1 ω') ∧ RR dr tk (fun _ _ => 0) (pl + d) N G M' T Dl σ' u ω' := by
  obtain ⟨Q, B, h, hI, hd⟩ := id hR
  obtain ⟨E, e1, e2, e3, e4⟩ := h.2.2.2.2.2.1
  obtain ⟨σ', d, ω', M', t1, t2, t3⟩ := s_happen_lp (u := u) e1 E 0 0 FU FU pl M σ ω (by omega) (by omega) (by show E < 100000; omega) (by show E < 100000; omega) hR e2
  refine ⟨σ', d, ω', M', t1, ?_, t3⟩
  simp (disch := first | omega | (simp only [pN, pP, pM, pE, pL, pC, pK, sp]; omega)) only [u_fX12_allHappen, u_fX12_allHappen_0, e3, t2, e_T, e_F, e_bnd, e_obr, e_obd, e_obt, e_addB, e_addA, e_in, e_cl, e_leT, e_leF, e_ltT, e_ltF, e_eqT, e_eqF, e_NOT, e_NOF, nI_add, pk_mul, k_spot, k_chan, m_node, m_pair, m_msg, m_chan, m_pack, e_w, e_wn, e_ws]
theorem s_pass (hR : RR dr tk (fun _ _ => 0) pl N G M T Dl σ u ω) (hT : T < 100000) : ∃ t σ' d u' ω' M' Dl', fX7_pass σ pl = some (nI t, σ', d) ∧ fX12_oneTick (nI 1) (sq u 1 ω) = some (nI t, sq u' 1 ω') ∧ RR dr tk (fun _ _ => 0) (pl + d) N G M' (T + 1) Dl' σ' u' ω' ∧ eu u u' ∧ (σ' 0 8 = nI 0 ∨ σ' 0 8 = nI 1) := by
  obtain ⟨σ1, d1, ω1, M', a1, a2, a3⟩ := s_happen hR
  obtain ⟨t, σ', d, u', ω', Dl', t1, t2, t3, t4, -, -, -, t8⟩ := s_tick a3 hT
  refine ⟨t, σ', d1 + (d + 0), u', ω', M', Dl', ?_, ?_, ?_, t4, t8⟩
  · simp (disch := first | omega | (simp only [pN, pP, pM, pE, pL, pC, pK, sp]; omega)) only [u_fX7_pass, u_fX7_pass_0, a1, t1, e_T, e_F, e_bnd, e_obr, e_obd, e_obt, e_addB, e_addA, e_in, e_cl, e_leT, e_leF, e_ltT, e_ltF, e_eqT, e_eqF, e_NOT, e_NOF, nI_add, pk_mul, k_spot, k_chan, m_node, m_pair, m_msg, m_chan, m_pack, e_w, e_wn, e_ws]
  · simp (disch := first | omega | (simp only [pN, pP, pM, pE, pL, pC, pK, sp]; omega)) only [u_fX12_oneTick, u_fX12_oneTick_0, a2, t2, e_T, e_F, e_bnd, e_obr, e_obd, e_obt, e_addB, e_addA, e_in, e_cl, e_leT, e_leF, e_ltT, e_ltF, e_eqT, e_eqF, e_NOT, e_NOF, nI_add, pk_mul, k_spot, k_chan, m_node, m_pair, m_msg, m_chan, m_pack, e_w, e_wn, e_ws]
  · rw [Nat.add_zero, ← Nat.add_assoc]; exact t3
end HP
