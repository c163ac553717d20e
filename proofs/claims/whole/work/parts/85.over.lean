/-! taking over, ending a gather -/
theorem num_eqNO {B : Nat} {s : Int32} (hB : B < 100000) (h : oS B s) : num s = NO ↔ s = NO := by
  rcases h with rfl | ⟨a, b, h1, h2, rfl⟩
  · exact ⟨fun _ => rfl, fun _ => num_NO⟩
  · rw [num_v (by omega) (by omega)]
    exact ⟨fun q => absurd q (NO_ne (by omega)), fun q => absurd q (NO_ne (by omega))⟩
section OV
variable {dr : Prop} {tk : Int32} {pl N G M T B : Nat} {e e' : Nat → Nat → Nat} {Q Q' : Qs} {Dl : Nat → List Nat} {u σ σ' : Sg} {ω ω' : Nat → Int32}
theorem rS_tk (h : rS dr tk N G M T σ ω) (h0 : ∀ j, j ≠ 7 → j ≠ 8 → σ' 0 j = σ 0 j) (h7 : σ' 0 7 = σ 0 7 + nI 1) (h1 : σ' 1 = σ 1) (h13 : σ' 13 = σ 13) (hw : ∀ i, i < 17 → i ≠ 7 → i ≠ 9 → i ≠ 10 → ω' i = ω i) (h10 : ω' 10 = ω 10 + nI 1) : rS dr tk N G M T σ' ω' := by
  obtain ⟨a0, a1, a2, a3, a4, a5, a6, a7, a8, a9, a10, a11⟩ := h
  refine ⟨a0, ?_, ?_, ?_, ?_, ?_, ?_, ?_, ?_, ?_, ?_, ?_⟩
  · rw [h0 0 (by omega) (by omega), hw 0 (by omega) (by omega) (by omega) (by omega)]; exact a1
  · rw [h0 1 (by omega) (by omega), hw 1 (by omega) (by omega) (by omega) (by omega)]; exact a2
  · rw [h13, hw 3 (by omega) (by omega) (by omega) (by omega)]; exact a3
  · rw [h0 3 (by omega) (by omega), hw 4 (by omega) (by omega) (by omega) (by omega)]; exact a4
  · rw [h0 2 (by omega) (by omega), hw 2 (by omega) (by omega) (by omega) (by omega)]; exact a5
  · rw [h0 6 (by omega) (by omega), hw 8 (by omega) (by omega) (by omega) (by omega)]; exact a6
  · rw [h0 5 (by omega) (by omega), hw 6 (by omega) (by omega) (by omega) (by omega)]; exact a7
  · rw [h0 4 (by omega) (by omega), hw 5 (by omega) (by omega) (by omega) (by omega)]; exact a8
  · rw [h7, h10, ← a9, Int32.add_assoc, Int32.add_assoc, Int32.add_comm (nI 1) tk]
  · intro g hg; rw [h1, hw (11 + g) (by omega) (by omega) (by omega) (by omega)]; exact a10 g hg
  · rw [h1]; exact a11
/-- a node takes over: all but its packets -/
theorem s_over0 {n m : Nat} (h : R0 dr tk pl N G M T B Q Dl σ ω) (hl : ∀ c, c < 36 → (Q c).length ≤ 110) (hn : n < N) (hm : m < M) :
    ∃ σa ωa, fX5_add (σ 0 3) (nI n) (nI 3) (nI m) (s2 (s2 σ 0 7 (σ 0 7 + nI 1)) 0 8 (nI 1)) = some σa ∧ fX12_isTold (nI n) (nI 3) (nI m) (sq u 1 (gat ω n m)) = some (sq u 1 ωa) ∧ R0 dr tk pl N G M T B Q Dl (bgn σa n m) (upd ωa 10 (ωa 10 + nI 1)) ∧ fc [0, 27, 28, 29, 34, 35] σ (bgn σa n m) ∧ (∀ j, j ≠ 7 → j ≠ 8 → bgn σa n m 0 j = σ 0 j) ∧ bgn σa n m 0 8 = nI 1 ∧ bgn σa n m 27 = upd (σ 27) (sp n m) (nI 0) := by
  obtain ⟨hS, hN, hP, hD, hM, hE, hL, hC, hQ, hO, hB⟩ := h
  have h6 := hS.1.1
  have hM20 := hS.1.2.2.1
  have c1 : fc [0, 0] σ (s2 (s2 σ 0 7 (σ 0 7 + nI 1)) 0 8 (nI 1)) := fc_tr (fc_s2 _ _ _ _) (fc_s2 _ _ _ _)
  have hL1 : rL dr (s2 (s2 σ 0 7 (σ 0 7 + nI 1)) 0 8 (nI 1)) ω := rL_fr hL (by rw [c1 34 (by decide)]; exact ⟨rfl, rfl⟩) (fun i _ => by rw [c1 35 (by decide)]) rfl (fun _ _ _ _ => rfl)
  obtain ⟨σa, k1, c2, k2⟩ := k_log2 (σ 0 3) (nI n) (nI 3) (nI m) hL1
  obtain ⟨ωa, m1, fwa, m2⟩ := m_told2 (u := u) (ω := gat ω n m) (nI n) (nI 3) (nI m)
  have cb := bgn_c σa n m
  have c : fc [0, 27, 28, 29, 34, 35] σ (bgn σa n m) := fc_wk (fc_tr (fc_tr c1 c2) cb) (by decide)
  have e0 : ∀ j, j ≠ 7 → j ≠ 8 → bgn σa n m 0 j = σ 0 j := fun j h7 h8 => by
    rw [cb 0 (by decide), c2 0 (by decide)]; simp (disch := first | omega | (simp only [pN, pP, pM, pE, pL, pC, pK, sp]; omega)) only [e_s2, e_s2n, pk_us, pk_un]
  have e7 : bgn σa n m 0 7 = σ 0 7 + nI 1 := by rw [cb 0 (by decide), c2 0 (by decide)]; simp (disch := first | omega | (simp only [pN, pP, pM, pE, pL, pC, pK, sp]; omega)) only [e_s2, e_s2n, pk_us, pk_un]
  have e8 : bgn σa n m 0 8 = nI 1 := by rw [cb 0 (by decide), c2 0 (by decide)]; simp (disch := first | omega | (simp only [pN, pP, pM, pE, pL, pC, pK, sp]; omega)) only [e_s2, e_s2n, pk_us, pk_un]
  have e27 : bgn σa n m 27 = upd (σ 27) (sp n m) (nI 0) := by
    have : σa 27 = σ 27 := by rw [c2 27 (by decide), c1 27 (by decide)]
    unfold bgn; simp (disch := first | omega | (simp only [pN, pP, pM, pE, pL, pC, pK, sp]; omega)) only [e_s2, e_s2n, pk_us, pk_un]; rw [this]
  have fw : ∀ i, i ≠ 9 → i ≠ 10 → (i < 1619 ∨ 1859 ≤ i) → (∀ w, w < 11 → i ≠ pP n m w) → upd ωa 10 (ωa 10 + nI 1) i = ω i := fun i h9 h10 hi hp => by rw [pk_un h10, fwa i h9 hi, gat_w hp]
  have fwN : ∀ a w, w < 25 → a < 6 → upd ωa 10 (ωa 10 + nI 1) (pN a w) = ω (pN a w) := fun a w hw ha => fw _ (by first | omega | exact pP_pN (by omega) (by omega) (by omega) | exact (pP_pN (by omega) (by omega) (by omega)).symm | exact pP_pP (by omega) (by omega) (by omega) (by omega) (by omega) | (simp only [pN, pP, pM, pE, pL, pC, pK, sp]; omega)) (by first | omega | exact pP_pN (by omega) (by omega) (by omega) | exact (pP_pN (by omega) (by omega) (by omega)).symm | exact pP_pP (by omega) (by omega) (by omega) (by omega) (by omega) | (simp only [pN, pP, pM, pE, pL, pC, pK, sp]; omega)) (by first | omega | exact pP_pN (by omega) (by omega) (by omega) | exact (pP_pN (by omega) (by omega) (by omega)).symm | exact pP_pP (by omega) (by omega) (by omega) (by omega) (by omega) | (simp only [pN, pP, pM, pE, pL, pC, pK, sp]; omega)) (fun v hv => (pP_pN (by omega) hv hw).symm)
  refine ⟨σa, ωa, k1, m1, ?_, c, e0, e8, e27⟩
  refine ⟨?_, rN_fr hN (fun n _ => by rw [c 2 (by decide), c 3 (by decide), c 4 (by decide)]; exact ⟨rfl, rfl, rfl⟩) (fun n w hn hw => (by first | exact fwN _ _ (by omega) (by omega) | exact fw _ (by first | omega | exact pP_pN (by omega) (by omega) (by omega) | exact (pP_pN (by omega) (by omega) (by omega)).symm | exact pP_pP (by omega) (by omega) (by omega) (by omega) (by omega) | (simp only [pN, pP, pM, pE, pL, pC, pK, sp]; omega)) (by first | omega | exact pP_pN (by omega) (by omega) (by omega) | exact (pP_pN (by omega) (by omega) (by omega)).symm | exact pP_pP (by omega) (by omega) (by omega) (by omega) (by omega) | (simp only [pN, pP, pM, pE, pL, pC, pK, sp]; omega)) (by first | omega | exact pP_pN (by omega) (by omega) (by omega) | exact (pP_pN (by omega) (by omega) (by omega)).symm | exact pP_pP (by omega) (by omega) (by omega) (by omega) (by omega) | (simp only [pN, pP, pM, pE, pL, pC, pK, sp]; omega)) (fun v hv => (by first | omega | exact pP_pN (by omega) (by omega) (by omega) | exact (pP_pN (by omega) (by omega) (by omega)).symm | exact pP_pP (by omega) (by omega) (by omega) (by omega) (by omega) | (simp only [pN, pP, pM, pE, pL, pC, pK, sp]; omega))))), ?_, rD_fr hD (fun i _ => by rw [c 20 (by decide), c 24 (by decide), c 23 (by decide)]; exact ⟨rfl, rfl, rfl⟩) (fun n m _ _ => by rw [c 17 (by decide)]) (fun n _ => by rw [c 25 (by decide)]) (fun n w hn hw h4 => (by first | exact fwN _ _ (by omega) (by omega) | exact fw _ (by first | omega | exact pP_pN (by omega) (by omega) (by omega) | exact (pP_pN (by omega) (by omega) (by omega)).symm | exact pP_pP (by omega) (by omega) (by omega) (by omega) (by omega) | (simp only [pN, pP, pM, pE, pL, pC, pK, sp]; omega)) (by first | omega | exact pP_pN (by omega) (by omega) (by omega) | exact (pP_pN (by omega) (by omega) (by omega)).symm | exact pP_pP (by omega) (by omega) (by omega) (by omega) (by omega) | (simp only [pN, pP, pM, pE, pL, pC, pK, sp]; omega)) (by first | omega | exact pP_pN (by omega) (by omega) (by omega) | exact (pP_pN (by omega) (by omega) (by omega)).symm | exact pP_pP (by omega) (by omega) (by omega) (by omega) (by omega) | (simp only [pN, pP, pM, pE, pL, pC, pK, sp]; omega)) (fun v hv => (by first | omega | exact pP_pN (by omega) (by omega) (by omega) | exact (pP_pN (by omega) (by omega) (by omega)).symm | exact pP_pP (by omega) (by omega) (by omega) (by omega) (by omega) | (simp only [pN, pP, pM, pE, pL, pC, pK, sp]; omega))))), rM_fr hM (fun m _ => by rw [c 14 (by decide), c 15 (by decide), c 16 (by decide), c 17 (by decide), c 18 (by decide)]; exact ⟨rfl, rfl, rfl, rfl, rfl⟩) (fun m w hm hw => (by first | exact fwN _ _ (by omega) (by omega) | exact fw _ (by first | omega | exact pP_pN (by omega) (by omega) (by omega) | exact (pP_pN (by omega) (by omega) (by omega)).symm | exact pP_pP (by omega) (by omega) (by omega) (by omega) (by omega) | (simp only [pN, pP, pM, pE, pL, pC, pK, sp]; omega)) (by first | omega | exact pP_pN (by omega) (by omega) (by omega) | exact (pP_pN (by omega) (by omega) (by omega)).symm | exact pP_pP (by omega) (by omega) (by omega) (by omega) (by omega) | (simp only [pN, pP, pM, pE, pL, pC, pK, sp]; omega)) (by first | omega | exact pP_pN (by omega) (by omega) (by omega) | exact (pP_pN (by omega) (by omega) (by omega)).symm | exact pP_pP (by omega) (by omega) (by omega) (by omega) (by omega) | (simp only [pN, pP, pM, pE, pL, pC, pK, sp]; omega)) (fun v hv => (by first | omega | exact pP_pN (by omega) (by omega) (by omega) | exact (pP_pN (by omega) (by omega) (by omega)).symm | exact pP_pP (by omega) (by omega) (by omega) (by omega) (by omega) | (simp only [pN, pP, pM, pE, pL, pC, pK, sp]; omega))))), rE_fr hE (by rw [c 30 (by decide)]) (fun k _ => by rw [c 31 (by decide), c 32 (by decide), c 33 (by decide)]; exact ⟨rfl, rfl, rfl⟩) ((by first | exact fwN _ _ (by omega) (by omega) | exact fw _ (by first | omega | exact pP_pN (by omega) (by omega) (by omega) | exact (pP_pN (by omega) (by omega) (by omega)).symm | exact pP_pP (by omega) (by omega) (by omega) (by omega) (by omega) | (simp only [pN, pP, pM, pE, pL, pC, pK, sp]; omega)) (by first | omega | exact pP_pN (by omega) (by omega) (by omega) | exact (pP_pN (by omega) (by omega) (by omega)).symm | exact pP_pP (by omega) (by omega) (by omega) (by omega) (by omega) | (simp only [pN, pP, pM, pE, pL, pC, pK, sp]; omega)) (by first | omega | exact pP_pN (by omega) (by omega) (by omega) | exact (pP_pN (by omega) (by omega) (by omega)).symm | exact pP_pP (by omega) (by omega) (by omega) (by omega) (by omega) | (simp only [pN, pP, pM, pE, pL, pC, pK, sp]; omega)) (fun v hv => (by first | omega | exact pP_pN (by omega) (by omega) (by omega) | exact (pP_pN (by omega) (by omega) (by omega)).symm | exact pP_pP (by omega) (by omega) (by omega) (by omega) (by omega) | (simp only [pN, pP, pM, pE, pL, pC, pK, sp]; omega))))) (fun k w hk hw => (by first | exact fwN _ _ (by omega) (by omega) | exact fw _ (by first | omega | exact pP_pN (by omega) (by omega) (by omega) | exact (pP_pN (by omega) (by omega) (by omega)).symm | exact pP_pP (by omega) (by omega) (by omega) (by omega) (by omega) | (simp only [pN, pP, pM, pE, pL, pC, pK, sp]; omega)) (by first | omega | exact pP_pN (by omega) (by omega) (by omega) | exact (pP_pN (by omega) (by omega) (by omega)).symm | exact pP_pP (by omega) (by omega) (by omega) (by omega) (by omega) | (simp only [pN, pP, pM, pE, pL, pC, pK, sp]; omega)) (by first | omega | exact pP_pN (by omega) (by omega) (by omega) | exact (pP_pN (by omega) (by omega) (by omega)).symm | exact pP_pP (by omega) (by omega) (by omega) (by omega) (by omega) | (simp only [pN, pP, pM, pE, pL, pC, pK, sp]; omega)) (fun v hv => (by first | omega | exact pP_pN (by omega) (by omega) (by omega) | exact (pP_pN (by omega) (by omega) (by omega)).symm | exact pP_pP (by omega) (by omega) (by omega) (by omega) (by omega) | (simp only [pN, pP, pM, pE, pL, pC, pK, sp]; omega))))), ?_, rC_fr hC (fun x hx => Nat.le_trans (hl x hx) (by omega)) (fun x _ => by rw [c 6 (by decide), c 7 (by decide), c 8 (by decide)]; exact ⟨rfl, rfl, rfl⟩) (fun x w hx hw => (by first | exact fwN _ _ (by omega) (by omega) | exact fw _ (by first | omega | exact pP_pN (by omega) (by omega) (by omega) | exact (pP_pN (by omega) (by omega) (by omega)).symm | exact pP_pP (by omega) (by omega) (by omega) (by omega) (by omega) | (simp only [pN, pP, pM, pE, pL, pC, pK, sp]; omega)) (by first | omega | exact pP_pN (by omega) (by omega) (by omega) | exact (pP_pN (by omega) (by omega) (by omega)).symm | exact pP_pP (by omega) (by omega) (by omega) (by omega) (by omega) | (simp only [pN, pP, pM, pE, pL, pC, pK, sp]; omega)) (by first | omega | exact pP_pN (by omega) (by omega) (by omega) | exact (pP_pN (by omega) (by omega) (by omega)).symm | exact pP_pP (by omega) (by omega) (by omega) (by omega) (by omega) | (simp only [pN, pP, pM, pE, pL, pC, pK, sp]; omega)) (fun v hv => (by first | omega | exact pP_pN (by omega) (by omega) (by omega) | exact (pP_pN (by omega) (by omega) (by omega)).symm | exact pP_pP (by omega) (by omega) (by omega) (by omega) (by omega) | (simp only [pN, pP, pM, pE, pL, pC, pK, sp]; omega))))), hQ, rO_fr hO (by rw [c 5 (by decide)]; exact ⟨rfl, rfl⟩) (fun x _ => by rw [c 9 (by decide), c 11 (by decide), c 12 (by decide)]; exact ⟨rfl, rfl, rfl⟩) (fun i _ => by rw [c 10 (by decide)]), (by rw [cnt_fr (σ := σ) (fun i _ => by rw [c 20 (by decide)])]; exact hB)⟩
  · refine rS_tk hS e0 e7 (c 1 (by decide)) (c 13 (by decide)) (fun i h1 h2 h3 h4 => fw i h3 h4 (by omega) (fun v hv => (by first | omega | exact pP_pN (by omega) (by omega) (by omega) | exact (pP_pN (by omega) (by omega) (by omega)).symm | exact pP_pP (by omega) (by omega) (by omega) (by omega) (by omega) | (simp only [pN, pP, pM, pE, pL, pC, pK, sp]; omega)))) ?_
    rw [pk_us, fwa 10 (by omega) (by omega), gat_w (fun w hw => (by first | omega | exact pP_pN (by omega) (by omega) (by omega) | exact (pP_pN (by omega) (by omega) (by omega)).symm | exact pP_pP (by omega) (by omega) (by omega) (by omega) (by omega) | (simp only [pN, pP, pM, pE, pL, pC, pK, sp]; omega)))]
  · refine rP_up hP (n₀ := n) (m₀ := m) (by omega) (fun q i hq hi => ?_) (fun a b w ha hb hw e => fw _ (by first | omega | exact pP_pN (by omega) (by omega) (by omega) | exact (pP_pN (by omega) (by omega) (by omega)).symm | exact pP_pP (by omega) (by omega) (by omega) (by omega) (by omega) | (simp only [pN, pP, pM, pE, pL, pC, pK, sp]; omega)) (by first | omega | exact pP_pN (by omega) (by omega) (by omega) | exact (pP_pN (by omega) (by omega) (by omega)).symm | exact pP_pP (by omega) (by omega) (by omega) (by omega) (by omega) | (simp only [pN, pP, pM, pE, pL, pC, pK, sp]; omega)) (by first | omega | exact pP_pN (by omega) (by omega) (by omega) | exact (pP_pN (by omega) (by omega) (by omega)).symm | exact pP_pP (by omega) (by omega) (by omega) (by omega) (by omega) | (simp only [pN, pP, pM, pE, pL, pC, pK, sp]; omega)) (fun v hv => (by first | omega | exact pP_pN (by omega) (by omega) (by omega) | exact (pP_pN (by omega) (by omega) (by omega)).symm | exact pP_pP (by omega) (by omega) (by omega) (by omega) (by omega) | (simp only [pN, pP, pM, pE, pL, pC, pK, sp]; omega)))) ?_
    · rw [bgn_i q i hi]
      have hq' : q ∉ [34, 35] ∧ q ∉ [0, 0] := by
        simp only [List.mem_cons, List.not_mem_nil, or_false] at hq ⊢
        omega
      rw [c2 q hq'.1, c1 q hq'.2]
    · refine rP1_bgn (hP n m (by omega) (by omega)) hn hm (by rw [c 20 (by decide)]) (by rw [c 21 (by decide)]) (by rw [c 22 (by decide)]) (by rw [c 23 (by decide)]) (by rw [e27, pk_us]) (by unfold bgn; simp (disch := first | omega | (simp only [pN, pP, pM, pE, pL, pC, pK, sp]; omega)) only [e_s2, e_s2n, pk_us, pk_un]) (by unfold bgn; simp (disch := first | omega | (simp only [pN, pP, pM, pE, pL, pC, pK, sp]; omega)) only [e_s2, e_s2n, pk_us, pk_un]) (fun w hw => ?_)
      rw [pk_un (by first | omega | exact pP_pN (by omega) (by omega) (by omega) | exact (pP_pN (by omega) (by omega) (by omega)).symm | exact pP_pP (by omega) (by omega) (by omega) (by omega) (by omega) | (simp only [pN, pP, pM, pE, pL, pC, pK, sp]; omega)), fwa _ (by first | omega | exact pP_pN (by omega) (by omega) (by omega) | exact (pP_pN (by omega) (by omega) (by omega)).symm | exact pP_pP (by omega) (by omega) (by omega) (by omega) (by omega) | (simp only [pN, pP, pM, pE, pL, pC, pK, sp]; omega)) (by first | omega | exact pP_pN (by omega) (by omega) (by omega) | exact (pP_pN (by omega) (by omega) (by omega)).symm | exact pP_pP (by omega) (by omega) (by omega) (by omega) (by omega) | (simp only [pN, pP, pM, pE, pL, pC, pK, sp]; omega))]
  · refine rL_log (x1 := nI n) (x2 := nI 3) (x3 := nI m) hL (hS.2.2.2.2.1.1.trans hS.2.2.2.2.1.2.symm) (kL_c k2 (c1 34 (by decide)) (c1 35 (by decide)) (cb 34 (by decide)) (cb 35 (by decide))) (mL_c m2 (fun i hi => gat_w (fun w hw => (by first | omega | exact pP_pN (by omega) (by omega) (by omega) | exact (pP_pN (by omega) (by omega) (by omega)).symm | exact pP_pP (by omega) (by omega) (by omega) (by omega) (by omega) | (simp only [pN, pP, pM, pE, pL, pC, pK, sp]; omega)))) (fun i hi => pk_un (by omega)))
/-- a node takes over -/
theorem s_over {n m : Nat} (h : R0 dr tk pl N G M T B Q Dl σ ω) (hI : rI N e Q σ) (he : ∀ n m, e n m ≤ 1) (hd : dF dr u) (hn : n < N) (hm : m < M) (hoff : σ 27 (sp n m) = NO) (hmono : ∀ n m, e n m ≤ e' n m) (he0 : e n m = 0) (he1 : 1 ≤ e' n m) :
    ∃ σa ωa σ' d ω' Q', fX5_add (σ 0 3) (nI n) (nI 3) (nI m) (s2 (s2 σ 0 7 (σ 0 7 + nI 1)) 0 8 (nI 1)) = some σa ∧ fX12_isTold (nI n) (nI 3) (nI m) (sq u 1 (gat ω n m)) = some (sq u 1 ωa) ∧ fX7_putForAll (nI n) (nI 3) (nI m) NO (bgn σa n m) pl = some (σ', d) ∧ fX12_putsAll (nI n) (nI 3) (nI m) NO NO (sq u 1 (upd ωa 10 (ωa 10 + nI 1))) = some (sq u 1 ω') ∧ R0 dr tk (pl + d) N G M T B Q' Dl σ' ω' ∧ rI N e' Q' σ' ∧ σ' 2 = σ 2 ∧ σ' 0 8 = nI 1 ∧ σ' 15 = σ 15 ∧ σ' 27 = upd (σ 27) (sp n m) (nI 0) ∧ (∀ x, ntB σ' x = ntB σ x) := by
  have h6 := h.1.1.1
  have hM20 := h.1.1.2.2.1
  have hlen : ∀ c, c < 36 → (Q c).length ≤ 100 := fun c hc => q_len h.2.2.2.2.2.2.2.2.1 hI he h6 hM20 hc
  obtain ⟨σa, ωa, k1, m1, r1, c, e0, e8, e27⟩ := s_over0 (u := u) h (fun c hc => Nat.le_trans (hlen c hc) (by omega)) hn hm
  obtain ⟨σ', d, ω', Q', p1, p2, p3, p4, p5⟩ := s_putAll (u := u) (a := n) (k := 3) (m := m) (st := NO) r1 hlen hn (fun t => ⟨by show 3 ≤ 4; omega, hm, ⟨Or.inl rfl, fun _ => rfl⟩, fun _ => rfl, fun z => by have z : 3 = 1 ∨ 3 = 2 ∨ 3 = 4 := z; omega⟩) hd
  rw [num_NO, nod_NO] at p2
  have cp := fP_c p4
  have nt : ∀ x, ntB (bgn σa n m) x = ntB σ x := fun x => by
    unfold ntB; rw [c 2 (by decide), e0 3 (by omega) (by omega), e0 5 (by omega) (by omega)]
  refine ⟨σa, ωa, σ', d, ω', Q', k1, m1, p1, p2, p3, ?_, by rw [cp 2 (by decide), c 2 (by decide)], by rw [p4.2 8 (by omega)]; exact e8, by rw [cp 15 (by decide), c 15 (by decide)], by rw [cp 27 (by decide), e27], fun x => by rw [fP_nt p4, nt]⟩
  refine rI_ask hI h6 (by omega) rfl hoff p5 (c 15 (by decide)) nt (by rw [cp 15 (by decide), c 15 (by decide)]) (by rw [cp 2 (by decide), c 2 (by decide)]) (by rw [cp 27 (by decide), e27]) hmono (fun x hx hd2 => ?_)
  have := ((hI n x m hn hx (by omega)).2.2.2 hd2).1
  omega
/-- a full gather ends -/
theorem s_final {n m : Nat} (h : R0 dr tk pl N G M T B Q Dl σ ω) (hI : rI N e Q σ) (he : ∀ n m, e n m ≤ 1) (hd : dF dr u) (hn : n < N) (hm : m < M) (hfull : fullB N σ n m = true) (hmono : ∀ n m, e n m ≤ e' n m) (he0 : e n m = 0) (he1 : 1 ≤ e' n m) :
    ∃ σ' d ω' Q', (∃ r, fX3_outcome (nI (sp n m)) σ = some r ∧ fX3_cease (nI (sp n m)) (s2 σ 0 8 (nI 1)) = some (s2 (s2 σ 0 8 (nI 1)) 27 (sp n m) NO) ∧ ((r = NO ∧ σ' = s2 (s2 σ 0 8 (nI 1)) 27 (sp n m) NO ∧ d = 0) ∨ (r ≠ NO ∧ fX7_putForAll (nI n) (nI 2) (nI m) r (s2 (s2 σ 0 8 (nI 1)) 27 (sp n m) NO) pl = some (σ', d)))) ∧ fX12_isFinal (nI n) (nI m) (sq u 1 ω) = some (sq u 1 ω') ∧ R0 dr tk (pl + d) N G M T B Q' Dl σ' ω' ∧ rI N e' Q' σ' ∧ σ' 2 = σ 2 ∧ σ' 0 8 = nI 1 := by
  have h6 := h.1.1.1
  have hM20 := h.1.1.2.2.1
  have hB := h.2.2.2.2.2.2.2.2.2.2
  have hB2 := cnt_le (σ := σ)
  have hsp : sp n m < 120 := by unfold sp; omega
  have hlen : ∀ c, c < 36 → (Q c).length ≤ 100 := fun c hc => q_len h.2.2.2.2.2.2.2.2.1 hI he h6 hM20 hc
  have hll : ∀ c, c < 36 → (Q c).length ≤ 110 := fun c hc => Nat.le_trans (hlen c hc) (by omega)
  unfold fullB at hfull
  rw [Bool.and_eq_true, allB_iff] at hfull
  obtain ⟨hon, hall⟩ := hfull
  have hon : σ 27 (sp n m) ≠ NO := fun q => by rw [decide_eq_true q] at hon; cases hon
  have hall : ∀ x, x < N → bt (σ 15 m) x = true → ntB σ x = false → bt (σ 27 (sp n m)) x = true := fun x hx h1 h2 => by
    have := hall x hx
    unfold fullP at this
    rw [h1, h2] at this
    simpa using this
  have hp := h.2.2.1 n m (by omega) (by omega)
  rcases hp.2.2.2 with ⟨g1, g2⟩ | ⟨-, -, g1, ⟨hh, g2, g3, g4, g5, g5'⟩, g6, ⟨g7, g8, g9⟩, g10, g11, g12⟩
  · exact absurd g1 hon
  · -- the gather is off
    have cc : fc [0, 27] σ (s2 (s2 σ 0 8 (nI 1)) 27 (sp n m) NO) := fc_tr (fc_s2 _ _ _ _) (fc_s2 _ _ _ _)
    have c1 : fc [27] (s2 σ 0 8 (nI 1)) (s2 (s2 σ 0 8 (nI 1)) 27 (sp n m) NO) := fc_s2 _ _ _ _
    have r0 := R0_stir (x := nI 1) h
    have r1 : R0 dr tk pl N G M T B Q Dl (s2 (s2 σ 0 8 (nI 1)) 27 (sp n m) NO) (upd ω (pP n m 5) (nI 0)) := by
      refine R0_pair r0 hll (n₀ := n) (m₀ := m) (by omega) (by omega) (fc_wk c1 (by decide)) (fun q i hi => by rw [e_s2'', if_neg (fun z => hi z.2)]) (fun i hi => pk_un (hi 5 (by omega))) ?_ (by rw [c1 20 (by decide)]) (by rw [cnt_fr (σ := σ) (fun i _ => by rw [cc 20 (by decide)])]; exact hB)
      exact rP1_g (r0.2.2.1 n m (by omega) (by omega)) (by rw [c1 20 (by decide)]) (by rw [c1 21 (by decide)]) (by rw [c1 22 (by decide)]) (by rw [c1 23 (by decide)]) (fun w hw => pk_un (by first | omega | exact pP_pN (by omega) (by omega) (by omega) | exact (pP_pN (by omega) (by omega) (by omega)).symm | exact pP_pP (by omega) (by omega) (by omega) (by omega) (by omega) | (simp only [pN, pP, pM, pE, pL, pC, pK, sp]; omega))) (Or.inl ⟨by rw [e_s2, pk_us], pk_us⟩)
    have nt : ∀ x, ntB (s2 (s2 σ 0 8 (nI 1)) 27 (sp n m) NO) x = ntB σ x := fun x => by unfold ntB; simp (disch := first | omega | (simp only [pN, pP, pM, pE, pL, pC, pK, sp]; omega)) only [e_s2, e_s2n, pk_us, pk_un]
    have e27 : s2 (s2 σ 0 8 (nI 1)) 27 (sp n m) NO 27 = upd (σ 27) (sp n m) NO := by simp (disch := first | omega | (simp only [pN, pP, pM, pE, pL, pC, pK, sp]; omega)) only [e_s2, e_s2n, pk_us, pk_un]
    have e8 : s2 (s2 σ 0 8 (nI 1)) 27 (sp n m) NO 0 8 = nI 1 := by simp (disch := first | omega | (simp only [pN, pP, pM, pE, pL, pC, pK, sp]; omega)) only [e_s2, e_s2n, pk_us, pk_un]
    have kc : fX3_cease (nI (sp n m)) (s2 σ 0 8 (nI 1)) = some (s2 (s2 σ 0 8 (nI 1)) 27 (sp n m) NO) := by simp (disch := first | omega | (simp only [pN, pP, pM, pE, pL, pC, pK, sp]; omega)) only [u_fX3_cease, u_fX3_cease_0, e_T, e_F, e_bnd, e_obr, e_obd, e_obt, e_addB, e_addA, e_in, e_cl, e_leT, e_leF, e_ltT, e_ltF, e_eqT, e_eqF, e_NOT, e_NOF, nI_add, pk_mul, k_spot, k_chan, m_node, m_pair, m_msg, m_chan, m_pack, e_w, e_wn, e_ws]
    have w6 : upd ω (pP n m 5) (nI 0) (pP n m 6) = nI hh := by rw [pk_un (by first | omega | exact pP_pN (by omega) (by omega) (by omega) | exact (pP_pN (by omega) (by omega) (by omega)).symm | exact pP_pP (by omega) (by omega) (by omega) (by omega) (by omega) | (simp only [pN, pP, pM, pE, pL, pC, pK, sp]; omega))]; exact g4
    -- the packets, with a stamp
    have put : ∀ r, vS B r → ∃ σ' d ω' Q', fX7_putForAll (nI n) (nI 2) (nI m) r (s2 (s2 σ 0 8 (nI 1)) 27 (sp n m) NO) pl = some (σ', d) ∧ fX12_putsAll (nI n) (nI 2) (nI m) (num r) (nod r) (sq u 1 (upd ω (pP n m 5) (nI 0))) = some (sq u 1 ω') ∧ R0 dr tk (pl + d) N G M T B Q' Dl σ' ω' ∧ rI N e' Q' σ' ∧ σ' 2 = σ 2 ∧ σ' 0 8 = nI 1 := by
      intro r hr
      obtain ⟨σ', d, ω', Q', p1, p2, p3, p4, p5⟩ := s_putAll (u := u) (a := n) (k := 2) (m := m) (st := r) r1 hlen hn (fun t => ⟨by show 2 ≤ 4; omega, hm, ⟨Or.inl rfl, fun _ => rfl⟩, fun z => by have z : 2 = 0 ∨ 2 = 3 := z; omega, fun _ => hr⟩) hd
      have cp := fP_c p4
      refine ⟨σ', d, ω', Q', p1, p2, p3, ?_, by rw [cp 2 (by decide), cc 2 (by decide)], by rw [p4.2 8 (by omega)]; exact e8⟩
      exact rI_final hI h6 hn (by omega) hon hall p5 (cc 15 (by decide)) nt (by rw [cp 15 (by decide), cc 15 (by decide)]) (by rw [cp 2 (by decide), cc 2 (by decide)]) (by rw [cp 27 (by decide), e27]) hmono he0 he1
    have n29 := num_eqNO (show B < 100000 by omega) g10
    by_cases h29 : σ 29 (sp n m) = NO
    · have ko : fX3_outcome (nI (sp n m)) σ = some (σ 28 (sp n m)) := by
        simp (disch := first | omega | (simp only [pN, pP, pM, pE, pL, pC, pK, sp]; omega)) only [u_fX3_outcome, u_fX3_outcome_0, h29, e_T, e_F, e_bnd, e_obr, e_obd, e_obt, e_addB, e_addA, e_in, e_cl, e_leT, e_leF, e_ltT, e_ltF, e_eqT, e_eqF, e_NOT, e_NOF, nI_add, pk_mul, k_spot, k_chan, m_node, m_pair, m_msg, m_chan, m_pack, e_w, e_wn, e_ws]
      have w9 : ω (pP n m 9) = NO := by rw [g11]; exact n29.mpr h29
      by_cases h28 : σ 28 (sp n m) = NO
      · have hz : hh = 0 := g5.mpr h28
        subst hz
        refine ⟨_, 0, upd ω (pP n m 5) (nI 0), Q, ⟨_, ko, kc, Or.inl ⟨h28, rfl, rfl⟩⟩, ?_, r1, ?_, cc 2 (by decide), e8⟩
        · simp (disch := first | omega | (simp only [pN, pP, pM, pE, pL, pC, pK, sp]; omega)) only [u_fX12_isFinal, u_fX12_isFinal_0, u_fX12_isFinal_17, u_fX12_isFinal_32, u_fX12_isFinal_51, m_ofPair, m_lays, w9, w6, e_T, e_F, e_bnd, e_obr, e_obd, e_obt, e_addB, e_addA, e_in, e_cl, e_leT, e_leF, e_ltT, e_ltF, e_eqT, e_eqF, e_NOT, e_NOF, nI_add, pk_mul, k_spot, k_chan, m_node, m_pair, m_msg, m_chan, m_pack, e_w, e_wn, e_ws]
        · exact rI_mono (rI_cease hI (by omega) hon hall (cc 15 (by decide)) (cc 2 (by decide)) e27) hmono
      · have hv : vS B (σ 28 (sp n m)) := g7.resolve_left h28
        have hz : hh ≠ 0 := fun q => h28 (g5.mp q)
        obtain ⟨σ', d, ω', Q', p1, p2, p3⟩ := put _ hv
        refine ⟨σ', d, ω', Q', ⟨_, ko, kc, Or.inr ⟨h28, p1⟩⟩, ?_, p3⟩
        simp (disch := first | omega | (simp only [pN, pP, pM, pE, pL, pC, pK, sp]; omega)) only [u_fX12_isFinal, u_fX12_isFinal_0, u_fX12_isFinal_17, u_fX12_isFinal_32, u_fX12_isFinal_51, m_ofPair, m_lays, w9, w6, g8, g9, p2, e_T, e_F, e_bnd, e_obr, e_obd, e_obt, e_addB, e_addA, e_in, e_cl, e_leT, e_leF, e_ltT, e_ltF, e_eqT, e_eqF, e_NOT, e_NOF, nI_add, pk_mul, k_spot, k_chan, m_node, m_pair, m_msg, m_chan, m_pack, e_w, e_wn, e_ws]
    · have hv : vS B (σ 29 (sp n m)) := g10.resolve_left h29
      have ko : fX3_outcome (nI (sp n m)) σ = some (σ 29 (sp n m)) := by
        simp (disch := first | omega | (simp only [pN, pP, pM, pE, pL, pC, pK, sp]; omega)) only [u_fX3_outcome, u_fX3_outcome_0, e_T, e_F, e_bnd, e_obr, e_obd, e_obt, e_addB, e_addA, e_in, e_cl, e_leT, e_leF, e_ltT, e_ltF, e_eqT, e_eqF, e_NOT, e_NOF, nI_add, pk_mul, k_spot, k_chan, m_node, m_pair, m_msg, m_chan, m_pack, e_w, e_wn, e_ws]
        rw [cnd_neg h29]
      have hz : hh ≠ 0 := fun q => h29 (g5' q)
      obtain ⟨σ', d, ω', Q', p1, p2, p3⟩ := put _ hv
      refine ⟨σ', d, ω', Q', ⟨_, ko, kc, Or.inr ⟨h29, p1⟩⟩, ?_, p3⟩
      have w9 : ω (pP n m 9) ≠ NO := by rw [g11]; exact fun q => h29 (n29.mp q)
      rw [u_fX12_isFinal, u_fX12_isFinal_0, m_ofPair (by unfold pP; omega), e_obr, cnd_neg w9]
      simp (disch := first | omega | (simp only [pN, pP, pM, pE, pL, pC, pK, sp]; omega)) only [u_fX12_isFinal_17, u_fX12_isFinal_32, u_fX12_isFinal_51, m_ofPair, m_lays, w6, g11, g12, p2, e_T, e_F, e_bnd, e_obr, e_obd, e_obt, e_addB, e_addA, e_in, e_cl, e_leT, e_leF, e_ltT, e_ltF, e_eqT, e_eqF, e_NOT, e_NOF, nI_add, pk_mul, k_spot, k_chan, m_node, m_pair, m_msg, m_chan, m_pack, e_w, e_wn, e_ws]
end OV
