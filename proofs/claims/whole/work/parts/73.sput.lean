/-! a packet put: both sides together -/
/-- what a put packet leaves as it was, in the class's net -/
def fP (σ σ' : Sg) : Prop := (∀ q, q ≠ 0 → q ≠ 4 → q ≠ 5 → q ≠ 8 → q ≠ 9 → q ≠ 10 → q ≠ 11 → q ≠ 12 → q ≠ 16 → q ≠ 18 → σ' q = σ q) ∧ ∀ j, j ≠ 6 → σ' 0 j = σ 0 j
theorem fP_rf (σ : Sg) : fP σ σ := ⟨fun _ _ _ _ _ _ _ _ _ _ _ => rfl, fun _ _ => rfl⟩
theorem fP_tr {σ σ' σ'' : Sg} (h1 : fP σ σ') (h2 : fP σ' σ'') : fP σ σ'' := ⟨fun q a b c d e f g h i j => (h2.1 q a b c d e f g h i j).trans (h1.1 q a b c d e f g h i j), fun j hj => (h2.2 j hj).trans (h1.2 j hj)⟩
theorem fP_nt {σ σ' : Sg} (h : fP σ σ') (n : Nat) : ntB σ' n = ntB σ n := by
  unfold ntB
  rw [h.1 2 (by omega) (by omega) (by omega) (by omega) (by omega) (by omega) (by omega) (by omega) (by omega) (by omega), h.2 3 (by omega), h.2 5 (by omega)]
theorem fP_up {σ σ' : Sg} (h : fP σ σ') (n : Nat) : upB σ' n = upB σ n := by
  unfold upB
  rw [h.1 2 (by omega) (by omega) (by omega) (by omega) (by omega) (by omega) (by omega) (by omega) (by omega) (by omega)]
theorem s2_id (σ : Sg) (q i : Nat) : s2 σ q i (σ q i) = σ := by
  funext p j
  rw [e_s2'']
  split
  · rename_i h; rw [h.1, h.2]
  · rfl
theorem pP_pN {n m w a v : Nat} (hm : m < 20) (hw : w < 11) (hv : v < 25) : pP n m w ≠ pN a v := by
  unfold pP pN
  rcases Nat.lt_or_ge n a with h | h
  · have := Nat.mul_le_mul_left 245 (show n + 1 ≤ a from h); omega
  · have := Nat.mul_le_mul_left 245 h; omega
section PUT2
variable {dr : Prop} {tk : Int32} {pl N G M T B : Nat} {Q : Qs} {Dl : Nat → List Nat} {u σ : Sg} {ω : Nat → Int32}
theorem s_put {a b k m s : Nat} {st : Int32} (h : R0 dr tk pl N G M T B Q Dl σ ω) (hl : ∀ c, c < 36 → (Q c).length ≤ 110) (hd : dF dr u) (ha : a < N) (hb : b < N) (hs : s ≤ 1) (hv : ∀ t, vK M B (t, k, m, st, nI s)) (hnt : ntB σ b = false) :
    ∃ σ' d ω' t, fX7_put (nI a) (nI b) (nI k) (nI m) st (nI s) σ pl = some (σ', d) ∧ fX12_puts (nI a) (nI b) (nI k) (nI m) (num st) (nod st) (nI s) (sq u 1 ω) = some (sq u 1 ω') ∧
      R0 dr tk (pl + d) N G M T B (uQ Q (6 * a + b) (Q (6 * a + b) ++ [(t, k, m, st, nI s)])) Dl σ' ω' ∧ fP σ σ' ∧ nI T < t := by
  obtain ⟨hS, hN, hP, hD, hM, hE, hL, hC, hQ, hO, hB⟩ := h
  have h6 : N ≤ 6 := hS.1.1
  have hM20 : M ≤ 20 := hS.1.2.2.1
  have hT := hS.1.2.2.2
  have hm : m < M := (hv 0).2.1
  have hc : 6 * a + b < 36 := by omega
  obtain ⟨j, sd, hj, m1, hS1, hjc⟩ := s_jit (u := u) hS hd
  generalize hcc : 6 * a + b = c at *
  obtain ⟨⟨dl, dl1, dl2, dl3, dl4⟩, ⟨hh, hh1, hh2, hh3⟩, lst, many, pks⟩ := hC c hc
  have hlc := hl c hc
  -- the model
  have m2 : fX12_isNoticed (nI b) (sq u 1 ω) = some (nI 0) := by rw [q_isNoticed hS hN hb, hnt]; rfl
  have m3 : ω 4 + ω (pC (6 * a + b) 0) + nI j = nI (T + dl + j) := by rw [hcc, dl4, hS.2.2.2.2.1.2, nI_add, nI_add]
  obtain ⟨ω', m4, m5⟩ := m_puts (k := k) (m := m) (st := st) (by omega) (by omega) (by omega) hs (L := (Q c).length) (by omega) m2 m1 m3 (by rw [hcc]; exact many)
  rw [hcc] at m5
  rw [← lst] at m5
  generalize ht : (if σ 8 c < nI (T + dl + j) then nI (T + dl + j) else σ 8 c) = t at m5
  obtain ⟨w1, w2, w3, w4, w5, w6, w7⟩ := m5
  -- the class
  have hO1 : rO pl Q (s2 σ 0 6 sd) := rO_fr hO ⟨by simp (disch := first | omega | (simp only [pN, pP, pM, pE, pL, pC, pK, sp]; omega)) only [e_s2, e_s2n, pk_us, pk_un], by simp (disch := first | omega | (simp only [pN, pP, pM, pE, pL, pC, pK, sp]; omega)) only [e_s2, e_s2n, pk_us, pk_un]⟩ (fun d _ => ⟨by simp (disch := first | omega | (simp only [pN, pP, pM, pE, pL, pC, pK, sp]; omega)) only [e_s2, e_s2n, pk_us, pk_un], by simp (disch := first | omega | (simp only [pN, pP, pM, pE, pL, pC, pK, sp]; omega)) only [e_s2, e_s2n, pk_us, pk_un], by simp (disch := first | omega | (simp only [pN, pP, pM, pE, pL, pC, pK, sp]; omega)) only [e_s2, e_s2n, pk_us, pk_un]⟩) (fun i _ => by simp (disch := first | omega | (simp only [pN, pP, pM, pE, pL, pC, pK, sp]; omega)) only [e_s2, e_s2n, pk_us, pk_un])
  obtain ⟨τ, d, k1, k2, k3⟩ := k_add (t := nI (T + dl + j)) (st := st) (se := nI s) (k := k) (m := m) hO1 hl hc
  simp (disch := first | omega | (simp only [pN, pP, pM, pE, pL, pC, pK, sp]; omega)) only [e_s2, e_s2n, pk_us, pk_un] at k2 k3
  rw [ht] at k2 k3
  obtain ⟨f1, f2⟩ := k3
  have k4 : fX7_put_56 (nI a) (nI k) (nI m) st (nI s) (nI c) (nI (T + dl + j)) (s2 σ 0 6 sd) pl = some (s2 (s2 (s2 τ 16 m (τ 16 m + nI 1)) 18 m (τ 18 m ||| sh1 (nI a))) 4 a (τ 4 a + nI 1), d + 0) := by
    rcases (show s = 0 ∨ s = 1 by omega) with rfl | rfl
    all_goals simp (disch := first | omega | (simp only [pN, pP, pM, pE, pL, pC, pK, sp]; omega)) only [u_fX7_put_56, u_fX7_put_79, k1, e_T, e_F, e_bnd, e_obr, e_obd, e_obt, e_addB, e_addA, e_in, e_cl, e_leT, e_leF, e_ltT, e_ltF, e_eqT, e_eqF, e_NOT, e_NOF, nI_add, pk_mul, k_spot, k_chan, m_node, m_pair, m_msg, m_chan, m_pack, e_w, e_wn, e_ws, e_s2, e_s2n, pk_us, pk_un]
  have k5 : fX7_put (nI a) (nI b) (nI k) (nI m) st (nI s) σ pl = some (s2 (s2 (s2 τ 16 m (τ 16 m + nI 1)) 18 m (τ 18 m ||| sh1 (nI a))) 4 a (τ 4 a + nI 1), d + 0) := by
    simp (disch := first | omega | (simp only [pN, pP, pM, pE, pL, pC, pK, sp]; omega)) only [u_fX7_put, u_fX7_put_0, k_isNoticed, hnt, b2_f, hcc, dl3, hS.2.2.2.2.1.1, e_T, e_F, e_bnd, e_obr, e_obd, e_obt, e_addB, e_addA, e_in, e_cl, e_leT, e_leF, e_ltT, e_ltF, e_eqT, e_eqF, e_NOT, e_NOF, nI_add, pk_mul, k_spot, k_chan, m_node, m_pair, m_msg, m_chan, m_pack, e_w, e_wn, e_ws]
    rcases hjc with ⟨c1, c2, c3⟩ | ⟨c1, r, c2, c3, c4⟩
    · rw [cnd_pos c1]
      subst c2 c3
      rw [s2_id] at k4
      exact k4
    · rw [cnd_neg c1, c2]
      simp (disch := first | omega | (simp only [pN, pP, pM, pE, pL, pC, pK, sp]; omega)) only [e_T, e_F, e_bnd, e_obr, e_obd, e_obt, e_addB, e_addA, e_in, e_cl, e_leT, e_leF, e_ltT, e_ltF, e_eqT, e_eqF, e_NOT, e_NOF, nI_add, pk_mul, k_spot, k_chan, m_node, m_pair, m_msg, m_chan, m_pack, e_w, e_wn, e_ws, e_s2, e_s2n, pk_us, pk_un]
      rw [grd_pos c3, c4, nI_add]
      exact k4
  have fq : ∀ q, q ≠ 0 → q ≠ 5 → q ≠ 8 → q ≠ 9 → q ≠ 10 → q ≠ 11 → q ≠ 12 → τ q = σ q := fun q h0 h1 h2 h3 h4 h5 h6 => by
    rw [f1 q h1 h2 h3 h4 h5 h6]; simp (disch := first | omega | (simp only [pN, pP, pM, pE, pL, pC, pK, sp]; omega)) only [e_s2, e_s2n, pk_us, pk_un]
  have hw : ∀ i, i ≠ 8 → i ≠ pC c 3 → i ≠ pC c 2 → (∀ w, w < 6 → i ≠ pK c (Q c).length w) → i ≠ pM m 2 → i ≠ pM m 4 → i ≠ pN a 3 → ω' i = ω i := fun i z0 z1 z2 z3 z4 z5 z6 => by
    rw [w7 i z1 z2 z3 z4 z5 z6, pk_un z0]
  have e4 : upd ω 8 sd (pM m 2) = ω (pM m 2) := pk_un (by unfold pM; omega)
  have e5 : upd ω 8 sd (pM m 4) = ω (pM m 4) := pk_un (by unfold pM; omega)
  have e6 : upd ω 8 sd (pN a 3) = ω (pN a 3) := pk_un (by unfold pN; omega)
  rw [e4] at w4
  rw [e5] at w5
  rw [e6] at w6
  refine ⟨_, d + 0, ω', t, k5, m4, ⟨?_, ?_, ?_, ?_, ?_, ?_, ?_, ?_, ?_, ?_, ?_⟩, ?_, ?_⟩
  · -- rS
    refine rS_fr hS1 ?_ ?_ ?_ ?_
    · simp (disch := first | omega | (simp only [pN, pP, pM, pE, pL, pC, pK, sp]; omega)) only [e_s2, e_s2n, pk_us, pk_un]; rw [f1 0 (by omega) (by omega) (by omega) (by omega) (by omega) (by omega)]; exact ⟨rfl, rfl, rfl, rfl, rfl, rfl, rfl, rfl⟩
    · intro g hg; simp (disch := first | omega | (simp only [pN, pP, pM, pE, pL, pC, pK, sp]; omega)) only [e_s2, e_s2n, pk_us, pk_un]; rw [fq 1 (by omega) (by omega) (by omega) (by omega) (by omega) (by omega) (by omega)]
    · simp (disch := first | omega | (simp only [pN, pP, pM, pE, pL, pC, pK, sp]; omega)) only [e_s2, e_s2n, pk_us, pk_un]; rw [fq 13 (by omega) (by omega) (by omega) (by omega) (by omega) (by omega) (by omega)]
    · intro i hi _ _
      exact w7 i (by unfold pC; omega) (by unfold pC; omega) (fun w _ => by unfold pK; omega) (by unfold pM; omega) (by unfold pM; omega) (by unfold pN; omega)
  · -- rN
    intro n hn
    obtain ⟨n1, n2, ⟨x, n3, n4, n5⟩, n6⟩ := hN n hn
    have g : ∀ w, w < 4 → (w = 3 → n ≠ a) → ω' (pN n w) = ω (pN n w) := fun w hw' hna => hw _ (by unfold pN; omega) (by unfold pN pC; omega) (by unfold pN pC; omega) (fun w _ => by unfold pN pK; omega) (by unfold pN pM; omega) (by unfold pN pM; omega) (by unfold pN; omega)
    refine ⟨?_, ?_, ⟨x, n3, ?_, ?_⟩, ?_⟩
    · simp (disch := first | omega | (simp only [pN, pP, pM, pE, pL, pC, pK, sp]; omega)) only [e_s2, e_s2n, pk_us, pk_un]; rw [fq 2 (by omega) (by omega) (by omega) (by omega) (by omega) (by omega) (by omega), g 0 (by omega) (by omega), g 1 (by omega) (by omega)]; exact n1
    · simp (disch := first | omega | (simp only [pN, pP, pM, pE, pL, pC, pK, sp]; omega)) only [e_s2, e_s2n, pk_us, pk_un]; rw [fq 2 (by omega) (by omega) (by omega) (by omega) (by omega) (by omega) (by omega), g 0 (by omega) (by omega)]; exact n2
    · simp (disch := first | omega | (simp only [pN, pP, pM, pE, pL, pC, pK, sp]; omega)) only [e_s2, e_s2n, pk_us, pk_un]; rw [fq 3 (by omega) (by omega) (by omega) (by omega) (by omega) (by omega) (by omega)]; exact n4
    · rw [g 2 (by omega) (by omega)]; exact n5
    · by_cases hna : n = a
      · subst hna
        simp (disch := first | omega | (simp only [pN, pP, pM, pE, pL, pC, pK, sp]; omega)) only [e_s2, e_s2n, pk_us, pk_un]; rw [fq 4 (by omega) (by omega) (by omega) (by omega) (by omega) (by omega) (by omega), w6, n6]
      · simp (disch := first | omega | (simp only [pN, pP, pM, pE, pL, pC, pK, sp]; omega)) only [e_s2, e_s2n, pk_us, pk_un]; rw [fq 4 (by omega) (by omega) (by omega) (by omega) (by omega) (by omega) (by omega), g 3 (by omega) (fun _ => hna), n6]
  · -- rP
    refine rP_fr hP (fun i _ => ?_) (fun n m w hn hm' hw' => hw _ (by unfold pP; omega) (by unfold pP pC; omega) (by unfold pP pC; omega) (fun w _ => by unfold pP pK; omega) (by unfold pP pM; omega) (by unfold pP pM; omega) (pP_pN hm' hw' (by omega)))
    simp (disch := first | omega | (simp only [pN, pP, pM, pE, pL, pC, pK, sp]; omega)) only [e_s2, e_s2n, pk_us, pk_un]
    rw [fq 20 (by omega) (by omega) (by omega) (by omega) (by omega) (by omega) (by omega), fq 21 (by omega) (by omega) (by omega) (by omega) (by omega) (by omega) (by omega), fq 22 (by omega) (by omega) (by omega) (by omega) (by omega) (by omega) (by omega), fq 23 (by omega) (by omega) (by omega) (by omega) (by omega) (by omega) (by omega), fq 27 (by omega) (by omega) (by omega) (by omega) (by omega) (by omega) (by omega), fq 28 (by omega) (by omega) (by omega) (by omega) (by omega) (by omega) (by omega), fq 29 (by omega) (by omega) (by omega) (by omega) (by omega) (by omega) (by omega)]
    exact ⟨rfl, rfl, rfl, rfl, rfl, rfl, rfl⟩
  · -- rD
    refine rD_fr hD (fun i _ => ?_) (fun n m' _ _ => ?_) (fun n _ => ?_) (fun n w hn hw' hw4 => hw _ (by unfold pN; omega) (by unfold pN pC; omega) (by unfold pN pC; omega) (fun w _ => by unfold pN pK; omega) (by unfold pN pM; omega) (by unfold pN pM; omega) (by unfold pN; omega))
    · simp (disch := first | omega | (simp only [pN, pP, pM, pE, pL, pC, pK, sp]; omega)) only [e_s2, e_s2n, pk_us, pk_un]
      rw [fq 20 (by omega) (by omega) (by omega) (by omega) (by omega) (by omega) (by omega), fq 24 (by omega) (by omega) (by omega) (by omega) (by omega) (by omega) (by omega), fq 23 (by omega) (by omega) (by omega) (by omega) (by omega) (by omega) (by omega)]
      exact ⟨rfl, rfl, rfl⟩
    · simp (disch := first | omega | (simp only [pN, pP, pM, pE, pL, pC, pK, sp]; omega)) only [e_s2, e_s2n, pk_us, pk_un]
      rw [fq 17 (by omega) (by omega) (by omega) (by omega) (by omega) (by omega) (by omega)]
    · simp (disch := first | omega | (simp only [pN, pP, pM, pE, pL, pC, pK, sp]; omega)) only [e_s2, e_s2n, pk_us, pk_un]
      rw [fq 25 (by omega) (by omega) (by omega) (by omega) (by omega) (by omega) (by omega)]
  · -- rM
    intro x hx
    obtain ⟨⟨q1, q2, q3, q4, q5⟩, q6, q7⟩ := hM x hx
    have g : ∀ w, w < 5 → (w = 2 ∨ w = 4 → x ≠ m) → ω' (pM x w) = ω (pM x w) := fun w hw' hna => hw _ (by unfold pM; omega) (by unfold pM pC; omega) (by unfold pM pC; omega) (fun w _ => by unfold pM pK; omega) (by unfold pM; omega) (by unfold pM; omega) (by unfold pM pN; omega)
    have y14 : τ 14 = σ 14 := fq 14 (by omega) (by omega) (by omega) (by omega) (by omega) (by omega) (by omega)
    have y15 : τ 15 = σ 15 := fq 15 (by omega) (by omega) (by omega) (by omega) (by omega) (by omega) (by omega)
    have y16 : τ 16 = σ 16 := fq 16 (by omega) (by omega) (by omega) (by omega) (by omega) (by omega) (by omega)
    have y17 : τ 17 = σ 17 := fq 17 (by omega) (by omega) (by omega) (by omega) (by omega) (by omega) (by omega)
    have y18 : τ 18 = σ 18 := fq 18 (by omega) (by omega) (by omega) (by omega) (by omega) (by omega) (by omega)
    by_cases hxm : x = m
    · subst hxm
      simp (disch := first | omega | (simp only [pN, pP, pM, pE, pL, pC, pK, sp]; omega)) only [e_s2, e_s2n, pk_us, pk_un, y14, y15, y16, y17, y18]
      rw [g 0 (by omega) (by omega), g 1 (by omega) (by omega), g 3 (by omega) (by omega), w4, w5, q3, q5]
      exact ⟨⟨q1, q2, rfl, q4, rfl⟩, q6, fun h => absurd h (by omega)⟩
    · simp (disch := first | omega | (simp only [pN, pP, pM, pE, pL, pC, pK, sp]; omega)) only [e_s2, e_s2n, pk_us, pk_un, y14, y15, y16, y17, y18]
      rw [g 0 (by omega) (by omega), g 1 (by omega) (by omega), g 3 (by omega) (by omega), g 2 (by omega) (fun _ => hxm), g 4 (by omega) (fun _ => hxm)]
      exact ⟨⟨q1, q2, q3, q4, q5⟩, q6, q7⟩
  · -- rE
    refine rE_fr hE ?_ (fun k hk => ?_) (hw 7 (by omega) (by unfold pC; omega) (by unfold pC; omega) (fun w _ => by unfold pK; omega) (by unfold pM; omega) (by unfold pM; omega) (by unfold pN; omega)) (fun k w hk hw' => hw _ (by unfold pE; omega) (by unfold pE pC; omega) (by unfold pE pC; omega) (fun w _ => by unfold pE pK; omega) (by unfold pE pM; omega) (by unfold pE pM; omega) (by unfold pE pN; omega))
    · simp (disch := first | omega | (simp only [pN, pP, pM, pE, pL, pC, pK, sp]; omega)) only [e_s2, e_s2n, pk_us, pk_un]; rw [fq 30 (by omega) (by omega) (by omega) (by omega) (by omega) (by omega) (by omega)]
    · simp (disch := first | omega | (simp only [pN, pP, pM, pE, pL, pC, pK, sp]; omega)) only [e_s2, e_s2n, pk_us, pk_un]
      rw [fq 31 (by omega) (by omega) (by omega) (by omega) (by omega) (by omega) (by omega), fq 32 (by omega) (by omega) (by omega) (by omega) (by omega) (by omega) (by omega), fq 33 (by omega) (by omega) (by omega) (by omega) (by omega) (by omega) (by omega)]
      exact ⟨rfl, rfl, rfl⟩
  · -- rL
    refine rL_fr hL ?_ (fun k hk => ?_) (hw 9 (by omega) (by unfold pC; omega) (by unfold pC; omega) (fun w _ => by unfold pK; omega) (by unfold pM; omega) (by unfold pM; omega) (by unfold pN; omega)) (fun k w hk hw' => hw _ (by unfold pL; omega) (by unfold pL pC; omega) (by unfold pL pC; omega) (fun w _ => by unfold pL pK; omega) (by unfold pL pM; omega) (by unfold pL pM; omega) (by unfold pL pN; omega))
    · simp (disch := first | omega | (simp only [pN, pP, pM, pE, pL, pC, pK, sp]; omega)) only [e_s2, e_s2n, pk_us, pk_un]; rw [fq 34 (by omega) (by omega) (by omega) (by omega) (by omega) (by omega) (by omega)]; exact ⟨rfl, rfl⟩
    · simp (disch := first | omega | (simp only [pN, pP, pM, pE, pL, pC, pK, sp]; omega)) only [e_s2, e_s2n, pk_us, pk_un]; rw [fq 35 (by omega) (by omega) (by omega) (by omega) (by omega) (by omega) (by omega)]
  · -- rC
    have y6 : τ 6 = σ 6 := fq 6 (by omega) (by omega) (by omega) (by omega) (by omega) (by omega) (by omega)
    have y7 : τ 7 = σ 7 := fq 7 (by omega) (by omega) (by omega) (by omega) (by omega) (by omega) (by omega)
    intro x hx
    simp (disch := first | omega | (simp only [pN, pP, pM, pE, pL, pC, pK, sp]; omega)) only [e_s2, e_s2n, pk_us, pk_un, y6, y7, f2]
    by_cases hxc : x = c
    · subst hxc
      have g : ∀ i, i < 844 → i ≠ 3 → i ≠ 2 → (∀ w, w < 6 → i ≠ 4 + 6 * (Q x).length + w) → ω' (pC x i) = ω (pC x i) := fun i hi z1 z2 z3 => hw _ (by unfold pC; omega) (by unfold pC; omega) (by unfold pC; omega) (fun w hw' => by have := z3 w hw'; unfold pC pK; omega) (by unfold pC pM; omega) (by unfold pC pM; omega) (by unfold pC pN; omega)
      rw [uQ_s, pk_us]
      refine ⟨⟨dl, dl1, dl2, dl3, by rw [g 0 (by omega) (by omega) (by omega) (fun w _ => by omega)]; exact dl4⟩, ⟨hh, hh1, hh2, by rw [g 1 (by omega) (by omega) (by omega) (fun w _ => by omega)]; exact hh3⟩, w1.symm, by rw [w2, List.length_append]; rfl, fun k' p hk' => ?_⟩
      rcases Nat.lt_or_ge k' (Q x).length with hlt | hge
      · rw [List.getElem?_append_left hlt] at hk'
        have gg : ∀ w, w < 6 → ω' (pK x k' w) = ω (pK x k' w) := fun w hw' => by
          have := g (4 + 6 * k' + w) (by omega) (by omega) (by omega) (fun w' _ => by omega)
          rw [show pC x (4 + 6 * k' + w) = pK x k' w from by unfold pC pK; omega] at this
          exact this
        have := pks k' p hk'
        unfold kM at this ⊢
        rw [gg 0 (by omega), gg 1 (by omega), gg 2 (by omega), gg 3 (by omega), gg 4 (by omega), gg 5 (by omega)]
        exact this
      · rw [List.getElem?_append_right hge] at hk'
        have : k' = (Q x).length := by
          have := (List.getElem?_eq_some_iff.mp hk').1
          simp only [List.length_cons, List.length_nil] at this
          omega
        subst this
        rw [Nat.sub_self] at hk'
        cases hk'
        exact w3
    · obtain ⟨q1, q2, q3, q4, q5⟩ := hC x hx
      have hlx := hl x hx
      have g : ∀ i, i < 844 → ω' (pC x i) = ω (pC x i) := fun i hi => hw _ (by unfold pC; omega) (by unfold pC; omega) (by unfold pC; omega) (fun w hw' => by unfold pC pK; omega) (by unfold pC pM; omega) (by unfold pC pM; omega) (by unfold pC pN; omega)
      rw [uQ_n _ _ hxc, pk_un hxc, g 0 (by omega), g 1 (by omega), g 2 (by omega), g 3 (by omega)]
      refine ⟨q1, q2, q3, q4, fun k' p hk' => ?_⟩
      have hk2 := (List.getElem?_eq_some_iff.mp hk').1
      have gg : ∀ w, w < 6 → ω' (pK x k' w) = ω (pK x k' w) := fun w hw' => by
        have := g (4 + 6 * k' + w) (by omega)
        rw [show pC x (4 + 6 * k' + w) = pK x k' w from by unfold pC pK; omega] at this
        exact this
      have := q5 k' p hk'
      unfold kM at this ⊢
      rw [gg 0 (by omega), gg 1 (by omega), gg 2 (by omega), gg 3 (by omega), gg 4 (by omega), gg 5 (by omega)]
      exact this
  · -- rQ
    intro x y hx hy
    obtain ⟨q1, q2⟩ := hQ x y hx hy
    by_cases hxy : 6 * x + y = c
    · rw [hxy, uQ_s]
      rw [hxy] at q1
      refine ⟨fun p hp => ?_, fun hz => by omega⟩
      rcases List.mem_append.mp hp with hp | hp
      · exact q1 p hp
      · rw [List.mem_singleton] at hp
        subst hp
        exact hv _
    · rw [uQ_n _ _ hxy]; exact ⟨q1, q2⟩
  · -- rO
    refine rO_fr k2 ⟨by simp (disch := first | omega | (simp only [pN, pP, pM, pE, pL, pC, pK, sp]; omega)) only [e_s2, e_s2n, pk_us, pk_un], by simp (disch := first | omega | (simp only [pN, pP, pM, pE, pL, pC, pK, sp]; omega)) only [e_s2, e_s2n, pk_us, pk_un]⟩ (fun d _ => ⟨by simp (disch := first | omega | (simp only [pN, pP, pM, pE, pL, pC, pK, sp]; omega)) only [e_s2, e_s2n, pk_us, pk_un], by simp (disch := first | omega | (simp only [pN, pP, pM, pE, pL, pC, pK, sp]; omega)) only [e_s2, e_s2n, pk_us, pk_un], by simp (disch := first | omega | (simp only [pN, pP, pM, pE, pL, pC, pK, sp]; omega)) only [e_s2, e_s2n, pk_us, pk_un]⟩) (fun i _ => by simp (disch := first | omega | (simp only [pN, pP, pM, pE, pL, pC, pK, sp]; omega)) only [e_s2, e_s2n, pk_us, pk_un])
  · rw [cnt_fr (σ := σ) (fun i _ => by simp (disch := first | omega | (simp only [pN, pP, pM, pE, pL, pC, pK, sp]; omega)) only [e_s2, e_s2n, pk_us, pk_un]; rw [fq 20 (by omega) (by omega) (by omega) (by omega) (by omega) (by omega) (by omega)])]; exact hB
  · refine ⟨fun q h0 h1 h2 h3 h4 h5 h6 h7 h8 h9 => ?_, fun i hi => ?_⟩
    · simp (disch := first | omega | (simp only [pN, pP, pM, pE, pL, pC, pK, sp]; omega)) only [e_s2, e_s2n, pk_us, pk_un]; exact fq q h0 h2 h3 h4 h5 h6 h7
    · simp (disch := first | omega | (simp only [pN, pP, pM, pE, pL, pC, pK, sp]; omega)) only [e_s2, e_s2n, pk_us, pk_un]; rw [f1 0 (by omega) (by omega) (by omega) (by omega) (by omega) (by omega)]; simp (disch := first | omega | (simp only [pN, pP, pM, pE, pL, pC, pK, sp]; omega)) only [e_s2, e_s2n, pk_us, pk_un]
  · rw [← ht]
    by_cases hlt : σ 8 c < nI (T + dl + j)
    · rw [if_pos hlt]; exact nI_lt (by omega) (by omega)
    · rw [if_neg hlt]
      rw [Int32.lt_iff_toInt_lt] at hlt ⊢
      rw [nI_toInt (by omega)] at hlt ⊢
      omega
end PUT2
