/-! the pool: adding, taking away, looking -/
theorem grw_in {f : Nat → Int32} {L j : Nat} (h : j < L) : grw f L j = f j := by
  unfold grw
  rw [pk_cpy_in (by omega) (by omega)]
  congr 1
  omega
theorem k_add {pl c : Nat} {Q : Qs} {σ : Sg} {t st se : Int32} {k m : Nat} (hO : rO pl Q σ) (hl : ∀ c, c < 36 → (Q c).length ≤ 110) (hc : c < 36) :
    ∃ σ' d, fX1_add (nI c) t (nI k) (nI m) st se σ pl = some (σ', d) ∧ rO (pl + d) (uQ Q c (Q c ++ [((if σ 8 c < t then t else σ 8 c), k, m, st, se)])) σ' ∧ fA σ σ' c (if σ 8 c < t then t else σ 8 c) := by
  obtain ⟨C, F, U, a1, a2, a3, ⟨e, a4⟩, a5, a6, a7, a8, a9⟩ := hO
  have hpl : 384 ≤ pl := by have := Nat.two_pow_pos e; omega
  cases F with
  | nil =>
    have hno : σ 5 8 = NO := a8
    have hsum : sumL (fun c => (C c).length) 36 ≤ 36 * 110 := sumL_le (fun d hd => by have h := hl d hd; rw [← cells_len (a9 d hd).2.2.2.2.2] at h; exact h)
    simp only [List.length_nil] at a5
    have key : ∀ (pl' : Nat) (τ : Sg), 6 * U + 6 ≤ pl' → pl' ≤ 50000 → (∃ e, pl' = 384 * 2 ^ e) → (∀ q, q ≠ 10 → τ q = σ q) → (∀ j, j < 6 * U → τ 10 j = σ 10 j) → rY pl' Q (s2 τ 5 7 (nI (6 * (U + 1)))) U := by
      intro pl' τ h1 h2 h3 h4 h5
      refine ⟨C, [], U + 1, by rw [e_s2, pk_us], by omega, h2, h3, by simp only [List.length_nil]; omega, a6, fun j hj => absurd hj (List.not_mem_nil), ?_, by omega, fun d hd => ?_⟩
      · show s2 τ 5 7 _ 5 8 = NO
        simp (disch := first | omega | (simp only [pN, pP, pM, pE, pL, pC, pK, sp]; omega)) only [e_s2, e_s2n, pk_us, pk_un]; rw [h4 5 (by omega)]; exact hno
      · obtain ⟨d1, d2, d3, d4, d5, d6⟩ := a9 d hd
        refine ⟨d1, fun j hj => ?_, ?_, ?_, ?_, ?_⟩
        · have h := d2 j hj
          exact ⟨by omega, by omega, h.2.1, h.2.2⟩
        · simp (disch := first | omega | (simp only [pN, pP, pM, pE, pL, pC, pK, sp]; omega)) only [e_s2, e_s2n, pk_us, pk_un]; rw [h4 11 (by omega)]; exact lnk_fr d3 (fun j hj => (d2 j hj).1) h5
        · simp (disch := first | omega | (simp only [pN, pP, pM, pE, pL, pC, pK, sp]; omega)) only [e_s2, e_s2n, pk_us, pk_un]; rw [h4 12 (by omega)]; exact d4
        · simp (disch := first | omega | (simp only [pN, pP, pM, pE, pL, pC, pK, sp]; omega)) only [e_s2, e_s2n, pk_us, pk_un]; rw [h4 9 (by omega)]; exact d5
        · simp (disch := first | omega | (simp only [pN, pP, pM, pE, pL, pC, pK, sp]; omega)) only [e_s2, e_s2n, pk_us, pk_un]; exact cells_fr d6 (fun j hj => (d2 j hj).1) h5
    have fin : ∀ (pl' : Nat) (τ : Sg), (∀ q, q ≠ 10 → τ q = σ q) → ∀ σ' : Sg, fA (s2 τ 5 7 (nI (6 * (U + 1)))) σ' c (if s2 τ 5 7 (nI (6 * (U + 1))) 8 c < t then t else s2 τ 5 7 (nI (6 * (U + 1))) 8 c) → fA σ σ' c (if σ 8 c < t then t else σ 8 c) := by
      intro pl' τ h4 σ' hf
      obtain ⟨f1, f2⟩ := hf
      simp (disch := first | omega | (simp only [pN, pP, pM, pE, pL, pC, pK, sp]; omega)) only [e_s2, e_s2n, pk_us, pk_un] at f2
      rw [h4 8 (by omega)] at f2
      refine ⟨fun q h1 h2 h3 h5 h6 h7 => ?_, f2⟩
      rw [f1 q h1 h2 h3 h5 h6 h7]
      simp (disch := first | omega | (simp only [pN, pP, pM, pE, pL, pC, pK, sp]; omega)) only [e_s2, e_s2n, pk_us, pk_un]
      exact h4 q h5
    have e6 : 6 * U + 6 = 6 * (U + 1) := by omega
    by_cases hg : 6 * U + 6 ≤ pl
    · obtain ⟨σ', g1, g2, g3⟩ := k_add89 (t := t) (st := st) (se := se) (k := k) (m := m) (key pl σ hg a3 ⟨e, a4⟩ (fun _ _ => rfl) (fun _ _ => rfl)) hc
      refine ⟨σ', 0, ?_, ?_, fin pl σ (fun _ _ => rfl) σ' g3⟩
      · simp (disch := first | omega | (simp only [pN, pP, pM, pE, pL, pC, pK, sp]; omega)) only [u_fX1_add, u_fX1_add_0, u_fX1_add_72, hno, a1, e_T, e_F, e_bnd, e_obr, e_obd, e_obt, e_addB, e_addA, e_in, e_cl, e_leT, e_leF, e_ltT, e_ltF, e_eqT, e_eqF, e_NOT, e_NOF, nI_add, pk_mul, k_spot, k_chan, m_node, m_pair, m_msg, m_chan, m_pack, e_w, e_wn, e_ws]
        rw [e6]; exact g1
      · simp (disch := first | omega | (simp only [pN, pP, pM, pE, pL, pC, pK, sp]; omega)) only [e_s2, e_s2n, pk_us, pk_un] at g2
        exact g2
    · have h2e : pl + pl = 384 * 2 ^ (e + 1) := by rw [Nat.pow_succ]; omega
      have h4 : ∀ q, q ≠ 10 → sq σ 10 (grw (σ 10) pl) q = σ q := fun q hq => by simp [sq, hq]
      obtain ⟨σ', g1, g2, g3⟩ := k_add89 (t := t) (st := st) (se := se) (k := k) (m := m) (key (pl + pl) (sq σ 10 (grw (σ 10) pl)) (by omega) (by omega) ⟨e + 1, h2e⟩ h4 (fun j hj => by simp only [sq, if_true]; exact grw_in (by omega))) hc
      refine ⟨σ', pl + 0, ?_, ?_, fin (pl + pl) _ h4 σ' g3⟩
      · simp (disch := first | omega | (simp only [pN, pP, pM, pE, pL, pC, pK, sp]; omega)) only [u_fX1_add, u_fX1_add_0, u_fX1_add_72, hno, a1, e_T, e_F, e_bnd, e_obr, e_obd, e_obt, e_addB, e_addA, e_in, e_cl, e_leT, e_leF, e_ltT, e_ltF, e_eqT, e_eqF, e_NOT, e_NOF, nI_add, pk_mul, k_spot, k_chan, m_node, m_pair, m_msg, m_chan, m_pack, e_w, e_wn, e_ws]
        rw [grd_pos (⟨by omega, by omega⟩), h4 5 (by omega), a1, nI_add, e6, g1, e_addB]
      · simp (disch := first | omega | (simp only [pN, pP, pM, pE, pL, pC, pK, sp]; omega)) only [e_s2, e_s2n, pk_us, pk_un] at g2
        rw [h4 8 (by omega)] at g2
        exact g2
  | cons i F' =>
    obtain ⟨hh, hl2⟩ := a8
    have hi := a7 i List.mem_cons_self
    rw [List.nodup_cons] at a6
    simp only [List.length_cons] at a5
    have hY : rY pl Q (s2 σ 5 8 (σ 10 (6 * i + 5))) i := by
      refine ⟨C, F', U, by simp (disch := first | omega | (simp only [pN, pP, pM, pE, pL, pC, pK, sp]; omega)) only [e_s2, e_s2n, pk_us, pk_un]; exact a1, a2, a3, ⟨e, a4⟩, by omega, a6.2, fun j hj => ⟨a7 j (List.mem_cons_of_mem _ hj), fun e => a6.1 (e ▸ hj)⟩, by simp (disch := first | omega | (simp only [pN, pP, pM, pE, pL, pC, pK, sp]; omega)) only [e_s2, e_s2n, pk_us, pk_un]; exact hl2, hi, fun d hd => ?_⟩
      obtain ⟨d1, d2, d3, d4, d5, d6⟩ := a9 d hd
      simp (disch := first | omega | (simp only [pN, pP, pM, pE, pL, pC, pK, sp]; omega)) only [e_s2, e_s2n, pk_us, pk_un]
      refine ⟨d1, fun j hj => ?_, d3, d4, d5, d6⟩
      have h := d2 j hj
      exact ⟨h.1, fun e => h.2.1 (e ▸ List.mem_cons_self), fun hF => h.2.1 (List.mem_cons_of_mem _ hF), h.2.2⟩
    obtain ⟨σ', g1, g2, g3⟩ := k_add89 (t := t) (st := st) (se := se) (k := k) (m := m) hY hc
    refine ⟨σ', 0, ?_, ?_, ?_⟩
    · simp (disch := first | omega | (simp only [pN, pP, pM, pE, pL, pC, pK, sp]; omega)) only [u_fX1_add, u_fX1_add_0, hh, e_T, e_F, e_bnd, e_obr, e_obd, e_obt, e_addB, e_addA, e_in, e_cl, e_leT, e_leF, e_ltT, e_ltF, e_eqT, e_eqF, e_NOT, e_NOF, nI_add, pk_mul, k_spot, k_chan, m_node, m_pair, m_msg, m_chan, m_pack, e_w, e_wn, e_ws]
      exact g1
    · simp (disch := first | omega | (simp only [pN, pP, pM, pE, pL, pC, pK, sp]; omega)) only [e_s2, e_s2n, pk_us, pk_un] at g2
      exact g2
    · obtain ⟨f1, f2⟩ := g3
      simp (disch := first | omega | (simp only [pN, pP, pM, pE, pL, pC, pK, sp]; omega)) only [e_s2, e_s2n, pk_us, pk_un] at f2
      refine ⟨fun q h1 h2 h3 h5 h6 h7 => ?_, f2⟩
      rw [f1 q h1 h2 h3 h5 h6 h7]
      simp (disch := first | omega | (simp only [pN, pP, pM, pE, pL, pC, pK, sp]; omega)) only [e_s2, e_s2n, pk_us, pk_un]
/-- what a packet's taking away leaves as it was -/
def fB (σ σ' : Sg) : Prop := ∀ q, q ≠ 5 → q ≠ 9 → q ≠ 10 → q ≠ 11 → q ≠ 12 → σ' q = σ q
theorem k_drop {pl c : Nat} {Q : Qs} {σ : Sg} {p : Pk} {ps : List Pk} (hO : rO pl Q σ) (hc : c < 36) (hq : Q c = p :: ps) : ∃ σ', fX1_dropFirst pl (nI c) σ = some σ' ∧ rO pl (uQ Q c ps) σ' ∧ fB σ σ' := by
  obtain ⟨C, F, U, a1, a2, a3, a4, a5, a6, a7, a8, a9⟩ := hO
  obtain ⟨b1, b2, b3, b4, b5, b6⟩ := a9 c hc
  rw [hq] at b6
  cases hC : C c with
  | nil => rw [hC] at b6; exact b6.elim
  | cons i is =>
    rw [hC] at b1 b3 b4 b5 b6
    have hi := b2 i (by rw [hC]; exact List.mem_cons_self)
    rw [List.nodup_cons] at b1
    obtain ⟨hh, hl⟩ := b3
    obtain ⟨hp, hps⟩ := b6
    have hU : sumL (fun d => (uC C c is d).length) 36 + 1 = sumL (fun d => (C d).length) 36 := by
      have := sumL_upd (f := fun d => (C d).length) (g := fun d => (uC C c is d).length) (j := c) (k := 36) hc (fun d _ hd => by show (uC C c is d).length = _; rw [uC_n _ _ hd])
      simp only [uC_s, hC, List.length_cons] at this
      omega
    have fin : ∀ σ' : Sg, σ' 5 7 = σ 5 7 → σ' 5 8 = nI (6 * i) → σ' 10 = upd (σ 10) (6 * i + 5) (σ 5 8) → σ' 11 = upd (σ 11) c (σ 10 (6 * i + 5)) → (∀ d, d ≠ c → σ' 12 d = σ 12 d) → σ' 12 c = lastOf is → σ' 9 = upd (σ 9) c (nI is.length) → rO pl (uQ Q c ps) σ' := by
      intro σ' z1 z2 z3 z4 z5 z6 z7
      refine ⟨uC C c is, i :: F, U, by rw [z1]; exact a1, a2, a3, a4, by simp only [List.length_cons]; omega, List.nodup_cons.mpr ⟨hi.2.1, a6⟩, fun j hj => ?_, ?_, fun d hd => ?_⟩
      · rcases List.mem_cons.mp hj with rfl | hj
        · exact hi.1
        · exact a7 j hj
      · refine ⟨z2, ?_⟩
        rw [z3, pk_us]
        refine lnk_eq a8 (fun j hj => ?_)
        have : j ≠ i := fun e => hi.2.1 (e ▸ hj)
        simp (disch := first | omega | (simp only [pN, pP, pM, pE, pL, pC, pK, sp]; omega)) only [pk_un]
      · by_cases e : d = c
        · subst e
          rw [uC_s, uQ_s, z6, z4, z7, pk_us, pk_us, z3]
          refine ⟨b1.2, fun j hj => ?_, ?_, rfl, rfl, ?_⟩
          · have h := b2 j (by rw [hC]; exact List.mem_cons_of_mem _ hj)
            refine ⟨h.1, fun hF => ?_, fun c' hc' hn hm => ?_⟩
            · rcases List.mem_cons.mp hF with rfl | hF
              · exact b1.1 hj
              · exact h.2.1 hF
            · rw [uC_n _ _ hn] at hm
              exact h.2.2 c' hc' hn hm
          · refine lnk_eq hl (fun j hj => ?_)
            have : j ≠ i := fun e => b1.1 (e ▸ hj)
            simp (disch := first | omega | (simp only [pN, pP, pM, pE, pL, pC, pK, sp]; omega)) only [pk_un]
          · refine cells_eq hps (fun j w hj hw => ?_)
            simp (disch := first | omega | (simp only [pN, pP, pM, pE, pL, pC, pK, sp]; omega)) only [pk_un]
        · obtain ⟨d1, d2, d3, d4, d5, d6⟩ := a9 d hd
          rw [uC_n _ _ e, uQ_n _ _ e, z5 d e, z4, z7, pk_un e, pk_un e, z3]
          refine ⟨d1, fun j hj => ⟨(d2 j hj).1, fun hF => ?_, fun c' hc' hn hm => ?_⟩, ?_, d4, d5, ?_⟩
          · rcases List.mem_cons.mp hF with rfl | hF
            · exact (d2 j hj).2.2 c hc (Ne.symm e) (by rw [hC]; exact List.mem_cons_self)
            · exact (d2 j hj).2.1 hF
          · by_cases e2 : c' = c
            · subst e2
              rw [uC_s] at hm
              exact (d2 j hj).2.2 c' hc' hn (by rw [hC]; exact List.mem_cons_of_mem _ hm)
            · rw [uC_n _ _ e2] at hm
              exact (d2 j hj).2.2 c' hc' hn hm
          · refine lnk_eq d3 (fun j hj => ?_)
            have : j ≠ i := fun e' => by subst e'; exact (d2 j hj).2.2 c hc (Ne.symm e) (by rw [hC]; exact List.mem_cons_self)
            simp (disch := first | omega | (simp only [pN, pP, pM, pE, pL, pC, pK, sp]; omega)) only [pk_un]
          · refine cells_eq d6 (fun j w hj hw => ?_)
            simp (disch := first | omega | (simp only [pN, pP, pM, pE, pL, pC, pK, sp]; omega)) only [pk_un]
    have hsz : σ 9 c - nI 1 = nI is.length := by rw [b5, List.length_cons, pk_sub (by omega)]; rfl
    cases is with
    | nil =>
      have hnx : σ 10 (6 * i + 5) = NO := hl
      simp (disch := first | omega | (simp only [pN, pP, pM, pE, pL, pC, pK, sp]; omega)) only [u_fX1_dropFirst, u_fX1_dropFirst_0, u_fX1_dropFirst_44, e_T, e_F, e_bnd, e_obr, e_obd, e_obt, e_addB, e_addA, e_in, e_cl, e_leT, e_leF, e_ltT, e_ltF, e_eqT, e_eqF, e_NOT, e_NOF, nI_add, pk_mul, k_spot, k_chan, m_node, m_pair, m_msg, m_chan, m_pack, e_w, e_wn, e_ws, hh, e_s2, e_s2n, pk_us, pk_un, hnx, hsz]
      refine ⟨_, rfl, fin _ ?_ ?_ ?_ ?_ ?_ ?_ ?_, ?_⟩
      · simp (disch := first | omega | (simp only [pN, pP, pM, pE, pL, pC, pK, sp]; omega)) only [e_s2, e_s2n, pk_us, pk_un]
      · simp (disch := first | omega | (simp only [pN, pP, pM, pE, pL, pC, pK, sp]; omega)) only [e_s2, e_s2n, pk_us, pk_un]
      · simp (disch := first | omega | (simp only [pN, pP, pM, pE, pL, pC, pK, sp]; omega)) only [e_s2, e_s2n, pk_us, pk_un]
      · simp (disch := first | omega | (simp only [pN, pP, pM, pE, pL, pC, pK, sp]; omega)) only [e_s2, e_s2n, pk_us, pk_un, hnx]
      · intro d hd; simp (disch := first | omega | (simp only [pN, pP, pM, pE, pL, pC, pK, sp]; omega)) only [e_s2, e_s2n, pk_us, pk_un]
      · simp (disch := first | omega | (simp only [pN, pP, pM, pE, pL, pC, pK, sp]; omega)) only [e_s2, e_s2n, pk_us, pk_un]; rfl
      · simp (disch := first | omega | (simp only [pN, pP, pM, pE, pL, pC, pK, sp]; omega)) only [e_s2, e_s2n, pk_us, pk_un]
      · intro q h1 h2 h3 h4 h5
        simp (disch := first | omega | (simp only [pN, pP, pM, pE, pL, pC, pK, sp]; omega)) only [e_s2, e_s2n, pk_us, pk_un]
    | cons j js =>
      have hnx : σ 10 (6 * i + 5) = nI (6 * j) := hl.1
      have hj := (b2 j (by rw [hC]; simp)).1
      simp (disch := first | omega | (simp only [pN, pP, pM, pE, pL, pC, pK, sp]; omega)) only [u_fX1_dropFirst, u_fX1_dropFirst_0, u_fX1_dropFirst_44, e_T, e_F, e_bnd, e_obr, e_obd, e_obt, e_addB, e_addA, e_in, e_cl, e_leT, e_leF, e_ltT, e_ltF, e_eqT, e_eqF, e_NOT, e_NOF, nI_add, pk_mul, k_spot, k_chan, m_node, m_pair, m_msg, m_chan, m_pack, e_w, e_wn, e_ws, hh, e_s2, e_s2n, pk_us, pk_un, hnx, hsz]
      refine ⟨_, rfl, fin _ ?_ ?_ ?_ ?_ ?_ ?_ ?_, ?_⟩
      · simp (disch := first | omega | (simp only [pN, pP, pM, pE, pL, pC, pK, sp]; omega)) only [e_s2, e_s2n, pk_us, pk_un]
      · simp (disch := first | omega | (simp only [pN, pP, pM, pE, pL, pC, pK, sp]; omega)) only [e_s2, e_s2n, pk_us, pk_un]
      · simp (disch := first | omega | (simp only [pN, pP, pM, pE, pL, pC, pK, sp]; omega)) only [e_s2, e_s2n, pk_us, pk_un]
      · simp (disch := first | omega | (simp only [pN, pP, pM, pE, pL, pC, pK, sp]; omega)) only [e_s2, e_s2n, pk_us, pk_un, hnx]
      · intro d hd; simp (disch := first | omega | (simp only [pN, pP, pM, pE, pL, pC, pK, sp]; omega)) only [e_s2, e_s2n, pk_us, pk_un]
      · simp (disch := first | omega | (simp only [pN, pP, pM, pE, pL, pC, pK, sp]; omega)) only [e_s2, e_s2n, pk_us, pk_un]; rw [b4]; rfl
      · simp (disch := first | omega | (simp only [pN, pP, pM, pE, pL, pC, pK, sp]; omega)) only [e_s2, e_s2n, pk_us, pk_un]
      · intro q h1 h2 h3 h4 h5
        simp (disch := first | omega | (simp only [pN, pP, pM, pE, pL, pC, pK, sp]; omega)) only [e_s2, e_s2n, pk_us, pk_un]
