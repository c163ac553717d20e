/-! the third part of a tick -/
def eL (n m : Nat) : Nat → Nat → Nat := fun a b => if a < n ∨ (a = n ∧ b < m) then 1 else 0
theorem eL_le (n m : Nat) : ∀ a b, eL n m a b ≤ 1 := fun a b => by unfold eL; split <;> omega
theorem eL_self (n m : Nat) : eL n m n m = 0 := by unfold eL; rw [if_neg (by omega)]
theorem eL_next (n m : Nat) : eL n (m + 1) n m = 1 := by unfold eL; rw [if_pos (by omega)]
theorem eL_mono {n m n' m' : Nat} (h : n < n' ∨ (n = n' ∧ m ≤ m')) : ∀ a b, eL n m a b ≤ eL n' m' a b := fun a b => by
  unfold eL
  by_cases g : a < n ∨ (a = n ∧ b < m)
  · rw [if_pos g, if_pos (by omega)]; exact Nat.le_refl _
  · rw [if_neg g]; omega
section LE
variable {dr : Prop} {tk : Int32} {N G M T : Nat} {Dl : Nat → List Nat}
theorem s_lead1 {n m pl : Nat} {σ u : Sg} {ω : Nat → Int32} (hn : n < N) (hm : m < M) (hu : σ 2 n = NO) (hR : RR dr tk (eL n m) pl N G M T Dl σ u ω) :
    ∃ σ' d ω', (∀ K2 f, fX7_leadAll_12 K2 (f + 1) (nI n) (nI m) σ pl = addB d (fX7_leadAll_12 K2 f (nI n) (nI (m + 1)) σ' (pl + d))) ∧ (∀ f', fX12_leads_2 (f' + 1) (nI n) (nI m) (sq u 1 ω) = fX12_leads_2 f' (nI n) (nI (m + 1)) (sq u 1 ω')) ∧ RR dr tk (eL n (m + 1)) (pl + d) N G M T Dl σ' u ω' ∧ σ' 2 = σ 2 ∧ (σ' 0 8 = nI 1 ∨ (σ' = σ ∧ d = 0 ∧ mustB σ n m = false ∧ fullB N σ n m = false)) ∧ (mustB σ n m = false → fullB N σ n m = false → σ' = σ) := by
  obtain ⟨Q, B, h, hI, hd⟩ := hR
  have h6 := h.1.1.1
  have hM20 := h.1.1.2.2.1
  have hsp : sp n m < 120 := by unfold sp; omega
  have z13 := h.1.2.2.2.1.1
  have z3 := h.1.2.2.2.1.2
  have hup := k_isUp (σ := σ) (n := n) (by omega)
  rw [show upB σ n = true from decide_eq_true hu] at hup
  have km := k_must h hn hm hu
  have mm := m_heir (u := u) h hn hm
  have hmono := eL_mono (n := n) (m := m) (n' := n) (m' := m + 1) (by omega)
  cases hmu : mustB σ n m with
  | true =>
    rw [hmu] at km mm
    unfold mustB at hmu
    rw [Bool.and_eq_true, Bool.and_eq_true, Bool.and_eq_true, Bool.and_eq_true] at hmu
    have hoff : σ 27 (sp n m) = NO := of_decide_eq_true hmu.2.1
    have hto : bt (σ 15 m) n = true := hmu.2.2.2.1
    obtain ⟨σa, ωa, σ', d, ω', Q', k1, m1, p1, p2, p3, p4, p5, p6, p7, p8, p9⟩ := s_over (u := u) h hI (eL_le n m) hd hn hm hoff hmono (eL_self n m) (by rw [eL_next]; exact Nat.le_refl _)
    have hon' : σ' 27 (sp n m) ≠ NO := by rw [p8, pk_us]; exact NO_ne (by omega)
    have hf' : fullB N σ' n m = false := by
      cases hf : fullB N σ' n m with
      | false => rfl
      | true =>
        unfold fullB at hf
        rw [Bool.and_eq_true, allB_iff] at hf
        have := hf.2 n hn
        unfold fullP at this
        rw [p7, p8, pk_us, p9, up_nt hu, hto, b_n0] at this
        exact absurd this (by decide)
    have kf := k_full p3 hn hm
    have mf := m_full (u := u) p3 hn hm hon'
    rw [hf'] at kf mf
    have w5 : ω' (pP n m 5) = nI 1 := by
      rcases on_off p3 (show n < 6 by omega) (show m < 20 by omega) with ⟨g, -⟩ | ⟨-, g, -⟩
      · exact absurd g hon'
      · exact g
    refine ⟨σ', d, ω', fun K2 f => ?_, fun f' => ?_, ⟨Q', B, p3, p4, hd⟩, p5, Or.inl p6, (fun q => by cases q)⟩
    · simp (disch := first | omega | (simp only [pN, pP, pM, pE, pL, pC, pK, sp]; omega)) only [u_fX7_leadAll_12, u_fX7_leadAll_89, u_fX7_leadAll_142, z13, hup, km, k1, k_begin, p1, kf, b2_t, b2_f, e_T, e_F, e_bnd, e_obr, e_obd, e_obt, e_addB, e_addA, e_in, e_cl, e_leT, e_leF, e_ltT, e_ltF, e_eqT, e_eqF, e_NOT, e_NOF, nI_add, pk_mul, k_spot, k_chan, m_node, m_pair, m_msg, m_chan, m_pack, e_w, e_wn, e_ws, e_s2, e_s2n, pk_us, pk_un]
    · simp (disch := first | omega | (simp only [pN, pP, pM, pE, pL, pC, pK, sp]; omega)) only [u_fX12_leads_2, u_fX12_leads_52, u_fX12_leads_78, m_messages, z3, mm, m_gathers, m1, p2, m_ofPair, w5, mf, b2_t, b2_f, e_T, e_F, e_bnd, e_obr, e_obd, e_obt, e_addB, e_addA, e_in, e_cl, e_leT, e_leF, e_ltT, e_ltF, e_eqT, e_eqF, e_NOT, e_NOF, nI_add, pk_mul, k_spot, k_chan, m_node, m_pair, m_msg, m_chan, m_pack, e_w, e_wn, e_ws]
  | false =>
    rw [hmu] at km mm
    have kf := k_full h hn hm
    cases hfu : fullB N σ n m with
    | true =>
      rw [hfu] at kf
      have hon : σ 27 (sp n m) ≠ NO := fun q => by unfold fullB at hfu; rw [decide_eq_true q] at hfu; cases hfu
      have mf := m_full (u := u) h hn hm hon
      rw [hfu] at mf
      have w5 : ω (pP n m 5) = nI 1 := by
        rcases on_off h (show n < 6 by omega) (show m < 20 by omega) with ⟨g, -⟩ | ⟨-, g, -⟩
        · exact absurd g hon
        · exact g
      obtain ⟨σ', d, ω', Q', ⟨r, x1, x2, x3⟩, x4, x5, x6, x7, x8⟩ := s_final (u := u) h hI (eL_le n m) hd hn hm hfu hmono (eL_self n m) (by rw [eL_next]; exact Nat.le_refl _)
      refine ⟨σ', d, ω', fun K2 f => ?_, fun f' => ?_, ⟨Q', B, x5, x6, hd⟩, x7, Or.inl x8, (fun _ q => by cases q)⟩
      · rcases x3 with ⟨y1, y2, y3⟩ | ⟨y1, y2⟩
        · subst y1 y2 y3
          rw [addB_0]
          simp (disch := first | omega | (simp only [pN, pP, pM, pE, pL, pC, pK, sp]; omega)) only [u_fX7_leadAll_12, u_fX7_leadAll_89, u_fX7_leadAll_142, z13, hup, km, kf, x1, x2, b2_t, b2_f, Nat.add_zero, e_T, e_F, e_bnd, e_obr, e_obd, e_obt, e_addB, e_addA, e_in, e_cl, e_leT, e_leF, e_ltT, e_ltF, e_eqT, e_eqF, e_NOT, e_NOF, nI_add, pk_mul, k_spot, k_chan, m_node, m_pair, m_msg, m_chan, m_pack, e_w, e_wn, e_ws]
        · simp (disch := first | omega | (simp only [pN, pP, pM, pE, pL, pC, pK, sp]; omega)) only [u_fX7_leadAll_12, u_fX7_leadAll_89, u_fX7_leadAll_142, z13, hup, km, kf, x1, x2, b2_t, b2_f, e_T, e_F, e_bnd, e_obr, e_obd, e_obt, e_addB, e_addA, e_in, e_cl, e_leT, e_leF, e_ltT, e_ltF, e_eqT, e_eqF, e_NOT, e_NOF, nI_add, pk_mul, k_spot, k_chan, m_node, m_pair, m_msg, m_chan, m_pack, e_w, e_wn, e_ws]
          rw [cnd_neg y1, y2]
          simp (disch := first | omega | (simp only [pN, pP, pM, pE, pL, pC, pK, sp]; omega)) only [e_T, e_F, e_bnd, e_obr, e_obd, e_obt, e_addB, e_addA, e_in, e_cl, e_leT, e_leF, e_ltT, e_ltF, e_eqT, e_eqF, e_NOT, e_NOF, nI_add, pk_mul, k_spot, k_chan, m_node, m_pair, m_msg, m_chan, m_pack, e_w, e_wn, e_ws]
      · simp (disch := first | omega | (simp only [pN, pP, pM, pE, pL, pC, pK, sp]; omega)) only [u_fX12_leads_2, u_fX12_leads_52, u_fX12_leads_78, m_messages, z3, mm, m_ofPair, w5, mf, x4, b2_t, b2_f, e_T, e_F, e_bnd, e_obr, e_obd, e_obt, e_addB, e_addA, e_in, e_cl, e_leT, e_leF, e_ltT, e_ltF, e_eqT, e_eqF, e_NOT, e_NOF, nI_add, pk_mul, k_spot, k_chan, m_node, m_pair, m_msg, m_chan, m_pack, e_w, e_wn, e_ws]
    | false =>
      rw [hfu] at kf
      refine ⟨σ, 0, ω, fun K2 f => ?_, fun f' => ?_, ⟨Q, B, h, rI_mono hI hmono, hd⟩, rfl, Or.inr ⟨rfl, rfl, rfl, rfl⟩, fun _ _ => rfl⟩
      · rw [addB_0]
        simp (disch := first | omega | (simp only [pN, pP, pM, pE, pL, pC, pK, sp]; omega)) only [u_fX7_leadAll_12, u_fX7_leadAll_89, u_fX7_leadAll_142, z13, hup, km, kf, b2_t, b2_f, Nat.add_zero, e_T, e_F, e_bnd, e_obr, e_obd, e_obt, e_addB, e_addA, e_in, e_cl, e_leT, e_leF, e_ltT, e_ltF, e_eqT, e_eqF, e_NOT, e_NOF, nI_add, pk_mul, k_spot, k_chan, m_node, m_pair, m_msg, m_chan, m_pack, e_w, e_wn, e_ws]
      · rcases on_off h (show n < 6 by omega) (show m < 20 by omega) with ⟨-, g⟩ | ⟨hon, g, -⟩
        · simp (disch := first | omega | (simp only [pN, pP, pM, pE, pL, pC, pK, sp]; omega)) only [u_fX12_leads_2, u_fX12_leads_52, u_fX12_leads_78, m_messages, z3, mm, m_ofPair, g, b2_t, b2_f, e_T, e_F, e_bnd, e_obr, e_obd, e_obt, e_addB, e_addA, e_in, e_cl, e_leT, e_leF, e_ltT, e_ltF, e_eqT, e_eqF, e_NOT, e_NOF, nI_add, pk_mul, k_spot, k_chan, m_node, m_pair, m_msg, m_chan, m_pack, e_w, e_wn, e_ws]
        · have mf := m_full (u := u) h hn hm hon
          rw [hfu] at mf
          simp (disch := first | omega | (simp only [pN, pP, pM, pE, pL, pC, pK, sp]; omega)) only [u_fX12_leads_2, u_fX12_leads_52, u_fX12_leads_78, m_messages, z3, mm, m_ofPair, g, mf, b2_t, b2_f, e_T, e_F, e_bnd, e_obr, e_obd, e_obt, e_addB, e_addA, e_in, e_cl, e_leT, e_leF, e_ltT, e_ltF, e_eqT, e_eqF, e_NOT, e_NOF, nI_add, pk_mul, k_spot, k_chan, m_node, m_pair, m_msg, m_chan, m_pack, e_w, e_wn, e_ws]
theorem s_leads {n : Nat} (hn : n < N) : ∀ (r m f f' pl : Nat) (σ u : Sg) (ω : Nat → Int32), m + r = M → r < f → r < f' → σ 2 n = NO → RR dr tk (eL n m) pl N G M T Dl σ u ω →
    ∃ σ' d ω', (∀ K2, fX7_leadAll_12 K2 f (nI n) (nI m) σ pl = addB d (K2 (nI (n + 1)) σ' (pl + d))) ∧ fX12_leads_2 f' (nI n) (nI m) (sq u 1 ω) = some (sq u 1 ω') ∧ RR dr tk (eL n M) (pl + d) N G M T Dl σ' u ω' ∧ σ' 2 = σ 2 ∧ (σ' 0 8 = nI 1 ∨ (σ' = σ ∧ d = 0 ∧ ∀ m', m ≤ m' → m' < M → mustB σ n m' = false ∧ fullB N σ n m' = false)) ∧ ((∀ m', m ≤ m' → m' < M → mustB σ n m' = false ∧ fullB N σ n m' = false) → σ' = σ) := by
  intro r
  induction r with
  | zero =>
    intro m f f' pl σ u ω hm hf hf' hu hR
    obtain ⟨f, rfl⟩ : ∃ k, f = k + 1 := ⟨f - 1, by omega⟩
    obtain ⟨f', rfl⟩ : ∃ k, f' = k + 1 := ⟨f' - 1, by omega⟩
    have hm : m = M := by omega
    subst hm
    obtain ⟨Q, B, h, hI, hd⟩ := id hR
    have hM20 := h.1.1.2.2.1
    have z13 := h.1.2.2.2.1.1
    have z3 := h.1.2.2.2.1.2
    refine ⟨σ, 0, ω, fun K2 => ?_, ?_, hR, rfl, Or.inr ⟨rfl, rfl, fun m' h1 h2 => by omega⟩, fun _ => rfl⟩
    · rw [addB_0]
      simp (disch := first | omega | (simp only [pN, pP, pM, pE, pL, pC, pK, sp]; omega)) only [u_fX7_leadAll_12, u_fX7_leadAll_148, z13, Nat.add_zero, e_T, e_F, e_bnd, e_obr, e_obd, e_obt, e_addB, e_addA, e_in, e_cl, e_leT, e_leF, e_ltT, e_ltF, e_eqT, e_eqF, e_NOT, e_NOF, nI_add, pk_mul, k_spot, k_chan, m_node, m_pair, m_msg, m_chan, m_pack, e_w, e_wn, e_ws]
    · simp (disch := first | omega | (simp only [pN, pP, pM, pE, pL, pC, pK, sp]; omega)) only [u_fX12_leads_2, m_messages, z3, e_T, e_F, e_bnd, e_obr, e_obd, e_obt, e_addB, e_addA, e_in, e_cl, e_leT, e_leF, e_ltT, e_ltF, e_eqT, e_eqF, e_NOT, e_NOF, nI_add, pk_mul, k_spot, k_chan, m_node, m_pair, m_msg, m_chan, m_pack, e_w, e_wn, e_ws]
  | succ r ih =>
    intro m f f' pl σ u ω hm hf hf' hu hR
    obtain ⟨f, rfl⟩ : ∃ k, f = k + 1 := ⟨f - 1, by omega⟩
    obtain ⟨f', rfl⟩ : ∃ k, f' = k + 1 := ⟨f' - 1, by omega⟩
    obtain ⟨σ1, d1, ω1, a1, a2, a3, a4, a5, a6⟩ := s_lead1 hn (show m < M by omega) hu hR
    obtain ⟨σ', d, ω', t1, t2, t3, t4, t5, t6⟩ := ih (m + 1) f f' (pl + d1) σ1 u ω1 (by omega) (by omega) (by omega) (by rw [a4]; exact hu) a3
    refine ⟨σ', d1 + d, ω', fun K2 => by rw [a1, t1, addB_addB, Nat.add_assoc], by rw [a2, t2], by rw [← Nat.add_assoc]; exact t3, by rw [t4, a4], ?_, fun q => ?_⟩
    · rcases t5 with t5 | ⟨rfl, rfl, t5⟩
      · exact Or.inl t5
      · rcases a5 with a5 | ⟨rfl, rfl, a5⟩
        · exact Or.inl a5
        · refine Or.inr ⟨rfl, rfl, fun m' h1 h2 => ?_⟩
          by_cases e : m' = m
          · subst e; exact a5
          · exact t5 m' (by omega) h2
    · have z := q m (by omega) (by omega)
      have e1 := a6 z.1 z.2
      subst e1
      exact t6 (fun m' h1 h2 => q m' (by omega) h2)
theorem s_leadAll_lp : ∀ (r n f f' pl : Nat) (σ u : Sg) (ω : Nat → Int32), n + r = N → r < f → r < f' → RR dr tk (eL n 0) pl N G M T Dl σ u ω →
    ∃ σ' d ω', fX7_leadAll_2 f (nI n) σ pl = some (σ', d) ∧ (∀ x2, fX12_oneTick_72 f' x2 (nI n) (sq u 1 ω) = fX12_oneTick_101 FU x2 (nI 0) (sq u 1 ω')) ∧ RR dr tk (eL N 0) (pl + d) N G M T Dl σ' u ω' ∧ σ' 2 = σ 2 ∧ (σ' 0 8 = nI 1 ∨ (σ' = σ ∧ d = 0 ∧ ∀ n', n ≤ n' → n' < N → σ 2 n' = NO → ∀ m', m' < M → mustB σ n' m' = false ∧ fullB N σ n' m' = false)) ∧ ((∀ n', n ≤ n' → n' < N → σ 2 n' = NO → ∀ m', m' < M → mustB σ n' m' = false ∧ fullB N σ n' m' = false) → σ' = σ) := by
  intro r
  induction r with
  | zero =>
    intro n f f' pl σ u ω hn hf hf' hR
    obtain ⟨f, rfl⟩ : ∃ k, f = k + 1 := ⟨f - 1, by omega⟩
    obtain ⟨f', rfl⟩ : ∃ k, f' = k + 1 := ⟨f' - 1, by omega⟩
    have hn : n = N := by omega
    subst hn
    obtain ⟨Q, B, h, hI, hd⟩ := id hR
    have h6 := h.1.1.1
    have z1 := h.1.2.1.1
    have z2 := h.1.2.1.2
    refine ⟨σ, 0, ω, ?_, fun x2 => ?_, hR, rfl, Or.inr ⟨rfl, rfl, fun n' h1 h2 => by omega⟩, fun _ => rfl⟩
    · simp (disch := first | omega | (simp only [pN, pP, pM, pE, pL, pC, pK, sp]; omega)) only [u_fX7_leadAll_2, z1, e_T, e_F, e_bnd, e_obr, e_obd, e_obt, e_addB, e_addA, e_in, e_cl, e_leT, e_leF, e_ltT, e_ltF, e_eqT, e_eqF, e_NOT, e_NOF, nI_add, pk_mul, k_spot, k_chan, m_node, m_pair, m_msg, m_chan, m_pack, e_w, e_wn, e_ws]
    · simp (disch := first | omega | (simp only [pN, pP, pM, pE, pL, pC, pK, sp]; omega)) only [u_fX12_oneTick_72, m_nodes, z2, e_T, e_F, e_bnd, e_obr, e_obd, e_obt, e_addB, e_addA, e_in, e_cl, e_leT, e_leF, e_ltT, e_ltF, e_eqT, e_eqF, e_NOT, e_NOF, nI_add, pk_mul, k_spot, k_chan, m_node, m_pair, m_msg, m_chan, m_pack, e_w, e_wn, e_ws]
  | succ r ih =>
    intro n f f' pl σ u ω hn hf hf' hR
    obtain ⟨f, rfl⟩ : ∃ k, f = k + 1 := ⟨f - 1, by omega⟩
    obtain ⟨f', rfl⟩ : ∃ k, f' = k + 1 := ⟨f' - 1, by omega⟩
    obtain ⟨Q, B, h, hI, hd⟩ := id hR
    have h6 := h.1.1.1
    have hM20 := h.1.1.2.2.1
    have z1 := h.1.2.1.1
    have z2 := h.1.2.1.2
    have z13 := h.1.2.2.2.1.1
    have hup := k_isUp (σ := σ) (n := n) (by omega)
    have hup' := q_isUp (u := u) h.2.1 h.1.1.2.2.2 h6 (show n < N by omega)
    have one : ∃ σ1 d1 ω1, (∀ K2, fX7_leadAll_12 K2 FU (nI n) (nI 0) σ pl = addB d1 (K2 (nI (n + 1)) σ1 (pl + d1))) ∧ (∀ x2, fX12_oneTick_72 (f' + 1) x2 (nI n) (sq u 1 ω) = fX12_oneTick_72 f' x2 (nI (n + 1)) (sq u 1 ω1)) ∧ RR dr tk (eL (n + 1) 0) (pl + d1) N G M T Dl σ1 u ω1 ∧ σ1 2 = σ 2 ∧ (σ1 0 8 = nI 1 ∨ (σ1 = σ ∧ d1 = 0 ∧ (σ 2 n = NO → ∀ m', m' < M → mustB σ n m' = false ∧ fullB N σ n m' = false))) ∧ ((σ 2 n = NO → ∀ m', m' < M → mustB σ n m' = false ∧ fullB N σ n m' = false) → σ1 = σ) := by
      cases hu : upB σ n with
      | true =>
        rw [hu] at hup'
        have hu2 : σ 2 n = NO := by unfold upB at hu; exact of_decide_eq_true hu
        obtain ⟨σ1, d1, ω1, a1, a2, ⟨Q1, B1, a3, a4, a5⟩, a6, a7, a8⟩ := s_leads (show n < N by omega) M 0 FU FU pl σ u ω (by omega) (by show M < 100000; omega) (by show M < 100000; omega) hu2 hR
        refine ⟨σ1, d1, ω1, a1, fun x2 => ?_, ⟨Q1, B1, a3, rI_mono a4 (eL_mono (by omega)), a5⟩, a6, ?_, fun q => a8 (fun m' _ h2 => q hu2 m' h2)⟩
        · rw [← u_fX12_leads_0, ← u_fX12_leads] at a2
          simp (disch := first | omega | (simp only [pN, pP, pM, pE, pL, pC, pK, sp]; omega)) only [u_fX12_oneTick_72, u_fX12_oneTick_93, m_nodes, z2, hup', a2, b2_t, e_T, e_F, e_bnd, e_obr, e_obd, e_obt, e_addB, e_addA, e_in, e_cl, e_leT, e_leF, e_ltT, e_ltF, e_eqT, e_eqF, e_NOT, e_NOF, nI_add, pk_mul, k_spot, k_chan, m_node, m_pair, m_msg, m_chan, m_pack, e_w, e_wn, e_ws]
        · rcases a7 with a7 | ⟨a7, a8', a9⟩
          · exact Or.inl a7
          · exact Or.inr ⟨a7, a8', fun _ m' hm' => a9 m' (by omega) hm'⟩
      | false =>
        rw [hu] at hup hup'
        refine ⟨σ, 0, ω, fun K2 => ?_, fun x2 => ?_, ⟨Q, B, h, rI_mono hI (eL_mono (by omega)), hd⟩, rfl, Or.inr ⟨rfl, rfl, fun q => ?_⟩, fun _ => rfl⟩
        · rw [addB_0]
          obtain ⟨k, hk⟩ : ∃ k, FU = k + 1 := ⟨99999, rfl⟩
          rw [hk]
          by_cases hM0 : M = 0
          · subst hM0
            simp (disch := first | omega | (simp only [pN, pP, pM, pE, pL, pC, pK, sp]; omega)) only [u_fX7_leadAll_12, u_fX7_leadAll_148, z13, Nat.add_zero, e_T, e_F, e_bnd, e_obr, e_obd, e_obt, e_addB, e_addA, e_in, e_cl, e_leT, e_leF, e_ltT, e_ltF, e_eqT, e_eqF, e_NOT, e_NOF, nI_add, pk_mul, k_spot, k_chan, m_node, m_pair, m_msg, m_chan, m_pack, e_w, e_wn, e_ws]
          · simp (disch := first | omega | (simp only [pN, pP, pM, pE, pL, pC, pK, sp]; omega)) only [u_fX7_leadAll_12, u_fX7_leadAll_148, z13, hup, b2_f, Nat.add_zero, e_T, e_F, e_bnd, e_obr, e_obd, e_obt, e_addB, e_addA, e_in, e_cl, e_leT, e_leF, e_ltT, e_ltF, e_eqT, e_eqF, e_NOT, e_NOF, nI_add, pk_mul, k_spot, k_chan, m_node, m_pair, m_msg, m_chan, m_pack, e_w, e_wn, e_ws]
        · simp (disch := first | omega | (simp only [pN, pP, pM, pE, pL, pC, pK, sp]; omega)) only [u_fX12_oneTick_72, u_fX12_oneTick_93, m_nodes, z2, hup', b2_f, e_T, e_F, e_bnd, e_obr, e_obd, e_obt, e_addB, e_addA, e_in, e_cl, e_leT, e_leF, e_ltT, e_ltF, e_eqT, e_eqF, e_NOT, e_NOF, nI_add, pk_mul, k_spot, k_chan, m_node, m_pair, m_msg, m_chan, m_pack, e_w, e_wn, e_ws]
        · unfold upB at hu; rw [decide_eq_true q] at hu; cases hu
    obtain ⟨σ1, d1, ω1, a1, a2, a3, a4, a5, a6⟩ := one
    obtain ⟨σ', d, ω', t1, t2, t3, t4, t5, t6⟩ := ih (n + 1) f f' (pl + d1) σ1 u ω1 (by omega) (by omega) (by omega) a3
    refine ⟨σ', d1 + d, ω', ?_, fun x2 => by rw [a2, t2], by rw [← Nat.add_assoc]; exact t3, by rw [t4, a4], ?_, fun q => ?_⟩
    · simp (disch := first | omega | (simp only [pN, pP, pM, pE, pL, pC, pK, sp]; omega)) only [u_fX7_leadAll_2, z1, a1, t1, e_T, e_F, e_bnd, e_obr, e_obd, e_obt, e_addB, e_addA, e_in, e_cl, e_leT, e_leF, e_ltT, e_ltF, e_eqT, e_eqF, e_NOT, e_NOF, nI_add, pk_mul, k_spot, k_chan, m_node, m_pair, m_msg, m_chan, m_pack, e_w, e_wn, e_ws]
    · rcases t5 with t5 | ⟨rfl, rfl, t5⟩
      · exact Or.inl t5
      · rcases a5 with a5 | ⟨rfl, rfl, a5⟩
        · exact Or.inl a5
        · refine Or.inr ⟨rfl, rfl, fun n' h1 h2 h3 => ?_⟩
          by_cases e : n' = n
          · subst e; exact a5 h3
          · exact t5 n' (by omega) h2 h3
    · have e1 := a6 (fun hu m' hm' => q n (by omega) (by omega) hu m' hm')
      subst e1
      exact t6 (fun n' h1 h2 => q n' (by omega) h2)
theorem eL_0 : eL 0 0 = fun _ _ => 0 := by
  funext a b; unfold eL; rw [if_neg (by omega)]
theorem s_leadAll {pl : Nat} {σ u : Sg} {ω : Nat → Int32} (hR : RR dr tk (fun _ _ => 0) pl N G M T Dl σ u ω) :
    ∃ σ' d ω', fX7_leadAll σ pl = some (σ', d) ∧ fX12_oneTick_72 FU (nI 0) (nI 0) (sq u 1 ω) = fX12_oneTick_101 FU (nI 0) (nI 0) (sq u 1 ω') ∧ RR dr tk (eL N 0) (pl + d) N G M T Dl σ' u ω' ∧ σ' 2 = σ 2 ∧ (σ' 0 8 = nI 1 ∨ (σ' = σ ∧ d = 0 ∧ ∀ n', n' < N → σ 2 n' = NO → ∀ m', m' < M → mustB σ n' m' = false ∧ fullB N σ n' m' = false)) ∧ ((∀ n', n' < N → σ 2 n' = NO → ∀ m', m' < M → mustB σ n' m' = false ∧ fullB N σ n' m' = false) → σ' = σ) := by
  obtain ⟨Q, B, h, hI, hd⟩ := id hR
  have h6 := h.1.1.1
  rw [← eL_0] at hR
  obtain ⟨σ', d, ω', t1, t2, t3, t4, t5, t6⟩ := s_leadAll_lp N 0 FU FU pl σ u ω (by omega) (by show N < 100000; omega) (by show N < 100000; omega) hR
  refine ⟨σ', d, ω', t1, t2 _, t3, t4, t5.imp id (fun z => ⟨z.1, z.2.1, fun n' h1 => z.2.2 n' (by omega) h1⟩), fun q => t6 (fun n' _ h1 => q n' h1)⟩
end LE
