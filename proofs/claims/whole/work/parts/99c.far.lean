/-! looking ahead -/
section FA
variable {dr : Prop} {tk : Int32} {pl N G M T B : Nat} {Q : Qs} {Dl : Nat → List Nat} {u σ σ' : Sg} {ω : Nat → Int32}
theorem k_open {n : Nat} (hn : n < 6) (h9 : ∀ c, c < 36 → ∃ L, L < 1000 ∧ σ 9 c = nI L) : ∀ r k f, k + r = 6 → r < f → ∃ b, b ≤ 1 ∧ fX1_hasOpen_2 σ f (nI n) (nI k) = some (nI b) ∧ (b = 0 → ∀ x, k ≤ x → x < 6 → σ 9 (6 * x + n) = nI 0 ∨ σ 7 (6 * x + n) ≠ nI 0) := by
  intro r
  induction r with
  | zero =>
    intro k f hk hf
    obtain ⟨f, rfl⟩ : ∃ g, f = g + 1 := ⟨f - 1, by omega⟩
    refine ⟨0, by omega, ?_, fun _ x h1 h2 => by omega⟩
    simp (disch := first | omega | (simp only [pN, pP, pM, pE, pL, pC, pK, sp]; omega)) only [u_fX1_hasOpen_2, e_T, e_F, e_bnd, e_obr, e_obd, e_obt, e_addB, e_addA, e_in, e_cl, e_leT, e_leF, e_ltT, e_ltF, e_eqT, e_eqF, e_NOT, e_NOF, nI_add, pk_mul, k_spot, k_chan, m_node, m_pair, m_msg, m_chan, m_pack, e_w, e_wn, e_ws]
  | succ r ih =>
    intro k f hk hf
    obtain ⟨f, rfl⟩ : ∃ g, f = g + 1 := ⟨f - 1, by omega⟩
    obtain ⟨L, hL, h1⟩ := h9 (6 * k + n) (by omega)
    obtain ⟨b, b1, b2', b3⟩ := ih (k + 1) f (by omega) (by omega)
    by_cases e : L = 0
    · subst e
      refine ⟨b, b1, ?_, fun hb x h2 h3 => ?_⟩
      · simp (disch := first | omega | (simp only [pN, pP, pM, pE, pL, pC, pK, sp]; omega)) only [u_fX1_hasOpen_2, u_fX1_hasOpen_34, h1, b2', e_T, e_F, e_bnd, e_obr, e_obd, e_obt, e_addB, e_addA, e_in, e_cl, e_leT, e_leF, e_ltT, e_ltF, e_eqT, e_eqF, e_NOT, e_NOF, nI_add, pk_mul, k_spot, k_chan, m_node, m_pair, m_msg, m_chan, m_pack, e_w, e_wn, e_ws]
      · by_cases ex : x = k
        · subst ex; exact Or.inl h1
        · exact b3 hb x (by omega) h3
    · by_cases e7 : σ 7 (6 * k + n) = nI 0
      · refine ⟨1, by omega, ?_, fun hb => by omega⟩
        simp (disch := first | omega | (simp only [pN, pP, pM, pE, pL, pC, pK, sp]; omega)) only [u_fX1_hasOpen_2, u_fX1_hasOpen_34, h1, e7, e_T, e_F, e_bnd, e_obr, e_obd, e_obt, e_addB, e_addA, e_in, e_cl, e_leT, e_leF, e_ltT, e_ltF, e_eqT, e_eqF, e_NOT, e_NOF, nI_add, pk_mul, k_spot, k_chan, m_node, m_pair, m_msg, m_chan, m_pack, e_w, e_wn, e_ws]
      · refine ⟨b, b1, ?_, fun hb x h2 h3 => ?_⟩
        · simp (disch := first | omega | (simp only [pN, pP, pM, pE, pL, pC, pK, sp]; omega)) only [u_fX1_hasOpen_2, u_fX1_hasOpen_34, h1, b2', cnd_neg e7, e_T, e_F, e_bnd, e_obr, e_obd, e_obt, e_addB, e_addA, e_in, e_cl, e_leT, e_leF, e_ltT, e_ltF, e_eqT, e_eqF, e_NOT, e_NOF, nI_add, pk_mul, k_spot, k_chan, m_node, m_pair, m_msg, m_chan, m_pack, e_w, e_wn, e_ws]
        · by_cases ex : x = k
          · subst ex; exact Or.inr e7
          · exact b3 hb x (by omega) h3
theorem k_canStir (hR : RR dr tk (fun _ _ => 0) pl N G M T Dl σ u ω) : ∃ b, b ≤ 1 ∧ fX7_canStir σ = some (nI b) ∧ (b = 0 → cs0 N σ) := by
  obtain ⟨Q, B, h, hI, hd⟩ := hR
  have h6 := h.1.1.1
  have h00 := h.1.2.1.1
  have h9 : ∀ c, c < 36 → ∃ L, L < 1000 ∧ σ 9 c = nI L := fun c hc => by
    have hlen := q_len h.2.2.2.2.2.2.2.2.1 hI (fun _ _ => by omega) h6 h.1.1.2.2.1 hc
    exact ⟨_, by omega, k_size h.2.2.2.2.2.2.2.2.2.1 hc⟩
  have lp : ∀ r k f, k + r = N → r < f → ∃ b, b ≤ 1 ∧ fX7_canStir_2 σ f (nI k) = some (nI b) ∧ (b = 0 → (∀ n, k ≤ n → n < N → σ 2 n = NO → ∀ x, x < N → σ 9 (6 * x + n) = nI 0 ∨ σ 7 (6 * x + n) ≠ nI 0) ∧ (∀ n, k ≤ n → n < N → σ 2 n ≠ NO → ntB σ n = true)) := by
    intro r
    induction r with
    | zero =>
      intro k f hk hf
      obtain ⟨f, rfl⟩ : ∃ g, f = g + 1 := ⟨f - 1, by omega⟩
      refine ⟨0, by omega, ?_, fun _ => ⟨fun n h1 h2 => by omega, fun n h1 h2 => by omega⟩⟩
      simp (disch := first | omega | (simp only [pN, pP, pM, pE, pL, pC, pK, sp]; omega)) only [u_fX7_canStir_2, h00, e_T, e_F, e_bnd, e_obr, e_obd, e_obt, e_addB, e_addA, e_in, e_cl, e_leT, e_leF, e_ltT, e_ltF, e_eqT, e_eqF, e_NOT, e_NOF, nI_add, pk_mul, k_spot, k_chan, m_node, m_pair, m_msg, m_chan, m_pack, e_w, e_wn, e_ws]
    | succ r ih =>
      intro k f hk hf
      obtain ⟨f, rfl⟩ : ∃ g, f = g + 1 := ⟨f - 1, by omega⟩
      obtain ⟨b, b1, b2', b3⟩ := ih (k + 1) f (by omega) (by omega)
      have ku := k_isUp (σ := σ) (n := k) (by omega)
      have kn := k_isNoticed (σ := σ) (n := k) (by omega)
      by_cases hu : σ 2 k = NO
      · rw [show upB σ k = true from decide_eq_true hu] at ku
        obtain ⟨o, o1, o2, o3⟩ := k_open (σ := σ) (n := k) (by omega) h9 6 0 FU (by omega) (by show 6 < 100000; omega)
        rcases (show o = 0 ∨ o = 1 by omega) with rfl | rfl
        · refine ⟨b, b1, ?_, fun hb => ⟨fun n h1 h2 h3 x hx => ?_, fun n h1 h2 h3 => ?_⟩⟩
          · simp (disch := first | omega | (simp only [pN, pP, pM, pE, pL, pC, pK, sp]; omega)) only [u_fX7_canStir_2, u_fX7_canStir_42, h00, ku, b2_t, u_fX1_hasOpen, u_fX1_hasOpen_0, o2, b2', e_T, e_F, e_bnd, e_obr, e_obd, e_obt, e_addB, e_addA, e_in, e_cl, e_leT, e_leF, e_ltT, e_ltF, e_eqT, e_eqF, e_NOT, e_NOF, nI_add, pk_mul, k_spot, k_chan, m_node, m_pair, m_msg, m_chan, m_pack, e_w, e_wn, e_ws]
          · by_cases e : n = k
            · subst e; exact o3 rfl x (by omega) (by omega)
            · exact (b3 hb).1 n (by omega) h2 h3 x hx
          · by_cases e : n = k
            · subst e; exact absurd hu h3
            · exact (b3 hb).2 n (by omega) h2 h3
        · refine ⟨1, by omega, ?_, fun hb => by omega⟩
          simp (disch := first | omega | (simp only [pN, pP, pM, pE, pL, pC, pK, sp]; omega)) only [u_fX7_canStir_2, u_fX7_canStir_42, h00, ku, b2_t, u_fX1_hasOpen, u_fX1_hasOpen_0, o2, e_T, e_F, e_bnd, e_obr, e_obd, e_obt, e_addB, e_addA, e_in, e_cl, e_leT, e_leF, e_ltT, e_ltF, e_eqT, e_eqF, e_NOT, e_NOF, nI_add, pk_mul, k_spot, k_chan, m_node, m_pair, m_msg, m_chan, m_pack, e_w, e_wn, e_ws]
      · rw [show upB σ k = false from decide_eq_false hu] at ku
        cases hnt : ntB σ k with
        | false =>
          rw [hnt] at kn
          refine ⟨1, by omega, ?_, fun hb => by omega⟩
          simp (disch := first | omega | (simp only [pN, pP, pM, pE, pL, pC, pK, sp]; omega)) only [u_fX7_canStir_2, u_fX7_canStir_42, h00, ku, kn, b2_f, e_T, e_F, e_bnd, e_obr, e_obd, e_obt, e_addB, e_addA, e_in, e_cl, e_leT, e_leF, e_ltT, e_ltF, e_eqT, e_eqF, e_NOT, e_NOF, nI_add, pk_mul, k_spot, k_chan, m_node, m_pair, m_msg, m_chan, m_pack, e_w, e_wn, e_ws]
        | true =>
          rw [hnt] at kn
          refine ⟨b, b1, ?_, fun hb => ⟨fun n h1 h2 h3 x hx => ?_, fun n h1 h2 h3 => ?_⟩⟩
          · simp (disch := first | omega | (simp only [pN, pP, pM, pE, pL, pC, pK, sp]; omega)) only [u_fX7_canStir_2, u_fX7_canStir_42, h00, ku, kn, b2_f, b2_t, b2', e_T, e_F, e_bnd, e_obr, e_obd, e_obt, e_addB, e_addA, e_in, e_cl, e_leT, e_leF, e_ltT, e_ltF, e_eqT, e_eqF, e_NOT, e_NOF, nI_add, pk_mul, k_spot, k_chan, m_node, m_pair, m_msg, m_chan, m_pack, e_w, e_wn, e_ws]
          · by_cases e : n = k
            · subst e; exact absurd h3 hu
            · exact (b3 hb).1 n (by omega) h2 h3 x hx
          · by_cases e : n = k
            · subst e; exact hnt
            · exact (b3 hb).2 n (by omega) h2 h3
  obtain ⟨b, b1, b2', b3⟩ := lp N 0 FU (by omega) (by show N < 100000; omega)
  refine ⟨b, b1, by rw [u_fX7_canStir, u_fX7_canStir_0, b2'], fun hb => ⟨fun n hn hu x hx => (b3 hb).1 n (by omega) hn hu x hx, fun n hn hu => (b3 hb).2 n (by omega) hn hu⟩⟩
theorem idl_cs {N M : Nat} {σ : Sg} (h : idl N M σ) : cs0 N σ := ⟨fun n hn hu => (h.1 n hn hu).1, fun n hn hu => (h.2 n hn hu).1⟩
/-- all but the clock -/
def nt (σ σ' : Sg) : Prop := fc [0] σ σ' ∧ ∀ j, j ≠ 3 → j ≠ 8 → σ' 0 j = σ 0 j
theorem nt_rf (σ : Sg) : nt σ σ := ⟨fun _ _ => rfl, fun _ _ _ => rfl⟩
theorem nt_tr {a b c : Sg} (h1 : nt a b) (h2 : nt b c) : nt a c := ⟨fun q hq => (h2.1 q hq).trans (h1.1 q hq), fun j h h' => (h2.2 j h h').trans (h1.2 j h h')⟩
theorem m_tick0 (u : Sg) : fX12_oneTick (nI 0) u = fX12_oneTick_8 u := by
  rw [u_fX12_oneTick, u_fX12_oneTick_0]; exact cnd_pos rfl
/-- an idle tick -/
theorem s_idle (hR : RR dr tk (fun _ _ => 0) pl N G M T Dl σ u ω) (hT : T < 100000) (hi : idl N M σ) : ∃ pl' σ' u' ω' Dl', fX12_oneTick (nI 0) (sq u 1 ω) = some (nI 0, sq u' 1 ω') ∧ RR dr tk (fun _ _ => 0) pl' N G M (T + 1) Dl' σ' u' ω' ∧ eu u u' ∧ idl N M σ' ∧ nt σ σ' := by
  obtain ⟨t, σ', d, u', ω', Dl', t1, t2, t3, t4, t5, t6, t7, t8⟩ := s_tick hR hT
  obtain ⟨i1, i2⟩ := t6 hi
  subst i2
  refine ⟨_, σ', u', ω', Dl', by rw [m_tick0]; exact t2, t3, t4, t7 (idl_cs hi) (by rw [i1, e_s2, pk_un (by omega), e_s2, pk_us]), ?_⟩
  rw [i1]
  refine ⟨fun q hq => ?_, fun j h3 h8 => ?_⟩
  · rw [e_s2n _ _ _ (fun e => hq (by rw [e]; decide)), e_s2n _ _ _ (fun e => hq (by rw [e]; decide))]
  · rw [e_s2, pk_un h3, e_s2, pk_un h8]
theorem s_idles : ∀ (r k f pl T : Nat) (σ u : Sg) (ω : Nat → Int32) (Dl : Nat → List Nat), k + r = 120 → r < f → T + r ≤ 100000 → RR dr tk (fun _ _ => 0) pl N G M T Dl σ u ω → idl N M σ →
    ∃ pl' σ' u' ω' T' Dl', fX12_goesOn_2 f (nI 120) (nI k) (sq u 1 ω) = some (sq u' 1 ω') ∧ RR dr tk (fun _ _ => 0) pl' N G M T' Dl' σ' u' ω' ∧ eu u u' ∧ nt σ σ' := by
  intro r
  induction r with
  | zero =>
    intro k f pl T σ u ω Dl hk hf hT hR hi
    obtain ⟨f, rfl⟩ : ∃ g, f = g + 1 := ⟨f - 1, by omega⟩
    refine ⟨pl, σ, u, ω, T, Dl, ?_, hR, eu_rf u, nt_rf σ⟩
    simp (disch := first | omega | (simp only [pN, pP, pM, pE, pL, pC, pK, sp]; omega)) only [u_fX12_goesOn_2, e_T, e_F, e_bnd, e_obr, e_obd, e_obt, e_addB, e_addA, e_in, e_cl, e_leT, e_leF, e_ltT, e_ltF, e_eqT, e_eqF, e_NOT, e_NOF, nI_add, pk_mul, k_spot, k_chan, m_node, m_pair, m_msg, m_chan, m_pack, e_w, e_wn, e_ws]
  | succ r ih =>
    intro k f pl T σ u ω Dl hk hf hT hR hi
    obtain ⟨f, rfl⟩ : ∃ g, f = g + 1 := ⟨f - 1, by omega⟩
    obtain ⟨pl1, σ1, u1, ω1, Dl1, a1, a2, a3, a4, a5⟩ := s_idle hR (by omega) hi
    obtain ⟨pl', σ', u', ω', T', Dl', b1, b2', b3, b4⟩ := ih (k + 1) f pl1 (T + 1) σ1 u1 ω1 Dl1 (by omega) (by omega) (by omega) a2 a4
    refine ⟨pl', σ', u', ω', T', Dl', ?_, b2', eu_tr a3 b3, nt_tr a5 b4⟩
    simp (disch := first | omega | (simp only [pN, pP, pM, pE, pL, pC, pK, sp]; omega)) only [u_fX12_goesOn_2, a1, b1, e_T, e_F, e_bnd, e_obr, e_obd, e_obt, e_addB, e_addA, e_in, e_cl, e_leT, e_leF, e_ltT, e_ltF, e_eqT, e_eqF, e_NOT, e_NOF, nI_add, pk_mul, k_spot, k_chan, m_node, m_pair, m_msg, m_chan, m_pack, e_w, e_wn, e_ws]
theorem RR_pw {e : Nat → Nat → Nat} (h : RR dr tk e pl N G M T Dl σ u ω) : pw pl := by
  obtain ⟨Q, B, h, -⟩ := h
  exact rO_pw h.2.2.2.2.2.2.2.2.2.1
theorem s_far_lp : ∀ (r k f f' pl T : Nat) (σ u : Sg) (ω : Nat → Int32) (Dl : Nat → List Nat), k + r = 120 → r < f → r < f' → T + r ≤ 100000 → RR dr tk (fun _ _ => 0) pl N G M T Dl σ u ω →
    ∃ σ' d pl' σm u' ω' T' Dl', fX7_passFar_4 f (nI 1) (nI k) σ pl = some (σ', d) ∧ pw (pl + d) ∧ fX12_goesOn_2 f' (nI 120) (nI k) (sq u 1 ω) = some (sq u' 1 ω') ∧ RR dr tk (fun _ _ => 0) pl' N G M T' Dl' σm u' ω' ∧ eu u u' ∧ nt σ' σm := by
  intro r
  induction r with
  | zero =>
    intro k f f' pl T σ u ω Dl hk hf hf' hT hR
    obtain ⟨f, rfl⟩ : ∃ g, f = g + 1 := ⟨f - 1, by omega⟩
    obtain ⟨f', rfl⟩ : ∃ g, f' = g + 1 := ⟨f' - 1, by omega⟩
    refine ⟨σ, 0, pl, σ, u, ω, T, Dl, ?_, RR_pw hR, ?_, hR, eu_rf u, nt_rf σ⟩
    · simp (disch := first | omega | (simp only [pN, pP, pM, pE, pL, pC, pK, sp]; omega)) only [u_fX7_passFar_4, e_T, e_F, e_bnd, e_obr, e_obd, e_obt, e_addB, e_addA, e_in, e_cl, e_leT, e_leF, e_ltT, e_ltF, e_eqT, e_eqF, e_NOT, e_NOF, nI_add, pk_mul, k_spot, k_chan, m_node, m_pair, m_msg, m_chan, m_pack, e_w, e_wn, e_ws]
    · simp (disch := first | omega | (simp only [pN, pP, pM, pE, pL, pC, pK, sp]; omega)) only [u_fX12_goesOn_2, e_T, e_F, e_bnd, e_obr, e_obd, e_obt, e_addB, e_addA, e_in, e_cl, e_leT, e_leF, e_ltT, e_ltF, e_eqT, e_eqF, e_NOT, e_NOF, nI_add, pk_mul, k_spot, k_chan, m_node, m_pair, m_msg, m_chan, m_pack, e_w, e_wn, e_ws]
  | succ r ih =>
    intro k f f' pl T σ u ω Dl hk hf hf' hT hR
    obtain ⟨f, rfl⟩ : ∃ g, f = g + 1 := ⟨f - 1, by omega⟩
    obtain ⟨f', rfl⟩ : ∃ g, f' = g + 1 := ⟨f' - 1, by omega⟩
    obtain ⟨b, b1, b2', b3⟩ := k_canStir hR
    obtain ⟨t, σ1, d1, u1, ω1, Dl1, t1, t2, t3, t4, t5, -, t7, t8⟩ := s_tick hR (by omega)
    rw [← m_tick0] at t2
    by_cases hst : b = 0 ∧ σ1 0 8 = nI 0
    · obtain ⟨rfl, h8⟩ := hst
      obtain ⟨pl', σ', u', ω', T', Dl', c1, c2, c3, c4⟩ := s_idles r (k + 1) f' (pl + d1) (T + 1) σ1 u1 ω1 Dl1 (by omega) (by omega) (by omega) t3 (t7 (b3 rfl) h8)
      obtain ⟨f, rfl⟩ : ∃ g, f = g + 1 := ⟨f - 1, by omega⟩
      refine ⟨σ1, d1, pl', σ', u', ω', T', Dl', ?_, RR_pw t3, ?_, c2, eu_tr t4 c3, c4⟩
      · have fin : fX7_passFar_4 (f + 1) (nI 0) (nI (k + 1)) σ1 (pl + d1) = some (σ1, 0) := by
          by_cases hk : k + 1 = 120
          · rw [hk]; simp (disch := first | omega | (simp only [pN, pP, pM, pE, pL, pC, pK, sp]; omega)) only [u_fX7_passFar_4, e_T, e_F, e_bnd, e_obr, e_obd, e_obt, e_addB, e_addA, e_in, e_cl, e_leT, e_leF, e_ltT, e_ltF, e_eqT, e_eqF, e_NOT, e_NOF, nI_add, pk_mul, k_spot, k_chan, m_node, m_pair, m_msg, m_chan, m_pack, e_w, e_wn, e_ws]
          · simp (disch := first | omega | (simp only [pN, pP, pM, pE, pL, pC, pK, sp]; omega)) only [u_fX7_passFar_4, e_T, e_F, e_bnd, e_obr, e_obd, e_obt, e_addB, e_addA, e_in, e_cl, e_leT, e_leF, e_ltT, e_ltF, e_eqT, e_eqF, e_NOT, e_NOF, nI_add, pk_mul, k_spot, k_chan, m_node, m_pair, m_msg, m_chan, m_pack, e_w, e_wn, e_ws]
        rw [u_fX7_passFar_4 (f + 1)]
        simp (disch := first | omega | (simp only [pN, pP, pM, pE, pL, pC, pK, sp]; omega)) only [u_fX7_passFar_40, b2', t1, h8, fin, Nat.add_zero, e_T, e_F, e_bnd, e_obr, e_obd, e_obt, e_addB, e_addA, e_in, e_cl, e_leT, e_leF, e_ltT, e_ltF, e_eqT, e_eqF, e_NOT, e_NOF, nI_add, pk_mul, k_spot, k_chan, m_node, m_pair, m_msg, m_chan, m_pack, e_w, e_wn, e_ws]
      · simp (disch := first | omega | (simp only [pN, pP, pM, pE, pL, pC, pK, sp]; omega)) only [u_fX12_goesOn_2, t2, c1, e_T, e_F, e_bnd, e_obr, e_obd, e_obt, e_addB, e_addA, e_in, e_cl, e_leT, e_leF, e_ltT, e_ltF, e_eqT, e_eqF, e_NOT, e_NOF, nI_add, pk_mul, k_spot, k_chan, m_node, m_pair, m_msg, m_chan, m_pack, e_w, e_wn, e_ws]
    · obtain ⟨σ', d, pl', σm, u', ω', T', Dl', c1, c2, c3, c4, c5, c6⟩ := ih (k + 1) f f' (pl + d1) (T + 1) σ1 u1 ω1 Dl1 (by omega) (by omega) (by omega) (by omega) t3
      refine ⟨σ', d1 + d, pl', σm, u', ω', T', Dl', ?_, by rw [← Nat.add_assoc]; exact c2, ?_, c4, eu_tr t4 c5, c6⟩
      · rcases (show b = 0 ∨ b = 1 by omega) with rfl | rfl
        · have h8 : σ1 0 8 = nI 1 := t8.resolve_left (fun q => hst ⟨rfl, q⟩)
          simp (disch := first | omega | (simp only [pN, pP, pM, pE, pL, pC, pK, sp]; omega)) only [u_fX7_passFar_4, u_fX7_passFar_40, u_fX7_passFar_35, b2', t1, h8, c1, e_T, e_F, e_bnd, e_obr, e_obd, e_obt, e_addB, e_addA, e_in, e_cl, e_leT, e_leF, e_ltT, e_ltF, e_eqT, e_eqF, e_NOT, e_NOF, nI_add, pk_mul, k_spot, k_chan, m_node, m_pair, m_msg, m_chan, m_pack, e_w, e_wn, e_ws]
        · simp (disch := first | omega | (simp only [pN, pP, pM, pE, pL, pC, pK, sp]; omega)) only [u_fX7_passFar_4, u_fX7_passFar_40, u_fX7_passFar_35, b2', t1, c1, e_T, e_F, e_bnd, e_obr, e_obd, e_obt, e_addB, e_addA, e_in, e_cl, e_leT, e_leF, e_ltT, e_ltF, e_eqT, e_eqF, e_NOT, e_NOF, nI_add, pk_mul, k_spot, k_chan, m_node, m_pair, m_msg, m_chan, m_pack, e_w, e_wn, e_ws]
      · simp (disch := first | omega | (simp only [pN, pP, pM, pE, pL, pC, pK, sp]; omega)) only [u_fX12_goesOn_2, t2, c3, e_T, e_F, e_bnd, e_obr, e_obd, e_obt, e_addB, e_addA, e_in, e_cl, e_leT, e_leF, e_ltT, e_ltF, e_eqT, e_eqF, e_NOT, e_NOF, nI_add, pk_mul, k_spot, k_chan, m_node, m_pair, m_msg, m_chan, m_pack, e_w, e_wn, e_ws]
theorem s_far (hR : RR dr tk (fun _ _ => 0) pl N G M T Dl σ u ω) (hT : T + 120 ≤ 100000) : ∃ σ' d pl' σm u' ω' T' Dl', fX7_passFar σ pl = some (σ', d) ∧ pw (pl + d) ∧ fX12_goesOn (nI 120) (sq u 1 ω) = some (sq u' 1 ω') ∧ RR dr tk (fun _ _ => 0) pl' N G M T' Dl' σm u' ω' ∧ eu u u' ∧ nt σ' σm :=
  s_far_lp 120 0 FU FU pl T σ u ω Dl (by omega) (by show 120 < 100000; omega) (by show 120 < 100000; omega) hT hR
end FA
