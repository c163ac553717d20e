/-! all channels are heard -/
section HA
variable {dr : Prop} {tk : Int32} {N G M T : Nat} {e : Nat → Nat → Nat} {Dl : Nat → List Nat}
/-- both sides together, in the course of a tick -/
def RR (dr : Prop) (tk : Int32) (e : Nat → Nat → Nat) (pl N G M T : Nat) (Dl : Nat → List Nat) (σ u : Sg) (ω : Nat → Int32) : Prop := ∃ Q B, R0 dr tk pl N G M T B Q Dl σ ω ∧ rI N e Q σ ∧ dF dr u
theorem k_size {pl c : Nat} {Q : Qs} {σ : Sg} (hO : rO pl Q σ) (hc : c < 36) : σ 9 c = nI (Q c).length := by
  obtain ⟨C, F, U, a1, a2, a3, a4, a5, a6, a7, a8, a9⟩ := hO
  obtain ⟨b1, b2, b3, b4, b5, b6⟩ := a9 c hc
  rw [b5, cells_len b6]
theorem s_hearTo {n : Nat} (hn : n < N) (he : ∀ n m, e n m ≤ 1) : ∀ (r i f f' pl : Nat) (σ u : Sg) (ω : Nat → Int32), i + r = N → r < f → r < f' → RR dr tk e pl N G M T Dl σ u ω →
    ∃ σ' d u' ω', (∀ K2, fX7_hearAll_12 K2 f (nI n) (nI i) σ pl = addB d (K2 (nI (n + 1)) σ' (pl + d))) ∧ (∀ K x2, fX12_oneTick_23 K f' x2 (nI n) (nI i) (sq u 1 ω) = K x2 (nI (n + 1)) (sq u' 1 ω')) ∧ RR dr tk e (pl + d) N G M T Dl σ' u' ω' ∧ eu u u' ∧ σ' 2 = σ 2 ∧ (σ' 0 8 = nI 1 ∨ σ' = σ) ∧ ((∀ j, i ≤ j → j < N → σ 2 n = NO → σ 9 (6 * j + n) = nI 0 ∨ σ 7 (6 * j + n) ≠ nI 0) → σ' = σ) := by
  intro r
  induction r with
  | zero =>
    intro i f f' pl σ u ω hi hf hf' hR
    obtain ⟨f, rfl⟩ : ∃ k, f = k + 1 := ⟨f - 1, by omega⟩
    obtain ⟨f', rfl⟩ : ∃ k, f' = k + 1 := ⟨f' - 1, by omega⟩
    have hi : i = N := by omega
    subst hi
    obtain ⟨Q, B, h, hI, hd⟩ := hR
    have h6 := h.1.1.1
    have z1 := h.1.2.1.1
    have z2 := h.1.2.1.2
    refine ⟨σ, 0, u, ω, fun K2 => ?_, fun K x2 => ?_, ⟨Q, B, h, hI, hd⟩, eu_rf u, rfl, Or.inr rfl, fun _ => rfl⟩
    · rw [addB_0]
      simp (disch := first | omega | (simp only [pN, pP, pM, pE, pL, pC, pK, sp]; omega)) only [u_fX7_hearAll_12, u_fX7_hearAll_176, z1, Nat.add_zero, e_T, e_F, e_bnd, e_obr, e_obd, e_obt, e_addB, e_addA, e_in, e_cl, e_leT, e_leF, e_ltT, e_ltF, e_eqT, e_eqF, e_NOT, e_NOF, nI_add, pk_mul, k_spot, k_chan, m_node, m_pair, m_msg, m_chan, m_pack, e_w, e_wn, e_ws]
    · simp (disch := first | omega | (simp only [pN, pP, pM, pE, pL, pC, pK, sp]; omega)) only [u_fX12_oneTick_23, m_nodes, z2, e_T, e_F, e_bnd, e_obr, e_obd, e_obt, e_addB, e_addA, e_in, e_cl, e_leT, e_leF, e_ltT, e_ltF, e_eqT, e_eqF, e_NOT, e_NOF, nI_add, pk_mul, k_spot, k_chan, m_node, m_pair, m_msg, m_chan, m_pack, e_w, e_wn, e_ws]
  | succ r ih =>
    intro i f f' pl σ u ω hi hf hf' hR
    obtain ⟨f, rfl⟩ : ∃ k, f = k + 1 := ⟨f - 1, by omega⟩
    obtain ⟨f', rfl⟩ : ∃ k, f' = k + 1 := ⟨f' - 1, by omega⟩
    obtain ⟨Q, B, h, hI, hd⟩ := id hR
    have h6 := h.1.1.1
    have z1 := h.1.2.1.1
    have z2 := h.1.2.1.2
    have hup := k_isUp (σ := σ) (n := n) (by omega)
    have hup' := q_isUp (u := u) h.2.1 h.1.1.2.2.2 h6 hn
    cases hu : upB σ n with
    | false =>
      -- one that is down hears nothing: the class stops, the model goes on
      rw [hu] at hup hup'
      have key : ∀ (r i f' : Nat), i + r = N → r < f' → ∀ K x2, fX12_oneTick_23 K f' x2 (nI n) (nI i) (sq u 1 ω) = K x2 (nI (n + 1)) (sq u 1 ω) := by
        intro r
        induction r with
        | zero =>
          intro i f' hi hf' K x2
          obtain ⟨f', rfl⟩ : ∃ k, f' = k + 1 := ⟨f' - 1, by omega⟩
          have hi : i = N := by omega
          subst hi
          simp (disch := first | omega | (simp only [pN, pP, pM, pE, pL, pC, pK, sp]; omega)) only [u_fX12_oneTick_23, m_nodes, z2, e_T, e_F, e_bnd, e_obr, e_obd, e_obt, e_addB, e_addA, e_in, e_cl, e_leT, e_leF, e_ltT, e_ltF, e_eqT, e_eqF, e_NOT, e_NOF, nI_add, pk_mul, k_spot, k_chan, m_node, m_pair, m_msg, m_chan, m_pack, e_w, e_wn, e_ws]
        | succ r ih =>
          intro i f' hi hf' K x2
          obtain ⟨f', rfl⟩ : ∃ k, f' = k + 1 := ⟨f' - 1, by omega⟩
          have := ih (i + 1) f' (by omega) (by omega) K x2
          simp (disch := first | omega | (simp only [pN, pP, pM, pE, pL, pC, pK, sp]; omega)) only [u_fX12_oneTick_23, u_fX12_oneTick_58, m_nodes, z2, hup', b2_f, this, e_T, e_F, e_bnd, e_obr, e_obd, e_obt, e_addB, e_addA, e_in, e_cl, e_leT, e_leF, e_ltT, e_ltF, e_eqT, e_eqF, e_NOT, e_NOF, nI_add, pk_mul, k_spot, k_chan, m_node, m_pair, m_msg, m_chan, m_pack, e_w, e_wn, e_ws]
      refine ⟨σ, 0, u, ω, fun K2 => ?_, key (r + 1) i (f' + 1) hi hf', hR, eu_rf u, rfl, Or.inr rfl, fun _ => rfl⟩
      rw [addB_0]
      simp (disch := first | omega | (simp only [pN, pP, pM, pE, pL, pC, pK, sp]; omega)) only [u_fX7_hearAll_12, u_fX7_hearAll_176, z1, hup, b2_f, Nat.add_zero, e_T, e_F, e_bnd, e_obr, e_obd, e_obt, e_addB, e_addA, e_in, e_cl, e_leT, e_leF, e_ltT, e_ltF, e_eqT, e_eqF, e_NOT, e_NOF, nI_add, pk_mul, k_spot, k_chan, m_node, m_pair, m_msg, m_chan, m_pack, e_w, e_wn, e_ws]
    | true =>
      rw [hu] at hup hup'
      have hu2 : σ 2 n = NO := by unfold upB at hu; exact of_decide_eq_true hu
      have hc : 6 * i + n < 36 := by omega
      have hsz := k_size h.2.2.2.2.2.2.2.2.2.1 hc
      obtain ⟨-, ⟨hh, y1, y2, y3⟩, -⟩ := h.2.2.2.2.2.2.2.1 (6 * i + n) hc
      have hlen := q_len h.2.2.2.2.2.2.2.2.1 hI he h6 h.1.1.2.2.1 hc
      -- one channel
      have one : ∃ σ1 d1 u1 ω1, (∀ K2 K12, fX7_hearAll_45 K2 K12 FU (nI n) (nI i) (nI (6 * i + n)) (nI (Q (6 * i + n)).length) σ pl = addB d1 (fX7_hearAll_170 K2 K12 (nI n) (nI i) σ1 (pl + d1))) ∧ (∀ K x2, fX12_oneTick_23 K (f' + 1) x2 (nI n) (nI i) (sq u 1 ω) = fX12_oneTick_23 K f' x2 (nI n) (nI (i + 1)) (sq u1 1 ω1)) ∧ RR dr tk e (pl + d1) N G M T Dl σ1 u1 ω1 ∧ eu u u1 ∧ σ1 2 = σ 2 ∧ (σ1 0 8 = nI 1 ∨ σ1 = σ) ∧ ((σ 9 (6 * i + n) = nI 0 ∨ σ 7 (6 * i + n) ≠ nI 0) → σ1 = σ) := by
        by_cases hz : hh = 0
        · subst hz
          obtain ⟨σ1, d1, u1, ω1, Q1, B1, a1, a2, a3, a4, a5, a6, a7, a8⟩ := s_ch (dr := dr) (tk := tk) (G := G) (M := M) (T := T) (Dl := Dl) hn (show i < N by omega) he (Q (6 * i + n)) [] FU FU pl B σ u ω Q (by show _ < 100000; omega) (by show _ < 100000; omega) h hI hd hu2 y2 (by rw [List.append_nil]) (fun p hp => absurd hp List.not_mem_nil)
          refine ⟨σ1, d1, u1, ω1, a1, fun K x2 => ?_, ⟨Q1, B1, a3, a4, dF_eu hd a5⟩, a5, a6, a7, fun q => ?_⟩
          · rw [← u_fX12_hearsAll] at a2
            simp (disch := first | omega | (simp only [pN, pP, pM, pE, pL, pC, pK, sp]; omega)) only [u_fX12_oneTick_23, u_fX12_oneTick_58, m_nodes, z2, hup', b2_t, m_ofCh, y3, a2, e_T, e_F, e_bnd, e_obr, e_obd, e_obt, e_addB, e_addA, e_in, e_cl, e_leT, e_leF, e_ltT, e_ltF, e_eqT, e_eqF, e_NOT, e_NOF, nI_add, pk_mul, k_spot, k_chan, m_node, m_pair, m_msg, m_chan, m_pack, e_w, e_wn, e_ws]
          · rcases q with q | q
            · rw [hsz] at q
              exact a8 (List.eq_nil_of_length_eq_zero ((nI_eq (by omega) (by omega)).mp q))
            · exact absurd y2 q
        · have hz1 : hh = 1 := by omega
          subst hz1
          refine ⟨σ, 0, u, ω, fun K2 K12 => ?_, fun K x2 => ?_, hR, eu_rf u, rfl, Or.inr rfl, fun _ => rfl⟩
          · rw [addB_0]
            obtain ⟨k, hk⟩ : ∃ k, FU = k + 1 := ⟨99999, rfl⟩
            rw [hk]
            cases hq : Q (6 * i + n) with
            | nil => simp (disch := first | omega | (simp only [pN, pP, pM, pE, pL, pC, pK, sp]; omega)) only [u_fX7_hearAll_45, List.length_nil, Nat.add_zero, e_T, e_F, e_bnd, e_obr, e_obd, e_obt, e_addB, e_addA, e_in, e_cl, e_leT, e_leF, e_ltT, e_ltF, e_eqT, e_eqF, e_NOT, e_NOF, nI_add, pk_mul, k_spot, k_chan, m_node, m_pair, m_msg, m_chan, m_pack, e_w, e_wn, e_ws]
            | cons p ps =>
              obtain ⟨j, o1, -, o3, o4, o5⟩ := k_open1 (t := σ 0 3) h.2.2.2.2.2.2.2.2.2.1 hc hq
              rw [hq, List.length_cons] at hlen
              rw [if_neg (fun z => by have := z.1; rw [y2] at this; exact absurd this (by decide))] at o5
              simp (disch := first | omega | (simp only [pN, pP, pM, pE, pL, pC, pK, sp]; omega)) only [u_fX7_hearAll_45, List.length_cons, o5, Nat.add_zero, e_T, e_F, e_bnd, e_obr, e_obd, e_obt, e_addB, e_addA, e_in, e_cl, e_leT, e_leF, e_ltT, e_ltF, e_eqT, e_eqF, e_NOT, e_NOF, nI_add, pk_mul, k_spot, k_chan, m_node, m_pair, m_msg, m_chan, m_pack, e_w, e_wn, e_ws]
          · simp (disch := first | omega | (simp only [pN, pP, pM, pE, pL, pC, pK, sp]; omega)) only [u_fX12_oneTick_23, u_fX12_oneTick_58, m_nodes, z2, hup', b2_t, m_ofCh, y3, e_T, e_F, e_bnd, e_obr, e_obd, e_obt, e_addB, e_addA, e_in, e_cl, e_leT, e_leF, e_ltT, e_ltF, e_eqT, e_eqF, e_NOT, e_NOF, nI_add, pk_mul, k_spot, k_chan, m_node, m_pair, m_msg, m_chan, m_pack, e_w, e_wn, e_ws]
      obtain ⟨σ1, d1, u1, ω1, a1, a2, a3, a4, a5, a6, a7⟩ := one
      obtain ⟨σ', d, u', ω', t1, t2, t3, t4, t5, t6, t7⟩ := ih (i + 1) f f' (pl + d1) σ1 u1 ω1 (by omega) (by omega) (by omega) a3
      refine ⟨σ', d1 + d, u', ω', fun K2 => ?_, fun K x2 => ?_, by rw [← Nat.add_assoc]; exact t3, eu_tr a4 t4, by rw [t5, a5], ?_, fun q => ?_⟩
      · rw [← addB_addB, ← Nat.add_assoc, ← t1 K2]
        simp (disch := first | omega | (simp only [pN, pP, pM, pE, pL, pC, pK, sp]; omega)) only [u_fX7_hearAll_12, u_fX7_hearAll_170, z1, hup, b2_t, hsz, a1, e_T, e_F, e_bnd, e_obr, e_obd, e_obt, e_addB, e_addA, e_in, e_cl, e_leT, e_leF, e_ltT, e_ltF, e_eqT, e_eqF, e_NOT, e_NOF, nI_add, pk_mul, k_spot, k_chan, m_node, m_pair, m_msg, m_chan, m_pack, e_w, e_wn, e_ws]
      · rw [a2, t2]
      · rcases t6 with t6 | t6
        · exact Or.inl t6
        · rw [t6]; exact a6
      · have e1 := a7 (q i (by omega) (by omega) hu2)
        subst e1
        exact t7 (fun j h1 h2 => q j (by omega) h2)
theorem s_hearAll_lp (he : ∀ n m, e n m ≤ 1) : ∀ (r i f f' pl : Nat) (σ u : Sg) (ω : Nat → Int32), i + r = N → r < f → r < f' → RR dr tk e pl N G M T Dl σ u ω →
    ∃ σ' d u' ω', fX7_hearAll_2 f (nI i) σ pl = some (σ', d) ∧ (∀ x2, fX12_oneTick_12 f' x2 (nI i) (sq u 1 ω) = fX12_oneTick_72 FU x2 (nI 0) (sq u' 1 ω')) ∧ RR dr tk e (pl + d) N G M T Dl σ' u' ω' ∧ eu u u' ∧ σ' 2 = σ 2 ∧ (σ' 0 8 = nI 1 ∨ σ' = σ) ∧ ((∀ n j, i ≤ n → n < N → j < N → σ 2 n = NO → σ 9 (6 * j + n) = nI 0 ∨ σ 7 (6 * j + n) ≠ nI 0) → σ' = σ) := by
  intro r
  induction r with
  | zero =>
    intro i f f' pl σ u ω hi hf hf' hR
    obtain ⟨f, rfl⟩ : ∃ k, f = k + 1 := ⟨f - 1, by omega⟩
    obtain ⟨f', rfl⟩ : ∃ k, f' = k + 1 := ⟨f' - 1, by omega⟩
    have hi : i = N := by omega
    subst hi
    obtain ⟨Q, B, h, hI, hd⟩ := id hR
    have h6 := h.1.1.1
    have z1 := h.1.2.1.1
    have z2 := h.1.2.1.2
    refine ⟨σ, 0, u, ω, ?_, fun x2 => ?_, hR, eu_rf u, rfl, Or.inr rfl, fun _ => rfl⟩
    · simp (disch := first | omega | (simp only [pN, pP, pM, pE, pL, pC, pK, sp]; omega)) only [u_fX7_hearAll_2, z1, e_T, e_F, e_bnd, e_obr, e_obd, e_obt, e_addB, e_addA, e_in, e_cl, e_leT, e_leF, e_ltT, e_ltF, e_eqT, e_eqF, e_NOT, e_NOF, nI_add, pk_mul, k_spot, k_chan, m_node, m_pair, m_msg, m_chan, m_pack, e_w, e_wn, e_ws]
    · simp (disch := first | omega | (simp only [pN, pP, pM, pE, pL, pC, pK, sp]; omega)) only [u_fX12_oneTick_12, m_nodes, z2, e_T, e_F, e_bnd, e_obr, e_obd, e_obt, e_addB, e_addA, e_in, e_cl, e_leT, e_leF, e_ltT, e_ltF, e_eqT, e_eqF, e_NOT, e_NOF, nI_add, pk_mul, k_spot, k_chan, m_node, m_pair, m_msg, m_chan, m_pack, e_w, e_wn, e_ws]
  | succ r ih =>
    intro i f f' pl σ u ω hi hf hf' hR
    obtain ⟨f, rfl⟩ : ∃ k, f = k + 1 := ⟨f - 1, by omega⟩
    obtain ⟨f', rfl⟩ : ∃ k, f' = k + 1 := ⟨f' - 1, by omega⟩
    obtain ⟨Q, B, h, hI, hd⟩ := id hR
    have h6 := h.1.1.1
    have z1 := h.1.2.1.1
    have z2 := h.1.2.1.2
    obtain ⟨σ1, d1, u1, ω1, a1, a2, a3, a4, a5, a6, a7⟩ := s_hearTo (show i < N by omega) he N 0 FU FU pl σ u ω (by omega) (by show N < 100000; omega) (by show N < 100000; omega) hR
    obtain ⟨σ', d, u', ω', t1, t2, t3, t4, t5, t6, t7⟩ := ih (i + 1) f f' (pl + d1) σ1 u1 ω1 (by omega) (by omega) (by omega) a3
    refine ⟨σ', d1 + d, u', ω', ?_, fun x2 => ?_, by rw [← Nat.add_assoc]; exact t3, eu_tr a4 t4, by rw [t5, a5], ?_, fun q => ?_⟩
    · simp (disch := first | omega | (simp only [pN, pP, pM, pE, pL, pC, pK, sp]; omega)) only [u_fX7_hearAll_2, z1, a1, t1, e_T, e_F, e_bnd, e_obr, e_obd, e_obt, e_addB, e_addA, e_in, e_cl, e_leT, e_leF, e_ltT, e_ltF, e_eqT, e_eqF, e_NOT, e_NOF, nI_add, pk_mul, k_spot, k_chan, m_node, m_pair, m_msg, m_chan, m_pack, e_w, e_wn, e_ws]
    · simp (disch := first | omega | (simp only [pN, pP, pM, pE, pL, pC, pK, sp]; omega)) only [u_fX12_oneTick_12, m_nodes, z2, a2, t2, e_T, e_F, e_bnd, e_obr, e_obd, e_obt, e_addB, e_addA, e_in, e_cl, e_leT, e_leF, e_ltT, e_ltF, e_eqT, e_eqF, e_NOT, e_NOF, nI_add, pk_mul, k_spot, k_chan, m_node, m_pair, m_msg, m_chan, m_pack, e_w, e_wn, e_ws]
    · rcases t6 with t6 | t6
      · exact Or.inl t6
      · rw [t6]; exact a6
    · have e1 := a7 (fun j _ h2 h3 => q i j (by omega) (by omega) h2 h3)
      subst e1
      exact t7 (fun n j h1 h2 => q n j (by omega) h2)
theorem s_hearAll {pl : Nat} {σ u : Sg} {ω : Nat → Int32} (he : ∀ n m, e n m ≤ 1) (hR : RR dr tk e pl N G M T Dl σ u ω) :
    ∃ σ' d u' ω', fX7_hearAll σ pl = some (σ', d) ∧ fX12_oneTick_8 (sq u 1 ω) = fX12_oneTick_72 FU (nI 0) (nI 0) (sq u' 1 ω') ∧ RR dr tk e (pl + d) N G M T Dl σ' u' ω' ∧ eu u u' ∧ σ' 2 = σ 2 ∧ (σ' 0 8 = nI 1 ∨ σ' = σ) ∧ ((∀ n j, n < N → j < N → σ 2 n = NO → σ 9 (6 * j + n) = nI 0 ∨ σ 7 (6 * j + n) ≠ nI 0) → σ' = σ) := by
  obtain ⟨Q, B, h, hI, hd⟩ := id hR
  have h6 := h.1.1.1
  obtain ⟨σ', d, u', ω', t1, t2, t3, t4, t5, t6, t7⟩ := s_hearAll_lp he N 0 FU FU pl σ u ω (by omega) (by show N < 100000; omega) (by show N < 100000; omega) hR
  exact ⟨σ', d, u', ω', t1, t2 _, t3, t4, t5, t6, fun q => t7 (fun n j _ h2 => q n j h2)⟩
end HA
