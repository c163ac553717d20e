/-! the end of a tick; a tick -/
theorem uQ_uQ (Q : Qs) (c : Nat) (l l' : List Pk) : uQ (uQ Q c l) c l' = uQ Q c l' := by
  funext d
  by_cases h : d = c
  · subst h; rw [uQ_s, uQ_s]
  · rw [uQ_n _ _ h, uQ_n _ _ h, uQ_n _ _ h]
theorem fB_rf (σ : Sg) : fB σ σ := fun _ _ _ _ _ _ => rfl
theorem fB_tr {σ σ' σ'' : Sg} (h1 : fB σ σ') (h2 : fB σ' σ'') : fB σ σ'' := fun q a b c d e => (h2 q a b c d e).trans (h1 q a b c d e)
theorem k_dropAll_lp {pl c : Nat} (hc : c < 36) : ∀ (l : List Pk) (f : Nat) (Q : Qs) (σ : Sg), l.length < f → l.length ≤ 110 → rO pl Q σ → Q c = l → ∃ σ', fX1_dropAll_7 pl f (nI c) (nI l.length) σ = some σ' ∧ rO pl (uQ Q c []) σ' ∧ fB σ σ' := by
  intro l
  induction l with
  | nil =>
    intro f Q σ hf hl hO hq
    obtain ⟨f, rfl⟩ : ∃ g, f = g + 1 := ⟨f - 1, by omega⟩
    refine ⟨σ, ?_, ?_, fB_rf σ⟩
    · simp (disch := first | omega | (simp only [pN, pP, pM, pE, pL, pC, pK, sp]; omega)) only [u_fX1_dropAll_7, List.length_nil, e_T, e_F, e_bnd, e_obr, e_obd, e_obt, e_addB, e_addA, e_in, e_cl, e_leT, e_leF, e_ltT, e_ltF, e_eqT, e_eqF, e_NOT, e_NOF, nI_add, pk_mul, k_spot, k_chan, m_node, m_pair, m_msg, m_chan, m_pack, e_w, e_wn, e_ws]
    · have : uQ Q c [] = Q := by
        funext d
        by_cases h : d = c
        · subst h; rw [uQ_s, hq]
        · rw [uQ_n _ _ h]
      rw [this]; exact hO
  | cons p l ih =>
    intro f Q σ hf hl hO hq
    obtain ⟨f, rfl⟩ : ∃ g, f = g + 1 := ⟨f - 1, by omega⟩
    simp only [List.length_cons] at hf hl
    obtain ⟨σ1, k1, k2, k3⟩ := k_drop hO hc hq
    obtain ⟨σ', t1, t2, t3⟩ := ih f (uQ Q c l) σ1 (by omega) (by omega) k2 (uQ_s _ _ _)
    rw [uQ_uQ] at t2
    refine ⟨σ', ?_, t2, fB_tr k3 t3⟩
    simp (disch := first | omega | (simp only [pN, pP, pM, pE, pL, pC, pK, sp]; omega)) only [u_fX1_dropAll_7, List.length_cons, k1, e_dec, t1, e_T, e_F, e_bnd, e_obr, e_obd, e_obt, e_addB, e_addA, e_in, e_cl, e_leT, e_leF, e_ltT, e_ltF, e_eqT, e_eqF, e_NOT, e_NOF, nI_add, pk_mul, k_spot, k_chan, m_node, m_pair, m_msg, m_chan, m_pack, e_w, e_wn, e_ws]
section TI
variable {dr : Prop} {tk : Int32} {pl N G M T B : Nat} {e : Nat → Nat → Nat} {Q Q' : Qs} {Dl : Nat → List Nat} {u σ σ' : Sg} {ω ω' : Nat → Int32}
theorem R0_clear {c₀ : Nat} (h : R0 dr tk pl N G M T B Q Dl σ ω) (hl : ∀ c, c < 36 → (Q c).length ≤ 110) (hc : c₀ < 36) : ∃ σ', fX1_dropAll pl (nI c₀) σ = some σ' ∧ R0 dr tk pl N G M T B (uQ Q c₀ []) Dl σ' (upd ω (pC c₀ 2) (nI 0)) ∧ fB σ σ' := by
  obtain ⟨hS, hN, hP, hD, hM, hE, hL, hC, hQ, hO, hB⟩ := h
  have hlc := hl c₀ hc
  obtain ⟨σ', k1, k2, k3⟩ := k_dropAll_lp hc (Q c₀) FU Q σ (by show _ < 100000; omega) hlc hO rfl
  have hsz := k_size hO hc
  have c := fB_c k3
  have fw : ∀ i, i ≠ pC c₀ 2 → upd ω (pC c₀ 2) (nI 0) i = ω i := fun i hi => pk_un hi
  refine ⟨σ', ?_, ⟨rS_fr hS (by rw [c 0 (by decide)]; exact ⟨rfl, rfl, rfl, rfl, rfl, rfl, rfl, rfl⟩) (fun g _ => by rw [c 1 (by decide)]) (by rw [c 13 (by decide)]) (fun i hi h7 h9 => fw _ (by first | omega | exact pN_pN (by omega) (by omega) (by omega) | exact pP_pN (by omega) (by omega) (by omega) | exact (pP_pN (by omega) (by omega) (by omega)).symm | exact pP_pP (by omega) (by omega) (by omega) (by omega) (by omega) | (simp only [pN, pP, pM, pE, pL, pC, pK, sp]; omega))), rN_fr hN (fun n _ => by rw [c 2 (by decide), c 3 (by decide), c 4 (by decide)]; exact ⟨rfl, rfl, rfl⟩) (fun n w hn hw => fw _ (by first | omega | exact pN_pN (by omega) (by omega) (by omega) | exact pP_pN (by omega) (by omega) (by omega) | exact (pP_pN (by omega) (by omega) (by omega)).symm | exact pP_pP (by omega) (by omega) (by omega) (by omega) (by omega) | (simp only [pN, pP, pM, pE, pL, pC, pK, sp]; omega))), rP_fr hP (fun i _ => by rw [c 20 (by decide), c 21 (by decide), c 22 (by decide), c 23 (by decide), c 27 (by decide), c 28 (by decide), c 29 (by decide)]; exact ⟨rfl, rfl, rfl, rfl, rfl, rfl, rfl⟩) (fun n m w hn hm hw => fw _ (by first | omega | exact pN_pN (by omega) (by omega) (by omega) | exact pP_pN (by omega) (by omega) (by omega) | exact (pP_pN (by omega) (by omega) (by omega)).symm | exact pP_pP (by omega) (by omega) (by omega) (by omega) (by omega) | (simp only [pN, pP, pM, pE, pL, pC, pK, sp]; omega))), rD_fr hD (fun i _ => by rw [c 20 (by decide), c 24 (by decide), c 23 (by decide)]; exact ⟨rfl, rfl, rfl⟩) (fun n m _ _ => by rw [c 17 (by decide)]) (fun n _ => by rw [c 25 (by decide)]) (fun n w hn hw h4 => fw _ (by first | omega | exact pN_pN (by omega) (by omega) (by omega) | exact pP_pN (by omega) (by omega) (by omega) | exact (pP_pN (by omega) (by omega) (by omega)).symm | exact pP_pP (by omega) (by omega) (by omega) (by omega) (by omega) | (simp only [pN, pP, pM, pE, pL, pC, pK, sp]; omega))), rM_fr hM (fun m _ => by rw [c 14 (by decide), c 15 (by decide), c 16 (by decide), c 17 (by decide), c 18 (by decide)]; exact ⟨rfl, rfl, rfl, rfl, rfl⟩) (fun m w hm hw => fw _ (by first | omega | exact pN_pN (by omega) (by omega) (by omega) | exact pP_pN (by omega) (by omega) (by omega) | exact (pP_pN (by omega) (by omega) (by omega)).symm | exact pP_pP (by omega) (by omega) (by omega) (by omega) (by omega) | (simp only [pN, pP, pM, pE, pL, pC, pK, sp]; omega))), rE_fr hE (by rw [c 30 (by decide)]) (fun k _ => by rw [c 31 (by decide), c 32 (by decide), c 33 (by decide)]; exact ⟨rfl, rfl, rfl⟩) (fw _ (by first | omega | exact pN_pN (by omega) (by omega) (by omega) | exact pP_pN (by omega) (by omega) (by omega) | exact (pP_pN (by omega) (by omega) (by omega)).symm | exact pP_pP (by omega) (by omega) (by omega) (by omega) (by omega) | (simp only [pN, pP, pM, pE, pL, pC, pK, sp]; omega))) (fun k w hk hw => fw _ (by first | omega | exact pN_pN (by omega) (by omega) (by omega) | exact pP_pN (by omega) (by omega) (by omega) | exact (pP_pN (by omega) (by omega) (by omega)).symm | exact pP_pP (by omega) (by omega) (by omega) (by omega) (by omega) | (simp only [pN, pP, pM, pE, pL, pC, pK, sp]; omega))), rL_fr hL (by rw [c 34 (by decide)]; exact ⟨rfl, rfl⟩) (fun i _ => by rw [c 35 (by decide)]) (fw _ (by first | omega | exact pN_pN (by omega) (by omega) (by omega) | exact pP_pN (by omega) (by omega) (by omega) | exact (pP_pN (by omega) (by omega) (by omega)).symm | exact pP_pP (by omega) (by omega) (by omega) (by omega) (by omega) | (simp only [pN, pP, pM, pE, pL, pC, pK, sp]; omega))) (fun k w hk hw => fw _ (by first | omega | exact pN_pN (by omega) (by omega) (by omega) | exact pP_pN (by omega) (by omega) (by omega) | exact (pP_pN (by omega) (by omega) (by omega)).symm | exact pP_pP (by omega) (by omega) (by omega) (by omega) (by omega) | (simp only [pN, pP, pM, pE, pL, pC, pK, sp]; omega))), ?_, ?_, k2, (by rw [cnt_fr (σ := σ) (fun i _ => by rw [c 20 (by decide)])]; exact hB)⟩, k3⟩
  · simp (disch := first | omega | (simp only [pN, pP, pM, pE, pL, pC, pK, sp]; omega)) only [u_fX1_dropAll, u_fX1_dropAll_0, hsz, k1, e_T, e_F, e_bnd, e_obr, e_obd, e_obt, e_addB, e_addA, e_in, e_cl, e_leT, e_leF, e_ltT, e_ltF, e_eqT, e_eqF, e_NOT, e_NOF, nI_add, pk_mul, k_spot, k_chan, m_node, m_pair, m_msg, m_chan, m_pack, e_w, e_wn, e_ws]
  · intro x hx
    obtain ⟨q1, q2, q3, q4, q5⟩ := hC x hx
    rw [c 6 (by decide), c 7 (by decide), c 8 (by decide), fw (pC x 0) (by first | omega | exact pN_pN (by omega) (by omega) (by omega) | exact pP_pN (by omega) (by omega) (by omega) | exact (pP_pN (by omega) (by omega) (by omega)).symm | exact pP_pP (by omega) (by omega) (by omega) (by omega) (by omega) | (simp only [pN, pP, pM, pE, pL, pC, pK, sp]; omega)), fw (pC x 1) (by first | omega | exact pN_pN (by omega) (by omega) (by omega) | exact pP_pN (by omega) (by omega) (by omega) | exact (pP_pN (by omega) (by omega) (by omega)).symm | exact pP_pP (by omega) (by omega) (by omega) (by omega) (by omega) | (simp only [pN, pP, pM, pE, pL, pC, pK, sp]; omega)), fw (pC x 3) (by first | omega | exact pN_pN (by omega) (by omega) (by omega) | exact pP_pN (by omega) (by omega) (by omega) | exact (pP_pN (by omega) (by omega) (by omega)).symm | exact pP_pP (by omega) (by omega) (by omega) (by omega) (by omega) | (simp only [pN, pP, pM, pE, pL, pC, pK, sp]; omega))]
    by_cases e : x = c₀
    · subst e
      rw [uQ_s, pk_us]
      exact ⟨q1, q2, q3, rfl, fun k p hk => by cases hk⟩
    · rw [uQ_n _ _ e, fw (pC x 2) (by first | omega | exact pN_pN (by omega) (by omega) (by omega) | exact pP_pN (by omega) (by omega) (by omega) | exact (pP_pN (by omega) (by omega) (by omega)).symm | exact pP_pP (by omega) (by omega) (by omega) (by omega) (by omega) | (simp only [pN, pP, pM, pE, pL, pC, pK, sp]; omega))]
      refine ⟨q1, q2, q3, q4, fun k p' hk => ?_⟩
      have hk2 := (List.getElem?_eq_some_iff.mp hk).1
      have hlx := hl x hx
      have g := q5 k p' hk
      unfold kM at g ⊢
      rw [fw (pK x k 0) (by first | omega | exact pN_pN (by omega) (by omega) (by omega) | exact pP_pN (by omega) (by omega) (by omega) | exact (pP_pN (by omega) (by omega) (by omega)).symm | exact pP_pP (by omega) (by omega) (by omega) (by omega) (by omega) | (simp only [pN, pP, pM, pE, pL, pC, pK, sp]; omega)), fw (pK x k 1) (by first | omega | exact pN_pN (by omega) (by omega) (by omega) | exact pP_pN (by omega) (by omega) (by omega) | exact (pP_pN (by omega) (by omega) (by omega)).symm | exact pP_pP (by omega) (by omega) (by omega) (by omega) (by omega) | (simp only [pN, pP, pM, pE, pL, pC, pK, sp]; omega)), fw (pK x k 2) (by first | omega | exact pN_pN (by omega) (by omega) (by omega) | exact pP_pN (by omega) (by omega) (by omega) | exact (pP_pN (by omega) (by omega) (by omega)).symm | exact pP_pP (by omega) (by omega) (by omega) (by omega) (by omega) | (simp only [pN, pP, pM, pE, pL, pC, pK, sp]; omega)), fw (pK x k 3) (by first | omega | exact pN_pN (by omega) (by omega) (by omega) | exact pP_pN (by omega) (by omega) (by omega) | exact (pP_pN (by omega) (by omega) (by omega)).symm | exact pP_pP (by omega) (by omega) (by omega) (by omega) (by omega) | (simp only [pN, pP, pM, pE, pL, pC, pK, sp]; omega)), fw (pK x k 4) (by first | omega | exact pN_pN (by omega) (by omega) (by omega) | exact pP_pN (by omega) (by omega) (by omega) | exact (pP_pN (by omega) (by omega) (by omega)).symm | exact pP_pP (by omega) (by omega) (by omega) (by omega) (by omega) | (simp only [pN, pP, pM, pE, pL, pC, pK, sp]; omega)), fw (pK x k 5) (by first | omega | exact pN_pN (by omega) (by omega) (by omega) | exact pP_pN (by omega) (by omega) (by omega) | exact (pP_pN (by omega) (by omega) (by omega)).symm | exact pP_pP (by omega) (by omega) (by omega) (by omega) (by omega) | (simp only [pN, pP, pM, pE, pL, pC, pK, sp]; omega))]
      exact g
  · intro a b ha hb
    obtain ⟨q1, q2⟩ := hQ a b ha hb
    by_cases e : 6 * a + b = c₀
    · rw [e, uQ_s]; exact ⟨fun p hp => absurd hp List.not_mem_nil, fun _ => rfl⟩
    · rw [uQ_n _ _ e]; exact ⟨q1, q2⟩
/-- channels to those that are down among the first are empty -/
def zQ (N n i : Nat) (σ : Sg) (Q : Qs) : Prop := ∀ f a, f < N → a < N → σ 2 a ≠ NO → (a < n ∨ (a = n ∧ f < i)) → Q (6 * f + a) = []
theorem zQ_clear {n i c : Nat} (h : zQ N n i σ Q) (h2 : σ' 2 = σ 2) : zQ N n i σ' (uQ Q c []) := fun f a hf ha hd hx => by
  by_cases e : 6 * f + a = c
  · rw [e, uQ_s]
  · rw [uQ_n _ _ e]; exact h f a hf ha (by rw [← h2]; exact hd) hx
theorem s_dropTo {n : Nat} (hn : n < N) (he : ∀ n m, e n m ≤ 1) : ∀ (r i f f' : Nat) (σ : Sg) (ω : Nat → Int32) (Q : Qs), i + r = N → r < f → r < f' → R0 dr tk pl N G M T B Q Dl σ ω → rI N e Q σ → zQ N n i σ Q →
    ∃ σ' ω' Q', (∀ K2, fX7_dropForDown_12 pl K2 f (nI n) (nI i) σ = K2 (nI (n + 1)) σ') ∧ (∀ K x2, fX12_oneTick_144 K f' x2 (nI n) (nI i) (sq u 1 ω) = K x2 (nI (n + 1)) (sq u 1 ω')) ∧ R0 dr tk pl N G M T B Q' Dl σ' ω' ∧ rI N e Q' σ' ∧ zQ N (n + 1) 0 σ' Q' ∧ fB σ σ' ∧ (zQ N N 0 σ Q → σ' = σ ∧ Q' = Q) ∧ (∀ d, Q d = [] → Q' d = []) := by
  intro r
  induction r with
  | zero =>
    intro i f f' σ ω Q hi hf hf' h hI hz
    obtain ⟨f, rfl⟩ : ∃ g, f = g + 1 := ⟨f - 1, by omega⟩
    obtain ⟨f', rfl⟩ : ∃ g, f' = g + 1 := ⟨f' - 1, by omega⟩
    have hi : i = N := by omega
    subst hi
    have h6 := h.1.1.1
    have z1 := h.1.2.1.1
    have z2 := h.1.2.1.2
    refine ⟨σ, ω, Q, fun K2 => ?_, fun K x2 => ?_, h, hI, fun f a hf ha hd hx => hz f a hf ha hd (by omega), fB_rf σ, fun _ => ⟨rfl, rfl⟩, fun _ q => q⟩
    · simp (disch := first | omega | (simp only [pN, pP, pM, pE, pL, pC, pK, sp]; omega)) only [u_fX7_dropForDown_12, u_fX7_dropForDown_46, z1, e_T, e_F, e_bnd, e_obr, e_obd, e_obt, e_addB, e_addA, e_in, e_cl, e_leT, e_leF, e_ltT, e_ltF, e_eqT, e_eqF, e_NOT, e_NOF, nI_add, pk_mul, k_spot, k_chan, m_node, m_pair, m_msg, m_chan, m_pack, e_w, e_wn, e_ws]
    · simp (disch := first | omega | (simp only [pN, pP, pM, pE, pL, pC, pK, sp]; omega)) only [u_fX12_oneTick_144, m_nodes, z2, e_T, e_F, e_bnd, e_obr, e_obd, e_obt, e_addB, e_addA, e_in, e_cl, e_leT, e_leF, e_ltT, e_ltF, e_eqT, e_eqF, e_NOT, e_NOF, nI_add, pk_mul, k_spot, k_chan, m_node, m_pair, m_msg, m_chan, m_pack, e_w, e_wn, e_ws]
  | succ r ih =>
    intro i f f' σ ω Q hi hf hf' h hI hz
    obtain ⟨f, rfl⟩ : ∃ g, f = g + 1 := ⟨f - 1, by omega⟩
    obtain ⟨f', rfl⟩ : ∃ g, f' = g + 1 := ⟨f' - 1, by omega⟩
    have h6 := h.1.1.1
    have hM20 := h.1.1.2.2.1
    have z1 := h.1.2.1.1
    have z2 := h.1.2.1.2
    have hup := k_isUp (σ := σ) (n := n) (by omega)
    have hup' := q_isUp (u := u) h.2.1 h.1.1.2.2.2 h6 hn
    have hll : ∀ c, c < 36 → (Q c).length ≤ 110 := fun c hc => Nat.le_trans (q_len h.2.2.2.2.2.2.2.2.1 hI he h6 hM20 hc) (by omega)
    cases hu : upB σ n with
    | true =>
      rw [hu] at hup hup'
      have hu2 : σ 2 n = NO := by unfold upB at hu; exact of_decide_eq_true hu
      have key : ∀ (r i f' : Nat), i + r = N → r < f' → ∀ K x2, fX12_oneTick_144 K f' x2 (nI n) (nI i) (sq u 1 ω) = K x2 (nI (n + 1)) (sq u 1 ω) := by
        intro r
        induction r with
        | zero =>
          intro i f' hi hf' K x2
          obtain ⟨f', rfl⟩ : ∃ k, f' = k + 1 := ⟨f' - 1, by omega⟩
          have hi : i = N := by omega
          subst hi
          simp (disch := first | omega | (simp only [pN, pP, pM, pE, pL, pC, pK, sp]; omega)) only [u_fX12_oneTick_144, m_nodes, z2, e_T, e_F, e_bnd, e_obr, e_obd, e_obt, e_addB, e_addA, e_in, e_cl, e_leT, e_leF, e_ltT, e_ltF, e_eqT, e_eqF, e_NOT, e_NOF, nI_add, pk_mul, k_spot, k_chan, m_node, m_pair, m_msg, m_chan, m_pack, e_w, e_wn, e_ws]
        | succ r ih =>
          intro i f' hi hf' K x2
          obtain ⟨f', rfl⟩ : ∃ k, f' = k + 1 := ⟨f' - 1, by omega⟩
          have := ih (i + 1) f' (by omega) (by omega) K x2
          simp (disch := first | omega | (simp only [pN, pP, pM, pE, pL, pC, pK, sp]; omega)) only [u_fX12_oneTick_144, u_fX12_oneTick_174, m_nodes, z2, hup', b2_t, this, e_T, e_F, e_bnd, e_obr, e_obd, e_obt, e_addB, e_addA, e_in, e_cl, e_leT, e_leF, e_ltT, e_ltF, e_eqT, e_eqF, e_NOT, e_NOF, nI_add, pk_mul, k_spot, k_chan, m_node, m_pair, m_msg, m_chan, m_pack, e_w, e_wn, e_ws]
      refine ⟨σ, ω, Q, fun K2 => ?_, key (r + 1) i (f' + 1) hi hf', h, hI, fun f a hf ha hd hx => ?_, fB_rf σ, fun _ => ⟨rfl, rfl⟩, fun _ q => q⟩
      · simp (disch := first | omega | (simp only [pN, pP, pM, pE, pL, pC, pK, sp]; omega)) only [u_fX7_dropForDown_12, u_fX7_dropForDown_46, z1, hup, b2_t, e_T, e_F, e_bnd, e_obr, e_obd, e_obt, e_addB, e_addA, e_in, e_cl, e_leT, e_leF, e_ltT, e_ltF, e_eqT, e_eqF, e_NOT, e_NOF, nI_add, pk_mul, k_spot, k_chan, m_node, m_pair, m_msg, m_chan, m_pack, e_w, e_wn, e_ws]
      · by_cases ea : a = n
        · subst ea; exact absurd hu2 hd
        · exact hz f a hf ha hd (by omega)
    | false =>
      rw [hu] at hup hup'
      have hd2 : σ 2 n ≠ NO := fun q => by unfold upB at hu; rw [decide_eq_true q] at hu; cases hu
      obtain ⟨σ1, k1, k2, k3⟩ := R0_clear h hll (show 6 * i + n < 36 by omega)
      have cb := fB_c k3
      have hI1 := rI_c (rI_clear hI h6 (show i < N by omega) hn hd2) (cb 15 (by decide)) (cb 2 (by decide)) (cb 27 (by decide))
      have hz1 : zQ N n (i + 1) σ1 (uQ Q (6 * i + n) []) := fun f a hf ha hd hx => by
        by_cases ea : 6 * f + a = 6 * i + n
        · rw [ea, uQ_s]
        · rw [uQ_n _ _ ea]
          exact hz f a hf ha (by rw [← cb 2 (by decide)]; exact hd) (by omega)
      obtain ⟨σ', ω', Q', t1, t2, t3, t4, t5, t6, t7, t8⟩ := ih (i + 1) f f' σ1 _ _ (by omega) (by omega) (by omega) k2 hI1 hz1
      refine ⟨σ', ω', Q', fun K2 => ?_, fun K x2 => ?_, t3, t4, t5, fB_tr k3 t6, fun q => ?_, fun d q => t8 d ?_⟩
      · rw [← t1 K2]
        simp (disch := first | omega | (simp only [pN, pP, pM, pE, pL, pC, pK, sp]; omega)) only [u_fX7_dropForDown_12, z1, hup, b2_f, k1, e_T, e_F, e_bnd, e_obr, e_obd, e_obt, e_addB, e_addA, e_in, e_cl, e_leT, e_leF, e_ltT, e_ltF, e_eqT, e_eqF, e_NOT, e_NOF, nI_add, pk_mul, k_spot, k_chan, m_node, m_pair, m_msg, m_chan, m_pack, e_w, e_wn, e_ws]
      · rw [← t2 K x2]
        simp (disch := first | omega | (simp only [pN, pP, pM, pE, pL, pC, pK, sp]; omega)) only [u_fX12_oneTick_144, u_fX12_oneTick_174, m_nodes, z2, hup', b2_f, e_T, e_F, e_bnd, e_obr, e_obd, e_obt, e_addB, e_addA, e_in, e_cl, e_leT, e_leF, e_ltT, e_ltF, e_eqT, e_eqF, e_NOT, e_NOF, nI_add, pk_mul, k_spot, k_chan, m_node, m_pair, m_msg, m_chan, m_pack, e_w, e_wn, e_ws]
      · have hq := q i n (by omega) hn hd2 (by omega)
        have e1 : uQ Q (6 * i + n) [] = Q := by
          funext d
          by_cases h : d = 6 * i + n
          · subst h; rw [uQ_s, hq]
          · rw [uQ_n _ _ h]
        have e2 : σ1 = σ := by
          have hsz := k_size h.2.2.2.2.2.2.2.2.2.1 (show 6 * i + n < 36 by omega)
          rw [hq] at hsz
          obtain ⟨g, hg⟩ : ∃ g, FU = g + 1 := ⟨99999, rfl⟩
          simp (disch := first | omega | (simp only [pN, pP, pM, pE, pL, pC, pK, sp]; omega)) only [u_fX1_dropAll, u_fX1_dropAll_0, hg, u_fX1_dropAll_7, hsz, List.length_nil, e_T, e_F, e_bnd, e_obr, e_obd, e_obt, e_addB, e_addA, e_in, e_cl, e_leT, e_leF, e_ltT, e_ltF, e_eqT, e_eqF, e_NOT, e_NOF, nI_add, pk_mul, k_spot, k_chan, m_node, m_pair, m_msg, m_chan, m_pack, e_w, e_wn, e_ws] at k1
          exact (Option.some.inj k1).symm
        rw [e1, e2] at t7
        exact t7 q
      · by_cases ed : d = 6 * i + n
        · rw [ed, uQ_s]
        · rw [uQ_n _ _ ed]; exact q
theorem s_dropAll_lp (he : ∀ n m, e n m ≤ 1) : ∀ (r n f f' : Nat) (σ : Sg) (ω : Nat → Int32) (Q : Qs), n + r = N → r < f → r < f' → R0 dr tk pl N G M T B Q Dl σ ω → rI N e Q σ → zQ N n 0 σ Q →
    ∃ σ' ω' Q', fX7_dropForDown_2 pl f (nI n) σ = some σ' ∧ (∀ x2, fX12_oneTick_133 f' x2 (nI n) (sq u 1 ω) = some (x2, sq u 1 (upd ω' 4 (ω' 4 + nI 1)))) ∧ R0 dr tk pl N G M T B Q' Dl σ' ω' ∧ rI N e Q' σ' ∧ zQ N N 0 σ' Q' ∧ fB σ σ' ∧ (zQ N N 0 σ Q → σ' = σ ∧ Q' = Q) ∧ (∀ d, Q d = [] → Q' d = []) := by
  intro r
  induction r with
  | zero =>
    intro n f f' σ ω Q hn hf hf' h hI hz
    obtain ⟨f, rfl⟩ : ∃ g, f = g + 1 := ⟨f - 1, by omega⟩
    obtain ⟨f', rfl⟩ : ∃ g, f' = g + 1 := ⟨f' - 1, by omega⟩
    have hn : n = N := by omega
    subst hn
    have h6 := h.1.1.1
    have z1 := h.1.2.1.1
    have z2 := h.1.2.1.2
    refine ⟨σ, ω, Q, ?_, fun x2 => ?_, h, hI, hz, fB_rf σ, fun _ => ⟨rfl, rfl⟩, fun _ q => q⟩
    · simp (disch := first | omega | (simp only [pN, pP, pM, pE, pL, pC, pK, sp]; omega)) only [u_fX7_dropForDown_2, z1, e_T, e_F, e_bnd, e_obr, e_obd, e_obt, e_addB, e_addA, e_in, e_cl, e_leT, e_leF, e_ltT, e_ltF, e_eqT, e_eqF, e_NOT, e_NOF, nI_add, pk_mul, k_spot, k_chan, m_node, m_pair, m_msg, m_chan, m_pack, e_w, e_wn, e_ws]
    · simp (disch := first | omega | (simp only [pN, pP, pM, pE, pL, pC, pK, sp]; omega)) only [u_fX12_oneTick_133, m_nodes, z2, e_T, e_F, e_bnd, e_obr, e_obd, e_obt, e_addB, e_addA, e_in, e_cl, e_leT, e_leF, e_ltT, e_ltF, e_eqT, e_eqF, e_NOT, e_NOF, nI_add, pk_mul, k_spot, k_chan, m_node, m_pair, m_msg, m_chan, m_pack, e_w, e_wn, e_ws]
  | succ r ih =>
    intro n f f' σ ω Q hn hf hf' h hI hz
    obtain ⟨f, rfl⟩ : ∃ g, f = g + 1 := ⟨f - 1, by omega⟩
    obtain ⟨f', rfl⟩ : ∃ g, f' = g + 1 := ⟨f' - 1, by omega⟩
    have h6 := h.1.1.1
    have z1 := h.1.2.1.1
    have z2 := h.1.2.1.2
    obtain ⟨σ1, ω1, Q1, a1, a2, a3, a4, a5, a6, a7, a8⟩ := s_dropTo (u := u) (show n < N by omega) he N 0 FU FU σ ω Q (by omega) (by show N < 100000; omega) (by show N < 100000; omega) h hI hz
    obtain ⟨σ', ω', Q', t1, t2, t3, t4, t5, t6, t7, t8⟩ := ih (n + 1) f f' σ1 ω1 Q1 (by omega) (by omega) (by omega) a3 a4 a5
    refine ⟨σ', ω', Q', ?_, fun x2 => ?_, t3, t4, t5, fB_tr a6 t6, fun q => ?_, fun d q => t8 d (a8 d q)⟩
    · simp (disch := first | omega | (simp only [pN, pP, pM, pE, pL, pC, pK, sp]; omega)) only [u_fX7_dropForDown_2, z1, a1, t1, e_T, e_F, e_bnd, e_obr, e_obd, e_obt, e_addB, e_addA, e_in, e_cl, e_leT, e_leF, e_ltT, e_ltF, e_eqT, e_eqF, e_NOT, e_NOF, nI_add, pk_mul, k_spot, k_chan, m_node, m_pair, m_msg, m_chan, m_pack, e_w, e_wn, e_ws]
    · simp (disch := first | omega | (simp only [pN, pP, pM, pE, pL, pC, pK, sp]; omega)) only [u_fX12_oneTick_133, m_nodes, z2, a2, t2, e_T, e_F, e_bnd, e_obr, e_obd, e_obt, e_addB, e_addA, e_in, e_cl, e_leT, e_leF, e_ltT, e_ltF, e_eqT, e_eqF, e_NOT, e_NOF, nI_add, pk_mul, k_spot, k_chan, m_node, m_pair, m_msg, m_chan, m_pack, e_w, e_wn, e_ws]
    · obtain ⟨e1, e2⟩ := a7 q
      subst e1 e2
      exact t7 q
/-- the tick's number -/
theorem R0_tick (h : R0 dr tk pl N G M T B Q Dl σ ω) (hl : ∀ c, c < 36 → (Q c).length ≤ 110) (hT : T < 100000) : R0 dr tk pl N G M (T + 1) B Q Dl (s2 σ 0 3 (σ 0 3 + nI 1)) (upd ω 4 (ω 4 + nI 1)) := by
  obtain ⟨hS, hN, hP, hD, hM, hE, hL, hC, hQ, hO, hB⟩ := h
  have c : fc [0] σ (s2 σ 0 3 (σ 0 3 + nI 1)) := fc_s2 _ _ _ _
  have fw : ∀ i, i ≠ 4 → upd ω 4 (ω 4 + nI 1) i = ω i := fun i hi => pk_un hi
  have hN' : rN N T B (s2 σ 0 3 (σ 0 3 + nI 1)) (upd ω 4 (ω 4 + nI 1)) := rN_fr hN (fun n _ => by rw [c 2 (by decide), c 3 (by decide), c 4 (by decide)]; exact ⟨rfl, rfl, rfl⟩) (fun n w hn hw => fw _ (by first | omega | exact pN_pN (by omega) (by omega) (by omega) | exact pP_pN (by omega) (by omega) (by omega) | exact (pP_pN (by omega) (by omega) (by omega)).symm | exact pP_pP (by omega) (by omega) (by omega) (by omega) (by omega) | (simp only [pN, pP, pM, pE, pL, pC, pK, sp]; omega)))
  have hP' : rP N M T B (s2 σ 0 3 (σ 0 3 + nI 1)) (upd ω 4 (ω 4 + nI 1)) := rP_fr hP (fun i _ => by rw [c 20 (by decide), c 21 (by decide), c 22 (by decide), c 23 (by decide), c 27 (by decide), c 28 (by decide), c 29 (by decide)]; exact ⟨rfl, rfl, rfl, rfl, rfl, rfl, rfl⟩) (fun n m w hn hm hw => fw _ (by first | omega | exact pN_pN (by omega) (by omega) (by omega) | exact pP_pN (by omega) (by omega) (by omega) | exact (pP_pN (by omega) (by omega) (by omega)).symm | exact pP_pP (by omega) (by omega) (by omega) (by omega) (by omega) | (simp only [pN, pP, pM, pE, pL, pC, pK, sp]; omega)))
  have hM' : rM N M T (s2 σ 0 3 (σ 0 3 + nI 1)) (upd ω 4 (ω 4 + nI 1)) := rM_fr hM (fun m _ => by rw [c 14 (by decide), c 15 (by decide), c 16 (by decide), c 17 (by decide), c 18 (by decide)]; exact ⟨rfl, rfl, rfl, rfl, rfl⟩) (fun m w hm hw => fw _ (by first | omega | exact pN_pN (by omega) (by omega) (by omega) | exact pP_pN (by omega) (by omega) (by omega) | exact (pP_pN (by omega) (by omega) (by omega)).symm | exact pP_pP (by omega) (by omega) (by omega) (by omega) (by omega) | (simp only [pN, pP, pM, pE, pL, pC, pK, sp]; omega)))
  refine ⟨?_, fun n hn => ?_, fun n m hn hm => rP1_mono (hP' n m hn hm) (Nat.le_refl _) (by omega) (Nat.le_refl _), rD_fr hD (fun i _ => by rw [c 20 (by decide), c 24 (by decide), c 23 (by decide)]; exact ⟨rfl, rfl, rfl⟩) (fun n m _ _ => by rw [c 17 (by decide)]) (fun n _ => by rw [c 25 (by decide)]) (fun n w hn hw h4 => fw _ (by first | omega | exact pN_pN (by omega) (by omega) (by omega) | exact pP_pN (by omega) (by omega) (by omega) | exact (pP_pN (by omega) (by omega) (by omega)).symm | exact pP_pP (by omega) (by omega) (by omega) (by omega) (by omega) | (simp only [pN, pP, pM, pE, pL, pC, pK, sp]; omega))), fun m hm => ?_, rE_fr hE (by rw [c 30 (by decide)]) (fun k _ => by rw [c 31 (by decide), c 32 (by decide), c 33 (by decide)]; exact ⟨rfl, rfl, rfl⟩) (fw _ (by first | omega | exact pN_pN (by omega) (by omega) (by omega) | exact pP_pN (by omega) (by omega) (by omega) | exact (pP_pN (by omega) (by omega) (by omega)).symm | exact pP_pP (by omega) (by omega) (by omega) (by omega) (by omega) | (simp only [pN, pP, pM, pE, pL, pC, pK, sp]; omega))) (fun k w hk hw => fw _ (by first | omega | exact pN_pN (by omega) (by omega) (by omega) | exact pP_pN (by omega) (by omega) (by omega) | exact (pP_pN (by omega) (by omega) (by omega)).symm | exact pP_pP (by omega) (by omega) (by omega) (by omega) (by omega) | (simp only [pN, pP, pM, pE, pL, pC, pK, sp]; omega))), rL_fr hL (by rw [c 34 (by decide)]; exact ⟨rfl, rfl⟩) (fun i _ => by rw [c 35 (by decide)]) (fw _ (by first | omega | exact pN_pN (by omega) (by omega) (by omega) | exact pP_pN (by omega) (by omega) (by omega) | exact (pP_pN (by omega) (by omega) (by omega)).symm | exact pP_pP (by omega) (by omega) (by omega) (by omega) (by omega) | (simp only [pN, pP, pM, pE, pL, pC, pK, sp]; omega))) (fun k w hk hw => fw _ (by first | omega | exact pN_pN (by omega) (by omega) (by omega) | exact pP_pN (by omega) (by omega) (by omega) | exact (pP_pN (by omega) (by omega) (by omega)).symm | exact pP_pP (by omega) (by omega) (by omega) (by omega) (by omega) | (simp only [pN, pP, pM, pE, pL, pC, pK, sp]; omega))), rC_fr hC (fun x hx => Nat.le_trans (hl x hx) (by omega)) (fun x _ => by rw [c 6 (by decide), c 7 (by decide), c 8 (by decide)]; exact ⟨rfl, rfl, rfl⟩) (fun x w hx hw => fw _ (by first | omega | exact pN_pN (by omega) (by omega) (by omega) | exact pP_pN (by omega) (by omega) (by omega) | exact (pP_pN (by omega) (by omega) (by omega)).symm | exact pP_pP (by omega) (by omega) (by omega) (by omega) (by omega) | (simp only [pN, pP, pM, pE, pL, pC, pK, sp]; omega))), hQ, rO_fr hO (by rw [c 5 (by decide)]; exact ⟨rfl, rfl⟩) (fun x _ => by rw [c 9 (by decide), c 11 (by decide), c 12 (by decide)]; exact ⟨rfl, rfl, rfl⟩) (fun i _ => by rw [c 10 (by decide)]), (by rw [cnt_fr (σ := σ) (fun i _ => by rw [c 20 (by decide)])]; exact hB)⟩
  · obtain ⟨a0, a1, a2, a3, a4, a5, a6, a7, a8, a9, a10, a11⟩ := hS
    have e : ∀ j, j ≠ 3 → s2 σ 0 3 (σ 0 3 + nI 1) 0 j = σ 0 j := fun j hj => by simp (disch := first | omega | (simp only [pN, pP, pM, pE, pL, pC, pK, sp]; omega)) only [e_s2, e_s2n, pk_us, pk_un]
    refine ⟨⟨a0.1, a0.2.1, a0.2.2.1, by omega⟩, ?_, ?_, ?_, ?_, ?_, ?_, ?_, ?_, ?_, ?_, ?_⟩
    · rw [e 0 (by omega), fw 0 (by omega)]; exact a1
    · rw [e 1 (by omega), fw 1 (by omega)]; exact a2
    · rw [c 13 (by decide), fw 3 (by omega)]; exact a3
    · rw [e_s2, pk_us, pk_us, a4.1, a4.2, nI_add]; exact ⟨rfl, rfl⟩
    · rw [e 2 (by omega), fw 2 (by omega)]; exact a5
    · rw [e 6 (by omega), fw 8 (by omega)]; exact a6
    · rw [e 5 (by omega), fw 6 (by omega)]; exact a7
    · rw [e 4 (by omega), fw 5 (by omega)]; exact a8
    · rw [e 7 (by omega), fw 10 (by omega)]; exact a9
    · intro g hg; rw [c 1 (by decide), fw (11 + g) (by omega)]; exact a10 g hg
    · rw [c 1 (by decide)]; exact a11
  · obtain ⟨y1, y2, y3⟩ := hN' n hn
    refine ⟨fun hx => (y1 hx).imp id (fun z => ?_), y2, y3⟩
    obtain ⟨d, z1, z2⟩ := z
    exact ⟨d, by omega, z2⟩
  · obtain ⟨y1, y2, y3⟩ := hM' m hm
    refine ⟨y1, fun hx => ?_, y3⟩
    obtain ⟨z1, z2, b, z3, z4⟩ := y2 hx
    exact ⟨z1, z2, b, by omega, z4⟩
end TI
