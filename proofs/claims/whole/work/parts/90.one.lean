/-! one tick, on both sides; idle ones -/
def idl (N M : Nat) (σ : Sg) : Prop := (∀ n, n < N → σ 2 n = NO → (∀ f, f < N → σ 9 (6 * f + n) = nI 0 ∨ σ 7 (6 * f + n) ≠ nI 0) ∧ (∀ m, m < M → mustB σ n m = false ∧ fullB N σ n m = false) ∧ dnH σ M n) ∧ (∀ n, n < N → σ 2 n ≠ NO → ntB σ n = true ∧ ∀ f, f < N → σ 9 (6 * f + n) = nI 0)
def cs0 (N : Nat) (σ : Sg) : Prop := (∀ n, n < N → σ 2 n = NO → ∀ f, f < N → σ 9 (6 * f + n) = nI 0 ∨ σ 7 (6 * f + n) ≠ nI 0) ∧ (∀ n, n < N → σ 2 n ≠ NO → ntB σ n = true)
theorem allB_cg {P P' : Nat → Bool} : ∀ {k : Nat}, (∀ i, i < k → P' i = P i) → allB P' k = allB P k
  | 0, _ => rfl
  | k + 1, h => by rw [allB_s, allB_s, allB_cg (fun i hi => h i (by omega)), h k (by omega)]
theorem full_cg {N n m : Nat} {σ σ' : Sg} (h15 : σ' 15 = σ 15) (h27 : σ' 27 = σ 27) (hnt : ∀ x, x < N → ntB σ' x = ntB σ x) : fullB N σ' n m = fullB N σ n m := by
  unfold fullB
  rw [h27, allB_cg (P := fullP σ n m) (fun i hi => by unfold fullP; rw [h15, h27, hnt i hi])]
theorem must_cg {N n m : Nat} {σ σ' : Sg} (hn : n < N) (h20 : σ' 20 (sp n m) = nI 0 ↔ σ 20 (sp n m) = nI 0) (h22 : σ' 22 = σ 22) (h15 : σ' 15 = σ 15) (h27 : σ' 27 = σ 27) (hnt : ∀ x, x < N → ntB σ' x = ntB σ x) (hl : σ 20 (sp n m) ≠ nI 0 → ldr σ n m < N) : mustB σ' n m = mustB σ n m := by
  unfold mustB
  by_cases hk : σ 20 (sp n m) = nI 0
  · rw [decide_eq_true hk, decide_eq_true (h20.mpr hk), Bool.not_true, Bool.false_and, Bool.false_and]
  · have e1 : ldr σ' n m = ldr σ n m := by unfold ldr; rw [h22]
    rw [decide_eq_false hk, decide_eq_false (fun q => hk (h20.mp q)), h27, h15, e1, hnt _ (hl hk), allB_cg (P := fun o => !bt (σ 15 m) o || ntB σ o) (fun i hi => by rw [hnt i (by omega)])]
section ON
variable {dr : Prop} {tk : Int32} {pl N G M T B : Nat} {Q : Qs} {Dl : Nat → List Nat} {u σ σ' : Sg} {ω : Nat → Int32}
theorem ldr_lt {n m : Nat} (h : R0 dr tk pl N G M T B Q Dl σ ω) (hn : n < 6) (hm : m < 20) (hk : σ 20 (sp n m) ≠ nI 0) : ldr σ n m < N := by
  have h6 := h.1.1.1
  obtain ⟨⟨k, k1, k2, k3, k4, -⟩, -⟩ := h.2.2.1 n m hn hm
  obtain ⟨-, -, l, hl, k5⟩ := k4 (fun q => hk (by rw [k2, q]))
  unfold ldr
  rw [k5, e_cl (by omega)]
  exact hl
theorem nt_next (h : R0 dr tk pl N G M T B Q Dl σ ω) (hd : ∀ n, n < N → σ 2 n ≠ NO → ntB σ n = true) (h2 : σ' 2 = σ 2) (h5 : σ' 0 5 = σ 0 5) (h3 : σ' 0 3 = σ 0 3 + nI 1) : ∀ n, n < N → ntB σ' n = ntB σ n := by
  intro n hn
  have h6 := h.1.1.1
  have hT := h.1.1.2.2.2
  obtain ⟨x, x1, x2, -⟩ := h.1.2.2.2.2.2.2.2.1
  have z3 := h.1.2.2.2.2.1.1
  by_cases hu : σ 2 n = NO
  · rw [up_nt hu, up_nt (by rw [h2]; exact hu)]
  · have hnt := hd n hn hu
    rw [hnt]
    rcases (h.2.1 n (by omega)).1 hn with ⟨y, -⟩ | ⟨d, d1, d2, -⟩
    · exact absurd y hu
    · unfold ntB at hnt ⊢
      rw [h2, h3, h5, z3, x2, d2, nI_add, pk_sub (by omega), decide_eq_false (NO_ne (by omega))]
      rw [z3, x2, d2, pk_sub d1, decide_eq_false (NO_ne (by omega))] at hnt
      have : ¬ nI (T - d) < nI x := by
        intro q; rw [decide_eq_true q] at hnt; exact absurd hnt (by decide)
      have hge : ¬ T - d < x := fun q => this (nI_lt q (by omega))
      rw [decide_eq_false (nI_nlt (by omega) (by omega))]; rfl
theorem s_tick (hR : RR dr tk (fun _ _ => 0) pl N G M T Dl σ u ω) (hT : T < 100000) :
    ∃ t σ' d u' ω' Dl', fX7_passOn σ pl = some (nI t, σ', d) ∧ fX12_oneTick_8 (sq u 1 ω) = some (nI t, sq u' 1 ω') ∧ RR dr tk (fun _ _ => 0) (pl + d) N G M (T + 1) Dl' σ' u' ω' ∧ eu u u' ∧ σ' 2 = σ 2 ∧ (idl N M σ → σ' = s2 (s2 σ 0 8 (nI 0)) 0 3 (σ 0 3 + nI 1) ∧ t = 0) ∧ (cs0 N σ → σ' 0 8 = nI 0 → idl N M σ') ∧ (σ' 0 8 = nI 0 ∨ σ' 0 8 = nI 1) := by
  obtain ⟨Q0, B0, h0, hI0, hd⟩ := hR
  have h6 := h0.1.1.1
  have hM20 := h0.1.1.2.2.1
  have c0 : fc [0] σ (s2 σ 0 8 (nI 0)) := fc_s2 _ _ _ _
  have nt0 : ∀ x, ntB (s2 σ 0 8 (nI 0)) x = ntB σ x := fun x => by unfold ntB; simp (disch := first | omega | (simp only [pN, pP, pM, pE, pL, pC, pK, sp]; omega)) only [e_s2, e_s2n, pk_us, pk_un]
  have hR0 : RR dr tk (fun _ _ => 0) pl N G M T Dl (s2 σ 0 8 (nI 0)) u ω := ⟨Q0, B0, R0_stir h0, rI_c hI0 (c0 15 (by decide)) (c0 2 (by decide)) (c0 27 (by decide)), hd⟩
  obtain ⟨σ1, d1, u1, ω1, a1, a2, a3, a4, a5, a6, a7⟩ := s_hearAll (fun _ _ => by omega) hR0
  obtain ⟨σ2, d2, ω2, b1, b2', b3, b4, b5, b6⟩ := s_leadAll a3
  obtain ⟨t, σ3, ω3, Dl', c1, c2, c3, c4, c5, c6, c7⟩ := s_handAll (eL_le N 0) b3
  obtain ⟨Q3, B3, h3, hI3, hd3⟩ := id c3
  obtain ⟨σ4, ω4, Q4, e1, e2, e3, e4, e5, e6, e7, e8⟩ := s_dropAll_lp (u := u1) (eL_le N 0) N 0 FU FU σ3 ω3 Q3 (by omega) (by show N < 100000; omega) (by show N < 100000; omega) h3 hI3 (fun f a _ _ _ hx => by omega)
  have cb := fB_c e6
  have hl4 : ∀ c, c < 36 → (Q4 c).length ≤ 110 := fun c hc => Nat.le_trans (q_len e3.2.2.2.2.2.2.2.2.1 e4 (eL_le N 0) h6 hM20 hc) (by omega)
  have h5 := R0_tick e3 hl4 hT
  have c5' : fc [0] σ4 (s2 σ4 0 3 (σ4 0 3 + nI 1)) := fc_s2 _ _ _ _
  have hI4 : rI N (fun _ _ => 0) Q4 σ4 := rI_zero e4 (fun f n hf hn hd => e5 f n hf hn hd (by omega))
  have hI5 := rI_c hI4 (c5' 15 (by decide)) (c5' 2 (by decide)) (c5' 27 (by decide))
  have e42 : σ4 2 = σ 2 := by rw [cb 2 (by decide), c4 2 (by decide), b4, a5, c0 2 (by decide)]
  refine ⟨t, s2 σ4 0 3 (σ4 0 3 + nI 1), d1 + (d2 + 0), u1, upd ω4 4 (ω4 4 + nI 1), Dl', ?_, ?_, ?_, a4, ?_, ?_, ?_, ?_⟩
  · have e1' : fX7_dropForDown (pl + d1 + d2) σ3 = some σ4 := e1
    simp (disch := first | omega | (simp only [pN, pP, pM, pE, pL, pC, pK, sp]; omega)) only [u_fX7_passOn, u_fX7_passOn_0, a1, b1, c1, e1', e_T, e_F, e_bnd, e_obr, e_obd, e_obt, e_addB, e_addA, e_in, e_cl, e_leT, e_leF, e_ltT, e_ltF, e_eqT, e_eqF, e_NOT, e_NOF, nI_add, pk_mul, k_spot, k_chan, m_node, m_pair, m_msg, m_chan, m_pack, e_w, e_wn, e_ws]
  · rw [a2, b2', c2, e2]
  · rw [Nat.add_zero, ← Nat.add_assoc]
    exact ⟨Q4, B3, h5, hI5, dF_eu hd a4⟩
  · rw [c5' 2 (by decide), e42]
  · -- an idle state
    intro hid
    have q1 : σ1 = s2 σ 0 8 (nI 0) := a7 (fun n j hn hj hu => by
      rw [c0 9 (by decide), c0 7 (by decide)]
      exact (hid.1 n hn (by rw [← c0 2 (by decide)]; exact hu)).1 j hj)
    subst q1
    have q2 : σ2 = s2 σ 0 8 (nI 0) := b6 (fun n' hn' hu m' hm' => by
      have z := (hid.1 n' hn' (by rw [← c0 2 (by decide)]; exact hu)).2.1 m' hm'
      rw [must_cg hn' (by rw [c0 20 (by decide)]) (c0 22 (by decide)) (c0 15 (by decide)) (c0 27 (by decide)) (fun x _ => nt0 x) (ldr_lt h0 (by omega) (by omega)), full_cg (c0 15 (by decide)) (c0 27 (by decide)) (fun x _ => nt0 x)]
      exact z)
    subst q2
    obtain ⟨q3, q4⟩ := c6 (fun a ha hu => by
      have z := (hid.1 a ha (by rw [← c0 2 (by decide)]; exact hu)).2.2
      intro j hj
      rw [lsO_congr (c0 20 (by decide)) (c0 21 (by decide))] at hj
      rw [c0 20 (by decide)]
      exact z j hj)
    subst q3 q4
    obtain ⟨q5, -⟩ := e7 (fun f a hf ha hda _ => by
      have z := (hid.2 a ha (by rw [← c0 2 (by decide)]; exact hda)).2 f hf
      have hsz := k_size h3.2.2.2.2.2.2.2.2.2.1 (show 6 * f + a < 36 by omega)
      have hlen := q_len h3.2.2.2.2.2.2.2.2.1 hI3 (eL_le N 0) h6 hM20 (show 6 * f + a < 36 by omega)
      rw [c0 9 (by decide), z] at hsz
      exact List.eq_nil_of_length_eq_zero ((nI_eq (by omega) (by omega)).mp hsz.symm))
    subst q5
    refine ⟨?_, rfl⟩
    congr 1
  · -- nothing stirred
    intro hcs hst
    have k8 : ∀ j, j ≠ 3 → s2 σ4 0 3 (σ4 0 3 + nI 1) 0 j = σ2 0 j := fun j hj => by
      rw [e_s2, pk_un hj, cb 0 (by decide), c4 0 (by decide)]
    rw [k8 8 (by omega)] at hst
    have hne : nI 0 ≠ nI 1 := by decide
    rcases b5 with b5 | ⟨b5, -, b7⟩
    · rw [b5] at hst; exact absurd hst.symm hne
    · subst b5
      have q1 : σ2 = s2 σ 0 8 (nI 0) := by
        rcases a6 with a6 | a6
        · rw [a6] at hst; exact absurd hst.symm hne
        · exact a6
      have x2 : σ2 2 = σ 2 := by rw [q1, c0 2 (by decide)]
      have x7 : σ2 7 = σ 7 := by rw [q1, c0 7 (by decide)]
      have x9 : σ2 9 = σ 9 := by rw [q1, c0 9 (by decide)]
      have nt2 : ∀ x, ntB σ2 x = ntB σ x := fun x => by rw [q1]; exact nt0 x
      have r2 : R0 dr tk (pl + d1 + d2) N G M T B3 Q3 Dl' σ3 ω3 := h3
      have nt3 : ∀ x, ntB σ3 x = ntB σ2 x := fun x => by unfold ntB; rw [c4 2 (by decide), c4 0 (by decide)]
      have hds : ∀ n, n < N → σ3 2 n ≠ NO → ntB σ3 n = true := fun n hn hdn => by
        rw [nt3, nt2]; exact hcs.2 n hn (by rw [← x2, ← c4 2 (by decide)]; exact hdn)
      have ntN := nt_next h3 hds (σ' := s2 σ4 0 3 (σ4 0 3 + nI 1)) (by rw [c5' 2 (by decide), cb 2 (by decide)]) (by rw [e_s2, pk_un (by omega), cb 0 (by decide)]) (by rw [e_s2, pk_us, cb 0 (by decide)])
      obtain ⟨Qx, Bx, hx, -, -⟩ := id b3
      refine ⟨fun n hn hu => ⟨fun f hf => ?_, fun m hm => ?_, ?_⟩, fun n hn hdn => ⟨?_, fun f hf => ?_⟩⟩
      · rw [c5' 2 (by decide), e42] at hu
        rw [c5' 9 (by decide), c5' 7 (by decide), cb 7 (by decide), c4 7 (by decide), x7]
        rcases hcs.1 n hn hu f hf with z | z
        · left
          have hc : 6 * f + n < 36 := by omega
          have hsz3 := k_size h3.2.2.2.2.2.2.2.2.2.1 hc
          have hlen3 := q_len h3.2.2.2.2.2.2.2.2.1 hI3 (eL_le N 0) h6 hM20 hc
          rw [c4 9 (by decide), x9, z] at hsz3
          have hq3 : Q3 (6 * f + n) = [] := List.eq_nil_of_length_eq_zero ((nI_eq (by omega) (by omega)).mp hsz3.symm)
          rw [k_size e3.2.2.2.2.2.2.2.2.2.1 hc, e8 _ hq3]; rfl
        · exact Or.inr z
      · rw [c5' 2 (by decide), e42, ← x2] at hu
        have z := b7 n hn hu m hm
        have f15 : s2 σ4 0 3 (σ4 0 3 + nI 1) 15 = σ2 15 := by rw [c5' 15 (by decide), cb 15 (by decide), c4 15 (by decide)]
        have f27 : s2 σ4 0 3 (σ4 0 3 + nI 1) 27 = σ2 27 := by rw [c5' 27 (by decide), cb 27 (by decide), c4 27 (by decide)]
        have f22 : s2 σ4 0 3 (σ4 0 3 + nI 1) 22 = σ2 22 := by rw [c5' 22 (by decide), cb 22 (by decide), c4 22 (by decide)]
        have fnt : ∀ x, x < N → ntB (s2 σ4 0 3 (σ4 0 3 + nI 1)) x = ntB σ2 x := fun x hx => by rw [ntN x hx, nt3]
        rw [must_cg hn (by rw [c5' 20 (by decide), cb 20 (by decide)]; exact c7 _) f22 f15 f27 fnt (ldr_lt hx (by omega) (by omega)), full_cg f15 f27 fnt]
        exact z
      · rw [c5' 2 (by decide), e42, ← x2] at hu
        intro j hj
        have f20 : s2 σ4 0 3 (σ4 0 3 + nI 1) 20 = σ3 20 := by rw [c5' 20 (by decide), cb 20 (by decide)]
        rw [lsO_congr f20 (by rw [c5' 21 (by decide), cb 21 (by decide)])] at hj
        rw [f20]
        exact c5 n hn hu j hj
      · rw [ntN n hn]
        exact hds n hn (by rw [c4 2 (by decide), x2, ← e42, ← c5' 2 (by decide)]; exact hdn)
      · rw [c5' 9 (by decide), k_size e3.2.2.2.2.2.2.2.2.2.1 (show 6 * f + n < 36 by omega)]
        rw [e5 f n hf hn (by rw [← c5' 2 (by decide)]; exact hdn) (by omega)]; rfl
  · rw [e_s2, pk_un (by omega), cb 0 (by decide), c4 0 (by decide)]
    rcases b5 with b5 | ⟨b5, -, -⟩
    · exact Or.inr b5
    · rw [b5]
      rcases a6 with a6 | a6
      · exact Or.inr a6
      · left; rw [a6]; simp (disch := first | omega | (simp only [pN, pP, pM, pE, pL, pC, pK, sp]; omega)) only [e_s2, e_s2n, pk_us, pk_un]
end ON
