/-! a channel is heard, all are heard -/
def eu (u u' : Sg) : Prop := ∀ q, q ≠ 7 → u' q = u q
theorem eu_rf (u : Sg) : eu u u := fun _ _ => rfl
theorem eu_tr {u u' u'' : Sg} (h1 : eu u u') (h2 : eu u' u'') : eu u u'' := fun q hq => (h2 q hq).trans (h1 q hq)
theorem dF_eu {dr : Prop} {u u' : Sg} (h : dF dr u) (he : eu u u') : dF dr u' := by unfold dF at h ⊢; rw [he 0 (by omega)]; exact h
theorem outR_eu (u : Sg) (ω : Nat → Int32) (F : Nat) : eu u (outR u ω F) := by
  intro q hq
  unfold outR
  simp (disch := first | omega | (simp only [pN, pP, pM, pE, pL, pC, pK, sp]; omega)) only [e_s2, e_s2n, pk_us, pk_un]
theorem i_le_lt {a b : Int32} : ¬ a ≤ b ↔ b < a := by rw [Int32.le_iff_toInt_le, Int32.lt_iff_toInt_lt]; omega
theorem i_lt_le {a b : Int32} : ¬ a < b ↔ b ≤ a := by rw [Int32.le_iff_toInt_le, Int32.lt_iff_toInt_lt]; omega
section CH
variable {dr : Prop} {tk : Int32} {N G M T : Nat} {e : Nat → Nat → Nat} {Dl : Nat → List Nat}
theorem s_ch {n f : Nat} (hn : n < N) (hf : f < N) (he : ∀ n m, e n m ≤ 1) : ∀ (l ext : List Pk) (g g' pl B : Nat) (σ u : Sg) (ω : Nat → Int32) (Q : Qs), l.length < g → l.length < g' → R0 dr tk pl N G M T B Q Dl σ ω → rI N e Q σ → dF dr u → σ 2 n = NO → σ 7 (6 * f + n) = nI 0 → Q (6 * f + n) = l ++ ext → (∀ p, p ∈ ext → nI T < p.1) →
    ∃ σ' d u' ω' Q' B', (∀ K2 K12, fX7_hearAll_45 K2 K12 g (nI n) (nI f) (nI (6 * f + n)) (nI l.length) σ pl = addB d (fX7_hearAll_170 K2 K12 (nI n) (nI f) σ' (pl + d))) ∧ fX12_hearsAll_0 g' (nI f) (nI n) (sq u 1 ω) = some (sq u' 1 ω') ∧ R0 dr tk (pl + d) N G M T B' Q' Dl σ' ω' ∧ rI N e Q' σ' ∧ eu u u' ∧ σ' 2 = σ 2 ∧ (σ' 0 8 = nI 1 ∨ σ' = σ) ∧ (l = [] → σ' = σ) := by
  intro l
  induction l with
  | nil =>
    intro ext g g' pl B σ u ω Q hg hg' h hI hd hu h7 hq hx
    obtain ⟨g, rfl⟩ : ∃ k, g = k + 1 := ⟨g - 1, by omega⟩
    obtain ⟨g', rfl⟩ : ∃ k, g' = k + 1 := ⟨g' - 1, by omega⟩
    have h6 := h.1.1.1
    have hc : 6 * f + n < 36 := by omega
    have hT := h.1.2.2.2.2.1.2
    obtain ⟨-, -, -, many, pks⟩ := h.2.2.2.2.2.2.2.1 (6 * f + n) hc
    rw [List.nil_append] at hq
    refine ⟨σ, 0, u, ω, Q, B, fun K2 K12 => ?_, ?_, h, hI, eu_rf u, rfl, Or.inr rfl, fun _ => rfl⟩
    · rw [addB_0]
      simp (disch := first | omega | (simp only [pN, pP, pM, pE, pL, pC, pK, sp]; omega)) only [u_fX7_hearAll_45, List.length_nil, Nat.add_zero, e_T, e_F, e_bnd, e_obr, e_obd, e_obt, e_addB, e_addA, e_in, e_cl, e_leT, e_leF, e_ltT, e_ltF, e_eqT, e_eqF, e_NOT, e_NOF, nI_add, pk_mul, k_spot, k_chan, m_node, m_pair, m_msg, m_chan, m_pack, e_w, e_wn, e_ws]
    · cases hext : ext with
      | nil =>
        rw [hq, hext] at many
        simp (disch := first | omega | (simp only [pN, pP, pM, pE, pL, pC, pK, sp]; omega)) only [u_fX12_hearsAll_0, m_ofCh, many, List.length_nil, e_T, e_F, e_bnd, e_obr, e_obd, e_obt, e_addB, e_addA, e_in, e_cl, e_leT, e_leF, e_ltT, e_ltF, e_eqT, e_eqF, e_NOT, e_NOF, nI_add, pk_mul, k_spot, k_chan, m_node, m_pair, m_msg, m_chan, m_pack, e_w, e_wn, e_ws]
      | cons p ps =>
        have hlen := q_len h.2.2.2.2.2.2.2.2.1 hI he h6 h.1.1.2.2.1 hc
        rw [hq, hext] at many pks hlen
        simp only [List.length_cons] at many hlen
        have hp := (pks 0 p rfl).1
        have ht := hx p (by rw [hext]; exact List.mem_cons_self)
        simp (disch := first | omega | (simp only [pN, pP, pM, pE, pL, pC, pK, sp]; omega)) only [u_fX12_hearsAll_0, m_ofCh, many, hp, hT, e_T, e_F, e_bnd, e_obr, e_obd, e_obt, e_addB, e_addA, e_in, e_cl, e_leT, e_leF, e_ltT, e_ltF, e_eqT, e_eqF, e_NOT, e_NOF, nI_add, pk_mul, k_spot, k_chan, m_node, m_pair, m_msg, m_chan, m_pack, e_w, e_wn, e_ws]
        rw [cnd_pos ht]
  | cons p l ih =>
    intro ext g g' pl B σ u ω Q hg hg' h hI hd hu h7 hq hx
    obtain ⟨g, rfl⟩ : ∃ k, g = k + 1 := ⟨g - 1, by omega⟩
    obtain ⟨g', rfl⟩ : ∃ k, g' = k + 1 := ⟨g' - 1, by omega⟩
    have h6 := h.1.1.1
    have hM20 := h.1.1.2.2.1
    have hc : 6 * f + n < 36 := by omega
    have hT := h.1.2.2.2.2.1.2
    have hT' := h.1.2.2.2.2.1.1
    obtain ⟨-, -, -, many, pks⟩ := h.2.2.2.2.2.2.2.1 (6 * f + n) hc
    rw [List.cons_append] at hq
    have hlen := q_len h.2.2.2.2.2.2.2.2.1 hI he h6 hM20 hc
    have hll : ∀ c, c < 36 → (Q c).length ≤ 110 := fun c hc => Nat.le_trans (q_len h.2.2.2.2.2.2.2.2.1 hI he h6 hM20 hc) (by omega)
    obtain ⟨hvK, -⟩ := h.2.2.2.2.2.2.2.2.1 f n (by omega) (by omega)
    have hvp := hvK p (by rw [hq]; exact List.mem_cons_self)
    have hkM := pks 0 p (by rw [hq]; rfl)
    rw [hq, List.length_cons] at many hlen
    have hln : l.length ≤ 100 := by have := hlen; rw [List.length_append] at this; omega
    have hp := hkM.1
    obtain ⟨i, o1, ⟨c0, c1, c2, c3, c4⟩, o3, o4, o5⟩ := k_open1 (t := nI T) h.2.2.2.2.2.2.2.2.2.1 hc hq
    simp only [List.length_cons] at hg hg'
    by_cases hdue : p.1 ≤ nI T
    · rw [if_pos ⟨h7, hdue⟩] at o5
      obtain ⟨σ1, d1, r1, fb⟩ := R0_pop h hll hc hq
      have cb := fB_c fb
      have hI1 := rI_c (rI_pop hI h6 hn hf hu hq) (cb 15 (by decide)) (cb 2 (by decide)) (cb 27 (by decide))
      have hl1 : ∀ c, c < 36 → (uQ Q (6 * f + n) (l ++ ext) c).length ≤ 110 := fun c hc => Nat.le_trans (q_len r1.2.2.2.2.2.2.2.2.1 hI1 he h6 hM20 hc) (by omega)
      obtain ⟨pt, pk, pm, pst, pse⟩ := p
      have hpm : pm < 20 := by have := hvp.2.1; simp only at this; omega
      have hpk : pk ≤ 4 := hvp.1
      have hout : outR u ω (pK (6 * f + n) 0 0) 7 1 = nI pk ∧ outR u ω (pK (6 * f + n) 0 0) 7 2 = nI pm ∧ outR u ω (pK (6 * f + n) 0 0) 7 3 = num pst ∧ outR u ω (pK (6 * f + n) 0 0) 7 4 = nod pst ∧ outR u ω (pK (6 * f + n) 0 0) 7 5 = pse := by
        obtain ⟨-, y1, y2, y3, y4, y5⟩ := hkM
        refine ⟨?_, ?_, ?_, ?_, ?_⟩
        all_goals unfold outR; simp (disch := first | omega | (simp only [pN, pP, pM, pE, pL, pC, pK, sp]; omega)) only [e_s2, e_s2n, pk_us, pk_un]
        · exact y1
        · exact y2
        · exact y3
        · exact y4
        · exact y5
      obtain ⟨σ2, d2, ω2, Q2, B2, s1, s2', s3, s4, s5, s6⟩ := s_hear (u := outR u ω (pK (6 * f + n) 0 0)) (t := pt) (k := pk) (m := pm) (st := pst) (se := pse) r1 hl1 hI1 (dF_eu hd (outR_eu u ω _)) hn hf hvp hout (fun hk => by
          have := pop_R hI hn hf hu hpm hq hk
          rw [cb 15 (by decide), cb 27 (by decide)]; exact this) (fun hk hu2 => pop_A hI hn hf hpm hq hk (by rw [← cb 2 (by decide)]; exact hu2))
      have hst := R0_stir (x := nI 1) s3
      have cs : fc [0] σ2 (s2 σ2 0 8 (nI 1)) := fc_s2 _ _ _ _
      have e2 : s2 σ2 0 8 (nI 1) 2 = σ 2 := by rw [cs 2 (by decide), s5 2 (by decide), cb 2 (by decide)]
      have e7 : s2 σ2 0 8 (nI 1) 7 = σ 7 := by rw [cs 7 (by decide), s5 7 (by decide), cb 7 (by decide)]
      have hQ2 : ∃ ext', Q2 (6 * f + n) = l ++ ext' ∧ ∀ p, p ∈ ext' → nI T < p.1 := by
        rcases s6 with rfl | ⟨p', hp', rfl⟩
        · exact ⟨ext, uQ_s _ _ _, hx⟩
        · by_cases ec : 6 * f + n = 6 * n + f
          · refine ⟨ext ++ [p'], ?_, fun p hp => ?_⟩
            · rw [ec, uQ_s, ← ec, uQ_s, List.append_assoc]
            · rcases List.mem_append.mp hp with hp | hp
              · exact hx p hp
              · rw [List.mem_singleton] at hp; subst hp; exact hp'
          · exact ⟨ext, by rw [uQ_n _ _ ec, uQ_s], hx⟩
      obtain ⟨ext', x1, x2⟩ := hQ2
      obtain ⟨σ', d, u', ω', Q', B', t1, t2, t3, t4, t5, t6, t7, -⟩ := ih ext' g g' (pl + d2) B2 (s2 σ2 0 8 (nI 1)) (outR u ω (pK (6 * f + n) 0 0)) ω2 Q2 (by omega) (by omega) hst (rI_c s4 (cs 15 (by decide)) (cs 2 (by decide)) (cs 27 (by decide))) (dF_eu hd (outR_eu u ω _)) (by rw [e2]; exact hu) (by rw [e7]; exact h7) x1 x2
      refine ⟨σ', d2 + d, u', ω', Q', B', fun K2 K12 => ?_, ?_, by rw [← Nat.add_assoc]; exact t3, t4, eu_tr (outR_eu u ω _) t5, by rw [t6, e2], Or.inl ?_, (fun q => by cases q)⟩
      · have key : ∀ x, x = pse → fX7_hearAll_135 K2 K12 (fun a0 a1 a2 a3 w z => fX7_hearAll_45 K2 K12 g a0 a1 a2 a3 w z) (nI n) (nI f) (nI (6 * f + n)) (nI (l.length + 1)) (nI pk) (nI pm) pst x σ pl = addB (d2 + d) (fX7_hearAll_170 K2 K12 (nI n) (nI f) σ' (pl + (d2 + d))) := by
          intro x hx'
          subst hx'
          rw [← addB_addB, ← Nat.add_assoc, ← t1 K2 K12]
          simp (disch := first | omega | (simp only [pN, pP, pM, pE, pL, pC, pK, sp]; omega)) only [u_fX7_hearAll_135, d1, s1, e_dec, e_T, e_F, e_bnd, e_obr, e_obd, e_obt, e_addB, e_addA, e_in, e_cl, e_leT, e_leF, e_ltT, e_ltF, e_eqT, e_eqF, e_NOT, e_NOF, nI_add, pk_mul, k_spot, k_chan, m_node, m_pair, m_msg, m_chan, m_pack, e_w, e_wn, e_ws]
        simp only at c1 c2 c3 c4
        simp (disch := first | omega | (simp only [pN, pP, pM, pE, pL, pC, pK, sp]; omega)) only [u_fX7_hearAll_45, List.length_cons, hT', o5, c1, c2, c3, c4, e_T, e_F, e_bnd, e_obr, e_obd, e_obt, e_addB, e_addA, e_in, e_cl, e_leT, e_leF, e_ltT, e_ltF, e_eqT, e_eqF, e_NOT, e_NOF, nI_add, pk_mul, k_spot, k_chan, m_node, m_pair, m_msg, m_chan, m_pack, e_w, e_wn, e_ws]
        rcases hvp.2.2.1.1 with z | z
        · simp only at z
          rw [z, cnd_pos rfl]; exact key _ z.symm
        · simp only at z
          rw [z, cnd_neg (by decide)]; exact key _ z.symm
      · have hshf : upd (shf ω (pK (6 * f + n) 0 0) 0 (6 * (l ++ ext).length)) (pC (6 * f + n) 2) (shf ω (pK (6 * f + n) 0 0) 0 (6 * (l ++ ext).length) (pC (6 * f + n) 2) - nI 1) = wPop ω (6 * f + n) (l ++ ext).length := by
          unfold wPop
          congr 1
          unfold shf
          rw [if_neg (by unfold pC pK; omega), many, pk_sub (by omega), Nat.add_sub_cancel]
        have hlim : pK (6 * f + n) 0 0 + 6 * (l ++ ext).length + 12 < 32243 := by unfold pK; omega
        simp (disch := first | omega | (simp only [pN, pP, pM, pE, pL, pC, pK, sp]; omega)) only [u_fX12_hearsAll_0, m_ofCh, many, hp, hT, pk_sub, Nat.add_sub_cancel, e_T, e_F, e_bnd, e_obr, e_obd, e_obt, e_addB, e_addA, e_in, e_cl, e_leT, e_leF, e_ltT, e_ltF, e_eqT, e_eqF, e_NOT, e_NOF, nI_add, pk_mul, k_spot, k_chan, m_node, m_pair, m_msg, m_chan, m_pack, e_w, e_wn, e_ws]
        rw [cnd_neg (i_lt_le.mpr hdue), m_take (by unfold pC; omega) hlim, hshf, s2', e_obr]
        exact t2
      · rcases t7 with t7 | t7
        · exact t7
        · rw [t7]; simp (disch := first | omega | (simp only [pN, pP, pM, pE, pL, pC, pK, sp]; omega)) only [e_s2, e_s2n, pk_us, pk_un]
    · rw [if_neg (fun z => hdue z.2)] at o5
      refine ⟨σ, 0, u, ω, Q, B, fun K2 K12 => ?_, ?_, h, hI, eu_rf u, rfl, Or.inr rfl, fun _ => rfl⟩
      · rw [addB_0]
        simp (disch := first | omega | (simp only [pN, pP, pM, pE, pL, pC, pK, sp]; omega)) only [u_fX7_hearAll_45, List.length_cons, hT', o5, Nat.add_zero, e_T, e_F, e_bnd, e_obr, e_obd, e_obt, e_addB, e_addA, e_in, e_cl, e_leT, e_leF, e_ltT, e_ltF, e_eqT, e_eqF, e_NOT, e_NOF, nI_add, pk_mul, k_spot, k_chan, m_node, m_pair, m_msg, m_chan, m_pack, e_w, e_wn, e_ws]
      · simp (disch := first | omega | (simp only [pN, pP, pM, pE, pL, pC, pK, sp]; omega)) only [u_fX12_hearsAll_0, m_ofCh, many, hp, hT, e_T, e_F, e_bnd, e_obr, e_obd, e_obt, e_addB, e_addA, e_in, e_cl, e_leT, e_leF, e_ltT, e_ltF, e_eqT, e_eqF, e_NOT, e_NOF, nI_add, pk_mul, k_spot, k_chan, m_node, m_pair, m_msg, m_chan, m_pack, e_w, e_wn, e_ws]
        rw [cnd_pos (i_le_lt.mp hdue)]
end CH
