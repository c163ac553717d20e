/-! the first packet of a channel, on both sides -/
/-- six places further from k on, to W -/
def shf (ω : Nat → Int32) (F k W : Nat) : Nat → Int32 := fun i => if F + k ≤ i ∧ i < F + W then ω (i + 6) else ω i
theorem m_shift_lp {u : Sg} {K : Int32 → Int32 → Sg → Option Sg} {a b F W : Nat} (hc : pC (6 * a + b) 2 < 32243) (hF : F + W + 6 < 32243) : ∀ (r k f : Nat) (ω : Nat → Int32), k + r = W → r < f →
    fX12_hearsAll_88 K f (nI a) (nI b) (nI F) (nI W) (nI k) (sq u 1 ω) = obr (fX12_hears (nI a) (nI b) (sq u 1 (upd (shf ω F k W) (pC (6 * a + b) 2) (shf ω F k W (pC (6 * a + b) 2) - nI 1)))) (fun u16 => K (nI a) (nI b) u16) := by
  intro r
  induction r with
  | zero =>
    intro k f ω hk hf
    obtain ⟨f, rfl⟩ : ∃ g, f = g + 1 := ⟨f - 1, by omega⟩
    have hk : k = W := by omega
    subst hk
    have e : shf ω F k k = ω := by funext i; unfold shf; rw [if_neg (by omega)]
    rw [e]
    simp (disch := first | omega | (simp only [pN, pP, pM, pE, pL, pC, pK, sp]; omega)) only [u_fX12_hearsAll_88, e_T, e_F, e_bnd, e_obr, e_obd, e_obt, e_addB, e_addA, e_in, e_cl, e_leT, e_leF, e_ltT, e_ltF, e_eqT, e_eqF, e_NOT, e_NOF, nI_add, pk_mul, k_spot, k_chan, m_node, m_pair, m_msg, m_chan, m_pack, e_w, e_wn, e_ws]
  | succ r ih =>
    intro k f ω hk hf
    obtain ⟨f, rfl⟩ : ∃ g, f = g + 1 := ⟨f - 1, by omega⟩
    have e : shf (upd ω (F + k) (ω (F + k + 6))) F (k + 1) W = shf ω F k W := by
      funext i
      unfold shf
      by_cases h1 : F + (k + 1) ≤ i ∧ i < F + W
      · rw [if_pos h1, if_pos (by omega), pk_un (by omega)]
      · rw [if_neg h1]
        by_cases h2 : i = F + k
        · subst h2; rw [pk_us, if_pos (by omega)]
        · rw [pk_un h2, if_neg (by omega)]
    have := ih (k + 1) f (upd ω (F + k) (ω (F + k + 6))) (by omega) (by omega)
    rw [e] at this
    rw [← this]
    simp (disch := first | omega | (simp only [pN, pP, pM, pE, pL, pC, pK, sp]; omega)) only [u_fX12_hearsAll_88, e_T, e_F, e_bnd, e_obr, e_obd, e_obt, e_addB, e_addA, e_in, e_cl, e_leT, e_leF, e_ltT, e_ltF, e_eqT, e_eqF, e_NOT, e_NOF, nI_add, pk_mul, k_spot, k_chan, m_node, m_pair, m_msg, m_chan, m_pack, e_w, e_wn, e_ws]
/-- the row of a heard packet -/
def outR (u : Sg) (ω : Nat → Int32) (F : Nat) : Sg := s2 (s2 (s2 (s2 (s2 (s2 u 7 0 (ω (F + 0))) 7 1 (ω (F + 1))) 7 2 (ω (F + 2))) 7 3 (ω (F + 3))) 7 4 (ω (F + 4))) 7 5 (ω (F + 5))
theorem e_ws7 (u : Sg) (ω : Nat → Int32) (i : Nat) (x : Int32) : s2 (sq u 1 ω) 7 i x = sq (s2 u 7 i x) 1 ω := by
  funext p
  by_cases h : p = 1
  · subst h; simp [s2, sq]
  · by_cases h7 : p = 7
    · subst h7; simp [s2, sq]
    · simp [s2, sq, h, h7]
theorem m_take {u : Sg} {ω : Nat → Int32} {K : Int32 → Int32 → Sg → Option Sg} {a b F W : Nat} (hc : pC (6 * a + b) 2 < 32243) (hF : F + W + 12 < 32243) : fX12_hearsAll_56 K FU (nI a) (nI b) (nI F) (nI W) (nI 0) (sq u 1 ω) = obr (fX12_hears (nI a) (nI b) (sq (outR u ω F) 1 (upd (shf ω F 0 W) (pC (6 * a + b) 2) (shf ω F 0 W (pC (6 * a + b) 2) - nI 1)))) (fun u16 => K (nI a) (nI b) u16) := by
  rw [← m_shift_lp hc (by omega) W 0 FU ω (by omega) (by show W < 100000; omega)]
  generalize hFU : fX12_hearsAll_88 K FU (nI a) (nI b) (nI F) (nI W) (nI 0) = H
  obtain ⟨f, hf⟩ : ∃ f, FU = f + 1 + 1 + 1 + 1 + 1 + 1 + 1 := ⟨99993, rfl⟩
  rw [← hFU]
  conv => lhs; rw [hf]
  simp (disch := first | omega | (simp only [pN, pP, pM, pE, pL, pC, pK, sp]; omega)) only [u_fX12_hearsAll_56, e_ws7, outR, e_T, e_F, e_bnd, e_obr, e_obd, e_obt, e_addB, e_addA, e_in, e_cl, e_leT, e_leF, e_ltT, e_ltF, e_eqT, e_eqF, e_NOT, e_NOF, nI_add, pk_mul, k_spot, k_chan, m_node, m_pair, m_msg, m_chan, m_pack, e_w, e_wn, e_ws]
/-- the class's first packet -/
theorem k_open0 {pl c : Nat} {Q : Qs} {σ : Sg} {t : Int32} (hO : rO pl Q σ) (hc : c < 36) (hq : Q c = []) : fX1_openCell pl (nI c) t σ = some NO := by
  obtain ⟨C, F, U, a1, a2, a3, a4, a5, a6, a7, a8, a9⟩ := hO
  obtain ⟨b1, b2, b3, b4, b5, b6⟩ := a9 c hc
  rw [hq] at b6
  cases hC : C c with
  | cons i is => rw [hC] at b6; exact b6.elim
  | nil =>
    rw [hC] at b3
    have b3 : σ 11 c = NO := b3
    simp (disch := first | omega | (simp only [pN, pP, pM, pE, pL, pC, pK, sp]; omega)) only [u_fX1_openCell, u_fX1_openCell_0, b3, e_T, e_F, e_bnd, e_obr, e_obd, e_obt, e_addB, e_addA, e_in, e_cl, e_leT, e_leF, e_ltT, e_ltF, e_eqT, e_eqF, e_NOT, e_NOF, nI_add, pk_mul, k_spot, k_chan, m_node, m_pair, m_msg, m_chan, m_pack, e_w, e_wn, e_ws]
theorem k_open1 {pl c : Nat} {Q : Qs} {σ : Sg} {t : Int32} {p : Pk} {ps : List Pk} (hO : rO pl Q σ) (hc : c < 36) (hq : Q c = p :: ps) : ∃ i, 6 * i + 5 < pl ∧ cI6 (σ 10) i p ∧ σ 11 c = nI (6 * i) ∧ pl ≤ 50000 ∧ fX1_openCell pl (nI c) t σ = if σ 7 c = nI 0 ∧ p.1 ≤ t then some (nI (6 * i)) else some NO := by
  obtain ⟨C, F, U, a1, a2, a3, a4, a5, a6, a7, a8, a9⟩ := hO
  obtain ⟨b1, b2, b3, b4, b5, b6⟩ := a9 c hc
  rw [hq] at b6
  cases hC : C c with
  | nil => rw [hC] at b6; exact b6.elim
  | cons i is =>
    rw [hC] at b3 b6
    obtain ⟨b3, -⟩ := b3
    have hi := (b2 i (by rw [hC]; exact List.mem_cons_self)).1
    refine ⟨i, by omega, b6.1, b3, a3, ?_⟩
    simp (disch := first | omega | (simp only [pN, pP, pM, pE, pL, pC, pK, sp]; omega)) only [u_fX1_openCell, u_fX1_openCell_0, b3, Nat.add_zero, e_T, e_F, e_bnd, e_obr, e_obd, e_obt, e_addB, e_addA, e_in, e_cl, e_leT, e_leF, e_ltT, e_ltF, e_eqT, e_eqF, e_NOT, e_NOF, nI_add, pk_mul, k_spot, k_chan, m_node, m_pair, m_msg, m_chan, m_pack, e_w, e_wn, e_ws]
    rw [b6.1.1]
    by_cases h7 : σ 7 c = nI 0
    · rw [cnd_pos h7]
      by_cases ht : p.1 ≤ t
      · rw [cnd_pos ht, if_pos ⟨h7, ht⟩]
      · rw [cnd_neg ht, if_neg (fun z => ht z.2)]
    · rw [cnd_neg h7, if_neg (fun z => h7 z.1)]
section POP
variable {dr : Prop} {tk : Int32} {pl N G M T B : Nat} {Q : Qs} {Dl : Nat → List Nat} {u σ σ' : Sg} {ω ω' : Nat → Int32}
theorem fB_c (h : fB σ σ') : fc [5, 9, 10, 11, 12] σ σ' := fun q hq => h q (fun e => hq (by rw [e]; decide)) (fun e => hq (by rw [e]; decide)) (fun e => hq (by rw [e]; decide)) (fun e => hq (by rw [e]; decide)) (fun e => hq (by rw [e]; decide))
/-- the model's row without the first packet of a channel -/
def wPop (ω : Nat → Int32) (c L : Nat) : Nat → Int32 := upd (shf ω (pK c 0 0) 0 (6 * L)) (pC c 2) (nI L)
theorem R0_pop {c₀ : Nat} {p : Pk} {ps : List Pk} (h : R0 dr tk pl N G M T B Q Dl σ ω) (hl : ∀ c, c < 36 → (Q c).length ≤ 110) (hc : c₀ < 36) (hq : Q c₀ = p :: ps) : ∃ σ', fX1_dropFirst pl (nI c₀) σ = some σ' ∧ R0 dr tk pl N G M T B (uQ Q c₀ ps) Dl σ' (wPop ω c₀ ps.length) ∧ fB σ σ' := by
  obtain ⟨hS, hN, hP, hD, hM, hE, hL, hC, hQ, hO, hB⟩ := h
  obtain ⟨σ', k1, k2, k3⟩ := k_drop hO hc hq
  have c := fB_c k3
  have hlc := hl c₀ hc
  rw [hq, List.length_cons] at hlc
  have fw : ∀ i, i < 1859 → wPop ω c₀ ps.length i = ω i := by
    intro i hi
    unfold wPop shf
    rw [pk_un (by unfold pC; omega), if_neg (by unfold pK; omega)]
  have fw2 : ∀ x w, x ≠ c₀ → w < 844 → wPop ω c₀ ps.length (pC x w) = ω (pC x w) := by
    intro x w hx hw
    unfold wPop shf
    rw [pk_un (by unfold pC; omega), if_neg (by unfold pC pK; omega)]
  have fw3 : ∀ w, w = 0 ∨ w = 1 ∨ w = 3 → wPop ω c₀ ps.length (pC c₀ w) = ω (pC c₀ w) := by
    intro w hw
    unfold wPop shf
    rw [pk_un (by unfold pC; omega), if_neg (by unfold pC pK; omega)]
  refine ⟨σ', k1, ?_, k3⟩
  refine ⟨rS_fr hS (by rw [c 0 (by decide)]; exact ⟨rfl, rfl, rfl, rfl, rfl, rfl, rfl, rfl⟩) (fun g _ => by rw [c 1 (by decide)]) (by rw [c 13 (by decide)]) (fun i hi h7 h9 => fw _ (by first | omega | exact pP_pN (by omega) (by omega) (by omega) | exact (pP_pN (by omega) (by omega) (by omega)).symm | exact pP_pP (by omega) (by omega) (by omega) (by omega) (by omega) | (simp only [pN, pP, pM, pE, pL, pC, pK, sp]; omega))), rN_fr hN (fun n _ => by rw [c 2 (by decide), c 3 (by decide), c 4 (by decide)]; exact ⟨rfl, rfl, rfl⟩) (fun n w hn hw => fw _ (by first | omega | exact pP_pN (by omega) (by omega) (by omega) | exact (pP_pN (by omega) (by omega) (by omega)).symm | exact pP_pP (by omega) (by omega) (by omega) (by omega) (by omega) | (simp only [pN, pP, pM, pE, pL, pC, pK, sp]; omega))), rP_fr hP (fun i _ => by rw [c 20 (by decide), c 21 (by decide), c 22 (by decide), c 23 (by decide), c 27 (by decide), c 28 (by decide), c 29 (by decide)]; exact ⟨rfl, rfl, rfl, rfl, rfl, rfl, rfl⟩) (fun n m w hn hm hw => fw _ (by first | omega | exact pP_pN (by omega) (by omega) (by omega) | exact (pP_pN (by omega) (by omega) (by omega)).symm | exact pP_pP (by omega) (by omega) (by omega) (by omega) (by omega) | (simp only [pN, pP, pM, pE, pL, pC, pK, sp]; omega))), rD_fr hD (fun i _ => by rw [c 20 (by decide), c 24 (by decide), c 23 (by decide)]; exact ⟨rfl, rfl, rfl⟩) (fun n m _ _ => by rw [c 17 (by decide)]) (fun n _ => by rw [c 25 (by decide)]) (fun n w hn hw h4 => fw _ (by first | omega | exact pP_pN (by omega) (by omega) (by omega) | exact (pP_pN (by omega) (by omega) (by omega)).symm | exact pP_pP (by omega) (by omega) (by omega) (by omega) (by omega) | (simp only [pN, pP, pM, pE, pL, pC, pK, sp]; omega))), rM_fr hM (fun m _ => by rw [c 14 (by decide), c 15 (by decide), c 16 (by decide), c 17 (by decide), c 18 (by decide)]; exact ⟨rfl, rfl, rfl, rfl, rfl⟩) (fun m w hm hw => fw _ (by first | omega | exact pP_pN (by omega) (by omega) (by omega) | exact (pP_pN (by omega) (by omega) (by omega)).symm | exact pP_pP (by omega) (by omega) (by omega) (by omega) (by omega) | (simp only [pN, pP, pM, pE, pL, pC, pK, sp]; omega))), rE_fr hE (by rw [c 30 (by decide)]) (fun k _ => by rw [c 31 (by decide), c 32 (by decide), c 33 (by decide)]; exact ⟨rfl, rfl, rfl⟩) (fw _ (by first | omega | exact pP_pN (by omega) (by omega) (by omega) | exact (pP_pN (by omega) (by omega) (by omega)).symm | exact pP_pP (by omega) (by omega) (by omega) (by omega) (by omega) | (simp only [pN, pP, pM, pE, pL, pC, pK, sp]; omega))) (fun k w hk hw => fw _ (by first | omega | exact pP_pN (by omega) (by omega) (by omega) | exact (pP_pN (by omega) (by omega) (by omega)).symm | exact pP_pP (by omega) (by omega) (by omega) (by omega) (by omega) | (simp only [pN, pP, pM, pE, pL, pC, pK, sp]; omega))), rL_fr hL (by rw [c 34 (by decide)]; exact ⟨rfl, rfl⟩) (fun i _ => by rw [c 35 (by decide)]) (fw _ (by first | omega | exact pP_pN (by omega) (by omega) (by omega) | exact (pP_pN (by omega) (by omega) (by omega)).symm | exact pP_pP (by omega) (by omega) (by omega) (by omega) (by omega) | (simp only [pN, pP, pM, pE, pL, pC, pK, sp]; omega))) (fun k w hk hw => fw _ (by first | omega | exact pP_pN (by omega) (by omega) (by omega) | exact (pP_pN (by omega) (by omega) (by omega)).symm | exact pP_pP (by omega) (by omega) (by omega) (by omega) (by omega) | (simp only [pN, pP, pM, pE, pL, pC, pK, sp]; omega))), ?_, ?_, k2, (by rw [cnt_fr (σ := σ) (fun i _ => by rw [c 20 (by decide)])]; exact hB)⟩
  · intro x hx
    obtain ⟨q1, q2, q3, q4, q5⟩ := hC x hx
    rw [c 6 (by decide), c 7 (by decide), c 8 (by decide)]
    by_cases e : x = c₀
    · subst e
      rw [uQ_s]
      rw [fw3 0 (by omega), fw3 1 (by omega), fw3 3 (by omega)]
      refine ⟨q1, q2, q3, ?_, fun k p' hk => ?_⟩
      · unfold wPop; rw [pk_us]
      · have hk2 := (List.getElem?_eq_some_iff.mp hk).1
        have g := q5 (k + 1) p' (by rw [hq]; exact hk)
        have gg : ∀ w, w < 6 → wPop ω x ps.length (pK x k w) = ω (pK x (k + 1) w) := by
          intro w hw
          unfold wPop shf
          rw [pk_un (by unfold pC pK; omega), if_pos (by unfold pK; omega)]
          congr 1; unfold pK; omega
        unfold kM at g ⊢
        rw [gg 0 (by omega), gg 1 (by omega), gg 2 (by omega), gg 3 (by omega), gg 4 (by omega), gg 5 (by omega)]
        exact g
    · rw [uQ_n _ _ e, fw2 x 0 e (by omega), fw2 x 1 e (by omega), fw2 x 2 e (by omega), fw2 x 3 e (by omega)]
      refine ⟨q1, q2, q3, q4, fun k p' hk => ?_⟩
      have hk2 := (List.getElem?_eq_some_iff.mp hk).1
      have hlx := hl x hx
      have gg : ∀ w, w < 6 → wPop ω c₀ ps.length (pK x k w) = ω (pK x k w) := fun w hw => by
        have := fw2 x (4 + 6 * k + w) e (by omega)
        rw [show pC x (4 + 6 * k + w) = pK x k w from by unfold pC pK; omega] at this
        exact this
      have g := q5 k p' hk
      unfold kM at g ⊢
      rw [gg 0 (by omega), gg 1 (by omega), gg 2 (by omega), gg 3 (by omega), gg 4 (by omega), gg 5 (by omega)]
      exact g
  · intro a b ha hb
    obtain ⟨q1, q2⟩ := hQ a b ha hb
    by_cases e : 6 * a + b = c₀
    · rw [e, uQ_s]
      rw [e, hq] at q1 q2
      exact ⟨fun p' hp' => q1 p' (List.mem_cons_of_mem _ hp'), fun z => by cases q2 z⟩
    · rw [uQ_n _ _ e]; exact ⟨q1, q2⟩
end POP
