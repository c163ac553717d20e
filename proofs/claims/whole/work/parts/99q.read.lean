/-! reading the tape: how far a run of bytes goes -/
noncomputable def rn (P : Int32 → Prop) (b : Nat → Int32) : Nat → Nat → Nat
  | 0, p => p
  | r + 1, p => cnd (P (b p)) (rn P b r (p + 1)) p
theorem rn_le {P : Int32 → Prop} {b : Nat → Int32} : ∀ {r p : Nat}, p ≤ rn P b r p ∧ rn P b r p ≤ p + r
  | 0, p => ⟨Nat.le_refl _, Nat.le_refl _⟩
  | r + 1, p => by
    show p ≤ cnd (P (b p)) (rn P b r (p + 1)) p ∧ cnd (P (b p)) (rn P b r (p + 1)) p ≤ p + (r + 1)
    have := rn_le (P := P) (b := b) (r := r) (p := p + 1)
    by_cases h : P (b p)
    · rw [cnd_pos h]; omega
    · rw [cnd_neg h]; omega
def iA (x y : Nat) (z : Int32) : Prop := ¬ z < nI x ∧ ¬ nI y < z
theorem iA_eq {x : Nat} {z : Int32} (h : iA x x z) : z = nI x := by
  have h1 := i_lt_le.mp h.1
  have h2 := i_lt_le.mp h.2
  exact Int32.le_antisymm h2 h1
theorem s2_sf {u : Sg} {q i : Nat} {x : Int32} (h : u q i = x) : s2 u q i x = u := by
  funext p j
  rw [e_s2'']
  by_cases e : p = q ∧ j = i
  · rw [if_pos e, e.1, e.2, h]
  · rw [if_neg e]
section RD
variable {σ μ : Sg} {L p : Nat}
theorem k_blk : ∀ (r p f : Nat), p + r = L → L ≤ 400 → σ 37 1 = nI L → r < f → fX9_skipBlanks_0 f (s2 σ 36 1 (nI p)) = some (s2 σ 36 1 (nI (rn (iA 32 32) (σ 38) r p))) := by
  intro r
  induction r with
  | zero =>
    intro p f hp hL h37 hf
    obtain ⟨f, rfl⟩ : ∃ g, f = g + 1 := ⟨f - 1, by omega⟩
    simp (disch := first | omega | (simp only [pN, pP, pM, pE, pL, pC, pK, sp]; omega)) only [u_fX9_skipBlanks_0, h37, rn, e_T, e_F, e_bnd, e_obr, e_obd, e_obt, e_addB, e_addA, e_in, e_cl, e_leT, e_leF, e_ltT, e_ltF, e_eqT, e_eqF, e_NOT, e_NOF, nI_add, pk_mul, k_spot, k_chan, m_node, m_pair, m_msg, m_chan, m_pack, e_w, e_wn, e_ws, e_s2, e_s2n, pk_us, pk_un]
  | succ r ih =>
    intro p f hp hL h37 hf
    obtain ⟨f, rfl⟩ : ∃ g, f = g + 1 := ⟨f - 1, by omega⟩
    have I := ih (p + 1) f (by omega) hL h37 (by omega)
    show _ = some (s2 σ 36 1 (nI (cnd (iA 32 32 (σ 38 p)) (rn (iA 32 32) (σ 38) r (p + 1)) p)))
    by_cases e : iA 32 32 (σ 38 p)
    · have e' := iA_eq e
      rw [cnd_pos e, ← I]
      simp (disch := first | omega | (simp only [pN, pP, pM, pE, pL, pC, pK, sp]; omega)) only [u_fX9_skipBlanks_0, h37, e', e_ss, e_T, e_F, e_bnd, e_obr, e_obd, e_obt, e_addB, e_addA, e_in, e_cl, e_leT, e_leF, e_ltT, e_ltF, e_eqT, e_eqF, e_NOT, e_NOF, nI_add, pk_mul, k_spot, k_chan, m_node, m_pair, m_msg, m_chan, m_pack, e_w, e_wn, e_ws, e_s2, e_s2n, pk_us, pk_un]
    · have e' : σ 38 p ≠ nI 32 := fun q => e (by rw [q]; exact ⟨by decide, by decide⟩)
      rw [cnd_neg e]
      simp (disch := first | omega | (simp only [pN, pP, pM, pE, pL, pC, pK, sp]; omega)) only [u_fX9_skipBlanks_0, h37, cnd_neg e', e_T, e_F, e_bnd, e_obr, e_obd, e_obt, e_addB, e_addA, e_in, e_cl, e_leT, e_leF, e_ltT, e_ltF, e_eqT, e_eqF, e_NOT, e_NOF, nI_add, pk_mul, k_spot, k_chan, m_node, m_pair, m_msg, m_chan, m_pack, e_w, e_wn, e_ws, e_s2, e_s2n, pk_us, pk_un]
theorem m_isAt {x y : Nat} (h8 : μ 0 8 = nI p) (h9 : μ 0 9 = nI L) (hL : L ≤ 400) (hp : p ≤ L) : fX12_isAt (nI x) (nI y) μ = some (cnd (p < L ∧ iA x y (μ 5 p)) (nI 1) (nI 0)) := by
  rw [u_fX12_isAt, u_fX12_isAt_0, h8, h9]
  by_cases hl : p < L
  · rw [cnd_neg (mt (nI_leI (by omega) (by omega)).mp (by omega)), e_in (by omega) (by omega), e_cl (by omega), e_in (by omega) (by omega)]
    by_cases h1 : μ 5 p < nI x
    · rw [cnd_pos h1, cnd_neg (fun q => q.2.1 h1)]
    · rw [cnd_neg h1]
      by_cases h2 : nI y < μ 5 p
      · rw [cnd_pos h2, cnd_neg (fun q => q.2.2 h2)]
      · rw [cnd_neg h2, cnd_pos ⟨hl, h1, h2⟩]
  · rw [cnd_pos (nI_le (by omega) (by omega)), cnd_neg (fun q => hl q.1)]
theorem m_blk : ∀ (r p f : Nat), p + r = L → L ≤ 400 → μ 0 9 = nI L → r < f → fX12_blanks_0 f (s2 μ 0 8 (nI p)) = some (s2 (s2 μ 0 8 (nI (rn (iA 32 32) (μ 5) r p))) 0 10 (nI (rn (iA 32 32) (μ 5) r p))) := by
  intro r
  induction r with
  | zero =>
    intro p f hp hL h9 hf
    obtain ⟨f, rfl⟩ : ∃ g, f = g + 1 := ⟨f - 1, by omega⟩
    have ia := m_isAt (μ := s2 μ 0 8 (nI p)) (p := p) (L := L) (x := 32) (y := 32) (by rw [e_s2, pk_us]) (by rw [e_s2, pk_un (by omega)]; exact h9) hL (by omega)
    rw [cnd_neg (fun q => by omega)] at ia
    simp (disch := first | omega | (simp only [pN, pP, pM, pE, pL, pC, pK, sp]; omega)) only [u_fX12_blanks_0, ia, rn, e_T, e_F, e_bnd, e_obr, e_obd, e_obt, e_addB, e_addA, e_in, e_cl, e_leT, e_leF, e_ltT, e_ltF, e_eqT, e_eqF, e_NOT, e_NOF, nI_add, pk_mul, k_spot, k_chan, m_node, m_pair, m_msg, m_chan, m_pack, e_w, e_wn, e_ws, e_s2, e_s2n, pk_us, pk_un]
  | succ r ih =>
    intro p f hp hL h9 hf
    obtain ⟨f, rfl⟩ : ∃ g, f = g + 1 := ⟨f - 1, by omega⟩
    have I := ih (p + 1) f (by omega) hL h9 (by omega)
    have ia := m_isAt (μ := s2 μ 0 8 (nI p)) (p := p) (L := L) (x := 32) (y := 32) (by rw [e_s2, pk_us]) (by rw [e_s2, pk_un (by omega)]; exact h9) hL (by omega)
    rw [e_s2n μ (q := 0) (p := 5) _ _ (by omega)] at ia
    have er : rn (iA 32 32) (μ 5) (r + 1) p = cnd (iA 32 32 (μ 5 p)) (rn (iA 32 32) (μ 5) r (p + 1)) p := rfl
    rw [er]
    by_cases e : iA 32 32 (μ 5 p)
    · rw [cnd_pos ⟨by omega, e⟩] at ia
      rw [cnd_pos e, ← I]
      simp (disch := first | omega | (simp only [pN, pP, pM, pE, pL, pC, pK, sp]; omega)) only [u_fX12_blanks_0, ia, e_ss, e_T, e_F, e_bnd, e_obr, e_obd, e_obt, e_addB, e_addA, e_in, e_cl, e_leT, e_leF, e_ltT, e_ltF, e_eqT, e_eqF, e_NOT, e_NOF, nI_add, pk_mul, k_spot, k_chan, m_node, m_pair, m_msg, m_chan, m_pack, e_w, e_wn, e_ws, e_s2, e_s2n, pk_us, pk_un]
    · rw [cnd_neg (fun q => e q.2)] at ia
      rw [cnd_neg e]
      simp (disch := first | omega | (simp only [pN, pP, pM, pE, pL, pC, pK, sp]; omega)) only [u_fX12_blanks_0, ia, e_T, e_F, e_bnd, e_obr, e_obd, e_obt, e_addB, e_addA, e_in, e_cl, e_leT, e_leF, e_ltT, e_ltF, e_eqT, e_eqF, e_NOT, e_NOF, nI_add, pk_mul, k_spot, k_chan, m_node, m_pair, m_msg, m_chan, m_pack, e_w, e_wn, e_ws, e_s2, e_s2n, pk_us, pk_un]
theorem k_wrd : ∀ (r p f : Nat), p + r = L → L ≤ 400 → σ 37 1 = nI L → r < f → fX9_skipWord_0 f (s2 σ 36 1 (nI p)) = some (s2 σ 36 1 (nI (rn (iA 97 122) (σ 38) r p))) := by
  intro r
  induction r with
  | zero =>
    intro p f hp hL h37 hf
    obtain ⟨f, rfl⟩ : ∃ g, f = g + 1 := ⟨f - 1, by omega⟩
    simp (disch := first | omega | (simp only [pN, pP, pM, pE, pL, pC, pK, sp]; omega)) only [u_fX9_skipWord_0, h37, rn, e_T, e_F, e_bnd, e_obr, e_obd, e_obt, e_addB, e_addA, e_in, e_cl, e_leT, e_leF, e_ltT, e_ltF, e_eqT, e_eqF, e_NOT, e_NOF, nI_add, pk_mul, k_spot, k_chan, m_node, m_pair, m_msg, m_chan, m_pack, e_w, e_wn, e_ws, e_s2, e_s2n, pk_us, pk_un]
  | succ r ih =>
    intro p f hp hL h37 hf
    obtain ⟨f, rfl⟩ : ∃ g, f = g + 1 := ⟨f - 1, by omega⟩
    have I := ih (p + 1) f (by omega) hL h37 (by omega)
    show _ = some (s2 σ 36 1 (nI (cnd (iA 97 122 (σ 38 p)) (rn (iA 97 122) (σ 38) r (p + 1)) p)))
    by_cases e1 : σ 38 p < nI 97
    · rw [cnd_neg (fun q => q.1 e1)]
      simp (disch := first | omega | (simp only [pN, pP, pM, pE, pL, pC, pK, sp]; omega)) only [u_fX9_skipWord_0, h37, cnd_pos e1, e_T, e_F, e_bnd, e_obr, e_obd, e_obt, e_addB, e_addA, e_in, e_cl, e_leT, e_leF, e_ltT, e_ltF, e_eqT, e_eqF, e_NOT, e_NOF, nI_add, pk_mul, k_spot, k_chan, m_node, m_pair, m_msg, m_chan, m_pack, e_w, e_wn, e_ws, e_s2, e_s2n, pk_us, pk_un]
    · by_cases e2 : nI 122 < σ 38 p
      · rw [cnd_neg (fun q => q.2 e2)]
        simp (disch := first | omega | (simp only [pN, pP, pM, pE, pL, pC, pK, sp]; omega)) only [u_fX9_skipWord_0, h37, cnd_neg e1, cnd_pos e2, e_T, e_F, e_bnd, e_obr, e_obd, e_obt, e_addB, e_addA, e_in, e_cl, e_leT, e_leF, e_ltT, e_ltF, e_eqT, e_eqF, e_NOT, e_NOF, nI_add, pk_mul, k_spot, k_chan, m_node, m_pair, m_msg, m_chan, m_pack, e_w, e_wn, e_ws, e_s2, e_s2n, pk_us, pk_un]
      · rw [cnd_pos ⟨e1, e2⟩, ← I]
        simp (disch := first | omega | (simp only [pN, pP, pM, pE, pL, pC, pK, sp]; omega)) only [u_fX9_skipWord_0, h37, cnd_neg e1, cnd_neg e2, e_ss, e_T, e_F, e_bnd, e_obr, e_obd, e_obt, e_addB, e_addA, e_in, e_cl, e_leT, e_leF, e_ltT, e_ltF, e_eqT, e_eqF, e_NOT, e_NOF, nI_add, pk_mul, k_spot, k_chan, m_node, m_pair, m_msg, m_chan, m_pack, e_w, e_wn, e_ws, e_s2, e_s2n, pk_us, pk_un]
theorem m_wrd : ∀ (r p f : Nat), p + r = L → L ≤ 400 → μ 0 9 = nI L → r < f → fX12_letters_4 f (s2 μ 0 8 (nI p)) = some (s2 μ 0 8 (nI (rn (iA 97 122) (μ 5) r p))) := by
  intro r
  induction r with
  | zero =>
    intro p f hp hL h9 hf
    obtain ⟨f, rfl⟩ : ∃ g, f = g + 1 := ⟨f - 1, by omega⟩
    have ia := m_isAt (μ := s2 μ 0 8 (nI p)) (p := p) (L := L) (x := 97) (y := 122) (by rw [e_s2, pk_us]) (by rw [e_s2, pk_un (by omega)]; exact h9) hL (by omega)
    rw [cnd_neg (fun q => by omega)] at ia
    simp (disch := first | omega | (simp only [pN, pP, pM, pE, pL, pC, pK, sp]; omega)) only [u_fX12_letters_4, ia, rn, e_T, e_F, e_bnd, e_obr, e_obd, e_obt, e_addB, e_addA, e_in, e_cl, e_leT, e_leF, e_ltT, e_ltF, e_eqT, e_eqF, e_NOT, e_NOF, nI_add, pk_mul, k_spot, k_chan, m_node, m_pair, m_msg, m_chan, m_pack, e_w, e_wn, e_ws, e_s2, e_s2n, pk_us, pk_un]
  | succ r ih =>
    intro p f hp hL h9 hf
    obtain ⟨f, rfl⟩ : ∃ g, f = g + 1 := ⟨f - 1, by omega⟩
    have I := ih (p + 1) f (by omega) hL h9 (by omega)
    have ia := m_isAt (μ := s2 μ 0 8 (nI p)) (p := p) (L := L) (x := 97) (y := 122) (by rw [e_s2, pk_us]) (by rw [e_s2, pk_un (by omega)]; exact h9) hL (by omega)
    rw [e_s2n μ (q := 0) (p := 5) _ _ (by omega)] at ia
    have er : rn (iA 97 122) (μ 5) (r + 1) p = cnd (iA 97 122 (μ 5 p)) (rn (iA 97 122) (μ 5) r (p + 1)) p := rfl
    rw [er]
    by_cases e : iA 97 122 (μ 5 p)
    · rw [cnd_pos ⟨by omega, e⟩] at ia
      rw [cnd_pos e, ← I]
      simp (disch := first | omega | (simp only [pN, pP, pM, pE, pL, pC, pK, sp]; omega)) only [u_fX12_letters_4, ia, e_ss, e_T, e_F, e_bnd, e_obr, e_obd, e_obt, e_addB, e_addA, e_in, e_cl, e_leT, e_leF, e_ltT, e_ltF, e_eqT, e_eqF, e_NOT, e_NOF, nI_add, pk_mul, k_spot, k_chan, m_node, m_pair, m_msg, m_chan, m_pack, e_w, e_wn, e_ws, e_s2, e_s2n, pk_us, pk_un]
    · rw [cnd_neg (fun q => e q.2)] at ia
      rw [cnd_neg e]
      simp (disch := first | omega | (simp only [pN, pP, pM, pE, pL, pC, pK, sp]; omega)) only [u_fX12_letters_4, ia, e_T, e_F, e_bnd, e_obr, e_obd, e_obt, e_addB, e_addA, e_in, e_cl, e_leT, e_leF, e_ltT, e_ltF, e_eqT, e_eqF, e_NOT, e_NOF, nI_add, pk_mul, k_spot, k_chan, m_node, m_pair, m_msg, m_chan, m_pack, e_w, e_wn, e_ws, e_s2, e_s2n, pk_us, pk_un]
theorem k_digit (h1 : σ 36 1 = nI p) (h37 : σ 37 1 = nI L) (hL : L ≤ 400) (hp : p ≤ L) : fX9_isDigit σ = some (cnd (p < L ∧ iA 48 57 (σ 38 p)) (nI 1) (nI 0)) := by
  rw [u_fX9_isDigit, u_fX9_isDigit_0, h1, h37]
  by_cases hl : p < L
  · rw [cnd_neg (mt (nI_leI (by omega) (by omega)).mp (by omega)), e_in (by omega) (by omega), e_cl (by omega), e_in (by omega) (by omega)]
    by_cases h1 : σ 38 p < nI 48
    · rw [cnd_pos h1, cnd_neg (fun q => q.2.1 h1)]
    · rw [cnd_neg h1]
      by_cases h2 : nI 57 < σ 38 p
      · rw [cnd_pos h2, cnd_neg (fun q => q.2.2 h2)]
      · rw [cnd_neg h2, cnd_pos ⟨hl, h1, h2⟩]
  · rw [cnd_pos (nI_le (by omega) (by omega)), cnd_neg (fun q => hl q.1)]
end RD
