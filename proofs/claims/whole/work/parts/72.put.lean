/-! a packet put, on both sides -/
theorem b_15 : ∀ i, i < 32 → bt (nI 32767) i = decide (i < 15) := by decide +kernel
theorem ushr16 (x : Int32) : (((x : Int32).toUInt32 >>> (((nI 16) : Int32).toUInt32 &&& Int32.toUInt32 (nI 31))).toInt32 &&& (nI 32767)) = (((x : Int32) >>> (((nI 16) &&& 31 : Int32))) &&& (nI 32767)) := by
  apply b_ext
  intro i hi
  rw [b_and, b_and, b_15 i hi]
  by_cases h : i < 15
  · have h1 : bt ((x.toUInt32 >>> ((nI 16).toUInt32 &&& Int32.toUInt32 31)).toInt32) i = bt x (16 + i) := b_ushr 16 (by omega) x i
    have h2 : bt (x >>> (nI 16 &&& 31)) i = bt x (16 + i) := by rw [b_sshr 16 (by omega) x hi, if_pos (by omega)]
    rw [h2]
    show (bt ((x.toUInt32 >>> ((nI 16).toUInt32 &&& Int32.toUInt32 31)).toInt32) i && _) = _
    rw [h1]
  · rw [decide_eq_false h, Bool.and_false, Bool.and_false]
/-- the flag of the model that tells whether it draws -/
def dF (dr : Prop) (u : Sg) : Prop := (dr ∧ u 0 14 = nI 1) ∨ (¬ dr ∧ u 0 14 = nI 0)
section PUT
variable {dr : Prop} {tk : Int32} {pl N G M T B : Nat} {Q : Qs} {Dl : Nat → List Nat} {u σ : Sg} {ω : Nat → Int32}
/-- what the jitter does, on both sides -/
theorem s_jit (hS : rS dr tk N G M T σ ω) (hd : dF dr u) : ∃ j sd, j ≤ 5 ∧ fX12_jitter (sq u 1 ω) = some (nI j, sq u 1 (upd ω 8 sd)) ∧ rS dr tk N G M T (s2 σ 0 6 sd) (upd ω 8 sd) ∧
    ((σ 0 4 ≤ nI 0 ∧ j = 0 ∧ sd = σ 0 6) ∨ (¬ σ 0 4 ≤ nI 0 ∧ (∃ r, fX7_draw σ = some (r, s2 σ 0 6 sd) ∧ ¬ (σ 0 4 + nI 1) = nI 0 ∧ r - r / (σ 0 4 + nI 1) * (σ 0 4 + nI 1) = nI j))) := by
  have hS0 := hS
  obtain ⟨a0, a1, a2, a3, a4, a5, a6, a7, ⟨x, x1, x2, x3, x4⟩, a9, a10, a11⟩ := hS
  have fr : ∀ sd, rS dr tk N G M T (s2 σ 0 6 sd) (upd ω 8 sd) := by
    intro sd
    refine ⟨a0, ?_, ?_, ?_, ?_, ?_, ?_, ?_, ⟨x, x1, ?_, ?_, x4⟩, ?_, ?_, ?_⟩
    · simp (disch := first | omega | (simp only [pN, pP, pM, pE, pL, pC, pK, sp]; omega)) only [e_s2, e_s2n, pk_us, pk_un]; exact a1
    · simp (disch := first | omega | (simp only [pN, pP, pM, pE, pL, pC, pK, sp]; omega)) only [e_s2, e_s2n, pk_us, pk_un]; exact a2
    · simp (disch := first | omega | (simp only [pN, pP, pM, pE, pL, pC, pK, sp]; omega)) only [e_s2, e_s2n, pk_us, pk_un]; exact a3
    · simp (disch := first | omega | (simp only [pN, pP, pM, pE, pL, pC, pK, sp]; omega)) only [e_s2, e_s2n, pk_us, pk_un]; exact a4
    · simp (disch := first | omega | (simp only [pN, pP, pM, pE, pL, pC, pK, sp]; omega)) only [e_s2, e_s2n, pk_us, pk_un]; exact a5
    · simp (disch := first | omega | (simp only [pN, pP, pM, pE, pL, pC, pK, sp]; omega)) only [e_s2, e_s2n, pk_us, pk_un]
    · simp (disch := first | omega | (simp only [pN, pP, pM, pE, pL, pC, pK, sp]; omega)) only [e_s2, e_s2n, pk_us, pk_un]; exact a7
    · simp (disch := first | omega | (simp only [pN, pP, pM, pE, pL, pC, pK, sp]; omega)) only [e_s2, e_s2n, pk_us, pk_un]; exact x2
    · simp (disch := first | omega | (simp only [pN, pP, pM, pE, pL, pC, pK, sp]; omega)) only [e_s2, e_s2n, pk_us, pk_un]; exact x3
    · simp (disch := first | omega | (simp only [pN, pP, pM, pE, pL, pC, pK, sp]; omega)) only [e_s2, e_s2n, pk_us, pk_un]; exact a9
    · intro g hg; simp (disch := first | omega | (simp only [pN, pP, pM, pE, pL, pC, pK, sp]; omega)) only [e_s2, e_s2n, pk_us, pk_un]; exact a10 g hg
    · intro g hg; simp (disch := first | omega | (simp only [pN, pP, pM, pE, pL, pC, pK, sp]; omega)) only [e_s2, e_s2n, pk_us, pk_un]; exact a11 g hg
  have hid : upd ω 8 (σ 0 6) = ω := by
    funext i
    by_cases h : i = 8
    · subst h; rw [pk_us]; exact a6
    · rw [pk_un h]
  by_cases hx : x = 0
  · subst hx
    refine ⟨0, σ 0 6, by omega, ?_, fr _, Or.inl ⟨?_, rfl, rfl⟩⟩
    · rw [hid]
      rcases hd with ⟨h1, h2⟩ | ⟨h1, h2⟩
      · simp (disch := first | omega | (simp only [pN, pP, pM, pE, pL, pC, pK, sp]; omega)) only [u_fX12_jitter, u_fX12_jitter_0, e_T, e_F, e_bnd, e_obr, e_obd, e_obt, e_addB, e_addA, e_in, e_cl, e_leT, e_leF, e_ltT, e_ltF, e_eqT, e_eqF, e_NOT, e_NOF, nI_add, pk_mul, k_spot, k_chan, m_node, m_pair, m_msg, m_chan, m_pack, e_w, e_wn, e_ws, h2, x3 h1]
      · simp (disch := first | omega | (simp only [pN, pP, pM, pE, pL, pC, pK, sp]; omega)) only [u_fX12_jitter, u_fX12_jitter_0, e_T, e_F, e_bnd, e_obr, e_obd, e_obt, e_addB, e_addA, e_in, e_cl, e_leT, e_leF, e_ltT, e_ltF, e_eqT, e_eqF, e_NOT, e_NOF, nI_add, pk_mul, k_spot, k_chan, m_node, m_pair, m_msg, m_chan, m_pack, e_w, e_wn, e_ws, h2]
    · rw [x2]; exact nI_le (Nat.le_refl _) (by omega)
  · have hdr : dr := Classical.byContradiction (fun h => hx (x4 h))
    have h2 : u 0 14 = nI 1 := by
      rcases hd with ⟨_, h2⟩ | ⟨h1, _⟩
      · exact h2
      · exact absurd hdr h1
    obtain ⟨r, hr1, hr2⟩ := pk_andE ((nI 1103515245 * σ 0 6 + nI 12345) >>> (nI 16 &&& 31)) (m := nI 32767) 15 (by decide +kernel)
    have hr1 : r < 32768 := hr1
    have hm := Nat.mod_lt r (y := x + 1) (by omega)
    refine ⟨r % (x + 1), nI 1103515245 * σ 0 6 + nI 12345, by omega, ?_, fr _, Or.inr ⟨?_, nI r, ?_, ?_, ?_⟩⟩
    · simp (disch := first | omega | (simp only [pN, pP, pM, pE, pL, pC, pK, sp]; omega)) only [u_fX12_jitter, u_fX12_jitter_0, e_T, e_F, e_bnd, e_obr, e_obd, e_obt, e_addB, e_addA, e_in, e_cl, e_leT, e_leF, e_ltT, e_ltF, e_eqT, e_eqF, e_NOT, e_NOF, nI_add, pk_mul, k_spot, k_chan, m_node, m_pair, m_msg, m_chan, m_pack, e_w, e_wn, e_ws, e_s2, e_s2n, pk_us, pk_un, h2, x3 hdr, ← a6]
      rw [grd_pos (by rw [show (nI 0 : Int32) = 0 from rfl]; exact nI_ne0 (by omega) (by omega)), hr2, pk_rem (by omega) (by omega) (by omega)]
    · rw [x2]; exact nI_ge (by omega) (by omega)
    · simp (disch := first | omega | (simp only [pN, pP, pM, pE, pL, pC, pK, sp]; omega)) only [u_fX7_draw, u_fX7_draw_0, e_T, e_F, e_bnd, e_obr, e_obd, e_obt, e_addB, e_addA, e_in, e_cl, e_leT, e_leF, e_ltT, e_ltF, e_eqT, e_eqF, e_NOT, e_NOF, nI_add, pk_mul, k_spot, k_chan, m_node, m_pair, m_msg, m_chan, m_pack, e_w, e_wn, e_ws, e_s2, e_s2n, pk_us, pk_un]
      rw [ushr16, hr2]
    · rw [x2, nI_add]; exact nI_ne0 (by omega) (by omega)
    · rw [x2, nI_add, pk_rem (by omega) (by omega) (by omega)]
/-- what a put packet does to the model's row -/
def wP (ω ω' : Nat → Int32) (a c L m : Nat) (p : Pk) : Prop := ω' (pC c 3) = p.1 ∧ ω' (pC c 2) = nI (L + 1) ∧ kM ω' c L p ∧ ω' (pM m 2) = ω (pM m 2) + nI 1 ∧ ω' (pM m 4) = ω (pM m 4) ||| sh1 (nI a) ∧ ω' (pN a 3) = ω (pN a 3) + nI 1 ∧
  ∀ i, i ≠ pC c 3 → i ≠ pC c 2 → (∀ w, w < 6 → i ≠ pK c L w) → i ≠ pM m 2 → i ≠ pM m 4 → i ≠ pN a 3 → ω' i = ω i
theorem m_puts {a b k m s j L : Nat} {st sd tt : Int32} (ha : a < 6) (hb : b < 6) (hm : m < 20) (hs : s ≤ 1) (hL : L < 140) (h1 : fX12_isNoticed (nI b) (sq u 1 ω) = some (nI 0)) (h2 : fX12_jitter (sq u 1 ω) = some (nI j, sq u 1 (upd ω 8 sd))) (h3 : ω 4 + ω (pC (6 * a + b) 0) + nI j = tt) (h4 : ω (pC (6 * a + b) 2) = nI L) :
    ∃ ω', fX12_puts (nI a) (nI b) (nI k) (nI m) (num st) (nod st) (nI s) (sq u 1 ω) = some (sq u 1 ω') ∧ wP (upd ω 8 sd) ω' a (6 * a + b) L m ((if ω (pC (6 * a + b) 3) < tt then tt else ω (pC (6 * a + b) 3)), k, m, st, nI s) := by
  have hc : 6 * a + b < 36 := by omega
  generalize hcc : 6 * a + b = c at *
  have h4' : upd ω 8 sd (pC c 2) = nI L := by rw [pk_un (by unfold pC; omega)]; exact h4
  rcases (show s = 0 ∨ s = 1 by omega) with rfl | rfl
  all_goals
    simp (disch := first | omega | (simp only [pN, pP, pM, pE, pL, pC, pK, sp]; omega)) only [u_fX12_puts, u_fX12_puts_0, u_fX12_puts_158, h1, h2, h3, h4', hcc, m_ofCh, e_T, e_F, e_bnd, e_obr, e_obd, e_obt, e_addB, e_addA, e_in, e_cl, e_leT, e_leF, e_ltT, e_ltF, e_eqT, e_eqF, e_NOT, e_NOF, nI_add, pk_mul, k_spot, k_chan, m_node, m_pair, m_msg, m_chan, m_pack, e_w, e_wn, e_ws]
    refine ⟨_, rfl, ?_, ?_, ⟨?_, ?_, ?_, ?_, ?_, ?_⟩, ?_, ?_, ?_, ?_⟩
    · simp (disch := first | omega | (simp only [pN, pP, pM, pE, pL, pC, pK, sp]; omega)) only [e_s2, e_s2n, pk_us, pk_un]
    · simp (disch := first | omega | (simp only [pN, pP, pM, pE, pL, pC, pK, sp]; omega)) only [e_s2, e_s2n, pk_us, pk_un]
    · simp (disch := first | omega | (simp only [pN, pP, pM, pE, pL, pC, pK, sp]; omega)) only [e_s2, e_s2n, pk_us, pk_un]
    · simp (disch := first | omega | (simp only [pN, pP, pM, pE, pL, pC, pK, sp]; omega)) only [e_s2, e_s2n, pk_us, pk_un]
    · simp (disch := first | omega | (simp only [pN, pP, pM, pE, pL, pC, pK, sp]; omega)) only [e_s2, e_s2n, pk_us, pk_un]
    · simp (disch := first | omega | (simp only [pN, pP, pM, pE, pL, pC, pK, sp]; omega)) only [e_s2, e_s2n, pk_us, pk_un]
    · simp (disch := first | omega | (simp only [pN, pP, pM, pE, pL, pC, pK, sp]; omega)) only [e_s2, e_s2n, pk_us, pk_un]
    · simp (disch := first | omega | (simp only [pN, pP, pM, pE, pL, pC, pK, sp]; omega)) only [e_s2, e_s2n, pk_us, pk_un]
    · simp (disch := first | omega | (simp only [pN, pP, pM, pE, pL, pC, pK, sp]; omega)) only [e_s2, e_s2n, pk_us, pk_un]
    · simp (disch := first | omega | (simp only [pN, pP, pM, pE, pL, pC, pK, sp]; omega)) only [e_s2, e_s2n, pk_us, pk_un]
    · simp (disch := first | omega | (simp only [pN, pP, pM, pE, pL, pC, pK, sp]; omega)) only [e_s2, e_s2n, pk_us, pk_un]
    · intro i z1 z2 z3 z4 z5 z6
      have y0 := z3 0 (by omega)
      have y1 := z3 1 (by omega)
      have y2 := z3 2 (by omega)
      have y3 := z3 3 (by omega)
      have y4 := z3 4 (by omega)
      have y5 := z3 5 (by omega)
      simp (disch := assumption) only [pk_un]
end PUT
