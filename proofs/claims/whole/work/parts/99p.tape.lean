/-! the tape: feed, end -/
theorem Inv_tape {c L' : Nat} {s : Sta} {μ σ' u' : Sg} (hI : InvL c s μ) (hq : ∀ q, q ≠ 37 → q ≠ 38 → σ' q = s.2.2.2.1 q) (hu : ∀ q, q ≠ 0 → q ≠ 5 → q ≠ 6 → u' q = μ q) (h0 : ∀ j, j ≠ 0 → j ≠ 7 → u' 0 j = μ 0 j) (hL : L' ≤ 400) (h1 : σ' 37 1 = nI L') (h2 : u' 0 7 = nI L') (h3 : ∀ j, j < 400 → σ' 38 j = u' 5 j) : InvL (c + 1) (s.1, s.2.1, s.2.2.1, σ', s.2.2.2.2.1, s.2.2.2.2.2) u' := by
  obtain ⟨i1, -, i3, i4, i5, i6⟩ := hI
  refine ⟨?_, ⟨L', hL, h1, h2, h3⟩, ?_, i4, i5, ?_⟩
  · rw [hu 1 (by omega) (by omega) (by omega)]
    exact rNow_up (rNow_u (h0 14 (by omega) (by omega)) (rNow_cg (fun q h => hq q (by omega) (by omega)) i1)) (by omega)
  · show σ' 36 7 = _; rw [hq 36 (by omega) (by omega), h0 11 (by omega) (by omega)]; exact i3
  · show (σ' 36 6 = nI 0 ∧ _) ∨ (σ' 36 6 = nI 1 ∧ _ ∧ _)
    rw [hq 36 (by omega) (by omega), h0 5 (by omega) (by omega), hu 2 (by omega) (by omega) (by omega)]
    rcases i6 with i6 | ⟨j1, j2, j3⟩
    · exact Or.inl i6
    · exact Or.inr ⟨j1, j2, rNow_up (rNow_u (h0 14 (by omega) (by omega)) j3) (by omega)⟩
section TP
variable {c : Nat} {s : Sta} {μ : Sg}
theorem r_end (hI : InvL c s μ) (x1 : Int32) : okT InvL c s [] kk2 (fX11_end x1 s.2.2.2.1) (fX12_end x1 μ) := by
  obtain ⟨L, t1, t2, t3, t4⟩ := hI.2.1
  have e7 : s2 μ 0 0 (nI 0) 0 7 = nI L := by rw [e_s2, pk_un (by omega), t3]
  have keep : ∀ x : Int32, fX11_end x s.2.2.2.1 = some (.inl (nI 0), s.2.2.2.1) → fX12_end x μ = some (nI 0, s2 μ 0 0 (nI 0)) → okT InvL c s [] kk2 (fX11_end x s.2.2.2.1) (fX12_end x μ) := fun x y1 y2 => by
    refine ⟨(.inl (nI 0), s.2.2.2.1), nI 0, _, y1, y2, ?_, Or.inl ⟨rfl, s2_00 _ _⟩⟩
    exact Inv_tape (L' := L) hI (fun _ _ _ => rfl) (fun q h0 _ _ => e_s2n _ _ _ h0) (fun j h0 _ => by rw [e_s2, pk_un h0]) t1 t2 e7 (fun j hj => by rw [e_s2n _ _ _ (by omega)]; exact t4 j hj)
  by_cases hn : x1 < nI 0
  · refine keep x1 ?_ ?_
    · rw [u_fX11_end, u_fX11_end_0, cnd_pos hn]
    · rw [u_fX12_end, u_fX12_end_0, e_bnd, cnd_pos hn]
  · by_cases hl : x1 ≤ nI L
    · obtain ⟨j, hj, rfl⟩ := nI_of (show ¬ x1 < 0 from hn)
      have hjL : j ≤ L := (nI_leI hj (by omega)).mp hl
      refine ⟨(.inl (nI 1), s2 s.2.2.2.1 37 1 (nI j)), nI 1, s2 (s2 μ 0 0 (nI 0)) 0 7 (nI j), ?_, ?_, ?_, Or.inl ⟨rfl, ?_⟩⟩
      · rw [u_fX11_end, u_fX11_end_0, cnd_neg hn, t2, cnd_pos hl, e_bnd]
      · rw [u_fX12_end, u_fX12_end_0, e_bnd, cnd_neg hn, e7, cnd_pos hl, e_bnd]
      · exact Inv_tape (L' := j) (σ' := s2 s.2.2.2.1 37 1 (nI j)) hI (fun q h _ => e_s2n _ _ _ h) (fun q h0 _ _ => by rw [e_s2n _ _ _ h0, e_s2n _ _ _ h0]) (fun i h0 h7 => by rw [e_s2, pk_un h7, e_s2, pk_un h0]) (by omega) (by rw [e_s2, pk_us]) (by rw [e_s2, pk_us]) (fun i hi => by rw [e_s2n _ _ _ (by omega), e_s2n _ _ _ (by omega), e_s2n _ _ _ (by omega)]; exact t4 i hi)
      · rw [e_s2, pk_un (by omega), s2_00]; rfl
    · refine keep x1 ?_ ?_
      · rw [u_fX11_end, u_fX11_end_0, cnd_neg hn, t2, cnd_neg hl]
      · rw [u_fX12_end, u_fX12_end_0, e_bnd, cnd_neg hn, e7, cnd_neg hl]
def bB (x : Int32) (t : Nat) : Int32 := vp_nar .byte ((((x : Int32) >>> ((nI (24 - 8 * t) &&& 31 : Int32))) : Int32).toInt8.toInt32)
theorem k_tadd {u : Sg} {L : Nat} (x : Int32) (h : u 0 1 = nI L) (hL : L + 4 ≤ 400) : ∃ u', fX10_add x u = some u' ∧ u' 0 1 = nI (L + 4) ∧ (∀ q, q ≠ 0 → q ≠ 1 → u' q = u q) ∧ (∀ j, j ≠ 1 → u' 0 j = u 0 j) ∧ ∀ j, u' 1 j = if L ≤ j ∧ j < L + 4 then bB x (j - L) else u 1 j := by
  have step : ∀ (f t M : Nat) (y : Int32) (v : Sg), t < 4 → y = nI (24 - 8 * t) → v 0 1 = nI M → M < 400 → fX10_add_3 (f + 1) x y v = fX10_add_3 f x (y + (-(nI 8))) (s2 (s2 v 1 M (bB x t)) 0 1 (nI (M + 1))) := by
    intro f t M y v ht hy hv hM
    subst hy
    have e1 : s2 v 1 M (bB x t) 0 1 + nI 1 = nI (M + 1) := by rw [e_s2n _ _ _ (by omega), hv, nI_add]
    simp (disch := first | omega | (simp only [pN, pP, pM, pE, pL, pC, pK, sp]; omega)) only [u_fX10_add_3, hv, e_cl, e_in, e_bnd, e_leF, e_ltF]
    rw [← e1]; rfl
  obtain ⟨f, hf⟩ : ∃ f, FU = f + 1 + 1 + 1 + 1 + 1 := ⟨99995, rfl⟩
  have s1 := step (f + 1 + 1 + 1 + 1) 0 L (nI 24) u (by omega) rfl h (by omega)
  have s2' := step (f + 1 + 1 + 1) 1 (L + 1) (nI 24 + (-(nI 8))) (s2 (s2 u 1 L (bB x 0)) 0 1 (nI (L + 1))) (by omega) rfl (by rw [e_s2, pk_us]) (by omega)
  have s3 := step (f + 1 + 1) 2 (L + 2) (nI 24 + (-(nI 8)) + (-(nI 8))) (s2 (s2 (s2 (s2 u 1 L (bB x 0)) 0 1 (nI (L + 1))) 1 (L + 1) (bB x 1)) 0 1 (nI (L + 1 + 1))) (by omega) rfl (by rw [e_s2, pk_us]) (by omega)
  have s4 := step (f + 1) 3 (L + 3) (nI 24 + (-(nI 8)) + (-(nI 8)) + (-(nI 8))) (s2 (s2 (s2 (s2 (s2 (s2 u 1 L (bB x 0)) 0 1 (nI (L + 1))) 1 (L + 1) (bB x 1)) 0 1 (nI (L + 1 + 1))) 1 (L + 2) (bB x 2)) 0 1 (nI (L + 2 + 1))) (by omega) rfl (by rw [e_s2, pk_us]) (by omega)
  refine ⟨s2 (s2 (s2 (s2 (s2 (s2 (s2 (s2 u 1 L (bB x 0)) 0 1 (nI (L + 1))) 1 (L + 1) (bB x 1)) 0 1 (nI (L + 1 + 1))) 1 (L + 2) (bB x 2)) 0 1 (nI (L + 2 + 1))) 1 (L + 3) (bB x 3)) 0 1 (nI (L + 3 + 1)), ?_, by rw [e_s2, pk_us], fun q h0 h1 => ?_, fun j hj => ?_, fun j => ?_⟩
  · rw [u_fX10_add, u_fX10_add_0, hf, s1, s2', s3, s4, u_fX10_add_3, cnd_pos (by decide)]
  · simp (disch := first | omega | (simp only [pN, pP, pM, pE, pL, pC, pK, sp]; omega)) only [e_s2n, h0, h1, ne_eq, not_false_eq_true]
  · simp (disch := first | omega | (simp only [pN, pP, pM, pE, pL, pC, pK, sp]; omega)) only [e_s2, e_s2n, pk_us, pk_un]
  · simp (disch := first | omega | (simp only [pN, pP, pM, pE, pL, pC, pK, sp]; omega)) only [e_s2, e_s2n, pk_us, pk_un]
    by_cases e3 : j = L + 3
    · subst e3; rw [pk_us, if_pos (by omega)]; congr 1; omega
    · rw [pk_un e3]
      by_cases e2 : j = L + 2
      · subst e2; rw [pk_us, if_pos (by omega)]; congr 1; omega
      · rw [pk_un e2]
        by_cases e1 : j = L + 1
        · subst e1; rw [pk_us, if_pos (by omega)]; congr 1; omega
        · rw [pk_un e1]
          by_cases e0 : j = L
          · subst e0; rw [pk_us, if_pos (by omega)]; congr 1; omega
          · rw [pk_un e0, if_neg (by omega)]
theorem k_tfeed {σ : Sg} {L : Nat} (x : Int32) (h : σ 37 1 = nI L) (hL : L + 4 ≤ 400) : ∃ v, fX10_add x (sbTQ σ) = some v ∧ ubTQ σ v 37 1 = nI (L + 4) ∧ (∀ q, q ≠ 37 → q ≠ 38 → ubTQ σ v q = σ q) ∧ ∀ j, ubTQ σ v 38 j = if L ≤ j ∧ j < L + 4 then bB x (j - L) else σ 38 j := by
  have h0 : sbTQ σ 0 = σ 37 := rfl
  have h1 : sbTQ σ 1 = σ 38 := rfl
  obtain ⟨v, a1, a2, a3, a4, a5⟩ := k_tadd (u := sbTQ σ) x (by rw [h0]; exact h) hL
  refine ⟨v, a1, a2, fun q h1 h2 => ?_, fun j => ?_⟩
  · unfold ubTQ; rw [if_neg (by omega)]
  · have : ubTQ σ v 38 j = v 1 j := rfl
    rw [this, a5 j, h1]
theorem d20 : ∀ k, k < 20 → nI k / nI 4 = nI (k / 4) ∧ nI 24 - nI 8 * (nI k - nI (k / 4) * nI 4) = nI (24 - 8 * (k % 4)) := by decide +kernel
theorem m_tfeed {u : Sg} {L : Nat} (h : u 0 7 = nI L) (hL : L + 20 ≤ 400) : ∀ (r k f : Nat) (u : Sg), u 0 7 = nI L → k + r = 20 → r < f → ∃ u', fX12_feed_60 f (nI k) u = some (nI (L + 20), u') ∧ u' 0 7 = nI (L + 20) ∧ (∀ q, q ≠ 0 → q ≠ 5 → u' q = u q) ∧ (∀ j, j ≠ 7 → u' 0 j = u 0 j) ∧ ∀ j, u' 5 j = if L + k ≤ j ∧ j < L + 20 then bB (u 6 ((j - L) / 4)) ((j - L) % 4) else u 5 j := by
  intro r
  induction r with
  | zero =>
    intro k f u h hk hf
    obtain ⟨f, rfl⟩ : ∃ g, f = g + 1 := ⟨f - 1, by omega⟩
    refine ⟨s2 u 0 7 (nI (L + 20)), ?_, by rw [e_s2, pk_us], fun q h0 h5 => e_s2n _ _ _ h0, fun j hj => by rw [e_s2, pk_un hj], fun j => by rw [e_s2n _ _ _ (by omega), if_neg (by omega)]⟩
    simp (disch := first | omega | (simp only [pN, pP, pM, pE, pL, pC, pK, sp]; omega)) only [u_fX12_feed_60, h, e_T, e_F, e_bnd, e_obr, e_obd, e_obt, e_addB, e_addA, e_in, e_cl, e_leT, e_leF, e_ltT, e_ltF, e_eqT, e_eqF, e_NOT, e_NOF, nI_add, pk_mul, k_spot, k_chan, m_node, m_pair, m_msg, m_chan, m_pack, e_w, e_wn, e_ws, e_s2, e_s2n, pk_us, pk_un]
  | succ r ih =>
    intro k f u h hk hf
    obtain ⟨f, rfl⟩ : ∃ g, f = g + 1 := ⟨f - 1, by omega⟩
    obtain ⟨d1, d2⟩ := d20 k (by omega)
    obtain ⟨u', e1, e2, e3, e4, e5⟩ := ih (k + 1) f (s2 u 5 (L + k) (bB (u 6 (k / 4)) (k % 4))) (by rw [e_s2n _ _ _ (by omega)]; exact h) (by omega) (by omega)
    refine ⟨u', ?_, e2, fun q h0 h5 => by rw [e3 q h0 h5, e_s2n _ _ _ h5], fun j hj => by rw [e4 j hj, e_s2n _ _ _ (by omega)], fun j => ?_⟩
    · rw [← e1]
      simp (disch := first | omega | (simp only [pN, pP, pM, pE, pL, pC, pK, sp]; omega)) only [u_fX12_feed_60, h, d1, d2, nI_add, e_leF, e_in, e_cl, e_bnd]
      rfl
    · rw [e5 j, e_s2n u (q := 5) (p := 6) _ _ (by omega)]
      by_cases e : j = L + k
      · subst e
        rw [if_neg (by omega), if_pos (by omega), e_s2, pk_us, show L + k - L = k from by omega]
      · by_cases hh : L + k ≤ j ∧ j < L + 20
        · rw [if_pos (by omega), if_pos hh]
        · rw [if_neg (by omega), if_neg hh, e_s2, pk_un e]
theorem r_feed (hI : InvL c s μ) (x1 x2 x3 x4 x5 : Int32) : okT InvL c s [] kk2 (fX11_feed x1 x2 x3 x4 x5 s.2.2.2.1) (fX12_feed x1 x2 x3 x4 x5 μ) := by
  obtain ⟨L, t1, t2, t3, t4⟩ := hI.2.1
  have e7 : s2 μ 0 0 (nI 0) 0 7 = nI L := by rw [e_s2, pk_un (by omega), t3]
  by_cases hL : L + 20 ≤ 400
  · obtain ⟨v1, a1, a2, a3, a4⟩ := k_tfeed x1 t2 (by omega)
    obtain ⟨v2, b1, b2', b3, b4⟩ := k_tfeed x2 a2 (by omega)
    obtain ⟨v3, c1, c2, c3, c4⟩ := k_tfeed x3 b2' (by omega)
    obtain ⟨v4, d1, d2, d3, d4⟩ := k_tfeed x4 c2 (by omega)
    obtain ⟨v5, f1, f2, f3, f4⟩ := k_tfeed x5 d2 (by omega)
    have e67 : s2 (s2 (s2 (s2 (s2 (s2 μ 0 0 (nI 0)) 6 0 x1) 6 1 x2) 6 2 x3) 6 3 x4) 6 4 x5 0 7 = nI L := by simp (disch := first | omega | (simp only [pN, pP, pM, pE, pL, pC, pK, sp]; omega)) only [e_s2n, e7]
    obtain ⟨u', g1, g2, g3, g4, g5⟩ := m_tfeed e67 hL 20 0 FU _ e67 (by omega) (by show 20 < 100000; omega)
    refine ⟨(.inl (nI (L + 20)), ubTQ (ubTQ (ubTQ (ubTQ (ubTQ s.2.2.2.1 v1) v2) v3) v4) v5), nI (L + 20), u', ?_, ?_, ?_, Or.inl ⟨rfl, ?_⟩⟩
    · have f2' : ubTQ (ubTQ (ubTQ (ubTQ (ubTQ s.2.2.2.1 v1) v2) v3) v4) v5 37 1 = nI (L + 20) := f2
      simp (disch := first | omega | (simp only [pN, pP, pM, pE, pL, pC, pK, sp]; omega)) only [u_fX11_feed, u_fX11_feed_0, t2, a1, b1, c1, d1, f1, f2', e_T, e_F, e_bnd, e_obr, e_obd, e_obt, e_addB, e_addA, e_in, e_cl, e_leT, e_leF, e_ltT, e_ltF, e_eqT, e_eqF, e_NOT, e_NOF, nI_add, pk_mul, k_spot, k_chan, m_node, m_pair, m_msg, m_chan, m_pack, e_w, e_wn, e_ws]
    · simp (disch := first | omega | (simp only [pN, pP, pM, pE, pL, pC, pK, sp]; omega)) only [u_fX12_feed, u_fX12_feed_0, e7, g1, e_T, e_F, e_bnd, e_obr, e_obd, e_obt, e_addB, e_addA, e_in, e_cl, e_leT, e_leF, e_ltT, e_ltF, e_eqT, e_eqF, e_NOT, e_NOF, nI_add, pk_mul, k_spot, k_chan, m_node, m_pair, m_msg, m_chan, m_pack, e_w, e_wn, e_ws]
    · refine Inv_tape (L' := L + 20) (σ' := ubTQ (ubTQ (ubTQ (ubTQ (ubTQ s.2.2.2.1 v1) v2) v3) v4) v5) hI (fun q h1 h2 => by rw [f3 q h1 h2, d3 q h1 h2, c3 q h1 h2, b3 q h1 h2, a3 q h1 h2]) (fun q h0 h5 h6 => by rw [g3 q h0 h5]; simp (disch := first | omega | (simp only [pN, pP, pM, pE, pL, pC, pK, sp]; omega)) only [e_s2n, h6, h0, ne_eq, not_false_eq_true]) (fun j h0 h7 => by rw [g4 j h7]; simp (disch := first | omega | (simp only [pN, pP, pM, pE, pL, pC, pK, sp]; omega)) only [e_s2n, e_s2, pk_un, h0, ne_eq, not_false_eq_true]) hL f2 g2 (fun j hj => ?_)
      rw [f4 j, d4 j, c4 j, b4 j, a4 j, g5 j]
      have m0 : s2 (s2 (s2 (s2 (s2 (s2 μ 0 0 (nI 0)) 6 0 x1) 6 1 x2) 6 2 x3) 6 3 x4) 6 4 x5 5 j = μ 5 j := by simp (disch := first | omega | (simp only [pN, pP, pM, pE, pL, pC, pK, sp]; omega)) only [e_s2n]
      have w0 : s2 (s2 (s2 (s2 (s2 (s2 μ 0 0 (nI 0)) 6 0 x1) 6 1 x2) 6 2 x3) 6 3 x4) 6 4 x5 6 0 = x1 := by simp (disch := first | omega | (simp only [pN, pP, pM, pE, pL, pC, pK, sp]; omega)) only [e_s2n, e_s2, e_s2n, pk_us, pk_un]
      have w1 : s2 (s2 (s2 (s2 (s2 (s2 μ 0 0 (nI 0)) 6 0 x1) 6 1 x2) 6 2 x3) 6 3 x4) 6 4 x5 6 1 = x2 := by simp (disch := first | omega | (simp only [pN, pP, pM, pE, pL, pC, pK, sp]; omega)) only [e_s2n, e_s2, e_s2n, pk_us, pk_un]
      have w2 : s2 (s2 (s2 (s2 (s2 (s2 μ 0 0 (nI 0)) 6 0 x1) 6 1 x2) 6 2 x3) 6 3 x4) 6 4 x5 6 2 = x3 := by simp (disch := first | omega | (simp only [pN, pP, pM, pE, pL, pC, pK, sp]; omega)) only [e_s2n, e_s2, e_s2n, pk_us, pk_un]
      have w3 : s2 (s2 (s2 (s2 (s2 (s2 μ 0 0 (nI 0)) 6 0 x1) 6 1 x2) 6 2 x3) 6 3 x4) 6 4 x5 6 3 = x4 := by simp (disch := first | omega | (simp only [pN, pP, pM, pE, pL, pC, pK, sp]; omega)) only [e_s2n, e_s2, e_s2n, pk_us, pk_un]
      have w4 : s2 (s2 (s2 (s2 (s2 (s2 μ 0 0 (nI 0)) 6 0 x1) 6 1 x2) 6 2 x3) 6 3 x4) 6 4 x5 6 4 = x5 := by simp (disch := first | omega | (simp only [pN, pP, pM, pE, pL, pC, pK, sp]; omega)) only [e_s2n, e_s2, e_s2n, pk_us, pk_un]
      rw [m0]
      by_cases hin : L ≤ j ∧ j < L + 20
      · rw [if_pos (show L + 0 ≤ j ∧ j < L + 20 by omega)]
        by_cases i4 : L + 16 ≤ j
        · rw [if_pos (by omega), show (j - L) / 4 = 4 from by omega, w4]; congr 1; omega
        · rw [if_neg (by omega)]
          by_cases i3 : L + 12 ≤ j
          · rw [if_pos (by omega), show (j - L) / 4 = 3 from by omega, w3]; congr 1; omega
          · rw [if_neg (by omega)]
            by_cases i2 : L + 8 ≤ j
            · rw [if_pos (by omega), show (j - L) / 4 = 2 from by omega, w2]; congr 1; omega
            · rw [if_neg (by omega)]
              by_cases i1 : L + 4 ≤ j
              · rw [if_pos (by omega), show (j - L) / 4 = 1 from by omega, w1]; congr 1; omega
              · rw [if_neg (by omega), if_pos (by omega), show (j - L) / 4 = 0 from by omega, w0]; congr 1; omega
      · rw [if_neg (show ¬ (L + 0 ≤ j ∧ j < L + 20) by omega), if_neg (by omega), if_neg (by omega), if_neg (by omega), if_neg (by omega), if_neg (by omega)]
        exact t4 j hj
    · rw [g4 0 (by omega)]; simp (disch := first | omega | (simp only [pN, pP, pM, pE, pL, pC, pK, sp]; omega)) only [e_s2n, e_s2, e_s2n, pk_us, pk_un]; rfl
  · refine ⟨(.inl NO, s.2.2.2.1), NO, s2 μ 0 0 (nI 0), ?_, ?_, ?_, Or.inl ⟨rfl, s2_00 _ _⟩⟩
    · simp (disch := first | omega | (simp only [pN, pP, pM, pE, pL, pC, pK, sp]; omega)) only [u_fX11_feed, u_fX11_feed_0, t2, e_T, e_F, e_bnd, e_obr, e_obd, e_obt, e_addB, e_addA, e_in, e_cl, e_leT, e_leF, e_ltT, e_ltF, e_eqT, e_eqF, e_NOT, e_NOF, nI_add, pk_mul, k_spot, k_chan, m_node, m_pair, m_msg, m_chan, m_pack, e_w, e_wn, e_ws]
    · simp (disch := first | omega | (simp only [pN, pP, pM, pE, pL, pC, pK, sp]; omega)) only [u_fX12_feed, u_fX12_feed_0, e7, e_T, e_F, e_bnd, e_obr, e_obd, e_obt, e_addB, e_addA, e_in, e_cl, e_leT, e_leF, e_ltT, e_ltF, e_eqT, e_eqF, e_NOT, e_NOF, nI_add, pk_mul, k_spot, k_chan, m_node, m_pair, m_msg, m_chan, m_pack, e_w, e_wn, e_ws]
    · exact Inv_tape (L' := L) hI (fun _ _ _ => rfl) (fun q h0 _ _ => e_s2n _ _ _ h0) (fun j h0 _ => by rw [e_s2, pk_un h0]) t1 t2 e7 (fun j hj => by rw [e_s2n _ _ _ (by omega)]; exact t4 j hj)
end TP
