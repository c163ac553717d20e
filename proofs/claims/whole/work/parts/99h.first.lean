/-! first -/
def fsP (Dl : Nat → List Nat) (a b : Nat) : Nat → Bool := fun n => decide (a ∈ Dl n) && decide (b ∈ Dl n)
def fsV (Dl : Nat → List Nat) (a b n : Nat) : Int32 := if bef (Dl n) a b = true then nI a else nI b
def fsR (Dl : Nat → List Nat) (a b : Nat) : Nat → Nat → Int32
  | 0, _ => NO
  | r + 1, k => if fsP Dl a b k = true then fsV Dl a b k else fsR Dl a b r (k + 1)
theorem fsR_at {Dl : Nat → List Nat} {a b j : Nat} (hj : fsP Dl a b j = true) : ∀ {r k : Nat}, k ≤ j → j < k + r → (∀ i, k ≤ i → i < j → fsP Dl a b i = false) → fsR Dl a b r k = fsV Dl a b j
  | 0, k, h1, h2, _ => by omega
  | r + 1, k, h1, h2, h3 => by
    unfold fsR
    by_cases e : k = j
    · subst e; rw [if_pos hj]
    · rw [if_neg (by rw [h3 k (by omega) (by omega)]; decide)]
      exact fsR_at hj (by omega) (by omega) (fun i h4 h5 => h3 i (by omega) h5)
theorem fsR_no {Dl : Nat → List Nat} {a b : Nat} : ∀ {r k : Nat}, (∀ i, k ≤ i → i < k + r → fsP Dl a b i = false) → fsR Dl a b r k = NO
  | 0, _, _ => rfl
  | r + 1, k, h => by
    unfold fsR
    rw [if_neg (by rw [h k (by omega) (by omega)]; decide)]
    exact fsR_no (fun i h1 h2 => h i (by omega) (by omega))
section FI
variable {dr : Prop} {tk : Int32} {pl N G M T B : Nat} {Q : Qs} {Dl : Nat → List Nat} {σ u : Sg} {ω : Nat → Int32} {a b : Nat} {c : Nat} {s : Sta} {μ : Sg}
theorem k_first_lp (hD : rD Dl σ ω) (h0 : σ 0 0 = nI N) (h6 : N ≤ 6) (ha : a < 20) (hb : b < 20) (hab : a ≠ b) : ∀ r k f, k + r = N → r < f → fX0_firstOf_2 σ f (nI a) (nI b) (nI k) = some (fsR Dl a b r k) := by
  intro r
  induction r with
  | zero =>
    intro k f hk hf
    obtain ⟨f, rfl⟩ : ∃ g, f = g + 1 := ⟨f - 1, by omega⟩
    simp (disch := first | omega | (simp only [pN, pP, pM, pE, pL, pC, pK, sp]; omega)) only [u_fX0_firstOf_2, h0, fsR, e_T, e_F, e_bnd, e_obr, e_obd, e_obt, e_addB, e_addA, e_in, e_cl, e_leT, e_leF, e_ltT, e_ltF, e_eqT, e_eqF, e_NOT, e_NOF, nI_add, pk_mul, k_spot, k_chan, m_node, m_pair, m_msg, m_chan, m_pack, e_w, e_wn, e_ws]
  | succ r ih =>
    intro k f hk hf
    obtain ⟨f, rfl⟩ : ∃ g, f = g + 1 := ⟨f - 1, by omega⟩
    have pa := k_place hD (n := k) (m := a) (by omega) ha
    have pb := k_place hD (n := k) (m := b) (by omega) hb
    have I := ih (k + 1) f (by omega) (by omega)
    have hl := dl_len hD (n := k) (by omega)
    have hnd := (hD k (by omega)).1
    unfold fsR
    by_cases ia : a ∈ Dl k
    · obtain ⟨a1, a2, a3⟩ := plI_in (k := 0) ia
      by_cases ib : b ∈ Dl k
      · obtain ⟨b1, b2', b3⟩ := plI_in (k := 0) ib
        have hbp := bef_pos hab (k := 0) hnd ia ib
        rw [if_pos (show fsP Dl a b k = true by unfold fsP; rw [decide_eq_true ia, decide_eq_true ib]; rfl)]
        unfold fsV
        rw [a1] at pa
        rw [b1] at pb
        by_cases hbf : bef (Dl k) a b = true
        · have := hbp.mp hbf
          rw [if_pos hbf]
          simp (disch := first | omega | (simp only [pN, pP, pM, pE, pL, pC, pK, sp]; omega)) only [u_fX0_firstOf_2, u_fX0_firstOf_57, h0, pa, pb, e_T, e_F, e_bnd, e_obr, e_obd, e_obt, e_addB, e_addA, e_in, e_cl, e_leT, e_leF, e_ltT, e_ltF, e_eqT, e_eqF, e_NOT, e_NOF, nI_add, pk_mul, k_spot, k_chan, m_node, m_pair, m_msg, m_chan, m_pack, e_w, e_wn, e_ws]
        · have : ¬ posN 0 (Dl k) a < posN 0 (Dl k) b := fun q => hbf (hbp.mpr q)
          rw [if_neg hbf]
          simp (disch := first | omega | (simp only [pN, pP, pM, pE, pL, pC, pK, sp]; omega)) only [u_fX0_firstOf_2, u_fX0_firstOf_57, h0, pa, pb, e_T, e_F, e_bnd, e_obr, e_obd, e_obt, e_addB, e_addA, e_in, e_cl, e_leT, e_leF, e_ltT, e_ltF, e_eqT, e_eqF, e_NOT, e_NOF, nI_add, pk_mul, k_spot, k_chan, m_node, m_pair, m_msg, m_chan, m_pack, e_w, e_wn, e_ws]
      · rw [if_neg (show ¬ fsP Dl a b k = true by unfold fsP; rw [decide_eq_false ib, Bool.and_false]; decide)]
        rw [a1] at pa
        rw [plI_out ib] at pb
        simp (disch := first | omega | (simp only [pN, pP, pM, pE, pL, pC, pK, sp]; omega)) only [u_fX0_firstOf_2, u_fX0_firstOf_57, h0, pa, pb, I, e_T, e_F, e_bnd, e_obr, e_obd, e_obt, e_addB, e_addA, e_in, e_cl, e_leT, e_leF, e_ltT, e_ltF, e_eqT, e_eqF, e_NOT, e_NOF, nI_add, pk_mul, k_spot, k_chan, m_node, m_pair, m_msg, m_chan, m_pack, e_w, e_wn, e_ws]
    · rw [if_neg (show ¬ fsP Dl a b k = true by unfold fsP; rw [decide_eq_false ia, Bool.false_and]; decide)]
      rw [plI_out ia] at pa
      simp (disch := first | omega | (simp only [pN, pP, pM, pE, pL, pC, pK, sp]; omega)) only [u_fX0_firstOf_2, u_fX0_firstOf_57, h0, pa, pb, I, e_T, e_F, e_bnd, e_obr, e_obd, e_obt, e_addB, e_addA, e_in, e_cl, e_leT, e_leF, e_ltT, e_ltF, e_eqT, e_eqF, e_NOT, e_NOF, nI_add, pk_mul, k_spot, k_chan, m_node, m_pair, m_msg, m_chan, m_pack, e_w, e_wn, e_ws]
theorem k_first (hD : rD Dl σ ω) (h0 : σ 0 0 = nI N) (h6 : N ≤ 6) (ha : a < 20) (hb : b < 20) (hab : a ≠ b) : fX0_firstOf (nI a) (nI b) σ = some (fsR Dl a b N 0) :=
  k_first_lp hD h0 h6 ha hb hab N 0 FU (by omega) (by show N < 100000; omega)
theorem sDl_mem (hD : rD Dl σ ω) {n m : Nat} (hn : n < 6) (hm : m < 20) : sDl σ m n = decide (m ∈ Dl n) := by
  unfold sDl
  congr 1
  exact propext ⟨fun q => ((hD n hn).2.1 m).mpr ⟨hm, q⟩, fun q => (((hD n hn).2.1 m).mp q).2⟩
theorem x_zero {x : Int32} (h : ∀ i, i < 32 → bt x i = false) : x = nI 0 := b_ext (fun i hi => by rw [h i hi, b_n0])
/-- what the model finds of it -/
theorem m_first (h : R0 dr tk pl N G M T B Q Dl σ ω) (ha : a < 20) (hb : b < 20) : (fsR Dl a b N 0 = NO ∧ setOf (sDl σ a) N &&& setOf (sDl σ b) N = nI 0) ∨ ∃ j, j < N ∧ setOf (sDl σ a) N &&& setOf (sDl σ b) N ≠ nI 0 ∧ fJ6_numberOfTrailingZeros_0f7a4 (setOf (sDl σ a) N &&& setOf (sDl σ b) N) = nI j ∧ fsR Dl a b N 0 = fsV Dl a b j := by
  have h6 := h.1.1.1
  have hD := h.2.2.2.1
  have hbt : ∀ i, bt (setOf (sDl σ a) N &&& setOf (sDl σ b) N) i = (decide (i < N) && fsP Dl a b i) := fun i => by
    rw [b_and, bt_setOf (by omega), bt_setOf (by omega)]
    by_cases hi : i < N
    · rw [decide_eq_true hi, Bool.true_and, Bool.true_and, Bool.true_and, sDl_mem hD (by omega) ha, sDl_mem hD (by omega) hb]; rfl
    · simp only [decide_eq_false hi, Bool.false_and]
  by_cases hex : ∃ i, i < N ∧ fsP Dl a b i = true
  · obtain ⟨j, j1, j2, j3⟩ := low_ex hex
    have hj : bt (setOf (sDl σ a) N &&& setOf (sDl σ b) N) j = true := by rw [hbt, decide_eq_true j1, j2]; rfl
    refine Or.inr ⟨j, j1, fun q => ?_, tz (by omega) hj (fun i hi => by rw [hbt, j3 i hi, Bool.and_false]), fsR_at j2 (by omega) (by omega) (fun i _ hi => j3 i hi)⟩
    rw [q, b_n0] at hj; cases hj
  · have hno : ∀ i, i < N → fsP Dl a b i = false := fun i hi => by
      cases h1 : fsP Dl a b i with
      | false => rfl
      | true => exact absurd ⟨i, hi, h1⟩ hex
    refine Or.inl ⟨fsR_no (fun i _ hi => hno i (by omega)), x_zero (fun i _ => ?_)⟩
    rw [hbt]
    by_cases hi : i < N
    · rw [hno i hi, Bool.and_false]
    · rw [decide_eq_false hi, Bool.false_and]
theorem r_first (hI : InvL c s μ) (hc : c ≤ 512) (x1 x2 : Int32) : okU InvL c s [0, 3] kk2 (fX11_first s.1 x1 x2 (mS s.2.2.2.1 s.2.2.2.2.1) s.2.1) (fX12_first x1 x2 μ) := by
  obtain ⟨⟨N, G, M, T, Dl, hT, hR⟩, hB8⟩ := hI.1
  obtain ⟨Q, B, h, hrI, hd⟩ := id hR
  have h6 := h.1.1.1
  have hM20 := h.1.1.2.2.1
  have key : ∀ (z : Xr × Sg) (d : Nat) (r : Int32) (u' : Sg) (ω' : Nat → Int32), fX11_first s.1 x1 x2 (mS s.2.2.2.1 s.2.2.2.2.1) s.2.1 = some (z.1, z.2, d) → fX12_first x1 x2 (sq μ 1 (μ 1)) = some (r, sq u' 1 ω') → InvL (c + 1) (s.1, s.2.1 + d, s.2.2.1, uS z.2, nS z.2, s.2.2.2.2.2) (sq u' 1 ω') → out z.1 r [0, 3] kk2 (sq u' 1 ω') → okU InvL c s [0, 3] kk2 (fX11_first s.1 x1 x2 (mS s.2.2.2.1 s.2.2.2.2.1) s.2.1) (fX12_first x1 x2 μ) := fun z d r u' ω' y1 y2 y3 y4 => ⟨z, d, r, _, y1, by rw [e_wid] at y2; exact y2, y3, y4⟩
  have h13 : sbUT (mS s.2.2.2.1 s.2.2.2.2.1) 13 0 = nI M := by rw [e_sbUT _ (by omega), e_mS0 _ _ (by omega)]; exact h.1.2.2.2.1.1
  rcases ck_msg h13 h.1.2.2.2.1.2 hM20 x1 with ⟨a, ha, rfl, k1, m1⟩ | ⟨k1, m1⟩
  · rcases ck_msg h13 h.1.2.2.2.1.2 hM20 x2 with ⟨b, hb, rfl, k2, m2⟩ | ⟨k2, m2⟩
    · by_cases hab : a = b
      · subst hab
        refine key (.inr 3, mS s.2.2.2.1 s.2.2.2.2.1) 0 (nI 0) (s2 μ 0 0 (nI 2)) (μ 1) ?_ ?_ (Inv_thrU hI (uk_thr μ _)) (out_x 3 (by decide) rfl (s2_00 _ _))
        · simp (disch := first | omega | (simp only [pN, pP, pM, pE, pL, pC, pK, sp]; omega)) only [u_fX11_first, u_fX11_first_0, k1, k2, e_obyl, e_obyr, e_ubUT, u_fX11_needTwo, u_fX11_needTwo_0, e_T, e_F, e_bnd, e_obr, e_obd, e_obt, e_addB, e_addA, e_in, e_cl, e_leT, e_leF, e_ltT, e_ltF, e_eqT, e_eqF, e_NOT, e_NOF, nI_add, pk_mul, k_spot, k_chan, m_node, m_pair, m_msg, m_chan, m_pack, e_w, e_wn, e_ws]
        · simp (disch := first | omega | (simp only [pN, pP, pM, pE, pL, pC, pK, sp]; omega)) only [u_fX12_first, u_fX12_first_0, u_fX12_first_27, u_fX12_first_45, m1, m2, m_thr0, m_thr1, e_ws0, e_ss, e_T, e_F, e_bnd, e_obr, e_obd, e_obt, e_addB, e_addA, e_in, e_cl, e_leT, e_leF, e_ltT, e_ltF, e_eqT, e_eqF, e_NOT, e_NOF, nI_add, pk_mul, k_spot, k_chan, m_node, m_pair, m_msg, m_chan, m_pack, e_w, e_wn, e_ws]
      · obtain ⟨v, d, l1, l2, l3⟩ := s_look hI hR (kU_m s.2.2.2.1 s.2.2.2.2.1)
        obtain ⟨g4, b1, b2'⟩ := m_begin (s2 μ 0 0 (nI 0)) (μ 1)
        have hV := RR_cg (σ' := sbUN (ubU2 (mS s.2.2.2.1 s.2.2.2.2.1) v)) (fun q hq => by rw [e_sbUN _ hq, e_ubU21 _ _ hq]) (l2 (s2 (sq (s2 μ 0 0 (nI 0)) 4 g4) 0 14 (nI 0)) (by rw [e_s2, pk_us]))
        obtain ⟨σ3, d', pl', σm, u', ω', T', Dl', f1, f2, f3, f4, f5, f6⟩ := s_far hV (by omega)
        obtain ⟨g, e1, e2⟩ := m_end u' ω'
        obtain ⟨Q', B', h', hrI', -⟩ := id f4
        have hW : ∀ q, q < 36 → sbUN (ubUN (ubU2 (mS s.2.2.2.1 s.2.2.2.2.1) v) σ3) q = σ3 q := fun q hq => by rw [e_sbUN _ hq, e_ubUN1 _ _ hq]
        have w00 : sbUN (ubUN (ubU2 (mS s.2.2.2.1 s.2.2.2.2.1) v) σ3) 0 0 = nI N := by rw [hW 0 (by omega), ← f6.2 0 (by omega) (by omega)]; exact h'.1.2.1.1
        have hW' : ∀ q, q < 36 → q ≠ 0 → sbUN (ubUN (ubU2 (mS s.2.2.2.1 s.2.2.2.2.1) v) σ3) q = σm q := fun q hq h0 => by rw [hW q hq, f6.1 q (by simp [h0])]
        have hDw : rD Dl' (sbUN (ubUN (ubU2 (mS s.2.2.2.1 s.2.2.2.2.1) v) σ3)) ω' := rD_fr h'.2.2.2.1 (fun i _ => by rw [hW' 20 (by omega) (by omega), hW' 24 (by omega) (by omega), hW' 23 (by omega) (by omega)]; exact ⟨rfl, rfl, rfl⟩) (fun n m _ _ => by rw [hW' 17 (by omega) (by omega)]) (fun n _ => by rw [hW' 25 (by omega) (by omega)]) (fun _ _ _ _ _ => rfl)
        have kf := k_first hDw w00 h6 (show a < 20 by omega) (show b < 20 by omega) hab
        have ma := m_dlvBy (u := u') (m := a) h' (by omega)
        have mb := m_dlvBy (u := u') (m := b) h' (by omega)
        refine key (.inl (fsR Dl' a b N 0), ubUN (ubU2 (mS s.2.2.2.1 s.2.2.2.2.1) v) σ3) (d + d') (fsR Dl' a b N 0) (s2 u' 0 14 (nI 1)) g ?_ ?_ (Inv_look hI (kU_N (kU_2 (kU_m _ _) l3)) (by rw [← Nat.add_assoc]; exact f2) f5 b2' e2) (out_v rfl ?_)
        · simp (disch := first | omega | (simp only [pN, pP, pM, pE, pL, pC, pK, sp]; omega)) only [u_fX11_first, u_fX11_first_0, k1, k2, e_obyl, e_ubUT, u_fX11_needTwo, u_fX11_needTwo_0, l1, f1, kf, e_addY, Nat.add_zero, e_T, e_F, e_bnd, e_obr, e_obd, e_obt, e_addB, e_addA, e_in, e_cl, e_leT, e_leF, e_ltT, e_ltF, e_eqT, e_eqF, e_NOT, e_NOF, nI_add, pk_mul, k_spot, k_chan, m_node, m_pair, m_msg, m_chan, m_pack, e_w, e_wn, e_ws]
        · simp (disch := first | omega | (simp only [pN, pP, pM, pE, pL, pC, pK, sp]; omega)) only [u_fX12_first, u_fX12_first_0, u_fX12_first_27, u_fX12_first_45, m1, m2, m_thr0, e_ws0, b1, f3, ma, mb, e_T, e_F, e_bnd, e_obr, e_obd, e_obt, e_addB, e_addA, e_in, e_cl, e_leT, e_leF, e_ltT, e_ltF, e_eqT, e_eqF, e_NOT, e_NOF, nI_add, pk_mul, k_spot, k_chan, m_node, m_pair, m_msg, m_chan, m_pack, e_w, e_wn, e_ws]
          rcases m_first h' (show a < 20 by omega) (show b < 20 by omega) with ⟨q1, q2⟩ | ⟨j, q1, q2, q3, q4⟩
          · rw [q2, q1]
            simp (disch := first | omega | (simp only [pN, pP, pM, pE, pL, pC, pK, sp]; omega)) only [u_fX12_first_102, e1, e_T, e_F, e_bnd, e_obr, e_obd, e_obt, e_addB, e_addA, e_in, e_cl, e_leT, e_leF, e_ltT, e_ltF, e_eqT, e_eqF, e_NOT, e_NOF, nI_add, pk_mul, k_spot, k_chan, m_node, m_pair, m_msg, m_chan, m_pack, e_w, e_wn, e_ws]
          · rw [cnd_neg q2, q3, q4, m_has h'.2.2.2.1 (show j < 6 by omega) (show a < 20 by omega) (show b < 20 by omega)]
            unfold fsV
            cases hbf : bef (Dl' j) a b with
            | true => rw [if_pos rfl]; simp (disch := first | omega | (simp only [pN, pP, pM, pE, pL, pC, pK, sp]; omega)) only [b2_t, u_fX12_first_102, e1, e_T, e_F, e_bnd, e_obr, e_obd, e_obt, e_addB, e_addA, e_in, e_cl, e_leT, e_leF, e_ltT, e_ltF, e_eqT, e_eqF, e_NOT, e_NOF, nI_add, pk_mul, k_spot, k_chan, m_node, m_pair, m_msg, m_chan, m_pack, e_w, e_wn, e_ws]
            | false => rw [if_neg (by decide)]; simp (disch := first | omega | (simp only [pN, pP, pM, pE, pL, pC, pK, sp]; omega)) only [b2_f, u_fX12_first_102, e1, e_T, e_F, e_bnd, e_obr, e_obd, e_obt, e_addB, e_addA, e_in, e_cl, e_leT, e_leF, e_ltT, e_ltF, e_eqT, e_eqF, e_NOT, e_NOF, nI_add, pk_mul, k_spot, k_chan, m_node, m_pair, m_msg, m_chan, m_pack, e_w, e_wn, e_ws]
        · rw [e_s2, pk_un (by omega), f5 0 (by omega), e_s2, pk_un (by omega), e_qn _ _ (by omega), s2_00]
    · refine key (.inr 0, mS s.2.2.2.1 s.2.2.2.2.1) 0 (nI 0) (s2 μ 0 0 (nI 1)) (μ 1) ?_ ?_ (Inv_thrU hI (uk_thr μ _)) (out_x 0 (by decide) rfl (s2_00 _ _))
      · simp (disch := first | omega | (simp only [pN, pP, pM, pE, pL, pC, pK, sp]; omega)) only [u_fX11_first, u_fX11_first_0, k1, k2, e_obyl, e_obyr, e_ubUT, e_T, e_F, e_bnd, e_obr, e_obd, e_obt, e_addB, e_addA, e_in, e_cl, e_leT, e_leF, e_ltT, e_ltF, e_eqT, e_eqF, e_NOT, e_NOF, nI_add, pk_mul, k_spot, k_chan, m_node, m_pair, m_msg, m_chan, m_pack, e_w, e_wn, e_ws]
      · simp (disch := first | omega | (simp only [pN, pP, pM, pE, pL, pC, pK, sp]; omega)) only [u_fX12_first, u_fX12_first_0, u_fX12_first_22, u_fX12_first_27, m1, m2, m_thr1, e_ws0, e_ss, e_T, e_F, e_bnd, e_obr, e_obd, e_obt, e_addB, e_addA, e_in, e_cl, e_leT, e_leF, e_ltT, e_ltF, e_eqT, e_eqF, e_NOT, e_NOF, nI_add, pk_mul, k_spot, k_chan, m_node, m_pair, m_msg, m_chan, m_pack, e_w, e_wn, e_ws]
  · refine key (.inr 0, mS s.2.2.2.1 s.2.2.2.2.1) 0 (nI 0) (s2 μ 0 0 (nI 1)) (μ 1) ?_ ?_ (Inv_thrU hI (uk_thr μ _)) (out_x 0 (by decide) rfl (s2_00 _ _))
    · simp (disch := first | omega | (simp only [pN, pP, pM, pE, pL, pC, pK, sp]; omega)) only [u_fX11_first, u_fX11_first_0, k1, e_obyr, e_ubUT, e_T, e_F, e_bnd, e_obr, e_obd, e_obt, e_addB, e_addA, e_in, e_cl, e_leT, e_leF, e_ltT, e_ltF, e_eqT, e_eqF, e_NOT, e_NOF, nI_add, pk_mul, k_spot, k_chan, m_node, m_pair, m_msg, m_chan, m_pack, e_w, e_wn, e_ws]
    · simp (disch := first | omega | (simp only [pN, pP, pM, pE, pL, pC, pK, sp]; omega)) only [u_fX12_first, u_fX12_first_0, u_fX12_first_22, u_fX12_first_27, m1, m_thr1, e_ws0, e_ss, e_T, e_F, e_bnd, e_obr, e_obd, e_obt, e_addB, e_addA, e_in, e_cl, e_leT, e_leF, e_ltT, e_ltF, e_eqT, e_eqF, e_NOT, e_NOF, nI_add, pk_mul, k_spot, k_chan, m_node, m_pair, m_msg, m_chan, m_pack, e_w, e_wn, e_ws]
end FI
