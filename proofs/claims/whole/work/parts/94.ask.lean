/-! calls that ask: rows as they stand -/
def kk2 : Nat → Int32 := fun E => if E = 0 then nI 1 else nI 2
section AS
variable {dr : Prop} {tk : Int32} {pl N G M T B : Nat} {Q : Qs} {Dl : Nat → List Nat} {u σ : Sg} {ω : Nat → Int32}
theorem w_kind (h : R0 dr tk pl N G M T B Q Dl σ ω) {n m : Nat} (hn : n < 6) (hm : m < 20) : ω (pP n m 0) = σ 20 (sp n m) := by
  obtain ⟨⟨k, k1, k2, k3, -⟩, -⟩ := h.2.2.1 n m hn hm
  rw [k2, k3]
theorem o_group (h : R0 dr tk pl N G M T B Q Dl σ ω) (x1 : Int32) : QR [0] kk2 (fX11_group x1 σ) (fX12_group x1 (sq u 1 ω)) σ u ω := by
  have hG := h.1.1.2.1
  rcases ck_group h.1.2.2.1.1 h.1.2.2.1.2 hG x1 with ⟨j, hj, rfl, k1, m1⟩ | ⟨k1, m1⟩
  · refine QR_val (r := σ 1 j) ?_ ?_
    · simp (disch := first | omega | (simp only [pN, pP, pM, pE, pL, pC, pK, sp]; omega)) only [u_fX11_group, u_fX11_group_0, k1, e_obxl, e_T, e_F, e_bnd, e_obr, e_obd, e_obt, e_addB, e_addA, e_in, e_cl, e_leT, e_leF, e_ltT, e_ltF, e_eqT, e_eqF, e_NOT, e_NOF, nI_add, pk_mul, k_spot, k_chan, m_node, m_pair, m_msg, m_chan, m_pack, e_w, e_wn, e_ws]
    · simp (disch := first | omega | (simp only [pN, pP, pM, pE, pL, pC, pK, sp]; omega)) only [u_fX12_group, u_fX12_group_0, m1, m_thr0, e_ws0, e_T, e_F, e_bnd, e_obr, e_obd, e_obt, e_addB, e_addA, e_in, e_cl, e_leT, e_leF, e_ltT, e_ltF, e_eqT, e_eqF, e_NOT, e_NOF, nI_add, pk_mul, k_spot, k_chan, m_node, m_pair, m_msg, m_chan, m_pack, e_w, e_wn, e_ws]
      rw [h.1.2.2.2.2.2.2.2.2.2.2.1 j (by omega)]
  · refine QR_thr (r := nI 0) 0 (by decide) ?_ ?_
    · simp (disch := first | omega | (simp only [pN, pP, pM, pE, pL, pC, pK, sp]; omega)) only [u_fX11_group, u_fX11_group_0, k1, e_obxl, e_obxr, e_T, e_F, e_bnd, e_obr, e_obd, e_obt, e_addB, e_addA, e_in, e_cl, e_leT, e_leF, e_ltT, e_ltF, e_eqT, e_eqF, e_NOT, e_NOF, nI_add, pk_mul, k_spot, k_chan, m_node, m_pair, m_msg, m_chan, m_pack, e_w, e_wn, e_ws]
    · simp (disch := first | omega | (simp only [pN, pP, pM, pE, pL, pC, pK, sp]; omega)) only [u_fX12_group, u_fX12_group_0, m1, m_thr0, m_thr1, e_ws0, e_ss, e_T, e_F, e_bnd, e_obr, e_obd, e_obt, e_addB, e_addA, e_in, e_cl, e_leT, e_leF, e_ltT, e_ltF, e_eqT, e_eqF, e_NOT, e_NOF, nI_add, pk_mul, k_spot, k_chan, m_node, m_pair, m_msg, m_chan, m_pack, e_w, e_wn, e_ws]; rfl
theorem m_noPair {x1 x2 : Int32} {b : Int32} (hb : b = nI 0 ∨ b = nI 1) (h1 : ∃ a, (∀ u, fX12_noNode x1 (sq u 1 ω) = some a) ∧ ((a = nI 0 ∧ ∀ u, fX12_noMessage x2 (sq u 1 ω) = some b) ∨ (a = nI 1 ∧ b = nI 1))) : fX12_noPair x1 x2 (sq u 1 ω) = some (b, sq (s2 u 0 0 b) 1 ω) := by
  obtain ⟨a, h1, h2⟩ := h1
  rcases h2 with ⟨rfl, h2⟩ | ⟨rfl, rfl⟩
  · rcases hb with rfl | rfl
    · simp (disch := first | omega | (simp only [pN, pP, pM, pE, pL, pC, pK, sp]; omega)) only [u_fX12_noPair, u_fX12_noPair_0, u_fX12_noPair_27, h1, h2, m_thr0, e_isB0, e_ws0, e_T, e_F, e_bnd, e_obr, e_obd, e_obt, e_addB, e_addA, e_in, e_cl, e_leT, e_leF, e_ltT, e_ltF, e_eqT, e_eqF, e_NOT, e_NOF, nI_add, pk_mul, k_spot, k_chan, m_node, m_pair, m_msg, m_chan, m_pack, e_w, e_wn, e_ws]
    · simp (disch := first | omega | (simp only [pN, pP, pM, pE, pL, pC, pK, sp]; omega)) only [u_fX12_noPair, u_fX12_noPair_0, u_fX12_noPair_22, u_fX12_noPair_27, h1, h2, m_thr1, e_isB1, e_ws0, e_ss, e_T, e_F, e_bnd, e_obr, e_obd, e_obt, e_addB, e_addA, e_in, e_cl, e_leT, e_leF, e_ltT, e_ltF, e_eqT, e_eqF, e_NOT, e_NOF, nI_add, pk_mul, k_spot, k_chan, m_node, m_pair, m_msg, m_chan, m_pack, e_w, e_wn, e_ws]
  · simp (disch := first | omega | (simp only [pN, pP, pM, pE, pL, pC, pK, sp]; omega)) only [u_fX12_noPair, u_fX12_noPair_0, u_fX12_noPair_22, u_fX12_noPair_27, h1, m_thr1, e_isB1, e_ws0, e_ss, e_T, e_F, e_bnd, e_obr, e_obd, e_obt, e_addB, e_addA, e_in, e_cl, e_leT, e_leF, e_ltT, e_ltF, e_eqT, e_eqF, e_NOT, e_NOF, nI_add, pk_mul, k_spot, k_chan, m_node, m_pair, m_msg, m_chan, m_pack, e_w, e_wn, e_ws]
/-- a node and a message, or neither -/
theorem ck_pair (h : R0 dr tk pl N G M T B Q Dl σ ω) (x1 x2 : Int32) : (∃ n m, n < N ∧ m < M ∧ x1 = nI n ∧ x2 = nI m ∧ fX11_needNode x1 σ = some (.inl (nI 0), σ) ∧ fX11_needMessage x2 σ = some (.inl (nI 0), σ) ∧ ∀ u, fX12_noPair x1 x2 (sq u 1 ω) = some (nI 0, sq (s2 u 0 0 (nI 0)) 1 ω)) ∨
    ((∀ k : Sg → Option (Xr × Sg), obx (fX11_needNode x1 σ) (fun u4 => obx (fX11_needMessage x2 u4) k) = some (.inr 0, σ)) ∧ ∀ u, fX12_noPair x1 x2 (sq u 1 ω) = some (nI 1, sq (s2 u 0 0 (nI 1)) 1 ω)) := by
  rcases ck_node h.1.2.1.1 h.1.2.1.2 h.1.1.1 x1 with ⟨n, hn, rfl, k1, m1⟩ | ⟨k1, m1⟩
  · rcases ck_msg h.1.2.2.2.1.1 h.1.2.2.2.1.2 h.1.1.2.2.1 x2 with ⟨m, hm, rfl, k2, m2⟩ | ⟨k2, m2⟩
    · exact Or.inl ⟨n, m, hn, hm, rfl, rfl, k1, k2, fun u => m_noPair (Or.inl rfl) ⟨_, m1, Or.inl ⟨rfl, m2⟩⟩⟩
    · exact Or.inr ⟨fun k => by rw [k1, e_obxl, k2, e_obxr], fun u => m_noPair (Or.inr rfl) ⟨_, m1, Or.inl ⟨rfl, m2⟩⟩⟩
  · exact Or.inr ⟨fun k => by rw [k1, e_obxr], fun u => m_noPair (Or.inr rfl) ⟨_, m1, Or.inr ⟨rfl, rfl⟩⟩⟩
theorem m_noTwo {x1 x2 : Int32} {b : Int32} (hb : b = nI 0 ∨ b = nI 1) (h1 : ∃ a, (∀ u, fX12_noNode x1 (sq u 1 ω) = some a) ∧ ((a = nI 0 ∧ ∀ u, fX12_noNode x2 (sq u 1 ω) = some b) ∨ (a = nI 1 ∧ b = nI 1))) : fX12_noTwo x1 x2 (sq u 1 ω) = some (b, sq (s2 u 0 0 b) 1 ω) := by
  obtain ⟨a, h1, h2⟩ := h1
  rcases h2 with ⟨rfl, h2⟩ | ⟨rfl, rfl⟩
  · rcases hb with rfl | rfl
    · simp (disch := first | omega | (simp only [pN, pP, pM, pE, pL, pC, pK, sp]; omega)) only [u_fX12_noTwo, u_fX12_noTwo_0, u_fX12_noTwo_27, h1, h2, m_thr0, e_isB0, e_ws0, e_T, e_F, e_bnd, e_obr, e_obd, e_obt, e_addB, e_addA, e_in, e_cl, e_leT, e_leF, e_ltT, e_ltF, e_eqT, e_eqF, e_NOT, e_NOF, nI_add, pk_mul, k_spot, k_chan, m_node, m_pair, m_msg, m_chan, m_pack, e_w, e_wn, e_ws]
    · simp (disch := first | omega | (simp only [pN, pP, pM, pE, pL, pC, pK, sp]; omega)) only [u_fX12_noTwo, u_fX12_noTwo_0, u_fX12_noTwo_22, u_fX12_noTwo_27, h1, h2, m_thr1, e_isB1, e_ws0, e_ss, e_T, e_F, e_bnd, e_obr, e_obd, e_obt, e_addB, e_addA, e_in, e_cl, e_leT, e_leF, e_ltT, e_ltF, e_eqT, e_eqF, e_NOT, e_NOF, nI_add, pk_mul, k_spot, k_chan, m_node, m_pair, m_msg, m_chan, m_pack, e_w, e_wn, e_ws]
  · simp (disch := first | omega | (simp only [pN, pP, pM, pE, pL, pC, pK, sp]; omega)) only [u_fX12_noTwo, u_fX12_noTwo_0, u_fX12_noTwo_22, u_fX12_noTwo_27, h1, m_thr1, e_isB1, e_ws0, e_ss, e_T, e_F, e_bnd, e_obr, e_obd, e_obt, e_addB, e_addA, e_in, e_cl, e_leT, e_leF, e_ltT, e_ltF, e_eqT, e_eqF, e_NOT, e_NOF, nI_add, pk_mul, k_spot, k_chan, m_node, m_pair, m_msg, m_chan, m_pack, e_w, e_wn, e_ws]
theorem ck_two (h : R0 dr tk pl N G M T B Q Dl σ ω) (x1 x2 : Int32) : (∃ n m, n < N ∧ m < N ∧ x1 = nI n ∧ x2 = nI m ∧ fX11_needNode x1 σ = some (.inl (nI 0), σ) ∧ fX11_needNode x2 σ = some (.inl (nI 0), σ) ∧ ∀ u, fX12_noTwo x1 x2 (sq u 1 ω) = some (nI 0, sq (s2 u 0 0 (nI 0)) 1 ω)) ∨
    ((∀ k : Sg → Option (Xr × Sg), obx (fX11_needNode x1 σ) (fun u4 => obx (fX11_needNode x2 u4) k) = some (.inr 0, σ)) ∧ ∀ u, fX12_noTwo x1 x2 (sq u 1 ω) = some (nI 1, sq (s2 u 0 0 (nI 1)) 1 ω)) := by
  rcases ck_node h.1.2.1.1 h.1.2.1.2 h.1.1.1 x1 with ⟨n, hn, rfl, k1, m1⟩ | ⟨k1, m1⟩
  · rcases ck_node h.1.2.1.1 h.1.2.1.2 h.1.1.1 x2 with ⟨m, hm, rfl, k2, m2⟩ | ⟨k2, m2⟩
    · exact Or.inl ⟨n, m, hn, hm, rfl, rfl, k1, k2, fun u => m_noTwo (Or.inl rfl) ⟨_, m1, Or.inl ⟨rfl, m2⟩⟩⟩
    · exact Or.inr ⟨fun k => by rw [k1, e_obxl, k2, e_obxr], fun u => m_noTwo (Or.inr rfl) ⟨_, m1, Or.inl ⟨rfl, m2⟩⟩⟩
  · exact Or.inr ⟨fun k => by rw [k1, e_obxr], fun u => m_noTwo (Or.inr rfl) ⟨_, m1, Or.inr ⟨rfl, rfl⟩⟩⟩
theorem ck_what3 (x : Int32) : (∃ j, j ≤ 3 ∧ x = nI j ∧ (∀ σ, fX11_needWhat x (nI 0) (nI 3) σ = some (.inl (nI 0), σ)) ∧ fX12_in x (nI 0) (nI 3) = nI 1) ∨ ((∀ σ, fX11_needWhat x (nI 0) (nI 3) σ = some (.inr 1, σ)) ∧ fX12_in x (nI 0) (nI 3) = nI 0 ∧ (x < 0 ∨ nI 4 ≤ x)) := by
  rcases ix x (n := 4) (by omega) with h | ⟨j, hj, rfl⟩
  · refine Or.inr ⟨fun σ => ?_, m_inB (by omega) h, h⟩
    rw [u_fX11_needWhat, u_fX11_needWhat_0, u_fX11_needWhat_10]
    by_cases h0 : x < nI 0
    · rw [cnd_pos h0]
    · rw [cnd_neg h0]
      rcases h with h | h
      · exact absurd h h0
      · refine cnd_neg (i_le_lt.mpr ?_)
        rw [Int32.lt_iff_toInt_lt]
        rw [Int32.le_iff_toInt_le] at h
        rw [nI_toInt (by omega)] at h ⊢
        omega
  · refine Or.inl ⟨j, by omega, rfl, fun σ => ?_, m_inG (by omega) (by omega)⟩
    simp (disch := first | omega | (simp only [pN, pP, pM, pE, pL, pC, pK, sp]; omega)) only [u_fX11_needWhat, u_fX11_needWhat_0, e_T, e_F, e_bnd, e_obr, e_obd, e_obt, e_addB, e_addA, e_in, e_cl, e_leT, e_leF, e_ltT, e_ltF, e_eqT, e_eqF, e_NOT, e_NOF, nI_add, pk_mul, k_spot, k_chan, m_node, m_pair, m_msg, m_chan, m_pack, e_w, e_wn, e_ws]
theorem o_has (h : R0 dr tk pl N G M T B Q Dl σ ω) (x1 x2 x3 : Int32) : QR [0, 1] kk2 (fX11_has x1 x2 x3 σ) (fX12_has x1 x2 x3 (sq u 1 ω)) σ u ω := by
  have h6 := h.1.1.1
  have hM20 := h.1.1.2.2.1
  rcases ck_pair h x1 x2 with ⟨n, m, hn, hm, rfl, rfl, k1, k2, m1⟩ | ⟨k1, m1⟩
  · have hsp : sp n m < 120 := by unfold sp; omega
    obtain ⟨⟨k, j1, j2, j3, -⟩, ⟨-, s2', s3⟩, l1, -⟩ := h.2.2.1 n m (by omega) (by omega)
    rcases ck_what3 x3 with ⟨w, hw, rfl, k3, m3⟩ | ⟨k3, m3, hx⟩
    · by_cases hk : k = 0
      · subst hk
        rcases (show w = 0 ∨ w = 1 ∨ w = 2 ∨ w = 3 by omega) with rfl | rfl | rfl | rfl
        · refine QR_val (r := nI 0) ?_ ?_
          · simp (disch := first | omega | (simp only [pN, pP, pM, pE, pL, pC, pK, sp]; omega)) only [u_fX11_has, u_fX11_has_0, k1, k2, k3, e_obxl, j2, e_T, e_F, e_bnd, e_obr, e_obd, e_obt, e_addB, e_addA, e_in, e_cl, e_leT, e_leF, e_ltT, e_ltF, e_eqT, e_eqF, e_NOT, e_NOF, nI_add, pk_mul, k_spot, k_chan, m_node, m_pair, m_msg, m_chan, m_pack, e_w, e_wn, e_ws]
          · simp (disch := first | omega | (simp only [pN, pP, pM, pE, pL, pC, pK, sp]; omega)) only [u_fX12_has, u_fX12_has_0, u_fX12_has_24, u_fX12_has_49, m1, m3, m_thr0, m_ofPair, j3, e_T, e_F, e_bnd, e_obr, e_obd, e_obt, e_addB, e_addA, e_in, e_cl, e_leT, e_leF, e_ltT, e_ltF, e_eqT, e_eqF, e_NOT, e_NOF, nI_add, pk_mul, k_spot, k_chan, m_node, m_pair, m_msg, m_chan, m_pack, e_w, e_wn, e_ws]
        all_goals
          refine QR_val (r := NO) ?_ ?_
          · simp (disch := first | omega | (simp only [pN, pP, pM, pE, pL, pC, pK, sp]; omega)) only [u_fX11_has, u_fX11_has_0, k1, k2, k3, e_obxl, j2, e_T, e_F, e_bnd, e_obr, e_obd, e_obt, e_addB, e_addA, e_in, e_cl, e_leT, e_leF, e_ltT, e_ltF, e_eqT, e_eqF, e_NOT, e_NOF, nI_add, pk_mul, k_spot, k_chan, m_node, m_pair, m_msg, m_chan, m_pack, e_w, e_wn, e_ws]
          · simp (disch := first | omega | (simp only [pN, pP, pM, pE, pL, pC, pK, sp]; omega)) only [u_fX12_has, u_fX12_has_0, u_fX12_has_24, u_fX12_has_49, m1, m3, m_thr0, m_ofPair, j3, e_T, e_F, e_bnd, e_obr, e_obd, e_obt, e_addB, e_addA, e_in, e_cl, e_leT, e_leF, e_ltT, e_ltF, e_eqT, e_eqF, e_NOT, e_NOF, nI_add, pk_mul, k_spot, k_chan, m_node, m_pair, m_msg, m_chan, m_pack, e_w, e_wn, e_ws]
      · rcases (show w = 0 ∨ w = 1 ∨ w = 2 ∨ w = 3 by omega) with rfl | rfl | rfl | rfl
        · refine QR_val (r := nI k) ?_ ?_
          · simp (disch := first | omega | (simp only [pN, pP, pM, pE, pL, pC, pK, sp]; omega)) only [u_fX11_has, u_fX11_has_0, k1, k2, k3, e_obxl, j2, e_T, e_F, e_bnd, e_obr, e_obd, e_obt, e_addB, e_addA, e_in, e_cl, e_leT, e_leF, e_ltT, e_ltF, e_eqT, e_eqF, e_NOT, e_NOF, nI_add, pk_mul, k_spot, k_chan, m_node, m_pair, m_msg, m_chan, m_pack, e_w, e_wn, e_ws]
          · simp (disch := first | omega | (simp only [pN, pP, pM, pE, pL, pC, pK, sp]; omega)) only [u_fX12_has, u_fX12_has_0, u_fX12_has_24, u_fX12_has_49, m1, m3, m_thr0, m_ofPair, j3, e_T, e_F, e_bnd, e_obr, e_obd, e_obt, e_addB, e_addA, e_in, e_cl, e_leT, e_leF, e_ltT, e_ltF, e_eqT, e_eqF, e_NOT, e_NOF, nI_add, pk_mul, k_spot, k_chan, m_node, m_pair, m_msg, m_chan, m_pack, e_w, e_wn, e_ws]
        · refine QR_val (r := num (σ 21 (sp n m))) ?_ ?_
          · simp (disch := first | omega | (simp only [pN, pP, pM, pE, pL, pC, pK, sp]; omega)) only [u_fX11_has, u_fX11_has_0, k1, k2, k3, e_obxl, j2, e_T, e_F, e_bnd, e_obr, e_obd, e_obt, e_addB, e_addA, e_in, e_cl, e_leT, e_leF, e_ltT, e_ltF, e_eqT, e_eqF, e_NOT, e_NOF, nI_add, pk_mul, k_spot, k_chan, m_node, m_pair, m_msg, m_chan, m_pack, e_w, e_wn, e_ws]
          · simp (disch := first | omega | (simp only [pN, pP, pM, pE, pL, pC, pK, sp]; omega)) only [u_fX12_has, u_fX12_has_0, u_fX12_has_24, u_fX12_has_49, m1, m3, m_thr0, m_ofPair, j3, s2', e_T, e_F, e_bnd, e_obr, e_obd, e_obt, e_addB, e_addA, e_in, e_cl, e_leT, e_leF, e_ltT, e_ltF, e_eqT, e_eqF, e_NOT, e_NOF, nI_add, pk_mul, k_spot, k_chan, m_node, m_pair, m_msg, m_chan, m_pack, e_w, e_wn, e_ws]
        · refine QR_val (r := nod (σ 21 (sp n m))) ?_ ?_
          · simp (disch := first | omega | (simp only [pN, pP, pM, pE, pL, pC, pK, sp]; omega)) only [u_fX11_has, u_fX11_has_0, k1, k2, k3, e_obxl, j2, e_T, e_F, e_bnd, e_obr, e_obd, e_obt, e_addB, e_addA, e_in, e_cl, e_leT, e_leF, e_ltT, e_ltF, e_eqT, e_eqF, e_NOT, e_NOF, nI_add, pk_mul, k_spot, k_chan, m_node, m_pair, m_msg, m_chan, m_pack, e_w, e_wn, e_ws]
          · simp (disch := first | omega | (simp only [pN, pP, pM, pE, pL, pC, pK, sp]; omega)) only [u_fX12_has, u_fX12_has_0, u_fX12_has_24, u_fX12_has_49, m1, m3, m_thr0, m_ofPair, j3, s3, e_T, e_F, e_bnd, e_obr, e_obd, e_obt, e_addB, e_addA, e_in, e_cl, e_leT, e_leF, e_ltT, e_ltF, e_eqT, e_eqF, e_NOT, e_NOF, nI_add, pk_mul, k_spot, k_chan, m_node, m_pair, m_msg, m_chan, m_pack, e_w, e_wn, e_ws]
        · refine QR_val (r := σ 22 (sp n m)) ?_ ?_
          · simp (disch := first | omega | (simp only [pN, pP, pM, pE, pL, pC, pK, sp]; omega)) only [u_fX11_has, u_fX11_has_0, k1, k2, k3, e_obxl, j2, e_T, e_F, e_bnd, e_obr, e_obd, e_obt, e_addB, e_addA, e_in, e_cl, e_leT, e_leF, e_ltT, e_ltF, e_eqT, e_eqF, e_NOT, e_NOF, nI_add, pk_mul, k_spot, k_chan, m_node, m_pair, m_msg, m_chan, m_pack, e_w, e_wn, e_ws]
          · simp (disch := first | omega | (simp only [pN, pP, pM, pE, pL, pC, pK, sp]; omega)) only [u_fX12_has, u_fX12_has_0, u_fX12_has_24, u_fX12_has_49, m1, m3, m_thr0, m_ofPair, j3, ← l1, e_T, e_F, e_bnd, e_obr, e_obd, e_obt, e_addB, e_addA, e_in, e_cl, e_leT, e_leF, e_ltT, e_ltF, e_eqT, e_eqF, e_NOT, e_NOF, nI_add, pk_mul, k_spot, k_chan, m_node, m_pair, m_msg, m_chan, m_pack, e_w, e_wn, e_ws]
    · refine QR_thr (r := nI 0) 1 (by decide) ?_ ?_
      · simp (disch := first | omega | (simp only [pN, pP, pM, pE, pL, pC, pK, sp]; omega)) only [u_fX11_has, u_fX11_has_0, k1, k2, k3, e_obxl, e_obxr, e_T, e_F, e_bnd, e_obr, e_obd, e_obt, e_addB, e_addA, e_in, e_cl, e_leT, e_leF, e_ltT, e_ltF, e_eqT, e_eqF, e_NOT, e_NOF, nI_add, pk_mul, k_spot, k_chan, m_node, m_pair, m_msg, m_chan, m_pack, e_w, e_wn, e_ws]
      · simp (disch := first | omega | (simp only [pN, pP, pM, pE, pL, pC, pK, sp]; omega)) only [u_fX12_has, u_fX12_has_0, u_fX12_has_24, m1, m3, m_thr1, e_ss, e_T, e_F, e_bnd, e_obr, e_obd, e_obt, e_addB, e_addA, e_in, e_cl, e_leT, e_leF, e_ltT, e_ltF, e_eqT, e_eqF, e_NOT, e_NOF, nI_add, pk_mul, k_spot, k_chan, m_node, m_pair, m_msg, m_chan, m_pack, e_w, e_wn, e_ws]; rfl
  · refine QR_thr (r := nI 0) 0 (by decide) ?_ ?_
    · rw [u_fX11_has, u_fX11_has_0, k1]
    · simp (disch := first | omega | (simp only [pN, pP, pM, pE, pL, pC, pK, sp]; omega)) only [u_fX12_has, u_fX12_has_0, m1, e_T, e_F, e_bnd, e_obr, e_obd, e_obt, e_addB, e_addA, e_in, e_cl, e_leT, e_leF, e_ltT, e_ltF, e_eqT, e_eqF, e_NOT, e_NOF, nI_add, pk_mul, k_spot, k_chan, m_node, m_pair, m_msg, m_chan, m_pack, e_w, e_wn, e_ws]; rfl
end AS
