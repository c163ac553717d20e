/-! the image, and back: the model's rows are copied place by place -/
theorem sq_s2 (u : Sg) (b k : Nat) (x : Int32) (g : Nat → Int32) : sq (s2 u b k x) b g = sq u b g := by
  funext p
  by_cases h : p = b
  · subst h; rw [e_qs, e_qs]
  · rw [e_qn _ _ h, e_qn _ _ h, e_s2n _ _ _ h]
theorem sq_id (u : Sg) (b : Nat) : sq u b (u b) = u := by
  funext p
  by_cases h : p = b
  · subst h; rw [e_qs]
  · rw [e_qn _ _ h]
theorem cp_lp {α : Type} {L : Nat → Int32 → Sg → α} {a b : Nat} (hab : a ≠ b) (hL : ∀ n k u, k < 32243 → L (n + 1) (nI k) u = L n (nI (k + 1)) (s2 u b k (u a k))) : ∀ (r k f : Nat) (u : Sg), k + r = 32243 → ∃ g, L (f + r) (nI k) u = L f (nI 32243) (sq u b g) ∧ (∀ j, k ≤ j → j < 32243 → g j = u a j) ∧ (∀ j, j < k → g j = u b j) := by
  intro r
  induction r with
  | zero =>
    intro k f u hk
    have hk : k = 32243 := by omega
    subst hk
    exact ⟨u b, by rw [sq_id]; rfl, fun j h1 h2 => by omega, fun j _ => rfl⟩
  | succ r ih =>
    intro k f u hk
    obtain ⟨g, g1, g2, g3⟩ := ih (k + 1) f (s2 u b k (u a k)) (by omega)
    refine ⟨g, ?_, fun j h1 h2 => ?_, fun j h1 => ?_⟩
    · rw [← Nat.add_assoc, hL _ _ _ (by omega), g1, sq_s2]
    · by_cases e : j = k
      · subst e; rw [g3 j (by omega), e_s2, pk_us]
      · rw [g2 j (by omega) h2, e_s2n _ _ _ hab]
    · rw [g3 j (by omega), e_s2, pk_un (by omega)]
theorem cp_all {α : Type} {L : Nat → Int32 → Sg → α} {a b : Nat} (hab : a ≠ b) (hL : ∀ n k u, k < 32243 → L (n + 1) (nI k) u = L n (nI (k + 1)) (s2 u b k (u a k))) (u : Sg) : ∃ f g, L FU (nI 0) u = L (f + 1) (nI 32243) (sq u b g) ∧ (∀ j, j < 32243 → g j = u a j) := by
  obtain ⟨f, hf⟩ : ∃ f, FU = f + 1 + 32243 := ⟨67756, rfl⟩
  rw [hf]
  obtain ⟨g, g1, g2, -⟩ := cp_lp hab hL 32243 0 (f + 1) u (by omega)
  exact ⟨f, g, g1, fun j hj => g2 j (by omega) hj⟩
theorem m_image (u : Sg) : ∃ g, fX12_image u = some (s2 (sq (s2 u 0 0 (nI 0)) 2 g) 0 5 (nI 1)) ∧ ∀ j, j < 32243 → g j = u 1 j := by
  obtain ⟨f, g, h1, h2⟩ := cp_all (L := fX12_image_7) (a := 1) (b := 2) (by omega) (fun n k u hk => by simp (disch := first | omega | (simp only [pN, pP, pM, pE, pL, pC, pK, sp]; omega)) only [u_fX12_image_7, e_T, e_F, e_bnd, e_obr, e_obd, e_obt, e_addB, e_addA, e_in, e_cl, e_leT, e_leF, e_ltT, e_ltF, e_eqT, e_eqF, e_NOT, e_NOF, nI_add, pk_mul, k_spot, k_chan, m_node, m_pair, m_msg, m_chan, m_pack, e_w, e_wn, e_ws]) (s2 u 0 0 (nI 0))
  refine ⟨g, ?_, fun j hj => by rw [h2 j hj, e_s2n _ _ _ (by omega)]⟩
  rw [u_fX12_image, u_fX12_image_0, e_bnd, h1]
  simp (disch := first | omega | (simp only [pN, pP, pM, pE, pL, pC, pK, sp]; omega)) only [u_fX12_image_7, e_T, e_F, e_bnd, e_obr, e_obd, e_obt, e_addB, e_addA, e_in, e_cl, e_leT, e_leF, e_ltT, e_ltF, e_eqT, e_eqF, e_NOT, e_NOF, nI_add, pk_mul, k_spot, k_chan, m_node, m_pair, m_msg, m_chan, m_pack, e_w, e_wn, e_ws]
theorem m_back (u : Sg) (h5 : u 0 5 = nI 1) : ∃ g, fX12_back u = some (nI 1, sq (s2 u 0 0 (nI 0)) 1 g) ∧ ∀ j, j < 32243 → g j = u 2 j := by
  obtain ⟨f, g, h1, h2⟩ := cp_all (L := fX12_back_16) (a := 2) (b := 1) (by omega) (fun n k u hk => by simp (disch := first | omega | (simp only [pN, pP, pM, pE, pL, pC, pK, sp]; omega)) only [u_fX12_back_16, e_T, e_F, e_bnd, e_obr, e_obd, e_obt, e_addB, e_addA, e_in, e_cl, e_leT, e_leF, e_ltT, e_ltF, e_eqT, e_eqF, e_NOT, e_NOF, nI_add, pk_mul, k_spot, k_chan, m_node, m_pair, m_msg, m_chan, m_pack, e_w, e_wn, e_ws]) (s2 u 0 0 (nI 0))
  refine ⟨g, ?_, fun j hj => by rw [h2 j hj, e_s2n _ _ _ (by omega)]⟩
  rw [u_fX12_back, u_fX12_back_0, e_bnd, h1, e_s2, pk_un (by omega), h5]
  simp (disch := first | omega | (simp only [pN, pP, pM, pE, pL, pC, pK, sp]; omega)) only [u_fX12_back_16, e_T, e_F, e_bnd, e_obr, e_obd, e_obt, e_addB, e_addA, e_in, e_cl, e_leT, e_leF, e_ltT, e_ltF, e_eqT, e_eqF, e_NOT, e_NOF, nI_add, pk_mul, k_spot, k_chan, m_node, m_pair, m_msg, m_chan, m_pack, e_w, e_wn, e_ws]
theorem m_keeps (u : Sg) : ∃ g, fX12_keepsAll u = some (sq u 4 g) ∧ ∀ j, j < 32243 → g j = u 1 j := by
  obtain ⟨f, g, h1, h2⟩ := cp_all (L := fX12_keepsAll_2) (a := 1) (b := 4) (by omega) (fun n k u hk => by simp (disch := first | omega | (simp only [pN, pP, pM, pE, pL, pC, pK, sp]; omega)) only [u_fX12_keepsAll_2, e_T, e_F, e_bnd, e_obr, e_obd, e_obt, e_addB, e_addA, e_in, e_cl, e_leT, e_leF, e_ltT, e_ltF, e_eqT, e_eqF, e_NOT, e_NOF, nI_add, pk_mul, k_spot, k_chan, m_node, m_pair, m_msg, m_chan, m_pack, e_w, e_wn, e_ws]) u
  refine ⟨g, ?_, h2⟩
  rw [u_fX12_keepsAll, u_fX12_keepsAll_0, h1]
  simp (disch := first | omega | (simp only [pN, pP, pM, pE, pL, pC, pK, sp]; omega)) only [u_fX12_keepsAll_2, e_T, e_F, e_bnd, e_obr, e_obd, e_obt, e_addB, e_addA, e_in, e_cl, e_leT, e_leF, e_ltT, e_ltF, e_eqT, e_eqF, e_NOT, e_NOF, nI_add, pk_mul, k_spot, k_chan, m_node, m_pair, m_msg, m_chan, m_pack, e_w, e_wn, e_ws]
theorem m_brings (u : Sg) : ∃ g, fX12_bringsBack u = some (sq u 1 g) ∧ ∀ j, j < 32243 → g j = u 4 j := by
  obtain ⟨f, g, h1, h2⟩ := cp_all (L := fX12_bringsBack_2) (a := 4) (b := 1) (by omega) (fun n k u hk => by simp (disch := first | omega | (simp only [pN, pP, pM, pE, pL, pC, pK, sp]; omega)) only [u_fX12_bringsBack_2, e_T, e_F, e_bnd, e_obr, e_obd, e_obt, e_addB, e_addA, e_in, e_cl, e_leT, e_leF, e_ltT, e_ltF, e_eqT, e_eqF, e_NOT, e_NOF, nI_add, pk_mul, k_spot, k_chan, m_node, m_pair, m_msg, m_chan, m_pack, e_w, e_wn, e_ws]) u
  refine ⟨g, ?_, h2⟩
  rw [u_fX12_bringsBack, u_fX12_bringsBack_0, h1]
  simp (disch := first | omega | (simp only [pN, pP, pM, pE, pL, pC, pK, sp]; omega)) only [u_fX12_bringsBack_2, e_T, e_F, e_bnd, e_obr, e_obd, e_obt, e_addB, e_addA, e_in, e_cl, e_leT, e_leF, e_ltT, e_ltF, e_eqT, e_eqF, e_NOT, e_NOF, nI_add, pk_mul, k_spot, k_chan, m_node, m_pair, m_msg, m_chan, m_pack, e_w, e_wn, e_ws]
section W2
variable (σ τ : Sg)
theorem e_mS0 {q : Nat} (h : q < 36) : mS σ τ q = σ q := by unfold mS; rw [if_pos h]
theorem e_mS1 {q : Nat} (h : q < 36) : mS σ τ (36 + q) = τ q := by unfold mS; rw [if_neg (by omega), if_pos (by omega)]; congr 1; omega
theorem e_mS2 {q : Nat} (h : 36 ≤ q) : mS σ τ (q + 36) = σ q := by unfold mS; rw [if_neg (by omega), if_neg (by omega)]; congr 1
theorem e_sbVK0 (u : Sg) {q : Nat} (h : q < 36) : sbVK u q = u (36 + q) := by unfold sbVK; rw [if_pos (by omega)]; congr 1
theorem e_sbVK1 (u : Sg) {q : Nat} (h : q < 36) : sbVK u (q + 36) = u q := by unfold sbVK; rw [if_neg (by omega), if_pos (by omega)]; congr 1; omega
theorem e_ubVK0 (u v : Sg) {q : Nat} (h : q < 36) : ubVK u v q = v (36 + q) := by unfold ubVK; rw [if_neg (by omega), if_pos (by omega)]; congr 1
theorem e_ubVK1 (u v : Sg) {q : Nat} (h : q < 36) : ubVK u v (q + 36) = v q := by unfold ubVK; rw [if_pos (by omega)]; congr 1; omega
theorem e_ubVK2 (u v : Sg) {q : Nat} (h : 72 ≤ q) : ubVK u v q = u q := by unfold ubVK; rw [if_neg (by omega), if_neg (by omega)]
theorem e_sbZN (u : Sg) : sbZN u = u := by
  funext q
  unfold sbZN
  split
  · congr 1; omega
  · split
    · congr 1; omega
    · rfl
theorem e_ubZN0 (u v : Sg) {q : Nat} (h : q < 72) : ubZN u v q = v q := by
  unfold ubZN
  split
  · congr 1; omega
  · rw [if_pos (by omega)]; congr 1; omega
theorem e_ubZN2 (u v : Sg) {q : Nat} (h : 72 ≤ q) : ubZN u v q = u q := by unfold ubZN; rw [if_neg (by omega), if_neg (by omega)]
end W2
section IM
variable {c : Nat} {s : Sta} {μ : Sg}
theorem rNow_pool {c pl : Nat} {σ u : Sg} {ω : Nat → Int32} (h : rNow c pl σ u ω) : pw pl ∧ ∃ U, σ 5 7 = nI (6 * U) ∧ 6 * U ≤ pl := by
  obtain ⟨⟨N, G, M, T, Dl, hT, Q, B, h, -⟩, -⟩ := h
  have := h.2.2.2.2.2.2.2.2.2.1
  refine ⟨rO_pw this, ?_⟩
  obtain ⟨C, F, U, a1, a2, -⟩ := this
  exact ⟨U, a1, a2⟩
theorem rNow_cp {c pl pl' : Nat} {σ σ' u u' : Sg} {ω ω' : Nat → Int32} (h : rNow c pl σ u ω) (hc : cpd σ σ') (hp : pw pl') (hu : ∀ U, σ 5 7 = nI (6 * U) → 6 * U ≤ pl → 6 * U ≤ pl') (hw : ∀ i, i < 32243 → ω' i = ω i) (h14 : u' 0 14 = u 0 14) (h8 : σ' 0 8 = σ 0 8) : rNow c pl' σ' u' ω' := by
  obtain ⟨⟨N, G, M, T, Dl, hT, h⟩, hb⟩ := h
  exact ⟨⟨N, G, M, T, Dl, hT, RR_cp h (fun _ _ => by omega) hc hp hu hw h14⟩, by rw [h8]; exact hb⟩
theorem r_image (hI : InvL c s μ) : okIm InvL c s (fX11_image s.1 (mS s.2.2.2.1 s.2.2.2.2.2) s.2.2.1) (fX12_image μ) := by
  obtain ⟨i1, ⟨L, t1, t2, t3, t4⟩, i3, i4, i5, i6⟩ := hI
  obtain ⟨p1, U, p2, p3⟩ := rNow_pool i1
  have hs : ∀ q, q < 36 → sbVK (mS s.2.2.2.1 s.2.2.2.2.2) (36 + q) = s.2.2.2.1 q := fun q hq => by rw [Nat.add_comm, e_sbVK1 _ hq, e_mS0 _ _ hq]
  obtain ⟨u', d, k1, hc, k3, k4, k5, k6⟩ := k_copyS (l2 := s.1) (pl := s.2.2.1) hs i1.2 i5 p1 ⟨U, p2, p3⟩
  obtain ⟨g, g1, g2⟩ := m_image μ
  have z0 : ∀ q, q < 36 → uS (s2 (ubVK (mS s.2.2.2.1 s.2.2.2.2.2) u') 72 6 (nI 1)) q = s.2.2.2.1 q := fun q hq => by
    unfold uS; rw [if_pos hq, e_s2n _ _ _ (by omega), e_ubVK0 _ _ hq, k5 q hq]
  have z1 : ∀ q, 36 ≤ q → uS (s2 (ubVK (mS s.2.2.2.1 s.2.2.2.2.2) u') 72 6 (nI 1)) q = s2 s.2.2.2.1 36 6 (nI 1) q := fun q hq => by
    unfold uS; rw [if_neg (by omega)]
    by_cases e : q = 36
    · subst e; rw [e_s2, e_s2, e_ubVK2 _ _ (by omega), e_mS2 _ _ (by omega)]
    · rw [e_s2n _ _ _ (by omega), e_s2n _ _ _ e, e_ubVK2 _ _ (by omega), e_mS2 _ _ (by omega)]
  have z2 : ∀ q, q < 36 → nS (s2 (ubVK (mS s.2.2.2.1 s.2.2.2.2.2) u') 72 6 (nI 1)) q = u' q := fun q hq => by
    unfold nS; rw [e_s2n _ _ _ (by omega), e_ubVK1 _ _ hq]
  have e0 : ∀ j, j ≠ 0 → j ≠ 5 → s2 (sq (s2 μ 0 0 (nI 0)) 2 g) 0 5 (nI 1) 0 j = μ 0 j := fun j h0 h5 => by
    rw [e_s2, pk_un h5, e_qn _ _ (by omega), e_s2, pk_un h0]
  have eq : ∀ q, q ≠ 0 → q ≠ 2 → s2 (sq (s2 μ 0 0 (nI 0)) 2 g) 0 5 (nI 1) q = μ q := fun q h0 h2 => by
    rw [e_s2n _ _ _ h0, e_qn _ _ h2, e_s2n _ _ _ h0]
  refine ⟨(.inl 0, s2 (ubVK (mS s.2.2.2.1 s.2.2.2.2.2) u') 72 6 (nI 1)), d, _, ?_, g1, rfl, ?_, ?_, ⟨L, t1, ?_, ?_, fun j hj => ?_⟩, ?_, i4, k3, Or.inr ⟨?_, ?_, ?_⟩⟩
  · simp (disch := first | omega | (simp only [pN, pP, pM, pE, pL, pC, pK, sp]; omega)) only [u_fX11_image, u_fX11_image_0, k1, e_obd, e_bnd, e_addY, Nat.add_zero]; rfl
  · rw [e_s2, pk_un (by omega), e_qn _ _ (by omega), e_s2, pk_us]; rfl
  · rw [eq 1 (by omega) (by omega)]
    exact rNow_up (rNow_u (e0 14 (by omega) (by omega)) (rNow_cg z0 i1)) (by omega)
  · dsimp only
    rw [z1 37 (by omega), e_s2n _ _ _ (by omega)]; exact t2
  · rw [e0 7 (by omega) (by omega)]; exact t3
  · dsimp only
    rw [z1 38 (by omega), e_s2n _ _ _ (by omega), eq 5 (by omega) (by omega)]; exact t4 j hj
  · dsimp only
    rw [z1 36 (by omega), e_s2, pk_un (by omega), e0 11 (by omega) (by omega)]; exact i3
  · dsimp only
    rw [z1 36 (by omega), e_s2, pk_us]
  · rw [e_s2, pk_us]
  · rw [e_s2n _ _ _ (by omega), e_qs]
    refine rNow_cg (fun q hq => z2 q hq) (rNow_up (rNow_cp i1 hc k3 k4 g2 (e0 14 (by omega) (by omega)) k6) (by omega))
theorem r_back (hI : InvL c s μ) : okBk InvL c s (fX11_back s.2.2.1 (mS s.2.2.2.1 s.2.2.2.2.2) s.1) (fX12_back μ) := by
  have h72 : mS s.2.2.2.1 s.2.2.2.2.2 72 = s.2.2.2.1 36 := e_mS2 _ _ (by omega)
  have uS0 : ∀ q, q < 42 → uS (mS s.2.2.2.1 s.2.2.2.2.2) q = s.2.2.2.1 q := fun q hq => by
    unfold uS; split
    · rw [e_mS0 _ _ (by omega)]
    · rw [e_mS2 _ _ (by omega)]
  have nS0 : ∀ q, q < 36 → nS (mS s.2.2.2.1 s.2.2.2.2.2) q = s.2.2.2.2.2 q := fun q hq => by
    unfold nS; rw [Nat.add_comm, e_mS1 _ _ hq]
  obtain ⟨i1, ⟨L, t1, t2, t3, t4⟩, i3, i4, i5, i6⟩ := hI
  rcases i6 with ⟨j1, j2⟩ | ⟨j1, j2, j3⟩
  · have e0 : ∀ j, j ≠ 0 → s2 μ 0 0 (nI 0) 0 j = μ 0 j := fun j hj => by rw [e_s2, pk_un hj]
    refine ⟨(.inl (nI 0), mS s.2.2.2.1 s.2.2.2.2.2), 0, nI 0, s2 μ 0 0 (nI 0), ?_, ?_, rfl, s2_00 _ _, ?_, ⟨L, t1, ?_, ?_, fun j hj => ?_⟩, ?_, i4, i5, Or.inl ⟨?_, ?_⟩⟩
    · rw [u_fX11_back, u_fX11_back_0, h72, j1, e_isB0]
      simp (disch := first | omega | (simp only [pN, pP, pM, pE, pL, pC, pK, sp]; omega)) only [e_T, e_F, e_bnd, e_obr, e_obd, e_obt, e_addB, e_addA, e_in, e_cl, e_leT, e_leF, e_ltT, e_ltF, e_eqT, e_eqF, e_NOT, e_NOF, nI_add, pk_mul, k_spot, k_chan, m_node, m_pair, m_msg, m_chan, m_pack, e_w, e_wn, e_ws]
    · rw [u_fX12_back, u_fX12_back_0, e_bnd, e0 5 (by omega), j2]
      simp (disch := first | omega | (simp only [pN, pP, pM, pE, pL, pC, pK, sp]; omega)) only [e_T, e_F, e_bnd, e_obr, e_obd, e_obt, e_addB, e_addA, e_in, e_cl, e_leT, e_leF, e_ltT, e_ltF, e_eqT, e_eqF, e_NOT, e_NOF, nI_add, pk_mul, k_spot, k_chan, m_node, m_pair, m_msg, m_chan, m_pack, e_w, e_wn, e_ws]
    · rw [e_s2n _ _ _ (by omega)]
      exact rNow_up (rNow_u (e0 14 (by omega)) (rNow_cg (fun q hq => uS0 q (by omega)) i1)) (by omega)
    · dsimp only; rw [uS0 37 (by omega)]; exact t2
    · rw [e0 7 (by omega)]; exact t3
    · dsimp only; rw [uS0 38 (by omega), e_s2n _ _ _ (by omega)]; exact t4 j hj
    · dsimp only; rw [uS0 36 (by omega), e0 11 (by omega)]; exact i3
    · dsimp only; rw [uS0 36 (by omega)]; exact j1
    · rw [e0 5 (by omega)]; exact j2
  · obtain ⟨p1, U, p2, p3⟩ := rNow_pool j3
    have hp := (rNow_pool i1).1
    have hs : ∀ q, q < 36 → mS s.2.2.2.1 s.2.2.2.2.2 (36 + q) = s.2.2.2.2.2 q := fun q hq => e_mS1 _ _ hq
    obtain ⟨u', d, k1, hc, k3, k4, k5, k6⟩ := k_copyS (l2 := s.2.2.1) (pl := s.1) hs j3.2 hp p1 ⟨U, p2, p3⟩
    obtain ⟨g, g1, g2⟩ := m_back μ j2
    have z0 : ∀ q, q < 36 → uS (ubZN (mS s.2.2.2.1 s.2.2.2.2.2) u') q = u' q := fun q hq => by
      unfold uS; rw [if_pos hq, e_ubZN0 _ _ (by omega)]
    have z1 : ∀ q, 36 ≤ q → uS (ubZN (mS s.2.2.2.1 s.2.2.2.2.2) u') q = s.2.2.2.1 q := fun q hq => by
      unfold uS; rw [if_neg (by omega), e_ubZN2 _ _ (by omega), e_mS2 _ _ (by omega)]
    have z2 : ∀ q, q < 36 → nS (ubZN (mS s.2.2.2.1 s.2.2.2.2.2) u') q = s.2.2.2.2.2 q := fun q hq => by
      unfold nS; rw [e_ubZN0 _ _ (by omega), Nat.add_comm, k5 q hq]
    have e0 : ∀ j, j ≠ 0 → sq (s2 μ 0 0 (nI 0)) 1 g 0 j = μ 0 j := fun j h0 => by
      rw [e_wn _ _ (by omega), e_s2, pk_un h0]
    have eq : ∀ q, q ≠ 0 → q ≠ 1 → sq (s2 μ 0 0 (nI 0)) 1 g q = μ q := fun q h0 h2 => by
      rw [e_wn _ _ h2, e_s2n _ _ _ h0]
    have h72' : ubZN (mS s.2.2.2.1 s.2.2.2.2.2) u' 72 = s.2.2.2.1 36 := by rw [e_ubZN2 _ _ (by omega), h72]
    refine ⟨(.inl (nI 1), ubZN (mS s.2.2.2.1 s.2.2.2.2.2) u'), d, nI 1, _, ?_, g1, rfl, ?_, ?_, ⟨L, t1, ?_, ?_, fun j hj => ?_⟩, ?_, i4, i5, Or.inr ⟨?_, ?_, ?_⟩⟩
    · rw [u_fX11_back, u_fX11_back_0, h72, e_sbZN, k1]
      simp (disch := first | omega | (simp only [pN, pP, pM, pE, pL, pC, pK, sp]; omega)) only [e_obd, e_bnd, h72', j1, e_isB1, e_addY, Nat.add_zero, e_T, e_F, e_bnd, e_obr, e_obd, e_obt, e_addB, e_addA, e_in, e_cl, e_leT, e_leF, e_ltT, e_ltF, e_eqT, e_eqF, e_NOT, e_NOF, nI_add, pk_mul, k_spot, k_chan, m_node, m_pair, m_msg, m_chan, m_pack, e_w, e_wn, e_ws]
    · rw [e_wn _ _ (by omega), s2_00]; rfl
    · rw [e_w]
      refine rNow_cg (fun q hq => z0 q hq) (rNow_up (rNow_cp j3 hc k3 k4 g2 (e0 14 (by omega)) k6) (by omega))
    · dsimp only
      rw [z1 37 (by omega)]; exact t2
    · rw [e0 7 (by omega)]; exact t3
    · dsimp only
      rw [z1 38 (by omega), eq 5 (by omega) (by omega)]; exact t4 j hj
    · dsimp only
      rw [z1 36 (by omega), e0 11 (by omega)]; exact i3
    · dsimp only
      rw [z1 36 (by omega)]; exact j1
    · rw [e0 5 (by omega)]; exact j2
    · rw [eq 2 (by omega) (by omega)]
      exact rNow_cg (fun q hq => z2 q hq) (rNow_up (rNow_u (e0 14 (by omega)) j3) (by omega))
end IM
