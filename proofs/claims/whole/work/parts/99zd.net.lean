/-! the call net -/
section TN
variable {dr : Prop} {tk : Int32} {pl N G M T B : Nat} {Q : Qs} {Dl : Nat → List Nat} {σ u : Sg} {ω : Nat → Int32}
theorem R0_net {x : Nat} (hx : x ≤ 12) (h : R0 dr tk pl N G M T B Q Dl σ ω) (hl : ∀ c, c < 36 → (Q c).length ≤ 110) : R0 dr tk pl N G M T B Q Dl (s2 σ 0 2 (nI x)) (upd ω 2 (nI x)) := by
  obtain ⟨hS, hN, hP, hD, hM, hE, hL, hC, hQ, hO, hB⟩ := h
  have c : fc [0] σ (s2 σ 0 2 (nI x)) := fc_s2 _ _ _ _
  have fw : ∀ i, i ≠ 2 → upd ω 2 (nI x) i = ω i := fun i hi => pk_un hi
  refine ⟨?_, rN_fr hN (fun n _ => by rw [c 2 (by decide), c 3 (by decide), c 4 (by decide)]; exact ⟨rfl, rfl, rfl⟩) (fun n w hn hw => fw _ (by first | omega | exact pN_pN (by omega) (by omega) (by omega) | exact pP_pN (by omega) (by omega) (by omega) | exact (pP_pN (by omega) (by omega) (by omega)).symm | exact pP_pP (by omega) (by omega) (by omega) (by omega) (by omega) | (simp only [pN, pP, pM, pE, pL, pC, pK, sp]; omega))), rP_fr hP (fun i _ => by rw [c 20 (by decide), c 21 (by decide), c 22 (by decide), c 23 (by decide), c 27 (by decide), c 28 (by decide), c 29 (by decide)]; exact ⟨rfl, rfl, rfl, rfl, rfl, rfl, rfl⟩) (fun n m w hn hm hw => fw _ (by first | omega | exact pN_pN (by omega) (by omega) (by omega) | exact pP_pN (by omega) (by omega) (by omega) | exact (pP_pN (by omega) (by omega) (by omega)).symm | exact pP_pP (by omega) (by omega) (by omega) (by omega) (by omega) | (simp only [pN, pP, pM, pE, pL, pC, pK, sp]; omega))), rD_fr hD (fun i _ => by rw [c 20 (by decide), c 24 (by decide), c 23 (by decide)]; exact ⟨rfl, rfl, rfl⟩) (fun n m _ _ => by rw [c 17 (by decide)]) (fun n _ => by rw [c 25 (by decide)]) (fun n w hn hw h4 => fw _ (by first | omega | exact pN_pN (by omega) (by omega) (by omega) | exact pP_pN (by omega) (by omega) (by omega) | exact (pP_pN (by omega) (by omega) (by omega)).symm | exact pP_pP (by omega) (by omega) (by omega) (by omega) (by omega) | (simp only [pN, pP, pM, pE, pL, pC, pK, sp]; omega))), rM_fr hM (fun m _ => by rw [c 14 (by decide), c 15 (by decide), c 16 (by decide), c 17 (by decide), c 18 (by decide)]; exact ⟨rfl, rfl, rfl, rfl, rfl⟩) (fun m w hm hw => fw _ (by first | omega | exact pN_pN (by omega) (by omega) (by omega) | exact pP_pN (by omega) (by omega) (by omega) | exact (pP_pN (by omega) (by omega) (by omega)).symm | exact pP_pP (by omega) (by omega) (by omega) (by omega) (by omega) | (simp only [pN, pP, pM, pE, pL, pC, pK, sp]; omega))), rE_fr hE (by rw [c 30 (by decide)]) (fun k _ => by rw [c 31 (by decide), c 32 (by decide), c 33 (by decide)]; exact ⟨rfl, rfl, rfl⟩) (fw _ (by first | omega | exact pN_pN (by omega) (by omega) (by omega) | exact pP_pN (by omega) (by omega) (by omega) | exact (pP_pN (by omega) (by omega) (by omega)).symm | exact pP_pP (by omega) (by omega) (by omega) (by omega) (by omega) | (simp only [pN, pP, pM, pE, pL, pC, pK, sp]; omega))) (fun k w hk hw => fw _ (by first | omega | exact pN_pN (by omega) (by omega) (by omega) | exact pP_pN (by omega) (by omega) (by omega) | exact (pP_pN (by omega) (by omega) (by omega)).symm | exact pP_pP (by omega) (by omega) (by omega) (by omega) (by omega) | (simp only [pN, pP, pM, pE, pL, pC, pK, sp]; omega))), rL_fr hL (by rw [c 34 (by decide)]; exact ⟨rfl, rfl⟩) (fun i _ => by rw [c 35 (by decide)]) (fw _ (by first | omega | exact pN_pN (by omega) (by omega) (by omega) | exact pP_pN (by omega) (by omega) (by omega) | exact (pP_pN (by omega) (by omega) (by omega)).symm | exact pP_pP (by omega) (by omega) (by omega) (by omega) (by omega) | (simp only [pN, pP, pM, pE, pL, pC, pK, sp]; omega))) (fun k w hk hw => fw _ (by first | omega | exact pN_pN (by omega) (by omega) (by omega) | exact pP_pN (by omega) (by omega) (by omega) | exact (pP_pN (by omega) (by omega) (by omega)).symm | exact pP_pP (by omega) (by omega) (by omega) (by omega) (by omega) | (simp only [pN, pP, pM, pE, pL, pC, pK, sp]; omega))), rC_fr hC (fun x hx => Nat.le_trans (hl x hx) (by omega)) (fun x _ => by rw [c 6 (by decide), c 7 (by decide), c 8 (by decide)]; exact ⟨rfl, rfl, rfl⟩) (fun x w hx hw => fw _ (by first | omega | exact pN_pN (by omega) (by omega) (by omega) | exact pP_pN (by omega) (by omega) (by omega) | exact (pP_pN (by omega) (by omega) (by omega)).symm | exact pP_pP (by omega) (by omega) (by omega) (by omega) (by omega) | (simp only [pN, pP, pM, pE, pL, pC, pK, sp]; omega))), hQ, rO_fr hO (by rw [c 5 (by decide)]; exact ⟨rfl, rfl⟩) (fun x _ => by rw [c 9 (by decide), c 11 (by decide), c 12 (by decide)]; exact ⟨rfl, rfl, rfl⟩) (fun i _ => by rw [c 10 (by decide)]), (by rw [cnt_fr (σ := σ) (fun i _ => by rw [c 20 (by decide)])]; exact hB)⟩
  obtain ⟨a0, a1, a2, a3, a4, a5, a6, a7, a8, a9, a10, a11⟩ := hS
  have e : ∀ j, j ≠ 2 → s2 σ 0 2 (nI x) 0 j = σ 0 j := fun j hj => by simp (disch := first | omega | (simp only [pN, pP, pM, pE, pL, pC, pK, sp]; omega)) only [e_s2, e_s2n, pk_us, pk_un]
  refine ⟨a0, ?_, ?_, ?_, ?_, ?_, ?_, ?_, ?_, ?_, ?_, ?_⟩
  · rw [e 0 (by omega), fw 0 (by omega)]; exact a1
  · rw [e 1 (by omega), fw 1 (by omega)]; exact a2
  · rw [c 13 (by decide), fw 3 (by omega)]; exact a3
  · rw [e 3 (by omega), fw 4 (by omega)]; exact a4
  · exact ⟨x, hx, by rw [e_s2, pk_us], pk_us⟩
  · rw [e 6 (by omega), fw 8 (by omega)]; exact a6
  · rw [e 5 (by omega), fw 6 (by omega)]; exact a7
  · rw [e 4 (by omega), fw 5 (by omega)]; exact a8
  · rw [e 7 (by omega), fw 10 (by omega)]; exact a9
  · intro g hg; rw [c 1 (by decide), fw (11 + g) (by omega)]; exact a10 g hg
  · rw [c 1 (by decide)]; exact a11
end TN
def kkN : Nat → Int32 := fun E => if E = 3 then nI 1 else nI 2
theorem e_obt2 {α : Type} (r : Int32) (u : Sg) (k : Int32 → Sg → Option α) : obt2 (some (r, u)) k = k r u := rfl
theorem e_sbU20 (u : Sg) {q : Nat} (h : q < 36) : sbU2 u q = u (36 + q) := by unfold sbU2; rw [if_pos (by omega)]; congr 1
theorem e_sbU21 (u : Sg) {q : Nat} (h : q < 36) : sbU2 u (36 + q) = u q := by unfold sbU2; rw [if_neg (by omega), if_pos (by omega)]; congr 1; omega
theorem e_sbUR0 (u : Sg) {q : Nat} (h : q < 36) : sbUR u q = u (36 + q) := by unfold sbUR; rw [if_pos (by omega)]; congr 1
theorem e_sbUR37 (u : Sg) : sbUR u 37 = u 73 := rfl
theorem e_sbUR38 (u : Sg) : sbUR u 38 = u 74 := rfl
theorem e_ubUR0 (u v : Sg) {q : Nat} (h : q < 36) : ubUR u v (36 + q) = v q := by unfold ubUR; rw [if_pos (by omega)]; congr 1; omega
theorem e_ubURn (u v : Sg) {q : Nat} (h : q < 36) : ubUR u v q = u q := by unfold ubUR; rw [if_neg (by omega), if_neg (by omega), if_neg (by omega)]
theorem e_ubUR72 (u v : Sg) : ubUR u v 72 = u 72 := rfl
theorem e_ubUR73 (u v : Sg) : ubUR u v 73 = v 37 := rfl
theorem e_ubUR74 (u v : Sg) : ubUR u v 74 = v 38 := rfl
theorem e_sw0 (u : Sg) {q : Nat} (h : q < 36) : swS u q = u (36 + q) := by unfold swS; rw [if_pos h]; congr 1; omega
theorem e_sw1 (u : Sg) {q : Nat} (h : q < 36) : swS u (36 + q) = u q := by unfold swS; rw [if_neg (by omega), if_pos (by omega)]; congr 1; omega
theorem e_sw2 (u : Sg) {q : Nat} (h : 72 ≤ q) : swS u q = u q := by unfold swS; rw [if_neg (by omega), if_neg (by omega)]
theorem e_uS0 (u : Sg) {q : Nat} (h : q < 36) : uS u q = u q := by unfold uS; rw [if_pos h]
theorem e_uS1 (u : Sg) {q : Nat} (h : 36 ≤ q) : uS u q = u (q + 36) := by unfold uS; rw [if_neg (by omega)]
theorem m_net112 (u : Sg) : ∃ g, fX12_net_112 u = some (nI 0, sq u 1 g) ∧ ∀ j, j < 32243 → g j = u 3 j := by
  obtain ⟨f, g, h1, h2⟩ := cp_all (L := fX12_net_114) (a := 3) (b := 1) (by omega) (fun n k u hk => by simp (disch := first | omega | (simp only [pN, pP, pM, pE, pL, pC, pK, sp]; omega)) only [u_fX12_net_114, e_T, e_F, e_bnd, e_obr, e_obd, e_obt, e_addB, e_addA, e_in, e_cl, e_leT, e_leF, e_ltT, e_ltF, e_eqT, e_eqF, e_NOT, e_NOF, nI_add, pk_mul, k_spot, k_chan, m_node, m_pair, m_msg, m_chan, m_pack, e_w, e_wn, e_ws]) u
  refine ⟨g, ?_, h2⟩
  rw [u_fX12_net_112, h1]
  simp (disch := first | omega | (simp only [pN, pP, pM, pE, pL, pC, pK, sp]; omega)) only [u_fX12_net_114, e_T, e_F, e_bnd, e_obr, e_obd, e_obt, e_addB, e_addA, e_in, e_cl, e_leT, e_leF, e_ltT, e_ltF, e_eqT, e_eqF, e_NOT, e_NOF, nI_add, pk_mul, k_spot, k_chan, m_node, m_pair, m_msg, m_chan, m_pack, e_w, e_wn, e_ws]
theorem m_net25 (u : Sg) : ∃ g, fX12_net_25 FU (nI 0) u = obd (fX12_readNet (sq u 3 g)) (fun r7 u8 => cnd (r7 = (nI 0)) (fX12_net_68 r7 (u8 0 10) u8) (fX12_net_68 r7 NO u8)) ∧ ∀ j, j < 32243 → g j = u 1 j := by
  obtain ⟨f, g, h1, h2⟩ := cp_all (L := fX12_net_25) (a := 1) (b := 3) (by omega) (fun n k u hk => by simp (disch := first | omega | (simp only [pN, pP, pM, pE, pL, pC, pK, sp]; omega)) only [u_fX12_net_25, e_T, e_F, e_bnd, e_obr, e_obd, e_obt, e_addB, e_addA, e_in, e_cl, e_leT, e_leF, e_ltT, e_ltF, e_eqT, e_eqF, e_NOT, e_NOF, nI_add, pk_mul, k_spot, k_chan, m_node, m_pair, m_msg, m_chan, m_pack, e_w, e_wn, e_ws]) u
  refine ⟨g, ?_, h2⟩
  rw [h1, u_fX12_net_25, cnd_pos (nI_le (by omega) (by omega))]
theorem m_thrN0 (u : Sg) (c : Int32) : fX12_throwsIf (nI 0) c u = some (nI 0, u) := by
  have := m_thr0 (u := u) (ω := u 1) (c := c)
  rwa [e_wid] at this
theorem m_thrN1 (u : Sg) (c : Int32) : fX12_throwsIf (nI 1) c u = some (nI 1, s2 u 0 0 c) := by
  have := m_thr1 (u := u) (ω := u 1) (c := c)
  have e := e_wid (s2 u 0 0 c)
  rw [e_s2n _ _ _ (by omega)] at e
  rw [e_wid, e] at this
  exact this
section RN
variable {c : Nat} {s : Sta} {μ : Sg}
/-- what a call of net that throws leaves -/
theorem n_thr {d L : Nat} {E : Nat} {v : Int32} {u12 μ' : Sg} (hI : InvL c s μ) (hp : pw (s.2.1 + d)) (hE : E = 3 ∨ E = 4) (h0 : ∀ q, q < 36 → u12 q = s.2.2.2.1 q) (h6 : u12 72 6 = s.2.2.2.1 36 6) (h7 : u12 72 7 = v) (h73 : u12 73 1 = nI 0) (h74 : u12 74 = s.2.2.2.1 38) (m0 : μ' 0 0 = kkN E) (m5 : μ' 0 5 = μ 0 5) (m7 : μ' 0 7 = nI 0) (m11 : μ' 0 11 = v) (m14 : μ' 0 14 = μ 0 14) (q1 : ∀ j, j < 32243 → μ' 1 j = μ 1 j) (q2 : μ' 2 = μ 2) (q5 : μ' 5 = μ 5) :
    InvL (c + 1) (s.1, s.2.1 + d, s.2.2.1, uS u12, nS u12, s.2.2.2.2.2) μ' := by
  obtain ⟨i1, ⟨L, t1, t2, t3, t4⟩, i3, i4, i5, i6⟩ := hI
  have z0 : ∀ q, q < 36 → uS u12 q = s.2.2.2.1 q := fun q hq => by rw [e_uS0 _ hq, h0 q hq]
  have p1 := (rNow_pool i1).1
  refine ⟨?_, ⟨0, by omega, ?_, m7, fun j hj => ?_⟩, ?_, hp, i5, ?_⟩
  · exact rNow_cg z0 (rNow_up (rNow_cp i1 (cpd_rf _) p1 (fun U _ h => h) q1 m14 rfl) (by omega))
  · dsimp only; rw [e_uS1 _ (by omega)]; exact h73
  · dsimp only; rw [e_uS1 _ (by omega), q5]; show u12 74 j = _; rw [h74]; exact t4 j hj
  · dsimp only; rw [e_uS1 _ (by omega), m11]; exact h7
  · dsimp only
    rw [e_uS1 _ (by omega)]
    show (u12 72 6 = _ ∧ _) ∨ (u12 72 6 = _ ∧ _ ∧ _)
    rw [h6, m5, q2]
    rcases i6 with i6 | ⟨j1, j2, j3⟩
    · exact Or.inl i6
    · exact Or.inr ⟨j1, j2, rNow_up (rNow_u m14 j3) (by omega)⟩
theorem r_net (hI : InvL c s μ) : okN InvL c s [3, 4] kkN (fX11_net s.1 (mS s.2.2.2.1 s.2.2.2.2.1) s.2.1) (fX12_net μ) := by
  have hI0 := hI
  obtain ⟨i1, ⟨L, t1, t2, t3, t4⟩, i3, i4, i5, i6⟩ := hI
  obtain ⟨p1, U, p2, p3⟩ := rNow_pool i1
  have hs : ∀ q, q < 36 → sbU2 (mS s.2.2.2.1 s.2.2.2.2.1) (36 + q) = s.2.2.2.1 q := fun q hq => by rw [e_sbU21 _ hq, e_mS0 _ _ hq]
  obtain ⟨u', d, k1, hc, k3, k4, k5, k6⟩ := k_copyS (l2 := s.1) (pl := s.2.1) hs i1.2 i4 p1 ⟨U, p2, p3⟩
  -- the trial, told
  have a0 : ∀ q, q < 36 → ubU2 (mS s.2.2.2.1 s.2.2.2.2.1) u' q = s.2.2.2.1 q := fun q hq => by rw [e_ubU20 _ _ hq, k5 q hq]
  have a1 : ∀ q, q < 36 → ubU2 (mS s.2.2.2.1 s.2.2.2.2.1) u' (36 + q) = u' q := fun q hq => e_ubU21 _ _ hq
  have a2 : ∀ q, 36 ≤ q → ubU2 (mS s.2.2.2.1 s.2.2.2.2.1) u' (q + 36) = s.2.2.2.1 q := fun q hq => by rw [e_ubU22 _ _ (by omega), e_mS2 _ _ hq]
  have K1 : fX11_net s.1 (mS s.2.2.2.1 s.2.2.2.2.1) s.2.1 = addY d (obt2 (fX9_tell (sbUR (ubU2 (mS s.2.2.2.1 s.2.2.2.2.1) u'))) (fun r7 u8 => bnd (ubUR (ubU2 (mS s.2.2.2.1 s.2.2.2.2.1) u') u8) (fun u9 => bnd (s2 u9 72 7 r7) (fun u11 => bnd (s2 u11 73 1 (nI 0)) (fun u12 => cnd ((u12 72 7) = NO) (cnd ((u12 0 2) < (nI 12)) (some (.inl (swS u12 0 2 + (nI 1)), s2 (swS u12) 0 2 (swS u12 0 2 + (nI 1)), 0)) (some (.inr 4, u12, 0))) (some (.inr 3, u12, 0))))))) := by
    rw [u_fX11_net, u_fX11_net_0, k1, e_obd, e_bnd]
  generalize ubU2 (mS s.2.2.2.1 s.2.2.2.2.1) u' = u3 at a0 a1 a2 K1
  obtain ⟨g, M1, g2⟩ := m_net25 (s2 (s2 (s2 (s2 μ 0 0 (nI 0)) 0 9 (μ 0 7)) 0 7 (nI 0)) 0 8 (nI 0))
  have M0 : fX12_net μ = fX12_net_25 FU (nI 0) (s2 (s2 (s2 (s2 μ 0 0 (nI 0)) 0 9 (μ 0 7)) 0 7 (nI 0)) 0 8 (nI 0)) := by
    rw [u_fX12_net, u_fX12_net_0, e_bnd, e_bnd, e_bnd, e_bnd, show s2 μ 0 0 (nI 0) 0 7 = μ 0 7 by rw [e_s2, pk_un (by omega)]]
  rw [M1] at M0
  have b0 : ∀ j, j ≠ 0 → j ≠ 9 → j ≠ 7 → j ≠ 8 → sq (s2 (s2 (s2 (s2 μ 0 0 (nI 0)) 0 9 (μ 0 7)) 0 7 (nI 0)) 0 8 (nI 0)) 3 g 0 j = μ 0 j := fun j h0 h9 h7 h8 => by
    rw [e_qn _ _ (by omega), e_s2, pk_un h8, e_s2, pk_un h7, e_s2, pk_un h9, e_s2, pk_un h0]
  have b00 : sq (s2 (s2 (s2 (s2 μ 0 0 (nI 0)) 0 9 (μ 0 7)) 0 7 (nI 0)) 0 8 (nI 0)) 3 g 0 0 = nI 0 := by
    rw [e_qn _ _ (by omega), e_s2, pk_un (by omega), e_s2, pk_un (by omega), e_s2, pk_un (by omega), e_s2, pk_us]
  have b07 : sq (s2 (s2 (s2 (s2 μ 0 0 (nI 0)) 0 9 (μ 0 7)) 0 7 (nI 0)) 0 8 (nI 0)) 3 g 0 7 = nI 0 := by
    rw [e_qn _ _ (by omega), e_s2, pk_un (by omega), e_s2, pk_us]
  have b08 : sq (s2 (s2 (s2 (s2 μ 0 0 (nI 0)) 0 9 (μ 0 7)) 0 7 (nI 0)) 0 8 (nI 0)) 3 g 0 8 = nI 0 := by
    rw [e_qn _ _ (by omega), e_s2, pk_us]
  have b09 : sq (s2 (s2 (s2 (s2 μ 0 0 (nI 0)) 0 9 (μ 0 7)) 0 7 (nI 0)) 0 8 (nI 0)) 3 g 0 9 = nI L := by
    rw [e_qn _ _ (by omega), e_s2, pk_un (by omega), e_s2, pk_un (by omega), e_s2, pk_us]; exact t3
  have bq : ∀ q, q ≠ 0 → q ≠ 3 → sq (s2 (s2 (s2 (s2 μ 0 0 (nI 0)) 0 9 (μ 0 7)) 0 7 (nI 0)) 0 8 (nI 0)) 3 g q = μ q := fun q h0 h3 => by
    rw [e_qn _ _ h3, e_s2n _ _ _ h0, e_s2n _ _ _ h0, e_s2n _ _ _ h0, e_s2n _ _ _ h0]
  have b3 : ∀ j, j < 32243 → sq (s2 (s2 (s2 (s2 μ 0 0 (nI 0)) 0 9 (μ 0 7)) 0 7 (nI 0)) 0 8 (nI 0)) 3 g 3 j = μ 1 j := fun j hj => by
    rw [e_qs, g2 j hj, e_s2n _ _ _ (by omega), e_s2n _ _ _ (by omega), e_s2n _ _ _ (by omega), e_s2n _ _ _ (by omega)]
  generalize sq (s2 (s2 (s2 (s2 μ 0 0 (nI 0)) 0 9 (μ 0 7)) 0 7 (nI 0)) 0 8 (nI 0)) 3 g = ν at M0 b0 b00 b07 b08 b09 bq b3
  obtain ⟨⟨N, G, M, T, Dl, hT, hRR⟩, hb8⟩ := i1
  obtain ⟨x, hx, x1, x2⟩ : ∃ x, x ≤ 12 ∧ s.2.2.2.1 0 2 = nI x ∧ μ 1 2 = nI x := by
    obtain ⟨Q, B, h, -⟩ := hRR
    exact h.1.2.2.2.2.2.1
  have hR2 := RR_cp (u' := ν) (ω' := ν 1) hRR (fun _ _ => by omega) hc k3 k4 (fun i _ => by rw [bq 1 (by omega) (by omega)]) (b0 14 (by omega) (by omega) (by omega) (by omega))
  have hR3 := RR_cg (σ' := sbUR u3) (fun q hq => by rw [e_sbUR0 _ hq, a1 q hq]) hR2
  have X := t_tell (L := L) (σ := sbUR u3) (μ := ν) t1 (by rw [e_sbUR37]; show u3 (37 + 36) 1 = _; rw [a2 37 (by omega)]; exact t2) b09 b08 (fun j hj => by rw [e_sbUR38]; show u3 (38 + 36) j = _; rw [a2 38 (by omega), bq 5 (by omega) (by omega)]; exact t4 j hj) hR3
  rcases X with ⟨ρ, μ2, N', G', y1, y2, y3, y4⟩ | ⟨ρ, μ2, t, y1, y2, y3, y4, y5, y6, y7⟩
  · -- told
    have c0 : ∀ q, q < 36 → s2 (s2 (ubUR u3 ρ) 72 7 NO) 73 1 (nI 0) q = s.2.2.2.1 q := fun q hq => by rw [e_s2n _ _ _ (by omega), e_s2n _ _ _ (by omega), e_ubURn _ _ hq, a0 q hq]
    have c1 : ∀ q, q < 36 → s2 (s2 (ubUR u3 ρ) 72 7 NO) 73 1 (nI 0) (36 + q) = ρ q := fun q hq => by rw [e_s2n _ _ _ (by omega), e_s2n _ _ _ (by omega), e_ubUR0 _ _ hq]
    have c72 : s2 (s2 (ubUR u3 ρ) 72 7 NO) 73 1 (nI 0) 72 7 = NO := by rw [e_s2n _ _ _ (by omega), e_s2, pk_us]
    have c726 : s2 (s2 (ubUR u3 ρ) 72 7 NO) 73 1 (nI 0) 72 6 = s.2.2.2.1 36 6 := by rw [e_s2n _ _ _ (by omega), e_s2, pk_un (by omega), e_ubUR72]; show u3 (36 + 36) 6 = _; rw [a2 36 (by omega)]
    have c73 : s2 (s2 (ubUR u3 ρ) 72 7 NO) 73 1 (nI 0) 73 1 = nI 0 := by rw [e_s2, pk_us]
    have c74 : s2 (s2 (ubUR u3 ρ) 72 7 NO) 73 1 (nI 0) 74 = s.2.2.2.1 38 := by rw [e_s2n _ _ _ (by omega), e_s2n _ _ _ (by omega), e_ubUR74, y4.1 38 (by omega), e_sbUR38]; show u3 (38 + 36) = _; rw [a2 38 (by omega)]
    have K2 : fX11_net s.1 (mS s.2.2.2.1 s.2.2.2.2.1) s.2.1 = addY d (cnd (nI x < nI 12) (some (.inl (swS (s2 (s2 (ubUR u3 ρ) 72 7 NO) 73 1 (nI 0)) 0 2 + (nI 1)), s2 (swS (s2 (s2 (ubUR u3 ρ) 72 7 NO) 73 1 (nI 0))) 0 2 (swS (s2 (s2 (ubUR u3 ρ) 72 7 NO) 73 1 (nI 0)) 0 2 + (nI 1)), 0)) (some (.inr 4, s2 (s2 (ubUR u3 ρ) 72 7 NO) 73 1 (nI 0), 0))) := by
      rw [K1, y1, e_obt2, e_bnd, e_bnd, e_bnd, c72, e_NOT, c0 0 (by omega), x1]
    generalize s2 (s2 (ubUR u3 ρ) 72 7 NO) 73 1 (nI 0) = u12 at c0 c1 c72 c726 c73 c74 K2
    have f0 : ∀ j, j ≠ 8 → j ≠ 10 → j ≠ 13 → j ≠ 11 → s2 μ2 0 11 NO 0 j = ν 0 j := fun j h8 h10 h13 h11 => by rw [e_s2, pk_un h11, y4.2.2.1 j h8 h10 h13]
    have f11 : s2 μ2 0 11 NO 0 11 = NO := by rw [e_s2, pk_us]
    have fq : ∀ q, q ≠ 0 → s2 μ2 0 11 NO q = μ2 q := fun q hq => e_s2n _ _ _ hq
    have w2 : μ2 1 2 = nI x := by
      obtain ⟨Q, B, h, -⟩ := y3
      obtain ⟨x', -, z1, z2⟩ := h.1.2.2.2.2.2.1
      rw [z2, ← z1, y4.2.2.2.1, e_sbUR0 _ (by omega), a1 0 (by omega), hc.1 0 2 (by decide)]; exact x1
    have M2 : fX12_net μ = cnd (nI x = nI 12) (fX12_net_105 (nI 1) (s2 μ2 0 11 NO)) (fX12_net_105 (nI 0) (s2 μ2 0 11 NO)) := by
      rw [M0, y2, e_obd, e_eqF (by omega) (by omega) (by omega), u_fX12_net_68, e_bnd, e_eqF (by omega) (by omega) (by omega), u_fX12_net_81, m_thrN0, e_obd, e_eqT rfl, fq 1 (by omega), w2]
    generalize s2 μ2 0 11 NO = μ3 at f0 f11 fq M2
    by_cases hx12 : x < 12
    · rw [e_ltT hx12 (by omega)] at K2
      rw [e_eqF (by omega) (by omega) (by omega), u_fX12_net_105, m_thrN0, e_obd, e_eqT rfl, fq 1 (by omega), w2, nI_add, e_bnd, e_s2, pk_us] at M2
      have s02 : swS u12 0 2 = nI x := by
        rw [e_sw0 _ (by omega), c1 0 (by omega), y4.2.2.2.1, e_sbUR0 _ (by omega), a1 0 (by omega), hc.1 0 2 (by decide)]; exact x1
      rw [s02, nI_add, e_addY, Nat.add_zero] at K2
      refine ⟨(.inl (nI (x + 1)), s2 (swS u12) 0 2 (nI (x + 1))), d, nI (x + 1), _, K2, M2, Or.inl ⟨rfl, ?_, ?_⟩⟩
      · rw [e_s2n _ _ _ (by omega), f0 0 (by omega) (by omega) (by omega) (by omega)]; exact b00
      · have v0 : ∀ q, q < 36 → uS (s2 (swS u12) 0 2 (nI (x + 1))) q = s2 ρ 0 2 (nI (x + 1)) q := fun q hq => by
          rw [e_uS0 _ hq]
          by_cases e : q = 0
          · subst e; rw [e_s2, e_s2, e_sw0 _ (by omega), c1 0 (by omega)]
          · rw [e_s2n _ _ _ e, e_s2n _ _ _ e, e_sw0 _ hq, c1 q hq]
        have v1 : ∀ q, 36 ≤ q → uS (s2 (swS u12) 0 2 (nI (x + 1))) q = u12 (q + 36) := fun q hq => by
          rw [e_uS1 _ hq, e_s2n _ _ _ (by omega), e_sw2 _ (by omega)]
        have m1 : s2 μ3 1 2 (nI (x + 1)) 1 = upd (μ2 1) 2 (nI (x + 1)) := by rw [e_s2, fq 1 (by omega)]
        have m0 : ∀ q, q ≠ 1 → s2 μ3 1 2 (nI (x + 1)) q = μ3 q := fun q hq => e_s2n _ _ _ hq
        refine ⟨⟨⟨N', G', M, T, Dl, by omega, ?_⟩, ?_⟩, ⟨0, by omega, ?_, ?_, fun j hj => ?_⟩, ?_, p1, i5, ?_⟩
        · obtain ⟨Q, B, h, hI', hd⟩ := y3
          have hll := RR_len (u := μ2) h hI'
          refine RR_cg (σ := s2 ρ 0 2 (nI (x + 1))) v0 ⟨Q, B, ?_, ?_, ?_⟩
          · rw [m1]; exact R0_net (by omega) h hll
          · exact rI_c hI' (e_s2n _ _ _ (by omega)) (e_s2n _ _ _ (by omega)) (e_s2n _ _ _ (by omega))
          · unfold dF at hd ⊢
            rw [m0 0 (by omega), f0 14 (by omega) (by omega) (by omega) (by omega), ← y4.2.2.1 14 (by omega) (by omega) (by omega)]; exact hd
        · dsimp only
          rw [v0 0 (by omega), e_s2, pk_un (by omega), y4.2.2.2.2, e_sbUR0 _ (by omega), a1 0 (by omega), k6]; exact hb8
        · dsimp only; rw [v1 37 (by omega)]; exact c73
        · rw [m0 0 (by omega), f0 7 (by omega) (by omega) (by omega) (by omega)]; exact b07
        · dsimp only; rw [v1 38 (by omega)]; show u12 74 j = _
          rw [c74, m0 5 (by omega), fq 5 (by omega), y4.2.1 5 (by omega) (by omega), bq 5 (by omega) (by omega)]; exact t4 j hj
        · dsimp only; rw [v1 36 (by omega), m0 0 (by omega), f11]; exact c72
        · dsimp only
          rw [v1 36 (by omega), m0 0 (by omega), m0 2 (by omega)]
          show (u12 72 6 = _ ∧ _) ∨ (u12 72 6 = _ ∧ _ ∧ _)
          rw [c726, f0 5 (by omega) (by omega) (by omega) (by omega), b0 5 (by omega) (by omega) (by omega) (by omega), fq 2 (by omega), y4.2.1 2 (by omega) (by omega), bq 2 (by omega) (by omega)]
          rcases i6 with i6 | ⟨j1, j2, j3⟩
          · exact Or.inl i6
          · exact Or.inr ⟨j1, j2, rNow_up (rNow_u (by rw [m0 0 (by omega), f0 14 (by omega) (by omega) (by omega) (by omega), b0 14 (by omega) (by omega) (by omega) (by omega)]) j3) (by omega)⟩
    · have hx12 : x = 12 := by omega
      subst hx12
      obtain ⟨g', n1, n2⟩ := m_net112 (s2 μ3 0 0 (nI 2))
      rw [e_ltF (by omega) (by omega), e_addY, Nat.add_zero] at K2
      rw [e_eqT rfl, u_fX12_net_105, m_thrN1, e_obd, e_eqF (by omega) (by omega) (by omega), n1] at M2
      have e0 : ∀ j, j ≠ 0 → sq (s2 μ3 0 0 (nI 2)) 1 g' 0 j = μ3 0 j := fun j hj => by rw [e_wn _ _ (by omega), e_s2, pk_un hj]
      have eq : ∀ q, q ≠ 0 → q ≠ 1 → sq (s2 μ3 0 0 (nI 2)) 1 g' q = μ2 q := fun q h0 h1 => by rw [e_wn _ _ h1, e_s2n _ _ _ h0, fq q h0]
      have e00 : sq (s2 μ3 0 0 (nI 2)) 1 g' 0 0 = kkN 4 := by rw [e_wn _ _ (by omega), e_s2, pk_us]; rfl
      refine ⟨(.inr 4, u12), d, nI 0, _, K2, M2, Or.inr ⟨4, rfl, by decide, e00, ?_⟩⟩
      refine n_thr (L := L) (E := 4) (v := NO) hI0 k3 (Or.inr rfl) c0 c726 c72 c73 c74 e00 ?_ ?_ ?_ ?_ (fun j hj => ?_) ?_ ?_
      · rw [e0 5 (by omega), f0 5 (by omega) (by omega) (by omega) (by omega), b0 5 (by omega) (by omega) (by omega) (by omega)]
      · rw [e0 7 (by omega), f0 7 (by omega) (by omega) (by omega) (by omega)]; exact b07
      · rw [e0 11 (by omega)]; exact f11
      · rw [e0 14 (by omega), f0 14 (by omega) (by omega) (by omega) (by omega), b0 14 (by omega) (by omega) (by omega) (by omega)]
      · rw [e_w, n2 j hj, e_s2n _ _ _ (by omega), fq 3 (by omega), y4.2.1 3 (by omega) (by omega)]; exact b3 j hj
      · rw [eq 2 (by omega) (by omega), y4.2.1 2 (by omega) (by omega), bq 2 (by omega) (by omega)]
      · rw [eq 5 (by omega) (by omega), y4.2.1 5 (by omega) (by omega), bq 5 (by omega) (by omega)]
  · -- a fault
    have c0 : ∀ q, q < 36 → s2 (s2 (ubUR u3 ρ) 72 7 (nI t)) 73 1 (nI 0) q = s.2.2.2.1 q := fun q hq => by rw [e_s2n _ _ _ (by omega), e_s2n _ _ _ (by omega), e_ubURn _ _ hq, a0 q hq]
    have c72 : s2 (s2 (ubUR u3 ρ) 72 7 (nI t)) 73 1 (nI 0) 72 7 = nI t := by rw [e_s2n _ _ _ (by omega), e_s2, pk_us]
    have c726 : s2 (s2 (ubUR u3 ρ) 72 7 (nI t)) 73 1 (nI 0) 72 6 = s.2.2.2.1 36 6 := by rw [e_s2n _ _ _ (by omega), e_s2, pk_un (by omega), e_ubUR72]; show u3 (36 + 36) 6 = _; rw [a2 36 (by omega)]
    have c73 : s2 (s2 (ubUR u3 ρ) 72 7 (nI t)) 73 1 (nI 0) 73 1 = nI 0 := by rw [e_s2, pk_us]
    have c74 : s2 (s2 (ubUR u3 ρ) 72 7 (nI t)) 73 1 (nI 0) 74 = s.2.2.2.1 38 := by rw [e_s2n _ _ _ (by omega), e_s2n _ _ _ (by omega), e_ubUR74, y5 38 (by omega), e_sbUR38]; show u3 (38 + 36) = _; rw [a2 38 (by omega)]
    have K2 : fX11_net s.1 (mS s.2.2.2.1 s.2.2.2.2.1) s.2.1 = addY d (some (.inr 3, s2 (s2 (ubUR u3 ρ) 72 7 (nI t)) 73 1 (nI 0), 0)) := by
      rw [K1, y1, e_obt2, e_bnd, e_bnd, e_bnd, c72, e_NOF (by omega)]
    generalize s2 (s2 (ubUR u3 ρ) 72 7 (nI t)) 73 1 (nI 0) = u12 at c0 c72 c726 c73 c74 K2
    obtain ⟨g', n1, n2⟩ := m_net112 (s2 (s2 μ2 0 11 (nI t)) 0 0 (nI 1))
    rw [e_addY, Nat.add_zero] at K2
    have M2 : fX12_net μ = some (nI 0, sq (s2 (s2 μ2 0 11 (nI t)) 0 0 (nI 1)) 1 g') := by
      rw [M0, y2, e_obd, e_eqT rfl, y4, u_fX12_net_68, e_bnd, e_eqT rfl, u_fX12_net_81, m_thrN1, e_obd, e_eqF (by omega) (by omega) (by omega), n1]
    have e0 : ∀ j, j ≠ 0 → j ≠ 11 → j ≠ 8 → j ≠ 10 → j ≠ 13 → sq (s2 (s2 μ2 0 11 (nI t)) 0 0 (nI 1)) 1 g' 0 j = ν 0 j := fun j h0 h11 h8 h10 h13 => by rw [e_wn _ _ (by omega), e_s2, pk_un h0, e_s2, pk_un h11, y7 j h8 h10 h13]
    have eq : ∀ q, q ≠ 0 → q ≠ 1 → sq (s2 (s2 μ2 0 11 (nI t)) 0 0 (nI 1)) 1 g' q = ν q := fun q h0 h1 => by rw [e_wn _ _ h1, e_s2n _ _ _ h0, e_s2n _ _ _ h0, y6 q h0 h1]
    have e00 : sq (s2 (s2 μ2 0 11 (nI t)) 0 0 (nI 1)) 1 g' 0 0 = kkN 3 := by rw [e_wn _ _ (by omega), e_s2, pk_us]; rfl
    refine ⟨(.inr 3, u12), d, nI 0, _, K2, M2, Or.inr ⟨3, rfl, by decide, e00, ?_⟩⟩
    refine n_thr (L := L) (E := 3) (v := nI t) hI0 k3 (Or.inl rfl) c0 c726 c72 c73 c74 e00 ?_ ?_ ?_ ?_ (fun j hj => ?_) ?_ ?_
    · rw [e0 5 (by omega) (by omega) (by omega) (by omega) (by omega), b0 5 (by omega) (by omega) (by omega) (by omega)]
    · rw [e0 7 (by omega) (by omega) (by omega) (by omega) (by omega)]; exact b07
    · rw [e_wn _ _ (by omega), e_s2, pk_un (by omega), e_s2, pk_us]
    · rw [e0 14 (by omega) (by omega) (by omega) (by omega) (by omega), b0 14 (by omega) (by omega) (by omega) (by omega)]
    · rw [e_w, n2 j hj, e_s2n _ _ _ (by omega), e_s2n _ _ _ (by omega), y6 3 (by omega) (by omega)]; exact b3 j hj
    · rw [eq 2 (by omega) (by omega), bq 2 (by omega) (by omega)]
    · rw [eq 5 (by omega) (by omega), bq 5 (by omega) (by omega)]
end RN
