/-! due -/
section DU
variable {dr : Prop} {tk : Int32} {pl N G M T B : Nat} {Q : Qs} {Dl : Nat → List Nat} {c : Nat} {s : Sta} {μ : Sg}
def dv (k : Nat) (x : Int32) : Int32 := if k ≤ 120 ∧ x = nI 3 then nI k else NO
theorem dv_3 {k : Nat} (h : k ≤ 120) : dv k (nI 3) = nI k := if_pos ⟨h, rfl⟩
theorem dv_n {k : Nat} {x : Int32} (h : x ≠ nI 3) : dv k x = NO := if_neg (fun q => h q.2)
theorem dv_e {x : Int32} : dv 121 x = NO := if_neg (fun q => by omega)
theorem m_due46 {k : Nat} {x : Int32} (u : Sg) (hk : k ≤ 121) (h : k = 121 ∨ x = nI 3) : fX12_due_46 (nI k) u = obr (fX12_endsAhead u) (fun u9 => some (dv k x, u9)) := by
  rw [u_fX12_due_46]
  by_cases e : k = 121
  · subst e; simp (disch := first | omega | (simp only [pN, pP, pM, pE, pL, pC, pK, sp]; omega)) only [dv_e, e_T, e_F, e_bnd, e_obr, e_obd, e_obt, e_addB, e_addA, e_in, e_cl, e_leT, e_leF, e_ltT, e_ltF, e_eqT, e_eqF, e_NOT, e_NOF, nI_add, pk_mul, k_spot, k_chan, m_node, m_pair, m_msg, m_chan, m_pack, e_w, e_wn, e_ws]
  · have h3 := h.resolve_left e
    subst h3
    rw [dv_3 (by omega)]; simp (disch := first | omega | (simp only [pN, pP, pM, pE, pL, pC, pK, sp]; omega)) only [e_T, e_F, e_bnd, e_obr, e_obd, e_obt, e_addB, e_addA, e_in, e_cl, e_leT, e_leF, e_ltT, e_ltF, e_eqT, e_eqF, e_NOT, e_NOF, nI_add, pk_mul, k_spot, k_chan, m_node, m_pair, m_msg, m_chan, m_pack, e_w, e_wn, e_ws]
theorem s_due_idle {n m : Nat} (hn : n < N) (hm : m < M) : ∀ (r k f pl T : Nat) (σ u : Sg) (ω : Nat → Int32) (Dl : Nat → List Nat), k + r = 121 → r < f → T + r ≤ 100000 → RR dr tk (fun _ _ => 0) pl N G M T Dl σ u ω → idl N M σ →
    ∃ u' ω', fX12_due_17 f (nI n) (nI m) (nI k) (sq u 1 ω) = obr (fX12_endsAhead (sq u' 1 ω')) (fun u9 => some (dv k (σ 20 (sp n m)), u9)) ∧ eu u u' := by
  intro r
  induction r with
  | zero =>
    intro k f pl T σ u ω Dl hk hf hT hR hi
    obtain ⟨f, rfl⟩ : ∃ g, f = g + 1 := ⟨f - 1, by omega⟩
    refine ⟨u, ω, ?_, eu_rf u⟩
    rw [u_fX12_due_17, cnd_pos (nI_lt (by omega) (by omega)), m_due46 (x := σ 20 (sp n m)) _ (by omega) (Or.inl (by omega))]
  | succ r ih =>
    intro k f pl T σ u ω Dl hk hf hT hR hi
    obtain ⟨f, rfl⟩ : ∃ g, f = g + 1 := ⟨f - 1, by omega⟩
    obtain ⟨Q, B, h, -, -⟩ := id hR
    have h6 := h.1.1.1
    have hM20 := h.1.1.2.2.1
    obtain ⟨⟨kk, q1, q2, q3, -⟩, -⟩ := h.2.2.1 n m (by omega) (by omega)
    by_cases e3 : kk = 3
    · subst e3
      refine ⟨u, ω, ?_, eu_rf u⟩
      rw [q2, ← m_due46 _ (by omega) (Or.inr rfl)]
      simp (disch := first | omega | (simp only [pN, pP, pM, pE, pL, pC, pK, sp]; omega)) only [u_fX12_due_17, m_ofPair, q3, e_T, e_F, e_bnd, e_obr, e_obd, e_obt, e_addB, e_addA, e_in, e_cl, e_leT, e_leF, e_ltT, e_ltF, e_eqT, e_eqF, e_NOT, e_NOF, nI_add, pk_mul, k_spot, k_chan, m_node, m_pair, m_msg, m_chan, m_pack, e_w, e_wn, e_ws]
    · obtain ⟨pl1, σ1, u1, ω1, Dl1, a1, a2, a3, a4, a5⟩ := s_idle hR (by omega) hi
      obtain ⟨u', ω', c1, c2⟩ := ih (k + 1) f pl1 (T + 1) σ1 u1 ω1 Dl1 (by omega) (by omega) (by omega) a2 a4
      have hne : σ 20 (sp n m) ≠ nI 3 := by rw [q2]; exact fun q => e3 ((nI_eq (by omega) (by omega)).mp q)
      refine ⟨u', ω', ?_, eu_tr a3 c2⟩
      rw [a5.1 20 (by decide), dv_n hne] at c1
      rw [dv_n hne, ← c1]
      simp (disch := first | omega | (simp only [pN, pP, pM, pE, pL, pC, pK, sp]; omega)) only [u_fX12_due_17, m_ofPair, q3, a1, e_T, e_F, e_bnd, e_obr, e_obd, e_obt, e_addB, e_addA, e_in, e_cl, e_leT, e_leF, e_ltT, e_ltF, e_eqT, e_eqF, e_NOT, e_NOF, nI_add, pk_mul, k_spot, k_chan, m_node, m_pair, m_msg, m_chan, m_pack, e_w, e_wn, e_ws]
theorem s_due_lp {n m l0 : Nat} (hn : n < N) (hm : m < M) : ∀ (r k f f' pl T : Nat) (U u : Sg) (ω : Nat → Int32) (Dl : Nat → List Nat), k + r = 121 → r < f → r < f' → T + r ≤ 100000 → RR dr tk (fun _ _ => 0) pl N G M T Dl (sbUN U) u ω →
    ∃ x U' d u' ω', fX11_due_33 l0 f (nI (sp n m)) (nI 1) (nI k) U pl = some (.inl x, U', d) ∧ fX12_due_17 f' (nI n) (nI m) (nI k) (sq u 1 ω) = obr (fX12_endsAhead (sq u' 1 ω')) (fun u9 => some (x, u9)) ∧ pw (pl + d) ∧ eu u u' ∧ (∀ σ, kU σ U → kU σ U') := by
  intro r
  induction r with
  | zero =>
    intro k f f' pl T U u ω Dl hk hf hf' hT hR
    obtain ⟨f, rfl⟩ : ∃ g, f = g + 1 := ⟨f - 1, by omega⟩
    obtain ⟨f', rfl⟩ : ∃ g, f' = g + 1 := ⟨f' - 1, by omega⟩
    refine ⟨NO, U, 0, u, ω, ?_, ?_, RR_pw hR, eu_rf u, fun _ h => h⟩
    · rw [u_fX11_due_33, cnd_pos (nI_lt (by omega) (by omega))]
    · rw [u_fX12_due_17, cnd_pos (nI_lt (by omega) (by omega)), m_due46 (x := nI 0) _ (by omega) (Or.inl (by omega)), dv_n (by decide)]
  | succ r ih =>
    intro k f f' pl T U u ω Dl hk hf hf' hT hR
    obtain ⟨f, rfl⟩ : ∃ g, f = g + 1 := ⟨f - 1, by omega⟩
    obtain ⟨f', rfl⟩ : ∃ g, f' = g + 1 := ⟨f' - 1, by omega⟩
    obtain ⟨Q, B, h, -, -⟩ := id hR
    have h6 := h.1.1.1
    have hM20 := h.1.1.2.2.1
    have hsp : sp n m < 120 := by unfold sp; omega
    obtain ⟨⟨kk, q1, q2, q3, -⟩, -⟩ := h.2.2.1 n m (by omega) (by omega)
    have h56 : ∀ a b : Sg, ubUN a b 56 = b 20 := fun a b => e_ubUN1 a b (q := 20) (by omega)
    have h36 : ∀ a b : Sg, ubUN a b 36 = b 0 := fun a b => e_ubUN1 a b (q := 0) (by omega)
    have hU : U 56 (sp n m) = nI kk := by rw [← q2, e_sbUN _ (by omega)]
    by_cases e3 : kk = 3
    · subst e3
      refine ⟨nI k, U, 0, u, ω, ?_, ?_, RR_pw hR, eu_rf u, fun _ h => h⟩
      · simp (disch := first | omega | (simp only [pN, pP, pM, pE, pL, pC, pK, sp]; omega)) only [u_fX11_due_33, hU, e_T, e_F, e_bnd, e_obr, e_obd, e_obt, e_addB, e_addA, e_in, e_cl, e_leT, e_leF, e_ltT, e_ltF, e_eqT, e_eqF, e_NOT, e_NOF, nI_add, pk_mul, k_spot, k_chan, m_node, m_pair, m_msg, m_chan, m_pack, e_w, e_wn, e_ws]
      · have h46 := m_due46 (x := nI 3) (k := k) (sq u 1 ω) (by omega) (Or.inr rfl)
        rw [dv_3 (by omega)] at h46
        rw [← h46]
        simp (disch := first | omega | (simp only [pN, pP, pM, pE, pL, pC, pK, sp]; omega)) only [u_fX12_due_17, m_ofPair, q3, e_T, e_F, e_bnd, e_obr, e_obd, e_obt, e_addB, e_addA, e_in, e_cl, e_leT, e_leF, e_ltT, e_ltF, e_eqT, e_eqF, e_NOT, e_NOF, nI_add, pk_mul, k_spot, k_chan, m_node, m_pair, m_msg, m_chan, m_pack, e_w, e_wn, e_ws]
    · obtain ⟨b, b1, b2', b3⟩ := k_canStir hR
      obtain ⟨t, σ1, d1, u1, ω1, Dl1, t1, t2, t3, t4, t5, -, t7, t8⟩ := s_tick hR (by omega)
      rw [← m_tick0] at t2
      have t3' := RR_cg (σ' := sbUN (ubUN U σ1)) (fun q hq => by rw [e_sbUN _ hq, e_ubUN1 _ _ hq]) t3
      by_cases hst : b = 0 ∧ σ1 0 8 = nI 0
      · obtain ⟨rfl, h8⟩ := hst
        obtain ⟨u', ω', c1, c2⟩ := s_due_idle hn hm r (k + 1) f' (pl + d1) (T + 1) σ1 u1 ω1 Dl1 (by omega) (by omega) (by omega) t3 (t7 (b3 rfl) h8)
        obtain ⟨f, rfl⟩ : ∃ g, f = g + 1 := ⟨f - 1, by omega⟩
        have fin : fX11_due_33 l0 (f + 1) (nI (sp n m)) (nI 0) (nI (k + 1)) (ubUN U σ1) (pl + d1) = some (.inl (dv (k + 1) (σ1 20 (sp n m))), ubUN U σ1, 0) := by
          by_cases hk : k + 1 = 121
          · rw [hk, dv_e, u_fX11_due_33, cnd_pos (nI_lt (by omega) (by omega))]
          · by_cases e4 : σ1 20 (sp n m) = nI 3
            · rw [e4, dv_3 (by omega)]
              simp (disch := first | omega | (simp only [pN, pP, pM, pE, pL, pC, pK, sp]; omega)) only [u_fX11_due_33, h56, e4, e_T, e_F, e_bnd, e_obr, e_obd, e_obt, e_addB, e_addA, e_in, e_cl, e_leT, e_leF, e_ltT, e_ltF, e_eqT, e_eqF, e_NOT, e_NOF, nI_add, pk_mul, k_spot, k_chan, m_node, m_pair, m_msg, m_chan, m_pack, e_w, e_wn, e_ws]
            · rw [dv_n e4]
              simp (disch := first | omega | (simp only [pN, pP, pM, pE, pL, pC, pK, sp]; omega)) only [u_fX11_due_33, h56, cnd_neg e4, e_T, e_F, e_bnd, e_obr, e_obd, e_obt, e_addB, e_addA, e_in, e_cl, e_leT, e_leF, e_ltT, e_ltF, e_eqT, e_eqF, e_NOT, e_NOF, nI_add, pk_mul, k_spot, k_chan, m_node, m_pair, m_msg, m_chan, m_pack, e_w, e_wn, e_ws]
        refine ⟨dv (k + 1) (σ1 20 (sp n m)), ubUN U σ1, d1, u', ω', ?_, ?_, RR_pw t3, eu_tr t4 c2, fun _ h => kU_N h⟩
        · rw [u_fX11_due_33 l0 (f + 1)]
          simp (disch := first | omega | (simp only [pN, pP, pM, pE, pL, pC, pK, sp]; omega)) only [u_fX11_due_103, hU, b2', t1, h36, h8, fin, e_addY, Nat.add_zero, e_T, e_F, e_bnd, e_obr, e_obd, e_obt, e_addB, e_addA, e_in, e_cl, e_leT, e_leF, e_ltT, e_ltF, e_eqT, e_eqF, e_NOT, e_NOF, nI_add, pk_mul, k_spot, k_chan, m_node, m_pair, m_msg, m_chan, m_pack, e_w, e_wn, e_ws]
        · rw [← c1]
          simp (disch := first | omega | (simp only [pN, pP, pM, pE, pL, pC, pK, sp]; omega)) only [u_fX12_due_17, m_ofPair, q3, t2, e_T, e_F, e_bnd, e_obr, e_obd, e_obt, e_addB, e_addA, e_in, e_cl, e_leT, e_leF, e_ltT, e_ltF, e_eqT, e_eqF, e_NOT, e_NOF, nI_add, pk_mul, k_spot, k_chan, m_node, m_pair, m_msg, m_chan, m_pack, e_w, e_wn, e_ws]
      · obtain ⟨x, U', d, u', ω', c1, c2, c3, c4, c5⟩ := ih (k + 1) f f' (pl + d1) (T + 1) (ubUN U σ1) u1 ω1 Dl1 (by omega) (by omega) (by omega) (by omega) t3'
        refine ⟨x, U', d1 + d, u', ω', ?_, ?_, by rw [← Nat.add_assoc]; exact c3, eu_tr t4 c4, fun σ h => c5 σ (kU_N h)⟩
        · rcases (show b = 0 ∨ b = 1 by omega) with rfl | rfl
          · have h8 : σ1 0 8 = nI 1 := t8.resolve_left (fun q => hst ⟨rfl, q⟩)
            simp (disch := first | omega | (simp only [pN, pP, pM, pE, pL, pC, pK, sp]; omega)) only [u_fX11_due_33, u_fX11_due_103, u_fX11_due_98, hU, b2', t1, h36, h8, c1, e_addY, e_T, e_F, e_bnd, e_obr, e_obd, e_obt, e_addB, e_addA, e_in, e_cl, e_leT, e_leF, e_ltT, e_ltF, e_eqT, e_eqF, e_NOT, e_NOF, nI_add, pk_mul, k_spot, k_chan, m_node, m_pair, m_msg, m_chan, m_pack, e_w, e_wn, e_ws]
          · simp (disch := first | omega | (simp only [pN, pP, pM, pE, pL, pC, pK, sp]; omega)) only [u_fX11_due_33, u_fX11_due_103, u_fX11_due_98, hU, b2', t1, c1, e_addY, e_T, e_F, e_bnd, e_obr, e_obd, e_obt, e_addB, e_addA, e_in, e_cl, e_leT, e_leF, e_ltT, e_ltF, e_eqT, e_eqF, e_NOT, e_NOF, nI_add, pk_mul, k_spot, k_chan, m_node, m_pair, m_msg, m_chan, m_pack, e_w, e_wn, e_ws]
        · rw [← c2]
          simp (disch := first | omega | (simp only [pN, pP, pM, pE, pL, pC, pK, sp]; omega)) only [u_fX12_due_17, m_ofPair, q3, t2, e_T, e_F, e_bnd, e_obr, e_obd, e_obt, e_addB, e_addA, e_in, e_cl, e_leT, e_leF, e_ltT, e_ltF, e_eqT, e_eqF, e_NOT, e_NOF, nI_add, pk_mul, k_spot, k_chan, m_node, m_pair, m_msg, m_chan, m_pack, e_w, e_wn, e_ws]
theorem r_due (hI : InvL c s μ) (hc : c ≤ 512) (x1 x2 : Int32) : okU InvL c s [0] kk2 (fX11_due s.1 x1 x2 (mS s.2.2.2.1 s.2.2.2.2.1) s.2.1) (fX12_due x1 x2 μ) := by
  obtain ⟨⟨N, G, M, T, Dl, hT, hR⟩, hB8⟩ := hI.1
  obtain ⟨Q, B, h, hrI, hd⟩ := id hR
  have h6 := h.1.1.1
  have hM20 := h.1.1.2.2.1
  have key : ∀ (z : Xr × Sg) (d : Nat) (r : Int32) (u' : Sg) (ω' : Nat → Int32), fX11_due s.1 x1 x2 (mS s.2.2.2.1 s.2.2.2.2.1) s.2.1 = some (z.1, z.2, d) → fX12_due x1 x2 (sq μ 1 (μ 1)) = some (r, sq u' 1 ω') → InvL (c + 1) (s.1, s.2.1 + d, s.2.2.1, uS z.2, nS z.2, s.2.2.2.2.2) (sq u' 1 ω') → out z.1 r [0] kk2 (sq u' 1 ω') → okU InvL c s [0] kk2 (fX11_due s.1 x1 x2 (mS s.2.2.2.1 s.2.2.2.2.1) s.2.1) (fX12_due x1 x2 μ) := fun z d r u' ω' y1 y2 y3 y4 => ⟨z, d, r, _, y1, by rw [e_wid] at y2; exact y2, y3, y4⟩
  have h00 : sbUT (mS s.2.2.2.1 s.2.2.2.2.1) 0 0 = nI N := by rw [e_sbUT _ (by omega), e_mS0 _ _ (by omega)]; exact h.1.2.1.1
  have h13 : sbUT (mS s.2.2.2.1 s.2.2.2.2.1) 13 0 = nI M := by rw [e_sbUT _ (by omega), e_mS0 _ _ (by omega)]; exact h.1.2.2.2.1.1
  rcases ck_node h00 h.1.2.1.2 h6 x1 with ⟨n, hn, rfl, k1, m1⟩ | ⟨k1, m1⟩
  · rcases ck_msg h13 h.1.2.2.2.1.2 hM20 x2 with ⟨m, hm, rfl, k2, m2⟩ | ⟨k2, m2⟩
    · obtain ⟨v, d, l1, l2, l3⟩ := s_look hI hR (kU_m s.2.2.2.1 s.2.2.2.2.1)
      obtain ⟨g4, b1, b2'⟩ := m_begin (s2 μ 0 0 (nI 0)) (μ 1)
      have hV := RR_cg (σ' := sbUN (ubU2 (mS s.2.2.2.1 s.2.2.2.2.1) v)) (fun q hq => by rw [e_sbUN _ hq, e_ubU21 _ _ hq]) (l2 (s2 (sq (s2 μ 0 0 (nI 0)) 4 g4) 0 14 (nI 0)) (by rw [e_s2, pk_us]))
      obtain ⟨x, U', d', u', ω', f1, f2, f3, f4, f5⟩ := s_due_lp (l0 := s.1) hn hm 121 0 FU FU (s.2.1 + d) T (ubU2 (mS s.2.2.2.1 s.2.2.2.2.1) v) (s2 (sq (s2 μ 0 0 (nI 0)) 4 g4) 0 14 (nI 0)) (μ 1) Dl (by omega) (by show 121 < 100000; omega) (by show 121 < 100000; omega) (by omega) hV
      obtain ⟨g, e1, e2⟩ := m_end u' ω'
      refine key (.inl x, U') (d + d') x (s2 u' 0 14 (nI 1)) g ?_ ?_ (Inv_look hI (f5 _ (kU_2 (kU_m _ _) l3)) (by rw [← Nat.add_assoc]; exact f3) f4 b2' e2) (out_v rfl ?_)
      · have hs : fX11_spotOf (nI n) (nI m) = nI (sp n m) := k_spot n m
        simp only [u_fX11_due, u_fX11_due_0, k1, k2, e_obyl, e_ubUT, hs, l1, f1, e_addY, e_obd, e_obr, e_bnd]
      · have np := m_noPair (u := μ) (ω := μ 1) (x1 := nI n) (x2 := nI m) (Or.inl rfl) ⟨_, m1, Or.inl ⟨rfl, m2⟩⟩
        simp (disch := first | omega | (simp only [pN, pP, pM, pE, pL, pC, pK, sp]; omega)) only [u_fX12_due, u_fX12_due_0, np, b1, f2, e1, e_T, e_F, e_bnd, e_obr, e_obd, e_obt, e_addB, e_addA, e_in, e_cl, e_leT, e_leF, e_ltT, e_ltF, e_eqT, e_eqF, e_NOT, e_NOF, nI_add, pk_mul, k_spot, k_chan, m_node, m_pair, m_msg, m_chan, m_pack, e_w, e_wn, e_ws]
      · rw [e_s2, pk_un (by omega), f4 0 (by omega), e_s2, pk_un (by omega), e_qn _ _ (by omega), s2_00]
    · refine key (.inr 0, mS s.2.2.2.1 s.2.2.2.2.1) 0 (nI 0) (s2 μ 0 0 (nI 1)) (μ 1) ?_ ?_ (Inv_thrU hI (uk_thr μ _)) (out_x 0 (by decide) rfl (s2_00 _ _))
      · simp (disch := first | omega | (simp only [pN, pP, pM, pE, pL, pC, pK, sp]; omega)) only [u_fX11_due, u_fX11_due_0, k1, k2, e_obyl, e_obyr, e_ubUT, e_T, e_F, e_bnd, e_obr, e_obd, e_obt, e_addB, e_addA, e_in, e_cl, e_leT, e_leF, e_ltT, e_ltF, e_eqT, e_eqF, e_NOT, e_NOF, nI_add, pk_mul, k_spot, k_chan, m_node, m_pair, m_msg, m_chan, m_pack, e_w, e_wn, e_ws]
      · have np := m_noPair (u := μ) (ω := μ 1) (x1 := nI n) (x2 := x2) (Or.inr rfl) ⟨_, m1, Or.inl ⟨rfl, m2⟩⟩
        simp (disch := first | omega | (simp only [pN, pP, pM, pE, pL, pC, pK, sp]; omega)) only [u_fX12_due, u_fX12_due_0, np, e_T, e_F, e_bnd, e_obr, e_obd, e_obt, e_addB, e_addA, e_in, e_cl, e_leT, e_leF, e_ltT, e_ltF, e_eqT, e_eqF, e_NOT, e_NOF, nI_add, pk_mul, k_spot, k_chan, m_node, m_pair, m_msg, m_chan, m_pack, e_w, e_wn, e_ws]
  · refine key (.inr 0, mS s.2.2.2.1 s.2.2.2.2.1) 0 (nI 0) (s2 μ 0 0 (nI 1)) (μ 1) ?_ ?_ (Inv_thrU hI (uk_thr μ _)) (out_x 0 (by decide) rfl (s2_00 _ _))
    · simp (disch := first | omega | (simp only [pN, pP, pM, pE, pL, pC, pK, sp]; omega)) only [u_fX11_due, u_fX11_due_0, k1, e_obyr, e_ubUT, e_T, e_F, e_bnd, e_obr, e_obd, e_obt, e_addB, e_addA, e_in, e_cl, e_leT, e_leF, e_ltT, e_ltF, e_eqT, e_eqF, e_NOT, e_NOF, nI_add, pk_mul, k_spot, k_chan, m_node, m_pair, m_msg, m_chan, m_pack, e_w, e_wn, e_ws]
    · have np := m_noPair (u := μ) (ω := μ 1) (x1 := x1) (x2 := x2) (Or.inr rfl) ⟨_, m1, Or.inr ⟨rfl, rfl⟩⟩
      simp (disch := first | omega | (simp only [pN, pP, pM, pE, pL, pC, pK, sp]; omega)) only [u_fX12_due, u_fX12_due_0, np, e_T, e_F, e_bnd, e_obr, e_obd, e_obt, e_addB, e_addA, e_in, e_cl, e_leT, e_leF, e_ltT, e_ltF, e_eqT, e_eqF, e_NOT, e_NOF, nI_add, pk_mul, k_spot, k_chan, m_node, m_pair, m_msg, m_chan, m_pack, e_w, e_wn, e_ws]
end DU
