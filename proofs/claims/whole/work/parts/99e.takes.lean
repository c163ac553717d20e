/-! takes, after -/
section TK
variable {N G M T B : Nat} {Q : Qs} {Dl : Nat → List Nat} {c : Nat} {s : Sta} {μ : Sg}
theorem r_takes (hI : InvL c s μ) (hc : c ≤ 512) (x1 : Int32) : okU InvL c s [0] kk2 (fX11_takes s.1 x1 (mS s.2.2.2.1 s.2.2.2.2.1) s.2.1) (fX12_takes x1 μ) := by
  obtain ⟨⟨N, G, M, T, Dl, hT, hR⟩, hB8⟩ := hI.1
  obtain ⟨Q, B, h, hrI, hd⟩ := id hR
  have h6 := h.1.1.1
  have key : ∀ (z : Xr × Sg) (d : Nat) (r : Int32) (u' : Sg) (ω' : Nat → Int32), fX11_takes s.1 x1 (mS s.2.2.2.1 s.2.2.2.2.1) s.2.1 = some (z.1, z.2, d) → fX12_takes x1 (sq μ 1 (μ 1)) = some (r, sq u' 1 ω') → InvL (c + 1) (s.1, s.2.1 + d, s.2.2.1, uS z.2, nS z.2, s.2.2.2.2.2) (sq u' 1 ω') → out z.1 r [0] kk2 (sq u' 1 ω') → okU InvL c s [0] kk2 (fX11_takes s.1 x1 (mS s.2.2.2.1 s.2.2.2.2.1) s.2.1) (fX12_takes x1 μ) := fun z d r u' ω' y1 y2 y3 y4 => ⟨z, d, r, _, y1, by rw [e_wid] at y2; exact y2, y3, y4⟩
  have h00 : sbUT (mS s.2.2.2.1 s.2.2.2.2.1) 0 0 = nI N := by rw [e_sbUT _ (by omega), e_mS0 _ _ (by omega)]; exact h.1.2.1.1
  rcases ck_node h00 h.1.2.1.2 h6 x1 with ⟨n, hn, rfl, k1, m1⟩ | ⟨k1, m1⟩
  · obtain ⟨v, d, l1, l2, l3⟩ := s_look hI hR (kU_m s.2.2.2.1 s.2.2.2.2.1)
    obtain ⟨g4, b1, b2'⟩ := m_begin (s2 μ 0 0 (nI 0)) (μ 1)
    have hV := RR_cg (σ' := sbUN (ubU2 (mS s.2.2.2.1 s.2.2.2.2.1) v)) (fun q hq => by rw [e_sbUN _ hq, e_ubU21 _ _ hq]) (l2 (s2 (sq (s2 μ 0 0 (nI 0)) 4 g4) 0 14 (nI 0)) (by rw [e_s2, pk_us]))
    obtain ⟨σ2, ω2, d1, d2, d3⟩ := s_downA (fun q => q) hV (fun _ _ => by omega) hn
    have hV2 := RR_cg (σ' := sbUN (ubUN (ubU2 (mS s.2.2.2.1 s.2.2.2.2.1) v) σ2)) (fun q hq => by rw [e_sbUN _ hq, e_ubUN1 _ _ hq]) d3
    obtain ⟨σ3, d', pl', σm, u', ω', T', Dl', f1, f2, f3, f4, f5, f6⟩ := s_far hV2 (by omega)
    obtain ⟨g, e1, e2⟩ := m_end u' ω'
    have hval : ω' 10 - μ 1 10 = σ3 0 7 := by
      obtain ⟨Q', B', h', -, -⟩ := f4
      rw [← h'.1.2.2.2.2.2.2.2.2.2.1, f6.2 7 (by omega) (by omega)]
      exact Int32.add_sub_cancel _ _
    have h36 : ∀ a b : Sg, ubUN a b 36 = b 0 := fun a b => e_ubUN1 a b (q := 0) (by omega)
    refine key (.inl (σ3 0 7), ubUN (ubUN (ubU2 (mS s.2.2.2.1 s.2.2.2.2.1) v) σ2) σ3) (d + d') (σ3 0 7) (s2 u' 0 14 (nI 1)) g ?_ ?_ (Inv_look hI (kU_N (kU_N (kU_2 (kU_m _ _) l3))) (by rw [← Nat.add_assoc]; exact f2) f5 b2' e2) (out_v rfl ?_)
    · simp only [u_fX11_takes, u_fX11_takes_0, k1, e_obyl, e_ubUT, l1, d1, f1, e_addY, e_obd, e_obr, e_bnd, h36, Nat.add_zero]
    · have e3 := d2 (fun w => fX12_takes_45 (μ 1 10) w)
      simp (disch := first | omega | (simp only [pN, pP, pM, pE, pL, pC, pK, sp]; omega)) only [u_fX12_takes, u_fX12_takes_0, m1, m_thr0, e_ws0, b1, e_T, e_F, e_bnd, e_obr, e_obd, e_obt, e_addB, e_addA, e_in, e_cl, e_leT, e_leF, e_ltT, e_ltF, e_eqT, e_eqF, e_NOT, e_NOF, nI_add, pk_mul, k_spot, k_chan, m_node, m_pair, m_msg, m_chan, m_pack, e_w, e_wn, e_ws]
      refine Eq.trans e3 ?_
      simp (disch := first | omega | (simp only [pN, pP, pM, pE, pL, pC, pK, sp]; omega)) only [u_fX12_takes_45, f3, e1, hval, e_T, e_F, e_bnd, e_obr, e_obd, e_obt, e_addB, e_addA, e_in, e_cl, e_leT, e_leF, e_ltT, e_ltF, e_eqT, e_eqF, e_NOT, e_NOF, nI_add, pk_mul, k_spot, k_chan, m_node, m_pair, m_msg, m_chan, m_pack, e_w, e_wn, e_ws]
    · rw [e_s2, pk_un (by omega), f5 0 (by omega), e_s2, pk_un (by omega), e_qn _ _ (by omega), s2_00]
  · refine key (.inr 0, mS s.2.2.2.1 s.2.2.2.2.1) 0 (nI 0) (s2 μ 0 0 (nI 1)) (μ 1) ?_ ?_ (Inv_thrU hI (uk_thr μ _)) (out_x 0 (by decide) rfl (s2_00 _ _))
    · simp (disch := first | omega | (simp only [pN, pP, pM, pE, pL, pC, pK, sp]; omega)) only [u_fX11_takes, u_fX11_takes_0, k1, e_obyr, e_ubUT, e_T, e_F, e_bnd, e_obr, e_obd, e_obt, e_addB, e_addA, e_in, e_cl, e_leT, e_leF, e_ltT, e_ltF, e_eqT, e_eqF, e_NOT, e_NOF, nI_add, pk_mul, k_spot, k_chan, m_node, m_pair, m_msg, m_chan, m_pack, e_w, e_wn, e_ws]
    · simp (disch := first | omega | (simp only [pN, pP, pM, pE, pL, pC, pK, sp]; omega)) only [u_fX12_takes, u_fX12_takes_0, m1, m_thr1, e_ws0, e_ss, e_T, e_F, e_bnd, e_obr, e_obd, e_obt, e_addB, e_addA, e_in, e_cl, e_leT, e_leF, e_ltT, e_ltF, e_eqT, e_eqF, e_NOT, e_NOF, nI_add, pk_mul, k_spot, k_chan, m_node, m_pair, m_msg, m_chan, m_pack, e_w, e_wn, e_ws]
theorem and_swap (a b c : Int32) : (a &&& b) &&& c = (a &&& c) &&& b := by rw [Int32.and_assoc, Int32.and_comm b c, Int32.and_assoc]
theorem r_after (hI : InvL c s μ) (hc : c ≤ 512) (x1 x2 : Int32) : okU InvL c s [0] kk2 (fX11_after s.1 x1 x2 (mS s.2.2.2.1 s.2.2.2.2.1) s.2.1) (fX12_after x1 x2 μ) := by
  obtain ⟨⟨N, G, M, T, Dl, hT, hR⟩, hB8⟩ := hI.1
  obtain ⟨Q, B, h, hrI, hd⟩ := id hR
  have h6 := h.1.1.1
  have hM20 := h.1.1.2.2.1
  have key : ∀ (z : Xr × Sg) (d : Nat) (r : Int32) (u' : Sg) (ω' : Nat → Int32), fX11_after s.1 x1 x2 (mS s.2.2.2.1 s.2.2.2.2.1) s.2.1 = some (z.1, z.2, d) → fX12_after x1 x2 (sq μ 1 (μ 1)) = some (r, sq u' 1 ω') → InvL (c + 1) (s.1, s.2.1 + d, s.2.2.1, uS z.2, nS z.2, s.2.2.2.2.2) (sq u' 1 ω') → out z.1 r [0] kk2 (sq u' 1 ω') → okU InvL c s [0] kk2 (fX11_after s.1 x1 x2 (mS s.2.2.2.1 s.2.2.2.2.1) s.2.1) (fX12_after x1 x2 μ) := fun z d r u' ω' y1 y2 y3 y4 => ⟨z, d, r, _, y1, by rw [e_wid] at y2; exact y2, y3, y4⟩
  have h00 : sbUT (mS s.2.2.2.1 s.2.2.2.2.1) 0 0 = nI N := by rw [e_sbUT _ (by omega), e_mS0 _ _ (by omega)]; exact h.1.2.1.1
  have h13 : sbUT (mS s.2.2.2.1 s.2.2.2.2.1) 13 0 = nI M := by rw [e_sbUT _ (by omega), e_mS0 _ _ (by omega)]; exact h.1.2.2.2.1.1
  rcases ck_node h00 h.1.2.1.2 h6 x1 with ⟨n, hn, rfl, k1, m1⟩ | ⟨k1, m1⟩
  · rcases ck_msg h13 h.1.2.2.2.1.2 hM20 x2 with ⟨m, hm, rfl, k2, m2⟩ | ⟨k2, m2⟩
    · obtain ⟨v, d, l1, l2, l3⟩ := s_look hI hR (kU_m s.2.2.2.1 s.2.2.2.2.1)
      obtain ⟨g4, b1, b2'⟩ := m_begin (s2 μ 0 0 (nI 0)) (μ 1)
      have hV := RR_cg (σ' := sbUN (ubU2 (mS s.2.2.2.1 s.2.2.2.2.1) v)) (fun q hq => by rw [e_sbUN _ hq, e_ubU21 _ _ hq]) (l2 (s2 (sq (s2 μ 0 0 (nI 0)) 4 g4) 0 14 (nI 0)) (by rw [e_s2, pk_us]))
      obtain ⟨σ2, ω2, d1, d2, d3⟩ := s_downA (fun q => q) hV (fun _ _ => by omega) hn
      have hV2 := RR_cg (σ' := sbUN (ubUN (ubU2 (mS s.2.2.2.1 s.2.2.2.2.1) v) σ2)) (fun q hq => by rw [e_sbUN _ hq, e_ubUN1 _ _ hq]) d3
      obtain ⟨σ3, d', pl', σm, u', ω', T', Dl', f1, f2, f3, f4, f5, f6⟩ := s_far hV2 (by omega)
      obtain ⟨g, e1, e2⟩ := m_end u' ω'
      obtain ⟨Q', B', h', hrI', -⟩ := id f4
      have hW : ∀ q, q < 36 → sbUN (ubUN (ubUN (ubU2 (mS s.2.2.2.1 s.2.2.2.2.1) v) σ2) σ3) q = σ3 q := fun q hq => by rw [e_sbUN _ hq, e_ubUN1 _ _ hq]
      have w00 : sbUN (ubUN (ubUN (ubU2 (mS s.2.2.2.1 s.2.2.2.2.1) v) σ2) σ3) 0 0 = nI N := by rw [hW 0 (by omega), ← f6.2 0 (by omega) (by omega)]; exact h'.1.2.1.1
      have kd := k_dlv (m := m) w00 h6 (by omega)
      have ku := k_upNodes w00 h6
      have sd : sDl (sbUN (ubUN (ubUN (ubU2 (mS s.2.2.2.1 s.2.2.2.2.1) v) σ2) σ3)) m = sDl σm m := by
        funext x; unfold sDl; rw [hW 20 (by omega), f6.1 20 (by decide)]
      have su : upB (sbUN (ubUN (ubUN (ubU2 (mS s.2.2.2.1 s.2.2.2.2.1) v) σ2) σ3)) = upB σm := by
        funext x; unfold upB; rw [hW 2 (by omega), f6.1 2 (by decide)]
      rw [sd] at kd
      rw [su] at ku
      have md := m_dlvBy (u := u') (m := m) h' (by omega)
      have mu := q_upOnes (u := u') h'.1.2.1.2 h'.2.1 h'.1.1.2.2.2 h6
      have mm := (h'.2.2.2.2.1 m (by omega)).1.2.1
      have h51 : ∀ a b : Sg, ubUN a b 51 = b 15 := fun a b => e_ubUN1 a b (q := 15) (by omega)
      have s15 : σ3 15 m = ω' (pM m 1) := by rw [← mm, f6.1 15 (by decide)]
      refine key (.inl ((setOf (sDl σm m) N &&& ω' (pM m 1)) &&& setOf (upB σm) N), ubUN (ubUN (ubU2 (mS s.2.2.2.1 s.2.2.2.2.1) v) σ2) σ3) (d + d') ((setOf (sDl σm m) N &&& setOf (upB σm) N) &&& ω' (pM m 1)) (s2 u' 0 14 (nI 1)) g ?_ ?_ (Inv_look hI (kU_N (kU_N (kU_2 (kU_m _ _) l3))) (by rw [← Nat.add_assoc]; exact f2) f5 b2' e2) (out_v (by rw [and_swap]) ?_)
      · simp (disch := first | omega | (simp only [pN, pP, pM, pE, pL, pC, pK, sp]; omega)) only [u_fX11_after, u_fX11_after_0, k1, k2, e_obyl, e_ubUT, l1, d1, f1, e_addY, h51, kd, ku, s15, Nat.add_zero, e_T, e_F, e_bnd, e_obr, e_obd, e_obt, e_addB, e_addA, e_in, e_cl, e_leT, e_leF, e_ltT, e_ltF, e_eqT, e_eqF, e_NOT, e_NOF, nI_add, pk_mul, k_spot, k_chan, m_node, m_pair, m_msg, m_chan, m_pack, e_w, e_wn, e_ws]
      · have e3 := d2 (fun w => fX12_after_28 (nI m) w)
        have np := m_noPair (u := μ) (ω := μ 1) (x1 := nI n) (x2 := nI m) (Or.inl rfl) ⟨_, m1, Or.inl ⟨rfl, m2⟩⟩
        simp (disch := first | omega | (simp only [pN, pP, pM, pE, pL, pC, pK, sp]; omega)) only [u_fX12_after, u_fX12_after_0, np, b1, e_T, e_F, e_bnd, e_obr, e_obd, e_obt, e_addB, e_addA, e_in, e_cl, e_leT, e_leF, e_ltT, e_ltF, e_eqT, e_eqF, e_NOT, e_NOF, nI_add, pk_mul, k_spot, k_chan, m_node, m_pair, m_msg, m_chan, m_pack, e_w, e_wn, e_ws]
        refine Eq.trans e3 ?_
        simp (disch := first | omega | (simp only [pN, pP, pM, pE, pL, pC, pK, sp]; omega)) only [u_fX12_after_28, f3, md, mu, m_ofMsg, e1, e_T, e_F, e_bnd, e_obr, e_obd, e_obt, e_addB, e_addA, e_in, e_cl, e_leT, e_leF, e_ltT, e_ltF, e_eqT, e_eqF, e_NOT, e_NOF, nI_add, pk_mul, k_spot, k_chan, m_node, m_pair, m_msg, m_chan, m_pack, e_w, e_wn, e_ws]
      · rw [e_s2, pk_un (by omega), f5 0 (by omega), e_s2, pk_un (by omega), e_qn _ _ (by omega), s2_00]
    · refine key (.inr 0, mS s.2.2.2.1 s.2.2.2.2.1) 0 (nI 0) (s2 μ 0 0 (nI 1)) (μ 1) ?_ ?_ (Inv_thrU hI (uk_thr μ _)) (out_x 0 (by decide) rfl (s2_00 _ _))
      · simp (disch := first | omega | (simp only [pN, pP, pM, pE, pL, pC, pK, sp]; omega)) only [u_fX11_after, u_fX11_after_0, k1, k2, e_obyl, e_obyr, e_ubUT, e_T, e_F, e_bnd, e_obr, e_obd, e_obt, e_addB, e_addA, e_in, e_cl, e_leT, e_leF, e_ltT, e_ltF, e_eqT, e_eqF, e_NOT, e_NOF, nI_add, pk_mul, k_spot, k_chan, m_node, m_pair, m_msg, m_chan, m_pack, e_w, e_wn, e_ws]
      · have np := m_noPair (u := μ) (ω := μ 1) (x1 := nI n) (x2 := x2) (Or.inr rfl) ⟨_, m1, Or.inl ⟨rfl, m2⟩⟩
        simp (disch := first | omega | (simp only [pN, pP, pM, pE, pL, pC, pK, sp]; omega)) only [u_fX12_after, u_fX12_after_0, np, e_T, e_F, e_bnd, e_obr, e_obd, e_obt, e_addB, e_addA, e_in, e_cl, e_leT, e_leF, e_ltT, e_ltF, e_eqT, e_eqF, e_NOT, e_NOF, nI_add, pk_mul, k_spot, k_chan, m_node, m_pair, m_msg, m_chan, m_pack, e_w, e_wn, e_ws]
  · refine key (.inr 0, mS s.2.2.2.1 s.2.2.2.2.1) 0 (nI 0) (s2 μ 0 0 (nI 1)) (μ 1) ?_ ?_ (Inv_thrU hI (uk_thr μ _)) (out_x 0 (by decide) rfl (s2_00 _ _))
    · simp (disch := first | omega | (simp only [pN, pP, pM, pE, pL, pC, pK, sp]; omega)) only [u_fX11_after, u_fX11_after_0, k1, e_obyr, e_ubUT, e_T, e_F, e_bnd, e_obr, e_obd, e_obt, e_addB, e_addA, e_in, e_cl, e_leT, e_leF, e_ltT, e_ltF, e_eqT, e_eqF, e_NOT, e_NOF, nI_add, pk_mul, k_spot, k_chan, m_node, m_pair, m_msg, m_chan, m_pack, e_w, e_wn, e_ws]
    · have np := m_noPair (u := μ) (ω := μ 1) (x1 := x1) (x2 := x2) (Or.inr rfl) ⟨_, m1, Or.inr ⟨rfl, rfl⟩⟩
      simp (disch := first | omega | (simp only [pN, pP, pM, pE, pL, pC, pK, sp]; omega)) only [u_fX12_after, u_fX12_after_0, np, e_T, e_F, e_bnd, e_obr, e_obd, e_obt, e_addB, e_addA, e_in, e_cl, e_leT, e_leF, e_ltT, e_ltF, e_eqT, e_eqF, e_NOT, e_NOF, nI_add, pk_mul, k_spot, k_chan, m_node, m_pair, m_msg, m_chan, m_pack, e_w, e_wn, e_ws]
end TK
