/-! calls that do something to the net -/
theorem Inv_now {c p' : Nat} {s : Sta} {μ u' σ' : Sg} {ω' : Nat → Int32} (hI : InvL c s μ) (hq : ∀ q, 36 ≤ q → σ' q = s.2.2.2.1 q) (hu : uk μ u') (hN : rNow (c + 1) p' σ' u' ω') : InvL (c + 1) (p', s.2.1, s.2.2.1, σ', s.2.2.2.2.1, s.2.2.2.2.2) (sq u' 1 ω') := by
  obtain ⟨i1, ⟨L, t1, t2, t3, t4⟩, i3, i4, i5, i6⟩ := hI
  have e0 : ∀ j, j ≠ 0 → sq u' 1 ω' 0 j = μ 0 j := fun j hj => by rw [e_wn _ _ (by omega)]; exact hu.2 j hj
  have e14 : sq u' 1 ω' 0 14 = u' 0 14 := by rw [e_wn _ _ (by omega)]
  refine ⟨?_, ⟨L, t1, ?_, ?_, fun j hj => ?_⟩, ?_, i4, i5, ?_⟩
  · rw [e_w]; exact rNow_u e14 hN
  · show σ' 37 1 = nI L; rw [hq 37 (by omega)]; exact t2
  · rw [e0 7 (by omega)]; exact t3
  · show σ' 38 j = _; rw [hq 38 (by omega), e_wn _ _ (by omega), hu.1 5 (by decide)]; exact t4 j hj
  · show σ' 36 7 = _; rw [hq 36 (by omega), e0 11 (by omega)]; exact i3
  · show (σ' 36 6 = nI 0 ∧ _) ∨ (σ' 36 6 = nI 1 ∧ _ ∧ _)
    rw [hq 36 (by omega), e0 5 (by omega), e_wn _ _ (by omega), hu.1 2 (by decide)]
    rcases i6 with i6 | ⟨j1, j2, j3⟩
    · exact Or.inl i6
    · exact Or.inr ⟨j1, j2, rNow_up (rNow_u (e0 14 (by omega)) j3) (by omega)⟩
/-- what was thrown leaves all else -/
theorem Inv_thr {c : Nat} {s : Sta} {μ u' : Sg} (hI : InvL c s μ) (hu : uk μ u') : InvL (c + 1) s (sq u' 1 (μ 1)) :=
  Inv_now (p' := s.1) (σ' := s.2.2.2.1) hI (fun _ _ => rfl) hu (rNow_up (rNow_u (hu.2 14 (by omega)) hI.1) (by omega))
theorem uk_eu {u u' : Sg} {x : Int32} (h : eu (s2 u 0 0 x) u') : uk u u' := ⟨fun q hq => by
  rw [h q (fun e => hq (by rw [e]; decide))]; exact e_s2n _ _ _ (fun e => hq (by rw [e]; decide)), fun j hj => by rw [h 0 (by omega), e_s2, pk_un hj]⟩
theorem uk_14 {u u' : Sg} (h : uk u u') : u' 0 14 = u 0 14 := h.2 14 (by omega)
section DO
variable {dr : Prop} {tk : Int32} {pl N G M T B : Nat} {Q : Qs} {Dl : Nat → List Nat} {u σ : Sg} {ω : Nat → Int32} {c : Nat} {s : Sta} {μ : Sg}
theorem out_v {z : Xr} {r : Int32} {codes : List Nat} {k0 : Nat → Int32} {u' : Sg} {ω' : Nat → Int32} (h1 : z = .inl r) (h2 : u' 0 0 = nI 0) : out z r codes k0 (sq u' 1 ω') := Or.inl ⟨h1, by rw [e_wn _ _ (by omega), h2]; rfl⟩
theorem out_x {z : Xr} {r : Int32} {codes : List Nat} {k0 : Nat → Int32} {u' : Sg} {ω' : Nat → Int32} (E : Nat) (hE : E ∈ codes) (h1 : z = .inr E) (h2 : u' 0 0 = k0 E) : out z r codes k0 (sq u' 1 ω') := Or.inr ⟨E, h1, hE, by rw [e_wn _ _ (by omega), h2]⟩
theorem s2_00 (u : Sg) (x : Int32) : s2 u 0 0 x 0 0 = x := by rw [e_s2, pk_us]
theorem r_crash (hI : InvL c s μ) (x1 : Int32) : okTV InvL c s [0, 2] kk2 (fX11_crash x1 s.2.2.2.1) (fX12_crash x1 μ) := by
  obtain ⟨⟨N, G, M, T, Dl, hT, hR⟩, hB8⟩ := hI.1
  obtain ⟨Q, B, h, hrI, hd⟩ := id hR
  have h6 := h.1.1.1
  have key : ∀ (z : Xr × Sg) (u' : Sg) (ω' : Nat → Int32), fX11_crash x1 s.2.2.2.1 = some z → fX12_crash x1 (sq μ 1 (μ 1)) = some (sq u' 1 ω') → InvL (c + 1) (s.1, s.2.1, s.2.2.1, z.2, s.2.2.2.2.1, s.2.2.2.2.2) (sq u' 1 ω') → out z.1 0 [0, 2] kk2 (sq u' 1 ω') → okTV InvL c s [0, 2] kk2 (fX11_crash x1 s.2.2.2.1) (fX12_crash x1 μ) := fun z u' ω' y1 y2 y3 y4 => ⟨z, _, y1, by rw [e_wid] at y2; exact y2, y3, y4⟩
  rcases ck_node h.1.2.1.1 h.1.2.1.2 h6 x1 with ⟨n, hn, rfl, k1, m1⟩ | ⟨k1, m1⟩
  · have hup := k_isUp (σ := s.2.2.2.1) (n := n) (by omega)
    have hup' := q_isUp (u := s2 μ 0 0 (nI 0)) h.2.1 h.1.1.2.2.2 h6 hn
    cases hu : upB s.2.2.2.1 n with
    | true =>
      rw [hu] at hup hup'
      have hu2 : s.2.2.2.1 2 n = NO := by unfold upB at hu; exact of_decide_eq_true hu
      obtain ⟨σ', ωa, ω', a1, a2, a3, a4, a5, -, -⟩ := s_down (u := s2 μ 0 0 (nI 0)) (RR_u (uk_14 (uk_thr μ _)) hR) (fun _ _ => by omega) hn hu2
      refine key (.inl (nI 0), ubTN s.2.2.2.1 σ') (s2 μ 0 0 (nI 0)) ω' ?_ ?_ ?_ (out_v rfl (s2_00 _ _))
      · simp (disch := first | omega | (simp only [pN, pP, pM, pE, pL, pC, pK, sp]; omega)) only [u_fX11_crash, u_fX11_crash_0, k1, e_obxl, e_sbTN, hup, b2_t, a1, e_T, e_F, e_bnd, e_obr, e_obd, e_obt, e_addB, e_addA, e_in, e_cl, e_leT, e_leF, e_ltT, e_ltF, e_eqT, e_eqF, e_NOT, e_NOF, nI_add, pk_mul, k_spot, k_chan, m_node, m_pair, m_msg, m_chan, m_pack, e_w, e_wn, e_ws]
      · simp (disch := first | omega | (simp only [pN, pP, pM, pE, pL, pC, pK, sp]; omega)) only [u_fX12_crash, u_fX12_crash_0, u_fX12_crash_32, m1, m_thr0, e_ws0, hup', b2_t, a2, a3, e_T, e_F, e_bnd, e_obr, e_obd, e_obt, e_addB, e_addA, e_in, e_cl, e_leT, e_leF, e_ltT, e_ltF, e_eqT, e_eqF, e_NOT, e_NOF, nI_add, pk_mul, k_spot, k_chan, m_node, m_pair, m_msg, m_chan, m_pack, e_w, e_wn, e_ws]
      · refine Inv_now (σ' := ubTN s.2.2.2.1 σ') hI (fun q hq => e_ubTN' _ _ hq) (uk_thr μ _) ⟨⟨N, G, M, T, Dl, by omega, RR_cg (fun q hq => e_ubTN _ _ hq) a4⟩, by rw [e_ubTN _ _ (by omega), a5 0 (by decide)]; exact hB8⟩
    | false =>
      rw [hu] at hup hup'
      refine key (.inr 2, s.2.2.2.1) (s2 μ 0 0 (nI 2)) (μ 1) ?_ ?_ (Inv_thr hI (uk_thr μ _)) (out_x 2 (by decide) rfl (s2_00 _ _))
      · simp (disch := first | omega | (simp only [pN, pP, pM, pE, pL, pC, pK, sp]; omega)) only [u_fX11_crash, u_fX11_crash_0, k1, e_obxl, e_sbTN, hup, b2_f, e_T, e_F, e_bnd, e_obr, e_obd, e_obt, e_addB, e_addA, e_in, e_cl, e_leT, e_leF, e_ltT, e_ltF, e_eqT, e_eqF, e_NOT, e_NOF, nI_add, pk_mul, k_spot, k_chan, m_node, m_pair, m_msg, m_chan, m_pack, e_w, e_wn, e_ws]
      · simp (disch := first | omega | (simp only [pN, pP, pM, pE, pL, pC, pK, sp]; omega)) only [u_fX12_crash, u_fX12_crash_0, u_fX12_crash_32, m1, m_thr0, m_thr1, e_ws0, e_ss, hup', b2_f, e_T, e_F, e_bnd, e_obr, e_obd, e_obt, e_addB, e_addA, e_in, e_cl, e_leT, e_leF, e_ltT, e_ltF, e_eqT, e_eqF, e_NOT, e_NOF, nI_add, pk_mul, k_spot, k_chan, m_node, m_pair, m_msg, m_chan, m_pack, e_w, e_wn, e_ws]
  · refine key (.inr 0, s.2.2.2.1) (s2 μ 0 0 (nI 1)) (μ 1) ?_ ?_ (Inv_thr hI (uk_thr μ _)) (out_x 0 (by decide) rfl (s2_00 _ _))
    · simp (disch := first | omega | (simp only [pN, pP, pM, pE, pL, pC, pK, sp]; omega)) only [u_fX11_crash, u_fX11_crash_0, k1, e_obxr, e_T, e_F, e_bnd, e_obr, e_obd, e_obt, e_addB, e_addA, e_in, e_cl, e_leT, e_leF, e_ltT, e_ltF, e_eqT, e_eqF, e_NOT, e_NOF, nI_add, pk_mul, k_spot, k_chan, m_node, m_pair, m_msg, m_chan, m_pack, e_w, e_wn, e_ws]
    · simp (disch := first | omega | (simp only [pN, pP, pM, pE, pL, pC, pK, sp]; omega)) only [u_fX12_crash, u_fX12_crash_0, m1, m_thr1, e_ws0, e_ss, e_T, e_F, e_bnd, e_obr, e_obd, e_obt, e_addB, e_addA, e_in, e_cl, e_leT, e_leF, e_ltT, e_ltF, e_eqT, e_eqF, e_NOT, e_NOF, nI_add, pk_mul, k_spot, k_chan, m_node, m_pair, m_msg, m_chan, m_pack, e_w, e_wn, e_ws]
theorem r_send (hI : InvL c s μ) (x1 x2 : Int32) : okY InvL c s [0, 2] kk2 (fX11_send x1 x2 s.2.2.2.1 s.1) (fX12_send x1 x2 μ) := by
  obtain ⟨⟨N, G, M, T, Dl, hT, hR⟩, hB8⟩ := hI.1
  obtain ⟨Q, B, h, hrI, hd⟩ := id hR
  have h6 := h.1.1.1
  have hG := h.1.1.2.1
  have hM20 := h.1.1.2.2.1
  have key : ∀ (z : Xr × Sg) (d : Nat) (r : Int32) (u' : Sg) (ω' : Nat → Int32), fX11_send x1 x2 s.2.2.2.1 s.1 = some (z.1, z.2, d) → fX12_send x1 x2 (sq μ 1 (μ 1)) = some (r, sq u' 1 ω') → InvL (c + 1) (s.1 + d, s.2.1, s.2.2.1, z.2, s.2.2.2.2.1, s.2.2.2.2.2) (sq u' 1 ω') → out z.1 r [0, 2] kk2 (sq u' 1 ω') → okY InvL c s [0, 2] kk2 (fX11_send x1 x2 s.2.2.2.1 s.1) (fX12_send x1 x2 μ) := fun z d r u' ω' y1 y2 y3 y4 => ⟨z, d, r, _, y1, by rw [e_wid] at y2; exact y2, y3, y4⟩
  rcases ck_node h.1.2.1.1 h.1.2.1.2 h6 x1 with ⟨n, hn, rfl, k1, m1⟩ | ⟨k1, m1⟩
  · rcases ck_group h.1.2.2.1.1 h.1.2.2.1.2 hG x2 with ⟨g, hg, rfl, k2, m2⟩ | ⟨k2, m2⟩
    · have kcs := k_canStart (σ := s.2.2.2.1) (n := n) (by omega) hM20 h.1.2.2.2.1.1
      have hup' := q_isUp (u := s2 μ 0 0 (nI 0)) h.2.1 h.1.1.2.2.2 h6 hn
      have z3 := h.1.2.2.2.1.2
      by_cases hok : upB s.2.2.2.1 n = true ∧ M < 20
      · rw [hok.1, decide_eq_true hok.2] at kcs
        rw [hok.1] at hup'
        have hM := hok.2
        obtain ⟨σ', d, ω', a1, a2, a3, -, a8⟩ := s_send (u := s2 μ 0 0 (nI 0)) (RR_u (uk_14 (uk_thr μ _)) hR) (fun _ _ => by omega) hn hg hok.2
        refine key (.inl (nI M), ubTN s.2.2.2.1 σ') (d + 0) (nI M) (s2 μ 0 0 (nI 0)) ω' ?_ ?_ ?_ (out_v rfl (s2_00 _ _))
        · simp (disch := first | omega | (simp only [pN, pP, pM, pE, pL, pC, pK, sp]; omega)) only [u_fX11_send, u_fX11_send_0, k1, k2, e_obyl, e_sbTN, kcs, Bool.and_self, b2_t, a1, e_addY, e_T, e_F, e_bnd, e_obr, e_obd, e_obt, e_addB, e_addA, e_in, e_cl, e_leT, e_leF, e_ltT, e_ltF, e_eqT, e_eqF, e_NOT, e_NOF, nI_add, pk_mul, k_spot, k_chan, m_node, m_pair, m_msg, m_chan, m_pack, e_w, e_wn, e_ws]
        · simp (disch := first | omega | (simp only [pN, pP, pM, pE, pL, pC, pK, sp]; omega)) only [u_fX12_send, u_fX12_send_0, u_fX12_send_27, u_fX12_send_57, m1, m2, m_thr0, e_ws0, hup', b2_t, m_messages, z3, a2, e_T, e_F, e_bnd, e_obr, e_obd, e_obt, e_addB, e_addA, e_in, e_cl, e_leT, e_leF, e_ltT, e_ltF, e_eqT, e_eqF, e_NOT, e_NOF, nI_add, pk_mul, k_spot, k_chan, m_node, m_pair, m_msg, m_chan, m_pack, e_w, e_wn, e_ws]
        · refine Inv_now (σ' := ubTN s.2.2.2.1 σ') hI (fun q hq => e_ubTN' _ _ hq) (uk_thr μ _) ⟨⟨N, G, M + 1, T, Dl, by omega, RR_cg (fun q hq => e_ubTN _ _ hq) a3⟩, by rw [e_ubTN _ _ (by omega), a8]; exact hB8⟩
      · have hb : (upB s.2.2.2.1 n && decide (M < 20)) = false := by
          cases h1 : upB s.2.2.2.1 n with
          | false => rfl
          | true =>
            have : ¬ M < 20 := fun q => hok ⟨h1, q⟩
            rw [decide_eq_false this]; rfl
        rw [hb] at kcs
        refine key (.inr 2, s.2.2.2.1) 0 (nI 0) (s2 μ 0 0 (nI 2)) (μ 1) ?_ ?_ (Inv_thr hI (uk_thr μ _)) (out_x 2 (by decide) rfl (s2_00 _ _))
        · simp (disch := first | omega | (simp only [pN, pP, pM, pE, pL, pC, pK, sp]; omega)) only [u_fX11_send, u_fX11_send_0, k1, k2, e_obyl, e_sbTN, kcs, b2_f, e_T, e_F, e_bnd, e_obr, e_obd, e_obt, e_addB, e_addA, e_in, e_cl, e_leT, e_leF, e_ltT, e_ltF, e_eqT, e_eqF, e_NOT, e_NOF, nI_add, pk_mul, k_spot, k_chan, m_node, m_pair, m_msg, m_chan, m_pack, e_w, e_wn, e_ws]
        · cases h1 : upB s.2.2.2.1 n with
          | false =>
            rw [h1] at hup'
            simp (disch := first | omega | (simp only [pN, pP, pM, pE, pL, pC, pK, sp]; omega)) only [u_fX12_send, u_fX12_send_0, u_fX12_send_27, u_fX12_send_52, u_fX12_send_57, m1, m2, m_thr0, m_thr1, e_ws0, e_ss, hup', b2_f, e_T, e_F, e_bnd, e_obr, e_obd, e_obt, e_addB, e_addA, e_in, e_cl, e_leT, e_leF, e_ltT, e_ltF, e_eqT, e_eqF, e_NOT, e_NOF, nI_add, pk_mul, k_spot, k_chan, m_node, m_pair, m_msg, m_chan, m_pack, e_w, e_wn, e_ws]
          | true =>
            rw [h1] at hup'
            have hM : ¬ M < 20 := fun q => hok ⟨h1, q⟩
            have hM : M = 20 := by omega
            subst hM
            simp (disch := first | omega | (simp only [pN, pP, pM, pE, pL, pC, pK, sp]; omega)) only [u_fX12_send, u_fX12_send_0, u_fX12_send_27, u_fX12_send_52, u_fX12_send_57, m1, m2, m_thr0, m_thr1, e_ws0, e_ss, hup', b2_t, m_messages, z3, e_T, e_F, e_bnd, e_obr, e_obd, e_obt, e_addB, e_addA, e_in, e_cl, e_leT, e_leF, e_ltT, e_ltF, e_eqT, e_eqF, e_NOT, e_NOF, nI_add, pk_mul, k_spot, k_chan, m_node, m_pair, m_msg, m_chan, m_pack, e_w, e_wn, e_ws]
    · refine key (.inr 0, s.2.2.2.1) 0 (nI 0) (s2 μ 0 0 (nI 1)) (μ 1) ?_ ?_ (Inv_thr hI (uk_thr μ _)) (out_x 0 (by decide) rfl (s2_00 _ _))
      · simp (disch := first | omega | (simp only [pN, pP, pM, pE, pL, pC, pK, sp]; omega)) only [u_fX11_send, u_fX11_send_0, k1, k2, e_obyl, e_obyr, e_T, e_F, e_bnd, e_obr, e_obd, e_obt, e_addB, e_addA, e_in, e_cl, e_leT, e_leF, e_ltT, e_ltF, e_eqT, e_eqF, e_NOT, e_NOF, nI_add, pk_mul, k_spot, k_chan, m_node, m_pair, m_msg, m_chan, m_pack, e_w, e_wn, e_ws]
      · simp (disch := first | omega | (simp only [pN, pP, pM, pE, pL, pC, pK, sp]; omega)) only [u_fX12_send, u_fX12_send_0, u_fX12_send_22, u_fX12_send_27, m1, m2, m_thr1, e_ws0, e_ss, e_T, e_F, e_bnd, e_obr, e_obd, e_obt, e_addB, e_addA, e_in, e_cl, e_leT, e_leF, e_ltT, e_ltF, e_eqT, e_eqF, e_NOT, e_NOF, nI_add, pk_mul, k_spot, k_chan, m_node, m_pair, m_msg, m_chan, m_pack, e_w, e_wn, e_ws]
  · refine key (.inr 0, s.2.2.2.1) 0 (nI 0) (s2 μ 0 0 (nI 1)) (μ 1) ?_ ?_ (Inv_thr hI (uk_thr μ _)) (out_x 0 (by decide) rfl (s2_00 _ _))
    · simp (disch := first | omega | (simp only [pN, pP, pM, pE, pL, pC, pK, sp]; omega)) only [u_fX11_send, u_fX11_send_0, k1, e_obyr, e_T, e_F, e_bnd, e_obr, e_obd, e_obt, e_addB, e_addA, e_in, e_cl, e_leT, e_leF, e_ltT, e_ltF, e_eqT, e_eqF, e_NOT, e_NOF, nI_add, pk_mul, k_spot, k_chan, m_node, m_pair, m_msg, m_chan, m_pack, e_w, e_wn, e_ws]
    · simp (disch := first | omega | (simp only [pN, pP, pM, pE, pL, pC, pK, sp]; omega)) only [u_fX12_send, u_fX12_send_0, u_fX12_send_22, u_fX12_send_27, m1, m_thr1, e_ws0, e_ss, e_T, e_F, e_bnd, e_obr, e_obd, e_obt, e_addB, e_addA, e_in, e_cl, e_leT, e_leF, e_ltT, e_ltF, e_eqT, e_eqF, e_NOT, e_NOF, nI_add, pk_mul, k_spot, k_chan, m_node, m_pair, m_msg, m_chan, m_pack, e_w, e_wn, e_ws]
theorem s_ticks_lp {n : Nat} (hn : n ≤ 60) : ∀ (r k f f' a pl M T : Nat) (σ u : Sg) (ω : Nat → Int32) (Dl : Nat → List Nat), k + r = n → r < f → r < f' → T + r ≤ 100000 → RR True 0 (fun _ _ => 0) pl N G M T Dl σ u ω → (σ 0 8 = nI 0 ∨ σ 0 8 = nI 1) →
    ∃ t σ' d u' ω' M' Dl', fX11_ticks_25 f (nI n) (nI a) (nI k) σ pl = some (.inl (nI t), σ', d) ∧ fX12_ticks_34 f' (nI n) (nI a) (nI k) (sq u 1 ω) = some (nI t, sq u' 1 ω') ∧ RR True 0 (fun _ _ => 0) (pl + d) N G M' (T + r) Dl' σ' u' ω' ∧ eu u u' ∧ (∀ q, 36 ≤ q → σ' q = σ q) ∧ (σ' 0 8 = nI 0 ∨ σ' 0 8 = nI 1) := by
  intro r
  induction r with
  | zero =>
    intro k f f' a pl M T σ u ω Dl hk hf hf' hT hR h8
    obtain ⟨f, rfl⟩ : ∃ g, f = g + 1 := ⟨f - 1, by omega⟩
    obtain ⟨f', rfl⟩ : ∃ g, f' = g + 1 := ⟨f' - 1, by omega⟩
    have hk : k = n := by omega
    subst hk
    refine ⟨a, σ, 0, u, ω, M, Dl, ?_, ?_, hR, eu_rf u, fun _ _ => rfl, h8⟩
    · simp (disch := first | omega | (simp only [pN, pP, pM, pE, pL, pC, pK, sp]; omega)) only [u_fX11_ticks_25, e_T, e_F, e_bnd, e_obr, e_obd, e_obt, e_addB, e_addA, e_in, e_cl, e_leT, e_leF, e_ltT, e_ltF, e_eqT, e_eqF, e_NOT, e_NOF, nI_add, pk_mul, k_spot, k_chan, m_node, m_pair, m_msg, m_chan, m_pack, e_w, e_wn, e_ws]
    · simp (disch := first | omega | (simp only [pN, pP, pM, pE, pL, pC, pK, sp]; omega)) only [u_fX12_ticks_34, e_T, e_F, e_bnd, e_obr, e_obd, e_obt, e_addB, e_addA, e_in, e_cl, e_leT, e_leF, e_ltT, e_ltF, e_eqT, e_eqF, e_NOT, e_NOF, nI_add, pk_mul, k_spot, k_chan, m_node, m_pair, m_msg, m_chan, m_pack, e_w, e_wn, e_ws]
  | succ r ih =>
    intro k f f' a pl M T σ u ω Dl hk hf hf' hT hR h8
    obtain ⟨f, rfl⟩ : ∃ g, f = g + 1 := ⟨f - 1, by omega⟩
    obtain ⟨f', rfl⟩ : ∃ g, f' = g + 1 := ⟨f' - 1, by omega⟩
    obtain ⟨t1, σ1, d1, u1, ω1, M1, Dl1, a1, a2, a3, a4, a5⟩ := s_pass hR (by omega)
    have a3' := RR_cg (σ' := ubTN σ σ1) (fun q hq => e_ubTN _ _ hq) a3
    obtain ⟨t, σ', d, u', ω', M', Dl', b1, b2', b3, b4, b5, b6⟩ := ih (k + 1) f f' (a + t1) (pl + d1) M1 (T + 1) (ubTN σ σ1) u1 ω1 Dl1 (by omega) (by omega) (by omega) (by omega) a3' (by rw [e_ubTN _ _ (by omega)]; exact a5)
    refine ⟨t, σ', d1 + d, u', ω', M', Dl', ?_, ?_, ?_, eu_tr a4 b4, fun q hq => by rw [b5 q hq, e_ubTN' _ _ hq], b6⟩
    · simp (disch := first | omega | (simp only [pN, pP, pM, pE, pL, pC, pK, sp]; omega)) only [u_fX11_ticks_25, e_sbTN, a1, b1, e_addY, e_T, e_F, e_bnd, e_obr, e_obd, e_obt, e_addB, e_addA, e_in, e_cl, e_leT, e_leF, e_ltT, e_ltF, e_eqT, e_eqF, e_NOT, e_NOF, nI_add, pk_mul, k_spot, k_chan, m_node, m_pair, m_msg, m_chan, m_pack, e_w, e_wn, e_ws]
    · simp (disch := first | omega | (simp only [pN, pP, pM, pE, pL, pC, pK, sp]; omega)) only [u_fX12_ticks_34, a2, b2', e_T, e_F, e_bnd, e_obr, e_obd, e_obt, e_addB, e_addA, e_in, e_cl, e_leT, e_leF, e_ltT, e_ltF, e_eqT, e_eqF, e_NOT, e_NOF, nI_add, pk_mul, k_spot, k_chan, m_node, m_pair, m_msg, m_chan, m_pack, e_w, e_wn, e_ws]
    · rw [← Nat.add_assoc, show T + (r + 1) = T + 1 + r from by omega]; exact b3
theorem r_ticks (hI : InvL c s μ) (hc : c ≤ 512) (x1 : Int32) : okY InvL c s [3] kkL (fX11_ticks x1 s.2.2.2.1 s.1) (fX12_ticks x1 μ) := by
  obtain ⟨⟨N, G, M, T, Dl, hT, hR⟩, hB8⟩ := hI.1
  have key : ∀ (z : Xr × Sg) (d : Nat) (r : Int32) (u' : Sg) (ω' : Nat → Int32), fX11_ticks x1 s.2.2.2.1 s.1 = some (z.1, z.2, d) → fX12_ticks x1 (sq μ 1 (μ 1)) = some (r, sq u' 1 ω') → InvL (c + 1) (s.1 + d, s.2.1, s.2.2.1, z.2, s.2.2.2.2.1, s.2.2.2.2.2) (sq u' 1 ω') → out z.1 r [3] kkL (sq u' 1 ω') → okY InvL c s [3] kkL (fX11_ticks x1 s.2.2.2.1 s.1) (fX12_ticks x1 μ) := fun z d r u' ω' y1 y2 y3 y4 => ⟨z, d, r, _, y1, by rw [e_wid] at y2; exact y2, y3, y4⟩
  have bad : x1 < nI 1 ∨ nI 60 < x1 → okY InvL c s [3] kkL (fX11_ticks x1 s.2.2.2.1 s.1) (fX12_ticks x1 μ) := by
    intro hx
    have mi : fX12_in x1 (nI 1) (nI 60) = nI 0 := by
      rw [u_fX12_in, u_fX12_in_0]
      by_cases h1 : x1 < nI 1
      · rw [cnd_pos h1]
      · rw [cnd_neg h1]; exact cnd_pos (hx.resolve_left h1)
    refine key (.inr 3, s.2.2.2.1) 0 (nI 0) (s2 μ 0 0 (nI 1)) (μ 1) ?_ ?_ (Inv_thr hI (uk_thr μ _)) (out_x 3 (by decide) rfl (s2_00 _ _))
    · rw [u_fX11_ticks, u_fX11_ticks_0, u_fX11_ticks_11]
      by_cases h1 : x1 < nI 1
      · rw [cnd_pos h1]
      · rw [cnd_neg h1]; exact cnd_neg (i_le_lt.mpr (hx.resolve_left h1))
    · simp (disch := first | omega | (simp only [pN, pP, pM, pE, pL, pC, pK, sp]; omega)) only [u_fX12_ticks, u_fX12_ticks_0, u_fX12_ticks_21, mi, m_thr1, e_ws0, e_ss, e_T, e_F, e_bnd, e_obr, e_obd, e_obt, e_addB, e_addA, e_in, e_cl, e_leT, e_leF, e_ltT, e_ltF, e_eqT, e_eqF, e_NOT, e_NOF, nI_add, pk_mul, k_spot, k_chan, m_node, m_pair, m_msg, m_chan, m_pack, e_w, e_wn, e_ws]
  rcases ix x1 (n := 61) (by omega) with hx | ⟨n, hn, rfl⟩
  · refine bad ?_
    rcases hx with hx | hx
    · left
      rw [Int32.lt_iff_toInt_lt] at hx ⊢
      rw [nI_toInt (by omega)]
      have : (0 : Int32).toInt = 0 := rfl
      omega
    · right
      rw [Int32.lt_iff_toInt_lt]
      rw [Int32.le_iff_toInt_le] at hx
      rw [nI_toInt (by omega)] at hx ⊢
      omega
  · by_cases hn0 : n = 0
    · subst hn0; exact bad (Or.inl (nI_lt (by omega) (by omega)))
    · have mi : fX12_in (nI n) (nI 1) (nI 60) = nI 1 := by
        simp (disch := first | omega | (simp only [pN, pP, pM, pE, pL, pC, pK, sp]; omega)) only [u_fX12_in, u_fX12_in_0, e_T, e_F, e_bnd, e_obr, e_obd, e_obt, e_addB, e_addA, e_in, e_cl, e_leT, e_leF, e_ltT, e_ltF, e_eqT, e_eqF, e_NOT, e_NOF, nI_add, pk_mul, k_spot, k_chan, m_node, m_pair, m_msg, m_chan, m_pack, e_w, e_wn, e_ws]
      obtain ⟨t, σ', d, u', ω', M', Dl', a1, a2, a3, a4, a5, a6⟩ := s_ticks_lp (N := N) (G := G) (show n ≤ 60 by omega) n 0 FU FU 0 s.1 M T s.2.2.2.1 (s2 μ 0 0 (nI 0)) (μ 1) Dl (by omega) (by show n < 100000; omega) (by show n < 100000; omega) (by omega) (RR_u (uk_14 (uk_thr μ _)) hR) hB8
      refine key (.inl (nI t), σ') d (nI t) u' ω' ?_ ?_ (Inv_now hI a5 (uk_eu a4) ⟨⟨N, G, M', T + n, Dl', by omega, a3⟩, a6⟩) (out_v rfl (by rw [a4 0 (by omega)]; exact s2_00 _ _))
      · simp (disch := first | omega | (simp only [pN, pP, pM, pE, pL, pC, pK, sp]; omega)) only [u_fX11_ticks, u_fX11_ticks_0, a1, e_T, e_F, e_bnd, e_obr, e_obd, e_obt, e_addB, e_addA, e_in, e_cl, e_leT, e_leF, e_ltT, e_ltF, e_eqT, e_eqF, e_NOT, e_NOF, nI_add, pk_mul, k_spot, k_chan, m_node, m_pair, m_msg, m_chan, m_pack, e_w, e_wn, e_ws]
      · simp (disch := first | omega | (simp only [pN, pP, pM, pE, pL, pC, pK, sp]; omega)) only [u_fX12_ticks, u_fX12_ticks_0, u_fX12_ticks_21, mi, m_thr0, e_ws0, a2, e_T, e_F, e_bnd, e_obr, e_obd, e_obt, e_addB, e_addA, e_in, e_cl, e_leT, e_leF, e_ltT, e_ltF, e_eqT, e_eqF, e_NOT, e_NOF, nI_add, pk_mul, k_spot, k_chan, m_node, m_pair, m_msg, m_chan, m_pack, e_w, e_wn, e_ws]
theorem R0_hold {c₀ v : Nat} (h : R0 dr tk pl N G M T B Q Dl σ ω) (hl : ∀ c, c < 36 → (Q c).length ≤ 110) (hc : c₀ < 36) (hv : v ≤ 1) : R0 dr tk pl N G M T B Q Dl (s2 σ 7 c₀ (nI v)) (upd ω (pC c₀ 1) (nI v)) := by
  obtain ⟨hS, hN, hP, hD, hM, hE, hL, hC, hQ, hO, hB⟩ := h
  have c : fc [7] σ (s2 σ 7 c₀ (nI v)) := fc_s2 _ _ _ _
  have fw : ∀ i, i ≠ pC c₀ 1 → upd ω (pC c₀ 1) (nI v) i = ω i := fun i hi => pk_un hi
  refine ⟨rS_fr hS (by rw [c 0 (by decide)]; exact ⟨rfl, rfl, rfl, rfl, rfl, rfl, rfl, rfl⟩) (fun g _ => by rw [c 1 (by decide)]) (by rw [c 13 (by decide)]) (fun i hi h7 h9 => fw _ (by first | omega | exact pN_pN (by omega) (by omega) (by omega) | exact pP_pN (by omega) (by omega) (by omega) | exact (pP_pN (by omega) (by omega) (by omega)).symm | exact pP_pP (by omega) (by omega) (by omega) (by omega) (by omega) | (simp only [pN, pP, pM, pE, pL, pC, pK, sp]; omega))), rN_fr hN (fun n _ => by rw [c 2 (by decide), c 3 (by decide), c 4 (by decide)]; exact ⟨rfl, rfl, rfl⟩) (fun n w hn hw => fw _ (by first | omega | exact pN_pN (by omega) (by omega) (by omega) | exact pP_pN (by omega) (by omega) (by omega) | exact (pP_pN (by omega) (by omega) (by omega)).symm | exact pP_pP (by omega) (by omega) (by omega) (by omega) (by omega) | (simp only [pN, pP, pM, pE, pL, pC, pK, sp]; omega))), rP_fr hP (fun i _ => by rw [c 20 (by decide), c 21 (by decide), c 22 (by decide), c 23 (by decide), c 27 (by decide), c 28 (by decide), c 29 (by decide)]; exact ⟨rfl, rfl, rfl, rfl, rfl, rfl, rfl⟩) (fun n m w hn hm hw => fw _ (by first | omega | exact pN_pN (by omega) (by omega) (by omega) | exact pP_pN (by omega) (by omega) (by omega) | exact (pP_pN (by omega) (by omega) (by omega)).symm | exact pP_pP (by omega) (by omega) (by omega) (by omega) (by omega) | (simp only [pN, pP, pM, pE, pL, pC, pK, sp]; omega))), rD_fr hD (fun i _ => by rw [c 20 (by decide), c 24 (by decide), c 23 (by decide)]; exact ⟨rfl, rfl, rfl⟩) (fun n m _ _ => by rw [c 17 (by decide)]) (fun n _ => by rw [c 25 (by decide)]) (fun n w hn hw h4 => fw _ (by first | omega | exact pN_pN (by omega) (by omega) (by omega) | exact pP_pN (by omega) (by omega) (by omega) | exact (pP_pN (by omega) (by omega) (by omega)).symm | exact pP_pP (by omega) (by omega) (by omega) (by omega) (by omega) | (simp only [pN, pP, pM, pE, pL, pC, pK, sp]; omega))), rM_fr hM (fun m _ => by rw [c 14 (by decide), c 15 (by decide), c 16 (by decide), c 17 (by decide), c 18 (by decide)]; exact ⟨rfl, rfl, rfl, rfl, rfl⟩) (fun m w hm hw => fw _ (by first | omega | exact pN_pN (by omega) (by omega) (by omega) | exact pP_pN (by omega) (by omega) (by omega) | exact (pP_pN (by omega) (by omega) (by omega)).symm | exact pP_pP (by omega) (by omega) (by omega) (by omega) (by omega) | (simp only [pN, pP, pM, pE, pL, pC, pK, sp]; omega))), rE_fr hE (by rw [c 30 (by decide)]) (fun k _ => by rw [c 31 (by decide), c 32 (by decide), c 33 (by decide)]; exact ⟨rfl, rfl, rfl⟩) (fw _ (by first | omega | exact pN_pN (by omega) (by omega) (by omega) | exact pP_pN (by omega) (by omega) (by omega) | exact (pP_pN (by omega) (by omega) (by omega)).symm | exact pP_pP (by omega) (by omega) (by omega) (by omega) (by omega) | (simp only [pN, pP, pM, pE, pL, pC, pK, sp]; omega))) (fun k w hk hw => fw _ (by first | omega | exact pN_pN (by omega) (by omega) (by omega) | exact pP_pN (by omega) (by omega) (by omega) | exact (pP_pN (by omega) (by omega) (by omega)).symm | exact pP_pP (by omega) (by omega) (by omega) (by omega) (by omega) | (simp only [pN, pP, pM, pE, pL, pC, pK, sp]; omega))), rL_fr hL (by rw [c 34 (by decide)]; exact ⟨rfl, rfl⟩) (fun i _ => by rw [c 35 (by decide)]) (fw _ (by first | omega | exact pN_pN (by omega) (by omega) (by omega) | exact pP_pN (by omega) (by omega) (by omega) | exact (pP_pN (by omega) (by omega) (by omega)).symm | exact pP_pP (by omega) (by omega) (by omega) (by omega) (by omega) | (simp only [pN, pP, pM, pE, pL, pC, pK, sp]; omega))) (fun k w hk hw => fw _ (by first | omega | exact pN_pN (by omega) (by omega) (by omega) | exact pP_pN (by omega) (by omega) (by omega) | exact (pP_pN (by omega) (by omega) (by omega)).symm | exact pP_pP (by omega) (by omega) (by omega) (by omega) (by omega) | (simp only [pN, pP, pM, pE, pL, pC, pK, sp]; omega))), ?_, hQ, rO_fr hO (by rw [c 5 (by decide)]; exact ⟨rfl, rfl⟩) (fun x _ => by rw [c 9 (by decide), c 11 (by decide), c 12 (by decide)]; exact ⟨rfl, rfl, rfl⟩) (fun i _ => by rw [c 10 (by decide)]), (by rw [cnt_fr (σ := σ) (fun i _ => by rw [c 20 (by decide)])]; exact hB)⟩
  intro x hx
  obtain ⟨q1, q2, q3, q4, q5⟩ := hC x hx
  rw [c 6 (by decide), c 8 (by decide), fw (pC x 0) (by first | omega | exact pN_pN (by omega) (by omega) (by omega) | exact pP_pN (by omega) (by omega) (by omega) | exact (pP_pN (by omega) (by omega) (by omega)).symm | exact pP_pP (by omega) (by omega) (by omega) (by omega) (by omega) | (simp only [pN, pP, pM, pE, pL, pC, pK, sp]; omega)), fw (pC x 2) (by first | omega | exact pN_pN (by omega) (by omega) (by omega) | exact pP_pN (by omega) (by omega) (by omega) | exact (pP_pN (by omega) (by omega) (by omega)).symm | exact pP_pP (by omega) (by omega) (by omega) (by omega) (by omega) | (simp only [pN, pP, pM, pE, pL, pC, pK, sp]; omega)), fw (pC x 3) (by first | omega | exact pN_pN (by omega) (by omega) (by omega) | exact pP_pN (by omega) (by omega) (by omega) | exact (pP_pN (by omega) (by omega) (by omega)).symm | exact pP_pP (by omega) (by omega) (by omega) (by omega) (by omega) | (simp only [pN, pP, pM, pE, pL, pC, pK, sp]; omega))]
  refine ⟨q1, ?_, q3, q4, fun k p hk => ?_⟩
  · by_cases e : x = c₀
    · subst e; exact ⟨v, hv, by rw [e_s2, pk_us], pk_us⟩
    · rw [e_s2, pk_un e, fw _ (by first | omega | exact pN_pN (by omega) (by omega) (by omega) | exact pP_pN (by omega) (by omega) (by omega) | exact (pP_pN (by omega) (by omega) (by omega)).symm | exact pP_pP (by omega) (by omega) (by omega) (by omega) (by omega) | (simp only [pN, pP, pM, pE, pL, pC, pK, sp]; omega))]; exact q2
  · have hk2 := (List.getElem?_eq_some_iff.mp hk).1
    have hlx := hl x hx
    have g := q5 k p hk
    unfold kM at g ⊢
    rw [fw (pK x k 0) (by first | omega | exact pN_pN (by omega) (by omega) (by omega) | exact pP_pN (by omega) (by omega) (by omega) | exact (pP_pN (by omega) (by omega) (by omega)).symm | exact pP_pP (by omega) (by omega) (by omega) (by omega) (by omega) | (simp only [pN, pP, pM, pE, pL, pC, pK, sp]; omega)), fw (pK x k 1) (by first | omega | exact pN_pN (by omega) (by omega) (by omega) | exact pP_pN (by omega) (by omega) (by omega) | exact (pP_pN (by omega) (by omega) (by omega)).symm | exact pP_pP (by omega) (by omega) (by omega) (by omega) (by omega) | (simp only [pN, pP, pM, pE, pL, pC, pK, sp]; omega)), fw (pK x k 2) (by first | omega | exact pN_pN (by omega) (by omega) (by omega) | exact pP_pN (by omega) (by omega) (by omega) | exact (pP_pN (by omega) (by omega) (by omega)).symm | exact pP_pP (by omega) (by omega) (by omega) (by omega) (by omega) | (simp only [pN, pP, pM, pE, pL, pC, pK, sp]; omega)), fw (pK x k 3) (by first | omega | exact pN_pN (by omega) (by omega) (by omega) | exact pP_pN (by omega) (by omega) (by omega) | exact (pP_pN (by omega) (by omega) (by omega)).symm | exact pP_pP (by omega) (by omega) (by omega) (by omega) (by omega) | (simp only [pN, pP, pM, pE, pL, pC, pK, sp]; omega)), fw (pK x k 4) (by first | omega | exact pN_pN (by omega) (by omega) (by omega) | exact pP_pN (by omega) (by omega) (by omega) | exact (pP_pN (by omega) (by omega) (by omega)).symm | exact pP_pP (by omega) (by omega) (by omega) (by omega) (by omega) | (simp only [pN, pP, pM, pE, pL, pC, pK, sp]; omega)), fw (pK x k 5) (by first | omega | exact pN_pN (by omega) (by omega) (by omega) | exact pP_pN (by omega) (by omega) (by omega) | exact (pP_pN (by omega) (by omega) (by omega)).symm | exact pP_pP (by omega) (by omega) (by omega) (by omega) (by omega) | (simp only [pN, pP, pM, pE, pL, pC, pK, sp]; omega))]
    exact g
theorem r_hold (hI : InvL c s μ) (x1 x2 x3 : Int32) (hx3 : x3 = nI 0 ∨ x3 = nI 1) : okT InvL c s [0] kk2 (fX11_hold x1 x2 x3 s.2.2.2.1) (fX12_hold x1 x2 x3 μ) := by
  obtain ⟨⟨N, G, M, T, Dl, hT, hR⟩, hB8⟩ := hI.1
  obtain ⟨Q, B, h, hrI, hd⟩ := id hR
  have h6 := h.1.1.1
  have hll : ∀ c, c < 36 → (Q c).length ≤ 110 := fun c hc => Nat.le_trans (q_len h.2.2.2.2.2.2.2.2.1 hrI (fun _ _ => by omega) h6 h.1.1.2.2.1 hc) (by omega)
  have key : ∀ (z : Xr × Sg) (r : Int32) (u' : Sg) (ω' : Nat → Int32), fX11_hold x1 x2 x3 s.2.2.2.1 = some z → fX12_hold x1 x2 x3 (sq μ 1 (μ 1)) = some (r, sq u' 1 ω') → InvL (c + 1) (s.1, s.2.1, s.2.2.1, z.2, s.2.2.2.2.1, s.2.2.2.2.2) (sq u' 1 ω') → out z.1 r [0] kk2 (sq u' 1 ω') → okT InvL c s [0] kk2 (fX11_hold x1 x2 x3 s.2.2.2.1) (fX12_hold x1 x2 x3 μ) := fun z r u' ω' y1 y2 y3 y4 => ⟨z, r, _, y1, by rw [e_wid] at y2; exact y2, y3, y4⟩
  rcases ck_node h.1.2.1.1 h.1.2.1.2 h6 x1 with ⟨n, hn, rfl, k1, m1⟩ | ⟨k1, m1⟩
  · rcases ck_node h.1.2.1.1 h.1.2.1.2 h6 x2 with ⟨m, hm, rfl, k2, m2⟩ | ⟨k2, m2⟩
    · have hc : 6 * n + m < 36 := by omega
      obtain ⟨-, ⟨hh, y1, y2, y3⟩, -⟩ := h.2.2.2.2.2.2.2.1 (6 * n + m) hc
      have fin : ∀ v, v ≤ 1 → InvL (c + 1) (s.1, s.2.1, s.2.2.1, s2 s.2.2.2.1 7 (6 * n + m) (nI v), s.2.2.2.2.1, s.2.2.2.2.2) (sq (s2 μ 0 0 (nI 0)) 1 (upd (μ 1) (pC (6 * n + m) 1) (nI v))) := by
        intro v hv
        have cc : fc [7] s.2.2.2.1 (s2 s.2.2.2.1 7 (6 * n + m) (nI v)) := fc_s2 _ _ _ _
        refine Inv_now hI (fun q hq => e_s2n _ _ _ (by omega)) (uk_thr μ _) ⟨⟨N, G, M, T, Dl, by omega, RR_u (uk_14 (uk_thr μ _)) ⟨Q, B, R0_hold h hll hc hv, rI_c hrI (cc 15 (by decide)) (cc 2 (by decide)) (cc 27 (by decide)), hd⟩⟩, by rw [cc 0 (by decide)]; exact hB8⟩
      rcases (show hh = 0 ∨ hh = 1 by omega) with rfl | rfl <;> rcases hx3 with rfl | rfl
      · refine key (.inl (nI 0), s2 s.2.2.2.1 7 (6 * n + m) (nI 0)) (nI 0) (s2 μ 0 0 (nI 0)) (upd (μ 1) (pC (6 * n + m) 1) (nI 0)) ?_ ?_ (fin 0 (by omega)) (out_v rfl (s2_00 _ _))
        · simp (disch := first | omega | (simp only [pN, pP, pM, pE, pL, pC, pK, sp]; omega)) only [u_fX11_hold, u_fX11_hold_0, u_fX11_hold_26, u_fX11_hold_51, k1, k2, e_obxl, y2, e_isB0, e_T, e_F, e_bnd, e_obr, e_obd, e_obt, e_addB, e_addA, e_in, e_cl, e_leT, e_leF, e_ltT, e_ltF, e_eqT, e_eqF, e_NOT, e_NOF, nI_add, pk_mul, k_spot, k_chan, m_node, m_pair, m_msg, m_chan, m_pack, e_w, e_wn, e_ws]
        · simp (disch := first | omega | (simp only [pN, pP, pM, pE, pL, pC, pK, sp]; omega)) only [u_fX12_hold, u_fX12_hold_0, u_fX12_hold_27, u_fX12_hold_52, u_fX12_hold_73, m1, m2, m_thr0, e_ws0, m_ofCh, y3, e_T, e_F, e_bnd, e_obr, e_obd, e_obt, e_addB, e_addA, e_in, e_cl, e_leT, e_leF, e_ltT, e_ltF, e_eqT, e_eqF, e_NOT, e_NOF, nI_add, pk_mul, k_spot, k_chan, m_node, m_pair, m_msg, m_chan, m_pack, e_w, e_wn, e_ws]
      · refine key (.inl (nI 1), s2 s.2.2.2.1 7 (6 * n + m) (nI 1)) (nI 1) (s2 μ 0 0 (nI 0)) (upd (μ 1) (pC (6 * n + m) 1) (nI 1)) ?_ ?_ (fin 1 (by omega)) (out_v rfl (s2_00 _ _))
        · simp (disch := first | omega | (simp only [pN, pP, pM, pE, pL, pC, pK, sp]; omega)) only [u_fX11_hold, u_fX11_hold_0, u_fX11_hold_26, u_fX11_hold_51, k1, k2, e_obxl, y2, e_isB1, e_T, e_F, e_bnd, e_obr, e_obd, e_obt, e_addB, e_addA, e_in, e_cl, e_leT, e_leF, e_ltT, e_ltF, e_eqT, e_eqF, e_NOT, e_NOF, nI_add, pk_mul, k_spot, k_chan, m_node, m_pair, m_msg, m_chan, m_pack, e_w, e_wn, e_ws]
        · simp (disch := first | omega | (simp only [pN, pP, pM, pE, pL, pC, pK, sp]; omega)) only [u_fX12_hold, u_fX12_hold_0, u_fX12_hold_27, u_fX12_hold_52, u_fX12_hold_73, m1, m2, m_thr0, e_ws0, m_ofCh, y3, e_T, e_F, e_bnd, e_obr, e_obd, e_obt, e_addB, e_addA, e_in, e_cl, e_leT, e_leF, e_ltT, e_ltF, e_eqT, e_eqF, e_NOT, e_NOF, nI_add, pk_mul, k_spot, k_chan, m_node, m_pair, m_msg, m_chan, m_pack, e_w, e_wn, e_ws]
      · refine key (.inl (nI 1), s2 s.2.2.2.1 7 (6 * n + m) (nI 0)) (nI 1) (s2 μ 0 0 (nI 0)) (upd (μ 1) (pC (6 * n + m) 1) (nI 0)) ?_ ?_ (fin 0 (by omega)) (out_v rfl (s2_00 _ _))
        · simp (disch := first | omega | (simp only [pN, pP, pM, pE, pL, pC, pK, sp]; omega)) only [u_fX11_hold, u_fX11_hold_0, u_fX11_hold_26, u_fX11_hold_51, k1, k2, e_obxl, y2, e_isB1, e_T, e_F, e_bnd, e_obr, e_obd, e_obt, e_addB, e_addA, e_in, e_cl, e_leT, e_leF, e_ltT, e_ltF, e_eqT, e_eqF, e_NOT, e_NOF, nI_add, pk_mul, k_spot, k_chan, m_node, m_pair, m_msg, m_chan, m_pack, e_w, e_wn, e_ws]
        · simp (disch := first | omega | (simp only [pN, pP, pM, pE, pL, pC, pK, sp]; omega)) only [u_fX12_hold, u_fX12_hold_0, u_fX12_hold_27, u_fX12_hold_52, u_fX12_hold_73, m1, m2, m_thr0, e_ws0, m_ofCh, y3, e_T, e_F, e_bnd, e_obr, e_obd, e_obt, e_addB, e_addA, e_in, e_cl, e_leT, e_leF, e_ltT, e_ltF, e_eqT, e_eqF, e_NOT, e_NOF, nI_add, pk_mul, k_spot, k_chan, m_node, m_pair, m_msg, m_chan, m_pack, e_w, e_wn, e_ws]
      · refine key (.inl (nI 0), s2 s.2.2.2.1 7 (6 * n + m) (nI 1)) (nI 0) (s2 μ 0 0 (nI 0)) (upd (μ 1) (pC (6 * n + m) 1) (nI 1)) ?_ ?_ (fin 1 (by omega)) (out_v rfl (s2_00 _ _))
        · simp (disch := first | omega | (simp only [pN, pP, pM, pE, pL, pC, pK, sp]; omega)) only [u_fX11_hold, u_fX11_hold_0, u_fX11_hold_26, u_fX11_hold_51, k1, k2, e_obxl, y2, e_isB0, e_T, e_F, e_bnd, e_obr, e_obd, e_obt, e_addB, e_addA, e_in, e_cl, e_leT, e_leF, e_ltT, e_ltF, e_eqT, e_eqF, e_NOT, e_NOF, nI_add, pk_mul, k_spot, k_chan, m_node, m_pair, m_msg, m_chan, m_pack, e_w, e_wn, e_ws]
        · simp (disch := first | omega | (simp only [pN, pP, pM, pE, pL, pC, pK, sp]; omega)) only [u_fX12_hold, u_fX12_hold_0, u_fX12_hold_27, u_fX12_hold_52, u_fX12_hold_73, m1, m2, m_thr0, e_ws0, m_ofCh, y3, e_T, e_F, e_bnd, e_obr, e_obd, e_obt, e_addB, e_addA, e_in, e_cl, e_leT, e_leF, e_ltT, e_ltF, e_eqT, e_eqF, e_NOT, e_NOF, nI_add, pk_mul, k_spot, k_chan, m_node, m_pair, m_msg, m_chan, m_pack, e_w, e_wn, e_ws]
    · refine key (.inr 0, s.2.2.2.1) (nI 0) (s2 μ 0 0 (nI 1)) (μ 1) ?_ ?_ (Inv_thr hI (uk_thr μ _)) (out_x 0 (by decide) rfl (s2_00 _ _))
      · simp (disch := first | omega | (simp only [pN, pP, pM, pE, pL, pC, pK, sp]; omega)) only [u_fX11_hold, u_fX11_hold_0, k1, k2, e_obxl, e_obxr, e_T, e_F, e_bnd, e_obr, e_obd, e_obt, e_addB, e_addA, e_in, e_cl, e_leT, e_leF, e_ltT, e_ltF, e_eqT, e_eqF, e_NOT, e_NOF, nI_add, pk_mul, k_spot, k_chan, m_node, m_pair, m_msg, m_chan, m_pack, e_w, e_wn, e_ws]
      · simp (disch := first | omega | (simp only [pN, pP, pM, pE, pL, pC, pK, sp]; omega)) only [u_fX12_hold, u_fX12_hold_0, u_fX12_hold_22, u_fX12_hold_27, m1, m2, m_thr1, e_ws0, e_ss, e_T, e_F, e_bnd, e_obr, e_obd, e_obt, e_addB, e_addA, e_in, e_cl, e_leT, e_leF, e_ltT, e_ltF, e_eqT, e_eqF, e_NOT, e_NOF, nI_add, pk_mul, k_spot, k_chan, m_node, m_pair, m_msg, m_chan, m_pack, e_w, e_wn, e_ws]
  · refine key (.inr 0, s.2.2.2.1) (nI 0) (s2 μ 0 0 (nI 1)) (μ 1) ?_ ?_ (Inv_thr hI (uk_thr μ _)) (out_x 0 (by decide) rfl (s2_00 _ _))
    · simp (disch := first | omega | (simp only [pN, pP, pM, pE, pL, pC, pK, sp]; omega)) only [u_fX11_hold, u_fX11_hold_0, k1, e_obxr, e_T, e_F, e_bnd, e_obr, e_obd, e_obt, e_addB, e_addA, e_in, e_cl, e_leT, e_leF, e_ltT, e_ltF, e_eqT, e_eqF, e_NOT, e_NOF, nI_add, pk_mul, k_spot, k_chan, m_node, m_pair, m_msg, m_chan, m_pack, e_w, e_wn, e_ws]
    · simp (disch := first | omega | (simp only [pN, pP, pM, pE, pL, pC, pK, sp]; omega)) only [u_fX12_hold, u_fX12_hold_0, u_fX12_hold_22, u_fX12_hold_27, m1, m_thr1, e_ws0, e_ss, e_T, e_F, e_bnd, e_obr, e_obd, e_obt, e_addB, e_addA, e_in, e_cl, e_leT, e_leF, e_ltT, e_ltF, e_eqT, e_eqF, e_NOT, e_NOF, nI_add, pk_mul, k_spot, k_chan, m_node, m_pair, m_msg, m_chan, m_pack, e_w, e_wn, e_ws]
theorem R0_seed {x1 : Int32} (h : R0 dr tk pl N G M T B Q Dl σ ω) (hl : ∀ c, c < 36 → (Q c).length ≤ 110) : R0 dr tk pl N G M T B Q Dl (s2 σ 0 6 x1) (upd ω 8 x1) := by
  obtain ⟨hS, hN, hP, hD, hM, hE, hL, hC, hQ, hO, hB⟩ := h
  have c : fc [0] σ (s2 σ 0 6 x1) := fc_s2 _ _ _ _
  have fw : ∀ i, i ≠ 8 → upd ω 8 x1 i = ω i := fun i hi => pk_un hi
  refine ⟨?_, rN_fr hN (fun n _ => by rw [c 2 (by decide), c 3 (by decide), c 4 (by decide)]; exact ⟨rfl, rfl, rfl⟩) (fun n w hn hw => fw _ (by first | omega | exact pN_pN (by omega) (by omega) (by omega) | exact pP_pN (by omega) (by omega) (by omega) | exact (pP_pN (by omega) (by omega) (by omega)).symm | exact pP_pP (by omega) (by omega) (by omega) (by omega) (by omega) | (simp only [pN, pP, pM, pE, pL, pC, pK, sp]; omega))), rP_fr hP (fun i _ => by rw [c 20 (by decide), c 21 (by decide), c 22 (by decide), c 23 (by decide), c 27 (by decide), c 28 (by decide), c 29 (by decide)]; exact ⟨rfl, rfl, rfl, rfl, rfl, rfl, rfl⟩) (fun n m w hn hm hw => fw _ (by first | omega | exact pN_pN (by omega) (by omega) (by omega) | exact pP_pN (by omega) (by omega) (by omega) | exact (pP_pN (by omega) (by omega) (by omega)).symm | exact pP_pP (by omega) (by omega) (by omega) (by omega) (by omega) | (simp only [pN, pP, pM, pE, pL, pC, pK, sp]; omega))), rD_fr hD (fun i _ => by rw [c 20 (by decide), c 24 (by decide), c 23 (by decide)]; exact ⟨rfl, rfl, rfl⟩) (fun n m _ _ => by rw [c 17 (by decide)]) (fun n _ => by rw [c 25 (by decide)]) (fun n w hn hw h4 => fw _ (by first | omega | exact pN_pN (by omega) (by omega) (by omega) | exact pP_pN (by omega) (by omega) (by omega) | exact (pP_pN (by omega) (by omega) (by omega)).symm | exact pP_pP (by omega) (by omega) (by omega) (by omega) (by omega) | (simp only [pN, pP, pM, pE, pL, pC, pK, sp]; omega))), rM_fr hM (fun m _ => by rw [c 14 (by decide), c 15 (by decide), c 16 (by decide), c 17 (by decide), c 18 (by decide)]; exact ⟨rfl, rfl, rfl, rfl, rfl⟩) (fun m w hm hw => fw _ (by first | omega | exact pN_pN (by omega) (by omega) (by omega) | exact pP_pN (by omega) (by omega) (by omega) | exact (pP_pN (by omega) (by omega) (by omega)).symm | exact pP_pP (by omega) (by omega) (by omega) (by omega) (by omega) | (simp only [pN, pP, pM, pE, pL, pC, pK, sp]; omega))), rE_fr hE (by rw [c 30 (by decide)]) (fun k _ => by rw [c 31 (by decide), c 32 (by decide), c 33 (by decide)]; exact ⟨rfl, rfl, rfl⟩) (fw _ (by first | omega | exact pN_pN (by omega) (by omega) (by omega) | exact pP_pN (by omega) (by omega) (by omega) | exact (pP_pN (by omega) (by omega) (by omega)).symm | exact pP_pP (by omega) (by omega) (by omega) (by omega) (by omega) | (simp only [pN, pP, pM, pE, pL, pC, pK, sp]; omega))) (fun k w hk hw => fw _ (by first | omega | exact pN_pN (by omega) (by omega) (by omega) | exact pP_pN (by omega) (by omega) (by omega) | exact (pP_pN (by omega) (by omega) (by omega)).symm | exact pP_pP (by omega) (by omega) (by omega) (by omega) (by omega) | (simp only [pN, pP, pM, pE, pL, pC, pK, sp]; omega))), rL_fr hL (by rw [c 34 (by decide)]; exact ⟨rfl, rfl⟩) (fun i _ => by rw [c 35 (by decide)]) (fw _ (by first | omega | exact pN_pN (by omega) (by omega) (by omega) | exact pP_pN (by omega) (by omega) (by omega) | exact (pP_pN (by omega) (by omega) (by omega)).symm | exact pP_pP (by omega) (by omega) (by omega) (by omega) (by omega) | (simp only [pN, pP, pM, pE, pL, pC, pK, sp]; omega))) (fun k w hk hw => fw _ (by first | omega | exact pN_pN (by omega) (by omega) (by omega) | exact pP_pN (by omega) (by omega) (by omega) | exact (pP_pN (by omega) (by omega) (by omega)).symm | exact pP_pP (by omega) (by omega) (by omega) (by omega) (by omega) | (simp only [pN, pP, pM, pE, pL, pC, pK, sp]; omega))), rC_fr hC (fun x hx => Nat.le_trans (hl x hx) (by omega)) (fun x _ => by rw [c 6 (by decide), c 7 (by decide), c 8 (by decide)]; exact ⟨rfl, rfl, rfl⟩) (fun x w hx hw => fw _ (by first | omega | exact pN_pN (by omega) (by omega) (by omega) | exact pP_pN (by omega) (by omega) (by omega) | exact (pP_pN (by omega) (by omega) (by omega)).symm | exact pP_pP (by omega) (by omega) (by omega) (by omega) (by omega) | (simp only [pN, pP, pM, pE, pL, pC, pK, sp]; omega))), hQ, rO_fr hO (by rw [c 5 (by decide)]; exact ⟨rfl, rfl⟩) (fun x _ => by rw [c 9 (by decide), c 11 (by decide), c 12 (by decide)]; exact ⟨rfl, rfl, rfl⟩) (fun i _ => by rw [c 10 (by decide)]), (by rw [cnt_fr (σ := σ) (fun i _ => by rw [c 20 (by decide)])]; exact hB)⟩
  obtain ⟨a0, a1, a2, a3, a4, a5, a6, a7, a8, a9, a10, a11⟩ := hS
  have e : ∀ j, j ≠ 6 → s2 σ 0 6 x1 0 j = σ 0 j := fun j hj => by simp (disch := first | omega | (simp only [pN, pP, pM, pE, pL, pC, pK, sp]; omega)) only [e_s2, e_s2n, pk_us, pk_un]
  refine ⟨a0, ?_, ?_, ?_, ?_, ?_, ?_, ?_, ?_, ?_, ?_, ?_⟩
  · rw [e 0 (by omega), fw 0 (by omega)]; exact a1
  · rw [e 1 (by omega), fw 1 (by omega)]; exact a2
  · rw [c 13 (by decide), fw 3 (by omega)]; exact a3
  · rw [e 3 (by omega), fw 4 (by omega)]; exact a4
  · rw [e 2 (by omega), fw 2 (by omega)]; exact a5
  · rw [e_s2, pk_us, pk_us]
  · rw [e 5 (by omega), fw 6 (by omega)]; exact a7
  · rw [e 4 (by omega), fw 5 (by omega)]; exact a8
  · rw [e 7 (by omega), fw 10 (by omega)]; exact a9
  · intro g hg; rw [c 1 (by decide), fw (11 + g) (by omega)]; exact a10 g hg
  · rw [c 1 (by decide)]; exact a11
theorem r_seed (hI : InvL c s μ) (x1 : Int32) : okT InvL c s [] kk2 (fX11_seed x1 s.2.2.2.1) (fX12_seed x1 μ) := by
  obtain ⟨⟨N, G, M, T, Dl, hT, Q, B, h, hrI, hd⟩, hB8⟩ := hI.1
  have hll : ∀ c, c < 36 → (Q c).length ≤ 110 := fun c hc => Nat.le_trans (q_len h.2.2.2.2.2.2.2.2.1 hrI (fun _ _ => by omega) h.1.1.1 h.1.1.2.2.1 hc) (by omega)
  have cc : fc [0] s.2.2.2.1 (s2 s.2.2.2.1 0 6 x1) := fc_s2 _ _ _ _
  have m1 : fX12_seed x1 (sq μ 1 (μ 1)) = some (μ 1 8, sq (s2 μ 0 0 (nI 0)) 1 (upd (μ 1) 8 x1)) := by
    simp (disch := first | omega | (simp only [pN, pP, pM, pE, pL, pC, pK, sp]; omega)) only [u_fX12_seed, u_fX12_seed_0, e_ws0, e_T, e_F, e_bnd, e_obr, e_obd, e_obt, e_addB, e_addA, e_in, e_cl, e_leT, e_leF, e_ltT, e_ltF, e_eqT, e_eqF, e_NOT, e_NOF, nI_add, pk_mul, k_spot, k_chan, m_node, m_pair, m_msg, m_chan, m_pack, e_w, e_wn, e_ws]
  rw [e_wid] at m1
  refine ⟨(.inl (s.2.2.2.1 0 6), s2 s.2.2.2.1 0 6 x1), _, _, rfl, m1, ?_, out_v (by rw [h.1.2.2.2.2.2.2.1]) (s2_00 _ _)⟩
  exact Inv_now (σ' := s2 s.2.2.2.1 0 6 x1) hI (fun q hq => e_s2n _ _ _ (by omega)) (uk_thr μ _) ⟨⟨N, G, M, T, Dl, by omega, RR_u (uk_14 (uk_thr μ _)) ⟨Q, B, R0_seed h hll, rI_c hrI (cc 15 (by decide)) (cc 2 (by decide)) (cc 27 (by decide)), hd⟩⟩, by rw [e_s2, pk_un (by omega)]; exact hB8⟩
end DO
