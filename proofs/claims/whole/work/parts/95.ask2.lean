/-! more of them -/
def kk3 : Nat → Int32 := fun E => if E = 0 then nI 1 else if E = 2 then nI 2 else nI 3
def kkL : Nat → Int32 := fun _ => nI 1
theorem ago_v {nx a : Nat} (h : a ≤ nx + 119) : nI nx - nI 1 - nI a + nI 120 = nI (nx + 119 - a) := by
  have e : nI nx + nI 120 = nI (nx + 119 - a) + nI a + nI 1 := by rw [nI_add, nI_add, nI_add]; congr 1; omega
  have e2 : nI nx - nI 1 - nI a + nI 120 = nI nx + nI 120 - nI 1 - nI a := by
    simp only [Int32.sub_eq_add_neg]; ac_rfl
  rw [e2, e, Int32.add_sub_cancel, Int32.add_sub_cancel]
section A2
variable {dr : Prop} {tk : Int32} {pl N G M T B : Nat} {Q : Qs} {Dl : Nat → List Nat} {u σ : Sg} {ω : Nat → Int32}
theorem o_delivered (h : R0 dr tk pl N G M T B Q Dl σ ω) (x1 x2 : Int32) : QR [0] kk2 (fX11_delivered x1 x2 σ) (fX12_delivered x1 x2 (sq u 1 ω)) σ u ω := by
  have h6 := h.1.1.1
  rcases ck_node h.1.2.1.1 h.1.2.1.2 h6 x1 with ⟨n, hn, rfl, k1, m1⟩ | ⟨k1, m1⟩
  · have hlen := dl_len h.2.2.2.1 (show n < 6 by omega)
    obtain ⟨d1, d2, d3, d4, d5⟩ := h.2.2.2.1 n (by omega)
    rcases ix x2 (n := (Dl n).length) (by omega) with hx | ⟨k, hk, rfl⟩
    · refine QR_val (r := NO) ?_ ?_
      · simp (disch := first | omega | (simp only [pN, pP, pM, pE, pL, pC, pK, sp]; omega)) only [u_fX11_delivered, u_fX11_delivered_0, k1, e_obxl, d3, e_T, e_F, e_bnd, e_obr, e_obd, e_obt, e_addB, e_addA, e_in, e_cl, e_leT, e_leF, e_ltT, e_ltF, e_eqT, e_eqF, e_NOT, e_NOF, nI_add, pk_mul, k_spot, k_chan, m_node, m_pair, m_msg, m_chan, m_pack, e_w, e_wn, e_ws]
        exact lt0 hx
      · simp (disch := first | omega | (simp only [pN, pP, pM, pE, pL, pC, pK, sp]; omega)) only [u_fX12_delivered, u_fX12_delivered_0, m1, m_thr0, e_ws0, m_of, d4, m_in0 (show (Dl n).length < 1000000 by omega) hx, e_T, e_F, e_bnd, e_obr, e_obd, e_obt, e_addB, e_addA, e_in, e_cl, e_leT, e_leF, e_ltT, e_ltF, e_eqT, e_eqF, e_NOT, e_NOF, nI_add, pk_mul, k_spot, k_chan, m_node, m_pair, m_msg, m_chan, m_pack, e_w, e_wn, e_ws]
    · obtain ⟨m, hm⟩ : ∃ m, (Dl n)[k]? = some m := ⟨_, List.getElem?_eq_getElem hk⟩
      obtain ⟨y1, y2, -⟩ := d5 k m hm
      refine QR_val (r := nI m) ?_ ?_
      · simp (disch := first | omega | (simp only [pN, pP, pM, pE, pL, pC, pK, sp]; omega)) only [u_fX11_delivered, u_fX11_delivered_0, k1, d3, y1, e_obxl, e_T, e_F, e_bnd, e_obr, e_obd, e_obt, e_addB, e_addA, e_in, e_cl, e_leT, e_leF, e_ltT, e_ltF, e_eqT, e_eqF, e_NOT, e_NOF, nI_add, pk_mul, k_spot, k_chan, m_node, m_pair, m_msg, m_chan, m_pack, e_w, e_wn, e_ws]
      · simp (disch := first | omega | (simp only [pN, pP, pM, pE, pL, pC, pK, sp]; omega)) only [u_fX12_delivered, u_fX12_delivered_0, m1, m_of, d4, m_in1 (show (Dl n).length < 1000000 by omega) hk, y2, m_thr0, e_ws0, e_T, e_F, e_bnd, e_obr, e_obd, e_obt, e_addB, e_addA, e_in, e_cl, e_leT, e_leF, e_ltT, e_ltF, e_eqT, e_eqF, e_NOT, e_NOF, nI_add, pk_mul, k_spot, k_chan, m_node, m_pair, m_msg, m_chan, m_pack, e_w, e_wn, e_ws]
  · refine QR_thr (r := nI 0) 0 (by decide) ?_ ?_
    · simp (disch := first | omega | (simp only [pN, pP, pM, pE, pL, pC, pK, sp]; omega)) only [u_fX11_delivered, u_fX11_delivered_0, k1, e_obxl, e_obxr, e_T, e_F, e_bnd, e_obr, e_obd, e_obt, e_addB, e_addA, e_in, e_cl, e_leT, e_leF, e_ltT, e_ltF, e_eqT, e_eqF, e_NOT, e_NOF, nI_add, pk_mul, k_spot, k_chan, m_node, m_pair, m_msg, m_chan, m_pack, e_w, e_wn, e_ws]
    · simp (disch := first | omega | (simp only [pN, pP, pM, pE, pL, pC, pK, sp]; omega)) only [u_fX12_delivered, u_fX12_delivered_0, m1, m_thr0, m_thr1, e_ws0, e_ss, e_T, e_F, e_bnd, e_obr, e_obd, e_obt, e_addB, e_addA, e_in, e_cl, e_leT, e_leF, e_ltT, e_ltF, e_eqT, e_eqF, e_NOT, e_NOF, nI_add, pk_mul, k_spot, k_chan, m_node, m_pair, m_msg, m_chan, m_pack, e_w, e_wn, e_ws]; rfl
theorem o_channel (h : R0 dr tk pl N G M T B Q Dl σ ω) (x1 x2 x3 : Int32) : QR [0, 1] kk2 (fX11_channel x1 x2 x3 σ) (fX12_channel x1 x2 x3 (sq u 1 ω)) σ u ω := by
  have h6 := h.1.1.1
  rcases ck_two h x1 x2 with ⟨n, m, hn, hm, rfl, rfl, k1, k2, m1⟩ | ⟨k1, m1⟩
  · have hc : 6 * n + m < 36 := by omega
    obtain ⟨⟨d, -, -, y1, y2⟩, ⟨hh, -, y3, y4⟩, y5, y6, -⟩ := h.2.2.2.2.2.2.2.1 (6 * n + m) hc
    have hsz := k_size h.2.2.2.2.2.2.2.2.2.1 hc
    rcases ck_what3 x3 with ⟨w, hw, rfl, -, m3⟩ | ⟨-, m3, hx⟩
    · rcases (show w = 0 ∨ w = 1 ∨ w = 2 ∨ w = 3 by omega) with rfl | rfl | rfl | rfl
      · refine QR_val (r := nI d) ?_ ?_
        · simp (disch := first | omega | (simp only [pN, pP, pM, pE, pL, pC, pK, sp]; omega)) only [u_fX11_channel, u_fX11_channel_0, k1, k2, y1, e_obxl, e_T, e_F, e_bnd, e_obr, e_obd, e_obt, e_addB, e_addA, e_in, e_cl, e_leT, e_leF, e_ltT, e_ltF, e_eqT, e_eqF, e_NOT, e_NOF, nI_add, pk_mul, k_spot, k_chan, m_node, m_pair, m_msg, m_chan, m_pack, e_w, e_wn, e_ws]
        · simp (disch := first | omega | (simp only [pN, pP, pM, pE, pL, pC, pK, sp]; omega)) only [u_fX12_channel, u_fX12_channel_0, u_fX12_channel_24, m1, m3, m_ofCh, y2, m_thr0, e_ws0, e_T, e_F, e_bnd, e_obr, e_obd, e_obt, e_addB, e_addA, e_in, e_cl, e_leT, e_leF, e_ltT, e_ltF, e_eqT, e_eqF, e_NOT, e_NOF, nI_add, pk_mul, k_spot, k_chan, m_node, m_pair, m_msg, m_chan, m_pack, e_w, e_wn, e_ws]
      · refine QR_val (r := nI hh) ?_ ?_
        · simp (disch := first | omega | (simp only [pN, pP, pM, pE, pL, pC, pK, sp]; omega)) only [u_fX11_channel, u_fX11_channel_0, k1, k2, y3, e_obxl, e_T, e_F, e_bnd, e_obr, e_obd, e_obt, e_addB, e_addA, e_in, e_cl, e_leT, e_leF, e_ltT, e_ltF, e_eqT, e_eqF, e_NOT, e_NOF, nI_add, pk_mul, k_spot, k_chan, m_node, m_pair, m_msg, m_chan, m_pack, e_w, e_wn, e_ws]
        · simp (disch := first | omega | (simp only [pN, pP, pM, pE, pL, pC, pK, sp]; omega)) only [u_fX12_channel, u_fX12_channel_0, u_fX12_channel_24, m1, m3, m_ofCh, y4, m_thr0, e_ws0, e_T, e_F, e_bnd, e_obr, e_obd, e_obt, e_addB, e_addA, e_in, e_cl, e_leT, e_leF, e_ltT, e_ltF, e_eqT, e_eqF, e_NOT, e_NOF, nI_add, pk_mul, k_spot, k_chan, m_node, m_pair, m_msg, m_chan, m_pack, e_w, e_wn, e_ws]
      · refine QR_val (r := nI (Q (6 * n + m)).length) ?_ ?_
        · simp (disch := first | omega | (simp only [pN, pP, pM, pE, pL, pC, pK, sp]; omega)) only [u_fX11_channel, u_fX11_channel_0, k1, k2, hsz, e_obxl, e_T, e_F, e_bnd, e_obr, e_obd, e_obt, e_addB, e_addA, e_in, e_cl, e_leT, e_leF, e_ltT, e_ltF, e_eqT, e_eqF, e_NOT, e_NOF, nI_add, pk_mul, k_spot, k_chan, m_node, m_pair, m_msg, m_chan, m_pack, e_w, e_wn, e_ws]
        · simp (disch := first | omega | (simp only [pN, pP, pM, pE, pL, pC, pK, sp]; omega)) only [u_fX12_channel, u_fX12_channel_0, u_fX12_channel_24, m1, m3, m_ofCh, y6, m_thr0, e_ws0, e_T, e_F, e_bnd, e_obr, e_obd, e_obt, e_addB, e_addA, e_in, e_cl, e_leT, e_leF, e_ltT, e_ltF, e_eqT, e_eqF, e_NOT, e_NOF, nI_add, pk_mul, k_spot, k_chan, m_node, m_pair, m_msg, m_chan, m_pack, e_w, e_wn, e_ws]
      · refine QR_val (r := σ 8 (6 * n + m)) ?_ ?_
        · simp (disch := first | omega | (simp only [pN, pP, pM, pE, pL, pC, pK, sp]; omega)) only [u_fX11_channel, u_fX11_channel_0, k1, k2, e_obxl, e_T, e_F, e_bnd, e_obr, e_obd, e_obt, e_addB, e_addA, e_in, e_cl, e_leT, e_leF, e_ltT, e_ltF, e_eqT, e_eqF, e_NOT, e_NOF, nI_add, pk_mul, k_spot, k_chan, m_node, m_pair, m_msg, m_chan, m_pack, e_w, e_wn, e_ws]
        · simp (disch := first | omega | (simp only [pN, pP, pM, pE, pL, pC, pK, sp]; omega)) only [u_fX12_channel, u_fX12_channel_0, u_fX12_channel_24, m1, m3, m_ofCh, ← y5, m_thr0, e_ws0, e_T, e_F, e_bnd, e_obr, e_obd, e_obt, e_addB, e_addA, e_in, e_cl, e_leT, e_leF, e_ltT, e_ltF, e_eqT, e_eqF, e_NOT, e_NOF, nI_add, pk_mul, k_spot, k_chan, m_node, m_pair, m_msg, m_chan, m_pack, e_w, e_wn, e_ws]
    · refine QR_thr (r := nI 0) 1 (by decide) ?_ ?_
      · simp (disch := first | omega | (simp only [pN, pP, pM, pE, pL, pC, pK, sp]; omega)) only [u_fX11_channel, u_fX11_channel_0, k1, k2, e_obxl, e_T, e_F, e_bnd, e_obr, e_obd, e_obt, e_addB, e_addA, e_in, e_cl, e_leT, e_leF, e_ltT, e_ltF, e_eqT, e_eqF, e_NOT, e_NOF, nI_add, pk_mul, k_spot, k_chan, m_node, m_pair, m_msg, m_chan, m_pack, e_w, e_wn, e_ws]
        rw [cnd_neg (ne_bad (by omega) hx (show 0 < 4 by omega)), cnd_neg (ne_bad (by omega) hx (show 1 < 4 by omega)), cnd_neg (ne_bad (by omega) hx (show 2 < 4 by omega)), cnd_neg (ne_bad (by omega) hx (show 3 < 4 by omega))]
      · simp (disch := first | omega | (simp only [pN, pP, pM, pE, pL, pC, pK, sp]; omega)) only [u_fX12_channel, u_fX12_channel_0, u_fX12_channel_24, m1, m3, m_thr1, e_ss, e_T, e_F, e_bnd, e_obr, e_obd, e_obt, e_addB, e_addA, e_in, e_cl, e_leT, e_leF, e_ltT, e_ltF, e_eqT, e_eqF, e_NOT, e_NOF, nI_add, pk_mul, k_spot, k_chan, m_node, m_pair, m_msg, m_chan, m_pack, e_w, e_wn, e_ws]; rfl
  · refine QR_thr (r := nI 0) 0 (by decide) ?_ ?_
    · rw [u_fX11_channel, u_fX11_channel_0, k1]
    · simp (disch := first | omega | (simp only [pN, pP, pM, pE, pL, pC, pK, sp]; omega)) only [u_fX12_channel, u_fX12_channel_0, m1, e_T, e_F, e_bnd, e_obr, e_obd, e_obt, e_addB, e_addA, e_in, e_cl, e_leT, e_leF, e_ltT, e_ltF, e_eqT, e_eqF, e_NOT, e_NOF, nI_add, pk_mul, k_spot, k_chan, m_node, m_pair, m_msg, m_chan, m_pack, e_w, e_wn, e_ws]; rfl
theorem o_gather (h : R0 dr tk pl N G M T B Q Dl σ ω) (x1 x2 x3 : Int32) : QR [0, 2, 1] kk3 (fX11_gather x1 x2 x3 σ) (fX12_gather x1 x2 x3 (sq u 1 ω)) σ u ω := by
  have h6 := h.1.1.1
  have hM20 := h.1.1.2.2.1
  rcases ck_pair h x1 x2 with ⟨n, m, hn, hm, rfl, rfl, k1, k2, m1⟩ | ⟨k1, m1⟩
  · have hsp : sp n m < 120 := by unfold sp; omega
    have hon := k_isOn (σ := σ) hsp
    rcases (h.2.2.1 n m (by omega) (by omega)).2.2.2 with ⟨g1, g2⟩ | ⟨-, -, g1, ⟨hh, g2, g3, g4, -⟩, -, ⟨-, g8, g9⟩, -, g11, g12⟩
    · rw [decide_eq_true g1] at hon
      refine QR_thr (r := nI 0) 2 (by decide) ?_ ?_
      · simp (disch := first | omega | (simp only [pN, pP, pM, pE, pL, pC, pK, sp]; omega)) only [u_fX11_gather, u_fX11_gather_0, k1, k2, e_sbTN, hon, Bool.not_true, b2_f, e_obxl, e_obxr, e_T, e_F, e_bnd, e_obr, e_obd, e_obt, e_addB, e_addA, e_in, e_cl, e_leT, e_leF, e_ltT, e_ltF, e_eqT, e_eqF, e_NOT, e_NOF, nI_add, pk_mul, k_spot, k_chan, m_node, m_pair, m_msg, m_chan, m_pack, e_w, e_wn, e_ws]
      · simp (disch := first | omega | (simp only [pN, pP, pM, pE, pL, pC, pK, sp]; omega)) only [u_fX12_gather, u_fX12_gather_0, u_fX12_gather_25, m1, m_ofPair, g2, m_thr0, m_thr1, e_ws0, e_ss, e_T, e_F, e_bnd, e_obr, e_obd, e_obt, e_addB, e_addA, e_in, e_cl, e_leT, e_leF, e_ltT, e_ltF, e_eqT, e_eqF, e_NOT, e_NOF, nI_add, pk_mul, k_spot, k_chan, m_node, m_pair, m_msg, m_chan, m_pack, e_w, e_wn, e_ws]; rfl
    · rw [decide_eq_false (by rw [g3]; exact NO_ne (by omega))] at hon
      rcases ck_what3 x3 with ⟨w, hw, rfl, -, m3⟩ | ⟨-, m3, hx⟩
      · rcases (show w = 0 ∨ w = 1 ∨ w = 2 ∨ w = 3 by omega) with rfl | rfl | rfl | rfl
        · refine QR_val (r := nI hh) ?_ ?_
          · simp (disch := first | omega | (simp only [pN, pP, pM, pE, pL, pC, pK, sp]; omega)) only [u_fX11_gather, u_fX11_gather_0, k1, k2, e_sbTN, hon, Bool.not_false, b2_t, g3, e_obxl, e_T, e_F, e_bnd, e_obr, e_obd, e_obt, e_addB, e_addA, e_in, e_cl, e_leT, e_leF, e_ltT, e_ltF, e_eqT, e_eqF, e_NOT, e_NOF, nI_add, pk_mul, k_spot, k_chan, m_node, m_pair, m_msg, m_chan, m_pack, e_w, e_wn, e_ws]
          · simp (disch := first | omega | (simp only [pN, pP, pM, pE, pL, pC, pK, sp]; omega)) only [u_fX12_gather, u_fX12_gather_0, u_fX12_gather_25, u_fX12_gather_47, m1, m3, m_ofPair, g1, g4, m_thr0, e_ws0, e_T, e_F, e_bnd, e_obr, e_obd, e_obt, e_addB, e_addA, e_in, e_cl, e_leT, e_leF, e_ltT, e_ltF, e_eqT, e_eqF, e_NOT, e_NOF, nI_add, pk_mul, k_spot, k_chan, m_node, m_pair, m_msg, m_chan, m_pack, e_w, e_wn, e_ws]
        · refine QR_val (r := num (σ 28 (sp n m))) ?_ ?_
          · simp (disch := first | omega | (simp only [pN, pP, pM, pE, pL, pC, pK, sp]; omega)) only [u_fX11_gather, u_fX11_gather_0, k1, k2, e_sbTN, hon, Bool.not_false, b2_t, e_obxl, e_T, e_F, e_bnd, e_obr, e_obd, e_obt, e_addB, e_addA, e_in, e_cl, e_leT, e_leF, e_ltT, e_ltF, e_eqT, e_eqF, e_NOT, e_NOF, nI_add, pk_mul, k_spot, k_chan, m_node, m_pair, m_msg, m_chan, m_pack, e_w, e_wn, e_ws]
          · simp (disch := first | omega | (simp only [pN, pP, pM, pE, pL, pC, pK, sp]; omega)) only [u_fX12_gather, u_fX12_gather_0, u_fX12_gather_25, u_fX12_gather_47, m1, m3, m_ofPair, g1, g8, m_thr0, e_ws0, e_T, e_F, e_bnd, e_obr, e_obd, e_obt, e_addB, e_addA, e_in, e_cl, e_leT, e_leF, e_ltT, e_ltF, e_eqT, e_eqF, e_NOT, e_NOF, nI_add, pk_mul, k_spot, k_chan, m_node, m_pair, m_msg, m_chan, m_pack, e_w, e_wn, e_ws]
        · refine QR_val (r := nod (σ 28 (sp n m))) ?_ ?_
          · simp (disch := first | omega | (simp only [pN, pP, pM, pE, pL, pC, pK, sp]; omega)) only [u_fX11_gather, u_fX11_gather_0, k1, k2, e_sbTN, hon, Bool.not_false, b2_t, e_obxl, e_T, e_F, e_bnd, e_obr, e_obd, e_obt, e_addB, e_addA, e_in, e_cl, e_leT, e_leF, e_ltT, e_ltF, e_eqT, e_eqF, e_NOT, e_NOF, nI_add, pk_mul, k_spot, k_chan, m_node, m_pair, m_msg, m_chan, m_pack, e_w, e_wn, e_ws]
          · simp (disch := first | omega | (simp only [pN, pP, pM, pE, pL, pC, pK, sp]; omega)) only [u_fX12_gather, u_fX12_gather_0, u_fX12_gather_25, u_fX12_gather_47, m1, m3, m_ofPair, g1, g9, m_thr0, e_ws0, e_T, e_F, e_bnd, e_obr, e_obd, e_obt, e_addB, e_addA, e_in, e_cl, e_leT, e_leF, e_ltT, e_ltF, e_eqT, e_eqF, e_NOT, e_NOF, nI_add, pk_mul, k_spot, k_chan, m_node, m_pair, m_msg, m_chan, m_pack, e_w, e_wn, e_ws]
        · refine QR_val (r := num (σ 29 (sp n m))) ?_ ?_
          · simp (disch := first | omega | (simp only [pN, pP, pM, pE, pL, pC, pK, sp]; omega)) only [u_fX11_gather, u_fX11_gather_0, k1, k2, e_sbTN, hon, Bool.not_false, b2_t, e_obxl, e_T, e_F, e_bnd, e_obr, e_obd, e_obt, e_addB, e_addA, e_in, e_cl, e_leT, e_leF, e_ltT, e_ltF, e_eqT, e_eqF, e_NOT, e_NOF, nI_add, pk_mul, k_spot, k_chan, m_node, m_pair, m_msg, m_chan, m_pack, e_w, e_wn, e_ws]
          · simp (disch := first | omega | (simp only [pN, pP, pM, pE, pL, pC, pK, sp]; omega)) only [u_fX12_gather, u_fX12_gather_0, u_fX12_gather_25, u_fX12_gather_47, m1, m3, m_ofPair, g1, g11, m_thr0, e_ws0, e_T, e_F, e_bnd, e_obr, e_obd, e_obt, e_addB, e_addA, e_in, e_cl, e_leT, e_leF, e_ltT, e_ltF, e_eqT, e_eqF, e_NOT, e_NOF, nI_add, pk_mul, k_spot, k_chan, m_node, m_pair, m_msg, m_chan, m_pack, e_w, e_wn, e_ws]
      · refine QR_thr (r := nI 0) 1 (by decide) ?_ ?_
        · simp (disch := first | omega | (simp only [pN, pP, pM, pE, pL, pC, pK, sp]; omega)) only [u_fX11_gather, u_fX11_gather_0, k1, k2, e_sbTN, hon, Bool.not_false, b2_t, e_obxl, e_T, e_F, e_bnd, e_obr, e_obd, e_obt, e_addB, e_addA, e_in, e_cl, e_leT, e_leF, e_ltT, e_ltF, e_eqT, e_eqF, e_NOT, e_NOF, nI_add, pk_mul, k_spot, k_chan, m_node, m_pair, m_msg, m_chan, m_pack, e_w, e_wn, e_ws]
          rw [cnd_neg (ne_bad (by omega) hx (show 0 < 4 by omega)), cnd_neg (ne_bad (by omega) hx (show 1 < 4 by omega)), cnd_neg (ne_bad (by omega) hx (show 2 < 4 by omega)), cnd_neg (ne_bad (by omega) hx (show 3 < 4 by omega))]
        · simp (disch := first | omega | (simp only [pN, pP, pM, pE, pL, pC, pK, sp]; omega)) only [u_fX12_gather, u_fX12_gather_0, u_fX12_gather_25, u_fX12_gather_47, m1, m3, m_ofPair, g1, m_thr0, m_thr1, e_ss, e_T, e_F, e_bnd, e_obr, e_obd, e_obt, e_addB, e_addA, e_in, e_cl, e_leT, e_leF, e_ltT, e_ltF, e_eqT, e_eqF, e_NOT, e_NOF, nI_add, pk_mul, k_spot, k_chan, m_node, m_pair, m_msg, m_chan, m_pack, e_w, e_wn, e_ws]; rfl
  · refine QR_thr (r := nI 0) 0 (by decide) ?_ ?_
    · rw [u_fX11_gather, u_fX11_gather_0, k1]
    · simp (disch := first | omega | (simp only [pN, pP, pM, pE, pL, pC, pK, sp]; omega)) only [u_fX12_gather, u_fX12_gather_0, m1, e_T, e_F, e_bnd, e_obr, e_obd, e_obt, e_addB, e_addA, e_in, e_cl, e_leT, e_leF, e_ltT, e_ltF, e_eqT, e_eqF, e_NOT, e_NOF, nI_add, pk_mul, k_spot, k_chan, m_node, m_pair, m_msg, m_chan, m_pack, e_w, e_wn, e_ws]; rfl
theorem o_when (h : R0 dr tk pl N G M T B Q Dl σ ω) (x1 x2 : Int32) : QR [0] kk2 (fX11_when x1 x2 σ) (fX12_when x1 x2 (sq u 1 ω)) σ u ω := by
  have h6 := h.1.1.1
  have hM20 := h.1.1.2.2.1
  rcases ck_pair h x1 x2 with ⟨n, m, hn, hm, rfl, rfl, k1, k2, m1⟩ | ⟨k1, m1⟩
  · have hsp : sp n m < 120 := by unfold sp; omega
    obtain ⟨⟨k, j1, j2, j3, -, j5⟩, -⟩ := h.2.2.1 n m (by omega) (by omega)
    by_cases hk : k = 3
    · subst hk
      obtain ⟨t, -, t1, t2⟩ := j5 rfl
      refine QR_val (r := nI t) ?_ ?_
      · simp (disch := first | omega | (simp only [pN, pP, pM, pE, pL, pC, pK, sp]; omega)) only [u_fX11_when, u_fX11_when_0, k1, k2, j2, t1, e_obxl, e_T, e_F, e_bnd, e_obr, e_obd, e_obt, e_addB, e_addA, e_in, e_cl, e_leT, e_leF, e_ltT, e_ltF, e_eqT, e_eqF, e_NOT, e_NOF, nI_add, pk_mul, k_spot, k_chan, m_node, m_pair, m_msg, m_chan, m_pack, e_w, e_wn, e_ws]
      · simp (disch := first | omega | (simp only [pN, pP, pM, pE, pL, pC, pK, sp]; omega)) only [u_fX12_when, u_fX12_when_0, m1, m_ofPair, j3, t2, m_thr0, e_ws0, e_T, e_F, e_bnd, e_obr, e_obd, e_obt, e_addB, e_addA, e_in, e_cl, e_leT, e_leF, e_ltT, e_ltF, e_eqT, e_eqF, e_NOT, e_NOF, nI_add, pk_mul, k_spot, k_chan, m_node, m_pair, m_msg, m_chan, m_pack, e_w, e_wn, e_ws]
    · refine QR_val (r := NO) ?_ ?_
      · simp (disch := first | omega | (simp only [pN, pP, pM, pE, pL, pC, pK, sp]; omega)) only [u_fX11_when, u_fX11_when_0, k1, k2, j2, e_obxl, e_T, e_F, e_bnd, e_obr, e_obd, e_obt, e_addB, e_addA, e_in, e_cl, e_leT, e_leF, e_ltT, e_ltF, e_eqT, e_eqF, e_NOT, e_NOF, nI_add, pk_mul, k_spot, k_chan, m_node, m_pair, m_msg, m_chan, m_pack, e_w, e_wn, e_ws]
      · simp (disch := first | omega | (simp only [pN, pP, pM, pE, pL, pC, pK, sp]; omega)) only [u_fX12_when, u_fX12_when_0, m1, m_ofPair, j3, m_thr0, e_ws0, e_T, e_F, e_bnd, e_obr, e_obd, e_obt, e_addB, e_addA, e_in, e_cl, e_leT, e_leF, e_ltT, e_ltF, e_eqT, e_eqF, e_NOT, e_NOF, nI_add, pk_mul, k_spot, k_chan, m_node, m_pair, m_msg, m_chan, m_pack, e_w, e_wn, e_ws]
  · refine QR_thr (r := nI 0) 0 (by decide) ?_ ?_
    · rw [u_fX11_when, u_fX11_when_0, k1]
    · simp (disch := first | omega | (simp only [pN, pP, pM, pE, pL, pC, pK, sp]; omega)) only [u_fX12_when, u_fX12_when_0, m1, e_T, e_F, e_bnd, e_obr, e_obd, e_obt, e_addB, e_addA, e_in, e_cl, e_leT, e_leF, e_ltT, e_ltF, e_eqT, e_eqF, e_NOT, e_NOF, nI_add, pk_mul, k_spot, k_chan, m_node, m_pair, m_msg, m_chan, m_pack, e_w, e_wn, e_ws]; rfl
theorem o_event (h : R0 dr tk pl N G M T B Q Dl σ ω) (x1 x2 : Int32) : QR [0, 1] kk2 (fX11_event x1 x2 σ) (fX12_event x1 x2 (sq u 1 ω)) σ u ω := by
  obtain ⟨E, e1, e2, e3, e4⟩ := h.2.2.2.2.2.1
  rcases ix x1 (n := E) (by omega) with hx | ⟨k, hk, rfl⟩
  · refine QR_thr (r := nI 0) 0 (by decide) ?_ ?_
    · simp (disch := first | omega | (simp only [pN, pP, pM, pE, pL, pC, pK, sp]; omega)) only [u_fX11_event, u_fX11_event_0, u_fX11_event_18, e2, e_T, e_F, e_bnd, e_obr, e_obd, e_obt, e_addB, e_addA, e_in, e_cl, e_leT, e_leF, e_ltT, e_ltF, e_eqT, e_eqF, e_NOT, e_NOF, nI_add, pk_mul, k_spot, k_chan, m_node, m_pair, m_msg, m_chan, m_pack, e_w, e_wn, e_ws]
      exact lt0 hx
    · simp (disch := first | omega | (simp only [pN, pP, pM, pE, pL, pC, pK, sp]; omega)) only [u_fX12_event, u_fX12_event_0, u_fX12_event_28, e_ws0, e3, m_in0 (show E < 1000000 by omega) hx, m_thr1, e_ss, e_T, e_F, e_bnd, e_obr, e_obd, e_obt, e_addB, e_addA, e_in, e_cl, e_leT, e_leF, e_ltT, e_ltF, e_eqT, e_eqF, e_NOT, e_NOF, nI_add, pk_mul, k_spot, k_chan, m_node, m_pair, m_msg, m_chan, m_pack, e_w, e_wn, e_ws]; rfl
  · obtain ⟨v0, ⟨n, hn, v1, v2⟩, v3⟩ := e4 k hk
    have v0 : ω (1587 + 4 * k + 0) = σ 31 k := v0.symm
    have v2 : ω (1587 + 4 * k + 2) = nI n := v2
    have hcr : fX2_isCrash (nI k) σ = some (b2 (decide (σ 33 k = NO))) := by
      simp (disch := first | omega | (simp only [pN, pP, pM, pE, pL, pC, pK, sp]; omega)) only [u_fX2_isCrash, u_fX2_isCrash_0, e_T, e_F, e_bnd, e_obr, e_obd, e_obt, e_addB, e_addA, e_in, e_cl, e_leT, e_leF, e_ltT, e_ltF, e_eqT, e_eqF, e_NOT, e_NOF, nI_add, pk_mul, k_spot, k_chan, m_node, m_pair, m_msg, m_chan, m_pack, e_w, e_wn, e_ws]
      by_cases q : σ 33 k = NO
      · rw [cnd_pos q, decide_eq_true q]; rfl
      · rw [cnd_neg q, decide_eq_false q]; rfl
    have mi := m_in1 (show E < 1000000 by omega) hk
    rcases ck_what3 x2 with ⟨w, hw, rfl, -, m3⟩ | ⟨-, m3, hx⟩
    · rcases (show w = 0 ∨ w = 1 ∨ w = 2 ∨ w = 3 by omega) with rfl | rfl | rfl | rfl
      · refine QR_val (r := σ 31 k) ?_ ?_
        · simp (disch := first | omega | (simp only [pN, pP, pM, pE, pL, pC, pK, sp]; omega)) only [u_fX11_event, u_fX11_event_0, e2, e_obxl, e_T, e_F, e_bnd, e_obr, e_obd, e_obt, e_addB, e_addA, e_in, e_cl, e_leT, e_leF, e_ltT, e_ltF, e_eqT, e_eqF, e_NOT, e_NOF, nI_add, pk_mul, k_spot, k_chan, m_node, m_pair, m_msg, m_chan, m_pack, e_w, e_wn, e_ws]
        · simp (disch := first | omega | (simp only [pN, pP, pM, pE, pL, pC, pK, sp]; omega)) only [u_fX12_event, u_fX12_event_0, u_fX12_event_28, u_fX12_event_50, e3, mi, m3, v0, m_thr0, e_ws0, e_T, e_F, e_bnd, e_obr, e_obd, e_obt, e_addB, e_addA, e_in, e_cl, e_leT, e_leF, e_ltT, e_ltF, e_eqT, e_eqF, e_NOT, e_NOF, nI_add, pk_mul, k_spot, k_chan, m_node, m_pair, m_msg, m_chan, m_pack, e_w, e_wn, e_ws]
      · rcases v3 with ⟨w1, w2, -⟩ | ⟨g, hg, w1, w2, -⟩
        · have w2 : ω (1587 + 4 * k + 1) = nI 1 := w2
          rw [decide_eq_true w1] at hcr
          refine QR_val (r := nI 1) ?_ ?_
          · simp (disch := first | omega | (simp only [pN, pP, pM, pE, pL, pC, pK, sp]; omega)) only [u_fX11_event, u_fX11_event_0, e2, e_sbTN, hcr, b2_t, e_obxl, e_T, e_F, e_bnd, e_obr, e_obd, e_obt, e_addB, e_addA, e_in, e_cl, e_leT, e_leF, e_ltT, e_ltF, e_eqT, e_eqF, e_NOT, e_NOF, nI_add, pk_mul, k_spot, k_chan, m_node, m_pair, m_msg, m_chan, m_pack, e_w, e_wn, e_ws]
          · simp (disch := first | omega | (simp only [pN, pP, pM, pE, pL, pC, pK, sp]; omega)) only [u_fX12_event, u_fX12_event_0, u_fX12_event_28, u_fX12_event_50, e3, mi, m3, w2, m_thr0, e_ws0, e_T, e_F, e_bnd, e_obr, e_obd, e_obt, e_addB, e_addA, e_in, e_cl, e_leT, e_leF, e_ltT, e_ltF, e_eqT, e_eqF, e_NOT, e_NOF, nI_add, pk_mul, k_spot, k_chan, m_node, m_pair, m_msg, m_chan, m_pack, e_w, e_wn, e_ws]
        · have w2 : ω (1587 + 4 * k + 1) = nI 0 := w2
          have hG := h.1.1.2.1
          rw [decide_eq_false (by rw [w1]; exact NO_ne (by omega))] at hcr
          refine QR_val (r := nI 0) ?_ ?_
          · simp (disch := first | omega | (simp only [pN, pP, pM, pE, pL, pC, pK, sp]; omega)) only [u_fX11_event, u_fX11_event_0, e2, e_sbTN, hcr, b2_f, e_obxl, e_T, e_F, e_bnd, e_obr, e_obd, e_obt, e_addB, e_addA, e_in, e_cl, e_leT, e_leF, e_ltT, e_ltF, e_eqT, e_eqF, e_NOT, e_NOF, nI_add, pk_mul, k_spot, k_chan, m_node, m_pair, m_msg, m_chan, m_pack, e_w, e_wn, e_ws]
          · simp (disch := first | omega | (simp only [pN, pP, pM, pE, pL, pC, pK, sp]; omega)) only [u_fX12_event, u_fX12_event_0, u_fX12_event_28, u_fX12_event_50, e3, mi, m3, w2, m_thr0, e_ws0, e_T, e_F, e_bnd, e_obr, e_obd, e_obt, e_addB, e_addA, e_in, e_cl, e_leT, e_leF, e_ltT, e_ltF, e_eqT, e_eqF, e_NOT, e_NOF, nI_add, pk_mul, k_spot, k_chan, m_node, m_pair, m_msg, m_chan, m_pack, e_w, e_wn, e_ws]
      · refine QR_val (r := nI n) ?_ ?_
        · simp (disch := first | omega | (simp only [pN, pP, pM, pE, pL, pC, pK, sp]; omega)) only [u_fX11_event, u_fX11_event_0, e2, v1, e_obxl, e_T, e_F, e_bnd, e_obr, e_obd, e_obt, e_addB, e_addA, e_in, e_cl, e_leT, e_leF, e_ltT, e_ltF, e_eqT, e_eqF, e_NOT, e_NOF, nI_add, pk_mul, k_spot, k_chan, m_node, m_pair, m_msg, m_chan, m_pack, e_w, e_wn, e_ws]
        · simp (disch := first | omega | (simp only [pN, pP, pM, pE, pL, pC, pK, sp]; omega)) only [u_fX12_event, u_fX12_event_0, u_fX12_event_28, u_fX12_event_50, e3, mi, m3, v2, m_thr0, e_ws0, e_T, e_F, e_bnd, e_obr, e_obd, e_obt, e_addB, e_addA, e_in, e_cl, e_leT, e_leF, e_ltT, e_ltF, e_eqT, e_eqF, e_NOT, e_NOF, nI_add, pk_mul, k_spot, k_chan, m_node, m_pair, m_msg, m_chan, m_pack, e_w, e_wn, e_ws]
      · rcases v3 with ⟨w1, -, w3⟩ | ⟨g, hg, w1, -, w3⟩
        · have w3 : ω (1587 + 4 * k + 3) = NO := w3
          refine QR_val (r := NO) ?_ ?_
          · simp (disch := first | omega | (simp only [pN, pP, pM, pE, pL, pC, pK, sp]; omega)) only [u_fX11_event, u_fX11_event_0, e2, w1, e_obxl, e_T, e_F, e_bnd, e_obr, e_obd, e_obt, e_addB, e_addA, e_in, e_cl, e_leT, e_leF, e_ltT, e_ltF, e_eqT, e_eqF, e_NOT, e_NOF, nI_add, pk_mul, k_spot, k_chan, m_node, m_pair, m_msg, m_chan, m_pack, e_w, e_wn, e_ws]
          · simp (disch := first | omega | (simp only [pN, pP, pM, pE, pL, pC, pK, sp]; omega)) only [u_fX12_event, u_fX12_event_0, u_fX12_event_28, u_fX12_event_50, e3, mi, m3, w3, m_thr0, e_ws0, e_T, e_F, e_bnd, e_obr, e_obd, e_obt, e_addB, e_addA, e_in, e_cl, e_leT, e_leF, e_ltT, e_ltF, e_eqT, e_eqF, e_NOT, e_NOF, nI_add, pk_mul, k_spot, k_chan, m_node, m_pair, m_msg, m_chan, m_pack, e_w, e_wn, e_ws]
        · have w3 : ω (1587 + 4 * k + 3) = nI g := w3
          refine QR_val (r := nI g) ?_ ?_
          · simp (disch := first | omega | (simp only [pN, pP, pM, pE, pL, pC, pK, sp]; omega)) only [u_fX11_event, u_fX11_event_0, e2, w1, e_obxl, e_T, e_F, e_bnd, e_obr, e_obd, e_obt, e_addB, e_addA, e_in, e_cl, e_leT, e_leF, e_ltT, e_ltF, e_eqT, e_eqF, e_NOT, e_NOF, nI_add, pk_mul, k_spot, k_chan, m_node, m_pair, m_msg, m_chan, m_pack, e_w, e_wn, e_ws]
          · simp (disch := first | omega | (simp only [pN, pP, pM, pE, pL, pC, pK, sp]; omega)) only [u_fX12_event, u_fX12_event_0, u_fX12_event_28, u_fX12_event_50, e3, mi, m3, w3, m_thr0, e_ws0, e_T, e_F, e_bnd, e_obr, e_obd, e_obt, e_addB, e_addA, e_in, e_cl, e_leT, e_leF, e_ltT, e_ltF, e_eqT, e_eqF, e_NOT, e_NOF, nI_add, pk_mul, k_spot, k_chan, m_node, m_pair, m_msg, m_chan, m_pack, e_w, e_wn, e_ws]
    · refine QR_thr (r := nI 0) 1 (by decide) ?_ ?_
      · simp (disch := first | omega | (simp only [pN, pP, pM, pE, pL, pC, pK, sp]; omega)) only [u_fX11_event, u_fX11_event_0, e2, e_T, e_F, e_bnd, e_obr, e_obd, e_obt, e_addB, e_addA, e_in, e_cl, e_leT, e_leF, e_ltT, e_ltF, e_eqT, e_eqF, e_NOT, e_NOF, nI_add, pk_mul, k_spot, k_chan, m_node, m_pair, m_msg, m_chan, m_pack, e_w, e_wn, e_ws]
        rw [cnd_neg (ne_bad (by omega) hx (show 0 < 4 by omega)), cnd_neg (ne_bad (by omega) hx (show 1 < 4 by omega)), cnd_neg (ne_bad (by omega) hx (show 2 < 4 by omega)), cnd_neg (ne_bad (by omega) hx (show 3 < 4 by omega))]
      · simp (disch := first | omega | (simp only [pN, pP, pM, pE, pL, pC, pK, sp]; omega)) only [u_fX12_event, u_fX12_event_0, u_fX12_event_28, u_fX12_event_50, e_ws0, e3, mi, m3, m_thr0, m_thr1, e_ss, e_T, e_F, e_bnd, e_obr, e_obd, e_obt, e_addB, e_addA, e_in, e_cl, e_leT, e_leF, e_ltT, e_ltF, e_eqT, e_eqF, e_NOT, e_NOF, nI_add, pk_mul, k_spot, k_chan, m_node, m_pair, m_msg, m_chan, m_pack, e_w, e_wn, e_ws]; rfl
theorem o_log (h : R0 True tk pl N G M T B Q Dl σ ω) (x1 x2 : Int32) : QR [1] kkL (fX11_log x1 x2 σ) (fX12_log x1 x2 (sq u 1 ω)) σ u ω := by
  obtain ⟨st, nx, a1, a2, a3, a4, a5⟩ := h.2.2.2.2.2.2.1
  obtain ⟨b1, b2'⟩ := a5 trivial
  rcases ck_what3 x2 with ⟨w, hw, rfl, k3, m3⟩ | ⟨k3, m3, hx⟩
  · rcases ix x1 (n := st) (by omega) with hx | ⟨a, ha, rfl⟩
    · refine QR_val (r := NO) ?_ ?_
      · simp (disch := first | omega | (simp only [pN, pP, pM, pE, pL, pC, pK, sp]; omega)) only [u_fX11_log, u_fX11_log_0, k3, e_obxl, a3, e_T, e_F, e_bnd, e_obr, e_obd, e_obt, e_addB, e_addA, e_in, e_cl, e_leT, e_leF, e_ltT, e_ltF, e_eqT, e_eqF, e_NOT, e_NOF, nI_add, pk_mul, k_spot, k_chan, m_node, m_pair, m_msg, m_chan, m_pack, e_w, e_wn, e_ws]
        exact lt0 hx
      · simp (disch := first | omega | (simp only [pN, pP, pM, pE, pL, pC, pK, sp]; omega)) only [u_fX12_log, u_fX12_log_0, u_fX12_log_20, m3, m_thr0, e_ws0, b1, m_in0 (show st < 1000000 by omega) hx, e_T, e_F, e_bnd, e_obr, e_obd, e_obt, e_addB, e_addA, e_in, e_cl, e_leT, e_leF, e_ltT, e_ltF, e_eqT, e_eqF, e_NOT, e_NOF, nI_add, pk_mul, k_spot, k_chan, m_node, m_pair, m_msg, m_chan, m_pack, e_w, e_wn, e_ws]
    · have hv := b2' a w ha (by omega)
      have hv : ω (1619 + 4 * a + w) = σ 35 (4 * ((nx + 119 - a) % 60) + w) := hv
      have hm := Nat.mod_lt (nx + 119 - a) (y := 60) (by omega)
      have hcell : fX5_cell (nI a) (nI w) σ = some (σ 35 (4 * ((nx + 119 - a) % 60) + w)) := by
        simp (disch := first | omega | (simp only [pN, pP, pM, pE, pL, pC, pK, sp]; omega)) only [u_fX5_cell, u_fX5_cell_0, a4, e_T, e_F, e_bnd, e_obr, e_obd, e_obt, e_addB, e_addA, e_in, e_cl, e_leT, e_leF, e_ltT, e_ltF, e_eqT, e_eqF, e_NOT, e_NOF, nI_add, pk_mul, k_spot, k_chan, m_node, m_pair, m_msg, m_chan, m_pack, e_w, e_wn, e_ws]
        rw [ago_v (by omega), pk_rem (by omega) (by omega) (by omega), pk_mul, nI_add, e_in (by omega) (by omega), e_cl (by omega), Nat.mul_comm]
      refine QR_val (r := σ 35 (4 * ((nx + 119 - a) % 60) + w)) ?_ ?_
      · simp (disch := first | omega | (simp only [pN, pP, pM, pE, pL, pC, pK, sp]; omega)) only [u_fX11_log, u_fX11_log_0, k3, a3, e_sbTN, hcell, e_obxl, e_T, e_F, e_bnd, e_obr, e_obd, e_obt, e_addB, e_addA, e_in, e_cl, e_leT, e_leF, e_ltT, e_ltF, e_eqT, e_eqF, e_NOT, e_NOF, nI_add, pk_mul, k_spot, k_chan, m_node, m_pair, m_msg, m_chan, m_pack, e_w, e_wn, e_ws]
      · simp (disch := first | omega | (simp only [pN, pP, pM, pE, pL, pC, pK, sp]; omega)) only [u_fX12_log, u_fX12_log_0, u_fX12_log_20, m3, b1, m_in1 (show st < 1000000 by omega) ha, hv, m_thr0, e_ws0, e_T, e_F, e_bnd, e_obr, e_obd, e_obt, e_addB, e_addA, e_in, e_cl, e_leT, e_leF, e_ltT, e_ltF, e_eqT, e_eqF, e_NOT, e_NOF, nI_add, pk_mul, k_spot, k_chan, m_node, m_pair, m_msg, m_chan, m_pack, e_w, e_wn, e_ws]
  · refine QR_thr (r := nI 0) 1 (by decide) ?_ ?_
    · simp (disch := first | omega | (simp only [pN, pP, pM, pE, pL, pC, pK, sp]; omega)) only [u_fX11_log, u_fX11_log_0, k3, e_obxl, e_obxr, e_T, e_F, e_bnd, e_obr, e_obd, e_obt, e_addB, e_addA, e_in, e_cl, e_leT, e_leF, e_ltT, e_ltF, e_eqT, e_eqF, e_NOT, e_NOF, nI_add, pk_mul, k_spot, k_chan, m_node, m_pair, m_msg, m_chan, m_pack, e_w, e_wn, e_ws]
    · simp (disch := first | omega | (simp only [pN, pP, pM, pE, pL, pC, pK, sp]; omega)) only [u_fX12_log, u_fX12_log_0, u_fX12_log_20, m3, m_thr0, m_thr1, e_ws0, e_ss, e_T, e_F, e_bnd, e_obr, e_obd, e_obt, e_addB, e_addA, e_in, e_cl, e_leT, e_leF, e_ltT, e_ltF, e_eqT, e_eqF, e_NOT, e_NOF, nI_add, pk_mul, k_spot, k_chan, m_node, m_pair, m_msg, m_chan, m_pack, e_w, e_wn, e_ws]; rfl
theorem o_knot (h : R0 dr tk pl N G M T B Q Dl σ ω) (x1 x2 : Int32) : QR [0, 3] kk2 (fX11_knot x1 x2 σ) (fX12_knot x1 x2 (sq u 1 ω)) σ u ω := by
  have hG := h.1.1.2.1
  have hg := h.1.2.2.2.2.2.2.2.2.2.2.1
  rcases ck_group h.1.2.2.1.1 h.1.2.2.1.2 hG x1 with ⟨i, hi, rfl, k1, m1⟩ | ⟨k1, m1⟩
  · rcases ck_group h.1.2.2.1.1 h.1.2.2.1.2 hG x2 with ⟨j, hj, rfl, k2, m2⟩ | ⟨k2, m2⟩
    · by_cases hij : i = j
      · subst hij
        refine QR_thr (r := nI 0) 3 (by decide) ?_ ?_
        · simp (disch := first | omega | (simp only [pN, pP, pM, pE, pL, pC, pK, sp]; omega)) only [u_fX11_knot, u_fX11_knot_0, u_fX11_needTwo, u_fX11_needTwo_0, k1, e_obxl, e_obxr, e_T, e_F, e_bnd, e_obr, e_obd, e_obt, e_addB, e_addA, e_in, e_cl, e_leT, e_leF, e_ltT, e_ltF, e_eqT, e_eqF, e_NOT, e_NOF, nI_add, pk_mul, k_spot, k_chan, m_node, m_pair, m_msg, m_chan, m_pack, e_w, e_wn, e_ws]
        · simp (disch := first | omega | (simp only [pN, pP, pM, pE, pL, pC, pK, sp]; omega)) only [u_fX12_knot, u_fX12_knot_0, u_fX12_knot_27, u_fX12_knot_45, m1, m_thr0, m_thr1, e_ws0, e_ss, e_T, e_F, e_bnd, e_obr, e_obd, e_obt, e_addB, e_addA, e_in, e_cl, e_leT, e_leF, e_ltT, e_ltF, e_eqT, e_eqF, e_NOT, e_NOF, nI_add, pk_mul, k_spot, k_chan, m_node, m_pair, m_msg, m_chan, m_pack, e_w, e_wn, e_ws]; rfl
      · have g1 := hg i (by omega)
        have g2 := hg j (by omega)
        refine QR_val (r := σ 1 i &&& σ 1 j) ?_ ?_
        · simp (disch := first | omega | (simp only [pN, pP, pM, pE, pL, pC, pK, sp]; omega)) only [u_fX11_knot, u_fX11_knot_0, u_fX11_needTwo, u_fX11_needTwo_0, k1, k2, e_obxl, e_T, e_F, e_bnd, e_obr, e_obd, e_obt, e_addB, e_addA, e_in, e_cl, e_leT, e_leF, e_ltT, e_ltF, e_eqT, e_eqF, e_NOT, e_NOF, nI_add, pk_mul, k_spot, k_chan, m_node, m_pair, m_msg, m_chan, m_pack, e_w, e_wn, e_ws]
        · simp (disch := first | omega | (simp only [pN, pP, pM, pE, pL, pC, pK, sp]; omega)) only [u_fX12_knot, u_fX12_knot_0, u_fX12_knot_27, u_fX12_knot_45, m1, m2, ← g1, ← g2, m_thr0, e_ws0, e_T, e_F, e_bnd, e_obr, e_obd, e_obt, e_addB, e_addA, e_in, e_cl, e_leT, e_leF, e_ltT, e_ltF, e_eqT, e_eqF, e_NOT, e_NOF, nI_add, pk_mul, k_spot, k_chan, m_node, m_pair, m_msg, m_chan, m_pack, e_w, e_wn, e_ws]
    · refine QR_thr (r := nI 0) 0 (by decide) ?_ ?_
      · simp (disch := first | omega | (simp only [pN, pP, pM, pE, pL, pC, pK, sp]; omega)) only [u_fX11_knot, u_fX11_knot_0, k1, k2, e_obxl, e_obxr, e_T, e_F, e_bnd, e_obr, e_obd, e_obt, e_addB, e_addA, e_in, e_cl, e_leT, e_leF, e_ltT, e_ltF, e_eqT, e_eqF, e_NOT, e_NOF, nI_add, pk_mul, k_spot, k_chan, m_node, m_pair, m_msg, m_chan, m_pack, e_w, e_wn, e_ws]
      · simp (disch := first | omega | (simp only [pN, pP, pM, pE, pL, pC, pK, sp]; omega)) only [u_fX12_knot, u_fX12_knot_0, u_fX12_knot_22, u_fX12_knot_27, m1, m2, m_thr0, m_thr1, e_ws0, e_ss, e_T, e_F, e_bnd, e_obr, e_obd, e_obt, e_addB, e_addA, e_in, e_cl, e_leT, e_leF, e_ltT, e_ltF, e_eqT, e_eqF, e_NOT, e_NOF, nI_add, pk_mul, k_spot, k_chan, m_node, m_pair, m_msg, m_chan, m_pack, e_w, e_wn, e_ws]; rfl
  · refine QR_thr (r := nI 0) 0 (by decide) ?_ ?_
    · simp (disch := first | omega | (simp only [pN, pP, pM, pE, pL, pC, pK, sp]; omega)) only [u_fX11_knot, u_fX11_knot_0, k1, e_obxl, e_obxr, e_T, e_F, e_bnd, e_obr, e_obd, e_obt, e_addB, e_addA, e_in, e_cl, e_leT, e_leF, e_ltT, e_ltF, e_eqT, e_eqF, e_NOT, e_NOF, nI_add, pk_mul, k_spot, k_chan, m_node, m_pair, m_msg, m_chan, m_pack, e_w, e_wn, e_ws]
    · simp (disch := first | omega | (simp only [pN, pP, pM, pE, pL, pC, pK, sp]; omega)) only [u_fX12_knot, u_fX12_knot_0, u_fX12_knot_22, u_fX12_knot_27, m1, m_thr0, m_thr1, e_ws0, e_ss, e_T, e_F, e_bnd, e_obr, e_obd, e_obt, e_addB, e_addA, e_in, e_cl, e_leT, e_leF, e_ltT, e_ltF, e_eqT, e_eqF, e_NOT, e_NOF, nI_add, pk_mul, k_spot, k_chan, m_node, m_pair, m_msg, m_chan, m_pack, e_w, e_wn, e_ws]; rfl
theorem o_outside (h : R0 dr tk pl N G M T B Q Dl σ ω) (x1 : Int32) : QR [0] kk2 (fX11_outside x1 σ) (fX12_outside x1 (sq u 1 ω)) σ u ω := by
  have hM20 := h.1.1.2.2.1
  rcases ck_msg h.1.2.2.2.1.1 h.1.2.2.2.1.2 hM20 x1 with ⟨m, hm, rfl, k1, m1⟩ | ⟨k1, m1⟩
  · obtain ⟨⟨q1, q2, -, -, q5⟩, -⟩ := h.2.2.2.2.1 m (by omega)
    refine QR_val (r := σ 18 m &&& ((σ 15 m ||| sh1 (σ 14 m)) ^^^ NO)) ?_ ?_
    · simp (disch := first | omega | (simp only [pN, pP, pM, pE, pL, pC, pK, sp]; omega)) only [u_fX11_outside, u_fX11_outside_0, k1, e_obxl, e_T, e_F, e_bnd, e_obr, e_obd, e_obt, e_addB, e_addA, e_in, e_cl, e_leT, e_leF, e_ltT, e_ltF, e_eqT, e_eqF, e_NOT, e_NOF, nI_add, pk_mul, k_spot, k_chan, m_node, m_pair, m_msg, m_chan, m_pack, e_w, e_wn, e_ws]; rfl
    · simp (disch := first | omega | (simp only [pN, pP, pM, pE, pL, pC, pK, sp]; omega)) only [u_fX12_outside, u_fX12_outside_0, m1, m_thr0, e_ws0, m_ofMsg, ← q1, ← q2, ← q5, e_T, e_F, e_bnd, e_obr, e_obd, e_obt, e_addB, e_addA, e_in, e_cl, e_leT, e_leF, e_ltT, e_ltF, e_eqT, e_eqF, e_NOT, e_NOF, nI_add, pk_mul, k_spot, k_chan, m_node, m_pair, m_msg, m_chan, m_pack, e_w, e_wn, e_ws]
      congr 2
      apply b_ext
      intro i hi
      simp only [b_and, b_or, b_not _ hi]
      cases bt (σ 18 m) i <;> cases bt (σ 15 m) i <;> cases bt (sh1 (σ 14 m)) i <;> rfl
  · refine QR_thr (r := nI 0) 0 (by decide) ?_ ?_
    · simp (disch := first | omega | (simp only [pN, pP, pM, pE, pL, pC, pK, sp]; omega)) only [u_fX11_outside, u_fX11_outside_0, k1, e_obxl, e_obxr, e_T, e_F, e_bnd, e_obr, e_obd, e_obt, e_addB, e_addA, e_in, e_cl, e_leT, e_leF, e_ltT, e_ltF, e_eqT, e_eqF, e_NOT, e_NOF, nI_add, pk_mul, k_spot, k_chan, m_node, m_pair, m_msg, m_chan, m_pack, e_w, e_wn, e_ws]
    · simp (disch := first | omega | (simp only [pN, pP, pM, pE, pL, pC, pK, sp]; omega)) only [u_fX12_outside, u_fX12_outside_0, m1, m_thr0, m_thr1, e_ws0, e_ss, e_T, e_F, e_bnd, e_obr, e_obd, e_obt, e_addB, e_addA, e_in, e_cl, e_leT, e_leF, e_ltT, e_ltF, e_eqT, e_eqF, e_NOT, e_NOF, nI_add, pk_mul, k_spot, k_chan, m_node, m_pair, m_msg, m_chan, m_pack, e_w, e_wn, e_ws]; rfl
theorem o_spared (h : R0 dr tk pl N G M T B Q Dl σ ω) (x1 : Int32) : QR [0] kk2 (fX11_spared x1 σ) (fX12_spared x1 (sq u 1 ω)) σ u ω := by
  have hM20 := h.1.1.2.2.1
  rcases ck_msg h.1.2.2.2.1.1 h.1.2.2.2.1.2 hM20 x1 with ⟨m, hm, rfl, k1, m1⟩ | ⟨k1, m1⟩
  · obtain ⟨⟨-, q2, q3, -, -⟩, -⟩ := h.2.2.2.2.1 m (by omega)
    refine QR_val (r := (nI 3 * fJ6_bitCount_0f7a4 (σ 15 m)) - σ 16 m) ?_ ?_
    · simp (disch := first | omega | (simp only [pN, pP, pM, pE, pL, pC, pK, sp]; omega)) only [u_fX11_spared, u_fX11_spared_0, k1, e_obxl, e_T, e_F, e_bnd, e_obr, e_obd, e_obt, e_addB, e_addA, e_in, e_cl, e_leT, e_leF, e_ltT, e_ltF, e_eqT, e_eqF, e_NOT, e_NOF, nI_add, pk_mul, k_spot, k_chan, m_node, m_pair, m_msg, m_chan, m_pack, e_w, e_wn, e_ws]
    · simp (disch := first | omega | (simp only [pN, pP, pM, pE, pL, pC, pK, sp]; omega)) only [u_fX12_spared, u_fX12_spared_0, m1, m_ofMsg, ← q2, ← q3, m_thr0, e_ws0, e_T, e_F, e_bnd, e_obr, e_obd, e_obt, e_addB, e_addA, e_in, e_cl, e_leT, e_leF, e_ltT, e_ltF, e_eqT, e_eqF, e_NOT, e_NOF, nI_add, pk_mul, k_spot, k_chan, m_node, m_pair, m_msg, m_chan, m_pack, e_w, e_wn, e_ws]
  · refine QR_thr (r := nI 0) 0 (by decide) ?_ ?_
    · simp (disch := first | omega | (simp only [pN, pP, pM, pE, pL, pC, pK, sp]; omega)) only [u_fX11_spared, u_fX11_spared_0, k1, e_obxl, e_obxr, e_T, e_F, e_bnd, e_obr, e_obd, e_obt, e_addB, e_addA, e_in, e_cl, e_leT, e_leF, e_ltT, e_ltF, e_eqT, e_eqF, e_NOT, e_NOF, nI_add, pk_mul, k_spot, k_chan, m_node, m_pair, m_msg, m_chan, m_pack, e_w, e_wn, e_ws]
    · simp (disch := first | omega | (simp only [pN, pP, pM, pE, pL, pC, pK, sp]; omega)) only [u_fX12_spared, u_fX12_spared_0, m1, m_thr0, m_thr1, e_ws0, e_ss, e_T, e_F, e_bnd, e_obr, e_obd, e_obt, e_addB, e_addA, e_in, e_cl, e_leT, e_leF, e_ltT, e_ltF, e_eqT, e_eqF, e_NOT, e_NOF, nI_add, pk_mul, k_spot, k_chan, m_node, m_pair, m_msg, m_chan, m_pack, e_w, e_wn, e_ws]; rfl
theorem o_fault (h : σ 36 7 = u 0 11) : QR [] kk2 (fX11_fault σ) (fX12_fault (sq u 1 ω)) σ u ω := by
  refine QR_val (r := σ 36 7) rfl ?_
  simp (disch := first | omega | (simp only [pN, pP, pM, pE, pL, pC, pK, sp]; omega)) only [u_fX12_fault, u_fX12_fault_0, e_ws0, e_T, e_F, e_bnd, e_obr, e_obd, e_obt, e_addB, e_addA, e_in, e_cl, e_leT, e_leF, e_ltT, e_ltF, e_eqT, e_eqF, e_NOT, e_NOF, nI_add, pk_mul, k_spot, k_chan, m_node, m_pair, m_msg, m_chan, m_pack, e_w, e_wn, e_ws, e_s2, e_s2n, pk_us, pk_un]
  rw [h]
end A2
