/-! packets, counts, rings -/
section PK
variable {dr : Prop} {tk : Int32} {pl N G M T B : Nat} {Q : Qs} {Dl : Nat → List Nat} {u σ : Sg} {ω : Nat → Int32}
theorem k_cellAt_lp {U k : Nat} (hU : 6 * U ≤ pl) (hpl : pl ≤ 50000) (hk : k ≤ 1000) : ∀ (d j f : Nat) (l : List Nat) (q : List Pk) (x : Int32), j + d = k → d < f → lnk (σ 10) x l → cells (σ 10) l q → (∀ i, i ∈ l → i < U) → d < l.length → ∃ i p, q[d]? = some p ∧ fX1_cellAt_10 pl σ f (nI k) x (nI j) = some (nI (6 * i)) ∧ i < U ∧ cI6 (σ 10) i p := by
  intro d
  induction d with
  | zero =>
    intro j f l q x hj hf hl hc hm hd
    obtain ⟨f, rfl⟩ : ∃ g, f = g + 1 := ⟨f - 1, by omega⟩
    have hj : j = k := by omega
    subst hj
    cases l with
    | nil => simp at hd
    | cons i is =>
      cases q with
      | nil => exact hc.elim
      | cons p ps =>
        refine ⟨i, p, rfl, ?_, hm i List.mem_cons_self, hc.1⟩
        rw [hl.1]
        simp (disch := first | omega | (simp only [pN, pP, pM, pE, pL, pC, pK, sp]; omega)) only [u_fX1_cellAt_10, e_T, e_F, e_bnd, e_obr, e_obd, e_obt, e_addB, e_addA, e_in, e_cl, e_leT, e_leF, e_ltT, e_ltF, e_eqT, e_eqF, e_NOT, e_NOF, nI_add, pk_mul, k_spot, k_chan, m_node, m_pair, m_msg, m_chan, m_pack, e_w, e_wn, e_ws]
  | succ d ih =>
    intro j f l q x hj hf hl hc hm hd
    obtain ⟨f, rfl⟩ : ∃ g, f = g + 1 := ⟨f - 1, by omega⟩
    cases l with
    | nil => simp at hd
    | cons i is =>
      cases q with
      | nil => exact hc.elim
      | cons p ps =>
        have hi := hm i List.mem_cons_self
        obtain ⟨i', p', t1, t2, t3, t4⟩ := ih (j + 1) f is ps (σ 10 (6 * i + 5)) (by omega) (by omega) hl.2 hc.2 (fun z hz => hm z (List.mem_cons_of_mem _ hz)) (by simpa using hd)
        refine ⟨i', p', by rw [List.getElem?_cons_succ]; exact t1, ?_, t3, t4⟩
        rw [hl.1]
        simp (disch := first | omega | (simp only [pN, pP, pM, pE, pL, pC, pK, sp]; omega)) only [u_fX1_cellAt_10, t2, e_T, e_F, e_bnd, e_obr, e_obd, e_obt, e_addB, e_addA, e_in, e_cl, e_leT, e_leF, e_ltT, e_ltF, e_eqT, e_eqF, e_NOT, e_NOF, nI_add, pk_mul, k_spot, k_chan, m_node, m_pair, m_msg, m_chan, m_pack, e_w, e_wn, e_ws]
theorem k_cellAt {c k : Nat} (hO : rO pl Q σ) (hc : c < 36) (hk : k < (Q c).length) (hk2 : k ≤ 1000) : ∃ i p, (Q c)[k]? = some p ∧ fX1_cellAt pl (nI c) (nI k) σ = some (nI (6 * i)) ∧ 6 * i + 5 < pl ∧ pl ≤ 50000 ∧ cI6 (σ 10) i p := by
  obtain ⟨C, F, U, a1, a2, a3, a4, a5, a6, a7, a8, a9⟩ := hO
  obtain ⟨b1, b2, b3, b4, b5, b6⟩ := a9 c hc
  obtain ⟨i, p, t1, t2, t3, t4⟩ := k_cellAt_lp a2 a3 hk2 k 0 FU (C c) (Q c) (σ 11 c) (by omega) (by show k < 100000; omega) b3 b6 (fun i hi => (b2 i hi).1) (by rw [cells_len b6]; exact hk)
  refine ⟨i, p, t1, ?_, by omega, a3, t4⟩
  simp (disch := first | omega | (simp only [pN, pP, pM, pE, pL, pC, pK, sp]; omega)) only [u_fX1_cellAt, u_fX1_cellAt_0, t2, e_T, e_F, e_bnd, e_obr, e_obd, e_obt, e_addB, e_addA, e_in, e_cl, e_leT, e_leF, e_ltT, e_ltF, e_eqT, e_eqF, e_NOT, e_NOF, nI_add, pk_mul, k_spot, k_chan, m_node, m_pair, m_msg, m_chan, m_pack, e_w, e_wn, e_ws]
theorem o_packet (h : R0 dr tk pl N G M T B Q Dl σ ω) (hlen : ∀ c, c < 36 → (Q c).length ≤ 100) (x1 x2 x3 x4 : Int32) : QR [0, 1] kk2 (fX11_packet pl x1 x2 x3 x4 σ) (fX12_packet x1 x2 x3 x4 (sq u 1 ω)) σ u ω := by
  have h6 := h.1.1.1
  rcases ck_two h x1 x2 with ⟨n, m, hn, hm, rfl, rfl, k1, k2, m1⟩ | ⟨k1, m1⟩
  · have hc : 6 * n + m < 36 := by omega
    obtain ⟨-, -, -, y6, y7⟩ := h.2.2.2.2.2.2.2.1 (6 * n + m) hc
    have hsz := k_size h.2.2.2.2.2.2.2.2.2.1 hc
    have hl := hlen (6 * n + m) hc
    rcases ix x3 (n := (Q (6 * n + m)).length) (by omega) with hx | ⟨k, hk, rfl⟩
    · refine QR_thr (r := nI 0) 0 (by decide) ?_ ?_
      · simp (disch := first | omega | (simp only [pN, pP, pM, pE, pL, pC, pK, sp]; omega)) only [u_fX11_packet, u_fX11_packet_0, u_fX11_packet_38, k1, k2, e_obxl, hsz, e_T, e_F, e_bnd, e_obr, e_obd, e_obt, e_addB, e_addA, e_in, e_cl, e_leT, e_leF, e_ltT, e_ltF, e_eqT, e_eqF, e_NOT, e_NOF, nI_add, pk_mul, k_spot, k_chan, m_node, m_pair, m_msg, m_chan, m_pack, e_w, e_wn, e_ws]
        exact lt0 hx
      · simp (disch := first | omega | (simp only [pN, pP, pM, pE, pL, pC, pK, sp]; omega)) only [u_fX12_packet, u_fX12_packet_0, u_fX12_packet_32, m1, m_ofCh, y6, m_in0 (show (Q (6 * n + m)).length < 1000000 by omega) hx, m_thr0, m_thr1, e_ws0, e_ss, e_T, e_F, e_bnd, e_obr, e_obd, e_obt, e_addB, e_addA, e_in, e_cl, e_leT, e_leF, e_ltT, e_ltF, e_eqT, e_eqF, e_NOT, e_NOF, nI_add, pk_mul, k_spot, k_chan, m_node, m_pair, m_msg, m_chan, m_pack, e_w, e_wn, e_ws]; rfl
    · obtain ⟨i, p, t1, t2, t3, t4, ⟨c0, c1, c2, c3, c4⟩⟩ := k_cellAt h.2.2.2.2.2.2.2.2.2.1 hc hk (by omega)
      obtain ⟨v0, v1, v2, v3, v4, v5⟩ := y7 k p t1
      have mi := m_in1 (show (Q (6 * n + m)).length < 1000000 by omega) hk
      rcases ix x4 (n := 5) (by omega) with hx | ⟨w, hw, rfl⟩
      · have m3 := m_inB (n := 4) (by omega) hx
        refine QR_thr (r := nI 0) 1 (by decide) ?_ ?_
        · simp (disch := first | omega | (simp only [pN, pP, pM, pE, pL, pC, pK, sp]; omega)) only [u_fX11_packet, u_fX11_packet_0, k1, k2, e_obxl, hsz, e_sbTN, t2, e_T, e_F, e_bnd, e_obr, e_obd, e_obt, e_addB, e_addA, e_in, e_cl, e_leT, e_leF, e_ltT, e_ltF, e_eqT, e_eqF, e_NOT, e_NOF, nI_add, pk_mul, k_spot, k_chan, m_node, m_pair, m_msg, m_chan, m_pack, e_w, e_wn, e_ws]
          rw [cnd_neg (ne_bad (by omega) hx (show 0 < 5 by omega)), cnd_neg (ne_bad (by omega) hx (show 1 < 5 by omega)), cnd_neg (ne_bad (by omega) hx (show 2 < 5 by omega)), cnd_neg (ne_bad (by omega) hx (show 3 < 5 by omega)), cnd_neg (ne_bad (by omega) hx (show 4 < 5 by omega))]
        · simp (disch := first | omega | (simp only [pN, pP, pM, pE, pL, pC, pK, sp]; omega)) only [u_fX12_packet, u_fX12_packet_0, u_fX12_packet_32, u_fX12_packet_55, m1, m_ofCh, y6, mi, m3, m_thr0, m_thr1, e_ws0, e_ss, e_T, e_F, e_bnd, e_obr, e_obd, e_obt, e_addB, e_addA, e_in, e_cl, e_leT, e_leF, e_ltT, e_ltF, e_eqT, e_eqF, e_NOT, e_NOF, nI_add, pk_mul, k_spot, k_chan, m_node, m_pair, m_msg, m_chan, m_pack, e_w, e_wn, e_ws]; rfl
      · have m3 := m_inG (n := 4) (j := w) (by omega) (by omega)
        rcases (show w = 0 ∨ w = 1 ∨ w = 2 ∨ w = 3 ∨ w = 4 by omega) with rfl | rfl | rfl | rfl | rfl
        · refine QR_val (r := p.1) ?_ ?_
          · simp (disch := first | omega | (simp only [pN, pP, pM, pE, pL, pC, pK, sp]; omega)) only [u_fX11_packet, u_fX11_packet_0, k1, k2, hsz, e_sbTN, t2, Nat.add_zero, c0, e_obxl, e_T, e_F, e_bnd, e_obr, e_obd, e_obt, e_addB, e_addA, e_in, e_cl, e_leT, e_leF, e_ltT, e_ltF, e_eqT, e_eqF, e_NOT, e_NOF, nI_add, pk_mul, k_spot, k_chan, m_node, m_pair, m_msg, m_chan, m_pack, e_w, e_wn, e_ws]
          · simp (disch := first | omega | (simp only [pN, pP, pM, pE, pL, pC, pK, sp]; omega)) only [u_fX12_packet, u_fX12_packet_0, u_fX12_packet_32, u_fX12_packet_55, m1, m_ofCh, y6, mi, m3, v0, m_thr0, e_ws0, e_T, e_F, e_bnd, e_obr, e_obd, e_obt, e_addB, e_addA, e_in, e_cl, e_leT, e_leF, e_ltT, e_ltF, e_eqT, e_eqF, e_NOT, e_NOF, nI_add, pk_mul, k_spot, k_chan, m_node, m_pair, m_msg, m_chan, m_pack, e_w, e_wn, e_ws]
        · refine QR_val (r := nI p.2.1) ?_ ?_
          · simp (disch := first | omega | (simp only [pN, pP, pM, pE, pL, pC, pK, sp]; omega)) only [u_fX11_packet, u_fX11_packet_0, k1, k2, hsz, e_sbTN, t2, c1, e_obxl, e_T, e_F, e_bnd, e_obr, e_obd, e_obt, e_addB, e_addA, e_in, e_cl, e_leT, e_leF, e_ltT, e_ltF, e_eqT, e_eqF, e_NOT, e_NOF, nI_add, pk_mul, k_spot, k_chan, m_node, m_pair, m_msg, m_chan, m_pack, e_w, e_wn, e_ws]
          · simp (disch := first | omega | (simp only [pN, pP, pM, pE, pL, pC, pK, sp]; omega)) only [u_fX12_packet, u_fX12_packet_0, u_fX12_packet_32, u_fX12_packet_55, m1, m_ofCh, y6, mi, m3, v1, m_thr0, e_ws0, e_T, e_F, e_bnd, e_obr, e_obd, e_obt, e_addB, e_addA, e_in, e_cl, e_leT, e_leF, e_ltT, e_ltF, e_eqT, e_eqF, e_NOT, e_NOF, nI_add, pk_mul, k_spot, k_chan, m_node, m_pair, m_msg, m_chan, m_pack, e_w, e_wn, e_ws]
        · refine QR_val (r := nI p.2.2.1) ?_ ?_
          · simp (disch := first | omega | (simp only [pN, pP, pM, pE, pL, pC, pK, sp]; omega)) only [u_fX11_packet, u_fX11_packet_0, k1, k2, hsz, e_sbTN, t2, c2, e_obxl, e_T, e_F, e_bnd, e_obr, e_obd, e_obt, e_addB, e_addA, e_in, e_cl, e_leT, e_leF, e_ltT, e_ltF, e_eqT, e_eqF, e_NOT, e_NOF, nI_add, pk_mul, k_spot, k_chan, m_node, m_pair, m_msg, m_chan, m_pack, e_w, e_wn, e_ws]
          · simp (disch := first | omega | (simp only [pN, pP, pM, pE, pL, pC, pK, sp]; omega)) only [u_fX12_packet, u_fX12_packet_0, u_fX12_packet_32, u_fX12_packet_55, m1, m_ofCh, y6, mi, m3, v2, m_thr0, e_ws0, e_T, e_F, e_bnd, e_obr, e_obd, e_obt, e_addB, e_addA, e_in, e_cl, e_leT, e_leF, e_ltT, e_ltF, e_eqT, e_eqF, e_NOT, e_NOF, nI_add, pk_mul, k_spot, k_chan, m_node, m_pair, m_msg, m_chan, m_pack, e_w, e_wn, e_ws]
        · refine QR_val (r := num p.2.2.2.1) ?_ ?_
          · simp (disch := first | omega | (simp only [pN, pP, pM, pE, pL, pC, pK, sp]; omega)) only [u_fX11_packet, u_fX11_packet_0, k1, k2, hsz, e_sbTN, t2, c3, e_obxl, e_T, e_F, e_bnd, e_obr, e_obd, e_obt, e_addB, e_addA, e_in, e_cl, e_leT, e_leF, e_ltT, e_ltF, e_eqT, e_eqF, e_NOT, e_NOF, nI_add, pk_mul, k_spot, k_chan, m_node, m_pair, m_msg, m_chan, m_pack, e_w, e_wn, e_ws]
          · simp (disch := first | omega | (simp only [pN, pP, pM, pE, pL, pC, pK, sp]; omega)) only [u_fX12_packet, u_fX12_packet_0, u_fX12_packet_32, u_fX12_packet_55, m1, m_ofCh, y6, mi, m3, v3, m_thr0, e_ws0, e_T, e_F, e_bnd, e_obr, e_obd, e_obt, e_addB, e_addA, e_in, e_cl, e_leT, e_leF, e_ltT, e_ltF, e_eqT, e_eqF, e_NOT, e_NOF, nI_add, pk_mul, k_spot, k_chan, m_node, m_pair, m_msg, m_chan, m_pack, e_w, e_wn, e_ws]
        · refine QR_val (r := nod p.2.2.2.1) ?_ ?_
          · simp (disch := first | omega | (simp only [pN, pP, pM, pE, pL, pC, pK, sp]; omega)) only [u_fX11_packet, u_fX11_packet_0, k1, k2, hsz, e_sbTN, t2, c3, e_obxl, e_T, e_F, e_bnd, e_obr, e_obd, e_obt, e_addB, e_addA, e_in, e_cl, e_leT, e_leF, e_ltT, e_ltF, e_eqT, e_eqF, e_NOT, e_NOF, nI_add, pk_mul, k_spot, k_chan, m_node, m_pair, m_msg, m_chan, m_pack, e_w, e_wn, e_ws]
          · simp (disch := first | omega | (simp only [pN, pP, pM, pE, pL, pC, pK, sp]; omega)) only [u_fX12_packet, u_fX12_packet_0, u_fX12_packet_32, u_fX12_packet_55, m1, m_ofCh, y6, mi, m3, v4, m_thr0, e_ws0, e_T, e_F, e_bnd, e_obr, e_obd, e_obt, e_addB, e_addA, e_in, e_cl, e_leT, e_leF, e_ltT, e_ltF, e_eqT, e_eqF, e_NOT, e_NOF, nI_add, pk_mul, k_spot, k_chan, m_node, m_pair, m_msg, m_chan, m_pack, e_w, e_wn, e_ws]
  · refine QR_thr (r := nI 0) 0 (by decide) ?_ ?_
    · rw [u_fX11_packet, u_fX11_packet_0, k1]
    · simp (disch := first | omega | (simp only [pN, pP, pM, pE, pL, pC, pK, sp]; omega)) only [u_fX12_packet, u_fX12_packet_0, m1, e_T, e_F, e_bnd, e_obr, e_obd, e_obt, e_addB, e_addA, e_in, e_cl, e_leT, e_leF, e_ltT, e_ltF, e_eqT, e_eqF, e_NOT, e_NOF, nI_add, pk_mul, k_spot, k_chan, m_node, m_pair, m_msg, m_chan, m_pack, e_w, e_wn, e_ws]; rfl
/-! how many packets there are -/
theorem k_sizes_lp (hO : rO pl Q σ) : ∀ r i f, i + r = 36 → r < f → fX1_sizeOfAll_4 σ f (nI (sumL (fun c => (Q c).length) i)) (nI i) = some (nI (sumL (fun c => (Q c).length) 36)) := by
  intro r
  induction r with
  | zero =>
    intro i f hi hf
    obtain ⟨f, rfl⟩ : ∃ g, f = g + 1 := ⟨f - 1, by omega⟩
    have hi : i = 36 := by omega
    rw [hi]
    simp (disch := first | omega | (simp only [pN, pP, pM, pE, pL, pC, pK, sp]; omega)) only [u_fX1_sizeOfAll_4, e_T, e_F, e_bnd, e_obr, e_obd, e_obt, e_addB, e_addA, e_in, e_cl, e_leT, e_leF, e_ltT, e_ltF, e_eqT, e_eqF, e_NOT, e_NOF, nI_add, pk_mul, k_spot, k_chan, m_node, m_pair, m_msg, m_chan, m_pack, e_w, e_wn, e_ws]
  | succ r ih =>
    intro i f hi hf
    obtain ⟨f, rfl⟩ : ∃ g, f = g + 1 := ⟨f - 1, by omega⟩
    have ih := ih (i + 1) f (by omega) (by omega)
    have hsz := k_size hO (show i < 36 by omega)
    simp (disch := first | omega | (simp only [pN, pP, pM, pE, pL, pC, pK, sp]; omega)) only [u_fX1_sizeOfAll_4, hsz, e_T, e_F, e_bnd, e_obr, e_obd, e_obt, e_addB, e_addA, e_in, e_cl, e_leT, e_leF, e_ltT, e_ltF, e_eqT, e_eqF, e_NOT, e_NOF, nI_add, pk_mul, k_spot, k_chan, m_node, m_pair, m_msg, m_chan, m_pack, e_w, e_wn, e_ws]
    exact ih
theorem m_pack1 (h : R0 dr tk pl N G M T B Q Dl σ ω) {a : Nat} (ha : a < N) {K : Int32 → Int32 → Option Int32} : ∀ r b f s, b + r = N → r < f → fX12_packets_14 K (sq u 1 ω) f (nI s) (nI a) (nI b) = K (nI (s + sumL (fun x => (Q (6 * a + x)).length) N - sumL (fun x => (Q (6 * a + x)).length) b)) (nI (a + 1)) := by
  have h6 := h.1.1.1
  have z2 := h.1.2.1.2
  intro r
  induction r with
  | zero =>
    intro b f s hb hf
    obtain ⟨f, rfl⟩ : ∃ g, f = g + 1 := ⟨f - 1, by omega⟩
    have hb : b = N := by omega
    rw [hb, Nat.add_sub_cancel]
    simp (disch := first | omega | (simp only [pN, pP, pM, pE, pL, pC, pK, sp]; omega)) only [u_fX12_packets_14, m_nodes, z2, e_T, e_F, e_bnd, e_obr, e_obd, e_obt, e_addB, e_addA, e_in, e_cl, e_leT, e_leF, e_ltT, e_ltF, e_eqT, e_eqF, e_NOT, e_NOF, nI_add, pk_mul, k_spot, k_chan, m_node, m_pair, m_msg, m_chan, m_pack, e_w, e_wn, e_ws]
  | succ r ih =>
    intro b f s hb hf
    obtain ⟨f, rfl⟩ : ∃ g, f = g + 1 := ⟨f - 1, by omega⟩
    have ih := ih (b + 1) f (s + (Q (6 * a + b)).length) (by omega) (by omega)
    obtain ⟨-, -, -, y6, -⟩ := h.2.2.2.2.2.2.2.1 (6 * a + b) (by omega)
    simp (disch := first | omega | (simp only [pN, pP, pM, pE, pL, pC, pK, sp]; omega)) only [u_fX12_packets_14, m_nodes, z2, m_ofCh, y6, e_T, e_F, e_bnd, e_obr, e_obd, e_obt, e_addB, e_addA, e_in, e_cl, e_leT, e_leF, e_ltT, e_ltF, e_eqT, e_eqF, e_NOT, e_NOF, nI_add, pk_mul, k_spot, k_chan, m_node, m_pair, m_msg, m_chan, m_pack, e_w, e_wn, e_ws]
    rw [ih]
    congr 2
    show s + (Q (6 * a + b)).length + _ - (sumL (fun x => (Q (6 * a + x)).length) b + (Q (6 * a + b)).length) = _
    omega
theorem sumL_split (f : Nat → Nat) : ∀ k j, sumL f (j + k) = sumL f j + sumL (fun x => f (j + x)) k
  | 0, j => rfl
  | k + 1, j => by
    show sumL f (j + k) + f (j + k) = sumL f j + (sumL (fun x => f (j + x)) k + f (j + k))
    rw [sumL_split f k j]; omega
theorem m_packs_lp (h : R0 dr tk pl N G M T B Q Dl σ ω) : ∀ r a f, a + r = N → r < f → fX12_packets_4 (sq u 1 ω) f (nI (sumL (fun c => (Q c).length) (6 * a))) (nI a) = some (nI (sumL (fun c => (Q c).length) (6 * N))) := by
  have h6 := h.1.1.1
  have z2 := h.1.2.1.2
  intro r
  induction r with
  | zero =>
    intro a f ha hf
    obtain ⟨f, rfl⟩ : ∃ g, f = g + 1 := ⟨f - 1, by omega⟩
    have ha : a = N := by omega
    rw [ha]
    simp (disch := first | omega | (simp only [pN, pP, pM, pE, pL, pC, pK, sp]; omega)) only [u_fX12_packets_4, m_nodes, z2, e_T, e_F, e_bnd, e_obr, e_obd, e_obt, e_addB, e_addA, e_in, e_cl, e_leT, e_leF, e_ltT, e_ltF, e_eqT, e_eqF, e_NOT, e_NOF, nI_add, pk_mul, k_spot, k_chan, m_node, m_pair, m_msg, m_chan, m_pack, e_w, e_wn, e_ws]
  | succ r ih =>
    intro a f ha hf
    obtain ⟨f, rfl⟩ : ∃ g, f = g + 1 := ⟨f - 1, by omega⟩
    have ih := ih (a + 1) f (by omega) (by omega)
    have m1 := m_pack1 (u := u) h (show a < N by omega) (K := fun a0 a1 => fX12_packets_4 (sq u 1 ω) f a0 a1) N 0 FU (sumL (fun c => (Q c).length) (6 * a)) (by omega) (by show N < 100000; omega)
    simp (disch := first | omega | (simp only [pN, pP, pM, pE, pL, pC, pK, sp]; omega)) only [u_fX12_packets_4, m_nodes, z2, e_T, e_F, e_bnd, e_obr, e_obd, e_obt, e_addB, e_addA, e_in, e_cl, e_leT, e_leF, e_ltT, e_ltF, e_eqT, e_eqF, e_NOT, e_NOF, nI_add, pk_mul, k_spot, k_chan, m_node, m_pair, m_msg, m_chan, m_pack, e_w, e_wn, e_ws]
    rw [m1, ← ih]
    congr 2
    show sumL (fun c => (Q c).length) (6 * a) + sumL (fun x => (Q (6 * a + x)).length) N - 0 = _
    rw [show 6 * (a + 1) = 6 * a + 6 from by omega, sumL_split _ 6 (6 * a)]
    have e1 : sumL (fun x => (Q (6 * a + x)).length) 6 = sumL (fun x => (Q (6 * a + x)).length) N := by
      have := sumL_split (fun x => (Q (6 * a + x)).length) (6 - N) N
      rw [show N + (6 - N) = 6 from by omega] at this
      rw [this, sumL_0 (f := fun x => (Q (6 * a + (N + x))).length) (fun x hx => by
        show (Q (6 * a + (N + x))).length = 0
        rw [(h.2.2.2.2.2.2.2.2.1 a (N + x) (by omega) (by omega)).2 (by omega)]; rfl), Nat.add_zero]
    rw [e1]; omega
theorem s_packs (h : R0 dr tk pl N G M T B Q Dl σ ω) : ∃ s, fX1_sizeOfAll σ = some (nI s) ∧ ∀ u, fX12_packets (sq u 1 ω) = some (nI s) := by
  have h6 := h.1.1.1
  refine ⟨_, k_sizes_lp h.2.2.2.2.2.2.2.2.2.1 36 0 FU (by omega) (by show 36 < 100000; omega), fun u => ?_⟩
  have := m_packs_lp (u := u) h N 0 FU (by omega) (by show N < 100000; omega)
  have e1 : sumL (fun c => (Q c).length) 36 = sumL (fun c => (Q c).length) (6 * N) := by
    have := sumL_split (fun c => (Q c).length) (36 - 6 * N) (6 * N)
    rw [show 6 * N + (36 - 6 * N) = 36 from by omega] at this
    rw [this, sumL_0 (f := fun x => (Q (6 * N + x)).length) (fun x hx => by
      show (Q (6 * N + x)).length = 0
      have e2 : 6 * N + x = 6 * (N + x / 6) + x % 6 := by omega
      rw [e2, (h.2.2.2.2.2.2.2.2.1 (N + x / 6) (x % 6) (by omega) (by omega)).2 (by omega)]; rfl), Nat.add_zero]
  rw [e1]; exact this
theorem o_count (h : R0 True tk pl N G M T B Q Dl σ ω) (x1 : Int32) : QR [] kk2 (fX11_count x1 σ) (fX12_count x1 (sq u 1 ω)) σ u ω := by
  obtain ⟨s, k8, m8⟩ := s_packs h
  obtain ⟨E, -, e2, e3, -⟩ := h.2.2.2.2.2.1
  obtain ⟨st, nx, -, -, a3, -, a5⟩ := h.2.2.2.2.2.2.1
  obtain ⟨b1, -⟩ := a5 trivial
  obtain ⟨x, -, x2, x3⟩ := h.1.2.2.2.2.2.1
  obtain ⟨y, -, y2, y3⟩ := h.1.2.2.2.2.2.2.2.1
  obtain ⟨z, -, z2, z3, -⟩ := h.1.2.2.2.2.2.2.2.2.1
  rcases ix x1 (n := 10) (by omega) with hx | ⟨w, hw, rfl⟩
  · refine QR_val (r := NO) ?_ ?_
    · rw [u_fX11_count, u_fX11_count_0, cnd_neg (ne_bad (by omega) hx (show 0 < 10 by omega)), cnd_neg (ne_bad (by omega) hx (show 1 < 10 by omega)), cnd_neg (ne_bad (by omega) hx (show 2 < 10 by omega)), cnd_neg (ne_bad (by omega) hx (show 3 < 10 by omega)), cnd_neg (ne_bad (by omega) hx (show 4 < 10 by omega)), cnd_neg (ne_bad (by omega) hx (show 5 < 10 by omega)), cnd_neg (ne_bad (by omega) hx (show 6 < 10 by omega)), cnd_neg (ne_bad (by omega) hx (show 7 < 10 by omega)), cnd_neg (ne_bad (by omega) hx (show 8 < 10 by omega)), cnd_neg (ne_bad (by omega) hx (show 9 < 10 by omega))]
    · rw [u_fX12_count, u_fX12_count_0, e_bnd, cnd_neg (ne_bad (by omega) hx (show 0 < 10 by omega)), cnd_neg (ne_bad (by omega) hx (show 1 < 10 by omega)), cnd_neg (ne_bad (by omega) hx (show 2 < 10 by omega)), cnd_neg (ne_bad (by omega) hx (show 3 < 10 by omega)), cnd_neg (ne_bad (by omega) hx (show 4 < 10 by omega)), cnd_neg (ne_bad (by omega) hx (show 5 < 10 by omega)), cnd_neg (ne_bad (by omega) hx (show 6 < 10 by omega)), cnd_neg (ne_bad (by omega) hx (show 7 < 10 by omega)), cnd_neg (ne_bad (by omega) hx (show 8 < 10 by omega)), cnd_neg (ne_bad (by omega) hx (show 9 < 10 by omega)), e_ws0]
  · rcases (show w = 0 ∨ w = 1 ∨ w = 2 ∨ w = 3 ∨ w = 4 ∨ w = 5 ∨ w = 6 ∨ w = 7 ∨ w = 8 ∨ w = 9 by omega) with rfl | rfl | rfl | rfl | rfl | rfl | rfl | rfl | rfl | rfl
    · refine QR_val (r := nI N) ?_ ?_
      · simp (disch := first | omega | (simp only [pN, pP, pM, pE, pL, pC, pK, sp]; omega)) only [u_fX11_count, u_fX11_count_0, h.1.2.1.1, e_obxl, e_T, e_F, e_bnd, e_obr, e_obd, e_obt, e_addB, e_addA, e_in, e_cl, e_leT, e_leF, e_ltT, e_ltF, e_eqT, e_eqF, e_NOT, e_NOF, nI_add, pk_mul, k_spot, k_chan, m_node, m_pair, m_msg, m_chan, m_pack, e_w, e_wn, e_ws]
      · simp (disch := first | omega | (simp only [pN, pP, pM, pE, pL, pC, pK, sp]; omega)) only [u_fX12_count, u_fX12_count_0, m_nodes, h.1.2.1.2, m_thr0, e_ws0, e_T, e_F, e_bnd, e_obr, e_obd, e_obt, e_addB, e_addA, e_in, e_cl, e_leT, e_leF, e_ltT, e_ltF, e_eqT, e_eqF, e_NOT, e_NOF, nI_add, pk_mul, k_spot, k_chan, m_node, m_pair, m_msg, m_chan, m_pack, e_w, e_wn, e_ws]
    · refine QR_val (r := nI G) ?_ ?_
      · simp (disch := first | omega | (simp only [pN, pP, pM, pE, pL, pC, pK, sp]; omega)) only [u_fX11_count, u_fX11_count_0, h.1.2.2.1.1, e_obxl, e_T, e_F, e_bnd, e_obr, e_obd, e_obt, e_addB, e_addA, e_in, e_cl, e_leT, e_leF, e_ltT, e_ltF, e_eqT, e_eqF, e_NOT, e_NOF, nI_add, pk_mul, k_spot, k_chan, m_node, m_pair, m_msg, m_chan, m_pack, e_w, e_wn, e_ws]
      · simp (disch := first | omega | (simp only [pN, pP, pM, pE, pL, pC, pK, sp]; omega)) only [u_fX12_count, u_fX12_count_0, h.1.2.2.1.2, m_thr0, e_ws0, e_T, e_F, e_bnd, e_obr, e_obd, e_obt, e_addB, e_addA, e_in, e_cl, e_leT, e_leF, e_ltT, e_ltF, e_eqT, e_eqF, e_NOT, e_NOF, nI_add, pk_mul, k_spot, k_chan, m_node, m_pair, m_msg, m_chan, m_pack, e_w, e_wn, e_ws]
    · refine QR_val (r := nI x) ?_ ?_
      · simp (disch := first | omega | (simp only [pN, pP, pM, pE, pL, pC, pK, sp]; omega)) only [u_fX11_count, u_fX11_count_0, x2, e_obxl, e_T, e_F, e_bnd, e_obr, e_obd, e_obt, e_addB, e_addA, e_in, e_cl, e_leT, e_leF, e_ltT, e_ltF, e_eqT, e_eqF, e_NOT, e_NOF, nI_add, pk_mul, k_spot, k_chan, m_node, m_pair, m_msg, m_chan, m_pack, e_w, e_wn, e_ws]
      · simp (disch := first | omega | (simp only [pN, pP, pM, pE, pL, pC, pK, sp]; omega)) only [u_fX12_count, u_fX12_count_0, x3, m_thr0, e_ws0, e_T, e_F, e_bnd, e_obr, e_obd, e_obt, e_addB, e_addA, e_in, e_cl, e_leT, e_leF, e_ltT, e_ltF, e_eqT, e_eqF, e_NOT, e_NOF, nI_add, pk_mul, k_spot, k_chan, m_node, m_pair, m_msg, m_chan, m_pack, e_w, e_wn, e_ws]
    · refine QR_val (r := nI M) ?_ ?_
      · simp (disch := first | omega | (simp only [pN, pP, pM, pE, pL, pC, pK, sp]; omega)) only [u_fX11_count, u_fX11_count_0, h.1.2.2.2.1.1, e_obxl, e_T, e_F, e_bnd, e_obr, e_obd, e_obt, e_addB, e_addA, e_in, e_cl, e_leT, e_leF, e_ltT, e_ltF, e_eqT, e_eqF, e_NOT, e_NOF, nI_add, pk_mul, k_spot, k_chan, m_node, m_pair, m_msg, m_chan, m_pack, e_w, e_wn, e_ws]
      · simp (disch := first | omega | (simp only [pN, pP, pM, pE, pL, pC, pK, sp]; omega)) only [u_fX12_count, u_fX12_count_0, m_messages, h.1.2.2.2.1.2, m_thr0, e_ws0, e_T, e_F, e_bnd, e_obr, e_obd, e_obt, e_addB, e_addA, e_in, e_cl, e_leT, e_leF, e_ltT, e_ltF, e_eqT, e_eqF, e_NOT, e_NOF, nI_add, pk_mul, k_spot, k_chan, m_node, m_pair, m_msg, m_chan, m_pack, e_w, e_wn, e_ws]
    · refine QR_val (r := nI T) ?_ ?_
      · simp (disch := first | omega | (simp only [pN, pP, pM, pE, pL, pC, pK, sp]; omega)) only [u_fX11_count, u_fX11_count_0, h.1.2.2.2.2.1.1, e_obxl, e_T, e_F, e_bnd, e_obr, e_obd, e_obt, e_addB, e_addA, e_in, e_cl, e_leT, e_leF, e_ltT, e_ltF, e_eqT, e_eqF, e_NOT, e_NOF, nI_add, pk_mul, k_spot, k_chan, m_node, m_pair, m_msg, m_chan, m_pack, e_w, e_wn, e_ws]
      · simp (disch := first | omega | (simp only [pN, pP, pM, pE, pL, pC, pK, sp]; omega)) only [u_fX12_count, u_fX12_count_0, h.1.2.2.2.2.1.2, m_thr0, e_ws0, e_T, e_F, e_bnd, e_obr, e_obd, e_obt, e_addB, e_addA, e_in, e_cl, e_leT, e_leF, e_ltT, e_ltF, e_eqT, e_eqF, e_NOT, e_NOF, nI_add, pk_mul, k_spot, k_chan, m_node, m_pair, m_msg, m_chan, m_pack, e_w, e_wn, e_ws]
    · refine QR_val (r := nI z) ?_ ?_
      · simp (disch := first | omega | (simp only [pN, pP, pM, pE, pL, pC, pK, sp]; omega)) only [u_fX11_count, u_fX11_count_0, z2, e_obxl, e_T, e_F, e_bnd, e_obr, e_obd, e_obt, e_addB, e_addA, e_in, e_cl, e_leT, e_leF, e_ltT, e_ltF, e_eqT, e_eqF, e_NOT, e_NOF, nI_add, pk_mul, k_spot, k_chan, m_node, m_pair, m_msg, m_chan, m_pack, e_w, e_wn, e_ws]
      · simp (disch := first | omega | (simp only [pN, pP, pM, pE, pL, pC, pK, sp]; omega)) only [u_fX12_count, u_fX12_count_0, z3 trivial, m_thr0, e_ws0, e_T, e_F, e_bnd, e_obr, e_obd, e_obt, e_addB, e_addA, e_in, e_cl, e_leT, e_leF, e_ltT, e_ltF, e_eqT, e_eqF, e_NOT, e_NOF, nI_add, pk_mul, k_spot, k_chan, m_node, m_pair, m_msg, m_chan, m_pack, e_w, e_wn, e_ws]
    · refine QR_val (r := nI y) ?_ ?_
      · simp (disch := first | omega | (simp only [pN, pP, pM, pE, pL, pC, pK, sp]; omega)) only [u_fX11_count, u_fX11_count_0, y2, e_obxl, e_T, e_F, e_bnd, e_obr, e_obd, e_obt, e_addB, e_addA, e_in, e_cl, e_leT, e_leF, e_ltT, e_ltF, e_eqT, e_eqF, e_NOT, e_NOF, nI_add, pk_mul, k_spot, k_chan, m_node, m_pair, m_msg, m_chan, m_pack, e_w, e_wn, e_ws]
      · simp (disch := first | omega | (simp only [pN, pP, pM, pE, pL, pC, pK, sp]; omega)) only [u_fX12_count, u_fX12_count_0, y3, m_thr0, e_ws0, e_T, e_F, e_bnd, e_obr, e_obd, e_obt, e_addB, e_addA, e_in, e_cl, e_leT, e_leF, e_ltT, e_ltF, e_eqT, e_eqF, e_NOT, e_NOF, nI_add, pk_mul, k_spot, k_chan, m_node, m_pair, m_msg, m_chan, m_pack, e_w, e_wn, e_ws]
    · refine QR_val (r := nI E) ?_ ?_
      · simp (disch := first | omega | (simp only [pN, pP, pM, pE, pL, pC, pK, sp]; omega)) only [u_fX11_count, u_fX11_count_0, e2, e_obxl, e_T, e_F, e_bnd, e_obr, e_obd, e_obt, e_addB, e_addA, e_in, e_cl, e_leT, e_leF, e_ltT, e_ltF, e_eqT, e_eqF, e_NOT, e_NOF, nI_add, pk_mul, k_spot, k_chan, m_node, m_pair, m_msg, m_chan, m_pack, e_w, e_wn, e_ws]
      · simp (disch := first | omega | (simp only [pN, pP, pM, pE, pL, pC, pK, sp]; omega)) only [u_fX12_count, u_fX12_count_0, e3, m_thr0, e_ws0, e_T, e_F, e_bnd, e_obr, e_obd, e_obt, e_addB, e_addA, e_in, e_cl, e_leT, e_leF, e_ltT, e_ltF, e_eqT, e_eqF, e_NOT, e_NOF, nI_add, pk_mul, k_spot, k_chan, m_node, m_pair, m_msg, m_chan, m_pack, e_w, e_wn, e_ws]
    · refine QR_val (r := nI s) ?_ ?_
      · simp (disch := first | omega | (simp only [pN, pP, pM, pE, pL, pC, pK, sp]; omega)) only [u_fX11_count, u_fX11_count_0, e_sbTN, k8, e_obxl, e_T, e_F, e_bnd, e_obr, e_obd, e_obt, e_addB, e_addA, e_in, e_cl, e_leT, e_leF, e_ltT, e_ltF, e_eqT, e_eqF, e_NOT, e_NOF, nI_add, pk_mul, k_spot, k_chan, m_node, m_pair, m_msg, m_chan, m_pack, e_w, e_wn, e_ws]
      · simp (disch := first | omega | (simp only [pN, pP, pM, pE, pL, pC, pK, sp]; omega)) only [u_fX12_count, u_fX12_count_0, m8, m_thr0, e_ws0, e_T, e_F, e_bnd, e_obr, e_obd, e_obt, e_addB, e_addA, e_in, e_cl, e_leT, e_leF, e_ltT, e_ltF, e_eqT, e_eqF, e_NOT, e_NOF, nI_add, pk_mul, k_spot, k_chan, m_node, m_pair, m_msg, m_chan, m_pack, e_w, e_wn, e_ws]
    · refine QR_val (r := nI st) ?_ ?_
      · simp (disch := first | omega | (simp only [pN, pP, pM, pE, pL, pC, pK, sp]; omega)) only [u_fX11_count, u_fX11_count_0, a3, e_obxl, e_T, e_F, e_bnd, e_obr, e_obd, e_obt, e_addB, e_addA, e_in, e_cl, e_leT, e_leF, e_ltT, e_ltF, e_eqT, e_eqF, e_NOT, e_NOF, nI_add, pk_mul, k_spot, k_chan, m_node, m_pair, m_msg, m_chan, m_pack, e_w, e_wn, e_ws]
      · simp (disch := first | omega | (simp only [pN, pP, pM, pE, pL, pC, pK, sp]; omega)) only [u_fX12_count, u_fX12_count_0, b1, m_thr0, e_ws0, e_T, e_F, e_bnd, e_obr, e_obd, e_obt, e_addB, e_addA, e_in, e_cl, e_leT, e_leF, e_ltT, e_ltF, e_eqT, e_eqF, e_NOT, e_NOF, nI_add, pk_mul, k_spot, k_chan, m_node, m_pair, m_msg, m_chan, m_pack, e_w, e_wn, e_ws]
/-! three groups -/
theorem k_isRing (h : R0 dr tk pl N G M T B Q Dl σ ω) {a b c : Nat} (ha : a < 6) (hb : b < 6) (hc : c < 6) : fX12_isRing (nI a) (nI b) (nI c) (sq u 1 ω) = some (fX0_isRing (σ 1 a) (σ 1 b) (σ 1 c)) := by
  have hg := h.1.2.2.2.2.2.2.2.2.2.2.1
  have g1 := hg a ha
  have g2 := hg b hb
  have g3 := hg c hc
  simp (disch := first | omega | (simp only [pN, pP, pM, pE, pL, pC, pK, sp]; omega)) only [u_fX12_isRing, u_fX12_isRing_0, u_fX0_isRing, u_fX0_isRing_0, ← g1, ← g2, ← g3, e_T, e_F, e_bnd, e_obr, e_obd, e_obt, e_addB, e_addA, e_in, e_cl, e_leT, e_leF, e_ltT, e_ltF, e_eqT, e_eqF, e_NOT, e_NOF, nI_add, pk_mul, k_spot, k_chan, m_node, m_pair, m_msg, m_chan, m_pack, e_w, e_wn, e_ws]
  by_cases q1 : (σ 1 a &&& σ 1 b) = nI 0
  · rw [cnd_pos q1, cnd_pos q1]
  · rw [cnd_neg q1, cnd_neg q1]
    by_cases q2 : (σ 1 b &&& σ 1 c) = nI 0
    · rw [cnd_pos q2, cnd_pos q2]
    · rw [cnd_neg q2, cnd_neg q2]
      by_cases q3 : (σ 1 a &&& σ 1 c) = nI 0
      · rw [cnd_pos q3, cnd_pos q3]
      · rw [cnd_neg q3, cnd_neg q3]
        by_cases q4 : ((σ 1 a &&& σ 1 b) &&& σ 1 c) = nI 0
        · rw [cnd_pos q4, cnd_pos q4]
        · rw [cnd_neg q4, cnd_neg q4]
theorem s_ring3 (h : R0 dr tk pl N G M T B Q Dl σ ω) {a b : Nat} (ha : a < G) (hb : b < G) {K2 : Int32 → Option Int32} {K14 : Int32 → Int32 → Option Int32} {L14 : Int32 → Int32 → Sg → Option (Int32 × Sg)} {L23 : Int32 → Int32 → Int32 → Sg → Option (Int32 × Sg)} (hK : ∃ z, K14 (nI a) (nI (b + 1)) = some z ∧ L23 (nI G) (nI a) (nI (b + 1)) (sq u 1 ω) = some (z, sq u 1 ω)) : ∀ r c f f', c + r = G → r < f → r < f' → ∃ z, fX0_ringOf_26 K2 K14 σ f (nI a) (nI b) (nI c) = some z ∧ fX12_ring_33 L14 L23 f' (nI G) (nI a) (nI b) (nI c) (sq u 1 ω) = some (z, sq u 1 ω) := by
  have hG := h.1.1.2.1
  have z1 := h.1.2.2.1.1
  intro r
  induction r with
  | zero =>
    intro c f f' hc hf hf'
    obtain ⟨f, rfl⟩ : ∃ g, f = g + 1 := ⟨f - 1, by omega⟩
    obtain ⟨f', rfl⟩ : ∃ g, f' = g + 1 := ⟨f' - 1, by omega⟩
    have hc : c = G := by omega
    subst hc
    obtain ⟨z, y1, y2⟩ := hK
    refine ⟨z, ?_, ?_⟩
    · simp (disch := first | omega | (simp only [pN, pP, pM, pE, pL, pC, pK, sp]; omega)) only [u_fX0_ringOf_26, z1, y1, e_T, e_F, e_bnd, e_obr, e_obd, e_obt, e_addB, e_addA, e_in, e_cl, e_leT, e_leF, e_ltT, e_ltF, e_eqT, e_eqF, e_NOT, e_NOF, nI_add, pk_mul, k_spot, k_chan, m_node, m_pair, m_msg, m_chan, m_pack, e_w, e_wn, e_ws]
    · simp (disch := first | omega | (simp only [pN, pP, pM, pE, pL, pC, pK, sp]; omega)) only [u_fX12_ring_33, y2, e_T, e_F, e_bnd, e_obr, e_obd, e_obt, e_addB, e_addA, e_in, e_cl, e_leT, e_leF, e_ltT, e_ltF, e_eqT, e_eqF, e_NOT, e_NOF, nI_add, pk_mul, k_spot, k_chan, m_node, m_pair, m_msg, m_chan, m_pack, e_w, e_wn, e_ws]
  | succ r ih =>
    intro c f f' hc hf hf'
    obtain ⟨f, rfl⟩ : ∃ g, f = g + 1 := ⟨f - 1, by omega⟩
    obtain ⟨f', rfl⟩ : ∃ g, f' = g + 1 := ⟨f' - 1, by omega⟩
    have hr := k_isRing (u := u) h (show a < 6 by omega) (show b < 6 by omega) (show c < 6 by omega)
    by_cases q : fX0_isRing (σ 1 a) (σ 1 b) (σ 1 c) = nI 0
    · obtain ⟨z, y1, y2⟩ := ih (c + 1) f f' (by omega) (by omega) (by omega)
      refine ⟨z, ?_, ?_⟩
      · simp (disch := first | omega | (simp only [pN, pP, pM, pE, pL, pC, pK, sp]; omega)) only [u_fX0_ringOf_26, z1, y1, e_T, e_F, e_bnd, e_obr, e_obd, e_obt, e_addB, e_addA, e_in, e_cl, e_leT, e_leF, e_ltT, e_ltF, e_eqT, e_eqF, e_NOT, e_NOF, nI_add, pk_mul, k_spot, k_chan, m_node, m_pair, m_msg, m_chan, m_pack, e_w, e_wn, e_ws]
        rw [cnd_pos q]
      · simp (disch := first | omega | (simp only [pN, pP, pM, pE, pL, pC, pK, sp]; omega)) only [u_fX12_ring_33, hr, y2, e_T, e_F, e_bnd, e_obr, e_obd, e_obt, e_addB, e_addA, e_in, e_cl, e_leT, e_leF, e_ltT, e_ltF, e_eqT, e_eqF, e_NOT, e_NOF, nI_add, pk_mul, k_spot, k_chan, m_node, m_pair, m_msg, m_chan, m_pack, e_w, e_wn, e_ws]
        rw [cnd_pos q]
    · refine ⟨(sh1 (nI a) ||| sh1 (nI b)) ||| sh1 (nI c), ?_, ?_⟩
      · simp (disch := first | omega | (simp only [pN, pP, pM, pE, pL, pC, pK, sp]; omega)) only [u_fX0_ringOf_26, z1, e_T, e_F, e_bnd, e_obr, e_obd, e_obt, e_addB, e_addA, e_in, e_cl, e_leT, e_leF, e_ltT, e_ltF, e_eqT, e_eqF, e_NOT, e_NOF, nI_add, pk_mul, k_spot, k_chan, m_node, m_pair, m_msg, m_chan, m_pack, e_w, e_wn, e_ws]
        exact cnd_neg q
      · simp (disch := first | omega | (simp only [pN, pP, pM, pE, pL, pC, pK, sp]; omega)) only [u_fX12_ring_33, hr, e_T, e_F, e_bnd, e_obr, e_obd, e_obt, e_addB, e_addA, e_in, e_cl, e_leT, e_leF, e_ltT, e_ltF, e_eqT, e_eqF, e_NOT, e_NOF, nI_add, pk_mul, k_spot, k_chan, m_node, m_pair, m_msg, m_chan, m_pack, e_w, e_wn, e_ws]
        exact cnd_neg q
theorem s_ring2 (h : R0 dr tk pl N G M T B Q Dl σ ω) {a : Nat} (ha : a < G) {K2 : Int32 → Option Int32} {L14 : Int32 → Int32 → Sg → Option (Int32 × Sg)} (hK : ∃ z, K2 (nI (a + 1)) = some z ∧ L14 (nI G) (nI (a + 1)) (sq u 1 ω) = some (z, sq u 1 ω)) : ∀ r b f f', b + r = G → r < f → r < f' → ∃ z, fX0_ringOf_14 K2 σ f (nI a) (nI b) = some z ∧ fX12_ring_23 L14 f' (nI G) (nI a) (nI b) (sq u 1 ω) = some (z, sq u 1 ω) := by
  have hG := h.1.1.2.1
  have z1 := h.1.2.2.1.1
  intro r
  induction r with
  | zero =>
    intro b f f' hb hf hf'
    obtain ⟨f, rfl⟩ : ∃ g, f = g + 1 := ⟨f - 1, by omega⟩
    obtain ⟨f', rfl⟩ : ∃ g, f' = g + 1 := ⟨f' - 1, by omega⟩
    have hb : b = G := by omega
    subst hb
    obtain ⟨z, y1, y2⟩ := hK
    refine ⟨z, ?_, ?_⟩
    · simp (disch := first | omega | (simp only [pN, pP, pM, pE, pL, pC, pK, sp]; omega)) only [u_fX0_ringOf_14, z1, y1, e_T, e_F, e_bnd, e_obr, e_obd, e_obt, e_addB, e_addA, e_in, e_cl, e_leT, e_leF, e_ltT, e_ltF, e_eqT, e_eqF, e_NOT, e_NOF, nI_add, pk_mul, k_spot, k_chan, m_node, m_pair, m_msg, m_chan, m_pack, e_w, e_wn, e_ws]
    · simp (disch := first | omega | (simp only [pN, pP, pM, pE, pL, pC, pK, sp]; omega)) only [u_fX12_ring_23, y2, e_T, e_F, e_bnd, e_obr, e_obd, e_obt, e_addB, e_addA, e_in, e_cl, e_leT, e_leF, e_ltT, e_ltF, e_eqT, e_eqF, e_NOT, e_NOF, nI_add, pk_mul, k_spot, k_chan, m_node, m_pair, m_msg, m_chan, m_pack, e_w, e_wn, e_ws]
  | succ r ih =>
    intro b f f' hb hf hf'
    obtain ⟨f, rfl⟩ : ∃ g, f = g + 1 := ⟨f - 1, by omega⟩
    obtain ⟨f', rfl⟩ : ∃ g, f' = g + 1 := ⟨f' - 1, by omega⟩
    obtain ⟨z, y1, y2⟩ := s_ring3 (u := u) h ha (show b < G by omega) (K2 := K2) (K14 := fun a0 a1 => fX0_ringOf_14 K2 σ f a0 a1) (L14 := L14) (L23 := fun a0 a1 a2 w => fX12_ring_23 L14 f' a0 a1 a2 w) (ih (b + 1) f f' (by omega) (by omega) (by omega)) (G - (b + 1)) (b + 1) FU FU (by omega) (by show _ < 100000; omega) (by show _ < 100000; omega)
    refine ⟨z, ?_, ?_⟩
    · simp (disch := first | omega | (simp only [pN, pP, pM, pE, pL, pC, pK, sp]; omega)) only [u_fX0_ringOf_14, z1, y1, e_T, e_F, e_bnd, e_obr, e_obd, e_obt, e_addB, e_addA, e_in, e_cl, e_leT, e_leF, e_ltT, e_ltF, e_eqT, e_eqF, e_NOT, e_NOF, nI_add, pk_mul, k_spot, k_chan, m_node, m_pair, m_msg, m_chan, m_pack, e_w, e_wn, e_ws]
    · simp (disch := first | omega | (simp only [pN, pP, pM, pE, pL, pC, pK, sp]; omega)) only [u_fX12_ring_23, y2, e_T, e_F, e_bnd, e_obr, e_obd, e_obt, e_addB, e_addA, e_in, e_cl, e_leT, e_leF, e_ltT, e_ltF, e_eqT, e_eqF, e_NOT, e_NOF, nI_add, pk_mul, k_spot, k_chan, m_node, m_pair, m_msg, m_chan, m_pack, e_w, e_wn, e_ws]
theorem s_ring1 (h : R0 dr tk pl N G M T B Q Dl σ ω) : ∀ r a f f', a + r = G → r < f → r < f' → ∃ z, fX0_ringOf_2 σ f (nI a) = some z ∧ fX12_ring_14 f' (nI G) (nI a) (sq u 1 ω) = some (z, sq u 1 ω) := by
  have hG := h.1.1.2.1
  have z1 := h.1.2.2.1.1
  intro r
  induction r with
  | zero =>
    intro a f f' ha hf hf'
    obtain ⟨f, rfl⟩ : ∃ g, f = g + 1 := ⟨f - 1, by omega⟩
    obtain ⟨f', rfl⟩ : ∃ g, f' = g + 1 := ⟨f' - 1, by omega⟩
    have ha : a = G := by omega
    subst ha
    refine ⟨NO, ?_, ?_⟩
    · simp (disch := first | omega | (simp only [pN, pP, pM, pE, pL, pC, pK, sp]; omega)) only [u_fX0_ringOf_2, z1, e_T, e_F, e_bnd, e_obr, e_obd, e_obt, e_addB, e_addA, e_in, e_cl, e_leT, e_leF, e_ltT, e_ltF, e_eqT, e_eqF, e_NOT, e_NOF, nI_add, pk_mul, k_spot, k_chan, m_node, m_pair, m_msg, m_chan, m_pack, e_w, e_wn, e_ws]
    · simp (disch := first | omega | (simp only [pN, pP, pM, pE, pL, pC, pK, sp]; omega)) only [u_fX12_ring_14, e_T, e_F, e_bnd, e_obr, e_obd, e_obt, e_addB, e_addA, e_in, e_cl, e_leT, e_leF, e_ltT, e_ltF, e_eqT, e_eqF, e_NOT, e_NOF, nI_add, pk_mul, k_spot, k_chan, m_node, m_pair, m_msg, m_chan, m_pack, e_w, e_wn, e_ws]
  | succ r ih =>
    intro a f f' ha hf hf'
    obtain ⟨f, rfl⟩ : ∃ g, f = g + 1 := ⟨f - 1, by omega⟩
    obtain ⟨f', rfl⟩ : ∃ g, f' = g + 1 := ⟨f' - 1, by omega⟩
    obtain ⟨z, y1, y2⟩ := s_ring2 (u := u) h (show a < G by omega) (K2 := fun a0 => fX0_ringOf_2 σ f a0) (L14 := fun a0 a1 w => fX12_ring_14 f' a0 a1 w) (ih (a + 1) f f' (by omega) (by omega) (by omega)) (G - (a + 1)) (a + 1) FU FU (by omega) (by show _ < 100000; omega) (by show _ < 100000; omega)
    refine ⟨z, ?_, ?_⟩
    · simp (disch := first | omega | (simp only [pN, pP, pM, pE, pL, pC, pK, sp]; omega)) only [u_fX0_ringOf_2, z1, y1, e_T, e_F, e_bnd, e_obr, e_obd, e_obt, e_addB, e_addA, e_in, e_cl, e_leT, e_leF, e_ltT, e_ltF, e_eqT, e_eqF, e_NOT, e_NOF, nI_add, pk_mul, k_spot, k_chan, m_node, m_pair, m_msg, m_chan, m_pack, e_w, e_wn, e_ws]
    · simp (disch := first | omega | (simp only [pN, pP, pM, pE, pL, pC, pK, sp]; omega)) only [u_fX12_ring_14, y2, e_T, e_F, e_bnd, e_obr, e_obd, e_obt, e_addB, e_addA, e_in, e_cl, e_leT, e_leF, e_ltT, e_ltF, e_eqT, e_eqF, e_NOT, e_NOF, nI_add, pk_mul, k_spot, k_chan, m_node, m_pair, m_msg, m_chan, m_pack, e_w, e_wn, e_ws]
theorem o_ring (h : R0 dr tk pl N G M T B Q Dl σ ω) : QR [] kk2 (fX11_ring σ) (fX12_ring (sq u 1 ω)) σ u ω := by
  have hG := h.1.1.2.1
  obtain ⟨z, y1, y2⟩ := s_ring1 (u := s2 u 0 0 (nI 0)) h G 0 FU FU (by omega) (by show G < 100000; omega) (by show G < 100000; omega)
  refine QR_val (r := z) ?_ ?_
  · simp (disch := first | omega | (simp only [pN, pP, pM, pE, pL, pC, pK, sp]; omega)) only [u_fX11_ring, u_fX11_ring_0, e_sbTN, u_fX0_ringOf, u_fX0_ringOf_0, y1, e_T, e_F, e_bnd, e_obr, e_obd, e_obt, e_addB, e_addA, e_in, e_cl, e_leT, e_leF, e_ltT, e_ltF, e_eqT, e_eqF, e_NOT, e_NOF, nI_add, pk_mul, k_spot, k_chan, m_node, m_pair, m_msg, m_chan, m_pack, e_w, e_wn, e_ws]
  · simp (disch := first | omega | (simp only [pN, pP, pM, pE, pL, pC, pK, sp]; omega)) only [u_fX12_ring, u_fX12_ring_0, e_ws0, h.1.2.2.1.2, y2, e_T, e_F, e_bnd, e_obr, e_obd, e_obt, e_addB, e_addA, e_in, e_cl, e_leT, e_leF, e_ltT, e_ltF, e_eqT, e_eqF, e_NOT, e_NOF, nI_add, pk_mul, k_spot, k_chan, m_node, m_pair, m_msg, m_chan, m_pack, e_w, e_wn, e_ws]
end PK
