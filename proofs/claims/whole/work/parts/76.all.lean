/-! packets for all of a group; a gather begins, ends -/
theorem fP_c {σ σ' : Sg} (h : fP σ σ') : fc [0, 4, 5, 8, 9, 10, 11, 12, 16, 18] σ σ' := fun q hq => h.1 q (fun e => hq (by rw [e]; decide)) (fun e => hq (by rw [e]; decide)) (fun e => hq (by rw [e]; decide)) (fun e => hq (by rw [e]; decide)) (fun e => hq (by rw [e]; decide)) (fun e => hq (by rw [e]; decide)) (fun e => hq (by rw [e]; decide)) (fun e => hq (by rw [e]; decide)) (fun e => hq (by rw [e]; decide)) (fun e => hq (by rw [e]; decide))
def dQ (N T a k m : Nat) (st : Int32) (i : Nat) (σ : Sg) (Q Q' : Qs) : Prop := (∀ x, i ≤ x → x < N → ∃ t, nI T < t ∧ Q' (6 * a + x) = Q (6 * a + x) ++ (if (bt (σ 15 m) x && !ntB σ x) = true then [(t, k, m, st, nI 0)] else [])) ∧ ∀ c, (∀ x, i ≤ x → x < N → c ≠ 6 * a + x) → Q' c = Q c
section PA
variable {dr : Prop} {tk : Int32} {pl N G M T B : Nat} {Q : Qs} {Dl : Nat → List Nat} {u σ σ' : Sg} {ω ω' : Nat → Int32}
theorem s_put0 {a b : Nat} {x1 x2 x3 x4 y1 y2 y3 y4 y5 : Int32} (hS : rS dr tk N G M T σ ω) (hN : rN N T B σ ω) (hb : b < N) (hnt : ntB σ b = true) : fX7_put (nI a) (nI b) x1 x2 x3 x4 σ pl = some (σ, 0) ∧ fX12_puts (nI a) (nI b) y1 y2 y3 y4 y5 (sq u 1 ω) = some (sq u 1 ω) := by
  have h6 := hS.1.1
  constructor
  · simp (disch := first | omega | (simp only [pN, pP, pM, pE, pL, pC, pK, sp]; omega)) only [u_fX7_put, u_fX7_put_0, k_isNoticed, hnt, b2_t, e_T, e_F, e_bnd, e_obr, e_obd, e_obt, e_addB, e_addA, e_in, e_cl, e_leT, e_leF, e_ltT, e_ltF, e_eqT, e_eqF, e_NOT, e_NOF, nI_add, pk_mul, k_spot, k_chan, m_node, m_pair, m_msg, m_chan, m_pack, e_w, e_wn, e_ws]
  · simp (disch := first | omega | (simp only [pN, pP, pM, pE, pL, pC, pK, sp]; omega)) only [u_fX12_puts, u_fX12_puts_0, q_isNoticed hS hN hb, hnt, b2_t, e_T, e_F, e_bnd, e_obr, e_obd, e_obt, e_addB, e_addA, e_in, e_cl, e_leT, e_leF, e_ltT, e_ltF, e_eqT, e_eqF, e_NOT, e_NOF, nI_add, pk_mul, k_spot, k_chan, m_node, m_pair, m_msg, m_chan, m_pack, e_w, e_wn, e_ws]
theorem s_putAll_lp {a k m : Nat} {st : Int32} (ha : a < N) (hv : ∀ t, vK M B (t, k, m, st, nI 0)) (hd : dF dr u) : ∀ (r i f f' pl : Nat) (σ : Sg) (ω : Nat → Int32) (Q : Qs), i + r = N → r < f → r < f' → R0 dr tk pl N G M T B Q Dl σ ω → (∀ c, c < 36 → (Q c).length + r ≤ 110) →
    ∃ σ' d ω' Q', fX7_putForAll_3 f (nI a) (nI k) (nI m) st (nI i) σ pl = some (σ', d) ∧ fX12_putsAll_3 f' (nI a) (nI k) (nI m) (num st) (nod st) (nI i) (sq u 1 ω) = some (sq u 1 ω') ∧ R0 dr tk (pl + d) N G M T B Q' Dl σ' ω' ∧ fP σ σ' ∧ dQ N T a k m st i σ Q Q' := by
  intro r
  induction r with
  | zero =>
    intro i f f' pl σ ω Q hi hf hf' h hl
    obtain ⟨f, rfl⟩ : ∃ g, f = g + 1 := ⟨f - 1, by omega⟩
    obtain ⟨f', rfl⟩ : ∃ g, f' = g + 1 := ⟨f' - 1, by omega⟩
    have hi : i = N := by omega
    subst hi
    have h6 := h.1.1.1
    have z1 := h.1.2.1.1
    have z2 := h.1.2.1.2
    refine ⟨σ, 0, ω, Q, ?_, ?_, h, fP_rf σ, fun x h1 h2 => by omega, fun c _ => rfl⟩
    · simp (disch := first | omega | (simp only [pN, pP, pM, pE, pL, pC, pK, sp]; omega)) only [u_fX7_putForAll_3, z1, e_T, e_F, e_bnd, e_obr, e_obd, e_obt, e_addB, e_addA, e_in, e_cl, e_leT, e_leF, e_ltT, e_ltF, e_eqT, e_eqF, e_NOT, e_NOF, nI_add, pk_mul, k_spot, k_chan, m_node, m_pair, m_msg, m_chan, m_pack, e_w, e_wn, e_ws]
    · simp (disch := first | omega | (simp only [pN, pP, pM, pE, pL, pC, pK, sp]; omega)) only [u_fX12_putsAll_3, m_nodes, z2, e_T, e_F, e_bnd, e_obr, e_obd, e_obt, e_addB, e_addA, e_in, e_cl, e_leT, e_leF, e_ltT, e_ltF, e_eqT, e_eqF, e_NOT, e_NOF, nI_add, pk_mul, k_spot, k_chan, m_node, m_pair, m_msg, m_chan, m_pack, e_w, e_wn, e_ws]
  | succ r ih =>
    intro i f f' pl σ ω Q hi hf hf' h hl
    obtain ⟨f, rfl⟩ : ∃ g, f = g + 1 := ⟨f - 1, by omega⟩
    obtain ⟨f', rfl⟩ : ∃ g, f' = g + 1 := ⟨f' - 1, by omega⟩
    have h6 := h.1.1.1
    have hM20 := h.1.1.2.2.1
    have hT := h.1.1.2.2.2
    have hm : m < M := (hv 0).2.1
    have z1 := h.1.2.1.1
    have z2 := h.1.2.1.2
    have hto := q_isTo (u := u) h.2.2.2.2.1 (m := m) (k := i) (by omega) (by omega)
    have skip : (bt (σ 15 m) i && !ntB σ i) = false → (∃ σ' d ω' Q', fX7_putForAll_3 f (nI a) (nI k) (nI m) st (nI (i + 1)) σ pl = some (σ', d) ∧ fX12_putsAll_3 f' (nI a) (nI k) (nI m) (num st) (nod st) (nI (i + 1)) (sq u 1 ω) = some (sq u 1 ω') ∧ R0 dr tk (pl + d) N G M T B Q' Dl σ' ω' ∧ fP σ σ' ∧ dQ N T a k m st i σ Q Q') := by
      intro hc
      obtain ⟨σ', d, ω', Q', g1, g2, g3, g4, g5, g6⟩ := ih (i + 1) f f' pl σ ω Q (by omega) (by omega) (by omega) h (fun c hc => by have := hl c hc; omega)
      refine ⟨σ', d, ω', Q', g1, g2, g3, g4, fun x h1 h2 => ?_, fun c hc => g6 c (fun x h1 h2 => hc x (by omega) h2)⟩
      by_cases e : x = i
      · subst e
        refine ⟨nI (T + 1), nI_lt (by omega) (by omega), ?_⟩
        rw [g6 _ (fun y h1 h2 => by omega), if_neg (by rw [hc]; decide), List.append_nil]
      · exact g5 x (by omega) h2
    cases hb : bt (σ 15 m) i with
    | false =>
      obtain ⟨σ', d, ω', Q', g1, g2, g3⟩ := skip (by rw [hb]; rfl)
      refine ⟨σ', d, ω', Q', ?_, ?_, g3⟩
      · simp (disch := first | omega | (simp only [pN, pP, pM, pE, pL, pC, pK, sp]; omega)) only [u_fX7_putForAll_3, u_fX7_putForAll_41, z1, k_isIn2, hb, b2_f, g1, e_T, e_F, e_bnd, e_obr, e_obd, e_obt, e_addB, e_addA, e_in, e_cl, e_leT, e_leF, e_ltT, e_ltF, e_eqT, e_eqF, e_NOT, e_NOF, nI_add, pk_mul, k_spot, k_chan, m_node, m_pair, m_msg, m_chan, m_pack, e_w, e_wn, e_ws]
      · simp (disch := first | omega | (simp only [pN, pP, pM, pE, pL, pC, pK, sp]; omega)) only [u_fX12_putsAll_3, u_fX12_putsAll_36, m_nodes, z2, hto, hb, b2_f, g2, e_T, e_F, e_bnd, e_obr, e_obd, e_obt, e_addB, e_addA, e_in, e_cl, e_leT, e_leF, e_ltT, e_ltF, e_eqT, e_eqF, e_NOT, e_NOF, nI_add, pk_mul, k_spot, k_chan, m_node, m_pair, m_msg, m_chan, m_pack, e_w, e_wn, e_ws]
    | true =>
      cases hn : ntB σ i with
      | true =>
        obtain ⟨σ', d, ω', Q', g1, g2, g3⟩ := skip (by rw [hb, hn]; rfl)
        obtain ⟨p1, p2⟩ := s_put0 (u := u) (pl := pl) (a := a) (x1 := nI k) (x2 := nI m) (x3 := st) (x4 := nI 0) (y1 := nI k) (y2 := nI m) (y3 := num st) (y4 := nod st) (y5 := nI 0) h.1 h.2.1 (show i < N by omega) hn
        refine ⟨σ', d, ω', Q', ?_, ?_, g3⟩
        · simp (disch := first | omega | (simp only [pN, pP, pM, pE, pL, pC, pK, sp]; omega)) only [u_fX7_putForAll_3, u_fX7_putForAll_41, z1, k_isIn2, hb, b2_t, p1, Nat.add_zero, g1, e_T, e_F, e_bnd, e_obr, e_obd, e_obt, e_addB, e_addA, e_in, e_cl, e_leT, e_leF, e_ltT, e_ltF, e_eqT, e_eqF, e_NOT, e_NOF, nI_add, pk_mul, k_spot, k_chan, m_node, m_pair, m_msg, m_chan, m_pack, e_w, e_wn, e_ws, Nat.zero_add]
        · simp (disch := first | omega | (simp only [pN, pP, pM, pE, pL, pC, pK, sp]; omega)) only [u_fX12_putsAll_3, u_fX12_putsAll_36, m_nodes, z2, hto, hb, b2_t, p2, g2, e_T, e_F, e_bnd, e_obr, e_obd, e_obt, e_addB, e_addA, e_in, e_cl, e_leT, e_leF, e_ltT, e_ltF, e_eqT, e_eqF, e_NOT, e_NOF, nI_add, pk_mul, k_spot, k_chan, m_node, m_pair, m_msg, m_chan, m_pack, e_w, e_wn, e_ws]
      | false =>
        obtain ⟨σ1, d1, ω1, t, p1, p2, p3, p4, p5⟩ := s_put (u := u) (a := a) (b := i) (s := 0) h (fun c hc => by have := hl c hc; omega) hd ha (by omega) (by omega) hv hn
        obtain ⟨σ', d, ω', Q', g1, g2, g3, g4, g5, g6⟩ := ih (i + 1) f f' (pl + d1) σ1 ω1 _ (by omega) (by omega) (by omega) p3 (fun c hc => by
          have := hl c hc
          by_cases e : c = 6 * a + i
          · rw [e, uQ_s, List.length_append, ← e]; simp only [List.length_cons, List.length_nil]; omega
          · rw [uQ_n _ _ e]; omega)
        refine ⟨σ', d1 + d, ω', Q', ?_, ?_, by rw [← Nat.add_assoc]; exact g3, fP_tr p4 g4, fun x h1 h2 => ?_, fun c hc => ?_⟩
        · simp (disch := first | omega | (simp only [pN, pP, pM, pE, pL, pC, pK, sp]; omega)) only [u_fX7_putForAll_3, u_fX7_putForAll_41, z1, k_isIn2, hb, b2_t, p1, g1, e_T, e_F, e_bnd, e_obr, e_obd, e_obt, e_addB, e_addA, e_in, e_cl, e_leT, e_leF, e_ltT, e_ltF, e_eqT, e_eqF, e_NOT, e_NOF, nI_add, pk_mul, k_spot, k_chan, m_node, m_pair, m_msg, m_chan, m_pack, e_w, e_wn, e_ws]
        · simp (disch := first | omega | (simp only [pN, pP, pM, pE, pL, pC, pK, sp]; omega)) only [u_fX12_putsAll_3, u_fX12_putsAll_36, m_nodes, z2, hto, hb, b2_t, p2, g2, e_T, e_F, e_bnd, e_obr, e_obd, e_obt, e_addB, e_addA, e_in, e_cl, e_leT, e_leF, e_ltT, e_ltF, e_eqT, e_eqF, e_NOT, e_NOF, nI_add, pk_mul, k_spot, k_chan, m_node, m_pair, m_msg, m_chan, m_pack, e_w, e_wn, e_ws]
        · by_cases e : x = i
          · subst e
            refine ⟨t, p5, ?_⟩
            rw [g6 _ (fun y h1 h2 => by omega), if_pos (by rw [hb, hn]; rfl), uQ_s]
          · obtain ⟨t', y1, y2⟩ := g5 x (by omega) h2
            refine ⟨t', y1, ?_⟩
            rw [y2, uQ_n _ _ (by omega), fP_nt p4, fP_c p4 15 (by decide)]
        · rw [g6 c (fun x h1 h2 => hc x (by omega) h2), uQ_n _ _ (hc i (by omega) (by omega))]
theorem s_putAll {a k m : Nat} {st : Int32} (h : R0 dr tk pl N G M T B Q Dl σ ω) (hl : ∀ c, c < 36 → (Q c).length ≤ 100) (ha : a < N) (hv : ∀ t, vK M B (t, k, m, st, nI 0)) (hd : dF dr u) :
    ∃ σ' d ω' Q', fX7_putForAll (nI a) (nI k) (nI m) st σ pl = some (σ', d) ∧ fX12_putsAll (nI a) (nI k) (nI m) (num st) (nod st) (sq u 1 ω) = some (sq u 1 ω') ∧ R0 dr tk (pl + d) N G M T B Q' Dl σ' ω' ∧ fP σ σ' ∧ dQ N T a k m st 0 σ Q Q' := by
  have h6 := h.1.1.1
  exact s_putAll_lp ha hv hd N 0 FU FU pl σ ω Q (by omega) (by show N < 100000; omega) (by show N < 100000; omega) h (fun c hc => by have := hl c hc; omega)
/-! a gather's begin -/
def bgn (σ : Sg) (n m : Nat) : Sg := s2 (s2 (s2 σ 27 (sp n m) (nI 0)) 28 (sp n m) NO) 29 (sp n m) NO
def gat (ω : Nat → Int32) (n m : Nat) : Nat → Int32 := upd (upd (upd (upd (upd (upd ω (pP n m 5) (nI 1)) (pP n m 6) (nI 0)) (pP n m 7) NO) (pP n m 8) NO) (pP n m 9) NO) (pP n m 10) NO
theorem k_begin {n m : Nat} (hn : n < 6) (hm : m < 20) : fX3_begin (nI (sp n m)) σ = some (bgn σ n m) := by
  have : sp n m < 120 := by unfold sp; omega
  simp (disch := first | omega | (simp only [pN, pP, pM, pE, pL, pC, pK, sp]; omega)) only [u_fX3_begin, u_fX3_begin_0, bgn, e_T, e_F, e_bnd, e_obr, e_obd, e_obt, e_addB, e_addA, e_in, e_cl, e_leT, e_leF, e_ltT, e_ltF, e_eqT, e_eqF, e_NOT, e_NOF, nI_add, pk_mul, k_spot, k_chan, m_node, m_pair, m_msg, m_chan, m_pack, e_w, e_wn, e_ws]
theorem m_gathers {n m : Nat} (hn : n < 6) (hm : m < 20) : fX12_gathers (nI n) (nI m) (sq u 1 ω) = some (sq u 1 (gat ω n m)) := by
  obtain ⟨f, hf⟩ : ∃ f, FU = f + 1 + 1 + 1 + 1 + 1 := ⟨99995, rfl⟩
  rw [u_fX12_gathers, u_fX12_gathers_0, hf]
  simp (disch := first | omega | (simp only [pN, pP, pM, pE, pL, pC, pK, sp]; omega)) only [u_fX12_gathers_20, m_lays, gat, e_T, e_F, e_bnd, e_obr, e_obd, e_obt, e_addB, e_addA, e_in, e_cl, e_leT, e_leF, e_ltT, e_ltF, e_eqT, e_eqF, e_NOT, e_NOF, nI_add, pk_mul, k_spot, k_chan, m_node, m_pair, m_msg, m_chan, m_pack, e_w, e_wn, e_ws]
theorem bgn_c (σ : Sg) (n m : Nat) : fc [27, 28, 29] σ (bgn σ n m) := by
  intro q hq
  have a1 : q ≠ 27 := fun e => hq (by rw [e]; decide)
  have a2 : q ≠ 28 := fun e => hq (by rw [e]; decide)
  have a3 : q ≠ 29 := fun e => hq (by rw [e]; decide)
  unfold bgn
  simp (disch := first | omega | (simp only [pN, pP, pM, pE, pL, pC, pK, sp]; omega)) only [e_s2, e_s2n, pk_us, pk_un]
theorem bgn_i {n m : Nat} (q i : Nat) (hi : i ≠ sp n m) : bgn σ n m q i = σ q i := by
  unfold bgn
  simp only [e_s2'', hi, and_false, if_false]
theorem gat_w {n m i : Nat} (h : ∀ w, w < 11 → i ≠ pP n m w) : gat ω n m i = ω i := by
  have h5 := h 5 (by omega)
  have h6 := h 6 (by omega)
  have h7 := h 7 (by omega)
  have h8 := h 8 (by omega)
  have h9 := h 9 (by omega)
  have h10 := h 10 (by omega)
  unfold gat
  simp (disch := assumption) only [pk_un]
theorem rP1_g {n m : Nat} (h : rP1 N M T B σ ω n m) (h20 : σ' 20 (sp n m) = σ 20 (sp n m)) (h21 : σ' 21 (sp n m) = σ 21 (sp n m)) (h22 : σ' 22 (sp n m) = σ 22 (sp n m)) (h23 : σ' 23 (sp n m) = σ 23 (sp n m)) (hw : ∀ w, w < 5 → ω' (pP n m w) = ω (pP n m w)) (g : (σ' 27 (sp n m) = NO ∧ ω' (pP n m 5) = nI 0) ∨ (n < N ∧ m < M ∧ rG N B σ' ω' n m)) : rP1 N M T B σ' ω' n m := by
  obtain ⟨⟨k, k1, k2, k3, k4, k5⟩, s, l, -⟩ := h
  refine ⟨⟨k, k1, by rw [h20]; exact k2, by rw [hw 0 (by omega)]; exact k3, by rw [h22]; exact k4, by rw [h23, hw 4 (by omega)]; exact k5⟩, by rw [h21, hw 1 (by omega), hw 2 (by omega)]; exact s, by rw [h22, hw 3 (by omega)]; exact l, g⟩
theorem rG_0 {n m : Nat} (a : ω' (pP n m 5) = nI 1) (b : ω' (pP n m 6) = nI 0) (c : ∀ w, 7 ≤ w → w < 11 → ω' (pP n m w) = NO) (d : σ' 27 (sp n m) = nI 0) (e : σ' 28 (sp n m) = NO) (f : σ' 29 (sp n m) = NO) : rG N B σ' ω' n m := by
  refine ⟨a, ⟨0, by omega, d, b, ⟨fun _ => e, fun _ => rfl⟩, fun _ => f⟩, fun k _ => by rw [d]; exact b_n0 k, ⟨by rw [e]; exact Or.inl rfl, by rw [e, c 7 (by omega) (by omega), num_NO], by rw [e, c 8 (by omega) (by omega), nod_NO]⟩, ⟨by rw [f]; exact Or.inl rfl, by rw [f, c 9 (by omega) (by omega), num_NO], by rw [f, c 10 (by omega) (by omega), nod_NO]⟩⟩
theorem rP1_bgn {n m : Nat} (h : rP1 N M T B σ ω n m) (hn : n < N) (hm : m < M) (h20 : σ' 20 (sp n m) = σ 20 (sp n m)) (h21 : σ' 21 (sp n m) = σ 21 (sp n m)) (h22 : σ' 22 (sp n m) = σ 22 (sp n m)) (h23 : σ' 23 (sp n m) = σ 23 (sp n m)) (d : σ' 27 (sp n m) = nI 0) (e : σ' 28 (sp n m) = NO) (f : σ' 29 (sp n m) = NO) (hw : ∀ w, w < 11 → ω' (pP n m w) = gat ω n m (pP n m w)) : rP1 N M T B σ' ω' n m := by
  have g : ∀ w, w < 11 → gat ω n m (pP n m w) = if w < 5 then ω (pP n m w) else if w = 5 then nI 1 else if w = 6 then nI 0 else NO := by
    intro w hw'
    unfold gat
    rcases (show w < 5 ∨ w = 5 ∨ w = 6 ∨ w = 7 ∨ w = 8 ∨ w = 9 ∨ w = 10 by omega) with h | rfl | rfl | rfl | rfl | rfl | rfl
    · rw [if_pos h]; simp (disch := first | omega | (simp only [pN, pP, pM, pE, pL, pC, pK, sp]; omega)) only [pk_un]
    all_goals simp (disch := first | omega | (simp only [pN, pP, pM, pE, pL, pC, pK, sp]; omega)) only [pk_us, pk_un]; rfl
  refine rP1_g h h20 h21 h22 h23 (fun w hw' => by rw [hw w (by omega), g w (by omega), if_pos hw']) (Or.inr ⟨hn, hm, rG_0 (by rw [hw 5 (by omega), g 5 (by omega)]; rfl) (by rw [hw 6 (by omega), g 6 (by omega)]; rfl) (fun w h1 h2 => by rw [hw w h2, g w h2, if_neg (by omega), if_neg (by omega), if_neg (by omega)]) d e f⟩)
theorem s_begin {n m : Nat} (h : R0 dr tk pl N G M T B Q Dl σ ω) (hl : ∀ c, c < 36 → (Q c).length ≤ 110) (hn : n < N) (hm : m < M) : R0 dr tk pl N G M T B Q Dl (bgn σ n m) (gat ω n m) := by
  have h6 := h.1.1.1
  have hM20 := h.1.1.2.2.1
  have b := bgn_c σ n m
  have hs : sp n m < 120 := by unfold sp; omega
  refine R0_pair h hl (by omega) (by omega) (fc_wk b (by decide)) (fun q i hi => bgn_i q i hi) (fun i hi => gat_w hi) ?_ (by rw [b 20 (by decide)]) (by rw [cnt_fr (σ := σ) (fun i _ => by rw [b 20 (by decide)])]; exact h.2.2.2.2.2.2.2.2.2.2)
  refine rP1_bgn (h.2.2.1 n m (by omega) (by omega)) hn hm (by rw [b 20 (by decide)]) (by rw [b 21 (by decide)]) (by rw [b 22 (by decide)]) (by rw [b 23 (by decide)]) ?_ ?_ ?_ (fun w _ => rfl)
  all_goals unfold bgn; simp (disch := first | omega | (simp only [pN, pP, pM, pE, pL, pC, pK, sp]; omega)) only [e_s2, e_s2n, pk_us, pk_un]
end PA
