/-! chain -/
def uns (x : Int32) : Nat := sumL (fun i => i01 (!bt x i)) 20
theorem uns_add {x : Int32} {k : Nat} (hk : k < 20) (h : bt x k = false) : uns x = uns (x ||| sh1 (nI k)) + 1 := by
  unfold uns
  have := sumL_upd (f := fun i => i01 (!bt x i)) (g := fun i => i01 (!bt (x ||| sh1 (nI k)) i)) hk (fun i hi hne => by
    show i01 (!bt (x ||| sh1 (nI k)) i) = i01 (!bt x i)
    rw [b_or, b_sh1 (by omega), decide_eq_false hne, Bool.or_false])
  have e1 : i01 (!bt x k) = 1 := by rw [h]; rfl
  have e2 : i01 (!bt (x ||| sh1 (nI k)) k) = 0 := by rw [b_or, b_sh1 (by omega), decide_eq_true rfl, Bool.or_true]; rfl
  rw [e1, e2] at this
  omega
theorem uns_1 {k : Nat} (hk : k < 20) : uns (sh1 (nI k)) = 19 := by
  have h1 := uns_add (x := nI 0) hk (b_n0 k)
  rw [n0_or] at h1
  have h2 : uns (nI 0) = 20 := by
    unfold uns
    rw [sumL_congr (g := fun _ => 1) (fun i _ => by rw [b_n0]; rfl)]; rfl
  omega
def ans (x3 : Int32) : Nat → List Nat → Int32
  | _, [] => NO
  | p, x :: L => if x3 = nI p then nI x else ans x3 (p + 1) L
theorem ans_at {j : Nat} : ∀ {L : List Nat} {p x : Nat}, L[j]? = some x → p + j < 1000 → p + L.length < 1000 → ans (nI (p + j)) p L = nI x := by
  induction j with
  | zero =>
    intro L p x h hp hl
    cases L with
    | nil => cases h
    | cons y L => cases h; unfold ans; rw [Nat.add_zero, if_pos rfl]
  | succ j ih =>
    intro L p x h hp hl
    cases L with
    | nil => cases h
    | cons y L =>
      unfold ans
      rw [List.length_cons] at hl
      rw [if_neg (fun q => by have := (nI_eq (by omega) (by omega)).mp q; omega), show p + (j + 1) = p + 1 + j from by omega]
      exact ih (by simpa using h) (by omega) (by omega)
theorem ans_no {x3 : Int32} : ∀ {L : List Nat} {p : Nat}, (∀ j, j < L.length → x3 ≠ nI (p + j)) → ans x3 p L = NO
  | [], _, _ => rfl
  | y :: L, p, h => by
    unfold ans
    have h0 : x3 ≠ nI p := h 0 (by simp)
    rw [if_neg h0]
    exact ans_no (fun j hj => by rw [show p + 1 + j = p + (j + 1) from by omega]; exact h (j + 1) (by simp; omega))
section CH
variable {dr : Prop} {tk : Int32} {pl N G M T B : Nat} {Q : Qs} {Dl : Nat → List Nat} {σ u : Sg} {ω : Nat → Int32} {n m : Nat}
theorem wS_bits {m : Nat} (h6 : N ≤ 6) : ∀ k, wS N σ m k = NO ∨ ∀ i, N ≤ i → bt (wS N σ m k) i = false
  | 0 => Or.inl rfl
  | k + 1 => by
    have hw : ∀ i, N ≤ i → bt (wW N σ m k) i = false := fun i hi => by unfold wW; rw [bt_setOf (by omega), decide_eq_false (by omega), Bool.false_and]
    rw [wS_s]
    split
    · split
      · exact Or.inr hw
      · rename_i hne
        rcases wS_bits h6 k with h | h
        · exact absurd h hne
        · exact Or.inr (fun i hi => by rw [b_or, h i hi, hw i hi]; rfl)
    · exact wS_bits h6 k
theorem k_lst_lp {x : Int32} {j : Nat} (hj : j < 6) (h1 : bt x j = true) (h0 : ∀ i, i < j → bt x i = false) : ∀ r k f, k + r = j → r < f → fX0_leastOf_9 σ f x (nI k) = some (nI j) := by
  intro r
  induction r with
  | zero =>
    intro k f hk hf
    obtain ⟨f, rfl⟩ : ∃ g, f = g + 1 := ⟨f - 1, by omega⟩
    have hk : k = j := by omega
    subst hk
    simp (disch := first | omega | (simp only [pN, pP, pM, pE, pL, pC, pK, sp]; omega)) only [u_fX0_leastOf_9, k_isIn2, h1, b2_t, e_T, e_F, e_bnd, e_obr, e_obd, e_obt, e_addB, e_addA, e_in, e_cl, e_leT, e_leF, e_ltT, e_ltF, e_eqT, e_eqF, e_NOT, e_NOF, nI_add, pk_mul, k_spot, k_chan, m_node, m_pair, m_msg, m_chan, m_pack, e_w, e_wn, e_ws]
  | succ r ih =>
    intro k f hk hf
    obtain ⟨f, rfl⟩ : ∃ g, f = g + 1 := ⟨f - 1, by omega⟩
    have I := ih (k + 1) f (by omega) (by omega)
    have hk0 := h0 k (by omega)
    simp (disch := first | omega | (simp only [pN, pP, pM, pE, pL, pC, pK, sp]; omega)) only [u_fX0_leastOf_9, k_isIn2, hk0, b2_f, I, e_T, e_F, e_bnd, e_obr, e_obd, e_obt, e_addB, e_addA, e_in, e_cl, e_leT, e_leF, e_ltT, e_ltF, e_eqT, e_eqF, e_NOT, e_NOF, nI_add, pk_mul, k_spot, k_chan, m_node, m_pair, m_msg, m_chan, m_pack, e_w, e_wn, e_ws]
theorem k_lst_no : ∀ r k f, k + r = 6 → r < f → fX0_leastOf_9 σ f (nI 0) (nI k) = some NO := by
  intro r
  induction r with
  | zero =>
    intro k f hk hf
    obtain ⟨f, rfl⟩ : ∃ g, f = g + 1 := ⟨f - 1, by omega⟩
    simp (disch := first | omega | (simp only [pN, pP, pM, pE, pL, pC, pK, sp]; omega)) only [u_fX0_leastOf_9, e_T, e_F, e_bnd, e_obr, e_obd, e_obt, e_addB, e_addA, e_in, e_cl, e_leT, e_leF, e_ltT, e_ltF, e_eqT, e_eqF, e_NOT, e_NOF, nI_add, pk_mul, k_spot, k_chan, m_node, m_pair, m_msg, m_chan, m_pack, e_w, e_wn, e_ws]
  | succ r ih =>
    intro k f hk hf
    obtain ⟨f, rfl⟩ : ∃ g, f = g + 1 := ⟨f - 1, by omega⟩
    have I := ih (k + 1) f (by omega) (by omega)
    simp (disch := first | omega | (simp only [pN, pP, pM, pE, pL, pC, pK, sp]; omega)) only [u_fX0_leastOf_9, k_isIn2, b_n0, b2_f, I, e_T, e_F, e_bnd, e_obr, e_obd, e_obt, e_addB, e_addA, e_in, e_cl, e_leT, e_leF, e_ltT, e_ltF, e_eqT, e_eqF, e_NOT, e_NOF, nI_add, pk_mul, k_spot, k_chan, m_node, m_pair, m_msg, m_chan, m_pack, e_w, e_wn, e_ws]
theorem w_node (h6 : N ≤ 6) (m : Nat) : ((wS N σ m N = NO ∨ wS N σ m N = nI 0) ∧ fX0_leastOf (wS N σ m N) σ = some NO) ∨ ∃ d, d < N ∧ wS N σ m N ≠ NO ∧ wS N σ m N ≠ nI 0 ∧ fX0_leastOf (wS N σ m N) σ = some (nI d) ∧ fJ6_numberOfTrailingZeros_0f7a4 (wS N σ m N) = nI d := by
  by_cases hN : wS N σ m N = NO
  · refine Or.inl ⟨Or.inl hN, ?_⟩
    rw [u_fX0_leastOf, u_fX0_leastOf_0, cnd_pos hN]
  · by_cases h0 : wS N σ m N = nI 0
    · refine Or.inl ⟨Or.inr h0, ?_⟩
      rw [u_fX0_leastOf, u_fX0_leastOf_0, cnd_neg hN, h0]
      exact k_lst_no 6 0 FU (by omega) (by show 6 < 100000; omega)
    · have hb := (wS_bits (σ := σ) (m := m) h6 N).resolve_left hN
      have hex : ∃ i, i < N ∧ bt (wS N σ m N) i = true := by
        refine Classical.byContradiction (fun q => h0 (x_zero (fun i _ => ?_)))
        by_cases hi : i < N
        · cases h1 : bt (wS N σ m N) i with
          | false => rfl
          | true => exact absurd ⟨i, hi, h1⟩ q
        · exact hb i (by omega)
      obtain ⟨j, j1, j2, j3⟩ := low_ex hex
      refine Or.inr ⟨j, j1, hN, h0, ?_, tz (by omega) j2 j3⟩
      rw [u_fX0_leastOf, u_fX0_leastOf_0, cnd_neg hN]
      exact k_lst_lp (by omega) j2 j3 j 0 FU (by omega) (by show j < 100000; omega)
theorem s_chain (h : R0 dr tk pl N G M T B Q Dl σ ω) (hn : n < N) (hblk : ∀ d m x, blk σ M d m = some x → x < M) : ∀ (U p f f' : Nat) (x4 : Int32) (cur : Option Nat) (u : Sg), uns x4 = U → p + U ≤ 19 → U < f → U < f' → (∀ x, cur = some x → x < M) →
    ∃ L u', fX12_laysChain_15 f (nI n) (nI p) x4 (oI cur) (sq u 1 ω) = some (nI (p + L.length), sq u' 1 ω) ∧ (∀ q, q ≠ 8 → u' q = u q) ∧ (∀ j, j < p → u' 8 j = u 8 j) ∧ (∀ i x, L[i]? = some x → u' 8 (p + i) = nI x) ∧ L.length ≤ U ∧ ∀ x3 : Int32, fX0_chainAt_16 σ f' (nI n) x3 x4 (oI cur) (nI p) = some (ans x3 p L) := by
  have h6 := h.1.1.1
  have hM20 := h.1.1.2.2.1
  have z13 := h.1.2.2.2.1.1
  intro U
  induction U with
  | zero =>
    intro p f f' x4 cur u hU hp hf hf' hc
    obtain ⟨f, rfl⟩ : ∃ g, f = g + 1 := ⟨f - 1, by omega⟩
    obtain ⟨f', rfl⟩ : ∃ g, f' = g + 1 := ⟨f' - 1, by omega⟩
    refine ⟨[], u, ?_, fun _ _ => rfl, fun _ _ => rfl, fun i x q => (by cases q), Nat.le_refl _, fun x3 => ?_⟩
    · cases cur with
      | none => simp (disch := first | omega | (simp only [pN, pP, pM, pE, pL, pC, pK, sp]; omega)) only [oI, u_fX12_laysChain_15, List.length_nil, Nat.add_zero, e_T, e_F, e_bnd, e_obr, e_obd, e_obt, e_addB, e_addA, e_in, e_cl, e_leT, e_leF, e_ltT, e_ltF, e_eqT, e_eqF, e_NOT, e_NOF, nI_add, pk_mul, k_spot, k_chan, m_node, m_pair, m_msg, m_chan, m_pack, e_w, e_wn, e_ws]
      | some x =>
        have hx := hc x rfl
        have hb : bt x4 x = true := by
          cases h1 : bt x4 x with
          | true => rfl
          | false => have := uns_add (show x < 20 by omega) h1; omega
        simp (disch := first | omega | (simp only [pN, pP, pM, pE, pL, pC, pK, sp]; omega)) only [oI, u_fX12_laysChain_15, k_holds2, hb, b2_t, List.length_nil, Nat.add_zero, e_T, e_F, e_bnd, e_obr, e_obd, e_obt, e_addB, e_addA, e_in, e_cl, e_leT, e_leF, e_ltT, e_ltF, e_eqT, e_eqF, e_NOT, e_NOF, nI_add, pk_mul, k_spot, k_chan, m_node, m_pair, m_msg, m_chan, m_pack, e_w, e_wn, e_ws]
    · cases cur with
      | none => simp (disch := first | omega | (simp only [pN, pP, pM, pE, pL, pC, pK, sp]; omega)) only [oI, u_fX0_chainAt_16, ans, e_T, e_F, e_bnd, e_obr, e_obd, e_obt, e_addB, e_addA, e_in, e_cl, e_leT, e_leF, e_ltT, e_ltF, e_eqT, e_eqF, e_NOT, e_NOF, nI_add, pk_mul, k_spot, k_chan, m_node, m_pair, m_msg, m_chan, m_pack, e_w, e_wn, e_ws]
      | some x =>
        have hx := hc x rfl
        have hb : bt x4 x = true := by
          cases h1 : bt x4 x with
          | true => rfl
          | false => have := uns_add (show x < 20 by omega) h1; omega
        simp (disch := first | omega | (simp only [pN, pP, pM, pE, pL, pC, pK, sp]; omega)) only [oI, u_fX0_chainAt_16, k_isIn2, hb, b2_t, ans, e_T, e_F, e_bnd, e_obr, e_obd, e_obt, e_addB, e_addA, e_in, e_cl, e_leT, e_leF, e_ltT, e_ltF, e_eqT, e_eqF, e_NOT, e_NOF, nI_add, pk_mul, k_spot, k_chan, m_node, m_pair, m_msg, m_chan, m_pack, e_w, e_wn, e_ws]
  | succ U ih =>
    intro p f f' x4 cur u hU hp hf hf' hc
    obtain ⟨f, rfl⟩ : ∃ g, f = g + 1 := ⟨f - 1, by omega⟩
    obtain ⟨f', rfl⟩ : ∃ g, f' = g + 1 := ⟨f' - 1, by omega⟩
    cases cur with
    | none =>
      refine ⟨[], u, ?_, fun _ _ => rfl, fun _ _ => rfl, fun i x q => (by cases q), by simp, fun x3 => ?_⟩
      · simp (disch := first | omega | (simp only [pN, pP, pM, pE, pL, pC, pK, sp]; omega)) only [oI, u_fX12_laysChain_15, List.length_nil, Nat.add_zero, e_T, e_F, e_bnd, e_obr, e_obd, e_obt, e_addB, e_addA, e_in, e_cl, e_leT, e_leF, e_ltT, e_ltF, e_eqT, e_eqF, e_NOT, e_NOF, nI_add, pk_mul, k_spot, k_chan, m_node, m_pair, m_msg, m_chan, m_pack, e_w, e_wn, e_ws]
      · simp (disch := first | omega | (simp only [pN, pP, pM, pE, pL, pC, pK, sp]; omega)) only [oI, u_fX0_chainAt_16, ans, e_T, e_F, e_bnd, e_obr, e_obd, e_obt, e_addB, e_addA, e_in, e_cl, e_leT, e_leF, e_ltT, e_ltF, e_eqT, e_eqF, e_NOT, e_NOF, nI_add, pk_mul, k_spot, k_chan, m_node, m_pair, m_msg, m_chan, m_pack, e_w, e_wn, e_ws]
    | some x =>
      have hx := hc x rfl
      cases hb : bt x4 x with
      | true =>
        refine ⟨[], u, ?_, fun _ _ => rfl, fun _ _ => rfl, fun i x q => (by cases q), by simp, fun x3 => ?_⟩
        · simp (disch := first | omega | (simp only [pN, pP, pM, pE, pL, pC, pK, sp]; omega)) only [oI, u_fX12_laysChain_15, k_holds2, hb, b2_t, List.length_nil, Nat.add_zero, e_T, e_F, e_bnd, e_obr, e_obd, e_obt, e_addB, e_addA, e_in, e_cl, e_leT, e_leF, e_ltT, e_ltF, e_eqT, e_eqF, e_NOT, e_NOF, nI_add, pk_mul, k_spot, k_chan, m_node, m_pair, m_msg, m_chan, m_pack, e_w, e_wn, e_ws]
        · simp (disch := first | omega | (simp only [pN, pP, pM, pE, pL, pC, pK, sp]; omega)) only [oI, u_fX0_chainAt_16, k_isIn2, hb, b2_t, ans, e_T, e_F, e_bnd, e_obr, e_obd, e_obt, e_addB, e_addA, e_in, e_cl, e_leT, e_leF, e_ltT, e_ltF, e_eqT, e_eqF, e_NOT, e_NOF, nI_add, pk_mul, k_spot, k_chan, m_node, m_pair, m_msg, m_chan, m_pack, e_w, e_wn, e_ws]
      | false =>
        have hU2 := uns_add (show x < 20 by omega) hb
        have kw := k_waits h hx
        have mw := m_waits (u := s2 u 8 p (nI x)) h hx
        have ew : s2 (sq u 1 ω) 8 p (nI x) = sq (s2 u 8 p (nI x)) 1 ω := by
          funext q
          by_cases e1 : q = 1
          · subst e1; rw [e_s2n _ _ _ (by omega), e_w, e_w]
          · by_cases e8 : q = 8
            · subst e8; rw [e_s2, e_wn _ _ e1, e_wn _ _ e1, e_s2]
            · rw [e_s2n _ _ _ e8, e_wn _ _ e1, e_wn _ _ e1, e_s2n _ _ _ e8]
        have fin : ∀ d, d < 6 → (∀ K, fX12_laysChain_15 (f + 1) (nI n) (nI p) x4 (nI x) (sq u 1 ω) = K → True) → (fX12_laysChain_15 (f + 1) (nI n) (nI p) x4 (nI x) (sq u 1 ω) = fX12_laysChain_15 f (nI n) (nI (p + 1)) (x4 ||| sh1 (nI x)) (oI (blk σ M d x)) (sq (s2 u 8 p (nI x)) 1 ω)) → (∀ x3, x3 ≠ nI p → fX0_chainAt_16 σ (f' + 1) (nI n) x3 x4 (nI x) (nI p) = fX0_chainAt_16 σ f' (nI n) x3 (x4 ||| sh1 (nI x)) (oI (blk σ M d x)) (nI (p + 1))) →
            ∃ L u', fX12_laysChain_15 (f + 1) (nI n) (nI p) x4 (nI x) (sq u 1 ω) = some (nI (p + L.length), sq u' 1 ω) ∧ (∀ q, q ≠ 8 → u' q = u q) ∧ (∀ j, j < p → u' 8 j = u 8 j) ∧ (∀ i x, L[i]? = some x → u' 8 (p + i) = nI x) ∧ L.length ≤ U + 1 ∧ ∀ x3 : Int32, fX0_chainAt_16 σ (f' + 1) (nI n) x3 x4 (nI x) (nI p) = some (ans x3 p L) := by
          intro d hd _ e1 e2
          obtain ⟨L, u', c1, c2, c3, c4, c5, c6⟩ := ih (p + 1) f f' (x4 ||| sh1 (nI x)) (blk σ M d x) (s2 u 8 p (nI x)) (by omega) (by omega) (by omega) (by omega) (fun y hy => hblk d x y hy)
          refine ⟨x :: L, u', ?_, fun q hq => by rw [c2 q hq, e_s2n _ _ _ hq], fun j hj => by rw [c3 j (by omega), e_s2, pk_un (by omega)], fun i y hy => ?_, by rw [List.length_cons]; omega, fun x3 => ?_⟩
          · rw [e1, c1, List.length_cons, show p + (L.length + 1) = p + 1 + L.length from by omega]
          · cases i with
            | zero =>
              have hy : x = y := by simpa using hy
              rw [Nat.add_zero, c3 p (by omega), e_s2, pk_us, hy]
            | succ i =>
              rw [show p + (i + 1) = p + 1 + i from by omega]
              exact c4 i y (by simpa using hy)
          · unfold ans
            by_cases e : x3 = nI p
            · subst e
              rw [if_pos rfl]
              simp (disch := first | omega | (simp only [pN, pP, pM, pE, pL, pC, pK, sp]; omega)) only [u_fX0_chainAt_16, k_isIn2, hb, b2_f, e_T, e_F, e_bnd, e_obr, e_obd, e_obt, e_addB, e_addA, e_in, e_cl, e_leT, e_leF, e_ltT, e_ltF, e_eqT, e_eqF, e_NOT, e_NOF, nI_add, pk_mul, k_spot, k_chan, m_node, m_pair, m_msg, m_chan, m_pack, e_w, e_wn, e_ws]
            · rw [if_neg e, e2 x3 e, c6 x3]
        show ∃ L u', fX12_laysChain_15 (f + 1) (nI n) (nI p) x4 (nI x) (sq u 1 ω) = some (nI (p + L.length), sq u' 1 ω) ∧ (∀ q, q ≠ 8 → u' q = u q) ∧ (∀ j, j < p → u' 8 j = u 8 j) ∧ (∀ i x, L[i]? = some x → u' 8 (p + i) = nI x) ∧ L.length ≤ U + 1 ∧ ∀ x3 : Int32, fX0_chainAt_16 σ (f' + 1) (nI n) x3 x4 (nI x) (nI p) = some (ans x3 p L)
        rcases w_node (σ := σ) h6 x with ⟨w1, w2⟩ | ⟨d, d1, d2, d3, d4, d5⟩
        · have kb := k_block (σ := σ) (n := n) z13 (by omega) hM20 hx
          have mb := m_block (u := s2 u 8 p (nI x)) (n := n) h (by omega) hx
          refine fin n (by omega) (fun _ _ => trivial) ?_ (fun x3 hx3 => ?_)
          · rcases w1 with w1 | w1
            · rw [w1] at mw
              simp (disch := first | omega | (simp only [pN, pP, pM, pE, pL, pC, pK, sp]; omega)) only [u_fX12_laysChain_15, u_fX12_laysChain_71, u_fX12_laysChain_80, k_holds2, hb, b2_f, ew, mw, mb, e_T, e_F, e_bnd, e_obr, e_obd, e_obt, e_addB, e_addA, e_in, e_cl, e_leT, e_leF, e_ltT, e_ltF, e_eqT, e_eqF, e_NOT, e_NOF, nI_add, pk_mul, k_spot, k_chan, m_node, m_pair, m_msg, m_chan, m_pack, e_w, e_wn, e_ws]
            · rw [w1] at mw
              simp (disch := first | omega | (simp only [pN, pP, pM, pE, pL, pC, pK, sp]; omega)) only [u_fX12_laysChain_15, u_fX12_laysChain_71, u_fX12_laysChain_80, k_holds2, hb, b2_f, ew, mw, mb, e_T, e_F, e_bnd, e_obr, e_obd, e_obt, e_addB, e_addA, e_in, e_cl, e_leT, e_leF, e_ltT, e_ltF, e_eqT, e_eqF, e_NOT, e_NOF, nI_add, pk_mul, k_spot, k_chan, m_node, m_pair, m_msg, m_chan, m_pack, e_w, e_wn, e_ws]
          · simp (disch := first | omega | (simp only [pN, pP, pM, pE, pL, pC, pK, sp]; omega)) only [u_fX0_chainAt_16, u_fX0_chainAt_83, k_isIn2, hb, b2_f, kw, w2, kb, cnd_neg (fun q => hx3 (Eq.symm q)), e_T, e_F, e_bnd, e_obr, e_obd, e_obt, e_addB, e_addA, e_in, e_cl, e_leT, e_leF, e_ltT, e_ltF, e_eqT, e_eqF, e_NOT, e_NOF, nI_add, pk_mul, k_spot, k_chan, m_node, m_pair, m_msg, m_chan, m_pack, e_w, e_wn, e_ws]
        · have kb := k_block (σ := σ) (n := d) z13 (by omega) hM20 hx
          have mb := m_block (u := s2 u 8 p (nI x)) (n := d) h (by omega) hx
          refine fin d (by omega) (fun _ _ => trivial) ?_ (fun x3 hx3 => ?_)
          · simp (disch := first | omega | (simp only [pN, pP, pM, pE, pL, pC, pK, sp]; omega)) only [u_fX12_laysChain_15, u_fX12_laysChain_71, u_fX12_laysChain_80, k_holds2, hb, b2_f, ew, mw, cnd_neg d2, cnd_neg d3, d5, mb, e_T, e_F, e_bnd, e_obr, e_obd, e_obt, e_addB, e_addA, e_in, e_cl, e_leT, e_leF, e_ltT, e_ltF, e_eqT, e_eqF, e_NOT, e_NOF, nI_add, pk_mul, k_spot, k_chan, m_node, m_pair, m_msg, m_chan, m_pack, e_w, e_wn, e_ws]
          · simp (disch := first | omega | (simp only [pN, pP, pM, pE, pL, pC, pK, sp]; omega)) only [u_fX0_chainAt_16, u_fX0_chainAt_83, k_isIn2, hb, b2_f, kw, d4, kb, cnd_neg (fun q => hx3 (Eq.symm q)), e_T, e_F, e_bnd, e_obr, e_obd, e_obt, e_addB, e_addA, e_in, e_cl, e_leT, e_leF, e_ltT, e_ltF, e_eqT, e_eqF, e_NOT, e_NOF, nI_add, pk_mul, k_spot, k_chan, m_node, m_pair, m_msg, m_chan, m_pack, e_w, e_wn, e_ws]
theorem o_chain (h : R0 dr tk pl N G M T B Q Dl σ ω) (x1 x2 x3 : Int32) : QR [0] kk2 (fX11_chain x1 x2 x3 σ) (fX12_chain x1 x2 x3 (sq u 1 ω)) σ u ω := by
  have h6 := h.1.1.1
  have hM20 := h.1.1.2.2.1
  rcases ck_pair h x1 x2 with ⟨n, m, hn, hm, rfl, rfl, k1, k2, m1⟩ | ⟨k1, m1⟩
  · have kb := k_block (σ := σ) (n := n) h.1.2.2.2.1.1 (by omega) hM20 hm
    have mb := m_block (u := s2 u 0 0 (nI 0)) (n := n) h (by omega) hm
    have hblk : ∀ d m x, blk σ M d m = some x → x < M := fun d m x hx => by
      unfold blk at hx
      split at hx
      · exact (gO_some hx).1
      · cases hx
    obtain ⟨L, u', c1, c2, c3, c4, c5, c6⟩ := s_chain h hn hblk 19 0 FU FU (sh1 (nI m)) (blk σ M n m) (s2 u 0 0 (nI 0)) (uns_1 (by omega)) (by omega) (by show 19 < 100000; omega) (by show 19 < 100000; omega) (fun x hx => hblk n m x hx)
    have c6 := c6 x3
    rw [Nat.zero_add] at c1
    have mv : (fX12_in x3 (nI 0) (nI L.length - nI 1) = nI 0 ∧ ans x3 0 L = NO) ∨ ∃ j, j < L.length ∧ x3 = nI j ∧ fX12_in x3 (nI 0) (nI L.length - nI 1) = nI 1 ∧ ans x3 0 L = u' 8 j := by
      rcases ix x3 (n := L.length) (by omega) with hx | ⟨j, hj, rfl⟩
      · refine Or.inl ⟨m_in0 (by omega) hx, ans_no (fun j hj => ?_)⟩
        rw [Nat.zero_add]; exact ne_bad (by omega) hx hj
      · refine Or.inr ⟨j, hj, rfl, m_in1 (by omega) hj, ?_⟩
        have hg : L[j]? = some L[j] := List.getElem?_eq_getElem hj
        have := ans_at (p := 0) hg (by omega) (by omega)
        rw [Nat.zero_add] at this
        have h8 := c4 j _ hg
        rw [Nat.zero_add] at h8
        rw [this, h8]
    refine ⟨.inl (ans x3 0 L), σ, ans x3 0 L, u', ?_, ?_, ⟨fun q hq => ?_, fun j hj => ?_⟩, uq_rf σ, Or.inl ⟨rfl, ?_⟩⟩
    · simp (disch := first | omega | (simp only [pN, pP, pM, pE, pL, pC, pK, sp]; omega)) only [u_fX11_chain, u_fX11_chain_0, k1, k2, e_obxl, e_sbTN, u_fX0_chainAt, u_fX0_chainAt_0, kb, c6, e_T, e_F, e_bnd, e_obr, e_obd, e_obt, e_addB, e_addA, e_in, e_cl, e_leT, e_leF, e_ltT, e_ltF, e_eqT, e_eqF, e_NOT, e_NOF, nI_add, pk_mul, k_spot, k_chan, m_node, m_pair, m_msg, m_chan, m_pack, e_w, e_wn, e_ws]
    · have hl : fX12_laysChain (nI n) (nI m) (sq (s2 u 0 0 (nI 0)) 1 ω) = some (nI L.length, sq u' 1 ω) := by
        simp (disch := first | omega | (simp only [pN, pP, pM, pE, pL, pC, pK, sp]; omega)) only [u_fX12_laysChain, u_fX12_laysChain_0, mb, c1, e_T, e_F, e_bnd, e_obr, e_obd, e_obt, e_addB, e_addA, e_in, e_cl, e_leT, e_leF, e_ltT, e_ltF, e_eqT, e_eqF, e_NOT, e_NOF, nI_add, pk_mul, k_spot, k_chan, m_node, m_pair, m_msg, m_chan, m_pack, e_w, e_wn, e_ws]
      rcases mv with ⟨v1, v2⟩ | ⟨j, j1, rfl, v1, v2⟩
      · simp (disch := first | omega | (simp only [pN, pP, pM, pE, pL, pC, pK, sp]; omega)) only [u_fX12_chain, u_fX12_chain_0, m1, hl, v1, v2, e_T, e_F, e_bnd, e_obr, e_obd, e_obt, e_addB, e_addA, e_in, e_cl, e_leT, e_leF, e_ltT, e_ltF, e_eqT, e_eqF, e_NOT, e_NOF, nI_add, pk_mul, k_spot, k_chan, m_node, m_pair, m_msg, m_chan, m_pack, e_w, e_wn, e_ws]
      · simp (disch := first | omega | (simp only [pN, pP, pM, pE, pL, pC, pK, sp]; omega)) only [u_fX12_chain, u_fX12_chain_0, m1, hl, v1, v2, e_T, e_F, e_bnd, e_obr, e_obd, e_obt, e_addB, e_addA, e_in, e_cl, e_leT, e_leF, e_ltT, e_ltF, e_eqT, e_eqF, e_NOT, e_NOF, nI_add, pk_mul, k_spot, k_chan, m_node, m_pair, m_msg, m_chan, m_pack, e_w, e_wn, e_ws]
    · rw [c2 q (fun e => hq (by rw [e]; decide)), e_s2n _ _ _ (fun e => hq (by rw [e]; decide))]
    · rw [c2 0 (by omega), e_s2, pk_un hj]
    · rw [c2 0 (by omega), s2_00]; rfl
  · refine QR_thr (r := nI 0) 0 (by decide) ?_ ?_
    · rw [u_fX11_chain, u_fX11_chain_0]; exact k1 _
    · simp (disch := first | omega | (simp only [pN, pP, pM, pE, pL, pC, pK, sp]; omega)) only [u_fX12_chain, u_fX12_chain_0, m1, e_T, e_F, e_bnd, e_obr, e_obd, e_obt, e_addB, e_addA, e_in, e_cl, e_leT, e_leF, e_ltT, e_ltF, e_eqT, e_eqF, e_NOT, e_NOF, nI_add, pk_mul, k_spot, k_chan, m_node, m_pair, m_msg, m_chan, m_pack, e_w, e_wn, e_ws]; rfl
end CH
