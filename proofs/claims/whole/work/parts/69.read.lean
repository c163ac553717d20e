/-! readings of both sides -/
theorem k_isIn2 (x : Int32) {k : Nat} (hk : k < 32) : fX11_isIn x (nI k) = b2 (bt x k) := k_isIn x hk
theorem k_holds2 (x : Int32) {k : Nat} (hk : k < 32) : fX12_holds x (nI k) = b2 (bt x k) := k_holds x hk
theorem e_isB {α : Type} {b : Bool} {o : Option α} : grd (isB (b2 b)) o = o := grd_pos (by cases b; exact Or.inl rfl; exact Or.inr rfl)
theorem e_isB0 {α : Type} {o : Option α} : grd (isB (nI 0)) o = o := grd_pos (Or.inl rfl)
theorem e_isB1 {α : Type} {o : Option α} : grd (isB (nI 1)) o = o := grd_pos (Or.inr rfl)
section RD2
variable {u σ : Sg} {ω : Nat → Int32} {dr : Prop} {tk : Int32} {N G M T B : Nat} {n m k w c : Nat}
theorem q_isUp (h : rN N T B σ ω) (hT : T ≤ 100000) (h6 : N ≤ 6) (hn : n < N) : fX12_isUp (nI n) (sq u 1 ω) = some (b2 (upB σ n)) := by
  simp (disch := first | omega | (simp only [pN, pP, pM, pE, pL, pC, pK, sp]; omega)) only [u_fX12_isUp, u_fX12_isUp_0, m_of, e_T, e_F, e_bnd, e_obr, e_obd, e_obt, e_addB, e_addA, e_in, e_cl, e_leT, e_leF, e_ltT, e_ltF, e_eqT, e_eqF, e_NOT, e_NOF, nI_add, pk_mul, k_spot, k_chan, m_node, m_pair, m_msg, m_chan, m_pack, e_w, e_wn, e_ws]
  rcases (h n (by omega)).1 hn with ⟨h1, h2⟩ | ⟨d, hd, h1, h2, _⟩
  · rw [cnd_pos h2]; simp [upB, h1, b2]
  · rw [cnd_neg (by rw [h2]; decide)]; simp [upB, h1, b2, NO_ne (show d < 2147483648 by omega)]
theorem q_isNoticed (hs : rS dr tk N G M T σ ω) (h : rN N T B σ ω) (hn : n < N) : fX12_isNoticed (nI n) (sq u 1 ω) = some (b2 (ntB σ n)) := by
  obtain ⟨⟨a1, a2, a3, a4⟩, -, -, -, ⟨b1, b2'⟩, -, -, ⟨x, c1, c2, c3⟩, -⟩ := hs
  simp (disch := first | omega | (simp only [pN, pP, pM, pE, pL, pC, pK, sp]; omega)) only [u_fX12_isNoticed, u_fX12_isNoticed_0, m_of, q_isUp h a4 a1 hn, e_T, e_F, e_bnd, e_obr, e_obd, e_obt, e_addB, e_addA, e_in, e_cl, e_leT, e_leF, e_ltT, e_ltF, e_eqT, e_eqF, e_NOT, e_NOF, nI_add, pk_mul, k_spot, k_chan, m_node, m_pair, m_msg, m_chan, m_pack, e_w, e_wn, e_ws, b2', c3]
  rcases (h n (by omega)).1 hn with ⟨h1, h2⟩ | ⟨d, hd, h1, h2, h3⟩
  · rw [e_b2T (by simp [upB, h1])]; simp [ntB, h1, b2]
  · have h5 : NO ≠ nI d := (NO_ne (show d < 2147483648 by omega)).symm
    rw [e_b2F (by simp [upB, h1, NO_ne (show d < 2147483648 by omega)])]
    have e1 : ntB σ n = !decide (T - d < x) := by
      unfold ntB
      rw [h1, b1, c2, pk_sub hd, decide_eq_false (NO_ne (show d < 2147483648 by omega))]
      simp [nI_ltI (show T - d < 2 ^ 31 by omega) (show x < 2 ^ 31 by omega)]
    rw [h3, nI_add, e1]
    by_cases h6 : T < d + x
    · rw [e_ltT h6 (by omega), decide_eq_true (show T - d < x by omega)]; rfl
    · rw [e_ltF (by omega) (by omega), decide_eq_false (show ¬ T - d < x by omega)]; rfl
theorem q_isTo (h : rM N M T σ ω) (hm : m < 20) (hk : k < 32) : fX12_isTo (nI m) (nI k) (sq u 1 ω) = some (b2 (bt (σ 15 m) k)) := by
  simp (disch := first | omega | (simp only [pN, pP, pM, pE, pL, pC, pK, sp]; omega)) only [u_fX12_isTo, u_fX12_isTo_0, m_ofMsg, k_holds2, e_isB, e_T, e_F, e_bnd, e_obr, e_obd, e_obt, e_addB, e_addA, e_in, e_cl, e_leT, e_leF, e_ltT, e_ltF, e_eqT, e_eqF, e_NOT, e_NOF, nI_add, pk_mul, k_spot, k_chan, m_node, m_pair, m_msg, m_chan, m_pack, e_w, e_wn, e_ws]
  rw [(h m hm).1.2.1]
theorem k_isOn (hk : k < 120) : fX3_isOn (nI k) σ = some (b2 (!decide (σ 27 k = NO))) := by
  simp (disch := first | omega | (simp only [pN, pP, pM, pE, pL, pC, pK, sp]; omega)) only [u_fX3_isOn, u_fX3_isOn_0, e_T, e_F, e_bnd, e_obr, e_obd, e_obt, e_addB, e_addA, e_in, e_cl, e_leT, e_leF, e_ltT, e_ltF, e_eqT, e_eqF, e_NOT, e_NOF, nI_add, pk_mul, k_spot, k_chan, m_node, m_pair, m_msg, m_chan, m_pack, e_w, e_wn, e_ws]
  by_cases h : σ 27 k = NO
  · rw [cnd_pos h]; simp [h, b2]
  · rw [cnd_neg h]; simp [h, b2]
theorem k_isPending (hk : k < 120) : fX4_isPending (nI k) σ = some (b2 (decide (σ 20 k = nI 1) || decide (σ 20 k = nI 2))) := by
  simp (disch := first | omega | (simp only [pN, pP, pM, pE, pL, pC, pK, sp]; omega)) only [u_fX4_isPending, u_fX4_isPending_0, u_fX4_isPending_20, e_T, e_F, e_bnd, e_obr, e_obd, e_obt, e_addB, e_addA, e_in, e_cl, e_leT, e_leF, e_ltT, e_ltF, e_eqT, e_eqF, e_NOT, e_NOF, nI_add, pk_mul, k_spot, k_chan, m_node, m_pair, m_msg, m_chan, m_pack, e_w, e_wn, e_ws]
  by_cases h : σ 20 k = nI 1
  · rw [cnd_pos h]; simp [h, b2]
  · rw [cnd_neg h]
    by_cases h2 : σ 20 k = nI 2
    · rw [cnd_pos h2]; simp [h2, b2]
    · rw [cnd_neg h2]; simp [h, h2, b2]

theorem k_noticed_lp (h0 : σ 0 0 = nI N) (h6 : N ≤ 6) : ∀ r i f, i + r = N → r < f → fX7_noticedNodes_4 σ f (setOf (ntB σ) i) (nI i) = some (setOf (ntB σ) N) := by
  intro r
  induction r with
  | zero =>
    intro i f hi hf
    obtain ⟨f, rfl⟩ : ∃ g, f = g + 1 := ⟨f - 1, by omega⟩
    have hi : i = N := by omega
    subst hi
    simp (disch := first | omega | (simp only [pN, pP, pM, pE, pL, pC, pK, sp]; omega)) only [u_fX7_noticedNodes_4, h0, k_isNoticed, e_T, e_F, e_bnd, e_obr, e_obd, e_obt, e_addB, e_addA, e_in, e_cl, e_leT, e_leF, e_ltT, e_ltF, e_eqT, e_eqF, e_NOT, e_NOF, nI_add, pk_mul, k_spot, k_chan, m_node, m_pair, m_msg, m_chan, m_pack, e_w, e_wn, e_ws]
  | succ r ih =>
    intro i f hi hf
    obtain ⟨f, rfl⟩ : ∃ g, f = g + 1 := ⟨f - 1, by omega⟩
    have ih := ih (i + 1) f (by omega) (by omega)
    rw [setOf_s] at ih
    simp (disch := first | omega | (simp only [pN, pP, pM, pE, pL, pC, pK, sp]; omega)) only [u_fX7_noticedNodes_4, h0, k_isNoticed, e_T, e_F, e_bnd, e_obr, e_obd, e_obt, e_addB, e_addA, e_in, e_cl, e_leT, e_leF, e_ltT, e_ltF, e_eqT, e_eqF, e_NOT, e_NOF, nI_add, pk_mul, k_spot, k_chan, m_node, m_pair, m_msg, m_chan, m_pack, e_w, e_wn, e_ws]
    cases hb : (ntB σ) i
    · rw [if_neg (fun q => absurd (hb.symm.trans q) (by decide))] at ih
      first | rw [e_b2F hb] | rw [e_b2F rfl]
      simp (disch := first | omega | (simp only [pN, pP, pM, pE, pL, pC, pK, sp]; omega)) only [u_fX7_noticedNodes_26, or_n0, e_T, e_F, e_bnd, e_obr, e_obd, e_obt, e_addB, e_addA, e_in, e_cl, e_leT, e_leF, e_ltT, e_ltF, e_eqT, e_eqF, e_NOT, e_NOF, nI_add, pk_mul, k_spot, k_chan, m_node, m_pair, m_msg, m_chan, m_pack, e_w, e_wn, e_ws]
      exact ih
    · rw [if_pos hb] at ih
      first | rw [e_b2T hb] | rw [e_b2T rfl]
      simp (disch := first | omega | (simp only [pN, pP, pM, pE, pL, pC, pK, sp]; omega)) only [u_fX7_noticedNodes_26, or_n0, e_T, e_F, e_bnd, e_obr, e_obd, e_obt, e_addB, e_addA, e_in, e_cl, e_leT, e_leF, e_ltT, e_ltF, e_eqT, e_eqF, e_NOT, e_NOF, nI_add, pk_mul, k_spot, k_chan, m_node, m_pair, m_msg, m_chan, m_pack, e_w, e_wn, e_ws]
      exact ih
theorem k_noticed (h0 : σ 0 0 = nI N) (h6 : N ≤ 6) : fX7_noticedNodes σ = some (setOf (ntB σ) N) := k_noticed_lp h0 h6 N 0 FU (by omega) (by show N < 100000; omega)
theorem k_upNodes_lp (h0 : σ 0 0 = nI N) (h6 : N ≤ 6) : ∀ r i f, i + r = N → r < f → fX7_upNodes_4 σ f (setOf (upB σ) i) (nI i) = some (setOf (upB σ) N) := by
  intro r
  induction r with
  | zero =>
    intro i f hi hf
    obtain ⟨f, rfl⟩ : ∃ g, f = g + 1 := ⟨f - 1, by omega⟩
    have hi : i = N := by omega
    subst hi
    simp (disch := first | omega | (simp only [pN, pP, pM, pE, pL, pC, pK, sp]; omega)) only [u_fX7_upNodes_4, h0, k_isUp, e_T, e_F, e_bnd, e_obr, e_obd, e_obt, e_addB, e_addA, e_in, e_cl, e_leT, e_leF, e_ltT, e_ltF, e_eqT, e_eqF, e_NOT, e_NOF, nI_add, pk_mul, k_spot, k_chan, m_node, m_pair, m_msg, m_chan, m_pack, e_w, e_wn, e_ws]
  | succ r ih =>
    intro i f hi hf
    obtain ⟨f, rfl⟩ : ∃ g, f = g + 1 := ⟨f - 1, by omega⟩
    have ih := ih (i + 1) f (by omega) (by omega)
    rw [setOf_s] at ih
    simp (disch := first | omega | (simp only [pN, pP, pM, pE, pL, pC, pK, sp]; omega)) only [u_fX7_upNodes_4, h0, k_isUp, e_T, e_F, e_bnd, e_obr, e_obd, e_obt, e_addB, e_addA, e_in, e_cl, e_leT, e_leF, e_ltT, e_ltF, e_eqT, e_eqF, e_NOT, e_NOF, nI_add, pk_mul, k_spot, k_chan, m_node, m_pair, m_msg, m_chan, m_pack, e_w, e_wn, e_ws]
    cases hb : (upB σ) i
    · rw [if_neg (fun q => absurd (hb.symm.trans q) (by decide))] at ih
      first | rw [e_b2F hb] | rw [e_b2F rfl]
      simp (disch := first | omega | (simp only [pN, pP, pM, pE, pL, pC, pK, sp]; omega)) only [u_fX7_upNodes_26, or_n0, e_T, e_F, e_bnd, e_obr, e_obd, e_obt, e_addB, e_addA, e_in, e_cl, e_leT, e_leF, e_ltT, e_ltF, e_eqT, e_eqF, e_NOT, e_NOF, nI_add, pk_mul, k_spot, k_chan, m_node, m_pair, m_msg, m_chan, m_pack, e_w, e_wn, e_ws]
      exact ih
    · rw [if_pos hb] at ih
      first | rw [e_b2T hb] | rw [e_b2T rfl]
      simp (disch := first | omega | (simp only [pN, pP, pM, pE, pL, pC, pK, sp]; omega)) only [u_fX7_upNodes_26, or_n0, e_T, e_F, e_bnd, e_obr, e_obd, e_obt, e_addB, e_addA, e_in, e_cl, e_leT, e_leF, e_ltT, e_ltF, e_eqT, e_eqF, e_NOT, e_NOF, nI_add, pk_mul, k_spot, k_chan, m_node, m_pair, m_msg, m_chan, m_pack, e_w, e_wn, e_ws]
      exact ih
theorem k_upNodes (h0 : σ 0 0 = nI N) (h6 : N ≤ 6) : fX7_upNodes σ = some (setOf (upB σ) N) := k_upNodes_lp h0 h6 N 0 FU (by omega) (by show N < 100000; omega)
theorem q_upOnes_lp (h0 : ω 0 = nI N) (h : rN N T B σ ω) (hT : T ≤ 100000) (h6 : N ≤ 6) : ∀ r i f, i + r = N → r < f → fX12_upOnes_4 (sq u 1 ω) f (setOf (upB σ) i) (nI i) = some (setOf (upB σ) N) := by
  intro r
  induction r with
  | zero =>
    intro i f hi hf
    obtain ⟨f, rfl⟩ : ∃ g, f = g + 1 := ⟨f - 1, by omega⟩
    have hi : i = N := by omega
    subst hi
    simp (disch := first | omega | (simp only [pN, pP, pM, pE, pL, pC, pK, sp]; omega)) only [u_fX12_upOnes_4, m_nodes, h0, q_isUp h hT h6, e_T, e_F, e_bnd, e_obr, e_obd, e_obt, e_addB, e_addA, e_in, e_cl, e_leT, e_leF, e_ltT, e_ltF, e_eqT, e_eqF, e_NOT, e_NOF, nI_add, pk_mul, k_spot, k_chan, m_node, m_pair, m_msg, m_chan, m_pack, e_w, e_wn, e_ws]
  | succ r ih =>
    intro i f hi hf
    obtain ⟨f, rfl⟩ : ∃ g, f = g + 1 := ⟨f - 1, by omega⟩
    have ih := ih (i + 1) f (by omega) (by omega)
    rw [setOf_s] at ih
    simp (disch := first | omega | (simp only [pN, pP, pM, pE, pL, pC, pK, sp]; omega)) only [u_fX12_upOnes_4, m_nodes, h0, q_isUp h hT h6, e_T, e_F, e_bnd, e_obr, e_obd, e_obt, e_addB, e_addA, e_in, e_cl, e_leT, e_leF, e_ltT, e_ltF, e_eqT, e_eqF, e_NOT, e_NOF, nI_add, pk_mul, k_spot, k_chan, m_node, m_pair, m_msg, m_chan, m_pack, e_w, e_wn, e_ws]
    cases hb : (upB σ) i
    · rw [if_neg (fun q => absurd (hb.symm.trans q) (by decide))] at ih
      first | rw [e_b2F hb] | rw [e_b2F rfl]
      simp (disch := first | omega | (simp only [pN, pP, pM, pE, pL, pC, pK, sp]; omega)) only [u_fX12_upOnes_28, or_n0, e_T, e_F, e_bnd, e_obr, e_obd, e_obt, e_addB, e_addA, e_in, e_cl, e_leT, e_leF, e_ltT, e_ltF, e_eqT, e_eqF, e_NOT, e_NOF, nI_add, pk_mul, k_spot, k_chan, m_node, m_pair, m_msg, m_chan, m_pack, e_w, e_wn, e_ws]
      exact ih
    · rw [if_pos hb] at ih
      first | rw [e_b2T hb] | rw [e_b2T rfl]
      simp (disch := first | omega | (simp only [pN, pP, pM, pE, pL, pC, pK, sp]; omega)) only [u_fX12_upOnes_28, or_n0, e_T, e_F, e_bnd, e_obr, e_obd, e_obt, e_addB, e_addA, e_in, e_cl, e_leT, e_leF, e_ltT, e_ltF, e_eqT, e_eqF, e_NOT, e_NOF, nI_add, pk_mul, k_spot, k_chan, m_node, m_pair, m_msg, m_chan, m_pack, e_w, e_wn, e_ws]
      exact ih
theorem q_upOnes (h0 : ω 0 = nI N) (h : rN N T B σ ω) (hT : T ≤ 100000) (h6 : N ≤ 6) : fX12_upOnes (sq u 1 ω) = some (setOf (upB σ) N) := q_upOnes_lp h0 h hT h6 N 0 FU (by omega) (by show N < 100000; omega)
theorem k_delBy_lp (h0 : σ 0 0 = nI N) (h6 : N ≤ 6) (hm : m < 20) : ∀ r i f, i + r = N → r < f → fX0_deliveredBy_4 σ f (nI m) (setOf (fun n => decide (σ 20 (sp n m) = nI 3)) i) (nI i) = some (setOf (fun n => decide (σ 20 (sp n m) = nI 3)) N) := by
  intro r
  induction r with
  | zero =>
    intro i f hi hf
    obtain ⟨f, rfl⟩ : ∃ g, f = g + 1 := ⟨f - 1, by omega⟩
    have hi : i = N := by omega
    subst hi
    simp (disch := first | omega | (simp only [pN, pP, pM, pE, pL, pC, pK, sp]; omega)) only [u_fX0_deliveredBy_4, h0, e_T, e_F, e_bnd, e_obr, e_obd, e_obt, e_addB, e_addA, e_in, e_cl, e_leT, e_leF, e_ltT, e_ltF, e_eqT, e_eqF, e_NOT, e_NOF, nI_add, pk_mul, k_spot, k_chan, m_node, m_pair, m_msg, m_chan, m_pack, e_w, e_wn, e_ws]
  | succ r ih =>
    intro i f hi hf
    obtain ⟨f, rfl⟩ : ∃ g, f = g + 1 := ⟨f - 1, by omega⟩
    have ih := ih (i + 1) f (by omega) (by omega)
    rw [setOf_s] at ih
    simp (disch := first | omega | (simp only [pN, pP, pM, pE, pL, pC, pK, sp]; omega)) only [u_fX0_deliveredBy_4, h0, e_T, e_F, e_bnd, e_obr, e_obd, e_obt, e_addB, e_addA, e_in, e_cl, e_leT, e_leF, e_ltT, e_ltF, e_eqT, e_eqF, e_NOT, e_NOF, nI_add, pk_mul, k_spot, k_chan, m_node, m_pair, m_msg, m_chan, m_pack, e_w, e_wn, e_ws]
    by_cases hb : σ 20 (sp i m) = nI 3
    · rw [if_pos (decide_eq_true hb)] at ih
      rw [cnd_pos hb]
      simp (disch := first | omega | (simp only [pN, pP, pM, pE, pL, pC, pK, sp]; omega)) only [u_fX0_deliveredBy_35, or_n0, e_T, e_F, e_bnd, e_obr, e_obd, e_obt, e_addB, e_addA, e_in, e_cl, e_leT, e_leF, e_ltT, e_ltF, e_eqT, e_eqF, e_NOT, e_NOF, nI_add, pk_mul, k_spot, k_chan, m_node, m_pair, m_msg, m_chan, m_pack, e_w, e_wn, e_ws]
      exact ih
    · rw [if_neg (by rw [decide_eq_false hb]; decide)] at ih
      rw [cnd_neg hb]
      simp (disch := first | omega | (simp only [pN, pP, pM, pE, pL, pC, pK, sp]; omega)) only [u_fX0_deliveredBy_35, or_n0, e_T, e_F, e_bnd, e_obr, e_obd, e_obt, e_addB, e_addA, e_in, e_cl, e_leT, e_leF, e_ltT, e_ltF, e_eqT, e_eqF, e_NOT, e_NOF, nI_add, pk_mul, k_spot, k_chan, m_node, m_pair, m_msg, m_chan, m_pack, e_w, e_wn, e_ws]
      exact ih
theorem k_delBy (h0 : σ 0 0 = nI N) (h6 : N ≤ 6) (hm : m < 20) : fX0_deliveredBy (nI m) σ = some (setOf (fun n => decide (σ 20 (sp n m) = nI 3)) N) := k_delBy_lp h0 h6 hm N 0 FU (by omega) (by show N < 100000; omega)
theorem k_gath_lp (h0 : σ 0 0 = nI N) (h6 : N ≤ 6) (hm : m < 20) : ∀ r i f, i + r = N → r < f → fX0_gatherers_4 σ f (nI m) (setOf (fun n => !decide (σ 27 (sp n m) = NO)) i) (nI i) = some (setOf (fun n => !decide (σ 27 (sp n m) = NO)) N) := by
  intro r
  induction r with
  | zero =>
    intro i f hi hf
    obtain ⟨f, rfl⟩ : ∃ g, f = g + 1 := ⟨f - 1, by omega⟩
    have hi : i = N := by omega
    subst hi
    simp (disch := first | omega | (simp only [pN, pP, pM, pE, pL, pC, pK, sp]; omega)) only [u_fX0_gatherers_4, h0, k_isOn, e_T, e_F, e_bnd, e_obr, e_obd, e_obt, e_addB, e_addA, e_in, e_cl, e_leT, e_leF, e_ltT, e_ltF, e_eqT, e_eqF, e_NOT, e_NOF, nI_add, pk_mul, k_spot, k_chan, m_node, m_pair, m_msg, m_chan, m_pack, e_w, e_wn, e_ws]
  | succ r ih =>
    intro i f hi hf
    obtain ⟨f, rfl⟩ : ∃ g, f = g + 1 := ⟨f - 1, by omega⟩
    have ih := ih (i + 1) f (by omega) (by omega)
    rw [setOf_s] at ih
    simp (disch := first | omega | (simp only [pN, pP, pM, pE, pL, pC, pK, sp]; omega)) only [u_fX0_gatherers_4, h0, k_isOn, e_T, e_F, e_bnd, e_obr, e_obd, e_obt, e_addB, e_addA, e_in, e_cl, e_leT, e_leF, e_ltT, e_ltF, e_eqT, e_eqF, e_NOT, e_NOF, nI_add, pk_mul, k_spot, k_chan, m_node, m_pair, m_msg, m_chan, m_pack, e_w, e_wn, e_ws]
    cases hb : (fun n => !decide (σ 27 (sp n m) = NO)) i
    · rw [if_neg (fun q => absurd (hb.symm.trans q) (by decide))] at ih
      first | rw [e_b2F hb] | rw [e_b2F rfl]
      simp (disch := first | omega | (simp only [pN, pP, pM, pE, pL, pC, pK, sp]; omega)) only [u_fX0_gatherers_33, or_n0, e_T, e_F, e_bnd, e_obr, e_obd, e_obt, e_addB, e_addA, e_in, e_cl, e_leT, e_leF, e_ltT, e_ltF, e_eqT, e_eqF, e_NOT, e_NOF, nI_add, pk_mul, k_spot, k_chan, m_node, m_pair, m_msg, m_chan, m_pack, e_w, e_wn, e_ws]
      exact ih
    · rw [if_pos hb] at ih
      first | rw [e_b2T hb] | rw [e_b2T rfl]
      simp (disch := first | omega | (simp only [pN, pP, pM, pE, pL, pC, pK, sp]; omega)) only [u_fX0_gatherers_33, or_n0, e_T, e_F, e_bnd, e_obr, e_obd, e_obt, e_addB, e_addA, e_in, e_cl, e_leT, e_leF, e_ltT, e_ltF, e_eqT, e_eqF, e_NOT, e_NOF, nI_add, pk_mul, k_spot, k_chan, m_node, m_pair, m_msg, m_chan, m_pack, e_w, e_wn, e_ws]
      exact ih
theorem k_gath (h0 : σ 0 0 = nI N) (h6 : N ≤ 6) (hm : m < 20) : fX0_gatherers (nI m) σ = some (setOf (fun n => !decide (σ 27 (sp n m) = NO)) N) := k_gath_lp h0 h6 hm N 0 FU (by omega) (by show N < 100000; omega)
theorem m_nodesWith_lp (h0 : ω 0 = nI N) (h6 : N ≤ 6) (hm : m < 20) (hw : w < 11) (x : Int32) : ∀ r i f, i + r = N → r < f → fX12_nodesWith_6 (sq u 1 ω) f (nI m) (nI w) x (setOf (fun n => decide (ω (pP n m w) = x)) i) (nI i) = some (setOf (fun n => decide (ω (pP n m w) = x)) N) := by
  intro r
  induction r with
  | zero =>
    intro i f hi hf
    obtain ⟨f, rfl⟩ : ∃ g, f = g + 1 := ⟨f - 1, by omega⟩
    have hi : i = N := by omega
    subst hi
    simp (disch := first | omega | (simp only [pN, pP, pM, pE, pL, pC, pK, sp]; omega)) only [u_fX12_nodesWith_6, m_nodes, h0, m_ofPair, e_T, e_F, e_bnd, e_obr, e_obd, e_obt, e_addB, e_addA, e_in, e_cl, e_leT, e_leF, e_ltT, e_ltF, e_eqT, e_eqF, e_NOT, e_NOF, nI_add, pk_mul, k_spot, k_chan, m_node, m_pair, m_msg, m_chan, m_pack, e_w, e_wn, e_ws]
  | succ r ih =>
    intro i f hi hf
    obtain ⟨f, rfl⟩ : ∃ g, f = g + 1 := ⟨f - 1, by omega⟩
    have ih := ih (i + 1) f (by omega) (by omega)
    rw [setOf_s] at ih
    simp (disch := first | omega | (simp only [pN, pP, pM, pE, pL, pC, pK, sp]; omega)) only [u_fX12_nodesWith_6, m_nodes, h0, m_ofPair, e_T, e_F, e_bnd, e_obr, e_obd, e_obt, e_addB, e_addA, e_in, e_cl, e_leT, e_leF, e_ltT, e_ltF, e_eqT, e_eqF, e_NOT, e_NOF, nI_add, pk_mul, k_spot, k_chan, m_node, m_pair, m_msg, m_chan, m_pack, e_w, e_wn, e_ws]
    by_cases hb : ω (pP i m w) = x
    · rw [if_pos (decide_eq_true hb)] at ih
      rw [cnd_pos hb]
      simp (disch := first | omega | (simp only [pN, pP, pM, pE, pL, pC, pK, sp]; omega)) only [u_fX12_nodesWith_37, or_n0, e_T, e_F, e_bnd, e_obr, e_obd, e_obt, e_addB, e_addA, e_in, e_cl, e_leT, e_leF, e_ltT, e_ltF, e_eqT, e_eqF, e_NOT, e_NOF, nI_add, pk_mul, k_spot, k_chan, m_node, m_pair, m_msg, m_chan, m_pack, e_w, e_wn, e_ws]
      exact ih
    · rw [if_neg (by rw [decide_eq_false hb]; decide)] at ih
      rw [cnd_neg hb]
      simp (disch := first | omega | (simp only [pN, pP, pM, pE, pL, pC, pK, sp]; omega)) only [u_fX12_nodesWith_37, or_n0, e_T, e_F, e_bnd, e_obr, e_obd, e_obt, e_addB, e_addA, e_in, e_cl, e_leT, e_leF, e_ltT, e_ltF, e_eqT, e_eqF, e_NOT, e_NOF, nI_add, pk_mul, k_spot, k_chan, m_node, m_pair, m_msg, m_chan, m_pack, e_w, e_wn, e_ws]
      exact ih
theorem m_nodesWith (h0 : ω 0 = nI N) (h6 : N ≤ 6) (hm : m < 20) (hw : w < 11) (x : Int32) : fX12_nodesWith (nI m) (nI w) x (sq u 1 ω) = some (setOf (fun n => decide (ω (pP n m w) = x)) N) := m_nodesWith_lp h0 h6 hm hw x N 0 FU (by omega) (by show N < 100000; omega)
theorem k_msgAt_lp (h0 : σ 13 0 = nI M) (h6 : M ≤ 20) (hn : n < 6) (x : Int32) : ∀ r i f, i + r = M → r < f → fX7_messagesAt_5 σ f (nI n) x (setOf (fun m => decide (σ 20 (sp n m) = x)) i) (nI i) = some (setOf (fun m => decide (σ 20 (sp n m) = x)) M) := by
  intro r
  induction r with
  | zero =>
    intro i f hi hf
    obtain ⟨f, rfl⟩ : ∃ g, f = g + 1 := ⟨f - 1, by omega⟩
    have hi : i = M := by omega
    subst hi
    simp (disch := first | omega | (simp only [pN, pP, pM, pE, pL, pC, pK, sp]; omega)) only [u_fX7_messagesAt_5, h0, e_T, e_F, e_bnd, e_obr, e_obd, e_obt, e_addB, e_addA, e_in, e_cl, e_leT, e_leF, e_ltT, e_ltF, e_eqT, e_eqF, e_NOT, e_NOF, nI_add, pk_mul, k_spot, k_chan, m_node, m_pair, m_msg, m_chan, m_pack, e_w, e_wn, e_ws]
  | succ r ih =>
    intro i f hi hf
    obtain ⟨f, rfl⟩ : ∃ g, f = g + 1 := ⟨f - 1, by omega⟩
    have ih := ih (i + 1) f (by omega) (by omega)
    rw [setOf_s] at ih
    simp (disch := first | omega | (simp only [pN, pP, pM, pE, pL, pC, pK, sp]; omega)) only [u_fX7_messagesAt_5, h0, e_T, e_F, e_bnd, e_obr, e_obd, e_obt, e_addB, e_addA, e_in, e_cl, e_leT, e_leF, e_ltT, e_ltF, e_eqT, e_eqF, e_NOT, e_NOF, nI_add, pk_mul, k_spot, k_chan, m_node, m_pair, m_msg, m_chan, m_pack, e_w, e_wn, e_ws]
    by_cases hb : σ 20 (sp n i) = x
    · rw [if_pos (decide_eq_true hb)] at ih
      rw [cnd_pos hb]
      simp (disch := first | omega | (simp only [pN, pP, pM, pE, pL, pC, pK, sp]; omega)) only [u_fX7_messagesAt_42, or_n0, e_T, e_F, e_bnd, e_obr, e_obd, e_obt, e_addB, e_addA, e_in, e_cl, e_leT, e_leF, e_ltT, e_ltF, e_eqT, e_eqF, e_NOT, e_NOF, nI_add, pk_mul, k_spot, k_chan, m_node, m_pair, m_msg, m_chan, m_pack, e_w, e_wn, e_ws]
      exact ih
    · rw [if_neg (by rw [decide_eq_false hb]; decide)] at ih
      rw [cnd_neg hb]
      simp (disch := first | omega | (simp only [pN, pP, pM, pE, pL, pC, pK, sp]; omega)) only [u_fX7_messagesAt_42, or_n0, e_T, e_F, e_bnd, e_obr, e_obd, e_obt, e_addB, e_addA, e_in, e_cl, e_leT, e_leF, e_ltT, e_ltF, e_eqT, e_eqF, e_NOT, e_NOF, nI_add, pk_mul, k_spot, k_chan, m_node, m_pair, m_msg, m_chan, m_pack, e_w, e_wn, e_ws]
      exact ih
theorem k_msgAt (h0 : σ 13 0 = nI M) (h6 : M ≤ 20) (hn : n < 6) (x : Int32) : fX7_messagesAt (nI n) x σ = some (setOf (fun m => decide (σ 20 (sp n m) = x)) M) := k_msgAt_lp h0 h6 hn x M 0 FU (by omega) (by show M < 100000; omega)
theorem m_bitsWith_lp (h0 : ω 3 = nI M) (h6 : M ≤ 20) (hn : n < 6) (x : Int32) : ∀ r i f, i + r = M → r < f → fX12_bitsWith_5 (sq u 1 ω) f (nI n) x (setOf (fun m => decide (ω (pP n m 0) = x)) i) (nI i) = some (setOf (fun m => decide (ω (pP n m 0) = x)) M) := by
  intro r
  induction r with
  | zero =>
    intro i f hi hf
    obtain ⟨f, rfl⟩ : ∃ g, f = g + 1 := ⟨f - 1, by omega⟩
    have hi : i = M := by omega
    subst hi
    simp (disch := first | omega | (simp only [pN, pP, pM, pE, pL, pC, pK, sp]; omega)) only [u_fX12_bitsWith_5, m_messages, h0, m_ofPair, e_T, e_F, e_bnd, e_obr, e_obd, e_obt, e_addB, e_addA, e_in, e_cl, e_leT, e_leF, e_ltT, e_ltF, e_eqT, e_eqF, e_NOT, e_NOF, nI_add, pk_mul, k_spot, k_chan, m_node, m_pair, m_msg, m_chan, m_pack, e_w, e_wn, e_ws]
  | succ r ih =>
    intro i f hi hf
    obtain ⟨f, rfl⟩ : ∃ g, f = g + 1 := ⟨f - 1, by omega⟩
    have ih := ih (i + 1) f (by omega) (by omega)
    rw [setOf_s] at ih
    simp (disch := first | omega | (simp only [pN, pP, pM, pE, pL, pC, pK, sp]; omega)) only [u_fX12_bitsWith_5, m_messages, h0, m_ofPair, e_T, e_F, e_bnd, e_obr, e_obd, e_obt, e_addB, e_addA, e_in, e_cl, e_leT, e_leF, e_ltT, e_ltF, e_eqT, e_eqF, e_NOT, e_NOF, nI_add, pk_mul, k_spot, k_chan, m_node, m_pair, m_msg, m_chan, m_pack, e_w, e_wn, e_ws]
    by_cases hb : ω (pP n i 0) = x
    · rw [if_pos (decide_eq_true hb)] at ih
      rw [cnd_pos hb]
      simp (disch := first | omega | (simp only [pN, pP, pM, pE, pL, pC, pK, sp]; omega)) only [u_fX12_bitsWith_35, or_n0, e_T, e_F, e_bnd, e_obr, e_obd, e_obt, e_addB, e_addA, e_in, e_cl, e_leT, e_leF, e_ltT, e_ltF, e_eqT, e_eqF, e_NOT, e_NOF, nI_add, pk_mul, k_spot, k_chan, m_node, m_pair, m_msg, m_chan, m_pack, e_w, e_wn, e_ws]
      exact ih
    · rw [if_neg (by rw [decide_eq_false hb]; decide)] at ih
      rw [cnd_neg hb]
      simp (disch := first | omega | (simp only [pN, pP, pM, pE, pL, pC, pK, sp]; omega)) only [u_fX12_bitsWith_35, or_n0, e_T, e_F, e_bnd, e_obr, e_obd, e_obt, e_addB, e_addA, e_in, e_cl, e_leT, e_leF, e_ltT, e_ltF, e_eqT, e_eqF, e_NOT, e_NOF, nI_add, pk_mul, k_spot, k_chan, m_node, m_pair, m_msg, m_chan, m_pack, e_w, e_wn, e_ws]
      exact ih
theorem m_bitsWith (h0 : ω 3 = nI M) (h6 : M ≤ 20) (hn : n < 6) (x : Int32) : fX12_bitsWith (nI n) x (sq u 1 ω) = some (setOf (fun m => decide (ω (pP n m 0) = x)) M) := m_bitsWith_lp h0 h6 hn x M 0 FU (by omega) (by show M < 100000; omega)
theorem k_addr_lp (h0 : σ 13 0 = nI M) (h6 : M ≤ 20) (hn : n < 6) : ∀ r i f, i + r = M → r < f → fX6_addressedTo_4 σ f (nI n) (setOf (fun m => bt (σ 15 m) n) i) (nI i) = some (setOf (fun m => bt (σ 15 m) n) M) := by
  intro r
  induction r with
  | zero =>
    intro i f hi hf
    obtain ⟨f, rfl⟩ : ∃ g, f = g + 1 := ⟨f - 1, by omega⟩
    have hi : i = M := by omega
    subst hi
    simp (disch := first | omega | (simp only [pN, pP, pM, pE, pL, pC, pK, sp]; omega)) only [u_fX6_addressedTo_4, h0, k_isIn2, e_T, e_F, e_bnd, e_obr, e_obd, e_obt, e_addB, e_addA, e_in, e_cl, e_leT, e_leF, e_ltT, e_ltF, e_eqT, e_eqF, e_NOT, e_NOF, nI_add, pk_mul, k_spot, k_chan, m_node, m_pair, m_msg, m_chan, m_pack, e_w, e_wn, e_ws]
  | succ r ih =>
    intro i f hi hf
    obtain ⟨f, rfl⟩ : ∃ g, f = g + 1 := ⟨f - 1, by omega⟩
    have ih := ih (i + 1) f (by omega) (by omega)
    rw [setOf_s] at ih
    simp (disch := first | omega | (simp only [pN, pP, pM, pE, pL, pC, pK, sp]; omega)) only [u_fX6_addressedTo_4, h0, k_isIn2, e_T, e_F, e_bnd, e_obr, e_obd, e_obt, e_addB, e_addA, e_in, e_cl, e_leT, e_leF, e_ltT, e_ltF, e_eqT, e_eqF, e_NOT, e_NOF, nI_add, pk_mul, k_spot, k_chan, m_node, m_pair, m_msg, m_chan, m_pack, e_w, e_wn, e_ws]
    cases hb : (fun m => bt (σ 15 m) n) i
    · rw [if_neg (fun q => absurd (hb.symm.trans q) (by decide))] at ih
      first | rw [e_b2F hb] | rw [e_b2F rfl]
      simp (disch := first | omega | (simp only [pN, pP, pM, pE, pL, pC, pK, sp]; omega)) only [u_fX6_addressedTo_31, or_n0, e_T, e_F, e_bnd, e_obr, e_obd, e_obt, e_addB, e_addA, e_in, e_cl, e_leT, e_leF, e_ltT, e_ltF, e_eqT, e_eqF, e_NOT, e_NOF, nI_add, pk_mul, k_spot, k_chan, m_node, m_pair, m_msg, m_chan, m_pack, e_w, e_wn, e_ws]
      exact ih
    · rw [if_pos hb] at ih
      first | rw [e_b2T hb] | rw [e_b2T rfl]
      simp (disch := first | omega | (simp only [pN, pP, pM, pE, pL, pC, pK, sp]; omega)) only [u_fX6_addressedTo_31, or_n0, e_T, e_F, e_bnd, e_obr, e_obd, e_obt, e_addB, e_addA, e_in, e_cl, e_leT, e_leF, e_ltT, e_ltF, e_eqT, e_eqF, e_NOT, e_NOF, nI_add, pk_mul, k_spot, k_chan, m_node, m_pair, m_msg, m_chan, m_pack, e_w, e_wn, e_ws]
      exact ih
theorem k_addr (h0 : σ 13 0 = nI M) (h6 : M ≤ 20) (hn : n < 6) : fX6_addressedTo (nI n) σ = some (setOf (fun m => bt (σ 15 m) n) M) := k_addr_lp h0 h6 hn M 0 FU (by omega) (by show M < 100000; omega)
end RD2
