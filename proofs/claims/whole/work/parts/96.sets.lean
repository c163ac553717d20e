/-! sets, on both sides -/
section ST
variable {dr : Prop} {tk : Int32} {pl N G M T B : Nat} {Q : Qs} {Dl : Nat → List Nat} {u σ : Sg} {ω : Nat → Int32}
def sMs (σ : Sg) (n k : Nat) : Nat → Bool := fun m => decide (σ 20 (sp n m) = nI k)
theorem k_msgs_lp {n k : Nat} (z13 : σ 13 0 = nI M) (hM : M ≤ 20) (hn : n < 6) : ∀ r i f, i + r = M → r < f → fX7_messagesAt_5 σ f (nI n) (nI k) (setOf (sMs σ n k) i) (nI i) = some (setOf (sMs σ n k) M) := by
  intro r
  induction r with
  | zero =>
    intro i f hi hf
    obtain ⟨f, rfl⟩ : ∃ g, f = g + 1 := ⟨f - 1, by omega⟩
    have hi : i = M := by omega
    subst hi
    simp (disch := first | omega | (simp only [pN, pP, pM, pE, pL, pC, pK, sp]; omega)) only [u_fX7_messagesAt_5, u_fX7_messagesAt_42, z13, e_T, e_F, e_bnd, e_obr, e_obd, e_obt, e_addB, e_addA, e_in, e_cl, e_leT, e_leF, e_ltT, e_ltF, e_eqT, e_eqF, e_NOT, e_NOF, nI_add, pk_mul, k_spot, k_chan, m_node, m_pair, m_msg, m_chan, m_pack, e_w, e_wn, e_ws]
  | succ r ih =>
    intro i f hi hf
    obtain ⟨f, rfl⟩ : ∃ g, f = g + 1 := ⟨f - 1, by omega⟩
    have ih := ih (i + 1) f (by omega) (by omega)
    rw [setOf_s] at ih
    simp (disch := first | omega | (simp only [pN, pP, pM, pE, pL, pC, pK, sp]; omega)) only [u_fX7_messagesAt_5, u_fX7_messagesAt_42, z13, e_T, e_F, e_bnd, e_obr, e_obd, e_obt, e_addB, e_addA, e_in, e_cl, e_leT, e_leF, e_ltT, e_ltF, e_eqT, e_eqF, e_NOT, e_NOF, nI_add, pk_mul, k_spot, k_chan, m_node, m_pair, m_msg, m_chan, m_pack, e_w, e_wn, e_ws]
    by_cases hb : σ 20 (sp n i) = nI k
    · rw [if_pos (show (sMs σ n k) i = true from decide_eq_true hb)] at ih
      rw [cnd_pos hb]
      exact ih
    · rw [if_neg (show ¬ (sMs σ n k) i = true from fun q => hb (of_decide_eq_true q))] at ih
      rw [cnd_neg hb]
      exact ih
theorem k_msgs {n k : Nat} (z13 : σ 13 0 = nI M) (hM : M ≤ 20) (hn : n < 6) : fX7_messagesAt (nI n) (nI k) σ = some (setOf (sMs σ n k) M) := k_msgs_lp z13 hM hn M 0 FU (by omega) (by show M < 100000; omega)
theorem m_bits_lp {n k : Nat} (h : R0 dr tk pl N G M T B Q Dl σ ω) (hn : n < 6) : ∀ r i f, i + r = M → r < f → fX12_bitsWith_5 (sq u 1 ω) f (nI n) (nI k) (setOf (sMs σ n k) i) (nI i) = some (setOf (sMs σ n k) M) := by
  have hM := h.1.1.2.2.1
  intro r
  induction r with
  | zero =>
    intro i f hi hf
    obtain ⟨f, rfl⟩ : ∃ g, f = g + 1 := ⟨f - 1, by omega⟩
    have hi : i = M := by omega
    rw [hi]
    simp (disch := first | omega | (simp only [pN, pP, pM, pE, pL, pC, pK, sp]; omega)) only [u_fX12_bitsWith_5, u_fX12_bitsWith_35, m_messages, h.1.2.2.2.1.2, m_ofPair, w_kind h, or_n0, e_T, e_F, e_bnd, e_obr, e_obd, e_obt, e_addB, e_addA, e_in, e_cl, e_leT, e_leF, e_ltT, e_ltF, e_eqT, e_eqF, e_NOT, e_NOF, nI_add, pk_mul, k_spot, k_chan, m_node, m_pair, m_msg, m_chan, m_pack, e_w, e_wn, e_ws]
  | succ r ih =>
    intro i f hi hf
    obtain ⟨f, rfl⟩ : ∃ g, f = g + 1 := ⟨f - 1, by omega⟩
    have ih := ih (i + 1) f (by omega) (by omega)
    rw [setOf_s] at ih
    simp (disch := first | omega | (simp only [pN, pP, pM, pE, pL, pC, pK, sp]; omega)) only [u_fX12_bitsWith_5, u_fX12_bitsWith_35, m_messages, h.1.2.2.2.1.2, m_ofPair, w_kind h, or_n0, e_T, e_F, e_bnd, e_obr, e_obd, e_obt, e_addB, e_addA, e_in, e_cl, e_leT, e_leF, e_ltT, e_ltF, e_eqT, e_eqF, e_NOT, e_NOF, nI_add, pk_mul, k_spot, k_chan, m_node, m_pair, m_msg, m_chan, m_pack, e_w, e_wn, e_ws]
    by_cases hb : σ 20 (sp n i) = nI k
    · rw [if_pos (show (sMs σ n k) i = true from decide_eq_true hb)] at ih
      rw [cnd_pos hb]
      exact ih
    · rw [if_neg (show ¬ (sMs σ n k) i = true from fun q => hb (of_decide_eq_true q))] at ih
      rw [cnd_neg hb]
      exact ih
theorem m_bits {n k : Nat} (h : R0 dr tk pl N G M T B Q Dl σ ω) (hn : n < 6) : fX12_bitsWith (nI n) (nI k) (sq u 1 ω) = some (setOf (sMs σ n k) M) := by
  have hM := h.1.1.2.2.1
  exact m_bits_lp h hn M 0 FU (by omega) (by show M < 100000; omega)
def sDl (σ : Sg) (m : Nat) : Nat → Bool := fun n => decide (σ 20 (sp n m) = nI 3)
theorem k_dlv_lp {m : Nat} (z1 : σ 0 0 = nI N) (h6 : N ≤ 6) (hm : m < 20) : ∀ r i f, i + r = N → r < f → fX0_deliveredBy_4 σ f (nI m) (setOf (sDl σ m) i) (nI i) = some (setOf (sDl σ m) N) := by
  intro r
  induction r with
  | zero =>
    intro i f hi hf
    obtain ⟨f, rfl⟩ : ∃ g, f = g + 1 := ⟨f - 1, by omega⟩
    have hi : i = N := by omega
    subst hi
    simp (disch := first | omega | (simp only [pN, pP, pM, pE, pL, pC, pK, sp]; omega)) only [u_fX0_deliveredBy_4, u_fX0_deliveredBy_35, z1, e_T, e_F, e_bnd, e_obr, e_obd, e_obt, e_addB, e_addA, e_in, e_cl, e_leT, e_leF, e_ltT, e_ltF, e_eqT, e_eqF, e_NOT, e_NOF, nI_add, pk_mul, k_spot, k_chan, m_node, m_pair, m_msg, m_chan, m_pack, e_w, e_wn, e_ws]
  | succ r ih =>
    intro i f hi hf
    obtain ⟨f, rfl⟩ : ∃ g, f = g + 1 := ⟨f - 1, by omega⟩
    have ih := ih (i + 1) f (by omega) (by omega)
    rw [setOf_s] at ih
    simp (disch := first | omega | (simp only [pN, pP, pM, pE, pL, pC, pK, sp]; omega)) only [u_fX0_deliveredBy_4, u_fX0_deliveredBy_35, z1, e_T, e_F, e_bnd, e_obr, e_obd, e_obt, e_addB, e_addA, e_in, e_cl, e_leT, e_leF, e_ltT, e_ltF, e_eqT, e_eqF, e_NOT, e_NOF, nI_add, pk_mul, k_spot, k_chan, m_node, m_pair, m_msg, m_chan, m_pack, e_w, e_wn, e_ws]
    by_cases hb : σ 20 (sp i m) = nI 3
    · rw [if_pos (show (sDl σ m) i = true from decide_eq_true hb)] at ih
      rw [cnd_pos hb]
      exact ih
    · rw [if_neg (show ¬ (sDl σ m) i = true from fun q => hb (of_decide_eq_true q))] at ih
      rw [cnd_neg hb]
      exact ih
theorem k_dlv {m : Nat} (z1 : σ 0 0 = nI N) (h6 : N ≤ 6) (hm : m < 20) : fX0_deliveredBy (nI m) σ = some (setOf (sDl σ m) N) := k_dlv_lp z1 h6 hm N 0 FU (by omega) (by show N < 100000; omega)
theorem m_dlv_lp {m : Nat} (h : R0 dr tk pl N G M T B Q Dl σ ω) (hm : m < 20) : ∀ r i f, i + r = N → r < f → fX12_nodesWith_6 (sq u 1 ω) f (nI m) (nI 0) (nI 3) (setOf (sDl σ m) i) (nI i) = some (setOf (sDl σ m) N) := by
  have h6 := h.1.1.1
  intro r
  induction r with
  | zero =>
    intro i f hi hf
    obtain ⟨f, rfl⟩ : ∃ g, f = g + 1 := ⟨f - 1, by omega⟩
    have hi : i = N := by omega
    rw [hi]
    simp (disch := first | omega | (simp only [pN, pP, pM, pE, pL, pC, pK, sp]; omega)) only [u_fX12_nodesWith_6, u_fX12_nodesWith_37, m_nodes, h.1.2.1.2, m_ofPair, w_kind h, or_n0, e_T, e_F, e_bnd, e_obr, e_obd, e_obt, e_addB, e_addA, e_in, e_cl, e_leT, e_leF, e_ltT, e_ltF, e_eqT, e_eqF, e_NOT, e_NOF, nI_add, pk_mul, k_spot, k_chan, m_node, m_pair, m_msg, m_chan, m_pack, e_w, e_wn, e_ws]
  | succ r ih =>
    intro i f hi hf
    obtain ⟨f, rfl⟩ : ∃ g, f = g + 1 := ⟨f - 1, by omega⟩
    have ih := ih (i + 1) f (by omega) (by omega)
    rw [setOf_s] at ih
    simp (disch := first | omega | (simp only [pN, pP, pM, pE, pL, pC, pK, sp]; omega)) only [u_fX12_nodesWith_6, u_fX12_nodesWith_37, m_nodes, h.1.2.1.2, m_ofPair, w_kind h, or_n0, e_T, e_F, e_bnd, e_obr, e_obd, e_obt, e_addB, e_addA, e_in, e_cl, e_leT, e_leF, e_ltT, e_ltF, e_eqT, e_eqF, e_NOT, e_NOF, nI_add, pk_mul, k_spot, k_chan, m_node, m_pair, m_msg, m_chan, m_pack, e_w, e_wn, e_ws]
    by_cases hb : σ 20 (sp i m) = nI 3
    · rw [if_pos (show (sDl σ m) i = true from decide_eq_true hb)] at ih
      rw [cnd_pos hb]
      exact ih
    · rw [if_neg (show ¬ (sDl σ m) i = true from fun q => hb (of_decide_eq_true q))] at ih
      rw [cnd_neg hb]
      exact ih
theorem m_dlv {m : Nat} (h : R0 dr tk pl N G M T B Q Dl σ ω) (hm : m < 20) : fX12_nodesWith (nI m) (nI 0) (nI 3) (sq u 1 ω) = some (setOf (sDl σ m) N) := by
  have h6 := h.1.1.1
  exact m_dlv_lp h hm N 0 FU (by omega) (by show N < 100000; omega)
theorem m_dlvBy {m : Nat} (h : R0 dr tk pl N G M T B Q Dl σ ω) (hm : m < 20) : fX12_deliveredBy (nI m) (sq u 1 ω) = some (setOf (sDl σ m) N) := by
  simp (disch := first | omega | (simp only [pN, pP, pM, pE, pL, pC, pK, sp]; omega)) only [u_fX12_deliveredBy, u_fX12_deliveredBy_0, m_dlv h hm, e_T, e_F, e_bnd, e_obr, e_obd, e_obt, e_addB, e_addA, e_in, e_cl, e_leT, e_leF, e_ltT, e_ltF, e_eqT, e_eqF, e_NOT, e_NOF, nI_add, pk_mul, k_spot, k_chan, m_node, m_pair, m_msg, m_chan, m_pack, e_w, e_wn, e_ws]
def sGt (σ : Sg) (m : Nat) : Nat → Bool := fun n => !decide (σ 27 (sp n m) = NO)
theorem k_gts_lp {m : Nat} (z1 : σ 0 0 = nI N) (h6 : N ≤ 6) (hm : m < 20) : ∀ r i f, i + r = N → r < f → fX0_gatherers_4 σ f (nI m) (setOf (sGt σ m) i) (nI i) = some (setOf (sGt σ m) N) := by
  intro r
  induction r with
  | zero =>
    intro i f hi hf
    obtain ⟨f, rfl⟩ : ∃ g, f = g + 1 := ⟨f - 1, by omega⟩
    have hi : i = N := by omega
    subst hi
    simp (disch := first | omega | (simp only [pN, pP, pM, pE, pL, pC, pK, sp]; omega)) only [u_fX0_gatherers_4, u_fX0_gatherers_33, z1, k_isOn, e_T, e_F, e_bnd, e_obr, e_obd, e_obt, e_addB, e_addA, e_in, e_cl, e_leT, e_leF, e_ltT, e_ltF, e_eqT, e_eqF, e_NOT, e_NOF, nI_add, pk_mul, k_spot, k_chan, m_node, m_pair, m_msg, m_chan, m_pack, e_w, e_wn, e_ws]
  | succ r ih =>
    intro i f hi hf
    obtain ⟨f, rfl⟩ : ∃ g, f = g + 1 := ⟨f - 1, by omega⟩
    have ih := ih (i + 1) f (by omega) (by omega)
    rw [setOf_s] at ih
    simp (disch := first | omega | (simp only [pN, pP, pM, pE, pL, pC, pK, sp]; omega)) only [u_fX0_gatherers_4, u_fX0_gatherers_33, z1, k_isOn, e_T, e_F, e_bnd, e_obr, e_obd, e_obt, e_addB, e_addA, e_in, e_cl, e_leT, e_leF, e_ltT, e_ltF, e_eqT, e_eqF, e_NOT, e_NOF, nI_add, pk_mul, k_spot, k_chan, m_node, m_pair, m_msg, m_chan, m_pack, e_w, e_wn, e_ws]
    cases hb : (!decide (σ 27 (sp i m) = NO))
    · rw [if_neg (show ¬ (sGt σ m) i = true from fun q => absurd (hb.symm.trans q) (by decide))] at ih
      rw [e_b2F rfl]
      exact ih
    · rw [if_pos (show (sGt σ m) i = true from hb)] at ih
      rw [e_b2T rfl]
      exact ih
theorem k_gts {m : Nat} (z1 : σ 0 0 = nI N) (h6 : N ≤ 6) (hm : m < 20) : fX0_gatherers (nI m) σ = some (setOf (sGt σ m) N) := k_gts_lp z1 h6 hm N 0 FU (by omega) (by show N < 100000; omega)
theorem w_on (h : R0 dr tk pl N G M T B Q Dl σ ω) {n m : Nat} (hn : n < 6) (hm : m < 20) : ω (pP n m 5) = b2 (!decide (σ 27 (sp n m) = NO)) := by
  rcases on_off h hn hm with ⟨g1, g2⟩ | ⟨g1, g2, -⟩
  · rw [g2, decide_eq_true g1]; rfl
  · rw [g2, decide_eq_false g1]; rfl
theorem b2_1 (b : Bool) : (b2 b = nI 1) ↔ b = true := by cases b <;> decide +kernel
theorem m_gts_lp {m : Nat} (h : R0 dr tk pl N G M T B Q Dl σ ω) (hm : m < 20) : ∀ r i f, i + r = N → r < f → fX12_nodesWith_6 (sq u 1 ω) f (nI m) (nI 5) (nI 1) (setOf (sGt σ m) i) (nI i) = some (setOf (sGt σ m) N) := by
  have h6 := h.1.1.1
  intro r
  induction r with
  | zero =>
    intro i f hi hf
    obtain ⟨f, rfl⟩ : ∃ g, f = g + 1 := ⟨f - 1, by omega⟩
    have hi : i = N := by omega
    rw [hi]
    simp (disch := first | omega | (simp only [pN, pP, pM, pE, pL, pC, pK, sp]; omega)) only [u_fX12_nodesWith_6, u_fX12_nodesWith_37, m_nodes, h.1.2.1.2, m_ofPair, w_on h, or_n0, e_T, e_F, e_bnd, e_obr, e_obd, e_obt, e_addB, e_addA, e_in, e_cl, e_leT, e_leF, e_ltT, e_ltF, e_eqT, e_eqF, e_NOT, e_NOF, nI_add, pk_mul, k_spot, k_chan, m_node, m_pair, m_msg, m_chan, m_pack, e_w, e_wn, e_ws]
  | succ r ih =>
    intro i f hi hf
    obtain ⟨f, rfl⟩ : ∃ g, f = g + 1 := ⟨f - 1, by omega⟩
    have ih := ih (i + 1) f (by omega) (by omega)
    rw [setOf_s] at ih
    simp (disch := first | omega | (simp only [pN, pP, pM, pE, pL, pC, pK, sp]; omega)) only [u_fX12_nodesWith_6, u_fX12_nodesWith_37, m_nodes, h.1.2.1.2, m_ofPair, w_on h, or_n0, e_T, e_F, e_bnd, e_obr, e_obd, e_obt, e_addB, e_addA, e_in, e_cl, e_leT, e_leF, e_ltT, e_ltF, e_eqT, e_eqF, e_NOT, e_NOF, nI_add, pk_mul, k_spot, k_chan, m_node, m_pair, m_msg, m_chan, m_pack, e_w, e_wn, e_ws]
    cases hb : (!decide (σ 27 (sp i m) = NO))
    · rw [if_neg (show ¬ (sGt σ m) i = true from fun q => absurd (hb.symm.trans q) (by decide))] at ih
      rw [e_b2F1 rfl]
      exact ih
    · rw [if_pos (show (sGt σ m) i = true from hb)] at ih
      rw [e_b2T1 rfl]
      exact ih
theorem m_gts {m : Nat} (h : R0 dr tk pl N G M T B Q Dl σ ω) (hm : m < 20) : fX12_nodesWith (nI m) (nI 5) (nI 1) (sq u 1 ω) = some (setOf (sGt σ m) N) := by
  have h6 := h.1.1.1
  exact m_gts_lp h hm N 0 FU (by omega) (by show N < 100000; omega)
def sAd (σ : Sg) (n : Nat) : Nat → Bool := fun m => bt (σ 15 m) n
theorem k_adr_lp {n : Nat} (z13 : σ 13 0 = nI M) (hM : M ≤ 20) (hn : n < 6) : ∀ r i f, i + r = M → r < f → fX6_addressedTo_4 σ f (nI n) (setOf (sAd σ n) i) (nI i) = some (setOf (sAd σ n) M) := by
  intro r
  induction r with
  | zero =>
    intro i f hi hf
    obtain ⟨f, rfl⟩ : ∃ g, f = g + 1 := ⟨f - 1, by omega⟩
    have hi : i = M := by omega
    subst hi
    simp (disch := first | omega | (simp only [pN, pP, pM, pE, pL, pC, pK, sp]; omega)) only [u_fX6_addressedTo_4, u_fX6_addressedTo_31, z13, k_isIn2, e_T, e_F, e_bnd, e_obr, e_obd, e_obt, e_addB, e_addA, e_in, e_cl, e_leT, e_leF, e_ltT, e_ltF, e_eqT, e_eqF, e_NOT, e_NOF, nI_add, pk_mul, k_spot, k_chan, m_node, m_pair, m_msg, m_chan, m_pack, e_w, e_wn, e_ws]
  | succ r ih =>
    intro i f hi hf
    obtain ⟨f, rfl⟩ : ∃ g, f = g + 1 := ⟨f - 1, by omega⟩
    have ih := ih (i + 1) f (by omega) (by omega)
    rw [setOf_s] at ih
    simp (disch := first | omega | (simp only [pN, pP, pM, pE, pL, pC, pK, sp]; omega)) only [u_fX6_addressedTo_4, u_fX6_addressedTo_31, z13, k_isIn2, e_T, e_F, e_bnd, e_obr, e_obd, e_obt, e_addB, e_addA, e_in, e_cl, e_leT, e_leF, e_ltT, e_ltF, e_eqT, e_eqF, e_NOT, e_NOF, nI_add, pk_mul, k_spot, k_chan, m_node, m_pair, m_msg, m_chan, m_pack, e_w, e_wn, e_ws]
    cases hb : bt (σ 15 i) n
    · rw [if_neg (show ¬ (sAd σ n) i = true from fun q => absurd (hb.symm.trans q) (by decide))] at ih
      rw [e_b2F rfl]
      exact ih
    · rw [if_pos (show (sAd σ n) i = true from hb)] at ih
      rw [e_b2T rfl]
      exact ih
theorem k_adr {n : Nat} (z13 : σ 13 0 = nI M) (hM : M ≤ 20) (hn : n < 6) : fX6_addressedTo (nI n) σ = some (setOf (sAd σ n) M) := k_adr_lp z13 hM hn M 0 FU (by omega) (by show M < 100000; omega)
def sLg (σ : Sg) (n : Nat) : Nat → Bool := fun m => bt (σ 15 m) n && !decide (σ 20 (sp n m) = nI 3)
theorem m_lag_lp {n : Nat} (h : R0 dr tk pl N G M T B Q Dl σ ω) (hn : n < 6) : ∀ r i f, i + r = M → r < f → fX12_lag_24 f (nI n) (setOf (sLg σ n) i) (nI i) (sq u 1 ω) = some (setOf (sLg σ n) M, sq u 1 ω) := by
  have hM := h.1.1.2.2.1
  intro r
  induction r with
  | zero =>
    intro i f hi hf
    obtain ⟨f, rfl⟩ : ∃ g, f = g + 1 := ⟨f - 1, by omega⟩
    have hi : i = M := by omega
    rw [hi]
    simp (disch := first | omega | (simp only [pN, pP, pM, pE, pL, pC, pK, sp]; omega)) only [u_fX12_lag_24, m_messages, h.1.2.2.2.1.2, e_T, e_F, e_bnd, e_obr, e_obd, e_obt, e_addB, e_addA, e_in, e_cl, e_leT, e_leF, e_ltT, e_ltF, e_eqT, e_eqF, e_NOT, e_NOF, nI_add, pk_mul, k_spot, k_chan, m_node, m_pair, m_msg, m_chan, m_pack, e_w, e_wn, e_ws]
  | succ r ih =>
    intro i f hi hf
    obtain ⟨f, rfl⟩ : ∃ g, f = g + 1 := ⟨f - 1, by omega⟩
    have ih := ih (i + 1) f (by omega) (by omega)
    rw [setOf_s] at ih
    have hto := q_isTo (u := u) h.2.2.2.2.1 (m := i) (k := n) (by omega) (by omega)
    simp (disch := first | omega | (simp only [pN, pP, pM, pE, pL, pC, pK, sp]; omega)) only [u_fX12_lag_24, u_fX12_lag_59, u_fX12_lag_60, m_messages, h.1.2.2.2.1.2, hto, m_ofPair, w_kind h, or_n0, e_T, e_F, e_bnd, e_obr, e_obd, e_obt, e_addB, e_addA, e_in, e_cl, e_leT, e_leF, e_ltT, e_ltF, e_eqT, e_eqF, e_NOT, e_NOF, nI_add, pk_mul, k_spot, k_chan, m_node, m_pair, m_msg, m_chan, m_pack, e_w, e_wn, e_ws]
    cases hb : bt (σ 15 i) n with
    | false =>
      rw [if_neg (by unfold sLg; rw [hb]; simp)] at ih
      rw [e_b2F rfl]; exact ih
    | true =>
      rw [e_b2T rfl]
      by_cases hk : σ 20 (sp n i) = nI 3
      · rw [if_neg (by unfold sLg; rw [hb, decide_eq_true hk]; decide)] at ih
        rw [cnd_pos hk]; exact ih
      · rw [if_pos (by unfold sLg; rw [hb, decide_eq_false hk]; rfl)] at ih
        rw [cnd_neg hk]; exact ih
theorem o_lag (h : R0 dr tk pl N G M T B Q Dl σ ω) (x1 : Int32) : QR [0] kk2 (fX11_lag x1 σ) (fX12_lag x1 (sq u 1 ω)) σ u ω := by
  have h6 := h.1.1.1
  have hM20 := h.1.1.2.2.1
  rcases ck_node h.1.2.1.1 h.1.2.1.2 h6 x1 with ⟨n, hn, rfl, k1, m1⟩ | ⟨k1, m1⟩
  · have ka := k_adr (σ := σ) (n := n) h.1.2.2.2.1.1 hM20 (by omega)
    have kb := k_msgs (σ := σ) (n := n) (k := 3) h.1.2.2.2.1.1 hM20 (by omega)
    have ml := m_lag_lp (u := s2 u 0 0 (nI 0)) (n := n) h (by omega) M 0 FU (by omega) (by show M < 100000; omega)
    have ml : fX12_lag_24 FU (nI n) (nI 0) (nI 0) (sq (s2 u 0 0 (nI 0)) 1 ω) = some (setOf (sLg σ n) M, sq (s2 u 0 0 (nI 0)) 1 ω) := ml
    have e : setOf (sAd σ n) M &&& (setOf (sMs σ n 3) M ^^^ NO) = setOf (sLg σ n) M := by
      apply b_ext
      intro i hi
      rw [b_and, b_not _ hi, bt_setOf (by omega), bt_setOf (by omega), bt_setOf (by omega)]
      unfold sAd sMs sLg
      by_cases hx : i < M
      · rw [decide_eq_true hx]; simp
      · rw [decide_eq_false hx]; simp
    refine QR_val (r := setOf (sLg σ n) M) ?_ ?_
    · simp (disch := first | omega | (simp only [pN, pP, pM, pE, pL, pC, pK, sp]; omega)) only [u_fX11_lag, u_fX11_lag_0, k1, e_obxl, e_sbTN, ka, kb, e, e_T, e_F, e_bnd, e_obr, e_obd, e_obt, e_addB, e_addA, e_in, e_cl, e_leT, e_leF, e_ltT, e_ltF, e_eqT, e_eqF, e_NOT, e_NOF, nI_add, pk_mul, k_spot, k_chan, m_node, m_pair, m_msg, m_chan, m_pack, e_w, e_wn, e_ws]
    · simp (disch := first | omega | (simp only [pN, pP, pM, pE, pL, pC, pK, sp]; omega)) only [u_fX12_lag, u_fX12_lag_0, m1, m_thr0, e_ws0, ml, e_T, e_F, e_bnd, e_obr, e_obd, e_obt, e_addB, e_addA, e_in, e_cl, e_leT, e_leF, e_ltT, e_ltF, e_eqT, e_eqF, e_NOT, e_NOF, nI_add, pk_mul, k_spot, k_chan, m_node, m_pair, m_msg, m_chan, m_pack, e_w, e_wn, e_ws]
  · refine QR_thr (r := nI 0) 0 (by decide) ?_ ?_
    · simp (disch := first | omega | (simp only [pN, pP, pM, pE, pL, pC, pK, sp]; omega)) only [u_fX11_lag, u_fX11_lag_0, k1, e_obxl, e_obxr, e_T, e_F, e_bnd, e_obr, e_obd, e_obt, e_addB, e_addA, e_in, e_cl, e_leT, e_leF, e_ltT, e_ltF, e_eqT, e_eqF, e_NOT, e_NOF, nI_add, pk_mul, k_spot, k_chan, m_node, m_pair, m_msg, m_chan, m_pack, e_w, e_wn, e_ws]
    · simp (disch := first | omega | (simp only [pN, pP, pM, pE, pL, pC, pK, sp]; omega)) only [u_fX12_lag, u_fX12_lag_0, m1, m_thr0, m_thr1, e_ws0, e_ss, e_T, e_F, e_bnd, e_obr, e_obd, e_obt, e_addB, e_addA, e_in, e_cl, e_leT, e_leF, e_ltT, e_ltF, e_eqT, e_eqF, e_NOT, e_NOF, nI_add, pk_mul, k_spot, k_chan, m_node, m_pair, m_msg, m_chan, m_pack, e_w, e_wn, e_ws]; rfl
theorem m_in13 (x : Int32) : (∃ j, 1 ≤ j ∧ j ≤ 3 ∧ x = nI j ∧ (∀ σ, fX11_needWhat x (nI 1) (nI 3) σ = some (.inl (nI 0), σ)) ∧ fX12_in x (nI 1) (nI 3) = nI 1) ∨ ((∀ σ, fX11_needWhat x (nI 1) (nI 3) σ = some (.inr 1, σ)) ∧ fX12_in x (nI 1) (nI 3) = nI 0) := by
  rcases ix x (n := 4) (by omega) with h | ⟨j, hj, rfl⟩
  · right
    have h3 : x < nI 1 ∨ nI 3 < x := by
      rcases h with h | h
      · left
        rw [Int32.lt_iff_toInt_lt] at h ⊢
        rw [nI_toInt (by omega)]
        have : (0 : Int32).toInt = 0 := rfl
        omega
      · right
        rw [Int32.lt_iff_toInt_lt]
        rw [Int32.le_iff_toInt_le] at h
        rw [nI_toInt (by omega)] at h ⊢
        omega
    refine ⟨fun σ => ?_, ?_⟩
    · rw [u_fX11_needWhat, u_fX11_needWhat_0, u_fX11_needWhat_10]
      by_cases h1 : x < nI 1
      · rw [cnd_pos h1]
      · rw [cnd_neg h1]
        exact cnd_neg (i_le_lt.mpr (h3.resolve_left h1))
    · rw [u_fX12_in, u_fX12_in_0]
      by_cases h1 : x < nI 1
      · rw [cnd_pos h1]
      · rw [cnd_neg h1]
        exact cnd_pos (h3.resolve_left h1)
  · by_cases h0 : j = 0
    · subst h0
      right
      refine ⟨fun σ => ?_, ?_⟩
      · simp (disch := first | omega | (simp only [pN, pP, pM, pE, pL, pC, pK, sp]; omega)) only [u_fX11_needWhat, u_fX11_needWhat_0, u_fX11_needWhat_10, e_T, e_F, e_bnd, e_obr, e_obd, e_obt, e_addB, e_addA, e_in, e_cl, e_leT, e_leF, e_ltT, e_ltF, e_eqT, e_eqF, e_NOT, e_NOF, nI_add, pk_mul, k_spot, k_chan, m_node, m_pair, m_msg, m_chan, m_pack, e_w, e_wn, e_ws]
      · simp (disch := first | omega | (simp only [pN, pP, pM, pE, pL, pC, pK, sp]; omega)) only [u_fX12_in, u_fX12_in_0, e_T, e_F, e_bnd, e_obr, e_obd, e_obt, e_addB, e_addA, e_in, e_cl, e_leT, e_leF, e_ltT, e_ltF, e_eqT, e_eqF, e_NOT, e_NOF, nI_add, pk_mul, k_spot, k_chan, m_node, m_pair, m_msg, m_chan, m_pack, e_w, e_wn, e_ws]
    · left
      refine ⟨j, by omega, by omega, rfl, fun σ => ?_, ?_⟩
      · simp (disch := first | omega | (simp only [pN, pP, pM, pE, pL, pC, pK, sp]; omega)) only [u_fX11_needWhat, u_fX11_needWhat_0, e_T, e_F, e_bnd, e_obr, e_obd, e_obt, e_addB, e_addA, e_in, e_cl, e_leT, e_leF, e_ltT, e_ltF, e_eqT, e_eqF, e_NOT, e_NOF, nI_add, pk_mul, k_spot, k_chan, m_node, m_pair, m_msg, m_chan, m_pack, e_w, e_wn, e_ws]
      · simp (disch := first | omega | (simp only [pN, pP, pM, pE, pL, pC, pK, sp]; omega)) only [u_fX12_in, u_fX12_in_0, e_T, e_F, e_bnd, e_obr, e_obd, e_obt, e_addB, e_addA, e_in, e_cl, e_leT, e_leF, e_ltT, e_ltF, e_eqT, e_eqF, e_NOT, e_NOF, nI_add, pk_mul, k_spot, k_chan, m_node, m_pair, m_msg, m_chan, m_pack, e_w, e_wn, e_ws]
theorem o_those (h : R0 dr tk pl N G M T B Q Dl σ ω) (x1 x2 : Int32) : QR [0, 1] kk2 (fX11_those x1 x2 σ) (fX12_those x1 x2 (sq u 1 ω)) σ u ω := by
  have h6 := h.1.1.1
  have hM20 := h.1.1.2.2.1
  rcases ck_node h.1.2.1.1 h.1.2.1.2 h6 x1 with ⟨n, hn, rfl, k1, m1⟩ | ⟨k1, m1⟩
  · rcases m_in13 x2 with ⟨w, hw, hw2, rfl, k3, m3⟩ | ⟨k3, m3⟩
    · have kb := k_msgs (σ := σ) (n := n) (k := w) h.1.2.2.2.1.1 hM20 (by omega)
      have mb := m_bits (u := s2 u 0 0 (nI 0)) (n := n) (k := w) h (by omega)
      refine QR_val (r := setOf (sMs σ n w) M) ?_ ?_
      · simp (disch := first | omega | (simp only [pN, pP, pM, pE, pL, pC, pK, sp]; omega)) only [u_fX11_those, u_fX11_those_0, k1, k3, e_sbTN, kb, e_obxl, e_T, e_F, e_bnd, e_obr, e_obd, e_obt, e_addB, e_addA, e_in, e_cl, e_leT, e_leF, e_ltT, e_ltF, e_eqT, e_eqF, e_NOT, e_NOF, nI_add, pk_mul, k_spot, k_chan, m_node, m_pair, m_msg, m_chan, m_pack, e_w, e_wn, e_ws]
      · simp (disch := first | omega | (simp only [pN, pP, pM, pE, pL, pC, pK, sp]; omega)) only [u_fX12_those, u_fX12_those_0, u_fX12_those_33, m1, m3, mb, m_thr0, e_ws0, e_T, e_F, e_bnd, e_obr, e_obd, e_obt, e_addB, e_addA, e_in, e_cl, e_leT, e_leF, e_ltT, e_ltF, e_eqT, e_eqF, e_NOT, e_NOF, nI_add, pk_mul, k_spot, k_chan, m_node, m_pair, m_msg, m_chan, m_pack, e_w, e_wn, e_ws]
    · refine QR_thr (r := nI 0) 1 (by decide) ?_ ?_
      · simp (disch := first | omega | (simp only [pN, pP, pM, pE, pL, pC, pK, sp]; omega)) only [u_fX11_those, u_fX11_those_0, k1, k3, e_obxl, e_obxr, e_T, e_F, e_bnd, e_obr, e_obd, e_obt, e_addB, e_addA, e_in, e_cl, e_leT, e_leF, e_ltT, e_ltF, e_eqT, e_eqF, e_NOT, e_NOF, nI_add, pk_mul, k_spot, k_chan, m_node, m_pair, m_msg, m_chan, m_pack, e_w, e_wn, e_ws]
      · simp (disch := first | omega | (simp only [pN, pP, pM, pE, pL, pC, pK, sp]; omega)) only [u_fX12_those, u_fX12_those_0, u_fX12_those_33, u_fX12_those_40, m1, m3, m_thr0, m_thr1, e_ws0, e_ss, e_T, e_F, e_bnd, e_obr, e_obd, e_obt, e_addB, e_addA, e_in, e_cl, e_leT, e_leF, e_ltT, e_ltF, e_eqT, e_eqF, e_NOT, e_NOF, nI_add, pk_mul, k_spot, k_chan, m_node, m_pair, m_msg, m_chan, m_pack, e_w, e_wn, e_ws]; rfl
  · refine QR_thr (r := nI 0) 0 (by decide) ?_ ?_
    · simp (disch := first | omega | (simp only [pN, pP, pM, pE, pL, pC, pK, sp]; omega)) only [u_fX11_those, u_fX11_those_0, k1, e_obxl, e_obxr, e_T, e_F, e_bnd, e_obr, e_obd, e_obt, e_addB, e_addA, e_in, e_cl, e_leT, e_leF, e_ltT, e_ltF, e_eqT, e_eqF, e_NOT, e_NOF, nI_add, pk_mul, k_spot, k_chan, m_node, m_pair, m_msg, m_chan, m_pack, e_w, e_wn, e_ws]
    · simp (disch := first | omega | (simp only [pN, pP, pM, pE, pL, pC, pK, sp]; omega)) only [u_fX12_those, u_fX12_those_0, u_fX12_those_40, m1, m_thr0, m_thr1, e_ws0, e_ss, e_T, e_F, e_bnd, e_obr, e_obd, e_obt, e_addB, e_addA, e_in, e_cl, e_leT, e_leF, e_ltT, e_ltF, e_eqT, e_eqF, e_NOT, e_NOF, nI_add, pk_mul, k_spot, k_chan, m_node, m_pair, m_msg, m_chan, m_pack, e_w, e_wn, e_ws]; rfl
theorem o_node (h : R0 dr tk pl N G M T B Q Dl σ ω) (x1 x2 : Int32) : QR [0, 1] kk2 (fX11_node x1 x2 σ) (fX12_node x1 x2 (sq u 1 ω)) σ u ω := by
  have h6 := h.1.1.1
  have hM20 := h.1.1.2.2.1
  rcases ck_node h.1.2.1.1 h.1.2.1.2 h6 x1 with ⟨n, hn, rfl, k1, m1⟩ | ⟨k1, m1⟩
  · obtain ⟨z1, -, ⟨a, ha, z3, z4⟩, z5⟩ := h.2.1 n (by omega)
    rcases ix x2 (n := 6) (by omega) with hx | ⟨w, hw, rfl⟩
    · have m3 := m_inB (n := 5) (by omega) hx
      refine QR_thr (r := nI 0) 1 (by decide) ?_ ?_
      · simp (disch := first | omega | (simp only [pN, pP, pM, pE, pL, pC, pK, sp]; omega)) only [u_fX11_node, u_fX11_node_0, k1, e_obxl, e_T, e_F, e_bnd, e_obr, e_obd, e_obt, e_addB, e_addA, e_in, e_cl, e_leT, e_leF, e_ltT, e_ltF, e_eqT, e_eqF, e_NOT, e_NOF, nI_add, pk_mul, k_spot, k_chan, m_node, m_pair, m_msg, m_chan, m_pack, e_w, e_wn, e_ws]
        rw [cnd_neg (ne_bad (by omega) hx (show 0 < 6 by omega)), cnd_neg (ne_bad (by omega) hx (show 1 < 6 by omega)), cnd_neg (ne_bad (by omega) hx (show 2 < 6 by omega)), cnd_neg (ne_bad (by omega) hx (show 3 < 6 by omega)), cnd_neg (ne_bad (by omega) hx (show 4 < 6 by omega)), cnd_neg (ne_bad (by omega) hx (show 5 < 6 by omega))]
      · simp (disch := first | omega | (simp only [pN, pP, pM, pE, pL, pC, pK, sp]; omega)) only [u_fX12_node, u_fX12_node_0, u_fX12_node_33, m1, m3, m_thr0, m_thr1, e_ws0, e_ss, e_T, e_F, e_bnd, e_obr, e_obd, e_obt, e_addB, e_addA, e_in, e_cl, e_leT, e_leF, e_ltT, e_ltF, e_eqT, e_eqF, e_NOT, e_NOF, nI_add, pk_mul, k_spot, k_chan, m_node, m_pair, m_msg, m_chan, m_pack, e_w, e_wn, e_ws]; rfl
    · have m3 := m_inG (n := 5) (j := w) (by omega) (by omega)
      have hup := k_isUp (σ := σ) (n := n) (by omega)
      have hnt := k_isNoticed (σ := σ) (n := n) (by omega)
      have hnt' := q_isNoticed (u := s2 u 0 0 (nI 0)) h.1 h.2.1 hn
      rcases (show w = 0 ∨ w = 1 ∨ w = 2 ∨ w = 3 ∨ w = 4 ∨ w = 5 by omega) with rfl | rfl | rfl | rfl | rfl | rfl
      · rcases z1 hn with ⟨y1, y2⟩ | ⟨d, hd, y1, y2, -⟩
        · rw [show upB σ n = true from decide_eq_true y1] at hup
          refine QR_val (r := nI 1) ?_ ?_
          · simp (disch := first | omega | (simp only [pN, pP, pM, pE, pL, pC, pK, sp]; omega)) only [u_fX11_node, u_fX11_node_0, k1, e_sbTN, hup, b2_t, e_obxl, e_T, e_F, e_bnd, e_obr, e_obd, e_obt, e_addB, e_addA, e_in, e_cl, e_leT, e_leF, e_ltT, e_ltF, e_eqT, e_eqF, e_NOT, e_NOF, nI_add, pk_mul, k_spot, k_chan, m_node, m_pair, m_msg, m_chan, m_pack, e_w, e_wn, e_ws]
          · simp (disch := first | omega | (simp only [pN, pP, pM, pE, pL, pC, pK, sp]; omega)) only [u_fX12_node, u_fX12_node_0, u_fX12_node_33, m1, m3, m_of, y2, m_thr0, e_ws0, e_T, e_F, e_bnd, e_obr, e_obd, e_obt, e_addB, e_addA, e_in, e_cl, e_leT, e_leF, e_ltT, e_ltF, e_eqT, e_eqF, e_NOT, e_NOF, nI_add, pk_mul, k_spot, k_chan, m_node, m_pair, m_msg, m_chan, m_pack, e_w, e_wn, e_ws]
        · have hT := h.1.1.2.2.2
          rw [show upB σ n = false from decide_eq_false (by rw [y1]; exact NO_ne (by omega))] at hup
          refine QR_val (r := nI 0) ?_ ?_
          · simp (disch := first | omega | (simp only [pN, pP, pM, pE, pL, pC, pK, sp]; omega)) only [u_fX11_node, u_fX11_node_0, k1, e_sbTN, hup, b2_f, e_obxl, e_T, e_F, e_bnd, e_obr, e_obd, e_obt, e_addB, e_addA, e_in, e_cl, e_leT, e_leF, e_ltT, e_ltF, e_eqT, e_eqF, e_NOT, e_NOF, nI_add, pk_mul, k_spot, k_chan, m_node, m_pair, m_msg, m_chan, m_pack, e_w, e_wn, e_ws]
          · simp (disch := first | omega | (simp only [pN, pP, pM, pE, pL, pC, pK, sp]; omega)) only [u_fX12_node, u_fX12_node_0, u_fX12_node_33, m1, m3, m_of, y2, m_thr0, e_ws0, e_T, e_F, e_bnd, e_obr, e_obd, e_obt, e_addB, e_addA, e_in, e_cl, e_leT, e_leF, e_ltT, e_ltF, e_eqT, e_eqF, e_NOT, e_NOF, nI_add, pk_mul, k_spot, k_chan, m_node, m_pair, m_msg, m_chan, m_pack, e_w, e_wn, e_ws]
      · refine QR_val (r := nI a) ?_ ?_
        · simp (disch := first | omega | (simp only [pN, pP, pM, pE, pL, pC, pK, sp]; omega)) only [u_fX11_node, u_fX11_node_0, k1, z3, e_obxl, e_T, e_F, e_bnd, e_obr, e_obd, e_obt, e_addB, e_addA, e_in, e_cl, e_leT, e_leF, e_ltT, e_ltF, e_eqT, e_eqF, e_NOT, e_NOF, nI_add, pk_mul, k_spot, k_chan, m_node, m_pair, m_msg, m_chan, m_pack, e_w, e_wn, e_ws]
        · simp (disch := first | omega | (simp only [pN, pP, pM, pE, pL, pC, pK, sp]; omega)) only [u_fX12_node, u_fX12_node_0, u_fX12_node_33, m1, m3, m_of, z4, m_thr0, e_ws0, e_T, e_F, e_bnd, e_obr, e_obd, e_obt, e_addB, e_addA, e_in, e_cl, e_leT, e_leF, e_ltT, e_ltF, e_eqT, e_eqF, e_NOT, e_NOF, nI_add, pk_mul, k_spot, k_chan, m_node, m_pair, m_msg, m_chan, m_pack, e_w, e_wn, e_ws]
      · have ka := k_msgs (σ := σ) (n := n) (k := 1) h.1.2.2.2.1.1 hM20 (by omega)
        have kb := k_msgs (σ := σ) (n := n) (k := 2) h.1.2.2.2.1.1 hM20 (by omega)
        have ma := m_bits (u := s2 u 0 0 (nI 0)) (n := n) (k := 1) h (by omega)
        have mb := m_bits (u := s2 u 0 0 (nI 0)) (n := n) (k := 2) h (by omega)
        refine QR_val (r := fJ6_bitCount_0f7a4 (setOf (sMs σ n 1) M ||| setOf (sMs σ n 2) M)) ?_ ?_
        · simp (disch := first | omega | (simp only [pN, pP, pM, pE, pL, pC, pK, sp]; omega)) only [u_fX11_node, u_fX11_node_0, k1, e_sbTN, ka, kb, e_obxl, e_T, e_F, e_bnd, e_obr, e_obd, e_obt, e_addB, e_addA, e_in, e_cl, e_leT, e_leF, e_ltT, e_ltF, e_eqT, e_eqF, e_NOT, e_NOF, nI_add, pk_mul, k_spot, k_chan, m_node, m_pair, m_msg, m_chan, m_pack, e_w, e_wn, e_ws]
        · simp (disch := first | omega | (simp only [pN, pP, pM, pE, pL, pC, pK, sp]; omega)) only [u_fX12_node, u_fX12_node_0, u_fX12_node_33, m1, m3, ma, mb, m_thr0, e_ws0, e_T, e_F, e_bnd, e_obr, e_obd, e_obt, e_addB, e_addA, e_in, e_cl, e_leT, e_leF, e_ltT, e_ltF, e_eqT, e_eqF, e_NOT, e_NOF, nI_add, pk_mul, k_spot, k_chan, m_node, m_pair, m_msg, m_chan, m_pack, e_w, e_wn, e_ws]
      · obtain ⟨-, -, d3, d4, -⟩ := h.2.2.2.1 n (by omega)
        refine QR_val (r := nI (Dl n).length) ?_ ?_
        · simp (disch := first | omega | (simp only [pN, pP, pM, pE, pL, pC, pK, sp]; omega)) only [u_fX11_node, u_fX11_node_0, k1, d3, e_obxl, e_T, e_F, e_bnd, e_obr, e_obd, e_obt, e_addB, e_addA, e_in, e_cl, e_leT, e_leF, e_ltT, e_ltF, e_eqT, e_eqF, e_NOT, e_NOF, nI_add, pk_mul, k_spot, k_chan, m_node, m_pair, m_msg, m_chan, m_pack, e_w, e_wn, e_ws]
        · simp (disch := first | omega | (simp only [pN, pP, pM, pE, pL, pC, pK, sp]; omega)) only [u_fX12_node, u_fX12_node_0, u_fX12_node_33, m1, m3, m_of, d4, m_thr0, e_ws0, e_T, e_F, e_bnd, e_obr, e_obd, e_obt, e_addB, e_addA, e_in, e_cl, e_leT, e_leF, e_ltT, e_ltF, e_eqT, e_eqF, e_NOT, e_NOF, nI_add, pk_mul, k_spot, k_chan, m_node, m_pair, m_msg, m_chan, m_pack, e_w, e_wn, e_ws]
      · refine QR_val (r := σ 4 n) ?_ ?_
        · simp (disch := first | omega | (simp only [pN, pP, pM, pE, pL, pC, pK, sp]; omega)) only [u_fX11_node, u_fX11_node_0, k1, e_obxl, e_T, e_F, e_bnd, e_obr, e_obd, e_obt, e_addB, e_addA, e_in, e_cl, e_leT, e_leF, e_ltT, e_ltF, e_eqT, e_eqF, e_NOT, e_NOF, nI_add, pk_mul, k_spot, k_chan, m_node, m_pair, m_msg, m_chan, m_pack, e_w, e_wn, e_ws]
        · simp (disch := first | omega | (simp only [pN, pP, pM, pE, pL, pC, pK, sp]; omega)) only [u_fX12_node, u_fX12_node_0, u_fX12_node_33, m1, m3, m_of, ← z5, m_thr0, e_ws0, e_T, e_F, e_bnd, e_obr, e_obd, e_obt, e_addB, e_addA, e_in, e_cl, e_leT, e_leF, e_ltT, e_ltF, e_eqT, e_eqF, e_NOT, e_NOF, nI_add, pk_mul, k_spot, k_chan, m_node, m_pair, m_msg, m_chan, m_pack, e_w, e_wn, e_ws]
      · cases hb : ntB σ n with
        | true =>
          rw [hb] at hnt hnt'
          refine QR_val (r := nI 1) ?_ ?_
          · simp (disch := first | omega | (simp only [pN, pP, pM, pE, pL, pC, pK, sp]; omega)) only [u_fX11_node, u_fX11_node_0, k1, e_sbTN, hnt, b2_t, e_obxl, e_T, e_F, e_bnd, e_obr, e_obd, e_obt, e_addB, e_addA, e_in, e_cl, e_leT, e_leF, e_ltT, e_ltF, e_eqT, e_eqF, e_NOT, e_NOF, nI_add, pk_mul, k_spot, k_chan, m_node, m_pair, m_msg, m_chan, m_pack, e_w, e_wn, e_ws]
          · simp (disch := first | omega | (simp only [pN, pP, pM, pE, pL, pC, pK, sp]; omega)) only [u_fX12_node, u_fX12_node_0, u_fX12_node_33, m1, m3, hnt', b2_t, m_thr0, e_ws0, e_T, e_F, e_bnd, e_obr, e_obd, e_obt, e_addB, e_addA, e_in, e_cl, e_leT, e_leF, e_ltT, e_ltF, e_eqT, e_eqF, e_NOT, e_NOF, nI_add, pk_mul, k_spot, k_chan, m_node, m_pair, m_msg, m_chan, m_pack, e_w, e_wn, e_ws]
        | false =>
          rw [hb] at hnt hnt'
          refine QR_val (r := nI 0) ?_ ?_
          · simp (disch := first | omega | (simp only [pN, pP, pM, pE, pL, pC, pK, sp]; omega)) only [u_fX11_node, u_fX11_node_0, k1, e_sbTN, hnt, b2_f, e_obxl, e_T, e_F, e_bnd, e_obr, e_obd, e_obt, e_addB, e_addA, e_in, e_cl, e_leT, e_leF, e_ltT, e_ltF, e_eqT, e_eqF, e_NOT, e_NOF, nI_add, pk_mul, k_spot, k_chan, m_node, m_pair, m_msg, m_chan, m_pack, e_w, e_wn, e_ws]
          · simp (disch := first | omega | (simp only [pN, pP, pM, pE, pL, pC, pK, sp]; omega)) only [u_fX12_node, u_fX12_node_0, u_fX12_node_33, m1, m3, hnt', b2_f, m_thr0, e_ws0, e_T, e_F, e_bnd, e_obr, e_obd, e_obt, e_addB, e_addA, e_in, e_cl, e_leT, e_leF, e_ltT, e_ltF, e_eqT, e_eqF, e_NOT, e_NOF, nI_add, pk_mul, k_spot, k_chan, m_node, m_pair, m_msg, m_chan, m_pack, e_w, e_wn, e_ws]
  · refine QR_thr (r := nI 0) 0 (by decide) ?_ ?_
    · simp (disch := first | omega | (simp only [pN, pP, pM, pE, pL, pC, pK, sp]; omega)) only [u_fX11_node, u_fX11_node_0, k1, e_obxl, e_obxr, e_T, e_F, e_bnd, e_obr, e_obd, e_obt, e_addB, e_addA, e_in, e_cl, e_leT, e_leF, e_ltT, e_ltF, e_eqT, e_eqF, e_NOT, e_NOF, nI_add, pk_mul, k_spot, k_chan, m_node, m_pair, m_msg, m_chan, m_pack, e_w, e_wn, e_ws]
    · simp (disch := first | omega | (simp only [pN, pP, pM, pE, pL, pC, pK, sp]; omega)) only [u_fX12_node, u_fX12_node_0, m1, m_thr0, m_thr1, e_ws0, e_ss, e_T, e_F, e_bnd, e_obr, e_obd, e_obt, e_addB, e_addA, e_in, e_cl, e_leT, e_leF, e_ltT, e_ltF, e_eqT, e_eqF, e_NOT, e_NOF, nI_add, pk_mul, k_spot, k_chan, m_node, m_pair, m_msg, m_chan, m_pack, e_w, e_wn, e_ws]; rfl
theorem o_message (h : R0 dr tk pl N G M T B Q Dl σ ω) (x1 x2 : Int32) : QR [0, 1] kk2 (fX11_message x1 x2 σ) (fX12_message x1 x2 (sq u 1 ω)) σ u ω := by
  have h6 := h.1.1.1
  have hM20 := h.1.1.2.2.1
  rcases ck_msg h.1.2.2.2.1.1 h.1.2.2.2.1.2 hM20 x1 with ⟨m, hm, rfl, k1, m1⟩ | ⟨k1, m1⟩
  · obtain ⟨⟨q1, q2, q3, q4, q5⟩, -⟩ := h.2.2.2.2.1 m (by omega)
    rcases ix x2 (n := 5) (by omega) with hx | ⟨w, hw, rfl⟩
    · have m3 := m_inB (n := 4) (by omega) hx
      refine QR_thr (r := nI 0) 1 (by decide) ?_ ?_
      · simp (disch := first | omega | (simp only [pN, pP, pM, pE, pL, pC, pK, sp]; omega)) only [u_fX11_message, u_fX11_message_0, k1, e_obxl, e_T, e_F, e_bnd, e_obr, e_obd, e_obt, e_addB, e_addA, e_in, e_cl, e_leT, e_leF, e_ltT, e_ltF, e_eqT, e_eqF, e_NOT, e_NOF, nI_add, pk_mul, k_spot, k_chan, m_node, m_pair, m_msg, m_chan, m_pack, e_w, e_wn, e_ws]
        rw [cnd_neg (ne_bad (by omega) hx (show 0 < 5 by omega)), cnd_neg (ne_bad (by omega) hx (show 1 < 5 by omega)), cnd_neg (ne_bad (by omega) hx (show 2 < 5 by omega)), cnd_neg (ne_bad (by omega) hx (show 3 < 5 by omega)), cnd_neg (ne_bad (by omega) hx (show 4 < 5 by omega))]
      · simp (disch := first | omega | (simp only [pN, pP, pM, pE, pL, pC, pK, sp]; omega)) only [u_fX12_message, u_fX12_message_0, u_fX12_message_33, m1, m3, m_thr0, m_thr1, e_ws0, e_ss, e_T, e_F, e_bnd, e_obr, e_obd, e_obt, e_addB, e_addA, e_in, e_cl, e_leT, e_leF, e_ltT, e_ltF, e_eqT, e_eqF, e_NOT, e_NOF, nI_add, pk_mul, k_spot, k_chan, m_node, m_pair, m_msg, m_chan, m_pack, e_w, e_wn, e_ws]; rfl
    · have m3 := m_inG (n := 4) (j := w) (by omega) (by omega)
      rcases (show w = 0 ∨ w = 1 ∨ w = 2 ∨ w = 3 ∨ w = 4 by omega) with rfl | rfl | rfl | rfl | rfl
      · refine QR_val (r := σ 14 m) ?_ ?_
        · simp (disch := first | omega | (simp only [pN, pP, pM, pE, pL, pC, pK, sp]; omega)) only [u_fX11_message, u_fX11_message_0, k1, e_obxl, e_T, e_F, e_bnd, e_obr, e_obd, e_obt, e_addB, e_addA, e_in, e_cl, e_leT, e_leF, e_ltT, e_ltF, e_eqT, e_eqF, e_NOT, e_NOF, nI_add, pk_mul, k_spot, k_chan, m_node, m_pair, m_msg, m_chan, m_pack, e_w, e_wn, e_ws]
        · simp (disch := first | omega | (simp only [pN, pP, pM, pE, pL, pC, pK, sp]; omega)) only [u_fX12_message, u_fX12_message_0, u_fX12_message_33, m1, m3, m_ofMsg, ← q1, m_thr0, e_ws0, e_T, e_F, e_bnd, e_obr, e_obd, e_obt, e_addB, e_addA, e_in, e_cl, e_leT, e_leF, e_ltT, e_ltF, e_eqT, e_eqF, e_NOT, e_NOF, nI_add, pk_mul, k_spot, k_chan, m_node, m_pair, m_msg, m_chan, m_pack, e_w, e_wn, e_ws]
      · refine QR_val (r := σ 15 m) ?_ ?_
        · simp (disch := first | omega | (simp only [pN, pP, pM, pE, pL, pC, pK, sp]; omega)) only [u_fX11_message, u_fX11_message_0, k1, e_obxl, e_T, e_F, e_bnd, e_obr, e_obd, e_obt, e_addB, e_addA, e_in, e_cl, e_leT, e_leF, e_ltT, e_ltF, e_eqT, e_eqF, e_NOT, e_NOF, nI_add, pk_mul, k_spot, k_chan, m_node, m_pair, m_msg, m_chan, m_pack, e_w, e_wn, e_ws]
        · simp (disch := first | omega | (simp only [pN, pP, pM, pE, pL, pC, pK, sp]; omega)) only [u_fX12_message, u_fX12_message_0, u_fX12_message_33, m1, m3, m_ofMsg, ← q2, m_thr0, e_ws0, e_T, e_F, e_bnd, e_obr, e_obd, e_obt, e_addB, e_addA, e_in, e_cl, e_leT, e_leF, e_ltT, e_ltF, e_eqT, e_eqF, e_NOT, e_NOF, nI_add, pk_mul, k_spot, k_chan, m_node, m_pair, m_msg, m_chan, m_pack, e_w, e_wn, e_ws]
      · refine QR_val (r := σ 16 m) ?_ ?_
        · simp (disch := first | omega | (simp only [pN, pP, pM, pE, pL, pC, pK, sp]; omega)) only [u_fX11_message, u_fX11_message_0, k1, e_obxl, e_T, e_F, e_bnd, e_obr, e_obd, e_obt, e_addB, e_addA, e_in, e_cl, e_leT, e_leF, e_ltT, e_ltF, e_eqT, e_eqF, e_NOT, e_NOF, nI_add, pk_mul, k_spot, k_chan, m_node, m_pair, m_msg, m_chan, m_pack, e_w, e_wn, e_ws]
        · simp (disch := first | omega | (simp only [pN, pP, pM, pE, pL, pC, pK, sp]; omega)) only [u_fX12_message, u_fX12_message_0, u_fX12_message_33, m1, m3, m_ofMsg, ← q3, m_thr0, e_ws0, e_T, e_F, e_bnd, e_obr, e_obd, e_obt, e_addB, e_addA, e_in, e_cl, e_leT, e_leF, e_ltT, e_ltF, e_eqT, e_eqF, e_NOT, e_NOF, nI_add, pk_mul, k_spot, k_chan, m_node, m_pair, m_msg, m_chan, m_pack, e_w, e_wn, e_ws]
      · have ka := k_dlv (σ := σ) (m := m) h.1.2.1.1 h6 (by omega)
        have ma := m_dlv (u := s2 u 0 0 (nI 0)) (m := m) h (by omega)
        refine QR_val (r := setOf (sDl σ m) N) ?_ ?_
        · simp (disch := first | omega | (simp only [pN, pP, pM, pE, pL, pC, pK, sp]; omega)) only [u_fX11_message, u_fX11_message_0, k1, e_sbTN, ka, e_obxl, e_T, e_F, e_bnd, e_obr, e_obd, e_obt, e_addB, e_addA, e_in, e_cl, e_leT, e_leF, e_ltT, e_ltF, e_eqT, e_eqF, e_NOT, e_NOF, nI_add, pk_mul, k_spot, k_chan, m_node, m_pair, m_msg, m_chan, m_pack, e_w, e_wn, e_ws]
        · simp (disch := first | omega | (simp only [pN, pP, pM, pE, pL, pC, pK, sp]; omega)) only [u_fX12_message, u_fX12_message_0, u_fX12_message_33, m1, m3, ma, m_thr0, e_ws0, e_T, e_F, e_bnd, e_obr, e_obd, e_obt, e_addB, e_addA, e_in, e_cl, e_leT, e_leF, e_ltT, e_ltF, e_eqT, e_eqF, e_NOT, e_NOF, nI_add, pk_mul, k_spot, k_chan, m_node, m_pair, m_msg, m_chan, m_pack, e_w, e_wn, e_ws]
      · have ka := k_gts (σ := σ) (m := m) h.1.2.1.1 h6 (by omega)
        have ma := m_gts (u := s2 u 0 0 (nI 0)) (m := m) h (by omega)
        refine QR_val (r := setOf (sGt σ m) N) ?_ ?_
        · simp (disch := first | omega | (simp only [pN, pP, pM, pE, pL, pC, pK, sp]; omega)) only [u_fX11_message, u_fX11_message_0, k1, e_sbTN, ka, e_obxl, e_T, e_F, e_bnd, e_obr, e_obd, e_obt, e_addB, e_addA, e_in, e_cl, e_leT, e_leF, e_ltT, e_ltF, e_eqT, e_eqF, e_NOT, e_NOF, nI_add, pk_mul, k_spot, k_chan, m_node, m_pair, m_msg, m_chan, m_pack, e_w, e_wn, e_ws]
        · simp (disch := first | omega | (simp only [pN, pP, pM, pE, pL, pC, pK, sp]; omega)) only [u_fX12_message, u_fX12_message_0, u_fX12_message_33, m1, m3, ma, m_thr0, e_ws0, e_T, e_F, e_bnd, e_obr, e_obd, e_obt, e_addB, e_addA, e_in, e_cl, e_leT, e_leF, e_ltT, e_ltF, e_eqT, e_eqF, e_NOT, e_NOF, nI_add, pk_mul, k_spot, k_chan, m_node, m_pair, m_msg, m_chan, m_pack, e_w, e_wn, e_ws]
  · refine QR_thr (r := nI 0) 0 (by decide) ?_ ?_
    · simp (disch := first | omega | (simp only [pN, pP, pM, pE, pL, pC, pK, sp]; omega)) only [u_fX11_message, u_fX11_message_0, k1, e_obxl, e_obxr, e_T, e_F, e_bnd, e_obr, e_obd, e_obt, e_addB, e_addA, e_in, e_cl, e_leT, e_leF, e_ltT, e_ltF, e_eqT, e_eqF, e_NOT, e_NOF, nI_add, pk_mul, k_spot, k_chan, m_node, m_pair, m_msg, m_chan, m_pack, e_w, e_wn, e_ws]
    · simp (disch := first | omega | (simp only [pN, pP, pM, pE, pL, pC, pK, sp]; omega)) only [u_fX12_message, u_fX12_message_0, m1, m_thr0, m_thr1, e_ws0, e_ss, e_T, e_F, e_bnd, e_obr, e_obd, e_obt, e_addB, e_addA, e_in, e_cl, e_leT, e_leF, e_ltT, e_ltF, e_eqT, e_eqF, e_NOT, e_NOF, nI_add, pk_mul, k_spot, k_chan, m_node, m_pair, m_msg, m_chan, m_pack, e_w, e_wn, e_ws]; rfl
end ST
