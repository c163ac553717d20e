/-! what blocks, what is waited for, how late -/
def gO (P : Nat → Bool) (σ : Sg) (n : Nat) : Nat → Option Nat
  | 0 => none
  | k + 1 => if P k = true then upO σ n k (gO P σ n k) else gO P σ n k
theorem gO_s {P : Nat → Bool} {σ : Sg} {n k : Nat} : gO P σ n (k + 1) = if P k = true then upO σ n k (gO P σ n k) else gO P σ n k := rfl
theorem gO_some {P : Nat → Bool} {σ : Sg} {n : Nat} : ∀ {k j : Nat}, gO P σ n k = some j → j < k ∧ P j = true
  | 0, j, h => by cases h
  | k + 1, j, h => by
    rw [gO_s] at h
    by_cases hp : P k = true
    · rw [if_pos hp] at h
      cases hl : gO P σ n k with
      | none =>
        rw [hl] at h
        have h : some k = some j := h
        cases h; exact ⟨by omega, hp⟩
      | some i =>
        rw [hl] at h
        have h : (if σ 21 (sp n k) < σ 21 (sp n i) then some k else some i) = some j := h
        split at h
        · cases h; exact ⟨by omega, hp⟩
        · cases h; have := gO_some hl; exact ⟨by omega, this.2⟩
    · rw [if_neg hp] at h
      have := gO_some h; exact ⟨by omega, this.2⟩
/-- a lesser stamp, or a like one of a message that isn't greater -/
def lsr (σ : Sg) (n m o : Nat) : Bool := decide (σ 21 (sp n o) < σ 21 (sp n m)) || (decide (σ 21 (sp n o) = σ 21 (sp n m)) && decide (o ≤ m))
def bP (σ : Sg) (n m : Nat) : Nat → Bool := fun o => decide (σ 20 (sp n o) = nI 1) && lsr σ n m o
def blk (σ : Sg) (M n m : Nat) : Option Nat := if pend σ n m = true then gO (bP σ n m) σ n M else none
section BL
variable {dr : Prop} {tk : Int32} {pl N G M T B : Nat} {Q : Qs} {Dl : Nat → List Nat} {u σ : Sg} {ω : Nat → Int32}
theorem k_block_lp {n m : Nat} (z13 : σ 13 0 = nI M) (hn : n < 6) (hM : M ≤ 20) (hm : m < M) : ∀ r i f, i + r = M → r < f → fX0_blockOf_29 σ f (nI n) (nI m) (nI (sp n m)) (oI (gO (bP σ n m) σ n i)) (nI i) = some (oI (gO (bP σ n m) σ n M)) := by
  have hspm : sp n m < 120 := by unfold sp; omega
  intro r
  induction r with
  | zero =>
    intro i f hi hf
    obtain ⟨f, rfl⟩ : ∃ g, f = g + 1 := ⟨f - 1, by omega⟩
    have hi : i = M := by omega
    rw [hi]
    simp (disch := first | omega | (simp only [pN, pP, pM, pE, pL, pC, pK, sp]; omega)) only [u_fX0_blockOf_29, z13, e_T, e_F, e_bnd, e_obr, e_obd, e_obt, e_addB, e_addA, e_in, e_cl, e_leT, e_leF, e_ltT, e_ltF, e_eqT, e_eqF, e_NOT, e_NOF, nI_add, pk_mul, k_spot, k_chan, m_node, m_pair, m_msg, m_chan, m_pack, e_w, e_wn, e_ws]
  | succ r ih =>
    intro i f hi hf
    obtain ⟨f, rfl⟩ : ∃ g, f = g + 1 := ⟨f - 1, by omega⟩
    have ih := ih (i + 1) f (by omega) (by omega)
    rw [gO_s] at ih
    have hsp : sp n i < 120 := by unfold sp; omega
    have h94 : ∀ b : Bool, lsr σ n m i = b → fX0_blockOf_94 (fun a0 a1 a2 a3 a4 => fX0_blockOf_29 σ f a0 a1 a2 a3 a4) (nI n) (nI m) (nI (sp n m)) (oI (gO (bP σ n m) σ n i)) (nI i) (nI (sp n i)) (b2 b) σ = some (oI (gO (bP σ n m) σ n M)) := by
      intro b hb
      by_cases hk : σ 20 (sp n i) = nI 1
      · cases b with
        | false =>
          rw [if_neg (by unfold bP; rw [hb]; simp)] at ih
          simp (disch := first | omega | (simp only [pN, pP, pM, pE, pL, pC, pK, sp]; omega)) only [u_fX0_blockOf_94, u_fX0_blockOf_143, hk, b2_f, e_T, e_F, e_bnd, e_obr, e_obd, e_obt, e_addB, e_addA, e_in, e_cl, e_leT, e_leF, e_ltT, e_ltF, e_eqT, e_eqF, e_NOT, e_NOF, nI_add, pk_mul, k_spot, k_chan, m_node, m_pair, m_msg, m_chan, m_pack, e_w, e_wn, e_ws]
          exact ih
        | true =>
          rw [if_pos (by unfold bP; rw [hb, decide_eq_true hk]; rfl)] at ih
          cases hl : gO (bP σ n m) σ n i with
          | none =>
            rw [hl] at ih
            simp (disch := first | omega | (simp only [pN, pP, pM, pE, pL, pC, pK, sp]; omega)) only [u_fX0_blockOf_94, u_fX0_blockOf_139, u_fX0_blockOf_143, hk, b2_t, oI, e_T, e_F, e_bnd, e_obr, e_obd, e_obt, e_addB, e_addA, e_in, e_cl, e_leT, e_leF, e_ltT, e_ltF, e_eqT, e_eqF, e_NOT, e_NOF, nI_add, pk_mul, k_spot, k_chan, m_node, m_pair, m_msg, m_chan, m_pack, e_w, e_wn, e_ws]
            exact ih
          | some j =>
            have hj := (gO_some hl).1
            have hspj : sp n j < 120 := by unfold sp; omega
            rw [hl] at ih
            have e1 : upO σ n i (some j) = if σ 21 (sp n i) < σ 21 (sp n j) then some i else some j := rfl
            rw [e1] at ih
            simp (disch := first | omega | (simp only [pN, pP, pM, pE, pL, pC, pK, sp]; omega)) only [u_fX0_blockOf_94, u_fX0_blockOf_139, u_fX0_blockOf_143, hk, b2_t, oI, e_T, e_F, e_bnd, e_obr, e_obd, e_obt, e_addB, e_addA, e_in, e_cl, e_leT, e_leF, e_ltT, e_ltF, e_eqT, e_eqF, e_NOT, e_NOF, nI_add, pk_mul, k_spot, k_chan, m_node, m_pair, m_msg, m_chan, m_pack, e_w, e_wn, e_ws]
            by_cases hlt : σ 21 (sp n i) < σ 21 (sp n j)
            · rw [if_pos hlt] at ih
              rw [cnd_neg (i_le_lt.mpr hlt)]; exact ih
            · rw [if_neg hlt] at ih
              rw [cnd_pos (i_lt_le.mp hlt)]; exact ih
      · rw [if_neg (by unfold bP; rw [decide_eq_false hk]; simp)] at ih
        simp (disch := first | omega | (simp only [pN, pP, pM, pE, pL, pC, pK, sp]; omega)) only [u_fX0_blockOf_94, u_fX0_blockOf_143, e_T, e_F, e_bnd, e_obr, e_obd, e_obt, e_addB, e_addA, e_in, e_cl, e_leT, e_leF, e_ltT, e_ltF, e_eqT, e_eqF, e_NOT, e_NOF, nI_add, pk_mul, k_spot, k_chan, m_node, m_pair, m_msg, m_chan, m_pack, e_w, e_wn, e_ws]
        rw [cnd_neg hk]; exact ih
    simp (disch := first | omega | (simp only [pN, pP, pM, pE, pL, pC, pK, sp]; omega)) only [u_fX0_blockOf_29, u_fX0_blockOf_89, u_fX0_blockOf_93, z13, e_T, e_F, e_bnd, e_obr, e_obd, e_obt, e_addB, e_addA, e_in, e_cl, e_leT, e_leF, e_ltT, e_ltF, e_eqT, e_eqF, e_NOT, e_NOF, nI_add, pk_mul, k_spot, k_chan, m_node, m_pair, m_msg, m_chan, m_pack, e_w, e_wn, e_ws]
    by_cases h1 : σ 21 (sp n i) < σ 21 (sp n m)
    · rw [cnd_pos h1]
      exact h94 true (by unfold lsr; rw [decide_eq_true h1]; rfl)
    · rw [cnd_neg h1]
      by_cases h2 : σ 21 (sp n i) = σ 21 (sp n m)
      · rw [cnd_pos h2]
        by_cases h3 : i ≤ m
        · rw [e_ltF h3 (by omega)]
          exact h94 true (by unfold lsr; rw [decide_eq_true h2, decide_eq_true h3]; simp)
        · rw [e_ltT (by omega) (by omega)]
          exact h94 false (by unfold lsr; rw [decide_eq_false h1, decide_eq_false h3]; simp)
      · rw [cnd_neg h2]
        exact h94 false (by unfold lsr; rw [decide_eq_false h1, decide_eq_false h2]; rfl)
theorem k_block {n m : Nat} (z13 : σ 13 0 = nI M) (hn : n < 6) (hM : M ≤ 20) (hm : m < M) : fX0_blockOf (nI n) (nI m) σ = some (oI (blk σ M n m)) := by
  have hspm : sp n m < 120 := by unfold sp; omega
  have kp : fX4_isPending (nI (sp n m)) σ = some (b2 (pend σ n m)) := k_isPending hspm
  have kl := k_block_lp z13 hn hM hm M 0 FU (by omega) (by show M < 100000; omega)
  have kl : fX0_blockOf_29 σ FU (nI n) (nI m) (nI (sp n m)) NO (nI 0) = some (oI (gO (bP σ n m) σ n M)) := kl
  unfold blk
  cases hp : pend σ n m with
  | false =>
    simp (disch := first | omega | (simp only [pN, pP, pM, pE, pL, pC, pK, sp]; omega)) only [u_fX0_blockOf, u_fX0_blockOf_0, kp, hp, b2_f, e_T, e_F, e_bnd, e_obr, e_obd, e_obt, e_addB, e_addA, e_in, e_cl, e_leT, e_leF, e_ltT, e_ltF, e_eqT, e_eqF, e_NOT, e_NOF, nI_add, pk_mul, k_spot, k_chan, m_node, m_pair, m_msg, m_chan, m_pack, e_w, e_wn, e_ws]; rfl
  | true =>
    simp (disch := first | omega | (simp only [pN, pP, pM, pE, pL, pC, pK, sp]; omega)) only [u_fX0_blockOf, u_fX0_blockOf_0, kp, hp, b2_t, kl, e_T, e_F, e_bnd, e_obr, e_obd, e_obt, e_addB, e_addA, e_in, e_cl, e_leT, e_leF, e_ltT, e_ltF, e_eqT, e_eqF, e_NOT, e_NOF, nI_add, pk_mul, k_spot, k_chan, m_node, m_pair, m_msg, m_chan, m_pack, e_w, e_wn, e_ws]; rfl
theorem m_block_lp {n m : Nat} (h : R0 dr tk pl N G M T B Q Dl σ ω) (hn : n < 6) (hm : m < M) : ∀ r i f, i + r = M → r < f → fX12_blockOf_22 (sq u 1 ω) f (nI n) (nI m) (oI (gO (bP σ n m) σ n i)) (nI i) = some (oI (gO (bP σ n m) σ n M)) := by
  have hM := h.1.1.2.2.1
  have z3 := h.1.2.2.2.1.2
  intro r
  induction r with
  | zero =>
    intro i f hi hf
    obtain ⟨f, rfl⟩ : ∃ g, f = g + 1 := ⟨f - 1, by omega⟩
    have hi : i = M := by omega
    rw [hi]
    simp (disch := first | omega | (simp only [pN, pP, pM, pE, pL, pC, pK, sp]; omega)) only [u_fX12_blockOf_22, m_messages, z3, e_T, e_F, e_bnd, e_obr, e_obd, e_obt, e_addB, e_addA, e_in, e_cl, e_leT, e_leF, e_ltT, e_ltF, e_eqT, e_eqF, e_NOT, e_NOF, nI_add, pk_mul, k_spot, k_chan, m_node, m_pair, m_msg, m_chan, m_pack, e_w, e_wn, e_ws]
  | succ r ih =>
    intro i f hi hf
    obtain ⟨f, rfl⟩ : ∃ g, f = g + 1 := ⟨f - 1, by omega⟩
    have ih := ih (i + 1) f (by omega) (by omega)
    rw [gO_s] at ih
    have h65 : ∀ b : Bool, bP σ n m i = b → fX12_blockOf_65 (fun a0 a1 a2 a3 => fX12_blockOf_22 (sq u 1 ω) f a0 a1 a2 a3) (nI n) (nI m) (oI (gO (bP σ n m) σ n i)) (nI i) (b2 b) (sq u 1 ω) = some (oI (gO (bP σ n m) σ n M)) := by
      intro b hb
      cases b with
      | false =>
        rw [if_neg (by rw [hb]; simp)] at ih
        simp (disch := first | omega | (simp only [pN, pP, pM, pE, pL, pC, pK, sp]; omega)) only [u_fX12_blockOf_65, u_fX12_blockOf_91, b2_f, e_T, e_F, e_bnd, e_obr, e_obd, e_obt, e_addB, e_addA, e_in, e_cl, e_leT, e_leF, e_ltT, e_ltF, e_eqT, e_eqF, e_NOT, e_NOF, nI_add, pk_mul, k_spot, k_chan, m_node, m_pair, m_msg, m_chan, m_pack, e_w, e_wn, e_ws]
        exact ih
      | true =>
        rw [if_pos hb] at ih
        cases hl : gO (bP σ n m) σ n i with
        | none =>
          rw [hl] at ih
          simp (disch := first | omega | (simp only [pN, pP, pM, pE, pL, pC, pK, sp]; omega)) only [u_fX12_blockOf_65, u_fX12_blockOf_88, u_fX12_blockOf_91, b2_t, oI, e_T, e_F, e_bnd, e_obr, e_obd, e_obt, e_addB, e_addA, e_in, e_cl, e_leT, e_leF, e_ltT, e_ltF, e_eqT, e_eqF, e_NOT, e_NOF, nI_add, pk_mul, k_spot, k_chan, m_node, m_pair, m_msg, m_chan, m_pack, e_w, e_wn, e_ws]
          exact ih
        | some j =>
          have hj := (gO_some hl).1
          rw [hl] at ih
          have e1 : upO σ n i (some j) = if σ 21 (sp n i) < σ 21 (sp n j) then some i else some j := rfl
          rw [e1] at ih
          have hah := m_isAhead (u := u) (n := n) (a := i) (b := j) h hn (by omega) (by omega)
          rw [decide_eq_false (show ¬ i < j by omega), Bool.and_false, Bool.or_false] at hah
          simp (disch := first | omega | (simp only [pN, pP, pM, pE, pL, pC, pK, sp]; omega)) only [u_fX12_blockOf_65, u_fX12_blockOf_88, u_fX12_blockOf_91, b2_t, oI, hah, e_T, e_F, e_bnd, e_obr, e_obd, e_obt, e_addB, e_addA, e_in, e_cl, e_leT, e_leF, e_ltT, e_ltF, e_eqT, e_eqF, e_NOT, e_NOF, nI_add, pk_mul, k_spot, k_chan, m_node, m_pair, m_msg, m_chan, m_pack, e_w, e_wn, e_ws]
          by_cases hlt : σ 21 (sp n i) < σ 21 (sp n j)
          · rw [if_pos hlt] at ih
            rw [decide_eq_true hlt, e_b2T rfl]; exact ih
          · rw [if_neg hlt] at ih
            rw [decide_eq_false hlt, e_b2F rfl]; exact ih
    simp (disch := first | omega | (simp only [pN, pP, pM, pE, pL, pC, pK, sp]; omega)) only [u_fX12_blockOf_22, u_fX12_blockOf_60, u_fX12_blockOf_64, m_messages, z3, m_ofPair, w_kind h, e_T, e_F, e_bnd, e_obr, e_obd, e_obt, e_addB, e_addA, e_in, e_cl, e_leT, e_leF, e_ltT, e_ltF, e_eqT, e_eqF, e_NOT, e_NOF, nI_add, pk_mul, k_spot, k_chan, m_node, m_pair, m_msg, m_chan, m_pack, e_w, e_wn, e_ws]
    by_cases hk : σ 20 (sp n i) = nI 1
    · rw [cnd_pos hk]
      by_cases him : i = m
      · subst him
        rw [e_eqT rfl]
        exact h65 true (by unfold bP lsr; rw [decide_eq_true hk]; simp)
      · rw [e_eqF him (by omega) (by omega)]
        have hah := m_isAhead (u := u) (n := n) (a := i) (b := m) h hn (by omega) (by omega)
        rw [hah, e_obr]
        have hl : (decide (σ 21 (sp n i) < σ 21 (sp n m)) || (decide (σ 21 (sp n i) = σ 21 (sp n m)) && decide (i < m))) = bP σ n m i := by
          unfold bP lsr
          rw [decide_eq_true hk, Bool.true_and]
          congr 2
          exact decide_eq_decide.mpr ⟨fun _ => by omega, fun _ => by omega⟩
        rw [hl]
        cases hb : bP σ n m i with
        | false => rw [e_b2F rfl]; exact h65 false hb
        | true => rw [e_b2T rfl]; exact h65 true hb
    · rw [cnd_neg hk]
      exact h65 false (by unfold bP; rw [decide_eq_false hk]; rfl)
theorem m_block {n m : Nat} (h : R0 dr tk pl N G M T B Q Dl σ ω) (hn : n < 6) (hm : m < M) : fX12_blockOf (nI n) (nI m) (sq u 1 ω) = some (oI (blk σ M n m)) := by
  have hM := h.1.1.2.2.1
  obtain ⟨⟨k, k1, k2, k3, -⟩, -⟩ := h.2.2.1 n m hn (by omega)
  have hpk := pend_k k1 k2
  have kl := m_block_lp (u := u) h hn hm M 0 FU (by omega) (by show M < 100000; omega)
  have kl : fX12_blockOf_22 (sq u 1 ω) FU (nI n) (nI m) NO (nI 0) = some (oI (gO (bP σ n m) σ n M)) := kl
  unfold blk
  cases hp : pend σ n m with
  | false =>
    rw [hp] at hpk
    simp (disch := first | omega | (simp only [pN, pP, pM, pE, pL, pC, pK, sp]; omega)) only [u_fX12_blockOf, u_fX12_blockOf_0, m_ofPair, k3, m_in12 k1, ← hpk, b2_f, e_T, e_F, e_bnd, e_obr, e_obd, e_obt, e_addB, e_addA, e_in, e_cl, e_leT, e_leF, e_ltT, e_ltF, e_eqT, e_eqF, e_NOT, e_NOF, nI_add, pk_mul, k_spot, k_chan, m_node, m_pair, m_msg, m_chan, m_pack, e_w, e_wn, e_ws]; rfl
  | true =>
    rw [hp] at hpk
    simp (disch := first | omega | (simp only [pN, pP, pM, pE, pL, pC, pK, sp]; omega)) only [u_fX12_blockOf, u_fX12_blockOf_0, m_ofPair, k3, m_in12 k1, ← hpk, b2_t, kl, e_T, e_F, e_bnd, e_obr, e_obd, e_obt, e_addB, e_addA, e_in, e_cl, e_leT, e_leF, e_ltT, e_ltF, e_eqT, e_eqF, e_NOT, e_NOF, nI_add, pk_mul, k_spot, k_chan, m_node, m_pair, m_msg, m_chan, m_pack, e_w, e_wn, e_ws]; rfl
theorem o_block (h : R0 dr tk pl N G M T B Q Dl σ ω) (x1 x2 : Int32) : QR [0] kk2 (fX11_block x1 x2 σ) (fX12_block x1 x2 (sq u 1 ω)) σ u ω := by
  have h6 := h.1.1.1
  have hM20 := h.1.1.2.2.1
  rcases ck_pair h x1 x2 with ⟨n, m, hn, hm, rfl, rfl, k1, k2, m1⟩ | ⟨k1, m1⟩
  · have kb := k_block (σ := σ) (n := n) h.1.2.2.2.1.1 (by omega) hM20 hm
    have mb := m_block (u := s2 u 0 0 (nI 0)) (n := n) h (by omega) hm
    refine QR_val (r := oI (blk σ M n m)) ?_ ?_
    · simp (disch := first | omega | (simp only [pN, pP, pM, pE, pL, pC, pK, sp]; omega)) only [u_fX11_block, u_fX11_block_0, k1, k2, e_sbTN, kb, e_obxl, e_T, e_F, e_bnd, e_obr, e_obd, e_obt, e_addB, e_addA, e_in, e_cl, e_leT, e_leF, e_ltT, e_ltF, e_eqT, e_eqF, e_NOT, e_NOF, nI_add, pk_mul, k_spot, k_chan, m_node, m_pair, m_msg, m_chan, m_pack, e_w, e_wn, e_ws]
    · simp (disch := first | omega | (simp only [pN, pP, pM, pE, pL, pC, pK, sp]; omega)) only [u_fX12_block, u_fX12_block_0, m1, mb, m_thr0, e_ws0, e_T, e_F, e_bnd, e_obr, e_obd, e_obt, e_addB, e_addA, e_in, e_cl, e_leT, e_leF, e_ltT, e_ltF, e_eqT, e_eqF, e_NOT, e_NOF, nI_add, pk_mul, k_spot, k_chan, m_node, m_pair, m_msg, m_chan, m_pack, e_w, e_wn, e_ws]
  · refine QR_thr (r := nI 0) 0 (by decide) ?_ ?_
    · rw [u_fX11_block, u_fX11_block_0, k1]
    · simp (disch := first | omega | (simp only [pN, pP, pM, pE, pL, pC, pK, sp]; omega)) only [u_fX12_block, u_fX12_block_0, m1, e_T, e_F, e_bnd, e_obr, e_obd, e_obt, e_addB, e_addA, e_in, e_cl, e_leT, e_leF, e_ltT, e_ltF, e_eqT, e_eqF, e_NOT, e_NOF, nI_add, pk_mul, k_spot, k_chan, m_node, m_pair, m_msg, m_chan, m_pack, e_w, e_wn, e_ws]; rfl
/-! whom a message waits for -/
def wW (N : Nat) (σ : Sg) (m n : Nat) : Int32 := setOf (fun o => bt (σ 15 m) o && (!ntB σ o && !bt (σ 27 (sp n m)) o)) N
def wS (N : Nat) (σ : Sg) (m : Nat) : Nat → Int32
  | 0 => NO
  | k + 1 => if (upB σ k && !decide (σ 27 (sp k m) = NO)) = true then (if wS N σ m k = NO then wW N σ m k else wS N σ m k ||| wW N σ m k) else wS N σ m k
theorem wS_s {m k : Nat} : wS N σ m (k + 1) = if (upB σ k && !decide (σ 27 (sp k m) = NO)) = true then (if wS N σ m k = NO then wW N σ m k else wS N σ m k ||| wW N σ m k) else wS N σ m k := rfl
theorem n0_or (x : Int32) : nI 0 ||| x = x := Int32.zero_or
theorem k_waits_lp {m : Nat} (h : R0 dr tk pl N G M T B Q Dl σ ω) (hm : m < M) : ∀ r i f, i + r = N → r < f → fX0_waitsOf_22 σ f (nI m) (wS N σ m i) (σ 15 m &&& (setOf (ntB σ) N ^^^ NO)) (nI i) = some (wS N σ m N) := by
  have h6 := h.1.1.1
  have hM := h.1.1.2.2.1
  have z1 := h.1.2.1.1
  have hto := ((h.2.2.2.2.1 m (by omega)).2.1 hm).2.1
  intro r
  induction r with
  | zero =>
    intro i f hi hf
    obtain ⟨f, rfl⟩ : ∃ g, f = g + 1 := ⟨f - 1, by omega⟩
    have hi : i = N := by omega
    rw [hi]
    simp (disch := first | omega | (simp only [pN, pP, pM, pE, pL, pC, pK, sp]; omega)) only [u_fX0_waitsOf_22, z1, e_T, e_F, e_bnd, e_obr, e_obd, e_obt, e_addB, e_addA, e_in, e_cl, e_leT, e_leF, e_ltT, e_ltF, e_eqT, e_eqF, e_NOT, e_NOF, nI_add, pk_mul, k_spot, k_chan, m_node, m_pair, m_msg, m_chan, m_pack, e_w, e_wn, e_ws]
  | succ r ih =>
    intro i f hi hf
    obtain ⟨f, rfl⟩ : ∃ g, f = g + 1 := ⟨f - 1, by omega⟩
    have ih := ih (i + 1) f (by omega) (by omega)
    rw [wS_s] at ih
    have hsp : sp i m < 120 := by unfold sp; omega
    have hup := k_isUp (σ := σ) (n := i) (by omega)
    have hW : (σ 15 m &&& (setOf (ntB σ) N ^^^ NO)) &&& (σ 27 (sp i m) ^^^ NO) = wW N σ m i := by
      apply b_ext
      intro j hj
      unfold wW
      rw [b_and, b_and, b_not _ hj, b_not _ hj, bt_setOf (by omega), bt_setOf (by omega)]
      by_cases hx : j < N
      · rw [decide_eq_true hx]; cases bt (σ 15 m) j <;> cases ntB σ j <;> cases bt (σ 27 (sp i m)) j <;> rfl
      · rw [hto j (by omega), decide_eq_false hx]; rfl
    simp (disch := first | omega | (simp only [pN, pP, pM, pE, pL, pC, pK, sp]; omega)) only [u_fX0_waitsOf_22, u_fX0_waitsOf_86, u_fX0_waitsOf_70, z1, hup, k_isOn, hW, n0_or, e_T, e_F, e_bnd, e_obr, e_obd, e_obt, e_addB, e_addA, e_in, e_cl, e_leT, e_leF, e_ltT, e_ltF, e_eqT, e_eqF, e_NOT, e_NOF, nI_add, pk_mul, k_spot, k_chan, m_node, m_pair, m_msg, m_chan, m_pack, e_w, e_wn, e_ws]
    cases h1 : upB σ i with
    | false =>
      rw [h1, Bool.false_and, if_neg (by decide)] at ih
      rw [e_b2F rfl]; exact ih
    | true =>
      rw [h1, Bool.true_and] at ih
      rw [e_b2T rfl]
      cases h2 : (!decide (σ 27 (sp i m) = NO)) with
      | false =>
        rw [h2, if_neg (by decide)] at ih
        rw [e_b2F rfl]; exact ih
      | true =>
        rw [h2, if_pos rfl] at ih
        rw [e_b2T rfl]
        by_cases h3 : wS N σ m i = NO
        · rw [if_pos h3] at ih
          rw [cnd_pos h3]; exact ih
        · rw [if_neg h3] at ih
          rw [cnd_neg h3]; exact ih
theorem k_waits {m : Nat} (h : R0 dr tk pl N G M T B Q Dl σ ω) (hm : m < M) : fX0_waitsOf (nI m) σ = some (wS N σ m N) := by
  have h6 := h.1.1.1
  have hM := h.1.1.2.2.1
  have kl := k_waits_lp h hm N 0 FU (by omega) (by show N < 100000; omega)
  have kl : fX0_waitsOf_22 σ FU (nI m) NO (σ 15 m &&& (setOf (ntB σ) N ^^^ NO)) (nI 0) = some (wS N σ m N) := kl
  simp (disch := first | omega | (simp only [pN, pP, pM, pE, pL, pC, pK, sp]; omega)) only [u_fX0_waitsOf, u_fX0_waitsOf_0, k_noticed h.1.2.1.1 h6, kl, e_T, e_F, e_bnd, e_obr, e_obd, e_obt, e_addB, e_addA, e_in, e_cl, e_leT, e_leF, e_ltT, e_ltF, e_eqT, e_eqF, e_NOT, e_NOF, nI_add, pk_mul, k_spot, k_chan, m_node, m_pair, m_msg, m_chan, m_pack, e_w, e_wn, e_ws]
theorem m_waits1 {m n : Nat} {x2 : Int32} {K : Int32 → Int32 → Int32 → Option Int32} (h : R0 dr tk pl N G M T B Q Dl σ ω) (hm : m < M) (hn : n < N) (hw : ω (pP n m 6) = σ 27 (sp n m)) : ∀ r i f, i + r = N → r < f → fX12_waitsOf_39 K (sq u 1 ω) f (nI m) x2 (nI n) (setOf (fun o => bt (σ 15 m) o && (!ntB σ o && !bt (σ 27 (sp n m)) o)) i) (nI i) = K (nI m) (if x2 = NO then wW N σ m n else x2 ||| wW N σ m n) (nI (n + 1)) := by
  have h6 := h.1.1.1
  have hM := h.1.1.2.2.1
  have z2 := h.1.2.1.2
  intro r
  induction r with
  | zero =>
    intro i f hi hf
    obtain ⟨f, rfl⟩ : ∃ g, f = g + 1 := ⟨f - 1, by omega⟩
    have hi : i = N := by omega
    rw [hi]
    simp (disch := first | omega | (simp only [pN, pP, pM, pE, pL, pC, pK, sp]; omega)) only [u_fX12_waitsOf_39, u_fX12_waitsOf_116, u_fX12_waitsOf_117, m_nodes, z2, e_T, e_F, e_bnd, e_obr, e_obd, e_obt, e_addB, e_addA, e_in, e_cl, e_leT, e_leF, e_ltT, e_ltF, e_eqT, e_eqF, e_NOT, e_NOF, nI_add, pk_mul, k_spot, k_chan, m_node, m_pair, m_msg, m_chan, m_pack, e_w, e_wn, e_ws]
    by_cases hx : x2 = NO
    · rw [cnd_pos hx, if_pos hx]; rfl
    · rw [cnd_neg hx, if_neg hx]; rfl
  | succ r ih =>
    intro i f hi hf
    obtain ⟨f, rfl⟩ : ∃ g, f = g + 1 := ⟨f - 1, by omega⟩
    have ih := ih (i + 1) f (by omega) (by omega)
    rw [setOf_s] at ih
    have hto := q_isTo (u := u) h.2.2.2.2.1 (m := m) (k := i) (by omega) (by omega)
    have hnt := q_isNoticed (u := u) h.1 h.2.1 (show i < N by omega)
    simp (disch := first | omega | (simp only [pN, pP, pM, pE, pL, pC, pK, sp]; omega)) only [u_fX12_waitsOf_39, u_fX12_waitsOf_92, u_fX12_waitsOf_93, m_nodes, z2, hto, hnt, m_ofPair, hw, k_holds2, or_n0, e_T, e_F, e_bnd, e_obr, e_obd, e_obt, e_addB, e_addA, e_in, e_cl, e_leT, e_leF, e_ltT, e_ltF, e_eqT, e_eqF, e_NOT, e_NOF, nI_add, pk_mul, k_spot, k_chan, m_node, m_pair, m_msg, m_chan, m_pack, e_w, e_wn, e_ws]
    cases h1 : bt (σ 15 m) i with
    | false =>
      rw [h1, Bool.false_and, if_neg (by decide)] at ih
      rw [e_b2F rfl]; exact ih
    | true =>
      rw [h1, Bool.true_and] at ih
      rw [e_b2T rfl]
      cases h2 : ntB σ i with
      | true =>
        rw [h2, Bool.not_true, Bool.false_and, if_neg (by decide)] at ih
        rw [e_b2T rfl]; exact ih
      | false =>
        rw [h2, Bool.not_false, Bool.true_and] at ih
        rw [e_b2F rfl]
        cases h3 : bt (σ 27 (sp n m)) i with
        | true =>
          rw [h3, Bool.not_true, if_neg (by decide)] at ih
          rw [e_b2T rfl]; exact ih
        | false =>
          rw [h3, Bool.not_false, if_pos rfl] at ih
          rw [e_b2F rfl]; exact ih
theorem m_waits_lp {m : Nat} (h : R0 dr tk pl N G M T B Q Dl σ ω) (hm : m < M) : ∀ r i f, i + r = N → r < f → fX12_waitsOf_4 (sq u 1 ω) f (nI m) (wS N σ m i) (nI i) = some (wS N σ m N) := by
  have h6 := h.1.1.1
  have hM := h.1.1.2.2.1
  have z2 := h.1.2.1.2
  intro r
  induction r with
  | zero =>
    intro i f hi hf
    obtain ⟨f, rfl⟩ : ∃ g, f = g + 1 := ⟨f - 1, by omega⟩
    have hi : i = N := by omega
    rw [hi]
    simp (disch := first | omega | (simp only [pN, pP, pM, pE, pL, pC, pK, sp]; omega)) only [u_fX12_waitsOf_4, m_nodes, z2, e_T, e_F, e_bnd, e_obr, e_obd, e_obt, e_addB, e_addA, e_in, e_cl, e_leT, e_leF, e_ltT, e_ltF, e_eqT, e_eqF, e_NOT, e_NOF, nI_add, pk_mul, k_spot, k_chan, m_node, m_pair, m_msg, m_chan, m_pack, e_w, e_wn, e_ws]
  | succ r ih =>
    intro i f hi hf
    obtain ⟨f, rfl⟩ : ∃ g, f = g + 1 := ⟨f - 1, by omega⟩
    have ih := ih (i + 1) f (by omega) (by omega)
    rw [wS_s] at ih
    have hup' := q_isUp (u := u) h.2.1 h.1.1.2.2.2 h6 (show i < N by omega)
    cases h1 : upB σ i with
    | false =>
      rw [h1] at hup'
      rw [h1, Bool.false_and, if_neg (by decide)] at ih
      simp (disch := first | omega | (simp only [pN, pP, pM, pE, pL, pC, pK, sp]; omega)) only [u_fX12_waitsOf_4, u_fX12_waitsOf_117, m_nodes, z2, hup', b2_f, e_T, e_F, e_bnd, e_obr, e_obd, e_obt, e_addB, e_addA, e_in, e_cl, e_leT, e_leF, e_ltT, e_ltF, e_eqT, e_eqF, e_NOT, e_NOF, nI_add, pk_mul, k_spot, k_chan, m_node, m_pair, m_msg, m_chan, m_pack, e_w, e_wn, e_ws]
      exact ih
    | true =>
      rw [h1] at hup'
      rw [h1, Bool.true_and] at ih
      rcases on_off h (show i < 6 by omega) (show m < 20 by omega) with ⟨g1, g2⟩ | ⟨g1, g2, g3⟩
      · rw [decide_eq_true g1, Bool.not_true, if_neg (by decide)] at ih
        simp (disch := first | omega | (simp only [pN, pP, pM, pE, pL, pC, pK, sp]; omega)) only [u_fX12_waitsOf_4, u_fX12_waitsOf_117, m_nodes, z2, hup', b2_t, m_ofPair, g2, e_T, e_F, e_bnd, e_obr, e_obd, e_obt, e_addB, e_addA, e_in, e_cl, e_leT, e_leF, e_ltT, e_ltF, e_eqT, e_eqF, e_NOT, e_NOF, nI_add, pk_mul, k_spot, k_chan, m_node, m_pair, m_msg, m_chan, m_pack, e_w, e_wn, e_ws]
        exact ih
      · rw [decide_eq_false g1, Bool.not_false, if_pos rfl] at ih
        have m39 := m_waits1 (u := u) (x2 := wS N σ m i) (K := fun a0 a1 a2 => fX12_waitsOf_4 (sq u 1 ω) f a0 a1 a2) h hm (show i < N by omega) g3 N 0 FU (by omega) (by show N < 100000; omega)
        have m39 : fX12_waitsOf_39 (fun a0 a1 a2 => fX12_waitsOf_4 (sq u 1 ω) f a0 a1 a2) (sq u 1 ω) FU (nI m) (wS N σ m i) (nI i) (nI 0) (nI 0) = _ := m39
        simp (disch := first | omega | (simp only [pN, pP, pM, pE, pL, pC, pK, sp]; omega)) only [u_fX12_waitsOf_4, u_fX12_waitsOf_117, m_nodes, z2, hup', b2_t, m_ofPair, g2, e_T, e_F, e_bnd, e_obr, e_obd, e_obt, e_addB, e_addA, e_in, e_cl, e_leT, e_leF, e_ltT, e_ltF, e_eqT, e_eqF, e_NOT, e_NOF, nI_add, pk_mul, k_spot, k_chan, m_node, m_pair, m_msg, m_chan, m_pack, e_w, e_wn, e_ws]
        rw [m39]
        exact ih
theorem m_waits {m : Nat} (h : R0 dr tk pl N G M T B Q Dl σ ω) (hm : m < M) : fX12_waitsOf (nI m) (sq u 1 ω) = some (wS N σ m N) := by
  have h6 := h.1.1.1
  exact m_waits_lp h hm N 0 FU (by omega) (by show N < 100000; omega)
theorem o_waits (h : R0 dr tk pl N G M T B Q Dl σ ω) (x1 : Int32) : QR [0] kk2 (fX11_waits x1 σ) (fX12_waits x1 (sq u 1 ω)) σ u ω := by
  have hM20 := h.1.1.2.2.1
  rcases ck_msg h.1.2.2.2.1.1 h.1.2.2.2.1.2 hM20 x1 with ⟨m, hm, rfl, k1, m1⟩ | ⟨k1, m1⟩
  · have ka := k_waits h hm
    have ma := m_waits (u := s2 u 0 0 (nI 0)) h hm
    refine QR_val (r := wS N σ m N) ?_ ?_
    · simp (disch := first | omega | (simp only [pN, pP, pM, pE, pL, pC, pK, sp]; omega)) only [u_fX11_waits, u_fX11_waits_0, k1, e_sbTN, ka, e_obxl, e_T, e_F, e_bnd, e_obr, e_obd, e_obt, e_addB, e_addA, e_in, e_cl, e_leT, e_leF, e_ltT, e_ltF, e_eqT, e_eqF, e_NOT, e_NOF, nI_add, pk_mul, k_spot, k_chan, m_node, m_pair, m_msg, m_chan, m_pack, e_w, e_wn, e_ws]
    · simp (disch := first | omega | (simp only [pN, pP, pM, pE, pL, pC, pK, sp]; omega)) only [u_fX12_waits, u_fX12_waits_0, m1, ma, m_thr0, e_ws0, e_T, e_F, e_bnd, e_obr, e_obd, e_obt, e_addB, e_addA, e_in, e_cl, e_leT, e_leF, e_ltT, e_ltF, e_eqT, e_eqF, e_NOT, e_NOF, nI_add, pk_mul, k_spot, k_chan, m_node, m_pair, m_msg, m_chan, m_pack, e_w, e_wn, e_ws]
  · refine QR_thr (r := nI 0) 0 (by decide) ?_ ?_
    · simp (disch := first | omega | (simp only [pN, pP, pM, pE, pL, pC, pK, sp]; omega)) only [u_fX11_waits, u_fX11_waits_0, k1, e_obxl, e_obxr, e_T, e_F, e_bnd, e_obr, e_obd, e_obt, e_addB, e_addA, e_in, e_cl, e_leT, e_leF, e_ltT, e_ltF, e_eqT, e_eqF, e_NOT, e_NOF, nI_add, pk_mul, k_spot, k_chan, m_node, m_pair, m_msg, m_chan, m_pack, e_w, e_wn, e_ws]
    · simp (disch := first | omega | (simp only [pN, pP, pM, pE, pL, pC, pK, sp]; omega)) only [u_fX12_waits, u_fX12_waits_0, m1, m_thr0, m_thr1, e_ws0, e_ss, e_T, e_F, e_bnd, e_obr, e_obd, e_obt, e_addB, e_addA, e_in, e_cl, e_leT, e_leF, e_ltT, e_ltF, e_eqT, e_eqF, e_NOT, e_NOF, nI_add, pk_mul, k_spot, k_chan, m_node, m_pair, m_msg, m_chan, m_pack, e_w, e_wn, e_ws]; rfl
end BL
