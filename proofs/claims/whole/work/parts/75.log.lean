/-! stamps; the log on both sides -/
theorem e_dec (k : Nat) : nI (k + 1) + NO = nI k := pk_m1 k
theorem num_NO : num NO = NO := cnd_pos (α := Int32) (P := NO = NO) rfl
theorem nod_NO : nod NO = NO := cnd_pos (α := Int32) (P := NO = NO) rfl
theorem num_v {a b : Nat} (hb : b < 8) (ha : a < 100000) : num (nI (8 * a + b)) = nI a := by
  show fX11_numberOf _ = _
  rw [u_fX11_numberOf, u_fX11_numberOf_0, e_NOF (by omega), pk_shrN (by omega) _ 3 (s_l 3 (by omega))]
  congr 1; omega
theorem nod_v {a b : Nat} (hb : b < 8) (ha : a < 100000) : nod (nI (8 * a + b)) = nI b := by
  show fX11_nodeOf _ = _
  rw [u_fX11_nodeOf, u_fX11_nodeOf_0, e_NOF (by omega), pk_andN (by omega) 3 (by decide +kernel)]
  congr 1; omega
theorem stamp_v {a b : Nat} (hb : b < 8) (ha : a < 100000) : fX11_stampOf (nI a) (nI b) = nI (8 * a + b) := by
  rw [u_fX11_stampOf, u_fX11_stampOf_0, pk_shlN _ 3 (s_l 3 (by omega)) (by omega), Nat.mul_comm a]
  exact fa_or_sum a (k := 3) (by omega)
theorem vS_NO {B : Nat} {s : Int32} (h : vS B s) (hB : B < 100000) : s ≠ NO := by
  obtain ⟨a, b, h1, h2, rfl⟩ := h
  exact NO_ne (by omega)
theorem lt_st {B : Nat} {s s' : Int32} (hB : B < 100000) (h : oS B s) (h' : vS B s') : fX12_isLess (num s) (nod s) (num s') (nod s') = b2 (decide (s < s')) := by
  obtain ⟨a', b', z1, z2, rfl⟩ := h'
  rw [num_v (by omega) (by omega), nod_v (by omega) (by omega), u_fX12_isLess, u_fX12_isLess_0, u_fX12_isLess_15]
  rcases h with rfl | ⟨a, b, y1, y2, rfl⟩
  · rw [num_NO, cnd_pos (NO_lt (by omega)), decide_eq_true (NO_lt (by omega))]; rfl
  · rw [num_v (by omega) (by omega), nod_v (by omega) (by omega)]
    rcases Nat.lt_trichotomy a a' with g | g | g
    · rw [e_ltT g (by omega), decide_eq_true (nI_lt (by omega) (by omega))]; rfl
    · subst g
      rw [e_ltF (Nat.le_refl _) (by omega), e_eqT rfl]
      rcases Nat.lt_or_ge b b' with g | g
      · rw [e_leF g (by omega), decide_eq_true (nI_lt (by omega) (by omega))]; rfl
      · rw [e_leT g (by omega), decide_eq_false (nI_nlt (by omega) (by omega))]; rfl
    · rw [e_ltF (by omega) (by omega), e_eqF (by omega) (by omega) (by omega), decide_eq_false (nI_nlt (by omega) (by omega))]; rfl
theorem st_eq {B : Nat} {s s' : Int32} (hB : B < 100000) (h : vS B s) (h' : vS B s') : (num s = num s' ∧ nod s = nod s') ↔ s = s' := by
  obtain ⟨a, b, y1, y2, rfl⟩ := h
  obtain ⟨a', b', z1, z2, rfl⟩ := h'
  rw [num_v (by omega) (by omega), nod_v (by omega) (by omega), num_v (by omega) (by omega), nod_v (by omega) (by omega), nI_eq (by omega) (by omega), nI_eq (by omega) (by omega), nI_eq (by omega) (by omega)]
  omega
theorem m_told_lp {u : Sg} {x1 x2 x3 : Int32} : ∀ (k f : Nat) (ω : Nat → Int32), k + 3 ≤ 239 → k < f → ∃ ω', fX12_isTold_5 f x1 x2 x3 (nI (k + 3)) (sq u 1 ω) = some (sq u 1 ω') ∧ (∀ j, 4 ≤ j → j ≤ k + 3 → ω' (1619 + j) = ω (1615 + j)) ∧ (∀ j, k + 3 < j → ω' (1619 + j) = ω (1619 + j)) ∧ (ω' 1619 = ω 4 ∧ ω' 1620 = x1 ∧ ω' 1621 = x2 ∧ ω' 1622 = x3) ∧ ω' 9 = (if ω 9 + nI 1 < nI 60 then ω 9 + nI 1 else nI 60) ∧ ∀ i, i < 1619 → i ≠ 9 → ω' i = ω i := by
  intro k
  induction k with
  | zero =>
    intro f ω h1 h2
    obtain ⟨f, rfl⟩ : ∃ g, f = g + 1 := ⟨f - 1, by omega⟩
    simp (disch := first | omega | (simp only [pN, pP, pM, pE, pL, pC, pK, sp]; omega)) only [u_fX12_isTold_5, e_T, e_F, e_bnd, e_obr, e_obd, e_obt, e_addB, e_addA, e_in, e_cl, e_leT, e_leF, e_ltT, e_ltF, e_eqT, e_eqF, e_NOT, e_NOF, nI_add, pk_mul, k_spot, k_chan, m_node, m_pair, m_msg, m_chan, m_pack, e_w, e_wn, e_ws, pk_un]
    refine ⟨_, rfl, fun j h1 h2 => by omega, fun j hj => ?_, ⟨?_, ?_, ?_, ?_⟩, ?_, fun i hi h9 => ?_⟩
    all_goals simp (disch := first | omega | (simp only [pN, pP, pM, pE, pL, pC, pK, sp]; omega)) only [e_s2, e_s2n, pk_us, pk_un]
  | succ k ih =>
    intro f ω h1 h2
    obtain ⟨f, rfl⟩ : ∃ g, f = g + 1 := ⟨f - 1, by omega⟩
    obtain ⟨ω', g1, g2, g3, g4, g5, g6⟩ := ih f (upd ω (1619 + (k + 3 + 1)) (ω (1619 + (k + 3 + 1) - 4))) (by omega) (by omega)
    refine ⟨ω', ?_, fun j h1 h2 => ?_, fun j hj => ?_, ?_, ?_, fun i hi h9 => ?_⟩
    · rw [show k + 1 + 3 = k + 3 + 1 from by omega]
      simp (disch := first | omega | (simp only [pN, pP, pM, pE, pL, pC, pK, sp]; omega)) only [u_fX12_isTold_5, e_dec, pk_sub, e_T, e_F, e_bnd, e_obr, e_obd, e_obt, e_addB, e_addA, e_in, e_cl, e_leT, e_leF, e_ltT, e_ltF, e_eqT, e_eqF, e_NOT, e_NOF, nI_add, pk_mul, k_spot, k_chan, m_node, m_pair, m_msg, m_chan, m_pack, e_w, e_wn, e_ws]
      exact g1
    · by_cases e : j = k + 3 + 1
      · subst e
        rw [g3 _ (by omega), pk_us]
        congr 1; omega
      · rw [g2 j h1 (by omega), pk_un (by omega)]
    · rw [g3 j (by omega), pk_un (by omega)]
    · rw [pk_un (by omega)] at g4; exact g4
    · rw [pk_un (by omega)] at g5; exact g5
    · rw [g6 i hi h9, pk_un (by omega)]
theorem m_told {u : Sg} {x1 x2 x3 : Int32} {ω : Nat → Int32} : ∃ ω', fX12_isTold x1 x2 x3 (sq u 1 ω) = some (sq u 1 ω') ∧ (∀ j, 4 ≤ j → j ≤ 239 → ω' (1619 + j) = ω (1615 + j)) ∧ (∀ j, 239 < j → ω' (1619 + j) = ω (1619 + j)) ∧ (ω' 1619 = ω 4 ∧ ω' 1620 = x1 ∧ ω' 1621 = x2 ∧ ω' 1622 = x3) ∧ ω' 9 = (if ω 9 + nI 1 < nI 60 then ω 9 + nI 1 else nI 60) ∧ ∀ i, i < 1619 → i ≠ 9 → ω' i = ω i :=
  m_told_lp 236 FU ω (by omega) (by show 236 < 100000; omega)
/-- the class's log, with one row more -/
theorem k_log {σ : Sg} {t x1 x2 x3 : Int32} {st nx : Nat} (h1 : st ≤ 60) (h2 : nx < 60) (h3 : σ 34 0 = nI st) (h4 : σ 34 1 = nI nx) : ∃ σ', fX5_add t x1 x2 x3 σ = some σ' ∧ fc [34, 35] σ σ' ∧ σ' 34 0 = nI (if st < 60 then st + 1 else 60) ∧ σ' 34 1 = nI ((nx + 1) % 60) ∧ (σ' 35 (4 * nx) = t ∧ σ' 35 (4 * nx + 1) = x1 ∧ σ' 35 (4 * nx + 2) = x2 ∧ σ' 35 (4 * nx + 3) = x3) ∧ ∀ i, (i < 4 * nx ∨ 4 * nx + 4 ≤ i) → σ' 35 i = σ 35 i := by
  have h5 : nI nx * nI 4 = nI (4 * nx) := by rw [pk_mul, Nat.mul_comm]
  have h6 : (if nI 60 < nI (st + 1) then nI 60 else nI (st + 1)) = nI (if st < 60 then st + 1 else 60) := by
    by_cases g : st < 60
    · rw [if_pos g, if_neg (nI_nlt (by omega) (by omega))]
    · rw [if_neg g, if_pos (nI_lt (by omega) (by omega))]
  simp (disch := first | omega | (simp only [pN, pP, pM, pE, pL, pC, pK, sp]; omega)) only [u_fX5_add, u_fX5_add_0, h4, h5, e_T, e_F, e_bnd, e_obr, e_obd, e_obt, e_addB, e_addA, e_in, e_cl, e_leT, e_leF, e_ltT, e_ltF, e_eqT, e_eqF, e_NOT, e_NOF, nI_add, pk_mul, k_spot, k_chan, m_node, m_pair, m_msg, m_chan, m_pack, e_w, e_wn, e_ws, e_s2, e_s2n, pk_us, pk_un, pk_rem, h3, h6]
  refine ⟨_, rfl, ?_, ?_, ?_, ⟨?_, ?_, ?_, ?_⟩, fun i hi => ?_⟩
  · intro q hq
    have a1 : q ≠ 34 := fun e => hq (by rw [e]; decide)
    have a2 : q ≠ 35 := fun e => hq (by rw [e]; decide)
    simp (disch := first | omega | (simp only [pN, pP, pM, pE, pL, pC, pK, sp]; omega)) only [e_s2, e_s2n, pk_us, pk_un]
  all_goals simp (disch := first | omega | (simp only [pN, pP, pM, pE, pL, pC, pK, sp]; omega)) only [e_s2, e_s2n, pk_us, pk_un]
/-- what the log's row leaves as it was in the model's -/
def fwL (ω ω' : Nat → Int32) : Prop := ∀ i, i ≠ 9 → (i < 1619 ∨ 1859 ≤ i) → ω' i = ω i
def kL (σ σ' : Sg) (t x1 x2 x3 : Int32) : Prop := ∃ st nx, st ≤ 60 ∧ nx < 60 ∧ σ 34 0 = nI st ∧ σ 34 1 = nI nx ∧ σ' 34 0 = nI (if st < 60 then st + 1 else 60) ∧ σ' 34 1 = nI ((nx + 1) % 60) ∧ (σ' 35 (4 * nx) = t ∧ σ' 35 (4 * nx + 1) = x1 ∧ σ' 35 (4 * nx + 2) = x2 ∧ σ' 35 (4 * nx + 3) = x3) ∧ ∀ i, (i < 4 * nx ∨ 4 * nx + 4 ≤ i) → σ' 35 i = σ 35 i
def mL (ω ω' : Nat → Int32) (x1 x2 x3 : Int32) : Prop := (∀ j, 4 ≤ j → j ≤ 239 → ω' (1619 + j) = ω (1615 + j)) ∧ (ω' 1619 = ω 4 ∧ ω' 1620 = x1 ∧ ω' 1621 = x2 ∧ ω' 1622 = x3) ∧ ω' 9 = (if ω 9 + nI 1 < nI 60 then ω 9 + nI 1 else nI 60)
theorem kL_c {σ σ' τ τ' : Sg} {t x1 x2 x3 : Int32} (h : kL τ τ' t x1 x2 x3) (h1 : τ 34 = σ 34) (h2 : τ 35 = σ 35) (h3 : σ' 34 = τ' 34) (h4 : σ' 35 = τ' 35) : kL σ σ' t x1 x2 x3 := by unfold kL at h ⊢; rw [h1, h2] at h; rw [h3, h4]; exact h
theorem mL_c {ω ω' ψ ψ' : Nat → Int32} {x1 x2 x3 : Int32} (h : mL ψ ψ' x1 x2 x3) (h1 : ∀ i, i = 4 ∨ i = 9 ∨ (1619 ≤ i ∧ i < 1859) → ψ i = ω i) (h2 : ∀ i, i = 9 ∨ (1619 ≤ i ∧ i < 1859) → ω' i = ψ' i) : mL ω ω' x1 x2 x3 := by
  obtain ⟨a, ⟨b1, b2, b3, b4⟩, c⟩ := h
  refine ⟨fun j hj hj2 => ?_, ⟨?_, ?_, ?_, ?_⟩, ?_⟩
  · rw [h2 _ (by omega), a j hj hj2, h1 _ (by omega)]
  · rw [h2 _ (by omega), b1, h1 _ (by omega)]
  · rw [h2 _ (by omega), b2]
  · rw [h2 _ (by omega), b3]
  · rw [h2 _ (by omega), b4]
  · rw [h2 _ (by omega), c, h1 _ (by omega)]
theorem rL_log {dr : Prop} {σ σ' : Sg} {ω ω' : Nat → Int32} {x1 x2 x3 : Int32} (h : rL dr σ ω) (ht : σ 0 3 = ω 4) (hk : kL σ σ' (σ 0 3) x1 x2 x3) (hm : mL ω ω' x1 x2 x3) : rL dr σ' ω' := by
  obtain ⟨st, nx, a1, a2, a3, a4, k3, k4, ⟨k5, k6, k7, k8⟩, k9⟩ := hk
  obtain ⟨st', nx', a1', a2', a3', a4', a5⟩ := h
  have e1 : st' = st := (nI_eq (by omega) (by omega)).mp (a3'.symm.trans a3)
  have e2 : nx' = nx := (nI_eq (by omega) (by omega)).mp (a4'.symm.trans a4)
  subst e1 e2
  obtain ⟨m2, ⟨m4, m5, m6, m7⟩, m8⟩ := hm
  refine ⟨_, _, ?_, ?_, k3, k4, fun hd => ?_⟩
  · split <;> omega
  · omega
  · obtain ⟨b1, b2⟩ := a5 hd
    refine ⟨?_, fun a w ha hw => ?_⟩
    · rw [m8, b1, nI_add]
      by_cases g : st' < 60
      · rw [if_pos g]
        by_cases g2 : st' + 1 < 60
        · rw [if_pos (nI_lt (by omega) (by omega))]
        · rw [if_neg (nI_nlt (by omega) (by omega))]; congr 1; omega
      · rw [if_neg g, if_neg (nI_nlt (by omega) (by omega))]
    · cases a with
      | zero =>
        rw [show ((nx' + 1) % 60 + 119 - 0) % 60 = nx' from by omega]
        rcases (show w = 0 ∨ w = 1 ∨ w = 2 ∨ w = 3 by omega) with rfl | rfl | rfl | rfl
        · show ω' 1619 = σ' 35 (4 * nx'); rw [m4, k5, ht]
        · show ω' 1620 = σ' 35 (4 * nx' + 1); rw [m5, k6]
        · show ω' 1621 = σ' 35 (4 * nx' + 2); rw [m6, k7]
        · show ω' 1622 = σ' 35 (4 * nx' + 3); rw [m7, k8]
      | succ b =>
        have hb : b < st' ∧ b < 59 := by
          split at ha <;> omega
        rw [show pL (b + 1) w = 1619 + (4 * b + w + 4) from by unfold pL; omega, m2 _ (by omega) (by omega), show 1615 + (4 * b + w + 4) = pL b w from by unfold pL; omega, b2 b w hb.1 hw, k9 _ (by omega)]
        congr 2; omega
theorem k_log2 {dr : Prop} {σ : Sg} {ω : Nat → Int32} (t x1 x2 x3 : Int32) (h : rL dr σ ω) : ∃ σ', fX5_add t x1 x2 x3 σ = some σ' ∧ fc [34, 35] σ σ' ∧ kL σ σ' t x1 x2 x3 := by
  obtain ⟨st, nx, a1, a2, a3, a4, -⟩ := h
  obtain ⟨σ', k1, c, k3, k4, k5, k9⟩ := k_log (t := t) (x1 := x1) (x2 := x2) (x3 := x3) a1 a2 a3 a4
  exact ⟨σ', k1, c, st, nx, a1, a2, a3, a4, k3, k4, k5, k9⟩
theorem m_told2 {u : Sg} {ω : Nat → Int32} (x1 x2 x3 : Int32) : ∃ ω', fX12_isTold x1 x2 x3 (sq u 1 ω) = some (sq u 1 ω') ∧ fwL ω ω' ∧ mL ω ω' x1 x2 x3 := by
  obtain ⟨ω', m1, m2, m3, m4, m8, m9⟩ := m_told (u := u) (x1 := x1) (x2 := x2) (x3 := x3) (ω := ω)
  refine ⟨ω', m1, fun i h9 hi => ?_, m2, m4, m8⟩
  rcases hi with hi | hi
  · exact m9 i hi h9
  · have := m3 (i - 1619) (by omega)
    rw [show 1619 + (i - 1619) = i from by omega] at this
    exact this
section LOG
variable {dr : Prop} {tk : Int32} {pl N G M T B : Nat} {Q : Qs} {Dl : Nat → List Nat} {u σ : Sg} {ω : Nat → Int32}
theorem s_log (x1 x2 x3 : Int32) (h : R0 dr tk pl N G M T B Q Dl σ ω) (hl : ∀ c, c < 36 → (Q c).length ≤ 110) : ∃ σ' ω', fX5_add (σ 0 3) x1 x2 x3 σ = some σ' ∧ fX12_isTold x1 x2 x3 (sq u 1 ω) = some (sq u 1 ω') ∧ R0 dr tk pl N G M T B Q Dl σ' ω' ∧ fc [34, 35] σ σ' ∧ fwL ω ω' := by
  obtain ⟨hS, hN, hP, hD, hM, hE, hL, hC, hQ, hO, hB⟩ := h
  obtain ⟨σ', k1, c, k2⟩ := k_log2 (σ 0 3) x1 x2 x3 hL
  obtain ⟨ω', m1, fw, m2⟩ := m_told2 (u := u) (ω := ω) x1 x2 x3
  exact ⟨σ', ω', k1, m1, ⟨rS_fr hS (by rw [c 0 (by decide)]; exact ⟨rfl, rfl, rfl, rfl, rfl, rfl, rfl, rfl⟩) (fun g _ => by rw [c 1 (by decide)]) (by rw [c 13 (by decide)]) (fun i hi h7 h9 => fw _ (by first | omega | exact pP_pN (by omega) (by omega) (by omega) | exact (pP_pN (by omega) (by omega) (by omega)).symm | exact pP_pP (by omega) (by omega) (by omega) (by omega) (by omega) | (simp only [pN, pP, pM, pE, pL, pC, pK, sp]; omega)) (by first | omega | exact pP_pN (by omega) (by omega) (by omega) | exact (pP_pN (by omega) (by omega) (by omega)).symm | exact pP_pP (by omega) (by omega) (by omega) (by omega) (by omega) | (simp only [pN, pP, pM, pE, pL, pC, pK, sp]; omega))), rN_fr hN (fun n _ => by rw [c 2 (by decide), c 3 (by decide), c 4 (by decide)]; exact ⟨rfl, rfl, rfl⟩) (fun n w hn hw => fw _ (by first | omega | exact pP_pN (by omega) (by omega) (by omega) | exact (pP_pN (by omega) (by omega) (by omega)).symm | exact pP_pP (by omega) (by omega) (by omega) (by omega) (by omega) | (simp only [pN, pP, pM, pE, pL, pC, pK, sp]; omega)) (by first | omega | exact pP_pN (by omega) (by omega) (by omega) | exact (pP_pN (by omega) (by omega) (by omega)).symm | exact pP_pP (by omega) (by omega) (by omega) (by omega) (by omega) | (simp only [pN, pP, pM, pE, pL, pC, pK, sp]; omega))), rP_fr hP (fun i _ => by rw [c 20 (by decide), c 21 (by decide), c 22 (by decide), c 23 (by decide), c 27 (by decide), c 28 (by decide), c 29 (by decide)]; exact ⟨rfl, rfl, rfl, rfl, rfl, rfl, rfl⟩) (fun n m w hn hm hw => fw _ (by first | omega | exact pP_pN (by omega) (by omega) (by omega) | exact (pP_pN (by omega) (by omega) (by omega)).symm | exact pP_pP (by omega) (by omega) (by omega) (by omega) (by omega) | (simp only [pN, pP, pM, pE, pL, pC, pK, sp]; omega)) (by first | omega | exact pP_pN (by omega) (by omega) (by omega) | exact (pP_pN (by omega) (by omega) (by omega)).symm | exact pP_pP (by omega) (by omega) (by omega) (by omega) (by omega) | (simp only [pN, pP, pM, pE, pL, pC, pK, sp]; omega))), rD_fr hD (fun i _ => by rw [c 20 (by decide), c 24 (by decide), c 23 (by decide)]; exact ⟨rfl, rfl, rfl⟩) (fun n m _ _ => by rw [c 17 (by decide)]) (fun n _ => by rw [c 25 (by decide)]) (fun n w hn hw h4 => fw _ (by first | omega | exact pP_pN (by omega) (by omega) (by omega) | exact (pP_pN (by omega) (by omega) (by omega)).symm | exact pP_pP (by omega) (by omega) (by omega) (by omega) (by omega) | (simp only [pN, pP, pM, pE, pL, pC, pK, sp]; omega)) (by first | omega | exact pP_pN (by omega) (by omega) (by omega) | exact (pP_pN (by omega) (by omega) (by omega)).symm | exact pP_pP (by omega) (by omega) (by omega) (by omega) (by omega) | (simp only [pN, pP, pM, pE, pL, pC, pK, sp]; omega))), rM_fr hM (fun m _ => by rw [c 14 (by decide), c 15 (by decide), c 16 (by decide), c 17 (by decide), c 18 (by decide)]; exact ⟨rfl, rfl, rfl, rfl, rfl⟩) (fun m w hm hw => fw _ (by first | omega | exact pP_pN (by omega) (by omega) (by omega) | exact (pP_pN (by omega) (by omega) (by omega)).symm | exact pP_pP (by omega) (by omega) (by omega) (by omega) (by omega) | (simp only [pN, pP, pM, pE, pL, pC, pK, sp]; omega)) (by first | omega | exact pP_pN (by omega) (by omega) (by omega) | exact (pP_pN (by omega) (by omega) (by omega)).symm | exact pP_pP (by omega) (by omega) (by omega) (by omega) (by omega) | (simp only [pN, pP, pM, pE, pL, pC, pK, sp]; omega))), rE_fr hE (by rw [c 30 (by decide)]) (fun k _ => by rw [c 31 (by decide), c 32 (by decide), c 33 (by decide)]; exact ⟨rfl, rfl, rfl⟩) (fw _ (by first | omega | exact pP_pN (by omega) (by omega) (by omega) | exact (pP_pN (by omega) (by omega) (by omega)).symm | exact pP_pP (by omega) (by omega) (by omega) (by omega) (by omega) | (simp only [pN, pP, pM, pE, pL, pC, pK, sp]; omega)) (by first | omega | exact pP_pN (by omega) (by omega) (by omega) | exact (pP_pN (by omega) (by omega) (by omega)).symm | exact pP_pP (by omega) (by omega) (by omega) (by omega) (by omega) | (simp only [pN, pP, pM, pE, pL, pC, pK, sp]; omega))) (fun k w hk hw => fw _ (by first | omega | exact pP_pN (by omega) (by omega) (by omega) | exact (pP_pN (by omega) (by omega) (by omega)).symm | exact pP_pP (by omega) (by omega) (by omega) (by omega) (by omega) | (simp only [pN, pP, pM, pE, pL, pC, pK, sp]; omega)) (by first | omega | exact pP_pN (by omega) (by omega) (by omega) | exact (pP_pN (by omega) (by omega) (by omega)).symm | exact pP_pP (by omega) (by omega) (by omega) (by omega) (by omega) | (simp only [pN, pP, pM, pE, pL, pC, pK, sp]; omega))), rL_log hL (hS.2.2.2.2.1.1.trans hS.2.2.2.2.1.2.symm) k2 m2, rC_fr hC (fun x hx => Nat.le_trans (hl x hx) (by omega)) (fun x _ => by rw [c 6 (by decide), c 7 (by decide), c 8 (by decide)]; exact ⟨rfl, rfl, rfl⟩) (fun x w hx hw => fw _ (by first | omega | exact pP_pN (by omega) (by omega) (by omega) | exact (pP_pN (by omega) (by omega) (by omega)).symm | exact pP_pP (by omega) (by omega) (by omega) (by omega) (by omega) | (simp only [pN, pP, pM, pE, pL, pC, pK, sp]; omega)) (by first | omega | exact pP_pN (by omega) (by omega) (by omega) | exact (pP_pN (by omega) (by omega) (by omega)).symm | exact pP_pP (by omega) (by omega) (by omega) (by omega) (by omega) | (simp only [pN, pP, pM, pE, pL, pC, pK, sp]; omega))), hQ, rO_fr hO (by rw [c 5 (by decide)]; exact ⟨rfl, rfl⟩) (fun x _ => by rw [c 9 (by decide), c 11 (by decide), c 12 (by decide)]; exact ⟨rfl, rfl, rfl⟩) (fun i _ => by rw [c 10 (by decide)]), (by rw [cnt_fr (σ := σ) (fun i _ => by rw [c 20 (by decide)])]; exact hB)⟩, c, fw⟩
/-- the class's log alone, where the model's isn't looked at -/
theorem s_log1 (t x1 x2 x3 : Int32) (hd : ¬ dr) (h : R0 dr tk pl N G M T B Q Dl σ ω) (hl : ∀ c, c < 36 → (Q c).length ≤ 110) : ∃ σ', fX5_add t x1 x2 x3 σ = some σ' ∧ R0 dr tk pl N G M T B Q Dl σ' ω ∧ fc [34, 35] σ σ' := by
  obtain ⟨hS, hN, hP, hD, hM, hE, hL, hC, hQ, hO, hB⟩ := h
  obtain ⟨σ', k1, c, st, nx, a1, a2, a3, a4, k3, k4, -⟩ := k_log2 t x1 x2 x3 hL
  exact ⟨σ', k1, ⟨rS_fr hS (by rw [c 0 (by decide)]; exact ⟨rfl, rfl, rfl, rfl, rfl, rfl, rfl, rfl⟩) (fun g _ => by rw [c 1 (by decide)]) (by rw [c 13 (by decide)]) (fun i hi h7 h9 => rfl), rN_fr hN (fun n _ => by rw [c 2 (by decide), c 3 (by decide), c 4 (by decide)]; exact ⟨rfl, rfl, rfl⟩) (fun n w hn hw => rfl), rP_fr hP (fun i _ => by rw [c 20 (by decide), c 21 (by decide), c 22 (by decide), c 23 (by decide), c 27 (by decide), c 28 (by decide), c 29 (by decide)]; exact ⟨rfl, rfl, rfl, rfl, rfl, rfl, rfl⟩) (fun n m w hn hm hw => rfl), rD_fr hD (fun i _ => by rw [c 20 (by decide), c 24 (by decide), c 23 (by decide)]; exact ⟨rfl, rfl, rfl⟩) (fun n m _ _ => by rw [c 17 (by decide)]) (fun n _ => by rw [c 25 (by decide)]) (fun n w hn hw h4 => rfl), rM_fr hM (fun m _ => by rw [c 14 (by decide), c 15 (by decide), c 16 (by decide), c 17 (by decide), c 18 (by decide)]; exact ⟨rfl, rfl, rfl, rfl, rfl⟩) (fun m w hm hw => rfl), rE_fr hE (by rw [c 30 (by decide)]) (fun k _ => by rw [c 31 (by decide), c 32 (by decide), c 33 (by decide)]; exact ⟨rfl, rfl, rfl⟩) (rfl) (fun k w hk hw => rfl), ⟨_, _, by split <;> omega, by omega, k3, k4, fun q => absurd q hd⟩, rC_fr hC (fun x hx => Nat.le_trans (hl x hx) (by omega)) (fun x _ => by rw [c 6 (by decide), c 7 (by decide), c 8 (by decide)]; exact ⟨rfl, rfl, rfl⟩) (fun x w hx hw => rfl), hQ, rO_fr hO (by rw [c 5 (by decide)]; exact ⟨rfl, rfl⟩) (fun x _ => by rw [c 9 (by decide), c 11 (by decide), c 12 (by decide)]; exact ⟨rfl, rfl, rfl⟩) (fun i _ => by rw [c 10 (by decide)]), (by rw [cnt_fr (σ := σ) (fun i _ => by rw [c 20 (by decide)])]; exact hB)⟩, c⟩
end LOG
