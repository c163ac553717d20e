/-! who is ahead of whom -/
def anyF (P : Nat → Bool) : Nat → Nat → Bool
  | 0, _ => false
  | r + 1, k => P k || anyF P r (k + 1)
theorem anyF_f {P : Nat → Bool} : ∀ {r k : Nat}, (∀ i, k ≤ i → i < k + r → P i = false) → anyF P r k = false
  | 0, _, _ => rfl
  | r + 1, k, h => by
    unfold anyF
    rw [h k (by omega) (by omega), Bool.false_or]
    exact anyF_f (fun i h1 h2 => h i (by omega) (by omega))
def pmI : Nat → Int32
  | 0 => NO
  | p + 1 => nI p
theorem pm_sub (p : Nat) : nI p - nI 1 = pmI p := by
  cases p with
  | zero => rfl
  | succ p => rw [pk_sub (by omega)]; rfl
theorem pm_add (p : Nat) : nI p + NO = pmI p := by
  rw [← pm_sub, Int32.sub_eq_add_neg]; rfl
def wst (k : Nat) (A : Nat → Int32) : Nat → Int32 := fun i => if bt (A i) k = true then A i ||| A k else A i
def wal : Nat → Nat → (Nat → Int32) → Nat → Int32
  | 0, _, A => A
  | r + 1, k, A => wal r (k + 1) (wst k A)
theorem wst_k (k : Nat) (A : Nat → Int32) : wst k A k = A k := by
  unfold wst; split
  · exact Int32.or_self
  · rfl
theorem wal_cg {n : Nat} : ∀ {r k : Nat} {A A' : Nat → Int32}, k + r ≤ n → (∀ i, i < n → A i = A' i) → ∀ i, i < n → wal r k A i = wal r k A' i
  | 0, _, _, _, _, h, i, hi => h i hi
  | r + 1, k, A, A', hk, h, i, hi => by
    show wal r (k + 1) (wst k A) i = wal r (k + 1) (wst k A') i
    refine wal_cg (n := n) (by omega) (fun j hj => ?_) i hi
    unfold wst; rw [h j hj, h k (by omega)]
theorem wal_add : ∀ {r s k : Nat} {A : Nat → Int32}, wal (r + s) k A = wal s (k + r) (wal r k A)
  | 0, s, k, A => by rw [Nat.zero_add]; rfl
  | r + 1, s, k, A => by
    rw [show r + 1 + s = (r + s) + 1 from by omega]
    show wal (r + s) (k + 1) (wst k A) = wal s (k + (r + 1)) (wal r (k + 1) (wst k A))
    rw [wal_add, show k + 1 + r = k + (r + 1) from by omega]
theorem wal_no {n m : Nat} : ∀ {r k : Nat} {A : Nat → Int32}, m ≤ k → k + r ≤ n → (∀ i, i < n → ∀ j, m ≤ j → bt (A i) j = false) → ∀ i, i < n → wal r k A i = A i
  | 0, _, _, _, _, _, _, _ => rfl
  | r + 1, k, A, hm, hk, h, i, hi => by
    have e : ∀ i, i < n → wst k A i = A i := fun i hi => by unfold wst; rw [if_neg (by rw [h i hi k hm]; decide)]
    show wal r (k + 1) (wst k A) i = A i
    rw [wal_no (n := n) (m := m) (by omega) (by omega) (fun i hi j hj => by rw [e i hi]; exact h i hi j hj) i hi, e i hi]
theorem wal_bits {n m : Nat} : ∀ {r k : Nat} {A : Nat → Int32}, k + r ≤ n → (∀ i, i < n → ∀ j, m ≤ j → bt (A i) j = false) → ∀ i, i < n → ∀ j, m ≤ j → bt (wal r k A i) j = false
  | 0, _, _, _, h => h
  | r + 1, k, A, hk, h => by
    show ∀ i, i < n → ∀ j, m ≤ j → bt (wal r (k + 1) (wst k A) i) j = false
    refine wal_bits (by omega) (fun i hi j hj => ?_)
    unfold wst; split
    · rw [b_or, h i hi j hj, h k (by omega) j hj]; rfl
    · exact h i hi j hj
section OR
variable {dr : Prop} {tk : Int32} {pl N G M T B : Nat} {Q : Qs} {Dl : Nat → List Nat} {σ u : Sg} {ω : Nat → Int32}
theorem k_war_in {k : Nat} (hk : k < 20) {K : Int32 → Sg → Option Sg} : ∀ (r j f : Nat) (u : Sg), j + r = 20 → r < f → ∃ u', fX8_read_109 K f (nI k) (nI j) u = K (nI (k + 1)) u' ∧ (∀ q, q ≠ 37 → u' q = u q) ∧ ∀ i, i < 20 → u' 37 i = if j ≤ i then wst k (u 37) i else u 37 i := by
  intro r
  induction r with
  | zero =>
    intro j f u hj hf
    obtain ⟨f, rfl⟩ : ∃ g, f = g + 1 := ⟨f - 1, by omega⟩
    refine ⟨u, ?_, fun _ _ => rfl, fun i hi => by rw [if_neg (by omega)]⟩
    simp (disch := first | omega | (simp only [pN, pP, pM, pE, pL, pC, pK, sp]; omega)) only [u_fX8_read_109, e_T, e_F, e_bnd, e_obr, e_obd, e_obt, e_addB, e_addA, e_in, e_cl, e_leT, e_leF, e_ltT, e_ltF, e_eqT, e_eqF, e_NOT, e_NOF, nI_add, pk_mul, k_spot, k_chan, m_node, m_pair, m_msg, m_chan, m_pack, e_w, e_wn, e_ws]
  | succ r ih =>
    intro j f u hj hf
    obtain ⟨f, rfl⟩ : ∃ g, f = g + 1 := ⟨f - 1, by omega⟩
    cases hb : bt (u 37 j) k with
    | false =>
      obtain ⟨u', e1, e2, e3⟩ := ih (j + 1) f u (by omega) (by omega)
      refine ⟨u', ?_, e2, fun i hi => ?_⟩
      · rw [← e1]
        simp (disch := first | omega | (simp only [pN, pP, pM, pE, pL, pC, pK, sp]; omega)) only [u_fX8_read_109, u_fX8_read_143, k_isIn2, hb, b2_f, e_T, e_F, e_bnd, e_obr, e_obd, e_obt, e_addB, e_addA, e_in, e_cl, e_leT, e_leF, e_ltT, e_ltF, e_eqT, e_eqF, e_NOT, e_NOF, nI_add, pk_mul, k_spot, k_chan, m_node, m_pair, m_msg, m_chan, m_pack, e_w, e_wn, e_ws]
      · rw [e3 i hi]
        by_cases e : i = j
        · subst e
          rw [if_neg (by omega), if_pos (by omega)]
          unfold wst; rw [if_neg (by rw [hb]; decide)]
        · by_cases hji : j ≤ i
          · rw [if_pos (by omega), if_pos hji]
          · rw [if_neg (by omega), if_neg hji]
    | true =>
      obtain ⟨u', e1, e2, e3⟩ := ih (j + 1) f (s2 u 37 j (u 37 j ||| u 37 k)) (by omega) (by omega)
      have ek : s2 u 37 j (u 37 j ||| u 37 k) 37 k = u 37 k := by
        rw [e_s2]
        by_cases e : k = j
        · subst e; rw [pk_us]; exact Int32.or_self
        · rw [pk_un e]
      refine ⟨u', ?_, fun q hq => by rw [e2 q hq, e_s2n _ _ _ hq], fun i hi => ?_⟩
      · rw [← e1]
        simp (disch := first | omega | (simp only [pN, pP, pM, pE, pL, pC, pK, sp]; omega)) only [u_fX8_read_109, u_fX8_read_143, k_isIn2, hb, b2_t, e_T, e_F, e_bnd, e_obr, e_obd, e_obt, e_addB, e_addA, e_in, e_cl, e_leT, e_leF, e_ltT, e_ltF, e_eqT, e_eqF, e_NOT, e_NOF, nI_add, pk_mul, k_spot, k_chan, m_node, m_pair, m_msg, m_chan, m_pack, e_w, e_wn, e_ws]
      · rw [e3 i hi]
        by_cases e : i = j
        · subst e
          rw [if_neg (by omega), if_pos (by omega), e_s2, pk_us]
          unfold wst; rw [if_pos hb]
        · by_cases hji : j ≤ i
          · rw [if_pos (by omega), if_pos hji]
            unfold wst; rw [ek, e_s2, pk_un e]
          · rw [if_neg (by omega), if_neg hji, e_s2, pk_un e]
theorem k_war : ∀ (r k f : Nat) (u : Sg), k + r = 20 → r < f → ∃ u', fX8_read_101 f (nI k) u = some u' ∧ (∀ q, q ≠ 37 → u' q = u q) ∧ ∀ i, i < 20 → u' 37 i = wal r k (u 37) i := by
  intro r
  induction r with
  | zero =>
    intro k f u hk hf
    obtain ⟨f, rfl⟩ : ∃ g, f = g + 1 := ⟨f - 1, by omega⟩
    refine ⟨u, ?_, fun _ _ => rfl, fun i hi => rfl⟩
    simp (disch := first | omega | (simp only [pN, pP, pM, pE, pL, pC, pK, sp]; omega)) only [u_fX8_read_101, e_T, e_F, e_bnd, e_obr, e_obd, e_obt, e_addB, e_addA, e_in, e_cl, e_leT, e_leF, e_ltT, e_ltF, e_eqT, e_eqF, e_NOT, e_NOF, nI_add, pk_mul, k_spot, k_chan, m_node, m_pair, m_msg, m_chan, m_pack, e_w, e_wn, e_ws]
  | succ r ih =>
    intro k f u hk hf
    obtain ⟨f, rfl⟩ : ∃ g, f = g + 1 := ⟨f - 1, by omega⟩
    obtain ⟨u1, a1, a2, a3⟩ := k_war_in (show k < 20 by omega) (K := fun a0 w => fX8_read_101 f a0 w) 20 0 FU u (by omega) (by show 20 < 100000; omega)
    obtain ⟨u', e1, e2, e3⟩ := ih (k + 1) f u1 (by omega) (by omega)
    refine ⟨u', ?_, fun q hq => by rw [e2 q hq, a2 q hq], fun i hi => ?_⟩
    · rw [← e1]
      simp (disch := first | omega | (simp only [pN, pP, pM, pE, pL, pC, pK, sp]; omega)) only [u_fX8_read_101, a1, e_T, e_F, e_bnd, e_obr, e_obd, e_obt, e_addB, e_addA, e_in, e_cl, e_leT, e_leF, e_ltT, e_ltF, e_eqT, e_eqF, e_NOT, e_NOF, nI_add, pk_mul, k_spot, k_chan, m_node, m_pair, m_msg, m_chan, m_pack, e_w, e_wn, e_ws]
    · rw [e3 i hi]
      show wal r (k + 1) (u1 37) i = wal r (k + 1) (wst k (u 37)) i
      exact wal_cg (n := 20) (by omega) (fun j hj => by rw [a3 j hj, if_pos (by omega)]) i hi
theorem e_wsx (u : Sg) (ω : Nat → Int32) {q j : Nat} {x : Int32} (h : q ≠ 1) : s2 (sq u 1 ω) q j x = sq (s2 u q j x) 1 ω := by
  funext p
  by_cases e1 : p = 1
  · subst e1; rw [e_s2n _ _ _ (fun q => h q.symm), e_w, e_w]
  · by_cases e8 : p = q
    · subst e8; rw [e_s2, e_wn _ _ e1, e_wn _ _ e1, e_s2]
    · rw [e_s2n _ _ _ e8, e_wn _ _ e1, e_wn _ _ e1, e_s2n _ _ _ e8]
theorem m_war_in (z3 : ω 3 = nI M) (hM : M ≤ 20) {k : Nat} (hk : k < M) {K : Int32 → Sg → Option Sg} : ∀ (r j f : Nat) (u : Sg), j + r = M → r < f → ∃ u', fX12_laysAheads_93 K f (nI k) (nI j) (sq u 1 ω) = K (nI (k + 1)) (sq u' 1 ω) ∧ (∀ q, q ≠ 9 → u' q = u q) ∧ ∀ i, i < M → u' 9 i = if j ≤ i then wst k (u 9) i else u 9 i := by
  intro r
  induction r with
  | zero =>
    intro j f u hj hf
    obtain ⟨f, rfl⟩ : ∃ g, f = g + 1 := ⟨f - 1, by omega⟩
    refine ⟨u, ?_, fun _ _ => rfl, fun i hi => by rw [if_neg (by omega)]⟩
    simp (disch := first | omega | (simp only [pN, pP, pM, pE, pL, pC, pK, sp]; omega)) only [u_fX12_laysAheads_93, m_messages, z3, e_T, e_F, e_bnd, e_obr, e_obd, e_obt, e_addB, e_addA, e_in, e_cl, e_leT, e_leF, e_ltT, e_ltF, e_eqT, e_eqF, e_NOT, e_NOF, nI_add, pk_mul, k_spot, k_chan, m_node, m_pair, m_msg, m_chan, m_pack, e_w, e_wn, e_ws]
  | succ r ih =>
    intro j f u hj hf
    obtain ⟨f, rfl⟩ : ∃ g, f = g + 1 := ⟨f - 1, by omega⟩
    have w9 : sq u 1 ω 9 = u 9 := e_wn _ _ (by omega)
    obtain ⟨u', e1, e2, e3⟩ := ih (j + 1) f (s2 u 9 j (wst k (u 9) j)) (by omega) (by omega)
    have ek : s2 u 9 j (wst k (u 9) j) 9 k = u 9 k := by
      rw [e_s2]
      by_cases e : k = j
      · subst e; rw [pk_us]; exact wst_k _ _
      · rw [pk_un e]
    refine ⟨u', ?_, fun q hq => by rw [e2 q hq, e_s2n _ _ _ hq], fun i hi => ?_⟩
    · rw [← e1]
      cases hb : bt (u 9 j) k with
      | false =>
        have ew : wst k (u 9) j = u 9 j := if_neg (by rw [hb]; decide)
        rw [ew]
        simp (disch := first | omega | (simp only [pN, pP, pM, pE, pL, pC, pK, sp]; omega)) only [u_fX12_laysAheads_93, u_fX12_laysAheads_131, m_messages, z3, w9, k_holds2, hb, b2_f, or_n0, e_wsx, ne_eq, not_false_eq_true, e_T, e_F, e_bnd, e_obr, e_obd, e_obt, e_addB, e_addA, e_in, e_cl, e_leT, e_leF, e_ltT, e_ltF, e_eqT, e_eqF, e_NOT, e_NOF, nI_add, pk_mul, k_spot, k_chan, m_node, m_pair, m_msg, m_chan, m_pack, e_w, e_wn, e_ws]
      | true =>
        have ew : wst k (u 9) j = u 9 j ||| u 9 k := if_pos hb
        rw [ew]
        simp (disch := first | omega | (simp only [pN, pP, pM, pE, pL, pC, pK, sp]; omega)) only [u_fX12_laysAheads_93, u_fX12_laysAheads_131, m_messages, z3, w9, k_holds2, hb, b2_t, e_wsx, ne_eq, not_false_eq_true, e_T, e_F, e_bnd, e_obr, e_obd, e_obt, e_addB, e_addA, e_in, e_cl, e_leT, e_leF, e_ltT, e_ltF, e_eqT, e_eqF, e_NOT, e_NOF, nI_add, pk_mul, k_spot, k_chan, m_node, m_pair, m_msg, m_chan, m_pack, e_w, e_wn, e_ws]
    · rw [e3 i hi]
      by_cases e : i = j
      · subst e
        rw [if_neg (by omega), if_pos (by omega), e_s2, pk_us]
      · by_cases hji : j ≤ i
        · rw [if_pos (by omega), if_pos hji]
          show (if bt (s2 u 9 j (wst k (u 9) j) 9 i) k = true then s2 u 9 j (wst k (u 9) j) 9 i ||| s2 u 9 j (wst k (u 9) j) 9 k else s2 u 9 j (wst k (u 9) j) 9 i) = _
          rw [ek, show s2 u 9 j (wst k (u 9) j) 9 i = u 9 i from by rw [e_s2, pk_un e]]; rfl
        · rw [if_neg (by omega), if_neg hji, e_s2, pk_un e]
theorem m_war (z3 : ω 3 = nI M) (hM : M ≤ 20) : ∀ (r k f : Nat) (u : Sg), k + r = M → r < f → ∃ u', fX12_laysAheads_83 f (nI k) (sq u 1 ω) = some (sq u' 1 ω) ∧ (∀ q, q ≠ 9 → u' q = u q) ∧ ∀ i, i < M → u' 9 i = wal r k (u 9) i := by
  intro r
  induction r with
  | zero =>
    intro k f u hk hf
    obtain ⟨f, rfl⟩ : ∃ g, f = g + 1 := ⟨f - 1, by omega⟩
    refine ⟨u, ?_, fun _ _ => rfl, fun i hi => rfl⟩
    simp (disch := first | omega | (simp only [pN, pP, pM, pE, pL, pC, pK, sp]; omega)) only [u_fX12_laysAheads_83, m_messages, z3, e_T, e_F, e_bnd, e_obr, e_obd, e_obt, e_addB, e_addA, e_in, e_cl, e_leT, e_leF, e_ltT, e_ltF, e_eqT, e_eqF, e_NOT, e_NOF, nI_add, pk_mul, k_spot, k_chan, m_node, m_pair, m_msg, m_chan, m_pack, e_w, e_wn, e_ws]
  | succ r ih =>
    intro k f u hk hf
    obtain ⟨f, rfl⟩ : ∃ g, f = g + 1 := ⟨f - 1, by omega⟩
    obtain ⟨u1, a1, a2, a3⟩ := m_war_in z3 hM (show k < M by omega) (K := fun a0 w => fX12_laysAheads_83 f a0 w) M 0 FU u (by omega) (by show M < 100000; omega)
    obtain ⟨u', e1, e2, e3⟩ := ih (k + 1) f u1 (by omega) (by omega)
    refine ⟨u', ?_, fun q hq => by rw [e2 q hq, a2 q hq], fun i hi => ?_⟩
    · rw [← e1]
      simp (disch := first | omega | (simp only [pN, pP, pM, pE, pL, pC, pK, sp]; omega)) only [u_fX12_laysAheads_83, m_messages, z3, a1, e_T, e_F, e_bnd, e_obr, e_obd, e_obt, e_addB, e_addA, e_in, e_cl, e_leT, e_leF, e_ltT, e_ltF, e_eqT, e_eqF, e_NOT, e_NOF, nI_add, pk_mul, k_spot, k_chan, m_node, m_pair, m_msg, m_chan, m_pack, e_w, e_wn, e_ws]
    · rw [e3 i hi]
      show wal r (k + 1) (u1 9) i = wal r (k + 1) (wst k (u 9)) i
      exact wal_cg (n := M) (by omega) (fun j hj => by rw [a3 j hj, if_pos (by omega)]) i hi
end OR
