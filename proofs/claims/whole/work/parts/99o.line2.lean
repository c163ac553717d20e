/-! line, both sides together -/
theorem anyF_t {P : Nat → Bool} : ∀ {r k : Nat}, anyF P r k = true → ∃ i, k ≤ i ∧ i < k + r ∧ P i = true
  | 0, _, h => by cases h
  | r + 1, k, h => by
    have h : (P k || anyF P r (k + 1)) = true := h
    cases e : P k with
    | true => exact ⟨k, by omega, by omega, e⟩
    | false =>
      rw [e, Bool.false_or] at h
      obtain ⟨i, a, b, c⟩ := anyF_t h
      exact ⟨i, by omega, by omega, c⟩
theorem anyF_i {P : Nat → Bool} {r k i : Nat} (h1 : k ≤ i) (h2 : i < k + r) (h : P i = true) : anyF P r k = true := by
  cases e : anyF P r k with
  | true => rfl
  | false =>
    exfalso
    revert e h1 h2
    induction r generalizing k with
    | zero => intro h1 h2; omega
    | succ r ih =>
      intro h1 h2 e
      have e : (P k || anyF P r (k + 1)) = false := e
      by_cases ei : i = k
      · subst ei; rw [h, Bool.true_or] at e; cases e
      · have : anyF P r (k + 1) = false := by
          cases q : anyF P r (k + 1) with
          | false => rfl
          | true => rw [q, Bool.or_true] at e; cases e
        exact ih (by omega) (by omega) this
theorem bt_rem {S : Int32} {j : Nat} (hj : j < 32) (i : Nat) : bt (rem S (nI j)) i = (bt S i && !decide (i = j)) := by
  by_cases hi : i < 32
  · unfold rem; rw [b_and, b_not _ hi, b_sh1 hj]
  · rw [b_big (by omega), b_big (by omega)]; rfl
theorem cn_rem {S : Int32} {j : Nat} (hj : j < 20) (h : bt S j = true) : cn20 S = cn20 (rem S (nI j)) + 1 := by
  unfold cn20
  have := sumL_upd (f := fun i => i01 (bt S i)) (g := fun i => i01 (bt (rem S (nI j)) i)) hj (fun i hi hne => by
    show i01 (bt (rem S (nI j)) i) = i01 (bt S i)
    rw [bt_rem (by omega), decide_eq_false hne, Bool.not_false, Bool.and_true])
  have e1 : i01 (bt S j) = 1 := by rw [h]; rfl
  have e2 : i01 (bt (rem S (nI j)) j) = 0 := by rw [bt_rem (by omega), decide_eq_true rfl, Bool.not_true, Bool.and_false]; rfl
  rw [e1, e2] at this
  omega
theorem cn_0 {S : Int32} {m : Nat} (hm : m ≤ 20) (hb : ∀ i, m ≤ i → bt S i = false) (h : cn20 S = 0) : S = nI 0 := by
  refine x_zero (fun i _ => ?_)
  by_cases hi : i < 20
  · have := sumL_ge (f := fun i => i01 (bt S i)) hi
    cases e : bt S i with
    | false => rfl
    | true =>
      exfalso
      have e1 : i01 (bt S i) = 1 := by rw [e]; rfl
      unfold cn20 at h
      rw [h] at this
      have this : i01 (bt S i) ≤ 0 := this
      omega
  · exact hb i (by omega)
theorem cn_z : cn20 (nI 0) = 0 := sumL_0 (fun i _ => by rw [b_n0]; rfl)
/-- the next one, on both sides -/
theorem nx_eq {R R' : Nat → Int32} {S : Int32} {M : Nat} (hM : M ≤ 20) (hR : ∀ y, y < M → R y = R' y) (hb : ∀ i, M ≤ i → bt S i = false) (hS : S ≠ nI 0) : ∃ j, j < M ∧ bt S j = true ∧ nxI R S = nI j ∧ ∀ {α : Type} (f : Int32 → α), cnd (oI (lw (cdP R' M S) M 0) = NO) (f (fJ6_numberOfTrailingZeros_0f7a4 S)) (f (oI (lw (cdP R' M S) M 0))) = f (nI j) := by
  have ec : ∀ x, x < M → cdP R 20 S x = cdP R' M S x := fun x hx => by
    unfold cdP
    congr 2
    have e1 : anyF (bhP R S x) 20 0 = anyF (bhP R S x) M 0 := by
      have := anyF_more (P := bhP R S x) (r := M) (s := 20 - M) (k := 0) (fun i h1 _ => by unfold bhP; rw [hb i (by omega), Bool.false_and, Bool.and_false])
      rw [show M + (20 - M) = 20 from by omega] at this
      exact this
    rw [e1]
    exact anyF_cg (fun i _ h2 => by unfold bhP; rw [hR i (by omega)])
  have el : lw (cdP R 20 S) 20 0 = lw (cdP R' M S) M 0 := by
    have := lw_more (P := cdP R 20 S) (r := M) (s := 20 - M) (k := 0) (fun i h1 _ => by unfold cdP; rw [hb i (by omega), Bool.false_and])
    rw [show M + (20 - M) = 20 from by omega] at this
    rw [this]
    exact lw_cg (fun i _ h2 => ec i (by omega))
  cases hl : lw (cdP R' M S) M 0 with
  | some x =>
    obtain ⟨-, x2, x3, -⟩ := lw_some hl
    have hx : bt S x = true := by
      unfold cdP at x3
      cases e : bt S x with
      | true => rfl
      | false => rw [e, Bool.false_and] at x3; cases x3
    refine ⟨x, by omega, hx, ?_, fun f => ?_⟩
    · unfold nxI; rw [el, hl]
    · rw [show oI (some x) = nI x from rfl, cnd_neg (NO_ne (by omega)).symm.symm]
  | none =>
    cases hj : lw (bt S) 20 0 with
    | none =>
      exfalso
      refine hS (x_zero (fun i _ => ?_))
      by_cases hi : i < 20
      · exact lw_none' hj i (by omega) (by omega)
      · exact hb i (by omega)
    | some j =>
      obtain ⟨-, j2, j3, j4⟩ := lw_some hj
      have hjM : j < M := Nat.lt_of_not_le (fun q => by rw [hb j q] at j3; cases j3)
      refine ⟨j, hjM, j3, ?_, fun f => ?_⟩
      · unfold nxI; rw [el, hl, hj]; rfl
      · rw [show oI none = NO from rfl, cnd_pos rfl, tz (by omega) j3 (fun i hi => j4 i (by omega) hi)]
def plV (R : Nat → Int32) (x1 : Int32) : Nat → Nat → Int32 → Int32
  | 0, _, _ => NO
  | c + 1, p, S => if x1 = nI p then nxI R S else plV R x1 c (p + 1) (rem S (nxI R S))
theorem plV_s {R : Nat → Int32} {x1 : Int32} {c p : Nat} {S : Int32} : plV R x1 (c + 1) p S = if x1 = nI p then nxI R S else plV R x1 c (p + 1) (rem S (nxI R S)) := rfl
theorem plV_no {R : Nat → Int32} {x1 : Int32} : ∀ {c p : Nat} {S : Int32}, (∀ i, i < c → x1 ≠ nI (p + i)) → plV R x1 c p S = NO
  | 0, _, _, _ => rfl
  | c + 1, p, S, h => by
    have h0 : x1 ≠ nI p := h 0 (by omega)
    show (if x1 = nI p then nxI R S else plV R x1 c (p + 1) (rem S (nxI R S))) = NO
    rw [if_neg h0]
    exact plV_no (fun i hi => by rw [show p + 1 + i = p + (i + 1) from by omega]; exact h (i + 1) (by omega))
section LJ
variable {dr : Prop} {tk : Int32} {pl N G M T B : Nat} {Q : Qs} {Dl : Nat → List Nat} {σ u : Sg} {ω : Nat → Int32}
theorem k_placed {x1 : Int32} (hM : M ≤ 20) : ∀ (c p f : Nat) (S : Int32), cn20 S = c → p + c ≤ 20 → c < f → (∀ i, M ≤ i → bt S i = false) → fX8_placed_7 u f x1 S (nI p) = some (plV (u 37) x1 c p S) := by
  intro c
  induction c with
  | zero =>
    intro p f S hc hp hf hb
    obtain ⟨f, rfl⟩ : ∃ g, f = g + 1 := ⟨f - 1, by omega⟩
    have := cn_0 hM hb hc
    subst this
    by_cases e : p = 20
    · subst e; simp (disch := first | omega | (simp only [pN, pP, pM, pE, pL, pC, pK, sp]; omega)) only [u_fX8_placed_7, plV, e_T, e_F, e_bnd, e_obr, e_obd, e_obt, e_addB, e_addA, e_in, e_cl, e_leT, e_leF, e_ltT, e_ltF, e_eqT, e_eqF, e_NOT, e_NOF, nI_add, pk_mul, k_spot, k_chan, m_node, m_pair, m_msg, m_chan, m_pack, e_w, e_wn, e_ws]
    · simp (disch := first | omega | (simp only [pN, pP, pM, pE, pL, pC, pK, sp]; omega)) only [u_fX8_placed_7, plV, e_T, e_F, e_bnd, e_obr, e_obd, e_obt, e_addB, e_addA, e_in, e_cl, e_leT, e_leF, e_ltT, e_ltF, e_eqT, e_eqF, e_NOT, e_NOF, nI_add, pk_mul, k_spot, k_chan, m_node, m_pair, m_msg, m_chan, m_pack, e_w, e_wn, e_ws]
  | succ c ih =>
    intro p f S hc hp hf hb
    obtain ⟨f, rfl⟩ : ∃ g, f = g + 1 := ⟨f - 1, by omega⟩
    have hS : S ≠ nI 0 := fun q => by rw [q, cn_z] at hc; omega
    obtain ⟨j, j1, j2, j3, -⟩ := nx_eq (R := u 37) hM (fun _ _ => rfl) hb hS
    have kn := k_next (u := u) S
    have hr := cn_rem (show j < 20 by omega) j2
    have I := ih (p + 1) f (rem S (nI j)) (by omega) (by omega) (by omega) (fun i hi => by rw [bt_rem (by omega), hb i hi]; rfl)
    show _ = some (if x1 = nI p then nxI (u 37) S else plV (u 37) x1 c (p + 1) (rem S (nxI (u 37) S)))
    rw [j3] at kn ⊢
    by_cases e : x1 = nI p
    · subst e
      rw [if_pos rfl]
      simp (disch := first | omega | (simp only [pN, pP, pM, pE, pL, pC, pK, sp]; omega)) only [u_fX8_placed_7, cnd_neg hS, kn, e_T, e_F, e_bnd, e_obr, e_obd, e_obt, e_addB, e_addA, e_in, e_cl, e_leT, e_leF, e_ltT, e_ltF, e_eqT, e_eqF, e_NOT, e_NOF, nI_add, pk_mul, k_spot, k_chan, m_node, m_pair, m_msg, m_chan, m_pack, e_w, e_wn, e_ws]
    · rw [if_neg e, ← I]
      unfold rem
      simp (disch := first | omega | (simp only [pN, pP, pM, pE, pL, pC, pK, sp]; omega)) only [u_fX8_placed_7, cnd_neg hS, kn, cnd_neg (fun q => e (Eq.symm q)), e_T, e_F, e_bnd, e_obr, e_obd, e_obt, e_addB, e_addA, e_in, e_cl, e_leT, e_leF, e_ltT, e_ltF, e_eqT, e_eqF, e_NOT, e_NOF, nI_add, pk_mul, k_spot, k_chan, m_node, m_pair, m_msg, m_chan, m_pack, e_w, e_wn, e_ws]
theorem m_pick (z3 : ω 3 = nI M) (hM : M ≤ 20) {R : Nat → Int32} (hR : ∀ y, y < M → R y = u 9 y) {S x1 x4 : Int32} (hb : ∀ i, M ≤ i → bt S i = false) (hS : S ≠ nI 0) (K : Int32 → Int32 → Int32 → Int32 → Sg → Option (Int32 × Sg)) {j : Nat} (hj : nxI R S = nI j) : fX12_line_82 K FU x1 S NO x4 (pmI M) (sq u 1 ω) = fX12_line_132 K x1 S x4 (nI j) (sq u 1 ω) := by
  obtain ⟨j', j1, j2, j3, j4⟩ := nx_eq (R := R) (R' := u 9) hM hR hb hS
  have h82 := m_next82 (u := u) z3 hM (S := S) (x1 := x1) (x4 := x4) (K := K) M FU (Nat.le_refl _) (by show M < 100000; omega)
  rw [Nat.sub_self, show lw (cdP (u 9) M S) 0 M = none from rfl, show oI none = NO from rfl] at h82
  rw [h82, ← hj, j3]
  exact j4 (fun t => fX12_line_132 K x1 S x4 t (sq u 1 ω))
theorem m_line_s (z3 : ω 3 = nI M) (hM : M ≤ 20) {R : Nat → Int32} (hR : ∀ y, y < M → R y = u 9 y) {S x3 : Int32} (hb : ∀ i, M ≤ i → bt S i = false) (hS : S ≠ nI 0) {j j0 p f : Nat} (hj : nxI R S = nI j) (hj0 : j0 < 20) (hp : p ≤ j0) : fX12_line_66 (f + 1) (nI j0) S x3 (nI p) (sq u 1 ω) = fX12_line_66 f (nI j0) (rem S (nI j)) (nI j) (nI (p + 1)) (sq u 1 ω) := by
  rw [u_fX12_line_66, cnd_neg (nI_nlt (by omega) (by omega)), m_messages, z3, e_obr, e_bnd, pm_sub, m_pick z3 hM hR hb hS _ hj, u_fX12_line_132, e_bnd, e_bnd, nI_add]
  rfl
theorem m_line66 (z3 : ω 3 = nI M) (hM : M ≤ 20) {R : Nat → Int32} (hR : ∀ y, y < M → R y = u 9 y) {j0 : Nat} (hj0 : j0 < 20) : ∀ (d p c f : Nat) (S x3 : Int32), p + d = j0 → d < c → cn20 S = c → d + 1 < f → (∀ i, M ≤ i → bt S i = false) → fX12_line_66 f (nI j0) S x3 (nI p) (sq u 1 ω) = some (plV R (nI j0) c p S, sq u 1 ω) := by
  intro d
  induction d with
  | zero =>
    intro p c f S x3 hp hc hcn hf hb
    obtain ⟨f, rfl⟩ : ∃ g, f = g + 1 + 1 := ⟨f - 2, by omega⟩
    obtain ⟨c, rfl⟩ : ∃ g, c = g + 1 := ⟨c - 1, by omega⟩
    have hp : p = j0 := by omega
    have hS : S ≠ nI 0 := fun q => by rw [q, cn_z] at hcn; omega
    obtain ⟨j, j1, j2, j3, -⟩ := nx_eq (R := R) (R' := u 9) hM hR hb hS
    rw [m_line_s z3 hM hR hb hS j3 hj0 (by omega), plV_s, hp, if_pos rfl, j3, u_fX12_line_66, cnd_pos (nI_lt (by omega) (by omega))]
  | succ d ih =>
    intro p c f S x3 hp hc hcn hf hb
    obtain ⟨f, rfl⟩ : ∃ g, f = g + 1 := ⟨f - 1, by omega⟩
    obtain ⟨c, rfl⟩ : ∃ g, c = g + 1 := ⟨c - 1, by omega⟩
    have hS : S ≠ nI 0 := fun q => by rw [q, cn_z] at hcn; omega
    obtain ⟨j, j1, j2, j3, -⟩ := nx_eq (R := R) (R' := u 9) hM hR hb hS
    have hr := cn_rem (show j < 20 by omega) j2
    have I := ih (p + 1) c f (rem S (nI j)) (nI j) (by omega) (by omega) (by omega) (by omega) (fun i hi => by rw [bt_rem (by omega), hb i hi]; rfl)
    rw [m_line_s z3 hM hR hb hS j3 hj0 (by omega), plV_s, if_neg (fun q => by have := (nI_eq (by omega) (by omega)).mp q; omega), j3]
    exact I
def dP (Dl : Nat → List Nat) (N m : Nat) : Bool := anyF (fun x => decide (m ∈ Dl x)) N 0
theorem d_zero (h : R0 dr tk pl N G M T B Q Dl σ ω) {m : Nat} (hm : m < 20) : (dP Dl N m = false ∧ setOf (sDl σ m) N = nI 0) ∨ (dP Dl N m = true ∧ setOf (sDl σ m) N ≠ nI 0) := by
  have h6 := h.1.1.1
  have hD := h.2.2.2.1
  cases e : dP Dl N m with
  | false =>
    refine Or.inl ⟨rfl, x_zero (fun i _ => ?_)⟩
    rw [bt_setOf (by omega)]
    by_cases hi : i < N
    · rw [sDl_mem hD (by omega) hm]
      cases q : decide (m ∈ Dl i) with
      | false => exact Bool.and_false _
      | true =>
        have := anyF_i (P := fun x => decide (m ∈ Dl x)) (r := N) (k := 0) (i := i) (by omega) (by omega) q
        unfold dP at e; rw [this] at e; cases e
    · rw [decide_eq_false hi, Bool.false_and]
  | true =>
    refine Or.inr ⟨rfl, fun q => ?_⟩
    obtain ⟨i, -, i2, i3⟩ := anyF_t e
    have hb : bt (setOf (sDl σ m) N) i = true := by
      rw [bt_setOf (by omega), sDl_mem hD (by omega) hm, decide_eq_true (show i < N by omega)]; exact i3
    rw [q, b_n0] at hb; cases hb
theorem m_line13 (h : R0 dr tk pl N G M T B Q Dl σ ω) {x1 : Int32} : ∀ r k f, k + r = M → r < f → fX12_line_13 f x1 (setOf (dP Dl N) k) (nI k) (sq u 1 ω) = cnd (fX12_in x1 (nI 0) (fJ6_bitCount_0f7a4 (setOf (dP Dl N) M) - nI 1) = nI 0) (some (NO, sq u 1 ω)) (fX12_line_66 FU x1 (setOf (dP Dl N) M) NO (nI 0) (sq u 1 ω)) := by
  have hM := h.1.1.2.2.1
  have z3 := h.1.2.2.2.1.2
  intro r
  induction r with
  | zero =>
    intro k f hk hf
    obtain ⟨f, rfl⟩ : ∃ g, f = g + 1 := ⟨f - 1, by omega⟩
    have hk : k = M := by omega
    subst hk
    simp (disch := first | omega | (simp only [pN, pP, pM, pE, pL, pC, pK, sp]; omega)) only [u_fX12_line_13, m_messages, z3, e_T, e_F, e_bnd, e_obr, e_obd, e_obt, e_addB, e_addA, e_in, e_cl, e_leT, e_leF, e_ltT, e_ltF, e_eqT, e_eqF, e_NOT, e_NOF, nI_add, pk_mul, k_spot, k_chan, m_node, m_pair, m_msg, m_chan, m_pack, e_w, e_wn, e_ws]
  | succ r ih =>
    intro k f hk hf
    obtain ⟨f, rfl⟩ : ∃ g, f = g + 1 := ⟨f - 1, by omega⟩
    have I := ih (k + 1) f (by omega) (by omega)
    have md := m_dlvBy (u := u) (m := k) h (by omega)
    rw [setOf_s] at I
    rw [← I]
    rcases d_zero h (show k < 20 by omega) with ⟨d1, d2⟩ | ⟨d1, d2⟩
    · rw [d2] at md
      rw [if_neg (by rw [d1]; decide)]
      simp (disch := first | omega | (simp only [pN, pP, pM, pE, pL, pC, pK, sp]; omega)) only [u_fX12_line_13, u_fX12_line_37, m_messages, z3, md, or_n0, e_T, e_F, e_bnd, e_obr, e_obd, e_obt, e_addB, e_addA, e_in, e_cl, e_leT, e_leF, e_ltT, e_ltF, e_eqT, e_eqF, e_NOT, e_NOF, nI_add, pk_mul, k_spot, k_chan, m_node, m_pair, m_msg, m_chan, m_pack, e_w, e_wn, e_ws]
    · rw [if_pos d1]
      simp (disch := first | omega | (simp only [pN, pP, pM, pE, pL, pC, pK, sp]; omega)) only [u_fX12_line_13, u_fX12_line_37, m_messages, z3, md, cnd_neg d2, e_T, e_F, e_bnd, e_obr, e_obd, e_obt, e_addB, e_addA, e_in, e_cl, e_leT, e_leF, e_ltT, e_ltF, e_eqT, e_eqF, e_NOT, e_NOF, nI_add, pk_mul, k_spot, k_chan, m_node, m_pair, m_msg, m_chan, m_pack, e_w, e_wn, e_ws]
theorem o_line (h : R0 dr tk pl N G M T B Q Dl σ ω) (x1 : Int32) : QR [] kk2 (fX11_line x1 σ) (fX12_line x1 (sq u 1 ω)) σ u ω := by
  have h6 := h.1.1.1
  have hM20 := h.1.1.2.2.1
  have hD := h.2.2.2.1
  have z3 := h.1.2.2.2.1.2
  obtain ⟨v, A, r1, r2, r3, r4, r5⟩ := k_read hD h.1.2.1.1 h6 (sbTO σ) (fun q hq => e_sbTO σ hq)
  obtain ⟨u', A', s1, s2', s3, s4⟩ := m_laysA hD h.1.2.1.2 z3 h6 hM20 (s2 u 0 0 (nI 0))
  have we := (wal_eq h r3 s3).1
  have e37 : sbTO (ubTO σ v) 37 = v 37 := e_sbTO2 σ v (q := 1) (by omega)
  have e36 : sbTO (ubTO σ v) 36 = v 36 := e_sbTO2 σ v (q := 0) (by omega)
  have hS : v 36 1 = setOf (dP Dl N) M := b_ext (fun i _ => by
    rw [r5 i, bt_setOf (by omega)]
    by_cases hi : i < M
    · rw [decide_eq_true hi, Bool.true_and]; rfl
    · rw [decide_eq_false hi, Bool.false_and]
      exact anyF_f (fun x _ hx => decide_eq_false (fun q => by have := dl_M h (n := x) (by omega) q; omega)))
  have hb : ∀ i, M ≤ i → bt (setOf (dP Dl N) M) i = false := fun i hi => by rw [bt_setOf (by omega), decide_eq_false (by omega), Bool.false_and]
  have hcn : cn20 (setOf (dP Dl N) M) ≤ 20 := by
    have := sumL_le (f := fun i => i01 (bt (setOf (dP Dl N) M) i)) (c := 1) (k := 20) (fun i _ => by
      show i01 _ ≤ 1
      unfold i01; split <;> omega)
    unfold cn20; omega
  have hR : ∀ y, y < M → sbTO (ubTO σ v) 37 y = u' 9 y := fun y hy => by rw [e37, r4 y (by omega), we y hy, s4 y hy]
  have kp := k_placed (u := sbTO (ubTO σ v)) (x1 := x1) hM20 (cn20 (setOf (dP Dl N) M)) 0 FU (setOf (dP Dl N) M) rfl (by omega) (by show _ < 100000; omega) hb
  have ml := m_line13 (u := u') (x1 := x1) h M 0 FU (by omega) (by show M < 100000; omega)
  have ml : fX12_line_13 FU x1 (nI 0) (nI 0) (sq u' 1 ω) = _ := ml
  rw [bc20 (fun i hi => hb i (by omega))] at ml
  refine ⟨.inl (plV (sbTO (ubTO σ v) 37) x1 (cn20 (setOf (dP Dl N) M)) 0 (setOf (dP Dl N) M)), ubTO σ v, plV (sbTO (ubTO σ v) 37) x1 (cn20 (setOf (dP Dl N) M)) 0 (setOf (dP Dl N) M), u', ?_, ?_, ⟨fun q hq => ?_, fun j hj => ?_⟩, uq_TO r2, Or.inl ⟨rfl, ?_⟩⟩
  · have e361 : sbTO (ubTO σ v) 36 1 = setOf (dP Dl N) M := by rw [e36, hS]
    simp (disch := first | omega | (simp only [pN, pP, pM, pE, pL, pC, pK, sp]; omega)) only [u_fX11_line, u_fX11_line_0, r1, u_fX8_placed, u_fX8_placed_0, e361, kp, e_T, e_F, e_bnd, e_obr, e_obd, e_obt, e_addB, e_addA, e_in, e_cl, e_leT, e_leF, e_ltT, e_ltF, e_eqT, e_eqF, e_NOT, e_NOF, nI_add, pk_mul, k_spot, k_chan, m_node, m_pair, m_msg, m_chan, m_pack, e_w, e_wn, e_ws]
  · have h1 : fX12_line x1 (sq u 1 ω) = fX12_line_13 FU x1 (nI 0) (nI 0) (sq u' 1 ω) := by
      simp (disch := first | omega | (simp only [pN, pP, pM, pE, pL, pC, pK, sp]; omega)) only [u_fX12_line, u_fX12_line_0, e_ws0, s1, e_T, e_F, e_bnd, e_obr, e_obd, e_obt, e_addB, e_addA, e_in, e_cl, e_leT, e_leF, e_ltT, e_ltF, e_eqT, e_eqF, e_NOT, e_NOF, nI_add, pk_mul, k_spot, k_chan, m_node, m_pair, m_msg, m_chan, m_pack, e_w, e_wn, e_ws]
    rw [h1, ml]
    rcases ix x1 (n := cn20 (setOf (dP Dl N) M)) (by omega) with hx | ⟨j, hj, rfl⟩
    · rw [m_in0 (by omega) hx, cnd_pos rfl, plV_no (fun i hi => by rw [Nat.zero_add]; exact ne_bad (by omega) hx hi)]
    · rw [m_in1 (by omega) hj, cnd_neg (by decide), m_line66 z3 hM20 hR (by omega) j 0 (cn20 (setOf (dP Dl N) M)) FU (setOf (dP Dl N) M) NO (by omega) hj rfl (by show j + 1 < 100000; omega) hb]
  · rw [s2' q (fun e => hq (by rw [e]; decide)), e_s2n _ _ _ (fun e => hq (by rw [e]; decide))]
  · rw [s2' 0 (by omega), e_s2, pk_un hj]
  · rw [s2' 0 (by omega), s2_00]; rfl
end LJ
