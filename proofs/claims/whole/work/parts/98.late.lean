/-! how late, packets, counts, rings -/
/-- the latest of those among the first -/
def lt2 (P : Nat → Bool) (f : Nat → Nat) : Nat → Option Nat
  | 0 => none
  | k + 1 => if P k = true then some (match lt2 P f k with | none => f k | some x => if x < f k then f k else x) else lt2 P f k
theorem lt2_s {P : Nat → Bool} {f : Nat → Nat} {k : Nat} : lt2 P f (k + 1) = if P k = true then some (match lt2 P f k with | none => f k | some x => if x < f k then f k else x) else lt2 P f k := rfl
theorem lt2_none {P : Nat → Bool} {f : Nat → Nat} : ∀ {k : Nat}, lt2 P f k = none ↔ ∀ i, i < k → P i = false
  | 0 => ⟨fun _ i hi => absurd hi (by omega), fun _ => rfl⟩
  | k + 1 => by
    rw [lt2_s]
    by_cases hp : P k = true
    · rw [if_pos hp]
      exact ⟨(fun q => by cases q), (fun q => absurd ((q k (by omega)).symm.trans hp) (by decide))⟩
    · rw [if_neg hp, lt2_none]
      have hp : P k = false := by cases h : P k <;> simp_all
      constructor
      · intro h m hm
        by_cases e : m = k
        · subst e; exact hp
        · exact h m (by omega)
      · intro h m hm; exact h m (by omega)
theorem lt2_bd {P : Nat → Bool} {f : Nat → Nat} {c : Nat} : ∀ {k x : Nat}, (∀ i, i < k → P i = true → f i ≤ c) → lt2 P f k = some x → x ≤ c
  | 0, x, _, h => by cases h
  | k + 1, x, hb, h => by
    rw [lt2_s] at h
    by_cases hp : P k = true
    · rw [if_pos hp] at h
      have hk := hb k (by omega) hp
      cases hl : lt2 P f k with
      | none => rw [hl] at h; simp only [Option.some.injEq] at h; omega
      | some y =>
        have := lt2_bd (fun i hi => hb i (by omega)) hl
        rw [hl] at h; simp only [Option.some.injEq] at h
        split at h <;> omega
    · rw [if_neg hp] at h
      exact lt2_bd (fun i hi => hb i (by omega)) h
section LT
variable {dr : Prop} {tk : Int32} {pl N G M T B : Nat} {Q : Qs} {Dl : Nat → List Nat} {u σ : Sg} {ω : Nat → Int32}
def whn (σ : Sg) (m n : Nat) : Nat := (σ 23 (sp n m)).toNatClampNeg
def bgt (σ : Sg) (m : Nat) : Nat := (σ 17 m).toNatClampNeg
def ltV (N : Nat) (σ : Sg) (m : Nat) : Option Nat := lt2 (sDl σ m) (whn σ m) N
theorem whn_v (h : R0 dr tk pl N G M T B Q Dl σ ω) {n m : Nat} (hn : n < 6) (hm : m < 20) (hd : sDl σ m n = true) : σ 23 (sp n m) = nI (whn σ m n) ∧ ω (pP n m 4) = nI (whn σ m n) ∧ σ 17 m = nI (bgt σ m) ∧ bgt σ m ≤ whn σ m n ∧ whn σ m n ≤ 100000 := by
  have hk : σ 20 (sp n m) = nI 3 := of_decide_eq_true hd
  obtain ⟨⟨k, k1, k2, k3, -, k5⟩, -⟩ := h.2.2.1 n m hn hm
  have hk3 : k = 3 := (nI_eq (by omega) (by omega)).mp (k2.symm.trans hk)
  obtain ⟨t, t1, t2, t3⟩ := k5 hk3
  obtain ⟨-, d2, -, -, d5⟩ := h.2.2.2.1 n hn
  obtain ⟨i, hi⟩ := List.getElem?_of_mem ((d2 m).mpr ⟨hm, hk⟩)
  obtain ⟨-, -, t', b, x1, x2, x3, x4⟩ := d5 i m hi
  have e1 : whn σ m n = t' := by unfold whn; rw [x3]; exact e_cl (by omega)
  have e2 : bgt σ m = b := by unfold bgt; rw [x4]; exact e_cl (by omega)
  have hT := h.1.1.2.2.2
  have e3 : t = t' := (nI_eq (by omega) (by omega)).mp (t2.symm.trans x3)
  rw [e1, e2]
  exact ⟨x3, by rw [t3, e3], x4, x1, x2⟩
theorem k_late_lp {m : Nat} (h : R0 dr tk pl N G M T B Q Dl σ ω) (hm : m < M) : ∀ r i f, i + r = N → r < f → fX0_lateOf_34 σ f (nI m) (setOf (sDl σ m) N) (match lt2 (sDl σ m) (whn σ m) i with | none => NO | some x => nI (x - bgt σ m)) (nI i) = some (match ltV N σ m with | none => NO | some x => nI (x - bgt σ m)) := by
  have h6 := h.1.1.1
  have hM := h.1.1.2.2.1
  have z1 := h.1.2.1.1
  intro r
  induction r with
  | zero =>
    intro i f hi hf
    obtain ⟨f, rfl⟩ : ∃ g, f = g + 1 := ⟨f - 1, by omega⟩
    have hi : i = N := by omega
    rw [hi]
    simp (disch := first | omega | (simp only [pN, pP, pM, pE, pL, pC, pK, sp]; omega)) only [u_fX0_lateOf_34, z1, e_T, e_F, e_bnd, e_obr, e_obd, e_obt, e_addB, e_addA, e_in, e_cl, e_leT, e_leF, e_ltT, e_ltF, e_eqT, e_eqF, e_NOT, e_NOF, nI_add, pk_mul, k_spot, k_chan, m_node, m_pair, m_msg, m_chan, m_pack, e_w, e_wn, e_ws]; rfl
  | succ r ih =>
    intro i f hi hf
    obtain ⟨f, rfl⟩ : ∃ g, f = g + 1 := ⟨f - 1, by omega⟩
    have ih := ih (i + 1) f (by omega) (by omega)
    rw [lt2_s] at ih
    have hsp : sp i m < 120 := by unfold sp; omega
    have hb : fX11_isIn (setOf (sDl σ m) N) (nI i) = b2 (sDl σ m i) := by
      rw [k_isIn2 _ (by omega), bt_setOf (by omega), decide_eq_true (show i < N by omega), Bool.true_and]
    simp (disch := first | omega | (simp only [pN, pP, pM, pE, pL, pC, pK, sp]; omega)) only [u_fX0_lateOf_34, u_fX0_lateOf_81, z1, hb, e_T, e_F, e_bnd, e_obr, e_obd, e_obt, e_addB, e_addA, e_in, e_cl, e_leT, e_leF, e_ltT, e_ltF, e_eqT, e_eqF, e_NOT, e_NOF, nI_add, pk_mul, k_spot, k_chan, m_node, m_pair, m_msg, m_chan, m_pack, e_w, e_wn, e_ws]
    cases hd : sDl σ m i with
    | false =>
      rw [hd, if_neg (by decide)] at ih
      rw [e_b2F rfl]; exact ih
    | true =>
      rw [hd, if_pos rfl] at ih
      obtain ⟨v1, -, v3, v4, v5⟩ := whn_v h (show i < 6 by omega) (show m < 20 by omega) hd
      rw [e_b2T rfl, v1, v3, pk_sub v4]
      rw [← ih]
      congr 1
      cases hl : lt2 (sDl σ m) (whn σ m) i with
      | none => rw [if_pos (NO_lt (by omega))]
      | some x =>
        have hx := lt2_bd (c := 100000) (fun j hj hdj => (whn_v h (show j < 6 by omega) (show m < 20 by omega) hdj).2.2.2.2) hl
        have hxb : bgt σ m ≤ x ∨ x < bgt σ m := by omega
        show (if nI (x - bgt σ m) < nI (whn σ m i - bgt σ m) then nI (whn σ m i - bgt σ m) else nI (x - bgt σ m)) = nI ((if x < whn σ m i then whn σ m i else x) - bgt σ m)
        by_cases hlt : x - bgt σ m < whn σ m i - bgt σ m
        · rw [if_pos (nI_lt hlt (by omega)), if_pos (by omega)]
        · rw [if_neg (nI_nlt (by omega) (by omega))]
          by_cases h2 : x < whn σ m i
          · rw [if_pos h2]; congr 1; omega
          · rw [if_neg h2]
theorem m_late_lp {m : Nat} (h : R0 dr tk pl N G M T B Q Dl σ ω) (hm : m < M) {b : Nat} (hb : ω (pM m 3) = nI b) (hne : ∀ x, ltV N σ m = some x → b ≤ x) (hsm : ∃ x, ltV N σ m = some x) : ∀ r i f, i + r = N → r < f → fX12_lateOf_36 (sq u 1 ω) f (nI m) (match lt2 (sDl σ m) (whn σ m) i with | none => nI 0 | some x => nI x) (nI i) = some (match ltV N σ m with | none => NO | some x => nI (x - b)) := by
  have h6 := h.1.1.1
  have hM := h.1.1.2.2.1
  have z2 := h.1.2.1.2
  intro r
  induction r with
  | zero =>
    intro i f hi hf
    obtain ⟨f, rfl⟩ : ∃ g, f = g + 1 := ⟨f - 1, by omega⟩
    have hi : i = N := by omega
    rw [hi]
    obtain ⟨x, hx⟩ := hsm
    have hx' : lt2 (sDl σ m) (whn σ m) N = some x := hx
    rw [hx, hx']
    simp (disch := first | omega | (simp only [pN, pP, pM, pE, pL, pC, pK, sp]; omega)) only [u_fX12_lateOf_36, m_nodes, z2, m_ofMsg, hb, e_T, e_F, e_bnd, e_obr, e_obd, e_obt, e_addB, e_addA, e_in, e_cl, e_leT, e_leF, e_ltT, e_ltF, e_eqT, e_eqF, e_NOT, e_NOF, nI_add, pk_mul, k_spot, k_chan, m_node, m_pair, m_msg, m_chan, m_pack, e_w, e_wn, e_ws]
    rw [pk_sub (hne x hx)]
  | succ r ih =>
    intro i f hi hf
    obtain ⟨f, rfl⟩ : ∃ g, f = g + 1 := ⟨f - 1, by omega⟩
    have ih := ih (i + 1) f (by omega) (by omega)
    rw [lt2_s] at ih
    simp (disch := first | omega | (simp only [pN, pP, pM, pE, pL, pC, pK, sp]; omega)) only [u_fX12_lateOf_36, u_fX12_lateOf_70, m_nodes, z2, m_ofPair, w_kind h, e_T, e_F, e_bnd, e_obr, e_obd, e_obt, e_addB, e_addA, e_in, e_cl, e_leT, e_leF, e_ltT, e_ltF, e_eqT, e_eqF, e_NOT, e_NOF, nI_add, pk_mul, k_spot, k_chan, m_node, m_pair, m_msg, m_chan, m_pack, e_w, e_wn, e_ws]
    by_cases hk : σ 20 (sp i m) = nI 3
    · have hd : sDl σ m i = true := decide_eq_true hk
      rw [hd, if_pos rfl] at ih
      obtain ⟨v1, v2, v3, v4, v5⟩ := whn_v h (show i < 6 by omega) (show m < 20 by omega) hd
      rw [cnd_pos hk, v2, ← ih]
      congr 1
      cases hl : lt2 (sDl σ m) (whn σ m) i with
      | none =>
        show (if nI 0 < nI (whn σ m i) then nI (whn σ m i) else nI 0) = nI (whn σ m i)
        by_cases h0 : whn σ m i = 0
        · rw [h0, if_neg (nI_nlt (by omega) (by omega))]
        · rw [if_pos (nI_lt (by omega) (by omega))]
      | some x =>
        have hx := lt2_bd (c := 100000) (fun j hj hdj => (whn_v h (show j < 6 by omega) (show m < 20 by omega) hdj).2.2.2.2) hl
        show (if nI x < nI (whn σ m i) then nI (whn σ m i) else nI x) = nI (if x < whn σ m i then whn σ m i else x)
        exact e_max (by omega) (by omega)
    · have hd : sDl σ m i = false := decide_eq_false hk
      rw [hd, if_neg (by decide)] at ih
      rw [cnd_neg hk]; exact ih
/-- LATE, or NONE -/
noncomputable def lteV (N : Nat) (σ : Sg) (m : Nat) : Int32 := cnd (((σ 15 m &&& setOf (upB σ) N) &&& (setOf (sDl σ m) N ^^^ NO)) = nI 0) (match ltV N σ m with | none => NO | some x => nI (x - bgt σ m)) NO
theorem k_late {m : Nat} (h : R0 dr tk pl N G M T B Q Dl σ ω) (hm : m < M) : fX0_lateOf (nI m) σ = some (lteV N σ m) := by
  have h6 := h.1.1.1
  have hM := h.1.1.2.2.1
  have z1 := h.1.2.1.1
  have kl := k_late_lp h hm N 0 FU (by omega) (by show N < 100000; omega)
  have kl : fX0_lateOf_34 σ FU (nI m) (setOf (sDl σ m) N) NO (nI 0) = _ := kl
  simp (disch := first | omega | (simp only [pN, pP, pM, pE, pL, pC, pK, sp]; omega)) only [u_fX0_lateOf, u_fX0_lateOf_0, k_dlv z1 h6 (show m < 20 by omega), k_upNodes z1 h6, kl, e_T, e_F, e_bnd, e_obr, e_obd, e_obt, e_addB, e_addA, e_in, e_cl, e_leT, e_leF, e_ltT, e_ltF, e_eqT, e_eqF, e_NOT, e_NOF, nI_add, pk_mul, k_spot, k_chan, m_node, m_pair, m_msg, m_chan, m_pack, e_w, e_wn, e_ws]
  unfold lteV
  by_cases q : ((σ 15 m &&& setOf (upB σ) N) &&& (setOf (sDl σ m) N ^^^ NO)) = nI 0
  · rw [cnd_pos q, cnd_pos q]
  · rw [cnd_neg q, cnd_neg q]
theorem set0 {P : Nat → Bool} {k : Nat} (hk : k ≤ 32) : setOf P k = nI 0 ↔ ∀ i, i < k → P i = false := by
  rw [z_iff]
  constructor
  · intro h i hi
    have := h i (by omega)
    rw [bt_setOf hk, decide_eq_true hi, Bool.true_and] at this; exact this
  · intro h i hi
    rw [bt_setOf hk]
    by_cases hx : i < k
    · rw [h i hx, Bool.and_false]
    · rw [decide_eq_false hx, Bool.false_and]
theorem m_late {m : Nat} (h : R0 dr tk pl N G M T B Q Dl σ ω) (hm : m < M) : fX12_lateOf (nI m) (sq u 1 ω) = some (lteV N σ m) := by
  have h6 := h.1.1.1
  have hM := h.1.1.2.2.1
  have md := m_dlvBy (u := u) (m := m) h (by omega)
  have mu := q_upOnes (u := u) h.1.2.1.2 h.2.1 h.1.1.2.2.2 h6
  obtain ⟨⟨-, q2, -, q4, -⟩, -⟩ := h.2.2.2.2.1 m (by omega)
  cases hl : ltV N σ m with
  | none =>
    have hz : setOf (sDl σ m) N = nI 0 := (set0 (by omega)).mpr (lt2_none.mp hl)
    have e1 : lteV N σ m = NO := by
      unfold lteV; rw [hl]
      by_cases q : ((σ 15 m &&& setOf (upB σ) N) &&& (setOf (sDl σ m) N ^^^ NO)) = nI 0
      · rw [cnd_pos q]
      · rw [cnd_neg q]
    rw [e1]
    simp (disch := first | omega | (simp only [pN, pP, pM, pE, pL, pC, pK, sp]; omega)) only [u_fX12_lateOf, u_fX12_lateOf_0, md, hz, e_T, e_F, e_bnd, e_obr, e_obd, e_obt, e_addB, e_addA, e_in, e_cl, e_leT, e_leF, e_ltT, e_ltF, e_eqT, e_eqF, e_NOT, e_NOF, nI_add, pk_mul, k_spot, k_chan, m_node, m_pair, m_msg, m_chan, m_pack, e_w, e_wn, e_ws]
  | some x =>
    have hnz : setOf (sDl σ m) N ≠ nI 0 := fun q => by
      have := lt2_none (f := whn σ m).mpr ((set0 (by omega)).mp q)
      have hl : lt2 (sDl σ m) (whn σ m) N = some x := hl
      rw [hl] at this; cases this
    have hex : ∃ i, i < N ∧ sDl σ m i = true := by
      refine Classical.byContradiction (fun q => hnz ((set0 (by omega)).mpr (fun i hi => ?_)))
      cases hd : sDl σ m i with
      | false => rfl
      | true => exact absurd ⟨i, hi, hd⟩ q
    obtain ⟨i, hi, hd⟩ := hex
    obtain ⟨-, -, v3, -, -⟩ := whn_v h (show i < 6 by omega) (show m < 20 by omega) hd
    have hge : ∀ k x, lt2 (sDl σ m) (whn σ m) k = some x → k ≤ N → bgt σ m ≤ x := by
      intro k
      induction k with
      | zero => intro x hx; cases hx
      | succ k ih =>
        intro x hx hk
        rw [lt2_s] at hx
        by_cases hp : sDl σ m k = true
        · rw [if_pos hp] at hx
          obtain ⟨-, -, -, v4, -⟩ := whn_v h (show k < 6 by omega) (show m < 20 by omega) hp
          cases hl2 : lt2 (sDl σ m) (whn σ m) k with
          | none => rw [hl2] at hx; simp only [Option.some.injEq] at hx; omega
          | some y =>
            rw [hl2] at hx; simp only [Option.some.injEq] at hx
            have := ih y hl2 (by omega)
            split at hx <;> omega
        · rw [if_neg hp] at hx; exact ih x hx (by omega)
    have ml := m_late_lp (u := u) h hm (b := bgt σ m) (by rw [← q4]; exact v3) (fun x hx => hge N x hx (Nat.le_refl _)) ⟨x, hl⟩ N 0 FU (by omega) (by show N < 100000; omega)
    have ml : fX12_lateOf_36 (sq u 1 ω) FU (nI m) (nI 0) (nI 0) = _ := ml
    simp (disch := first | omega | (simp only [pN, pP, pM, pE, pL, pC, pK, sp]; omega)) only [u_fX12_lateOf, u_fX12_lateOf_0, md, mu, m_ofMsg, ← q2, ml, e_T, e_F, e_bnd, e_obr, e_obd, e_obt, e_addB, e_addA, e_in, e_cl, e_leT, e_leF, e_ltT, e_ltF, e_eqT, e_eqF, e_NOT, e_NOF, nI_add, pk_mul, k_spot, k_chan, m_node, m_pair, m_msg, m_chan, m_pack, e_w, e_wn, e_ws]
    unfold lteV
    rw [cnd_neg hnz]
    by_cases q : ((σ 15 m &&& setOf (upB σ) N) &&& (setOf (sDl σ m) N ^^^ NO)) = nI 0
    · rw [cnd_pos q, cnd_pos q]
    · rw [cnd_neg q, cnd_neg q]
theorem o_late (h : R0 dr tk pl N G M T B Q Dl σ ω) (x1 : Int32) : QR [0] kk2 (fX11_late x1 σ) (fX12_late x1 (sq u 1 ω)) σ u ω := by
  have hM20 := h.1.1.2.2.1
  rcases ck_msg h.1.2.2.2.1.1 h.1.2.2.2.1.2 hM20 x1 with ⟨m, hm, rfl, k1, m1⟩ | ⟨k1, m1⟩
  · have ka := k_late h hm
    have ma := m_late (u := s2 u 0 0 (nI 0)) h hm
    refine QR_val (r := lteV N σ m) ?_ ?_
    · simp (disch := first | omega | (simp only [pN, pP, pM, pE, pL, pC, pK, sp]; omega)) only [u_fX11_late, u_fX11_late_0, k1, e_sbTN, ka, e_obxl, e_T, e_F, e_bnd, e_obr, e_obd, e_obt, e_addB, e_addA, e_in, e_cl, e_leT, e_leF, e_ltT, e_ltF, e_eqT, e_eqF, e_NOT, e_NOF, nI_add, pk_mul, k_spot, k_chan, m_node, m_pair, m_msg, m_chan, m_pack, e_w, e_wn, e_ws]
    · simp (disch := first | omega | (simp only [pN, pP, pM, pE, pL, pC, pK, sp]; omega)) only [u_fX12_late, u_fX12_late_0, m1, ma, m_thr0, e_ws0, e_T, e_F, e_bnd, e_obr, e_obd, e_obt, e_addB, e_addA, e_in, e_cl, e_leT, e_leF, e_ltT, e_ltF, e_eqT, e_eqF, e_NOT, e_NOF, nI_add, pk_mul, k_spot, k_chan, m_node, m_pair, m_msg, m_chan, m_pack, e_w, e_wn, e_ws]
  · refine QR_thr (r := nI 0) 0 (by decide) ?_ ?_
    · simp (disch := first | omega | (simp only [pN, pP, pM, pE, pL, pC, pK, sp]; omega)) only [u_fX11_late, u_fX11_late_0, k1, e_obxl, e_obxr, e_T, e_F, e_bnd, e_obr, e_obd, e_obt, e_addB, e_addA, e_in, e_cl, e_leT, e_leF, e_ltT, e_ltF, e_eqT, e_eqF, e_NOT, e_NOF, nI_add, pk_mul, k_spot, k_chan, m_node, m_pair, m_msg, m_chan, m_pack, e_w, e_wn, e_ws]
    · simp (disch := first | omega | (simp only [pN, pP, pM, pE, pL, pC, pK, sp]; omega)) only [u_fX12_late, u_fX12_late_0, m1, m_thr0, m_thr1, e_ws0, e_ss, e_T, e_F, e_bnd, e_obr, e_obd, e_obt, e_addB, e_addA, e_in, e_cl, e_leT, e_leF, e_ltT, e_ltF, e_eqT, e_eqF, e_NOT, e_NOF, nI_add, pk_mul, k_spot, k_chan, m_node, m_pair, m_msg, m_chan, m_pack, e_w, e_wn, e_ws]; rfl
theorem s_slow_lp (h : R0 dr tk pl N G M T B Q Dl σ ω) : ∀ r i f f' (x y : Int32), i + r = M → r < f → r < f' → ∃ z, fX11_slowest_6 f x y (nI i) σ = some (.inl z, σ) ∧ fX12_slowest_11 f' x y (nI i) (sq u 1 ω) = some (z, sq u 1 ω) := by
  have hM := h.1.1.2.2.1
  have z13 := h.1.2.2.2.1.1
  have z3 := h.1.2.2.2.1.2
  intro r
  induction r with
  | zero =>
    intro i f f' x y hi hf hf'
    obtain ⟨f, rfl⟩ : ∃ g, f = g + 1 := ⟨f - 1, by omega⟩
    obtain ⟨f', rfl⟩ : ∃ g, f' = g + 1 := ⟨f' - 1, by omega⟩
    have hi : i = M := by omega
    rw [hi]
    refine ⟨x, ?_, ?_⟩
    · simp (disch := first | omega | (simp only [pN, pP, pM, pE, pL, pC, pK, sp]; omega)) only [u_fX11_slowest_6, z13, e_T, e_F, e_bnd, e_obr, e_obd, e_obt, e_addB, e_addA, e_in, e_cl, e_leT, e_leF, e_ltT, e_ltF, e_eqT, e_eqF, e_NOT, e_NOF, nI_add, pk_mul, k_spot, k_chan, m_node, m_pair, m_msg, m_chan, m_pack, e_w, e_wn, e_ws]
    · simp (disch := first | omega | (simp only [pN, pP, pM, pE, pL, pC, pK, sp]; omega)) only [u_fX12_slowest_11, m_messages, z3, e_T, e_F, e_bnd, e_obr, e_obd, e_obt, e_addB, e_addA, e_in, e_cl, e_leT, e_leF, e_ltT, e_ltF, e_eqT, e_eqF, e_NOT, e_NOF, nI_add, pk_mul, k_spot, k_chan, m_node, m_pair, m_msg, m_chan, m_pack, e_w, e_wn, e_ws]
  | succ r ih =>
    intro i f f' x y hi hf hf'
    obtain ⟨f, rfl⟩ : ∃ g, f = g + 1 := ⟨f - 1, by omega⟩
    obtain ⟨f', rfl⟩ : ∃ g, f' = g + 1 := ⟨f' - 1, by omega⟩
    have ka := k_late h (show i < M by omega)
    have ma := m_late (u := u) h (show i < M by omega)
    by_cases hlt : y < lteV N σ i
    · obtain ⟨z, t1, t2⟩ := ih (i + 1) f f' (nI i) (lteV N σ i) (by omega) (by omega) (by omega)
      refine ⟨z, ?_, ?_⟩
      · simp (disch := first | omega | (simp only [pN, pP, pM, pE, pL, pC, pK, sp]; omega)) only [u_fX11_slowest_6, u_fX11_slowest_41, z13, e_sbTN, ka, t1, e_T, e_F, e_bnd, e_obr, e_obd, e_obt, e_addB, e_addA, e_in, e_cl, e_leT, e_leF, e_ltT, e_ltF, e_eqT, e_eqF, e_NOT, e_NOF, nI_add, pk_mul, k_spot, k_chan, m_node, m_pair, m_msg, m_chan, m_pack, e_w, e_wn, e_ws]
        rw [cnd_neg (i_le_lt.mpr hlt)]
      · simp (disch := first | omega | (simp only [pN, pP, pM, pE, pL, pC, pK, sp]; omega)) only [u_fX12_slowest_11, u_fX12_slowest_39, m_messages, z3, ma, t2, e_T, e_F, e_bnd, e_obr, e_obd, e_obt, e_addB, e_addA, e_in, e_cl, e_leT, e_leF, e_ltT, e_ltF, e_eqT, e_eqF, e_NOT, e_NOF, nI_add, pk_mul, k_spot, k_chan, m_node, m_pair, m_msg, m_chan, m_pack, e_w, e_wn, e_ws]
        rw [cnd_pos hlt]
    · obtain ⟨z, t1, t2⟩ := ih (i + 1) f f' x y (by omega) (by omega) (by omega)
      refine ⟨z, ?_, ?_⟩
      · simp (disch := first | omega | (simp only [pN, pP, pM, pE, pL, pC, pK, sp]; omega)) only [u_fX11_slowest_6, u_fX11_slowest_41, z13, e_sbTN, ka, t1, e_T, e_F, e_bnd, e_obr, e_obd, e_obt, e_addB, e_addA, e_in, e_cl, e_leT, e_leF, e_ltT, e_ltF, e_eqT, e_eqF, e_NOT, e_NOF, nI_add, pk_mul, k_spot, k_chan, m_node, m_pair, m_msg, m_chan, m_pack, e_w, e_wn, e_ws]
        rw [cnd_pos (i_lt_le.mp hlt)]
      · simp (disch := first | omega | (simp only [pN, pP, pM, pE, pL, pC, pK, sp]; omega)) only [u_fX12_slowest_11, u_fX12_slowest_39, m_messages, z3, ma, t2, e_T, e_F, e_bnd, e_obr, e_obd, e_obt, e_addB, e_addA, e_in, e_cl, e_leT, e_leF, e_ltT, e_ltF, e_eqT, e_eqF, e_NOT, e_NOF, nI_add, pk_mul, k_spot, k_chan, m_node, m_pair, m_msg, m_chan, m_pack, e_w, e_wn, e_ws]
        rw [cnd_neg hlt]
theorem o_slowest (h : R0 dr tk pl N G M T B Q Dl σ ω) : QR [] kk2 (fX11_slowest σ) (fX12_slowest (sq u 1 ω)) σ u ω := by
  have hM := h.1.1.2.2.1
  obtain ⟨z, t1, t2⟩ := s_slow_lp (u := s2 u 0 0 (nI 0)) h M 0 FU FU NO NO (by omega) (by show M < 100000; omega) (by show M < 100000; omega)
  refine QR_val (r := z) ?_ ?_
  · exact t1
  · simp (disch := first | omega | (simp only [pN, pP, pM, pE, pL, pC, pK, sp]; omega)) only [u_fX12_slowest, u_fX12_slowest_0, e_ws0, t2, e_T, e_F, e_bnd, e_obr, e_obd, e_obt, e_addB, e_addA, e_in, e_cl, e_leT, e_leF, e_ltT, e_ltF, e_eqT, e_eqF, e_NOT, e_NOF, nI_add, pk_mul, k_spot, k_chan, m_node, m_pair, m_msg, m_chan, m_pack, e_w, e_wn, e_ws]
end LT
