/-! the least that is pending; handing out -/
theorem pN_pN {a b w v : Nat} (hw : w < 25) (hv : v < 25) (h : ¬ (a = b ∧ w = v)) : pN a w ≠ pN b v := by
  unfold pN
  rcases Nat.lt_trichotomy a b with g | g | g
  · have := Nat.mul_le_mul_left 245 (show a + 1 ≤ b from g); omega
  · subst g; omega
  · have := Nat.mul_le_mul_left 245 (show b + 1 ≤ a from g); omega
def pend (σ : Sg) (n m : Nat) : Bool := decide (σ 20 (sp n m) = nI 1) || decide (σ 20 (sp n m) = nI 2)
def upO (σ : Sg) (n k : Nat) : Option Nat → Option Nat
  | none => some k
  | some j => if σ 21 (sp n k) < σ 21 (sp n j) then some k else some j
def lsO (σ : Sg) (n : Nat) : Nat → Option Nat
  | 0 => none
  | k + 1 => if pend σ n k = true then upO σ n k (lsO σ n k) else lsO σ n k
def oI : Option Nat → Int32
  | none => NO
  | some k => nI k
theorem lsO_s {σ : Sg} {n k : Nat} : lsO σ n (k + 1) = if pend σ n k = true then upO σ n k (lsO σ n k) else lsO σ n k := rfl
theorem lsO_some {σ : Sg} {n : Nat} : ∀ {k j : Nat}, lsO σ n k = some j → j < k ∧ pend σ n j = true
  | 0, j, h => by cases h
  | k + 1, j, h => by
    rw [lsO_s] at h
    by_cases hp : pend σ n k = true
    · rw [if_pos hp] at h
      cases hl : lsO σ n k with
      | none =>
        rw [hl] at h
        have h : some k = some j := h
        cases h; exact ⟨by omega, hp⟩
      | some i =>
        rw [hl] at h
        have h : (if σ 21 (sp n k) < σ 21 (sp n i) then some k else some i) = some j := h
        split at h
        · cases h; exact ⟨by omega, hp⟩
        · cases h; have := lsO_some hl; exact ⟨by omega, this.2⟩
    · rw [if_neg hp] at h
      have := lsO_some h; exact ⟨by omega, this.2⟩
theorem lsO_none {σ : Sg} {n : Nat} : ∀ {k : Nat}, lsO σ n k = none ↔ ∀ m, m < k → pend σ n m = false
  | 0 => ⟨fun _ m hm => absurd hm (by omega), fun _ => rfl⟩
  | k + 1 => by
    rw [lsO_s]
    by_cases hp : pend σ n k = true
    · rw [if_pos hp]
      constructor
      · intro h
        cases hl : lsO σ n k with
        | none => rw [hl] at h; cases h
        | some i =>
          rw [hl] at h
          have h : (if σ 21 (sp n k) < σ 21 (sp n i) then some k else some i) = none := h
          split at h <;> cases h
      · intro h; rw [h k (by omega)] at hp; cases hp
    · rw [if_neg hp, lsO_none]
      have hp : pend σ n k = false := by cases h : pend σ n k <;> simp_all
      constructor
      · intro h m hm
        by_cases e : m = k
        · subst e; exact hp
        · exact h m (by omega)
      · intro h m hm; exact h m (by omega)
theorem lsO_congr {σ σ' : Sg} {n : Nat} (h20 : σ' 20 = σ 20) (h21 : σ' 21 = σ 21) (k : Nat) : lsO σ' n k = lsO σ n k := by
  induction k with
  | zero => rfl
  | succ k ih =>
    rw [lsO_s, lsO_s, ih]
    have e1 : pend σ' n k = pend σ n k := by unfold pend; rw [h20]
    have e2 : ∀ o, upO σ' n k o = upO σ n k o := by
      intro o
      cases o with
      | none => rfl
      | some j => show (if σ' 21 (sp n k) < σ' 21 (sp n j) then some k else some j) = _; rw [h21]; rfl
    rw [e1, e2]
section HO
variable {dr : Prop} {tk : Int32} {pl N G M T B : Nat} {e : Nat → Nat → Nat} {Q Q' : Qs} {Dl : Nat → List Nat} {u σ σ' : Sg} {ω ω' : Nat → Int32}
theorem k_least_lp {n : Nat} (hn : n < 6) (hM : M ≤ 20) : ∀ r i f, i + r = M → r < f → fX4_leastPending_5 σ f (nI n) (nI M) (oI (lsO σ n i)) (nI i) = some (oI (lsO σ n M)) := by
  intro r
  induction r with
  | zero =>
    intro i f hi hf
    obtain ⟨f, rfl⟩ : ∃ k, f = k + 1 := ⟨f - 1, by omega⟩
    have hi : i = M := by omega
    subst hi
    simp (disch := first | omega | (simp only [pN, pP, pM, pE, pL, pC, pK, sp]; omega)) only [u_fX4_leastPending_5, e_T, e_F, e_bnd, e_obr, e_obd, e_obt, e_addB, e_addA, e_in, e_cl, e_leT, e_leF, e_ltT, e_ltF, e_eqT, e_eqF, e_NOT, e_NOF, nI_add, pk_mul, k_spot, k_chan, m_node, m_pair, m_msg, m_chan, m_pack, e_w, e_wn, e_ws]
  | succ r ih =>
    intro i f hi hf
    obtain ⟨f, rfl⟩ : ∃ k, f = k + 1 := ⟨f - 1, by omega⟩
    have ih := ih (i + 1) f (by omega) (by omega)
    rw [lsO_s] at ih
    have hsp : sp n i < 120 := by unfold sp; omega
    have kp : fX4_isPending (nI (sp n i)) σ = some (b2 (pend σ n i)) := k_isPending hsp
    cases hp : pend σ n i with
    | false =>
      rw [if_neg (by rw [hp]; decide)] at ih
      simp (disch := first | omega | (simp only [pN, pP, pM, pE, pL, pC, pK, sp]; omega)) only [u_fX4_leastPending_5, u_fX4_leastPending_56, kp, hp, b2_f, e_T, e_F, e_bnd, e_obr, e_obd, e_obt, e_addB, e_addA, e_in, e_cl, e_leT, e_leF, e_ltT, e_ltF, e_eqT, e_eqF, e_NOT, e_NOF, nI_add, pk_mul, k_spot, k_chan, m_node, m_pair, m_msg, m_chan, m_pack, e_w, e_wn, e_ws]
      exact ih
    | true =>
      rw [if_pos hp] at ih
      cases hl : lsO σ n i with
      | none =>
        rw [hl] at ih
        simp (disch := first | omega | (simp only [pN, pP, pM, pE, pL, pC, pK, sp]; omega)) only [u_fX4_leastPending_5, u_fX4_leastPending_53, u_fX4_leastPending_56, kp, hp, b2_t, oI, e_T, e_F, e_bnd, e_obr, e_obd, e_obt, e_addB, e_addA, e_in, e_cl, e_leT, e_leF, e_ltT, e_ltF, e_eqT, e_eqF, e_NOT, e_NOF, nI_add, pk_mul, k_spot, k_chan, m_node, m_pair, m_msg, m_chan, m_pack, e_w, e_wn, e_ws]
        exact ih
      | some j =>
        have hj := (lsO_some hl).1
        have hspj : sp n j < 120 := by unfold sp; omega
        rw [hl] at ih
        simp (disch := first | omega | (simp only [pN, pP, pM, pE, pL, pC, pK, sp]; omega)) only [u_fX4_leastPending_5, u_fX4_leastPending_53, u_fX4_leastPending_56, kp, hp, b2_t, oI, e_T, e_F, e_bnd, e_obr, e_obd, e_obt, e_addB, e_addA, e_in, e_cl, e_leT, e_leF, e_ltT, e_ltF, e_eqT, e_eqF, e_NOT, e_NOF, nI_add, pk_mul, k_spot, k_chan, m_node, m_pair, m_msg, m_chan, m_pack, e_w, e_wn, e_ws]
        have e1 : upO σ n i (some j) = if σ 21 (sp n i) < σ 21 (sp n j) then some i else some j := rfl
        rw [e1] at ih
        by_cases hlt : σ 21 (sp n i) < σ 21 (sp n j)
        · rw [if_pos hlt] at ih
          rw [cnd_neg (i_le_lt.mpr hlt)]; exact ih
        · rw [if_neg hlt] at ih
          rw [cnd_pos (i_lt_le.mp hlt)]; exact ih
theorem k_least {n : Nat} (hn : n < 6) (hM : M ≤ 20) : fX4_leastPending (nI n) (nI M) σ = some (oI (lsO σ n M)) := k_least_lp hn hM M 0 FU (by omega) (by show M < 100000; omega)
theorem m_isAhead {n a b : Nat} (h : R0 dr tk pl N G M T B Q Dl σ ω) (hn : n < 6) (ha : a < 20) (hb : b < 20) : fX12_isAhead (nI n) (nI a) (nI b) (sq u 1 ω) = some (b2 (decide (σ 21 (sp n a) < σ 21 (sp n b)) || (decide (σ 21 (sp n a) = σ 21 (sp n b)) && decide (a < b)))) := by
  have hB := h.2.2.2.2.2.2.2.2.2.2
  have hB2 := cnt_le (σ := σ)
  obtain ⟨-, ⟨a1, a2, a3⟩, -⟩ := h.2.2.1 n a hn ha
  obtain ⟨-, ⟨b1, b2', b3⟩, -⟩ := h.2.2.1 n b hn hb
  have hlt := lt_st (show B < 100000 by omega) (Or.inr a1) b1
  have heq := st_eq (show B < 100000 by omega) a1 b1
  have h38 : ∀ t, t = nI 0 → fX12_isAhead_39 (nI n) (nI a) (nI b) t (sq u 1 ω) = some (b2 (decide (σ 21 (sp n a) < σ 21 (sp n b)))) := by
    intro t ht
    subst ht
    simp (disch := first | omega | (simp only [pN, pP, pM, pE, pL, pC, pK, sp]; omega)) only [u_fX12_isAhead_39, m_ofPair, a2, a3, b2', b3, hlt, e_isB, e_T, e_F, e_bnd, e_obr, e_obd, e_obt, e_addB, e_addA, e_in, e_cl, e_leT, e_leF, e_ltT, e_ltF, e_eqT, e_eqF, e_NOT, e_NOF, nI_add, pk_mul, k_spot, k_chan, m_node, m_pair, m_msg, m_chan, m_pack, e_w, e_wn, e_ws]
  by_cases he : σ 21 (sp n a) = σ 21 (sp n b)
  · obtain ⟨q1, q2⟩ := heq.mpr he
    simp (disch := first | omega | (simp only [pN, pP, pM, pE, pL, pC, pK, sp]; omega)) only [u_fX12_isAhead, u_fX12_isAhead_0, u_fX12_isAhead_39, m_ofPair, a2, a3, b2', b3, e_T, e_F, e_bnd, e_obr, e_obd, e_obt, e_addB, e_addA, e_in, e_cl, e_leT, e_leF, e_ltT, e_ltF, e_eqT, e_eqF, e_NOT, e_NOF, nI_add, pk_mul, k_spot, k_chan, m_node, m_pair, m_msg, m_chan, m_pack, e_w, e_wn, e_ws]
    rw [cnd_pos q1, cnd_pos q2, decide_eq_true he, he, decide_eq_false (fun z => i_lt_le.mpr (by rw [Int32.le_iff_toInt_le]; omega) z), Bool.false_or, Bool.true_and]
    by_cases hab : a < b
    · rw [e_leF hab (by omega), decide_eq_true hab]; rfl
    · rw [e_leT (by omega) (by omega), decide_eq_false hab]; rfl
  · rw [decide_eq_false he, Bool.false_and, Bool.or_false]
    simp (disch := first | omega | (simp only [pN, pP, pM, pE, pL, pC, pK, sp]; omega)) only [u_fX12_isAhead, u_fX12_isAhead_0, u_fX12_isAhead_38, m_ofPair, a2, a3, b2', b3, h38, e_T, e_F, e_bnd, e_obr, e_obd, e_obt, e_addB, e_addA, e_in, e_cl, e_leT, e_leF, e_ltT, e_ltF, e_eqT, e_eqF, e_NOT, e_NOF, nI_add, pk_mul, k_spot, k_chan, m_node, m_pair, m_msg, m_chan, m_pack, e_w, e_wn, e_ws]
    by_cases q1 : num (σ 21 (sp n a)) = num (σ 21 (sp n b))
    · rw [cnd_pos q1, cnd_neg (fun q2 => he (heq.mp ⟨q1, q2⟩))]; exact h38 _ rfl
    · rw [cnd_neg q1]; exact h38 _ rfl
theorem m_in12 {k : Nat} (hk : k ≤ 3) : fX12_in (nI k) (nI 1) (nI 2) = b2 (decide (k = 1) || decide (k = 2)) := by
  rcases (show k = 0 ∨ k = 1 ∨ k = 2 ∨ k = 3 by omega) with rfl | rfl | rfl | rfl
  all_goals simp (disch := first | omega | (simp only [pN, pP, pM, pE, pL, pC, pK, sp]; omega)) only [u_fX12_in, u_fX12_in_0, e_T, e_F, e_bnd, e_obr, e_obd, e_obt, e_addB, e_addA, e_in, e_cl, e_leT, e_leF, e_ltT, e_ltF, e_eqT, e_eqF, e_NOT, e_NOF, nI_add, pk_mul, k_spot, k_chan, m_node, m_pair, m_msg, m_chan, m_pack, e_w, e_wn, e_ws]; rfl
theorem pend_k {n m k : Nat} (hk : k ≤ 3) (h : σ 20 (sp n m) = nI k) : pend σ n m = (decide (k = 1) || decide (k = 2)) := by
  unfold pend
  rw [h]
  rcases (show k = 0 ∨ k = 1 ∨ k = 2 ∨ k = 3 by omega) with rfl | rfl | rfl | rfl <;> decide +kernel
theorem m_least_lp {n : Nat} (h : R0 dr tk pl N G M T B Q Dl σ ω) (hn : n < 6) : ∀ r i f, i + r = M → r < f → fX12_leastOf_4 (sq u 1 ω) f (nI n) (oI (lsO σ n i)) (nI i) = some (oI (lsO σ n M)) := by
  have hM := h.1.1.2.2.1
  have z3 := h.1.2.2.2.1.2
  intro r
  induction r with
  | zero =>
    intro i f hi hf
    obtain ⟨f, rfl⟩ : ∃ k, f = k + 1 := ⟨f - 1, by omega⟩
    have hi : i = M := by omega
    subst hi
    simp (disch := first | omega | (simp only [pN, pP, pM, pE, pL, pC, pK, sp]; omega)) only [u_fX12_leastOf_4, m_messages, z3, e_T, e_F, e_bnd, e_obr, e_obd, e_obt, e_addB, e_addA, e_in, e_cl, e_leT, e_leF, e_ltT, e_ltF, e_eqT, e_eqF, e_NOT, e_NOF, nI_add, pk_mul, k_spot, k_chan, m_node, m_pair, m_msg, m_chan, m_pack, e_w, e_wn, e_ws]
  | succ r ih =>
    intro i f hi hf
    obtain ⟨f, rfl⟩ : ∃ k, f = k + 1 := ⟨f - 1, by omega⟩
    have ih := ih (i + 1) f (by omega) (by omega)
    rw [lsO_s] at ih
    obtain ⟨⟨k, k1, k2, k3, -⟩, -⟩ := h.2.2.1 n i hn (by omega)
    have hpk := pend_k k1 k2
    cases hp : pend σ n i with
    | false =>
      rw [if_neg (by rw [hp]; decide)] at ih
      rw [hp] at hpk
      simp (disch := first | omega | (simp only [pN, pP, pM, pE, pL, pC, pK, sp]; omega)) only [u_fX12_leastOf_4, u_fX12_leastOf_44, m_messages, z3, m_ofPair, k3, m_in12 k1, ← hpk, b2_f, e_T, e_F, e_bnd, e_obr, e_obd, e_obt, e_addB, e_addA, e_in, e_cl, e_leT, e_leF, e_ltT, e_ltF, e_eqT, e_eqF, e_NOT, e_NOF, nI_add, pk_mul, k_spot, k_chan, m_node, m_pair, m_msg, m_chan, m_pack, e_w, e_wn, e_ws]
      exact ih
    | true =>
      rw [if_pos hp] at ih
      rw [hp] at hpk
      cases hl : lsO σ n i with
      | none =>
        rw [hl] at ih
        simp (disch := first | omega | (simp only [pN, pP, pM, pE, pL, pC, pK, sp]; omega)) only [u_fX12_leastOf_4, u_fX12_leastOf_42, u_fX12_leastOf_44, m_messages, z3, m_ofPair, k3, m_in12 k1, ← hpk, b2_t, oI, e_T, e_F, e_bnd, e_obr, e_obd, e_obt, e_addB, e_addA, e_in, e_cl, e_leT, e_leF, e_ltT, e_ltF, e_eqT, e_eqF, e_NOT, e_NOF, nI_add, pk_mul, k_spot, k_chan, m_node, m_pair, m_msg, m_chan, m_pack, e_w, e_wn, e_ws]
        exact ih
      | some j =>
        have hj := (lsO_some hl).1
        rw [hl] at ih
        have hah := m_isAhead (u := u) (n := n) (a := i) (b := j) h hn (by omega) (by omega)
        rw [decide_eq_false (show ¬ i < j by omega), Bool.and_false, Bool.or_false] at hah
        simp (disch := first | omega | (simp only [pN, pP, pM, pE, pL, pC, pK, sp]; omega)) only [u_fX12_leastOf_4, u_fX12_leastOf_42, u_fX12_leastOf_44, m_messages, z3, m_ofPair, k3, m_in12 k1, ← hpk, b2_t, oI, hah, e_T, e_F, e_bnd, e_obr, e_obd, e_obt, e_addB, e_addA, e_in, e_cl, e_leT, e_leF, e_ltT, e_ltF, e_eqT, e_eqF, e_NOT, e_NOF, nI_add, pk_mul, k_spot, k_chan, m_node, m_pair, m_msg, m_chan, m_pack, e_w, e_wn, e_ws]
        have e1 : upO σ n i (some j) = if σ 21 (sp n i) < σ 21 (sp n j) then some i else some j := rfl
        rw [e1] at ih
        by_cases hlt : σ 21 (sp n i) < σ 21 (sp n j)
        · rw [if_pos hlt] at ih
          rw [decide_eq_true hlt, e_b2T rfl]; exact ih
        · rw [if_neg hlt] at ih
          rw [decide_eq_false hlt, e_b2F rfl]; exact ih
theorem m_least {n : Nat} (h : R0 dr tk pl N G M T B Q Dl σ ω) (hn : n < 6) : fX12_leastOf (nI n) (sq u 1 ω) = some (oI (lsO σ n M)) := by
  have hM := h.1.1.2.2.1
  exact m_least_lp h hn M 0 FU (by omega) (by show M < 100000; omega)
/-- one message is handed out: both sides -/
def hdS (σ : Sg) (n j L : Nat) : Sg := s2 (s2 (s2 (s2 σ 20 (sp n j) (nI 3)) 23 (sp n j) (σ 0 3)) 24 (sp n L) (nI j)) 25 n (nI (L + 1))
def hdW (ω : Nat → Int32) (n j L : Nat) : Nat → Int32 := upd (upd (upd (upd ω (pP n j 0) (nI 3)) (pP n j 4) (ω 4)) (pN n (5 + L)) (nI j)) (pN n 4) (nI (L + 1))
def uD (Dl : Nat → List Nat) (n : Nat) (l : List Nat) : Nat → List Nat := fun a => if a = n then l else Dl a
theorem s_hand {n j : Nat} (h : R0 dr tk pl N G M T B Q Dl σ ω) (hl : ∀ c, c < 36 → (Q c).length ≤ 110) (hn : n < N) (hj : j < M) (hk : σ 20 (sp n j) = nI 2) :
    (Dl n).length < 20 ∧ fX4_handOut (nI n) (nI j) (σ 0 3) σ = some (hdS σ n j (Dl n).length) ∧ ω (pN n 4) = nI (Dl n).length ∧ R0 dr tk pl N G M T B Q (uD Dl n (Dl n ++ [j])) (hdS σ n j (Dl n).length) (hdW ω n j (Dl n).length) := by
  obtain ⟨hS, hN, hP, hD, hM, hE, hL, hC, hQ, hO, hB⟩ := h
  have h6 := hS.1.1
  have hM20 := hS.1.2.2.1
  have hT := hS.1.2.2.2
  have hsp : sp n j < 120 := by unfold sp; omega
  obtain ⟨d1, d2, d3, d4, d5⟩ := hD n (by omega)
  have hjn : j ∉ Dl n := fun q => by
    have := ((d2 j).mp q).2
    rw [hk] at this; exact absurd this (by decide)
  have hnd : (Dl n ++ [j]).Nodup := by
    rw [List.nodup_append]
    refine ⟨d1, by simp, fun a ha b hb => ?_⟩
    rw [List.mem_singleton] at hb
    subst hb
    exact fun q => hjn (q ▸ ha)
  have hlt : (Dl n).length < 20 := by
    have hsub : (Dl n ++ [j]) ⊆ List.range 20 := fun m hm => by
      rw [List.mem_append, List.mem_singleton] at hm
      rw [List.mem_range]
      rcases hm with hm | rfl
      · exact ((d2 m).mp hm).1
      · omega
    have := List.Nodup.length_le_of_subset hnd hsub
    rw [List.length_range, List.length_append] at this
    simp only [List.length_cons, List.length_nil] at this
    omega
  generalize hLn : (Dl n).length = L at *
  have hspL : sp n L < 120 := by unfold sp; omega
  have c : fc [20, 23, 24, 25] σ (hdS σ n j L) := fc_tr (fc_tr (fc_tr (fc_s2 _ _ _ _) (fc_s2 _ _ _ _)) (fc_s2 _ _ _ _)) (fc_s2 _ _ _ _)
  have fw : ∀ i, i ≠ pP n j 0 → i ≠ pP n j 4 → i ≠ pN n (5 + L) → i ≠ pN n 4 → hdW ω n j L i = ω i := fun i h1 h2 h3 h4 => by
    unfold hdW; rw [pk_un h4, pk_un h3, pk_un h2, pk_un h1]
  refine ⟨hlt, ?_, d4, ?_⟩
  · simp (disch := first | omega | (simp only [pN, pP, pM, pE, pL, pC, pK, sp]; omega)) only [u_fX4_handOut, u_fX4_handOut_0, d3, hdS, e_T, e_F, e_bnd, e_obr, e_obd, e_obt, e_addB, e_addA, e_in, e_cl, e_leT, e_leF, e_ltT, e_ltF, e_eqT, e_eqF, e_NOT, e_NOF, nI_add, pk_mul, k_spot, k_chan, m_node, m_pair, m_msg, m_chan, m_pack, e_w, e_wn, e_ws, e_s2, e_s2n, pk_us, pk_un]
  · have e20 : ∀ i, i ≠ sp n j → hdS σ n j L 20 i = σ 20 i := fun i hi => by unfold hdS; simp (disch := first | omega | (simp only [pN, pP, pM, pE, pL, pC, pK, sp]; omega)) only [e_s2, e_s2n, pk_us, pk_un]
    have e20' : hdS σ n j L 20 (sp n j) = nI 3 := by unfold hdS; simp (disch := first | omega | (simp only [pN, pP, pM, pE, pL, pC, pK, sp]; omega)) only [e_s2, e_s2n, pk_us, pk_un]
    refine ⟨rS_fr hS (by rw [c 0 (by decide)]; exact ⟨rfl, rfl, rfl, rfl, rfl, rfl, rfl, rfl⟩) (fun g _ => by rw [c 1 (by decide)]) (by rw [c 13 (by decide)]) (fun i hi h7 h9 => fw _ (by first | omega | exact pN_pN (by omega) (by omega) (by omega) | exact pP_pN (by omega) (by omega) (by omega) | exact (pP_pN (by omega) (by omega) (by omega)).symm | exact pP_pP (by omega) (by omega) (by omega) (by omega) (by omega) | (simp only [pN, pP, pM, pE, pL, pC, pK, sp]; omega)) (by first | omega | exact pN_pN (by omega) (by omega) (by omega) | exact pP_pN (by omega) (by omega) (by omega) | exact (pP_pN (by omega) (by omega) (by omega)).symm | exact pP_pP (by omega) (by omega) (by omega) (by omega) (by omega) | (simp only [pN, pP, pM, pE, pL, pC, pK, sp]; omega)) (by first | omega | exact pN_pN (by omega) (by omega) (by omega) | exact pP_pN (by omega) (by omega) (by omega) | exact (pP_pN (by omega) (by omega) (by omega)).symm | exact pP_pP (by omega) (by omega) (by omega) (by omega) (by omega) | (simp only [pN, pP, pM, pE, pL, pC, pK, sp]; omega)) (by first | omega | exact pN_pN (by omega) (by omega) (by omega) | exact pP_pN (by omega) (by omega) (by omega) | exact (pP_pN (by omega) (by omega) (by omega)).symm | exact pP_pP (by omega) (by omega) (by omega) (by omega) (by omega) | (simp only [pN, pP, pM, pE, pL, pC, pK, sp]; omega))), rN_fr hN (fun n _ => by rw [c 2 (by decide), c 3 (by decide), c 4 (by decide)]; exact ⟨rfl, rfl, rfl⟩) (fun n w hn hw => fw _ (by first | omega | exact pN_pN (by omega) (by omega) (by omega) | exact pP_pN (by omega) (by omega) (by omega) | exact (pP_pN (by omega) (by omega) (by omega)).symm | exact pP_pP (by omega) (by omega) (by omega) (by omega) (by omega) | (simp only [pN, pP, pM, pE, pL, pC, pK, sp]; omega)) (by first | omega | exact pN_pN (by omega) (by omega) (by omega) | exact pP_pN (by omega) (by omega) (by omega) | exact (pP_pN (by omega) (by omega) (by omega)).symm | exact pP_pP (by omega) (by omega) (by omega) (by omega) (by omega) | (simp only [pN, pP, pM, pE, pL, pC, pK, sp]; omega)) (by first | omega | exact pN_pN (by omega) (by omega) (by omega) | exact pP_pN (by omega) (by omega) (by omega) | exact (pP_pN (by omega) (by omega) (by omega)).symm | exact pP_pP (by omega) (by omega) (by omega) (by omega) (by omega) | (simp only [pN, pP, pM, pE, pL, pC, pK, sp]; omega)) (by first | omega | exact pN_pN (by omega) (by omega) (by omega) | exact pP_pN (by omega) (by omega) (by omega) | exact (pP_pN (by omega) (by omega) (by omega)).symm | exact pP_pP (by omega) (by omega) (by omega) (by omega) (by omega) | (simp only [pN, pP, pM, pE, pL, pC, pK, sp]; omega))), ?_, ?_, rM_fr hM (fun m _ => by rw [c 14 (by decide), c 15 (by decide), c 16 (by decide), c 17 (by decide), c 18 (by decide)]; exact ⟨rfl, rfl, rfl, rfl, rfl⟩) (fun m w hm hw => fw _ (by first | omega | exact pN_pN (by omega) (by omega) (by omega) | exact pP_pN (by omega) (by omega) (by omega) | exact (pP_pN (by omega) (by omega) (by omega)).symm | exact pP_pP (by omega) (by omega) (by omega) (by omega) (by omega) | (simp only [pN, pP, pM, pE, pL, pC, pK, sp]; omega)) (by first | omega | exact pN_pN (by omega) (by omega) (by omega) | exact pP_pN (by omega) (by omega) (by omega) | exact (pP_pN (by omega) (by omega) (by omega)).symm | exact pP_pP (by omega) (by omega) (by omega) (by omega) (by omega) | (simp only [pN, pP, pM, pE, pL, pC, pK, sp]; omega)) (by first | omega | exact pN_pN (by omega) (by omega) (by omega) | exact pP_pN (by omega) (by omega) (by omega) | exact (pP_pN (by omega) (by omega) (by omega)).symm | exact pP_pP (by omega) (by omega) (by omega) (by omega) (by omega) | (simp only [pN, pP, pM, pE, pL, pC, pK, sp]; omega)) (by first | omega | exact pN_pN (by omega) (by omega) (by omega) | exact pP_pN (by omega) (by omega) (by omega) | exact (pP_pN (by omega) (by omega) (by omega)).symm | exact pP_pP (by omega) (by omega) (by omega) (by omega) (by omega) | (simp only [pN, pP, pM, pE, pL, pC, pK, sp]; omega))), rE_fr hE (by rw [c 30 (by decide)]) (fun k _ => by rw [c 31 (by decide), c 32 (by decide), c 33 (by decide)]; exact ⟨rfl, rfl, rfl⟩) (fw _ (by first | omega | exact pN_pN (by omega) (by omega) (by omega) | exact pP_pN (by omega) (by omega) (by omega) | exact (pP_pN (by omega) (by omega) (by omega)).symm | exact pP_pP (by omega) (by omega) (by omega) (by omega) (by omega) | (simp only [pN, pP, pM, pE, pL, pC, pK, sp]; omega)) (by first | omega | exact pN_pN (by omega) (by omega) (by omega) | exact pP_pN (by omega) (by omega) (by omega) | exact (pP_pN (by omega) (by omega) (by omega)).symm | exact pP_pP (by omega) (by omega) (by omega) (by omega) (by omega) | (simp only [pN, pP, pM, pE, pL, pC, pK, sp]; omega)) (by first | omega | exact pN_pN (by omega) (by omega) (by omega) | exact pP_pN (by omega) (by omega) (by omega) | exact (pP_pN (by omega) (by omega) (by omega)).symm | exact pP_pP (by omega) (by omega) (by omega) (by omega) (by omega) | (simp only [pN, pP, pM, pE, pL, pC, pK, sp]; omega)) (by first | omega | exact pN_pN (by omega) (by omega) (by omega) | exact pP_pN (by omega) (by omega) (by omega) | exact (pP_pN (by omega) (by omega) (by omega)).symm | exact pP_pP (by omega) (by omega) (by omega) (by omega) (by omega) | (simp only [pN, pP, pM, pE, pL, pC, pK, sp]; omega))) (fun k w hk hw => fw _ (by first | omega | exact pN_pN (by omega) (by omega) (by omega) | exact pP_pN (by omega) (by omega) (by omega) | exact (pP_pN (by omega) (by omega) (by omega)).symm | exact pP_pP (by omega) (by omega) (by omega) (by omega) (by omega) | (simp only [pN, pP, pM, pE, pL, pC, pK, sp]; omega)) (by first | omega | exact pN_pN (by omega) (by omega) (by omega) | exact pP_pN (by omega) (by omega) (by omega) | exact (pP_pN (by omega) (by omega) (by omega)).symm | exact pP_pP (by omega) (by omega) (by omega) (by omega) (by omega) | (simp only [pN, pP, pM, pE, pL, pC, pK, sp]; omega)) (by first | omega | exact pN_pN (by omega) (by omega) (by omega) | exact pP_pN (by omega) (by omega) (by omega) | exact (pP_pN (by omega) (by omega) (by omega)).symm | exact pP_pP (by omega) (by omega) (by omega) (by omega) (by omega) | (simp only [pN, pP, pM, pE, pL, pC, pK, sp]; omega)) (by first | omega | exact pN_pN (by omega) (by omega) (by omega) | exact pP_pN (by omega) (by omega) (by omega) | exact (pP_pN (by omega) (by omega) (by omega)).symm | exact pP_pP (by omega) (by omega) (by omega) (by omega) (by omega) | (simp only [pN, pP, pM, pE, pL, pC, pK, sp]; omega))), rL_fr hL (by rw [c 34 (by decide)]; exact ⟨rfl, rfl⟩) (fun i _ => by rw [c 35 (by decide)]) (fw _ (by first | omega | exact pN_pN (by omega) (by omega) (by omega) | exact pP_pN (by omega) (by omega) (by omega) | exact (pP_pN (by omega) (by omega) (by omega)).symm | exact pP_pP (by omega) (by omega) (by omega) (by omega) (by omega) | (simp only [pN, pP, pM, pE, pL, pC, pK, sp]; omega)) (by first | omega | exact pN_pN (by omega) (by omega) (by omega) | exact pP_pN (by omega) (by omega) (by omega) | exact (pP_pN (by omega) (by omega) (by omega)).symm | exact pP_pP (by omega) (by omega) (by omega) (by omega) (by omega) | (simp only [pN, pP, pM, pE, pL, pC, pK, sp]; omega)) (by first | omega | exact pN_pN (by omega) (by omega) (by omega) | exact pP_pN (by omega) (by omega) (by omega) | exact (pP_pN (by omega) (by omega) (by omega)).symm | exact pP_pP (by omega) (by omega) (by omega) (by omega) (by omega) | (simp only [pN, pP, pM, pE, pL, pC, pK, sp]; omega)) (by first | omega | exact pN_pN (by omega) (by omega) (by omega) | exact pP_pN (by omega) (by omega) (by omega) | exact (pP_pN (by omega) (by omega) (by omega)).symm | exact pP_pP (by omega) (by omega) (by omega) (by omega) (by omega) | (simp only [pN, pP, pM, pE, pL, pC, pK, sp]; omega))) (fun k w hk hw => fw _ (by first | omega | exact pN_pN (by omega) (by omega) (by omega) | exact pP_pN (by omega) (by omega) (by omega) | exact (pP_pN (by omega) (by omega) (by omega)).symm | exact pP_pP (by omega) (by omega) (by omega) (by omega) (by omega) | (simp only [pN, pP, pM, pE, pL, pC, pK, sp]; omega)) (by first | omega | exact pN_pN (by omega) (by omega) (by omega) | exact pP_pN (by omega) (by omega) (by omega) | exact (pP_pN (by omega) (by omega) (by omega)).symm | exact pP_pP (by omega) (by omega) (by omega) (by omega) (by omega) | (simp only [pN, pP, pM, pE, pL, pC, pK, sp]; omega)) (by first | omega | exact pN_pN (by omega) (by omega) (by omega) | exact pP_pN (by omega) (by omega) (by omega) | exact (pP_pN (by omega) (by omega) (by omega)).symm | exact pP_pP (by omega) (by omega) (by omega) (by omega) (by omega) | (simp only [pN, pP, pM, pE, pL, pC, pK, sp]; omega)) (by first | omega | exact pN_pN (by omega) (by omega) (by omega) | exact pP_pN (by omega) (by omega) (by omega) | exact (pP_pN (by omega) (by omega) (by omega)).symm | exact pP_pP (by omega) (by omega) (by omega) (by omega) (by omega) | (simp only [pN, pP, pM, pE, pL, pC, pK, sp]; omega))), rC_fr hC (fun x hx => Nat.le_trans (hl x hx) (by omega)) (fun x _ => by rw [c 6 (by decide), c 7 (by decide), c 8 (by decide)]; exact ⟨rfl, rfl, rfl⟩) (fun x w hx hw => fw _ (by first | omega | exact pN_pN (by omega) (by omega) (by omega) | exact pP_pN (by omega) (by omega) (by omega) | exact (pP_pN (by omega) (by omega) (by omega)).symm | exact pP_pP (by omega) (by omega) (by omega) (by omega) (by omega) | (simp only [pN, pP, pM, pE, pL, pC, pK, sp]; omega)) (by first | omega | exact pN_pN (by omega) (by omega) (by omega) | exact pP_pN (by omega) (by omega) (by omega) | exact (pP_pN (by omega) (by omega) (by omega)).symm | exact pP_pP (by omega) (by omega) (by omega) (by omega) (by omega) | (simp only [pN, pP, pM, pE, pL, pC, pK, sp]; omega)) (by first | omega | exact pN_pN (by omega) (by omega) (by omega) | exact pP_pN (by omega) (by omega) (by omega) | exact (pP_pN (by omega) (by omega) (by omega)).symm | exact pP_pP (by omega) (by omega) (by omega) (by omega) (by omega) | (simp only [pN, pP, pM, pE, pL, pC, pK, sp]; omega)) (by first | omega | exact pN_pN (by omega) (by omega) (by omega) | exact pP_pN (by omega) (by omega) (by omega) | exact (pP_pN (by omega) (by omega) (by omega)).symm | exact pP_pP (by omega) (by omega) (by omega) (by omega) (by omega) | (simp only [pN, pP, pM, pE, pL, pC, pK, sp]; omega))), hQ, rO_fr hO (by rw [c 5 (by decide)]; exact ⟨rfl, rfl⟩) (fun x _ => by rw [c 9 (by decide), c 11 (by decide), c 12 (by decide)]; exact ⟨rfl, rfl, rfl⟩) (fun i _ => by rw [c 10 (by decide)]), ?_⟩
    · refine rP_up hP (n₀ := n) (m₀ := j) (by omega) (fun q i hq hi => ?_) (fun a b w ha hb hw e => fw _ (by first | omega | exact pN_pN (by omega) (by omega) (by omega) | exact pP_pN (by omega) (by omega) (by omega) | exact (pP_pN (by omega) (by omega) (by omega)).symm | exact pP_pP (by omega) (by omega) (by omega) (by omega) (by omega) | (simp only [pN, pP, pM, pE, pL, pC, pK, sp]; omega)) (by first | omega | exact pN_pN (by omega) (by omega) (by omega) | exact pP_pN (by omega) (by omega) (by omega) | exact (pP_pN (by omega) (by omega) (by omega)).symm | exact pP_pP (by omega) (by omega) (by omega) (by omega) (by omega) | (simp only [pN, pP, pM, pE, pL, pC, pK, sp]; omega)) (by first | omega | exact pN_pN (by omega) (by omega) (by omega) | exact pP_pN (by omega) (by omega) (by omega) | exact (pP_pN (by omega) (by omega) (by omega)).symm | exact pP_pP (by omega) (by omega) (by omega) (by omega) (by omega) | (simp only [pN, pP, pM, pE, pL, pC, pK, sp]; omega)) (by first | omega | exact pN_pN (by omega) (by omega) (by omega) | exact pP_pN (by omega) (by omega) (by omega) | exact (pP_pN (by omega) (by omega) (by omega)).symm | exact pP_pP (by omega) (by omega) (by omega) (by omega) (by omega) | (simp only [pN, pP, pM, pE, pL, pC, pK, sp]; omega))) ?_
      · simp only [List.mem_cons, List.not_mem_nil, or_false] at hq
        rcases hq with rfl | rfl | rfl | rfl | rfl | rfl | rfl <;> (unfold hdS; simp (disch := first | omega | (simp only [pN, pP, pM, pE, pL, pC, pK, sp]; omega)) only [e_s2, e_s2n, pk_us, pk_un])
      · refine rP1_h (hP n j (by omega) (by omega)) (by rw [c 27 (by decide)]) (by rw [c 28 (by decide)]) (by rw [c 29 (by decide)]) (fun w h1 h2 => fw _ (by first | omega | exact pN_pN (by omega) (by omega) (by omega) | exact pP_pN (by omega) (by omega) (by omega) | exact (pP_pN (by omega) (by omega) (by omega)).symm | exact pP_pP (by omega) (by omega) (by omega) (by omega) (by omega) | (simp only [pN, pP, pM, pE, pL, pC, pK, sp]; omega)) (by first | omega | exact pN_pN (by omega) (by omega) (by omega) | exact pP_pN (by omega) (by omega) (by omega) | exact (pP_pN (by omega) (by omega) (by omega)).symm | exact pP_pP (by omega) (by omega) (by omega) (by omega) (by omega) | (simp only [pN, pP, pM, pE, pL, pC, pK, sp]; omega)) (by first | omega | exact pN_pN (by omega) (by omega) (by omega) | exact pP_pN (by omega) (by omega) (by omega) | exact (pP_pN (by omega) (by omega) (by omega)).symm | exact pP_pP (by omega) (by omega) (by omega) (by omega) (by omega) | (simp only [pN, pP, pM, pE, pL, pC, pK, sp]; omega)) (by first | omega | exact pN_pN (by omega) (by omega) (by omega) | exact pP_pN (by omega) (by omega) (by omega) | exact (pP_pN (by omega) (by omega) (by omega)).symm | exact pP_pP (by omega) (by omega) (by omega) (by omega) (by omega) | (simp only [pN, pP, pM, pE, pL, pC, pK, sp]; omega))) ⟨3, by omega, e20', ?_, fun _ => ?_, fun _ => ⟨T, Nat.le_refl _, ?_, ?_⟩⟩ ?_ ?_
        · unfold hdW; rw [pk_un (by first | omega | exact pN_pN (by omega) (by omega) (by omega) | exact pP_pN (by omega) (by omega) (by omega) | exact (pP_pN (by omega) (by omega) (by omega)).symm | exact pP_pP (by omega) (by omega) (by omega) (by omega) (by omega) | (simp only [pN, pP, pM, pE, pL, pC, pK, sp]; omega)), pk_un (by first | omega | exact pN_pN (by omega) (by omega) (by omega) | exact pP_pN (by omega) (by omega) (by omega) | exact (pP_pN (by omega) (by omega) (by omega)).symm | exact pP_pP (by omega) (by omega) (by omega) (by omega) (by omega) | (simp only [pN, pP, pM, pE, pL, pC, pK, sp]; omega)), pk_un (by first | omega | exact pN_pN (by omega) (by omega) (by omega) | exact pP_pN (by omega) (by omega) (by omega) | exact (pP_pN (by omega) (by omega) (by omega)).symm | exact pP_pP (by omega) (by omega) (by omega) (by omega) (by omega) | (simp only [pN, pP, pM, pE, pL, pC, pK, sp]; omega)), pk_us]
        · obtain ⟨⟨k, k1, k2, k3, k4, -⟩, -⟩ := hP n j (by omega) (by omega)
          have hk2 : k = 2 := (nI_eq (by omega) (by omega)).mp (k2.symm.trans hk)
          rw [c 22 (by decide)]; exact k4 (by omega)
        · unfold hdS; simp (disch := first | omega | (simp only [pN, pP, pM, pE, pL, pC, pK, sp]; omega)) only [e_s2, e_s2n, pk_us, pk_un]; exact hS.2.2.2.2.1.1
        · unfold hdW; rw [pk_un (by first | omega | exact pN_pN (by omega) (by omega) (by omega) | exact pP_pN (by omega) (by omega) (by omega) | exact (pP_pN (by omega) (by omega) (by omega)).symm | exact pP_pP (by omega) (by omega) (by omega) (by omega) (by omega) | (simp only [pN, pP, pM, pE, pL, pC, pK, sp]; omega)), pk_un (by first | omega | exact pN_pN (by omega) (by omega) (by omega) | exact pP_pN (by omega) (by omega) (by omega) | exact (pP_pN (by omega) (by omega) (by omega)).symm | exact pP_pP (by omega) (by omega) (by omega) (by omega) (by omega) | (simp only [pN, pP, pM, pE, pL, pC, pK, sp]; omega)), pk_us]; exact hS.2.2.2.2.1.2
        · rw [c 21 (by decide), fw (pP n j 1) (by first | omega | exact pN_pN (by omega) (by omega) (by omega) | exact pP_pN (by omega) (by omega) (by omega) | exact (pP_pN (by omega) (by omega) (by omega)).symm | exact pP_pP (by omega) (by omega) (by omega) (by omega) (by omega) | (simp only [pN, pP, pM, pE, pL, pC, pK, sp]; omega)) (by first | omega | exact pN_pN (by omega) (by omega) (by omega) | exact pP_pN (by omega) (by omega) (by omega) | exact (pP_pN (by omega) (by omega) (by omega)).symm | exact pP_pP (by omega) (by omega) (by omega) (by omega) (by omega) | (simp only [pN, pP, pM, pE, pL, pC, pK, sp]; omega)) (by first | omega | exact pN_pN (by omega) (by omega) (by omega) | exact pP_pN (by omega) (by omega) (by omega) | exact (pP_pN (by omega) (by omega) (by omega)).symm | exact pP_pP (by omega) (by omega) (by omega) (by omega) (by omega) | (simp only [pN, pP, pM, pE, pL, pC, pK, sp]; omega)) (by first | omega | exact pN_pN (by omega) (by omega) (by omega) | exact pP_pN (by omega) (by omega) (by omega) | exact (pP_pN (by omega) (by omega) (by omega)).symm | exact pP_pP (by omega) (by omega) (by omega) (by omega) (by omega) | (simp only [pN, pP, pM, pE, pL, pC, pK, sp]; omega)), fw (pP n j 2) (by first | omega | exact pN_pN (by omega) (by omega) (by omega) | exact pP_pN (by omega) (by omega) (by omega) | exact (pP_pN (by omega) (by omega) (by omega)).symm | exact pP_pP (by omega) (by omega) (by omega) (by omega) (by omega) | (simp only [pN, pP, pM, pE, pL, pC, pK, sp]; omega)) (by first | omega | exact pN_pN (by omega) (by omega) (by omega) | exact pP_pN (by omega) (by omega) (by omega) | exact (pP_pN (by omega) (by omega) (by omega)).symm | exact pP_pP (by omega) (by omega) (by omega) (by omega) (by omega) | (simp only [pN, pP, pM, pE, pL, pC, pK, sp]; omega)) (by first | omega | exact pN_pN (by omega) (by omega) (by omega) | exact pP_pN (by omega) (by omega) (by omega) | exact (pP_pN (by omega) (by omega) (by omega)).symm | exact pP_pP (by omega) (by omega) (by omega) (by omega) (by omega) | (simp only [pN, pP, pM, pE, pL, pC, pK, sp]; omega)) (by first | omega | exact pN_pN (by omega) (by omega) (by omega) | exact pP_pN (by omega) (by omega) (by omega) | exact (pP_pN (by omega) (by omega) (by omega)).symm | exact pP_pP (by omega) (by omega) (by omega) (by omega) (by omega) | (simp only [pN, pP, pM, pE, pL, pC, pK, sp]; omega))]; exact (hP n j (by omega) (by omega)).2.1
        · rw [c 22 (by decide), fw (pP n j 3) (by first | omega | exact pN_pN (by omega) (by omega) (by omega) | exact pP_pN (by omega) (by omega) (by omega) | exact (pP_pN (by omega) (by omega) (by omega)).symm | exact pP_pP (by omega) (by omega) (by omega) (by omega) (by omega) | (simp only [pN, pP, pM, pE, pL, pC, pK, sp]; omega)) (by first | omega | exact pN_pN (by omega) (by omega) (by omega) | exact pP_pN (by omega) (by omega) (by omega) | exact (pP_pN (by omega) (by omega) (by omega)).symm | exact pP_pP (by omega) (by omega) (by omega) (by omega) (by omega) | (simp only [pN, pP, pM, pE, pL, pC, pK, sp]; omega)) (by first | omega | exact pN_pN (by omega) (by omega) (by omega) | exact pP_pN (by omega) (by omega) (by omega) | exact (pP_pN (by omega) (by omega) (by omega)).symm | exact pP_pP (by omega) (by omega) (by omega) (by omega) (by omega) | (simp only [pN, pP, pM, pE, pL, pC, pK, sp]; omega)) (by first | omega | exact pN_pN (by omega) (by omega) (by omega) | exact pP_pN (by omega) (by omega) (by omega) | exact (pP_pN (by omega) (by omega) (by omega)).symm | exact pP_pP (by omega) (by omega) (by omega) (by omega) (by omega) | (simp only [pN, pP, pM, pE, pL, pC, pK, sp]; omega))]; exact (hP n j (by omega) (by omega)).2.2.1
    · intro a ha
      by_cases ea : a = n
      · subst ea
        have eD : uD Dl a (Dl a ++ [j]) a = Dl a ++ [j] := if_pos rfl
        rw [eD]
        refine ⟨hnd, fun m => ?_, ?_, ?_, fun k m hk' => ?_⟩
        · rw [List.mem_append, List.mem_singleton]
          by_cases em : m = j
          · subst em
            rw [e20']
            exact ⟨fun _ => ⟨by omega, rfl⟩, fun _ => Or.inr rfl⟩
          · constructor
            · rintro (hm | hm)
              · have := (d2 m).mp hm
                exact ⟨this.1, by rw [e20 _ (fun q => em (sp_inj this.1 (by omega) q).2)]; exact this.2⟩
              · exact absurd hm em
            · rintro ⟨h1, h2⟩
              rw [e20 _ (fun q => em (sp_inj h1 (by omega) q).2)] at h2
              exact Or.inl ((d2 m).mpr ⟨h1, h2⟩)
        · rw [List.length_append, hLn]; unfold hdS; simp only [e_s2, e_s2n, pk_us, pk_un]; rfl
        · rw [List.length_append, hLn]; unfold hdW; rw [pk_us]; rfl
        · rcases Nat.lt_or_ge k L with hlt' | hge
          · rw [List.getElem?_append_left (by omega)] at hk'
            obtain ⟨y1, y2, y3⟩ := d5 k m hk'
            have hmj : m ≠ j := fun q => hjn (q ▸ List.mem_of_getElem? hk')
            have hm20 := ((d2 m).mp (List.mem_of_getElem? hk')).1
            have hsm : sp a m ≠ sp a j := fun q => hmj (sp_inj hm20 (by omega) q).2
            refine ⟨?_, ?_, ?_⟩
            · rw [← y1]; unfold hdS; simp (disch := first | omega | (simp only [pN, pP, pM, pE, pL, pC, pK, sp]; omega)) only [e_s2, e_s2n, pk_us, pk_un]
            · rw [fw _ (by first | omega | exact pN_pN (by omega) (by omega) (by omega) | exact pP_pN (by omega) (by omega) (by omega) | exact (pP_pN (by omega) (by omega) (by omega)).symm | exact pP_pP (by omega) (by omega) (by omega) (by omega) (by omega) | (simp only [pN, pP, pM, pE, pL, pC, pK, sp]; omega)) (by first | omega | exact pN_pN (by omega) (by omega) (by omega) | exact pP_pN (by omega) (by omega) (by omega) | exact (pP_pN (by omega) (by omega) (by omega)).symm | exact pP_pP (by omega) (by omega) (by omega) (by omega) (by omega) | (simp only [pN, pP, pM, pE, pL, pC, pK, sp]; omega)) (by first | omega | exact pN_pN (by omega) (by omega) (by omega) | exact pP_pN (by omega) (by omega) (by omega) | exact (pP_pN (by omega) (by omega) (by omega)).symm | exact pP_pP (by omega) (by omega) (by omega) (by omega) (by omega) | (simp only [pN, pP, pM, pE, pL, pC, pK, sp]; omega)) (by first | omega | exact pN_pN (by omega) (by omega) (by omega) | exact pP_pN (by omega) (by omega) (by omega) | exact (pP_pN (by omega) (by omega) (by omega)).symm | exact pP_pP (by omega) (by omega) (by omega) (by omega) (by omega) | (simp only [pN, pP, pM, pE, pL, pC, pK, sp]; omega))]; exact y2
            · unfold wh
              rw [c 17 (by decide), show hdS σ a j L 23 (sp a m) = σ 23 (sp a m) from by unfold hdS; simp (disch := first | omega | exact hsm) only [e_s2, e_s2n, pk_us, pk_un]]
              exact y3
          · have hlen := (List.getElem?_eq_some_iff.mp hk').1
            rw [List.length_append, hLn] at hlen
            simp only [List.length_cons, List.length_nil] at hlen
            have hkL : k = L := by omega
            subst hkL
            rw [List.getElem?_append_right (by omega), hLn, Nat.sub_self] at hk'
            cases hk'
            refine ⟨?_, ?_, ?_⟩
            · unfold hdS; simp (disch := first | omega | (simp only [pN, pP, pM, pE, pL, pC, pK, sp]; omega)) only [e_s2, e_s2n, pk_us, pk_un]
            · unfold hdW; rw [pk_un (by first | omega | exact pN_pN (by omega) (by omega) (by omega) | exact pP_pN (by omega) (by omega) (by omega) | exact (pP_pN (by omega) (by omega) (by omega)).symm | exact pP_pP (by omega) (by omega) (by omega) (by omega) (by omega) | (simp only [pN, pP, pM, pE, pL, pC, pK, sp]; omega)), pk_us]
            · obtain ⟨-, -, b, hb1, hb2⟩ := (hM j (by omega)).2.1 hj
              refine ⟨T, b, hb1, hT, ?_, by rw [c 17 (by decide)]; exact hb2⟩
              unfold hdS; simp (disch := first | omega | (simp only [pN, pP, pM, pE, pL, pC, pK, sp]; omega)) only [e_s2, e_s2n, pk_us, pk_un]; exact hS.2.2.2.2.1.1
      · have eD : uD Dl n (Dl n ++ [j]) a = Dl a := if_neg ea
        rw [eD]
        obtain ⟨y1, y2, y3, y4, y5⟩ := hD a ha
        have hlen := dl_len hD ha
        refine ⟨y1, fun m => ?_, ?_, ?_, fun k m hk' => ?_⟩
        · rw [y2 m]
          constructor
          · rintro ⟨h1, h2⟩; exact ⟨h1, by rw [e20 _ (fun q => ea (sp_inj h1 (by omega) q).1)]; exact h2⟩
          · rintro ⟨h1, h2⟩; rw [e20 _ (fun q => ea (sp_inj h1 (by omega) q).1)] at h2; exact ⟨h1, h2⟩
        · rw [← y3]; unfold hdS; simp (disch := first | omega | (simp only [pN, pP, pM, pE, pL, pC, pK, sp]; omega)) only [e_s2, e_s2n, pk_us, pk_un]
        · rw [fw _ (by first | omega | exact pN_pN (by omega) (by omega) (by omega) | exact pP_pN (by omega) (by omega) (by omega) | exact (pP_pN (by omega) (by omega) (by omega)).symm | exact pP_pP (by omega) (by omega) (by omega) (by omega) (by omega) | (simp only [pN, pP, pM, pE, pL, pC, pK, sp]; omega)) (by first | omega | exact pN_pN (by omega) (by omega) (by omega) | exact pP_pN (by omega) (by omega) (by omega) | exact (pP_pN (by omega) (by omega) (by omega)).symm | exact pP_pP (by omega) (by omega) (by omega) (by omega) (by omega) | (simp only [pN, pP, pM, pE, pL, pC, pK, sp]; omega)) (by first | omega | exact pN_pN (by omega) (by omega) (by omega) | exact pP_pN (by omega) (by omega) (by omega) | exact (pP_pN (by omega) (by omega) (by omega)).symm | exact pP_pP (by omega) (by omega) (by omega) (by omega) (by omega) | (simp only [pN, pP, pM, pE, pL, pC, pK, sp]; omega)) (by first | omega | exact pN_pN (by omega) (by omega) (by omega) | exact pP_pN (by omega) (by omega) (by omega) | exact (pP_pN (by omega) (by omega) (by omega)).symm | exact pP_pP (by omega) (by omega) (by omega) (by omega) (by omega) | (simp only [pN, pP, pM, pE, pL, pC, pK, sp]; omega))]; exact y4
        · have hk2 := (List.getElem?_eq_some_iff.mp hk').1
          obtain ⟨x1, x2, x3⟩ := y5 k m hk'
          have hm20 := ((y2 m).mp (List.mem_of_getElem? hk')).1
          have hsm : sp a m ≠ sp n j := fun q => ea (sp_inj hm20 (by omega) q).1
          have hne : sp a k ≠ sp n L := fun q => ea (sp_inj (by omega) (by omega) q).1
          refine ⟨?_, ?_, ?_⟩
          · rw [← x1]; unfold hdS; simp (disch := first | omega | exact hne) only [e_s2, e_s2n, pk_us, pk_un]
          · rw [fw _ (by first | omega | exact pN_pN (by omega) (by omega) (by omega) | exact pP_pN (by omega) (by omega) (by omega) | exact (pP_pN (by omega) (by omega) (by omega)).symm | exact pP_pP (by omega) (by omega) (by omega) (by omega) (by omega) | (simp only [pN, pP, pM, pE, pL, pC, pK, sp]; omega)) (by first | omega | exact pN_pN (by omega) (by omega) (by omega) | exact pP_pN (by omega) (by omega) (by omega) | exact (pP_pN (by omega) (by omega) (by omega)).symm | exact pP_pP (by omega) (by omega) (by omega) (by omega) (by omega) | (simp only [pN, pP, pM, pE, pL, pC, pK, sp]; omega)) (by first | omega | exact pN_pN (by omega) (by omega) (by omega) | exact pP_pN (by omega) (by omega) (by omega) | exact (pP_pN (by omega) (by omega) (by omega)).symm | exact pP_pP (by omega) (by omega) (by omega) (by omega) (by omega) | (simp only [pN, pP, pM, pE, pL, pC, pK, sp]; omega)) (by first | omega | exact pN_pN (by omega) (by omega) (by omega) | exact pP_pN (by omega) (by omega) (by omega) | exact (pP_pN (by omega) (by omega) (by omega)).symm | exact pP_pP (by omega) (by omega) (by omega) (by omega) (by omega) | (simp only [pN, pP, pM, pE, pL, pC, pK, sp]; omega))]; exact x2
          · unfold wh
            rw [c 17 (by decide), show hdS σ n j L 23 (sp a m) = σ 23 (sp a m) from by unfold hdS; simp (disch := first | omega | exact hsm) only [e_s2, e_s2n, pk_us, pk_un]]
            exact x3
    · rw [cnt_same (σ := σ) (i := sp n j) hsp (by rw [hk]; decide) (by rw [e20']; decide) e20]; exact hB
end HO
