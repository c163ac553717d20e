/-! sums, counts, sets -/
theorem sumL_add (f g : Nat → Nat) : ∀ k, sumL (fun i => f i + g i) k = sumL f k + sumL g k
  | 0 => rfl
  | k + 1 => by
    show sumL (fun i => f i + g i) k + (f k + g k) = sumL f k + f k + (sumL g k + g k)
    rw [sumL_add f g k]; omega
theorem sumL_le {f : Nat → Nat} {c : Nat} : ∀ {k : Nat}, (∀ i, i < k → f i ≤ c) → sumL f k ≤ k * c
  | 0, _ => by simp [sumL]
  | k + 1, h => by
    have h1 := sumL_le (f := f) (c := c) (k := k) (fun i hi => h i (by omega))
    have h2 := h k (by omega)
    show sumL f k + f k ≤ (k + 1) * c
    rw [Nat.add_mul]; omega
theorem sumL_upd {f g : Nat → Nat} {j : Nat} : ∀ {k : Nat}, j < k → (∀ i, i < k → i ≠ j → g i = f i) → sumL g k + f j = sumL f k + g j
  | 0, h, _ => absurd h (by omega)
  | k + 1, h, h2 => by
    show sumL g k + g k + f j = sumL f k + f k + g j
    by_cases e : j = k
    · subst e
      rw [sumL_congr (fun i hi => h2 i (by omega) (by omega))]; omega
    · have h3 := sumL_upd (f := f) (g := g) (j := j) (k := k) (by omega) (fun i hi => h2 i (by omega))
      rw [h2 k (by omega) (by omega)]; omega
theorem sumL_0 {f : Nat → Nat} {k : Nat} (h : ∀ i, i < k → f i = 0) : sumL f k = 0 := by
  have := sumL_le (f := f) (c := 0) (k := k) (fun i hi => by rw [h i hi]; exact Nat.le_refl _)
  omega
theorem cN_nil (m : Nat) (K : Nat → Bool) : cN m K [] = 0 := rfl
theorem cN_cons (m : Nat) (K : Nat → Bool) (p : Pk) (ps : List Pk) : cN m K (p :: ps) = (if p.2.2.1 = m ∧ K p.2.1 = true then 1 else 0) + cN m K ps := by
  unfold cN
  rw [List.filter_cons]
  by_cases h : p.2.2.1 = m ∧ K p.2.1 = true
  · rw [if_pos (by simp [h.1, h.2]), if_pos h, List.length_cons]; omega
  · rw [if_neg (by simpa using h), if_neg h]; omega
theorem cN_app (m : Nat) (K : Nat → Bool) (a b : List Pk) : cN m K (a ++ b) = cN m K a + cN m K b := by
  unfold cN; rw [List.filter_append, List.length_append]
theorem cN_one (m : Nat) (K : Nat → Bool) (p : Pk) : cN m K [p] = if p.2.2.1 = m ∧ K p.2.1 = true then 1 else 0 := by rw [cN_cons, cN_nil]; rfl
theorem cN_0 {m : Nat} {K : Nat → Bool} : ∀ {l : List Pk}, (∀ p, p ∈ l → p.2.2.1 ≠ m) → cN m K l = 0
  | [], _ => rfl
  | p :: ps, h => by
    rw [cN_cons, if_neg (fun q => h p List.mem_cons_self q.1), cN_0 (fun q hq => h q (List.mem_cons_of_mem _ hq))]
theorem kinds3 : ∀ k, k ≤ 4 → ((if kR k = true then 1 else 0) + (if kA k = true then 1 else 0) + (if kF k = true then 1 else 0) : Nat) = 1 := by
  intro k hk
  rcases (show k = 0 ∨ k = 1 ∨ k = 2 ∨ k = 3 ∨ k = 4 by omega) with rfl | rfl | rfl | rfl | rfl <;> rfl
theorem sumL_ind {j : Nat} : ∀ {k : Nat}, j < k → sumL (fun i => if j = i then 1 else 0) k = 1 := by
  intro k h
  have := sumL_upd (f := fun _ => 0) (g := fun i => if j = i then 1 else 0) (j := j) (k := k) h (fun i _ hi => by simp; omega)
  rw [sumL_0 (f := fun _ => 0) (fun _ _ => rfl)] at this
  simpa using this
theorem len_sum {k : Nat} : ∀ {l : List Pk}, (∀ p, p ∈ l → p.2.1 ≤ 4 ∧ p.2.2.1 < k) → l.length = sumL (fun m => cN m kR l + cN m kA l + cN m kF l) k
  | [], _ => (sumL_0 (fun _ _ => rfl)).symm
  | p :: ps, h => by
    obtain ⟨h1, h2⟩ := h p List.mem_cons_self
    have ih := len_sum (k := k) (l := ps) (fun q hq => h q (List.mem_cons_of_mem _ hq))
    have e : sumL (fun m => cN m kR (p :: ps) + cN m kA (p :: ps) + cN m kF (p :: ps)) k = sumL (fun m => (if p.2.2.1 = m then 1 else 0) + (cN m kR ps + cN m kA ps + cN m kF ps)) k := by
      apply sumL_congr
      intro m _
      show cN m kR (p :: ps) + cN m kA (p :: ps) + cN m kF (p :: ps) = _
      rw [cN_cons, cN_cons, cN_cons]
      by_cases hm : p.2.2.1 = m
      · have := kinds3 p.2.1 h1
        simp only [hm, true_and, if_true]
        omega
      · simp only [hm, false_and, if_false]; omega
    rw [e, sumL_add, sumL_ind h2, List.length_cons, ih]; omega
theorem q_len {N M B : Nat} {Q : Qs} {e : Nat → Nat → Nat} {σ : Sg} (hQ : rQ N M B Q) (hI : rI N e Q σ) (he : ∀ n m, e n m ≤ 1) (hN : N ≤ 6) (hM : M ≤ 20) {c : Nat} (hc : c < 36) : (Q c).length ≤ 100 := by
  have e1 : c = 6 * (c / 6) + c % 6 := by omega
  have ha : c / 6 < 6 := by omega
  have hb : c % 6 < 6 := by omega
  obtain ⟨h1, h2⟩ := hQ (c / 6) (c % 6) ha hb
  rw [← e1] at h1 h2
  by_cases hz : N ≤ c / 6 ∨ N ≤ c % 6
  · rw [h2 hz]; simp
  · rw [len_sum (k := 20) (l := Q c) (fun p hp => ⟨(h1 p hp).1, by have := (h1 p hp).2.1; omega⟩)]
    have := sumL_le (f := fun m => cN m kR (Q c) + cN m kA (Q c) + cN m kF (Q c)) (c := 5) (k := 20) (fun m hm => ?_)
    · exact this
    · have i1 := hI (c / 6) (c % 6) m (by omega) (by omega) hm
      have i2 := hI (c % 6) (c / 6) m (by omega) (by omega) hm
      rw [← e1] at i1 i2
      have hA := i2.1
      have := he (c / 6) m
      show cN m kR (Q c) + cN m kA (Q c) + cN m kF (Q c) ≤ 5
      by_cases hu : σ 2 (c % 6) = NO
      · obtain ⟨-, j1, j2, -⟩ := i1.2.2.1 hu; omega
      · obtain ⟨j1, j2⟩ := i1.2.2.2 hu; omega
/-! truth values, sets -/
def b2 (b : Bool) : Int32 := if b = true then nI 1 else nI 0
theorem b2_t : b2 true = nI 1 := rfl
theorem b2_f : b2 false = nI 0 := rfl
theorem e_b2T {α : Type} {b : Bool} {x y : α} (h : b = true) : cnd (b2 b = nI 0) x y = y := by subst h; exact cnd_neg (by decide)
theorem e_b2F {α : Type} {b : Bool} {x y : α} (h : b = false) : cnd (b2 b = nI 0) x y = x := by subst h; exact cnd_pos rfl
theorem e_b2T1 {α : Type} {b : Bool} {x y : α} (h : b = true) : cnd (b2 b = nI 1) x y = x := by subst h; exact cnd_pos rfl
theorem e_b2F1 {α : Type} {b : Bool} {x y : α} (h : b = false) : cnd (b2 b = nI 1) x y = y := by subst h; exact cnd_neg (by decide)
def setOf (P : Nat → Bool) : Nat → Int32
  | 0 => nI 0
  | k + 1 => if P k = true then setOf P k ||| sh1 (nI k) else setOf P k
theorem setOf_s {P : Nat → Bool} {k : Nat} : setOf P (k + 1) = if P k = true then setOf P k ||| sh1 (nI k) else setOf P k := rfl
theorem bt_setOf {P : Nat → Bool} : ∀ {k : Nat} (_ : k ≤ 32) (i : Nat), bt (setOf P k) i = (decide (i < k) && P i)
  | 0, _, i => by rw [show setOf P 0 = nI 0 from rfl, b_n0]; simp
  | k + 1, h, i => by
    have ih := bt_setOf (P := P) (k := k) (by omega) i
    rw [setOf_s]
    by_cases hp : P k = true
    · rw [if_pos hp, b_or, ih, b_sh1 (by omega)]
      by_cases e : i = k
      · subst e; simp [hp]
      · have : (decide (i < k + 1)) = decide (i < k) := by congr 1; exact propext ⟨fun _ => by omega, fun _ => by omega⟩
        rw [this]; simp [e]
    · rw [if_neg hp, ih]
      by_cases e : i = k
      · subst e; simp at hp; simp [hp]
      · have : (decide (i < k + 1)) = decide (i < k) := by congr 1; exact propext ⟨fun _ => by omega, fun _ => by omega⟩
        rw [this]
theorem setOf_congr {P P' : Nat → Bool} : ∀ {k : Nat}, (∀ i, i < k → P i = P' i) → setOf P k = setOf P' k
  | 0, _ => rfl
  | k + 1, h => by rw [setOf_s, setOf_s, setOf_congr (fun i hi => h i (by omega)), h k (by omega)]
theorem or_n0 (x : Int32) : x ||| nI 0 = x := Int32.or_zero
/-! the model's state with its row apart -/
theorem e_w (u : Sg) (ω : Nat → Int32) : sq u 1 ω 1 = ω := by simp [sq]
theorem e_wn {p : Nat} (u : Sg) (ω : Nat → Int32) (h : p ≠ 1) : sq u 1 ω p = u p := by simp [sq, h]
theorem e_ws (u : Sg) (ω : Nat → Int32) (i : Nat) (x : Int32) : s2 (sq u 1 ω) 1 i x = sq u 1 (upd ω i x) := by
  funext p
  by_cases h : p = 1
  · subst h; simp [s2, sq]
  · simp [s2, sq, h]
theorem e_wid (u : Sg) : sq u 1 (u 1) = u := by
  funext p
  by_cases h : p = 1
  · subst h; simp [sq]
  · simp [sq, h]
/-! plain readings -/
section RD
variable {u σ : Sg} {ω : Nat → Int32} {n m k w c : Nat}
theorem m_of (h : pN n w < 32243) : fX12_of (nI n) (nI w) (sq u 1 ω) = some (ω (pN n w)) := by
  simp (disch := first | omega | (simp only [pN, pP, pM, pE, pL, pC, pK, sp]; omega)) only [u_fX12_of, u_fX12_of_0, e_T, e_F, e_bnd, e_obr, e_obd, e_obt, e_addB, e_addA, e_in, e_cl, e_leT, e_leF, e_ltT, e_ltF, e_eqT, e_eqF, e_NOT, e_NOF, nI_add, pk_mul, k_spot, k_chan, m_node, m_pair, m_msg, m_chan, m_pack, e_w, e_wn, e_ws]
theorem m_ofPair (h : pP n m w < 32243) : fX12_ofPair (nI n) (nI m) (nI w) (sq u 1 ω) = some (ω (pP n m w)) := by
  simp (disch := first | omega | (simp only [pN, pP, pM, pE, pL, pC, pK, sp]; omega)) only [u_fX12_ofPair, u_fX12_ofPair_0, e_T, e_F, e_bnd, e_obr, e_obd, e_obt, e_addB, e_addA, e_in, e_cl, e_leT, e_leF, e_ltT, e_ltF, e_eqT, e_eqF, e_NOT, e_NOF, nI_add, pk_mul, k_spot, k_chan, m_node, m_pair, m_msg, m_chan, m_pack, e_w, e_wn, e_ws]
theorem m_lays {x : Int32} (h : pP n m w < 32243) : fX12_lays (nI n) (nI m) (nI w) x (sq u 1 ω) = some (sq u 1 (upd ω (pP n m w) x)) := by
  simp (disch := first | omega | (simp only [pN, pP, pM, pE, pL, pC, pK, sp]; omega)) only [u_fX12_lays, u_fX12_lays_0, e_T, e_F, e_bnd, e_obr, e_obd, e_obt, e_addB, e_addA, e_in, e_cl, e_leT, e_leF, e_ltT, e_ltF, e_eqT, e_eqF, e_NOT, e_NOF, nI_add, pk_mul, k_spot, k_chan, m_node, m_pair, m_msg, m_chan, m_pack, e_w, e_wn, e_ws]
theorem m_ofMsg (h : pM m w < 32243) : fX12_ofMessage (nI m) (nI w) (sq u 1 ω) = some (ω (pM m w)) := by
  simp (disch := first | omega | (simp only [pN, pP, pM, pE, pL, pC, pK, sp]; omega)) only [u_fX12_ofMessage, u_fX12_ofMessage_0, e_T, e_F, e_bnd, e_obr, e_obd, e_obt, e_addB, e_addA, e_in, e_cl, e_leT, e_leF, e_ltT, e_ltF, e_eqT, e_eqF, e_NOT, e_NOF, nI_add, pk_mul, k_spot, k_chan, m_node, m_pair, m_msg, m_chan, m_pack, e_w, e_wn, e_ws]
theorem m_ofCh (h : pC (6 * n + m) w < 32243) : fX12_ofChannel (nI n) (nI m) (nI w) (sq u 1 ω) = some (ω (pC (6 * n + m) w)) := by
  simp (disch := first | omega | (simp only [pN, pP, pM, pE, pL, pC, pK, sp]; omega)) only [u_fX12_ofChannel, u_fX12_ofChannel_0, e_T, e_F, e_bnd, e_obr, e_obd, e_obt, e_addB, e_addA, e_in, e_cl, e_leT, e_leF, e_ltT, e_ltF, e_eqT, e_eqF, e_NOT, e_NOF, nI_add, pk_mul, k_spot, k_chan, m_node, m_pair, m_msg, m_chan, m_pack, e_w, e_wn, e_ws]
theorem m_nodes : fX12_nodes (sq u 1 ω) = some (ω 0) := by
  simp (disch := first | omega | (simp only [pN, pP, pM, pE, pL, pC, pK, sp]; omega)) only [u_fX12_nodes, u_fX12_nodes_0, e_T, e_F, e_bnd, e_obr, e_obd, e_obt, e_addB, e_addA, e_in, e_cl, e_leT, e_leF, e_ltT, e_ltF, e_eqT, e_eqF, e_NOT, e_NOF, nI_add, pk_mul, k_spot, k_chan, m_node, m_pair, m_msg, m_chan, m_pack, e_w, e_wn, e_ws]
theorem m_messages : fX12_messages (sq u 1 ω) = some (ω 3) := by
  simp (disch := first | omega | (simp only [pN, pP, pM, pE, pL, pC, pK, sp]; omega)) only [u_fX12_messages, u_fX12_messages_0, e_T, e_F, e_bnd, e_obr, e_obd, e_obt, e_addB, e_addA, e_in, e_cl, e_leT, e_leF, e_ltT, e_ltF, e_eqT, e_eqF, e_NOT, e_NOF, nI_add, pk_mul, k_spot, k_chan, m_node, m_pair, m_msg, m_chan, m_pack, e_w, e_wn, e_ws]
def upB (σ : Sg) (n : Nat) : Bool := decide (σ 2 n = NO)
def ntB (σ : Sg) (n : Nat) : Bool := !decide (σ 2 n = NO) && !decide (σ 0 3 - σ 2 n < σ 0 5)
theorem k_isUp (hn : n < 6) : fX7_isUp (nI n) σ = some (b2 (upB σ n)) := by
  simp (disch := first | omega | (simp only [pN, pP, pM, pE, pL, pC, pK, sp]; omega)) only [u_fX7_isUp, u_fX7_isUp_0, e_T, e_F, e_bnd, e_obr, e_obd, e_obt, e_addB, e_addA, e_in, e_cl, e_leT, e_leF, e_ltT, e_ltF, e_eqT, e_eqF, e_NOT, e_NOF, nI_add, pk_mul, k_spot, k_chan, m_node, m_pair, m_msg, m_chan, m_pack, e_w, e_wn, e_ws]
  by_cases h : σ 2 n = NO
  · rw [cnd_pos h]; simp [upB, h, b2]
  · rw [cnd_neg h]; simp [upB, h, b2]
theorem k_isNoticed (hn : n < 6) : fX7_isNoticed (nI n) σ = some (b2 (ntB σ n)) := by
  simp (disch := first | omega | (simp only [pN, pP, pM, pE, pL, pC, pK, sp]; omega)) only [u_fX7_isNoticed, u_fX7_isNoticed_0, k_isUp, e_T, e_F, e_bnd, e_obr, e_obd, e_obt, e_addB, e_addA, e_in, e_cl, e_leT, e_leF, e_ltT, e_ltF, e_eqT, e_eqF, e_NOT, e_NOF, nI_add, pk_mul, k_spot, k_chan, m_node, m_pair, m_msg, m_chan, m_pack, e_w, e_wn, e_ws]
  by_cases h : σ 2 n = NO
  · rw [e_b2T (by simp [upB, h])]; simp [ntB, h, b2]
  · rw [e_b2F (by simp [upB, h])]
    by_cases h2 : σ 0 3 - σ 2 n < σ 0 5
    · rw [cnd_pos h2]; simp [ntB, h2, b2]
    · rw [cnd_neg h2]; simp [ntB, h, h2, b2]
end RD
