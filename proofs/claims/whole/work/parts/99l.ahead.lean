/-! ahead -/
section AD
variable {dr : Prop} {tk : Int32} {pl N G M T B : Nat} {Q : Qs} {Dl : Nat → List Nat} {σ u : Sg} {ω : Nat → Int32}
theorem k_base38 (hD : rD Dl σ ω) {n : Nat} (hn : n < 6) {K : Int32 → Sg → Option Sg} {A : Nat → Nat → Bool} : ∀ (p f : Nat) (x3 : Int32) (u : Sg), p ≤ (Dl n).length → p < f → (∀ q, q < 36 → u q = σ q) → (∀ i, bt x3 i = decide (i ∈ (Dl n).drop p)) → (∀ a, a < 20 → ∀ i, bt (u 37 a) i = (A a i || bef ((Dl n).drop p) a i)) →
    ∃ u', fX8_read_38 K f (nI n) x3 (pmI p) u = K (nI (n + 1)) u' ∧ (∀ q, q < 36 → u' q = σ q) ∧ (∀ a, a < 20 → ∀ i, bt (u' 37 a) i = (A a i || bef (Dl n) a i)) ∧ ∀ i, bt (u' 36 1) i = (bt (u 36 1) i || decide (i ∈ Dl n)) := by
  have hlen := dl_len hD hn
  obtain ⟨d1, d2, d3, d4, d5⟩ := hD n hn
  intro p
  induction p with
  | zero =>
    intro f x3 u hp hf hq hx hA
    obtain ⟨f, rfl⟩ : ∃ g, f = g + 1 := ⟨f - 1, by omega⟩
    refine ⟨s2 u 36 1 (u 36 1 ||| x3), ?_, fun q h => by rw [e_s2n _ _ _ (by omega)]; exact hq q h, fun a ha i => by rw [e_s2n _ _ _ (by omega), hA a ha i]; rfl, fun i => by rw [e_s2, pk_us, b_or, hx i]; rfl⟩
    rw [u_fX8_read_38, show pmI 0 = NO from rfl, cnd_pos (by decide), nI_add]
    rfl
  | succ p ih =>
    intro f x3 u hp hf hq hx hA
    obtain ⟨f, rfl⟩ : ∃ g, f = g + 1 := ⟨f - 1, by omega⟩
    have hv0 : (Dl n)[p]? = some ((Dl n)[p]'(by omega)) := List.getElem?_eq_getElem (by omega)
    generalize hv : (Dl n)[p]'(by omega) = v at hv0
    have hdr : (Dl n).drop p = v :: (Dl n).drop (p + 1) := by rw [List.drop_eq_getElem_cons (by omega), hv]
    have hv20 := ((d2 v).mp (List.mem_of_getElem? hv0)).1
    have h24 : u 24 (sp n p) = nI v := by rw [hq 24 (by omega)]; exact (d5 p v hv0).1
    have hnd : v ∉ (Dl n).drop (p + 1) := by
      have := List.Sublist.nodup (List.drop_sublist p (Dl n)) d1
      rw [hdr] at this
      exact (List.nodup_cons.mp this).1
    obtain ⟨u', e1, e2, e3, e4⟩ := ih f (x3 ||| sh1 (nI v)) (s2 u 37 v (u 37 v ||| x3)) (by omega) (by omega) (fun q h => by rw [e_s2n _ _ _ (by omega)]; exact hq q h) (fun i => by
        rw [b_or, hx i, b_sh1 (by omega), hdr]
        by_cases e : i = v
        · subst e; rw [decide_eq_true rfl, Bool.or_true, decide_eq_true List.mem_cons_self]
        · rw [decide_eq_false e, Bool.or_false]
          congr 1
          exact propext ⟨fun q => List.mem_cons_of_mem _ q, fun q => (List.mem_cons.mp q).resolve_left e⟩) (fun a ha i => by
        rw [hdr, e_s2]
        by_cases e : a = v
        · subst e
          rw [pk_us, b_or, hA a ha i, hx i, bef_out1 hnd, Bool.or_false]
          unfold bef; rw [if_pos rfl]
        · rw [pk_un e, hA a ha i]
          show _ = (A a i || (if v = a then decide (i ∈ (Dl n).drop (p + 1)) else bef ((Dl n).drop (p + 1)) a i))
          rw [if_neg (fun q => e q.symm)])
    refine ⟨u', ?_, e2, e3, fun i => by rw [e4 i, e_s2n _ _ _ (by omega)]⟩
    rw [← e1]
    have hpm := pm_add p
    simp (disch := first | omega | (simp only [pN, pP, pM, pE, pL, pC, pK, sp]; omega)) only [show pmI (p + 1) = nI p from rfl, u_fX8_read_38, h24, hpm, e_T, e_F, e_bnd, e_obr, e_obd, e_obt, e_addB, e_addA, e_in, e_cl, e_leT, e_leF, e_ltT, e_ltF, e_eqT, e_eqF, e_NOT, e_NOF, nI_add, pk_mul, k_spot, k_chan, m_node, m_pair, m_msg, m_chan, m_pack, e_w, e_wn, e_ws]
theorem k_base (hD : rD Dl σ ω) (h0 : σ 0 0 = nI N) (h6 : N ≤ 6) : ∀ (r k f : Nat) (u : Sg), k + r = N → r < f → (∀ q, q < 36 → u q = σ q) →
    ∃ u', fX8_read_15 f (nI k) u = fX8_read_101 FU (nI 0) u' ∧ (∀ q, q < 36 → u' q = σ q) ∧ (∀ a, a < 20 → ∀ i, bt (u' 37 a) i = (bt (u 37 a) i || anyF (fun x => bef (Dl x) a i) r k)) ∧ ∀ i, bt (u' 36 1) i = (bt (u 36 1) i || anyF (fun x => decide (i ∈ Dl x)) r k) := by
  intro r
  induction r with
  | zero =>
    intro k f u hk hf hq
    obtain ⟨f, rfl⟩ : ∃ g, f = g + 1 := ⟨f - 1, by omega⟩
    have hu0 : u 0 0 = nI N := by rw [hq 0 (by omega)]; exact h0
    refine ⟨u, ?_, hq, fun a ha i => by rw [show anyF (fun x => bef (Dl x) a i) 0 k = false from rfl, Bool.or_false], fun i => by rw [show anyF (fun x => decide (i ∈ Dl x)) 0 k = false from rfl, Bool.or_false]⟩
    simp (disch := first | omega | (simp only [pN, pP, pM, pE, pL, pC, pK, sp]; omega)) only [u_fX8_read_15, hu0, e_T, e_F, e_bnd, e_obr, e_obd, e_obt, e_addB, e_addA, e_in, e_cl, e_leT, e_leF, e_ltT, e_ltF, e_eqT, e_eqF, e_NOT, e_NOF, nI_add, pk_mul, k_spot, k_chan, m_node, m_pair, m_msg, m_chan, m_pack, e_w, e_wn, e_ws]
  | succ r ih =>
    intro k f u hk hf hq
    obtain ⟨f, rfl⟩ : ∃ g, f = g + 1 := ⟨f - 1, by omega⟩
    have hlen := dl_len hD (n := k) (by omega)
    have hu0 : u 0 0 = nI N := by rw [hq 0 (by omega)]; exact h0
    have h25 : u 25 k = nI (Dl k).length := by rw [hq 25 (by omega)]; exact (hD k (by omega)).2.2.1
    obtain ⟨u1, a1, a2, a3, a4⟩ := k_base38 hD (n := k) (by omega) (K := fun a0 w => fX8_read_15 f a0 w) (A := fun a i => bt (u 37 a) i) (Dl k).length FU (nI 0) u (Nat.le_refl _) (by show _ < 100000; omega) hq (fun i => by rw [b_n0, List.drop_length]; exact (decide_eq_false (fun q => by cases q)).symm) (fun a ha i => by rw [List.drop_length]; exact (Bool.or_false _).symm)
    obtain ⟨u', e1, e2, e3, e4⟩ := ih (k + 1) f u1 (by omega) (by omega) a2
    refine ⟨u', ?_, e2, fun a ha i => ?_, fun i => ?_⟩
    · rw [← e1]
      have hpm := pm_sub (Dl k).length
      simp (disch := first | omega | (simp only [pN, pP, pM, pE, pL, pC, pK, sp]; omega)) only [u_fX8_read_15, hu0, h25, hpm, a1, e_T, e_F, e_bnd, e_obr, e_obd, e_obt, e_addB, e_addA, e_in, e_cl, e_leT, e_leF, e_ltT, e_ltF, e_eqT, e_eqF, e_NOT, e_NOF, nI_add, pk_mul, k_spot, k_chan, m_node, m_pair, m_msg, m_chan, m_pack, e_w, e_wn, e_ws]
    · rw [e3 a ha i, a3 a ha i, Bool.or_assoc]; rfl
    · rw [e4 i, a4 i, Bool.or_assoc]; rfl
def aF (Dl : Nat → List Nat) (N a i : Nat) : Bool := anyF (fun x => bef (Dl x) a i) N 0
/-- what the class reads -/
theorem k_read (hD : rD Dl σ ω) (h0 : σ 0 0 = nI N) (h6 : N ≤ 6) (u : Sg) (hq : ∀ q, q < 36 → u q = σ q) : ∃ u' A, fX8_read u = some u' ∧ (∀ q, q < 36 → u' q = σ q) ∧ (∀ a, a < 20 → ∀ i, bt (A a) i = aF Dl N a i) ∧ (∀ a, a < 20 → u' 37 a = wal 20 0 A a) ∧ ∀ i, bt (u' 36 1) i = anyF (fun x => decide (i ∈ Dl x)) N 0 := by
  have hfill := fill_eq 20 (by omega) (nI 0) (u 37)
  obtain ⟨u1, a1, a2, a3, a4⟩ := k_base hD h0 h6 N 0 FU (s2 (sq u 37 (sq (fun _ => u 37) 0 (fun k => if k < 20 then nI 0 else u 37 k) 0)) 36 1 (nI 0)) (by omega) (by show N < 100000; omega) (fun q h => by rw [e_s2n _ _ _ (by omega), e_qn _ _ (by omega)]; exact hq q h)
  obtain ⟨u2, c1, c2, c3⟩ := k_war 20 0 FU u1 (by omega) (by show 20 < 100000; omega)
  refine ⟨u2, u1 37, ?_, fun q h => by rw [c2 q (by omega)]; exact a2 q h, fun a ha i => ?_, c3, fun i => ?_⟩
  · rw [u_fX8_read, u_fX8_read_0, hfill, e_obr, e_bnd, e_bnd, a1, c1]
  · rw [a3 a ha i, e_s2n _ _ _ (by omega), e_qs, e_qs, if_pos ha, b_n0, Bool.false_or]; rfl
  · rw [c2 36 (by omega), a4 i, e_s2, pk_us, b_n0, Bool.false_or]
/-! the model's -/
theorem m_base29 (hD : rD Dl σ ω) (z0 : ω 0 = nI N) (h6 : N ≤ 6) {a b : Nat} (ha : a < 20) (hb : b < 20) {K2 : Int32 → Sg → Option Sg} {K19 : Int32 → Int32 → Sg → Option Sg} : ∀ (r k f : Nat) (u : Sg), k + r = N → r < f →
    ∃ u', fX12_laysAheads_29 K2 K19 f (nI a) (nI b) (nI k) (sq u 1 ω) = K19 (nI a) (nI (b + 1)) (sq u' 1 ω) ∧ (∀ q, q ≠ 9 → u' q = u q) ∧ (∀ i, i ≠ a → u' 9 i = u 9 i) ∧ ∀ i, bt (u' 9 a) i = (bt (u 9 a) i || (decide (i = b) && anyF (fun x => bef (Dl x) a b) r k)) := by
  intro r
  induction r with
  | zero =>
    intro k f u hk hf
    obtain ⟨f, rfl⟩ : ∃ g, f = g + 1 := ⟨f - 1, by omega⟩
    refine ⟨u, ?_, fun _ _ => rfl, fun _ _ => rfl, fun i => by rw [show anyF (fun x => bef (Dl x) a b) 0 k = false from rfl, Bool.and_false, Bool.or_false]⟩
    simp (disch := first | omega | (simp only [pN, pP, pM, pE, pL, pC, pK, sp]; omega)) only [u_fX12_laysAheads_29, m_nodes, z0, e_T, e_F, e_bnd, e_obr, e_obd, e_obt, e_addB, e_addA, e_in, e_cl, e_leT, e_leF, e_ltT, e_ltF, e_eqT, e_eqF, e_NOT, e_NOF, nI_add, pk_mul, k_spot, k_chan, m_node, m_pair, m_msg, m_chan, m_pack, e_w, e_wn, e_ws]
  | succ r ih =>
    intro k f u hk hf
    obtain ⟨f, rfl⟩ : ∃ g, f = g + 1 := ⟨f - 1, by omega⟩
    have w9 : sq u 1 ω 9 = u 9 := e_wn _ _ (by omega)
    have mh := m_has (u := u) hD (show k < 6 by omega) ha hb
    have es : anyF (fun x => bef (Dl x) a b) (r + 1) k = (bef (Dl k) a b || anyF (fun x => bef (Dl x) a b) r (k + 1)) := rfl
    rw [es]
    cases hbf : bef (Dl k) a b with
    | false =>
      rw [hbf] at mh
      obtain ⟨u', e1, e2, e3, e4⟩ := ih (k + 1) f (s2 u 9 a (u 9 a)) (by omega) (by omega)
      refine ⟨u', ?_, fun q hq => by rw [e2 q hq, e_s2n _ _ _ hq], fun i hi => by rw [e3 i hi, e_s2, pk_un hi], fun i => by rw [e4 i, e_s2, pk_us, Bool.false_or]⟩
      rw [← e1]
      simp (disch := first | omega | (simp only [pN, pP, pM, pE, pL, pC, pK, sp]; omega)) only [u_fX12_laysAheads_29, u_fX12_laysAheads_61, m_nodes, z0, mh, b2_f, w9, or_n0, e_wsx, ne_eq, not_false_eq_true, e_T, e_F, e_bnd, e_obr, e_obd, e_obt, e_addB, e_addA, e_in, e_cl, e_leT, e_leF, e_ltT, e_ltF, e_eqT, e_eqF, e_NOT, e_NOF, nI_add, pk_mul, k_spot, k_chan, m_node, m_pair, m_msg, m_chan, m_pack, e_w, e_wn, e_ws]
    | true =>
      rw [hbf] at mh
      obtain ⟨u', e1, e2, e3, e4⟩ := ih (k + 1) f (s2 u 9 a (u 9 a ||| sh1 (nI b))) (by omega) (by omega)
      refine ⟨u', ?_, fun q hq => by rw [e2 q hq, e_s2n _ _ _ hq], fun i hi => by rw [e3 i hi, e_s2, pk_un hi], fun i => ?_⟩
      · rw [← e1]
        simp (disch := first | omega | (simp only [pN, pP, pM, pE, pL, pC, pK, sp]; omega)) only [u_fX12_laysAheads_29, u_fX12_laysAheads_61, m_nodes, z0, mh, b2_t, w9, e_wsx, ne_eq, not_false_eq_true, e_T, e_F, e_bnd, e_obr, e_obd, e_obt, e_addB, e_addA, e_in, e_cl, e_leT, e_leF, e_ltT, e_ltF, e_eqT, e_eqF, e_NOT, e_NOF, nI_add, pk_mul, k_spot, k_chan, m_node, m_pair, m_msg, m_chan, m_pack, e_w, e_wn, e_ws]
      · rw [e4 i, e_s2, pk_us, b_or, b_sh1 (by omega), Bool.true_or, Bool.and_true]
        cases bt (u 9 a) i <;> cases decide (i = b) <;> rfl
theorem m_base19 (hD : rD Dl σ ω) (z0 : ω 0 = nI N) (z3 : ω 3 = nI M) (h6 : N ≤ 6) (hM : M ≤ 20) {a : Nat} (ha : a < 20) {K2 : Int32 → Sg → Option Sg} : ∀ (r b f : Nat) (u : Sg), b + r = M → r < f →
    ∃ u', fX12_laysAheads_19 K2 f (nI a) (nI b) (sq u 1 ω) = K2 (nI (a + 1)) (sq u' 1 ω) ∧ (∀ q, q ≠ 9 → u' q = u q) ∧ (∀ i, i ≠ a → u' 9 i = u 9 i) ∧ ∀ i, bt (u' 9 a) i = (bt (u 9 a) i || (decide (b ≤ i ∧ i < M) && aF Dl N a i)) := by
  intro r
  induction r with
  | zero =>
    intro b f u hb hf
    obtain ⟨f, rfl⟩ : ∃ g, f = g + 1 := ⟨f - 1, by omega⟩
    refine ⟨u, ?_, fun _ _ => rfl, fun _ _ => rfl, fun i => by rw [decide_eq_false (by omega), Bool.false_and, Bool.or_false]⟩
    simp (disch := first | omega | (simp only [pN, pP, pM, pE, pL, pC, pK, sp]; omega)) only [u_fX12_laysAheads_19, m_messages, z3, e_T, e_F, e_bnd, e_obr, e_obd, e_obt, e_addB, e_addA, e_in, e_cl, e_leT, e_leF, e_ltT, e_ltF, e_eqT, e_eqF, e_NOT, e_NOF, nI_add, pk_mul, k_spot, k_chan, m_node, m_pair, m_msg, m_chan, m_pack, e_w, e_wn, e_ws]
  | succ r ih =>
    intro b f u hb hf
    obtain ⟨f, rfl⟩ : ∃ g, f = g + 1 := ⟨f - 1, by omega⟩
    obtain ⟨u1, a1, a2, a3, a4⟩ := m_base29 (K2 := K2) hD z0 h6 ha (show b < 20 by omega) (K19 := fun a0 a1 w => fX12_laysAheads_19 K2 f a0 a1 w) N 0 FU u (by omega) (by show N < 100000; omega)
    obtain ⟨u', e1, e2, e3, e4⟩ := ih (b + 1) f u1 (by omega) (by omega)
    refine ⟨u', ?_, fun q hq => by rw [e2 q hq, a2 q hq], fun i hi => by rw [e3 i hi, a3 i hi], fun i => ?_⟩
    · rw [← e1]
      simp (disch := first | omega | (simp only [pN, pP, pM, pE, pL, pC, pK, sp]; omega)) only [u_fX12_laysAheads_19, m_messages, z3, a1, e_T, e_F, e_bnd, e_obr, e_obd, e_obt, e_addB, e_addA, e_in, e_cl, e_leT, e_leF, e_ltT, e_ltF, e_eqT, e_eqF, e_NOT, e_NOF, nI_add, pk_mul, k_spot, k_chan, m_node, m_pair, m_msg, m_chan, m_pack, e_w, e_wn, e_ws]
    · rw [e4 i, a4 i, Bool.or_assoc]
      congr 1
      by_cases e : i = b
      · subst e
        rw [decide_eq_true rfl, decide_eq_false (show ¬ (i + 1 ≤ i ∧ i < M) by omega), decide_eq_true (show i ≤ i ∧ i < M by omega), Bool.true_and, Bool.true_and, Bool.false_and, Bool.or_false]; rfl
      · rw [decide_eq_false e, Bool.false_and, Bool.false_or]
        congr 1
        congr 1
        exact propext ⟨fun _ => by omega, fun _ => by omega⟩
theorem m_base (hD : rD Dl σ ω) (z0 : ω 0 = nI N) (z3 : ω 3 = nI M) (h6 : N ≤ 6) (hM : M ≤ 20) : ∀ (r a f : Nat) (u : Sg), a + r = M → r < f →
    ∃ u', fX12_laysAheads_2 f (nI a) (sq u 1 ω) = fX12_laysAheads_83 FU (nI 0) (sq u' 1 ω) ∧ (∀ q, q ≠ 9 → u' q = u q) ∧ (∀ i, i < a → u' 9 i = u 9 i) ∧ ∀ x, a ≤ x → x < M → ∀ i, bt (u' 9 x) i = (decide (i < M) && aF Dl N x i) := by
  intro r
  induction r with
  | zero =>
    intro a f u ha hf
    obtain ⟨f, rfl⟩ : ∃ g, f = g + 1 := ⟨f - 1, by omega⟩
    refine ⟨u, ?_, fun _ _ => rfl, fun _ _ => rfl, fun x h1 h2 => by omega⟩
    simp (disch := first | omega | (simp only [pN, pP, pM, pE, pL, pC, pK, sp]; omega)) only [u_fX12_laysAheads_2, m_messages, z3, e_T, e_F, e_bnd, e_obr, e_obd, e_obt, e_addB, e_addA, e_in, e_cl, e_leT, e_leF, e_ltT, e_ltF, e_eqT, e_eqF, e_NOT, e_NOF, nI_add, pk_mul, k_spot, k_chan, m_node, m_pair, m_msg, m_chan, m_pack, e_w, e_wn, e_ws]
  | succ r ih =>
    intro a f u ha hf
    obtain ⟨f, rfl⟩ : ∃ g, f = g + 1 := ⟨f - 1, by omega⟩
    obtain ⟨u1, a1, a2, a3, a4⟩ := m_base19 hD z0 z3 h6 hM (show a < 20 by omega) (K2 := fun a0 w => fX12_laysAheads_2 f a0 w) M 0 FU (s2 u 9 a (nI 0)) (by omega) (by show M < 100000; omega)
    obtain ⟨u', e1, e2, e3, e4⟩ := ih (a + 1) f u1 (by omega) (by omega)
    refine ⟨u', ?_, fun q hq => by rw [e2 q hq, a2 q hq, e_s2n _ _ _ hq], fun i hi => by rw [e3 i (by omega), a3 i (by omega), e_s2, pk_un (by omega)], fun x h1 h2 i => ?_⟩
    · rw [← e1]
      simp (disch := first | omega | (simp only [pN, pP, pM, pE, pL, pC, pK, sp]; omega)) only [u_fX12_laysAheads_2, m_messages, z3, e_wsx, ne_eq, not_false_eq_true, a1, e_T, e_F, e_bnd, e_obr, e_obd, e_obt, e_addB, e_addA, e_in, e_cl, e_leT, e_leF, e_ltT, e_ltF, e_eqT, e_eqF, e_NOT, e_NOF, nI_add, pk_mul, k_spot, k_chan, m_node, m_pair, m_msg, m_chan, m_pack, e_w, e_wn, e_ws]
    · by_cases e : x = a
      · subst e
        rw [e3 x (by omega), a4 i, e_s2, pk_us, b_n0, Bool.false_or]
        congr 1
        congr 1
        exact propext ⟨fun _ => by omega, fun _ => by omega⟩
      · exact e4 x (by omega) h2 i
theorem m_laysA (hD : rD Dl σ ω) (z0 : ω 0 = nI N) (z3 : ω 3 = nI M) (h6 : N ≤ 6) (hM : M ≤ 20) (u : Sg) : ∃ u' A, fX12_laysAheads (sq u 1 ω) = some (sq u' 1 ω) ∧ (∀ q, q ≠ 9 → u' q = u q) ∧ (∀ x, x < M → ∀ i, bt (A x) i = (decide (i < M) && aF Dl N x i)) ∧ ∀ x, x < M → u' 9 x = wal M 0 A x := by
  obtain ⟨u1, a1, a2, a3, a4⟩ := m_base hD z0 z3 h6 hM M 0 FU u (by omega) (by show M < 100000; omega)
  obtain ⟨u2, c1, c2, c3⟩ := m_war z3 hM M 0 FU u1 (by omega) (by show M < 100000; omega)
  refine ⟨u2, u1 9, ?_, fun q hq => by rw [c2 q hq, a2 q hq], fun x hx i => a4 x (by omega) hx i, c3⟩
  rw [u_fX12_laysAheads, u_fX12_laysAheads_0, a1, c1]
theorem dl_M (h : R0 dr tk pl N G M T B Q Dl σ ω) {n w : Nat} (hn : n < 6) (hw : w ∈ Dl n) : w < M := by
  have := ((h.2.2.2.1 n hn).2.1 w).mp hw
  obtain ⟨⟨k, q1, q2, q3, q4, -⟩, -⟩ := h.2.2.1 n w hn this.1
  rw [this.2] at q2
  have hk : 3 = k := (nI_eq (by omega) (by omega)).mp q2
  exact (q4 (by omega)).2.1
/-- both find the same -/
theorem wal_eq (h : R0 dr tk pl N G M T B Q Dl σ ω) {A A' : Nat → Int32} (hA : ∀ a, a < 20 → ∀ i, bt (A a) i = aF Dl N a i) (hA' : ∀ x, x < M → ∀ i, bt (A' x) i = (decide (i < M) && aF Dl N x i)) : (∀ x, x < M → wal 20 0 A x = wal M 0 A' x) ∧ (∀ x, x < 20 → ∀ i, M ≤ i → bt (wal 20 0 A x) i = false) := by
  have h6 := h.1.1.1
  have hM := h.1.1.2.2.1
  have hbig : ∀ a i, M ≤ i → aF Dl N a i = false := fun a i hi => anyF_f (fun x _ hx => bef_out (fun q => by have := dl_M h (n := x) (by omega) q; omega))
  have hb : ∀ a, a < 20 → ∀ i, M ≤ i → bt (A a) i = false := fun a ha i hi => by rw [hA a ha i]; exact hbig a i hi
  refine ⟨fun x hx => ?_, wal_bits (by omega) hb⟩
  have e1 : wal 20 0 A = wal (20 - M) (0 + M) (wal M 0 A) := by rw [← wal_add, show M + (20 - M) = 20 from by omega]
  rw [e1, wal_no (n := 20) (m := M) (by omega) (by omega) (wal_bits (by omega) hb) x (by omega)]
  refine wal_cg (n := M) (by omega) (fun j hj => b_ext (fun i _ => ?_)) x hx
  rw [hA j (by omega) i, hA' j hj i]
  by_cases hi : i < M
  · rw [decide_eq_true hi, Bool.true_and]
  · rw [decide_eq_false hi, Bool.false_and]; exact hbig j i (by omega)
theorem e_sbTO (u : Sg) {q : Nat} (h : q < 36) : sbTO u q = u q := by unfold sbTO; rw [if_pos (by omega)]; congr 1; omega
theorem e_sbTO2 (u v : Sg) {q : Nat} (h : q < 2) : sbTO (ubTO u v) (36 + q) = v (36 + q) := by
  unfold sbTO ubTO
  rw [if_neg (by omega), if_pos (by omega), if_neg (by omega), if_pos (by omega)]; congr 1; omega
theorem uq_TO {u v : Sg} (h : ∀ q, q < 36 → v q = u q) : uq u (ubTO u v) := fun q h1 h2 => by
  unfold ubTO
  split
  · rw [← h q (by omega)]; congr 1; omega
  · rw [if_neg (by omega)]
theorem o_ahead (h : R0 dr tk pl N G M T B Q Dl σ ω) (x1 x2 : Int32) : QR [0, 3] kk2 (fX11_ahead x1 x2 σ) (fX12_ahead x1 x2 (sq u 1 ω)) σ u ω := by
  have h6 := h.1.1.1
  have hM20 := h.1.1.2.2.1
  have hD := h.2.2.2.1
  have ck := ck_msg h.1.2.2.2.1.1 h.1.2.2.2.1.2 hM20
  rcases ck x1 with ⟨a, ha, rfl, k1, m1⟩ | ⟨k1, m1⟩
  · rcases ck x2 with ⟨b, hb, rfl, k2, m2⟩ | ⟨k2, m2⟩
    · by_cases e : a = b
      · subst e
        refine QR_thr (r := nI 0) 3 (by decide) ?_ ?_
        · simp (disch := first | omega | (simp only [pN, pP, pM, pE, pL, pC, pK, sp]; omega)) only [u_fX11_ahead, u_fX11_ahead_0, k1, e_obxl, e_obxr, u_fX11_needTwo, u_fX11_needTwo_0, e_T, e_F, e_bnd, e_obr, e_obd, e_obt, e_addB, e_addA, e_in, e_cl, e_leT, e_leF, e_ltT, e_ltF, e_eqT, e_eqF, e_NOT, e_NOF, nI_add, pk_mul, k_spot, k_chan, m_node, m_pair, m_msg, m_chan, m_pack, e_w, e_wn, e_ws]
        · simp (disch := first | omega | (simp only [pN, pP, pM, pE, pL, pC, pK, sp]; omega)) only [u_fX12_ahead, u_fX12_ahead_0, u_fX12_ahead_27, u_fX12_ahead_45, m1, m_thr0, m_thr1, e_ws0, e_ss, e_T, e_F, e_bnd, e_obr, e_obd, e_obt, e_addB, e_addA, e_in, e_cl, e_leT, e_leF, e_ltT, e_ltF, e_eqT, e_eqF, e_NOT, e_NOF, nI_add, pk_mul, k_spot, k_chan, m_node, m_pair, m_msg, m_chan, m_pack, e_w, e_wn, e_ws]; rfl
      · obtain ⟨v, A, r1, r2, r3, r4, r5⟩ := k_read hD h.1.2.1.1 h6 (sbTO σ) (fun q hq => e_sbTO σ hq)
        obtain ⟨u', A', s1, s2', s3, s4⟩ := m_laysA hD h.1.2.1.2 h.1.2.2.2.1.2 h6 hM20 (s2 u 0 0 (nI 0))
        have we := (wal_eq h r3 s3).1 a ha
        have v37 : sbTO (ubTO σ v) 37 a = wal M 0 A' a := by
          have := e_sbTO2 σ v (q := 1) (by omega)
          have e37 : sbTO (ubTO σ v) 37 = v 37 := this
          rw [e37, r4 a (by omega), we]
        have u9 : u' 9 a = wal M 0 A' a := s4 a ha
        have ki := k_isIn2 (wal M 0 A' a) (k := b) (by omega)
        have kh := k_holds2 (wal M 0 A' a) (k := b) (by omega)
        refine ⟨.inl (b2 (bt (wal M 0 A' a) b)), ubTO σ v, b2 (bt (wal M 0 A' a) b), u', ?_, ?_, ⟨fun q hq => ?_, fun j hj => ?_⟩, uq_TO r2, Or.inl ⟨rfl, ?_⟩⟩
        · cases hbt : bt (wal M 0 A' a) b with
          | true =>
            rw [hbt] at ki
            simp (disch := first | omega | (simp only [pN, pP, pM, pE, pL, pC, pK, sp]; omega)) only [u_fX11_ahead, u_fX11_ahead_0, k1, k2, e_obxl, u_fX11_needTwo, u_fX11_needTwo_0, r1, u_fX8_isAhead, u_fX8_isAhead_0, v37, ki, b2_t, e_isB1, e_T, e_F, e_bnd, e_obr, e_obd, e_obt, e_addB, e_addA, e_in, e_cl, e_leT, e_leF, e_ltT, e_ltF, e_eqT, e_eqF, e_NOT, e_NOF, nI_add, pk_mul, k_spot, k_chan, m_node, m_pair, m_msg, m_chan, m_pack, e_w, e_wn, e_ws]
          | false =>
            rw [hbt] at ki
            simp (disch := first | omega | (simp only [pN, pP, pM, pE, pL, pC, pK, sp]; omega)) only [u_fX11_ahead, u_fX11_ahead_0, k1, k2, e_obxl, u_fX11_needTwo, u_fX11_needTwo_0, r1, u_fX8_isAhead, u_fX8_isAhead_0, v37, ki, b2_f, e_isB0, e_T, e_F, e_bnd, e_obr, e_obd, e_obt, e_addB, e_addA, e_in, e_cl, e_leT, e_leF, e_ltT, e_ltF, e_eqT, e_eqF, e_NOT, e_NOF, nI_add, pk_mul, k_spot, k_chan, m_node, m_pair, m_msg, m_chan, m_pack, e_w, e_wn, e_ws]
        · cases hbt : bt (wal M 0 A' a) b with
          | true =>
            rw [hbt] at kh
            simp (disch := first | omega | (simp only [pN, pP, pM, pE, pL, pC, pK, sp]; omega)) only [u_fX12_ahead, u_fX12_ahead_0, u_fX12_ahead_27, u_fX12_ahead_45, m1, m2, m_thr0, e_ws0, s1, u9, kh, b2_t, e_isB1, e_T, e_F, e_bnd, e_obr, e_obd, e_obt, e_addB, e_addA, e_in, e_cl, e_leT, e_leF, e_ltT, e_ltF, e_eqT, e_eqF, e_NOT, e_NOF, nI_add, pk_mul, k_spot, k_chan, m_node, m_pair, m_msg, m_chan, m_pack, e_w, e_wn, e_ws]
          | false =>
            rw [hbt] at kh
            simp (disch := first | omega | (simp only [pN, pP, pM, pE, pL, pC, pK, sp]; omega)) only [u_fX12_ahead, u_fX12_ahead_0, u_fX12_ahead_27, u_fX12_ahead_45, m1, m2, m_thr0, e_ws0, s1, u9, kh, b2_f, e_isB0, e_T, e_F, e_bnd, e_obr, e_obd, e_obt, e_addB, e_addA, e_in, e_cl, e_leT, e_leF, e_ltT, e_ltF, e_eqT, e_eqF, e_NOT, e_NOF, nI_add, pk_mul, k_spot, k_chan, m_node, m_pair, m_msg, m_chan, m_pack, e_w, e_wn, e_ws]
        · rw [s2' q (fun e => hq (by rw [e]; decide)), e_s2n _ _ _ (fun e => hq (by rw [e]; decide))]
        · rw [s2' 0 (by omega), e_s2, pk_un hj]
        · rw [s2' 0 (by omega), s2_00]; rfl
    · refine QR_thr (r := nI 0) 0 (by decide) ?_ ?_
      · simp (disch := first | omega | (simp only [pN, pP, pM, pE, pL, pC, pK, sp]; omega)) only [u_fX11_ahead, u_fX11_ahead_0, k1, k2, e_obxl, e_obxr, e_T, e_F, e_bnd, e_obr, e_obd, e_obt, e_addB, e_addA, e_in, e_cl, e_leT, e_leF, e_ltT, e_ltF, e_eqT, e_eqF, e_NOT, e_NOF, nI_add, pk_mul, k_spot, k_chan, m_node, m_pair, m_msg, m_chan, m_pack, e_w, e_wn, e_ws]
      · simp (disch := first | omega | (simp only [pN, pP, pM, pE, pL, pC, pK, sp]; omega)) only [u_fX12_ahead, u_fX12_ahead_0, u_fX12_ahead_22, u_fX12_ahead_27, m1, m2, m_thr1, e_ws0, e_ss, e_T, e_F, e_bnd, e_obr, e_obd, e_obt, e_addB, e_addA, e_in, e_cl, e_leT, e_leF, e_ltT, e_ltF, e_eqT, e_eqF, e_NOT, e_NOF, nI_add, pk_mul, k_spot, k_chan, m_node, m_pair, m_msg, m_chan, m_pack, e_w, e_wn, e_ws]; rfl
  · refine QR_thr (r := nI 0) 0 (by decide) ?_ ?_
    · simp (disch := first | omega | (simp only [pN, pP, pM, pE, pL, pC, pK, sp]; omega)) only [u_fX11_ahead, u_fX11_ahead_0, k1, e_obxr, e_T, e_F, e_bnd, e_obr, e_obd, e_obt, e_addB, e_addA, e_in, e_cl, e_leT, e_leF, e_ltT, e_ltF, e_eqT, e_eqF, e_NOT, e_NOF, nI_add, pk_mul, k_spot, k_chan, m_node, m_pair, m_msg, m_chan, m_pack, e_w, e_wn, e_ws]
    · simp (disch := first | omega | (simp only [pN, pP, pM, pE, pL, pC, pK, sp]; omega)) only [u_fX12_ahead, u_fX12_ahead_0, u_fX12_ahead_22, u_fX12_ahead_27, m1, m_thr1, e_ws0, e_ss, e_T, e_F, e_bnd, e_obr, e_obd, e_obt, e_addB, e_addA, e_in, e_cl, e_leT, e_leF, e_ltT, e_ltF, e_eqT, e_eqF, e_NOT, e_NOF, nI_add, pk_mul, k_spot, k_chan, m_node, m_pair, m_msg, m_chan, m_pack, e_w, e_wn, e_ws]; rfl
end AD
