/-! calls that look ahead -/
section W3
variable (u v : Sg)
theorem e_sbUN {q : Nat} (h : q < 36) : sbUN u q = u (36 + q) := by unfold sbUN; rw [if_pos (by omega)]; congr 1
theorem e_ubUN0 {q : Nat} (h : q < 36) : ubUN u v q = u q := by unfold ubUN; rw [if_neg (by omega)]
theorem e_ubUN1 {q : Nat} (h : q < 36) : ubUN u v (36 + q) = v q := by unfold ubUN; rw [if_pos (by omega)]; congr 1; omega
theorem e_ubUN2 {q : Nat} (h : 72 ≤ q) : ubUN u v q = u q := by unfold ubUN; rw [if_neg (by omega)]
theorem e_sbU2 {q : Nat} (h : q < 36) : sbU2 u (36 + q) = u q := by unfold sbU2; rw [if_neg (by omega), if_pos (by omega)]; congr 1; omega
theorem e_ubU20 {q : Nat} (h : q < 36) : ubU2 u v q = v (36 + q) := by unfold ubU2; rw [if_neg (by omega), if_pos (by omega)]; congr 1
theorem e_ubU21 {q : Nat} (h : q < 36) : ubU2 u v (36 + q) = v q := by unfold ubU2; rw [if_pos (by omega)]; congr 1; omega
theorem e_ubU22 {q : Nat} (h : 72 ≤ q) : ubU2 u v q = u q := by unfold ubU2; rw [if_neg (by omega), if_neg (by omega)]
theorem e_sbUT {q : Nat} (h : q < 36) : sbUT u q = u q := by unfold sbUT; rw [if_pos (by omega)]; congr 1; omega
theorem e_ubUT : ubUT u (sbUT u) = u := by
  funext q
  unfold ubUT
  split
  · rw [e_sbUT _ (by omega)]; congr 1; omega
  · split
    · unfold sbUT; rw [if_neg (by omega), if_pos (by omega)]; congr 1; omega
    · rfl
end W3
/-- the main net and the object's own cells are as they were -/
def kU (σ z : Sg) : Prop := (∀ q, q < 36 → z q = σ q) ∧ ∀ q, 36 ≤ q → z (q + 36) = σ q
theorem kU_m (σ τ : Sg) : kU σ (mS σ τ) := ⟨fun q hq => e_mS0 _ _ hq, fun q hq => e_mS2 _ _ hq⟩
theorem kU_N {σ z v : Sg} (h : kU σ z) : kU σ (ubUN z v) := ⟨fun q hq => by rw [e_ubUN0 _ _ hq, h.1 q hq], fun q hq => by rw [e_ubUN2 _ _ (by omega), h.2 q hq]⟩
theorem kU_2 {σ z v : Sg} (h : kU σ z) (hv : ∀ q, q < 36 → v (36 + q) = σ q) : kU σ (ubU2 z v) := ⟨fun q hq => by rw [e_ubU20 _ _ hq, hv q hq], fun q hq => by rw [e_ubU22 _ _ (by omega), h.2 q hq]⟩
section AH
variable {dr : Prop} {tk : Int32} {e : Nat → Nat → Nat} {pl N G M T B : Nat} {Q : Qs} {Dl : Nat → List Nat} {u σ σ' : Sg} {ω : Nat → Int32} {c : Nat} {s : Sta} {μ : Sg}
theorem R0_look (h : R0 True 0 pl N G M T B Q Dl σ ω) (hl : ∀ c, c < 36 → (Q c).length ≤ 110) : R0 False (ω 10) pl N G M T B Q Dl (s2 (s2 σ 0 4 (nI 0)) 0 7 (nI 0)) ω := by
  obtain ⟨hS, hN, hP, hD, hM, hE, hL, hC, hQ, hO, hB⟩ := h
  have c : fc [0] σ (s2 (s2 σ 0 4 (nI 0)) 0 7 (nI 0)) := fun q hq => by rw [e_s2n _ _ _ (fun e => hq (by rw [e]; decide)), e_s2n _ _ _ (fun e => hq (by rw [e]; decide))]
  refine ⟨?_, rN_fr hN (fun n _ => by rw [c 2 (by decide), c 3 (by decide), c 4 (by decide)]; exact ⟨rfl, rfl, rfl⟩) (fun n w hn hw => rfl), rP_fr hP (fun i _ => by rw [c 20 (by decide), c 21 (by decide), c 22 (by decide), c 23 (by decide), c 27 (by decide), c 28 (by decide), c 29 (by decide)]; exact ⟨rfl, rfl, rfl, rfl, rfl, rfl, rfl⟩) (fun n m w hn hm hw => rfl), rD_fr hD (fun i _ => by rw [c 20 (by decide), c 24 (by decide), c 23 (by decide)]; exact ⟨rfl, rfl, rfl⟩) (fun n m _ _ => by rw [c 17 (by decide)]) (fun n _ => by rw [c 25 (by decide)]) (fun n w hn hw h4 => rfl), rM_fr hM (fun m _ => by rw [c 14 (by decide), c 15 (by decide), c 16 (by decide), c 17 (by decide), c 18 (by decide)]; exact ⟨rfl, rfl, rfl, rfl, rfl⟩) (fun m w hm hw => rfl), rE_fr hE (by rw [c 30 (by decide)]) (fun k _ => by rw [c 31 (by decide), c 32 (by decide), c 33 (by decide)]; exact ⟨rfl, rfl, rfl⟩) (rfl) (fun k w hk hw => rfl), ?_, rC_fr hC (fun x hx => Nat.le_trans (hl x hx) (by omega)) (fun x _ => by rw [c 6 (by decide), c 7 (by decide), c 8 (by decide)]; exact ⟨rfl, rfl, rfl⟩) (fun x w hx hw => rfl), hQ, rO_fr hO (by rw [c 5 (by decide)]; exact ⟨rfl, rfl⟩) (fun x _ => by rw [c 9 (by decide), c 11 (by decide), c 12 (by decide)]; exact ⟨rfl, rfl, rfl⟩) (fun i _ => by rw [c 10 (by decide)]), (by rw [cnt_fr (σ := σ) (fun i _ => by rw [c 20 (by decide)])]; exact hB)⟩
  · obtain ⟨a0, a1, a2, a3, a4, a5, a6, a7, a8, a9, a10, a11⟩ := hS
    have e : ∀ j, j ≠ 4 → j ≠ 7 → s2 (s2 σ 0 4 (nI 0)) 0 7 (nI 0) 0 j = σ 0 j := fun j h4 h7 => by rw [e_s2, pk_un h7, e_s2, pk_un h4]
    refine ⟨a0, ?_, ?_, ?_, ?_, ?_, ?_, ?_, ?_, ?_, ?_, ?_⟩
    · rw [e 0 (by omega) (by omega)]; exact a1
    · rw [e 1 (by omega) (by omega)]; exact a2
    · rw [c 13 (by decide)]; exact a3
    · rw [e 3 (by omega) (by omega)]; exact a4
    · rw [e 2 (by omega) (by omega)]; exact a5
    · rw [e 6 (by omega) (by omega)]; exact a6
    · rw [e 5 (by omega) (by omega)]; exact a7
    · exact ⟨0, by omega, by rw [e_s2, pk_un (by omega), e_s2, pk_us], fun q => q.elim, fun _ => rfl⟩
    · rw [e_s2, pk_us]; show (0 : Int32) + ω 10 = ω 10; exact Int32.zero_add _
    · intro g hg; rw [c 1 (by decide)]; exact a10 g hg
    · rw [c 1 (by decide)]; exact a11
  · obtain ⟨st, nx, b1, b2', b3, b4, -⟩ := hL
    exact ⟨st, nx, b1, b2', by rw [c 34 (by decide)]; exact b3, by rw [c 34 (by decide)]; exact b4, fun q => q.elim⟩
/-- the net is taken over into the one that looks ahead -/
theorem s_look {U : Sg} (hI : InvL c s μ) (hR : RR True 0 (fun _ _ => 0) s.1 N G M T Dl s.2.2.2.1 μ (μ 1)) (hU : kU s.2.2.2.1 U) : ∃ v d, fX7_lookFrom s.1 (sbU2 U) s.2.1 = some (v, d) ∧ (∀ u, u 0 14 = nI 0 → RR False (μ 1 10) (fun _ _ => 0) (s.2.1 + d) N G M T Dl v u (μ 1)) ∧ ∀ q, q < 36 → v (36 + q) = s.2.2.2.1 q := by
  obtain ⟨p1, U', p2, p3⟩ := rNow_pool hI.1
  obtain ⟨u', d, k1, hc, k3, k4, k5, k6⟩ := k_look (l2 := s.1) (pl := s.2.1) (u := sbU2 U) (σ := s.2.2.2.1) (fun q hq => by rw [e_sbU2 _ hq, hU.1 q hq]) hI.1.2 hI.2.2.2.1 p1 ⟨U', p2, p3⟩
  refine ⟨_, d, k1, fun u hu => ?_, fun q hq => by rw [e_s2n _ _ _ (by omega), e_s2n _ _ _ (by omega), k5 q hq]⟩
  obtain ⟨Q, B, h, hrI, -⟩ := RR_cp (u' := μ) (ω' := μ 1) hR (fun _ _ => by omega) hc k3 k4 (fun _ _ => rfl) rfl
  have hll : ∀ c, c < 36 → (Q c).length ≤ 110 := fun c hc => Nat.le_trans (q_len h.2.2.2.2.2.2.2.2.1 hrI (fun _ _ => by omega) h.1.1.1 h.1.1.2.2.1 hc) (by omega)
  exact ⟨Q, B, R0_look h hll, rI_c hrI (by rw [e_s2n _ _ _ (by omega), e_s2n _ _ _ (by omega)]) (by rw [e_s2n _ _ _ (by omega), e_s2n _ _ _ (by omega)]) (by rw [e_s2n _ _ _ (by omega), e_s2n _ _ _ (by omega)]), Or.inr ⟨id, hu⟩⟩
theorem sq_14 (u : Sg) (ω g : Nat → Int32) : sq (sq u 1 ω) 4 g = sq (sq u 4 g) 1 ω := by
  funext p
  by_cases h : p = 4
  · subst h; rw [e_qs, e_wn _ _ (by omega), e_qs]
  · by_cases h1 : p = 1
    · subst h1; rw [e_qn _ _ (by omega), e_w, e_w]
    · rw [e_qn _ _ h, e_wn _ _ h1, e_wn _ _ h1, e_qn _ _ h]
theorem m_begin (u : Sg) (ω : Nat → Int32) : ∃ g, fX12_beginsAhead (sq u 1 ω) = some (sq (s2 (sq u 4 g) 0 14 (nI 0)) 1 ω) ∧ ∀ j, j < 32243 → g j = ω j := by
  obtain ⟨g, h1, h2⟩ := m_keeps (sq u 1 ω)
  refine ⟨g, ?_, fun j hj => by rw [h2 j hj, e_w]⟩
  rw [u_fX12_beginsAhead, u_fX12_beginsAhead_0, h1, e_obr, e_bnd, sq_14, e_ws0]
theorem sq_11 (u : Sg) (ω g : Nat → Int32) : sq (sq u 1 ω) 1 g = sq u 1 g := by
  funext p
  by_cases h : p = 1
  · subst h; rw [e_w, e_w]
  · rw [e_wn _ _ h, e_wn _ _ h, e_wn _ _ h]
theorem m_end (u : Sg) (ω : Nat → Int32) : ∃ g, fX12_endsAhead (sq u 1 ω) = some (sq (s2 u 0 14 (nI 1)) 1 g) ∧ ∀ j, j < 32243 → g j = u 4 j := by
  obtain ⟨g, h1, h2⟩ := m_brings (sq (s2 u 0 14 (nI 1)) 1 ω)
  refine ⟨g, ?_, fun j hj => by rw [h2 j hj, e_wn _ _ (by omega), e_s2n _ _ _ (by omega)]⟩
  rw [u_fX12_endsAhead, u_fX12_endsAhead_0, e_ws0, e_bnd, h1, e_obr, sq_11]
/-- after a look ahead -/
theorem Inv_look {p' : Nat} {z w : Sg} {g g4 : Nat → Int32} {x : Int32} (hI : InvL c s μ) (hz : kU s.2.2.2.1 z) (hp : pw p') (hw : eu (s2 (sq (s2 μ 0 0 x) 4 g4) 0 14 (nI 0)) w) (h4 : ∀ j, j < 32243 → g4 j = μ 1 j) (hg : ∀ j, j < 32243 → g j = w 4 j) : InvL (c + 1) (s.1, p', s.2.2.1, uS z, nS z, s.2.2.2.2.2) (sq (s2 w 0 14 (nI 1)) 1 g) := by
  obtain ⟨i1, ⟨L, t1, t2, t3, t4⟩, i3, i4, i5, i6⟩ := hI
  have h14 : μ 0 14 = nI 1 := by
    obtain ⟨⟨N, G, M, T, Dl, -, Q, B, -, -, hd⟩, -⟩ := i1
    rcases hd with hd | hd
    · exact hd.2
    · exact absurd trivial hd.1
  have e0 : ∀ j, j ≠ 0 → sq (s2 w 0 14 (nI 1)) 1 g 0 j = μ 0 j := fun j hj => by
    rw [e_wn _ _ (by omega), e_s2]
    by_cases e : j = 14
    · subst e; rw [pk_us, h14]
    · rw [pk_un e, hw 0 (by omega), e_s2, pk_un e, e_qn _ _ (by omega), e_s2, pk_un hj]
  have eq : ∀ q, q ≠ 0 → q ≠ 1 → q ≠ 4 → q ≠ 7 → sq (s2 w 0 14 (nI 1)) 1 g q = μ q := fun q h0 h1 h4 h7 => by
    rw [e_wn _ _ h1, e_s2n _ _ _ h0, hw q h7, e_s2n _ _ _ h0, e_qn _ _ h4, e_s2n _ _ _ h0]
  have hg' : ∀ j, j < 32243 → g j = μ 1 j := fun j hj => by
    rw [hg j hj, hw 4 (by omega), e_s2n _ _ _ (by omega), e_qs, h4 j hj]
  have u0 : ∀ q, q < 36 → uS z q = s.2.2.2.1 q := fun q hq => by unfold uS; rw [if_pos hq, hz.1 q hq]
  have u1 : ∀ q, 36 ≤ q → uS z q = s.2.2.2.1 q := fun q hq => by unfold uS; rw [if_neg (by omega), hz.2 q hq]
  obtain ⟨pp, -⟩ := rNow_pool i1
  refine ⟨?_, ⟨L, t1, ?_, ?_, fun j hj => ?_⟩, ?_, hp, i5, ?_⟩
  · rw [e_w]
    exact rNow_cg u0 (rNow_up (rNow_cp i1 (cpd_rf _) pp (fun _ _ h => h) hg' (e0 14 (by omega)) rfl) (by omega))
  · dsimp only; rw [u1 37 (by omega)]; exact t2
  · rw [e0 7 (by omega)]; exact t3
  · dsimp only; rw [u1 38 (by omega), eq 5 (by omega) (by omega) (by omega) (by omega)]; exact t4 j hj
  · dsimp only; rw [u1 36 (by omega), e0 11 (by omega)]; exact i3
  · dsimp only
    rw [u1 36 (by omega), e0 5 (by omega), eq 2 (by omega) (by omega) (by omega) (by omega)]
    rcases i6 with i6 | ⟨j1, j2, j3⟩
    · exact Or.inl i6
    · exact Or.inr ⟨j1, j2, rNow_up (rNow_u (e0 14 (by omega)) j3) (by omega)⟩
theorem uS_m (σ τ : Sg) {q : Nat} : uS (mS σ τ) q = σ q := by
  unfold uS; split
  · rw [e_mS0 _ _ (by omega)]
  · rw [e_mS2 _ _ (by omega)]
/-- what was thrown before a look ahead leaves all else -/
theorem Inv_thrU {u' : Sg} (hI : InvL c s μ) (hu : uk μ u') : InvL (c + 1) (s.1, s.2.1 + 0, s.2.2.1, uS (mS s.2.2.2.1 s.2.2.2.2.1), nS (mS s.2.2.2.1 s.2.2.2.2.1), s.2.2.2.2.2) (sq u' 1 (μ 1)) := by
  have h1 := Inv_thr hI hu
  have h2 : uS (mS s.2.2.2.1 s.2.2.2.2.1) = s.2.2.2.1 := by funext q; exact uS_m _ _
  rw [h2]
  exact h1
/-- a node goes down in a look ahead -/
theorem s_downA {n : Nat} (hnd : ¬ dr) (hR : RR dr tk e pl N G M T Dl σ u ω) (he : ∀ n m, e n m ≤ 1) (hn : n < N) : ∃ σ' ω', fX7_goDown (nI n) σ = some σ' ∧ (∀ {α : Type} (k : Sg → Option α), obr (fX12_isUp (nI n) (sq u 1 ω)) (fun r => cnd (r = nI 0) (k (sq u 1 ω)) (obr (fX12_isDown (nI n) (sq u 1 ω)) k)) = k (sq u 1 ω')) ∧ RR dr tk e pl N G M T Dl σ' u ω' := by
  obtain ⟨Q, B, h, hI, hd⟩ := id hR
  have h6 := h.1.1.1
  have hT := h.1.1.2.2.2
  have hll : ∀ c, c < 36 → (Q c).length ≤ 110 := fun c hc => Nat.le_trans (q_len h.2.2.2.2.2.2.2.2.1 hI he h6 h.1.1.2.2.1 hc) (by omega)
  have hup := k_isUp (σ := σ) (n := n) (by omega)
  have hup' := q_isUp (u := u) h.2.1 hT h6 hn
  by_cases hu : σ 2 n = NO
  · rw [show upB σ n = true from decide_eq_true hu] at hup hup'
    have r1 := R0_down h hll hn
    obtain ⟨σ', l1, l3, l4⟩ := s_log1 (s2 σ 2 n (σ 0 3) 0 3) (nI n) (nI 2) NO hnd r1 hll
    have c1 : fc [2] σ (s2 σ 2 n (σ 0 3)) := fc_s2 _ _ _ _
    have cc := fc_tr c1 l4
    refine ⟨σ', _, ?_, fun k => ?_, ⟨Q, B, l3, ?_, hd⟩⟩
    · rw [u_fX7_goDown, u_fX7_goDown_0, hup, b2_t, e_obr, cnd_neg (by decide), e_in (by omega) (by omega), e_cl (by omega), e_bnd, l1, e_obr]
    · rw [hup', b2_t, e_obr, cnd_neg (by decide), m_isDown (by omega), e_obr]
    · refine rI_down (y := n) hI (cc 15 (by decide)) (fun x hx => ?_) ?_ (cc 27 (by decide))
      · rw [l4 2 (by decide), e_s2, pk_un hx]
      · rw [l4 2 (by decide), e_s2, pk_us, h.1.2.2.2.2.1.1]; exact NO_ne (by omega)
  · rw [show upB σ n = false from decide_eq_false hu] at hup hup'
    refine ⟨σ, ω, ?_, fun k => ?_, hR⟩
    · rw [u_fX7_goDown, u_fX7_goDown_0, hup, b2_f, e_obr, cnd_pos rfl]
    · rw [hup', b2_f, e_obr, cnd_pos rfl]
end AH
