/-! the object's state and the model's, between two calls -/
theorem e_obxl (x : Int32) (u : Sg) (k : Sg → Option (Xr × Sg)) : obx (some (.inl x, u)) k = k u := rfl
theorem e_obxr (E : Nat) (u : Sg) (k : Sg → Option (Xr × Sg)) : obx (some (.inr E, u)) k = some (.inr E, u) := rfl
theorem e_obyl (x : Int32) (u : Sg) (mp : Sg → Sg) (k : Sg → Option (Xr × Sg × Nat)) : obxY (some (.inl x, u)) mp k = k (mp u) := rfl
theorem e_obyr (E : Nat) (u : Sg) (mp : Sg → Sg) (k : Sg → Option (Xr × Sg × Nat)) : obxY (some (.inr E, u)) mp k = some (.inr E, mp u, 0) := rfl
theorem e_addY (d n : Nat) (r : Xr) (u : Sg) : addY d (some (r, u, n)) = some (r, u, d + n) := rfl
theorem e_ws0 (u : Sg) (ω : Nat → Int32) (i : Nat) (x : Int32) : s2 (sq u 1 ω) 0 i x = sq (s2 u 0 i x) 1 ω := by
  funext p
  by_cases h : p = 1
  · subst h; simp [s2, sq]
  · by_cases h0 : p = 0
    · subst h0; simp [s2, sq]
    · simp [s2, sq, h, h0]
theorem e_ss (u : Sg) (q i : Nat) (x y : Int32) : s2 (s2 u q i x) q i y = s2 u q i y := by
  funext p j
  rw [e_s2'', e_s2'', e_s2'']
  by_cases h : p = q ∧ j = i
  · rw [if_pos h, if_pos h]
  · rw [if_neg h, if_neg h, if_neg h]
theorem e_sbTN (σ : Sg) : sbTN σ = σ := by
  funext q
  show (if 0 ≤ q ∧ q < 36 then σ (0 + (q - 0)) else σ q) = σ q
  split
  · congr 1; omega
  · rfl
theorem e_ubTN (σ ν : Sg) {q : Nat} (h : q < 36) : ubTN σ ν q = ν q := by
  show (if 0 ≤ q ∧ q < 36 then ν (0 + (q - 0)) else σ q) = ν q
  rw [if_pos (by omega)]; congr 1; omega
theorem e_ubTN' (σ ν : Sg) {q : Nat} (h : 36 ≤ q) : ubTN σ ν q = σ q := by
  show (if 0 ≤ q ∧ q < 36 then ν (0 + (q - 0)) else σ q) = σ q
  rw [if_neg (by omega)]
section IN
variable {dr : Prop} {tk : Int32} {e : Nat → Nat → Nat} {pl N G M T B : Nat} {Q : Qs} {Dl : Nat → List Nat} {u u' σ σ' : Sg} {ω : Nat → Int32}
theorem R0_cg (c : ∀ q, q < 36 → σ' q = σ q) (h : R0 dr tk pl N G M T B Q Dl σ ω) : R0 dr tk pl N G M T B Q Dl σ' ω := by
  obtain ⟨hS, hN, hP, hD, hM, hE, hL, hC, hQ, hO, hB⟩ := h
  refine ⟨rS_fr hS (by rw [c 0 (by omega)]; exact ⟨rfl, rfl, rfl, rfl, rfl, rfl, rfl, rfl⟩) (fun g _ => by rw [c 1 (by omega)]) (by rw [c 13 (by omega)]) (fun i hi h7 h9 => rfl), rN_fr hN (fun n _ => by rw [c 2 (by omega), c 3 (by omega), c 4 (by omega)]; exact ⟨rfl, rfl, rfl⟩) (fun n w hn hw => rfl), rP_fr hP (fun i _ => by rw [c 20 (by omega), c 21 (by omega), c 22 (by omega), c 23 (by omega), c 27 (by omega), c 28 (by omega), c 29 (by omega)]; exact ⟨rfl, rfl, rfl, rfl, rfl, rfl, rfl⟩) (fun n m w hn hm hw => rfl), rD_fr hD (fun i _ => by rw [c 20 (by omega), c 24 (by omega), c 23 (by omega)]; exact ⟨rfl, rfl, rfl⟩) (fun n m _ _ => by rw [c 17 (by omega)]) (fun n _ => by rw [c 25 (by omega)]) (fun n w hn hw h4 => rfl), rM_fr hM (fun m _ => by rw [c 14 (by omega), c 15 (by omega), c 16 (by omega), c 17 (by omega), c 18 (by omega)]; exact ⟨rfl, rfl, rfl, rfl, rfl⟩) (fun m w hm hw => rfl), rE_fr hE (by rw [c 30 (by omega)]) (fun k _ => by rw [c 31 (by omega), c 32 (by omega), c 33 (by omega)]; exact ⟨rfl, rfl, rfl⟩) rfl (fun k w hk hw => rfl), rL_fr hL (by rw [c 34 (by omega)]; exact ⟨rfl, rfl⟩) (fun i _ => by rw [c 35 (by omega)]) rfl (fun k w hk hw => rfl), ?_, hQ, rO_fr hO (by rw [c 5 (by omega)]; exact ⟨rfl, rfl⟩) (fun x _ => by rw [c 9 (by omega), c 11 (by omega), c 12 (by omega)]; exact ⟨rfl, rfl, rfl⟩) (fun i _ => by rw [c 10 (by omega)]), (by rw [cnt_fr (σ := σ) (fun i _ => by rw [c 20 (by omega)])]; exact hB)⟩
  intro x hx
  rw [c 6 (by omega), c 7 (by omega), c 8 (by omega)]
  exact hC x hx
theorem RR_cg (c : ∀ q, q < 36 → σ' q = σ q) (h : RR dr tk e pl N G M T Dl σ u ω) : RR dr tk e pl N G M T Dl σ' u ω := by
  obtain ⟨Q, B, h, hI, hd⟩ := h
  exact ⟨Q, B, R0_cg c h, rI_c hI (c 15 (by omega)) (c 2 (by omega)) (c 27 (by omega)), hd⟩
theorem RR_u (hu : u' 0 14 = u 0 14) (h : RR dr tk e pl N G M T Dl σ u ω) : RR dr tk e pl N G M T Dl σ u' ω := by
  obtain ⟨Q, B, h, hI, hd⟩ := h
  refine ⟨Q, B, h, hI, ?_⟩
  unfold dF at hd ⊢; rw [hu]; exact hd
end IN
/-- a net and its row, between calls: no more than so many ticks -/
def rNow (c pl : Nat) (σ u : Sg) (ω : Nat → Int32) : Prop := (∃ N G M T Dl, T ≤ 60 * c ∧ RR True 0 (fun _ _ => 0) pl N G M T Dl σ u ω) ∧ (σ 0 8 = nI 0 ∨ σ 0 8 = nI 1)
def pw (p : Nat) : Prop := p ≤ 50000 ∧ ∃ k, p = 384 * 2 ^ k
def okTape (σ μ : Sg) : Prop := ∃ L, L ≤ 400 ∧ σ 37 1 = nI L ∧ μ 0 7 = nI L ∧ ∀ j, j < 400 → σ 38 j = μ 5 j
def InvL (c : Nat) (s : Sta) (μ : Sg) : Prop :=
  rNow c s.1 s.2.2.2.1 μ (μ 1) ∧ okTape s.2.2.2.1 μ ∧ s.2.2.2.1 36 7 = μ 0 11 ∧ pw s.2.1 ∧ pw s.2.2.1 ∧
  ((s.2.2.2.1 36 6 = nI 0 ∧ μ 0 5 = nI 0) ∨ (s.2.2.2.1 36 6 = nI 1 ∧ μ 0 5 = nI 1 ∧ rNow c s.2.2.1 s.2.2.2.2.2 μ (μ 2)))
theorem rNow_up {c c' pl : Nat} {σ u : Sg} {ω : Nat → Int32} (h : rNow c pl σ u ω) (hc : c ≤ c') : rNow c' pl σ u ω := by
  obtain ⟨⟨N, G, M, T, Dl, h1, h2⟩, h3⟩ := h
  exact ⟨⟨N, G, M, T, Dl, by omega, h2⟩, h3⟩
theorem rNow_u {c pl : Nat} {σ u u' : Sg} {ω : Nat → Int32} (hu : u' 0 14 = u 0 14) (h : rNow c pl σ u ω) : rNow c pl σ u' ω := by
  obtain ⟨⟨N, G, M, T, Dl, h1, h2⟩, h3⟩ := h
  exact ⟨⟨N, G, M, T, Dl, h1, RR_u hu h2⟩, h3⟩
theorem rNow_cg {c pl : Nat} {σ σ' u : Sg} {ω : Nat → Int32} (hc : ∀ q, q < 36 → σ' q = σ q) (h : rNow c pl σ u ω) : rNow c pl σ' u ω := by
  obtain ⟨⟨N, G, M, T, Dl, h1, h2⟩, h3⟩ := h
  exact ⟨⟨N, G, M, T, Dl, h1, RR_cg hc h2⟩, by rw [hc 0 (by omega)]; exact h3⟩
theorem Inv_bd {c : Nat} {s : Sta} {μ : Sg} (h : InvL c s μ) : tot s ≤ 200000 := by
  obtain ⟨⟨⟨N, G, M, T, Dl, -, Q, B, h, -⟩, -⟩, -, -, h1, h2, -⟩ := h
  have := h.2.2.2.2.2.2.2.2.2.1
  obtain ⟨C, F, U, -, -, h3, -⟩ := this
  unfold tot
  have := h1.1
  have := h2.1
  omega
/-- what a call that only asks may change of the model's other cells, and of the object's -/
def uk (u u' : Sg) : Prop := (∀ q, q ∉ [0, 7, 8, 9] → u' q = u q) ∧ ∀ j, j ≠ 0 → u' 0 j = u 0 j
def uq (σ σ' : Sg) : Prop := ∀ q, q ≠ 40 → q ≠ 41 → σ' q = σ q
def QR (codes : List Nat) (k0 : Nat → Int32) (fc : Option (Xr × Sg)) (fm : Option (Int32 × Sg)) (σ u : Sg) (ω : Nat → Int32) : Prop :=
  ∃ z σ' r u', fc = some (z, σ') ∧ fm = some (r, sq u' 1 ω) ∧ uk u u' ∧ uq σ σ' ∧ out z r codes k0 u'
theorem uk_thr (u : Sg) (x : Int32) : uk u (s2 u 0 0 x) := ⟨fun q hq => e_s2n _ _ _ (fun e => hq (by rw [e]; decide)), fun j hj => by rw [e_s2, pk_un hj]⟩
theorem uq_rf (σ : Sg) : uq σ σ := fun _ _ _ => rfl
theorem QR_val {codes : List Nat} {k0 : Nat → Int32} {fc : Option (Xr × Sg)} {fm : Option (Int32 × Sg)} {σ u : Sg} {ω : Nat → Int32} {r : Int32} (h1 : fc = some (.inl r, σ)) (h2 : fm = some (r, sq (s2 u 0 0 (nI 0)) 1 ω)) : QR codes k0 fc fm σ u ω :=
  ⟨_, σ, r, _, h1, h2, uk_thr u _, uq_rf σ, Or.inl ⟨rfl, by rw [e_s2, pk_us]; rfl⟩⟩
theorem QR_thr {codes : List Nat} {k0 : Nat → Int32} {fc : Option (Xr × Sg)} {fm : Option (Int32 × Sg)} {σ u : Sg} {ω : Nat → Int32} {r : Int32} (E : Nat) (hE : E ∈ codes) (h1 : fc = some (.inr E, σ)) (h2 : fm = some (r, sq (s2 u 0 0 (k0 E)) 1 ω)) : QR codes k0 fc fm σ u ω :=
  ⟨_, σ, r, _, h1, h2, uk_thr u _, uq_rf σ, Or.inr ⟨E, rfl, hE, by rw [e_s2, pk_us]⟩⟩
theorem okT_of {c : Nat} {s : Sta} {μ : Sg} {codes : List Nat} {k0 : Nat → Int32} {fc : Option (Xr × Sg)} {fm : Option (Int32 × Sg)} (hI : InvL c s μ) (h : QR codes k0 fc fm s.2.2.2.1 μ (μ 1)) : okT InvL c s codes k0 fc fm := by
  obtain ⟨z, σ', r, u', h1, h2, h3, h4, h5⟩ := h
  obtain ⟨i1, ⟨L, t1, t2, t3, t4⟩, i3, i4, i5, i6⟩ := hI
  have e0 : ∀ j, j ≠ 0 → sq u' 1 (μ 1) 0 j = μ 0 j := fun j hj => by rw [e_wn _ _ (by omega)]; exact h3.2 j hj
  have c36 : ∀ q, q < 36 → σ' q = s.2.2.2.1 q := fun q hq => h4 q (by omega) (by omega)
  refine ⟨(z, σ'), r, sq u' 1 (μ 1), h1, h2, ?_, ?_⟩
  · refine ⟨?_, ⟨L, t1, ?_, ?_, fun j hj => ?_⟩, ?_, i4, i5, ?_⟩
    · rw [e_w]
      exact rNow_up (rNow_u (e0 14 (by omega)) (rNow_cg c36 i1)) (by omega)
    · show σ' 37 1 = nI L; rw [h4 37 (by omega) (by omega)]; exact t2
    · rw [e0 7 (by omega)]; exact t3
    · show σ' 38 j = _; rw [h4 38 (by omega) (by omega), e_wn _ _ (by omega), h3.1 5 (by decide)]; exact t4 j hj
    · show σ' 36 7 = _; rw [h4 36 (by omega) (by omega), e0 11 (by omega)]; exact i3
    · show (σ' 36 6 = nI 0 ∧ _) ∨ (σ' 36 6 = nI 1 ∧ _ ∧ _)
      rw [h4 36 (by omega) (by omega), e0 5 (by omega), e_wn _ _ (by omega), h3.1 2 (by decide)]
      rcases i6 with i6 | ⟨j1, j2, j3⟩
      · exact Or.inl i6
      · exact Or.inr ⟨j1, j2, rNow_up (rNow_u (e0 14 (by omega)) j3) (by omega)⟩
  · have e1 : sq u' 1 (μ 1) 0 0 = u' 0 0 := by rw [e_wn _ _ (by omega)]
    rcases h5 with ⟨y1, y2⟩ | ⟨E, y1, y2, y3⟩
    · exact Or.inl ⟨y1, by rw [e1]; exact y2⟩
    · exact Or.inr ⟨E, y1, y2, by rw [e1]; exact y3⟩
/-! arguments -/
theorem ne_bad {x : Int32} {n k : Nat} (hn : n < 2147483648) (h : x < 0 ∨ nI n ≤ x) (hk : k < n) : x ≠ nI k := by
  rintro rfl
  rcases h with h | h
  · exact nI_pos (by omega) h
  · exact nI_ge hk (by omega) h
theorem m_in0 {x : Int32} {n : Nat} (hn : n < 1000000) (h : x < 0 ∨ nI n ≤ x) : fX12_in x (nI 0) (nI n - nI 1) = nI 0 := by
  rw [u_fX12_in, u_fX12_in_0]
  by_cases h0 : x < nI 0
  · rw [cnd_pos h0]
  · rw [cnd_neg h0]
    obtain ⟨j, hj, rfl⟩ := nI_of (show ¬ x < 0 from h0)
    have hge : n ≤ j := by
      rcases h with h | h
      · exact absurd h h0
      · exact (nI_leI (by omega) hj).mp h
    refine cnd_pos ?_
    cases n with
    | zero => exact NO_lt (by omega)
    | succ n => rw [pk_sub (by omega)]; exact nI_lt (by omega) (by omega)
theorem m_in1 {j n : Nat} (hn : n < 1000000) (h : j < n) : fX12_in (nI j) (nI 0) (nI n - nI 1) = nI 1 := by
  rw [u_fX12_in, u_fX12_in_0, cnd_neg (nI_nlt (by omega) (by omega)), pk_sub (by omega), cnd_neg (nI_nlt (by omega) (by omega))]
theorem m_inB {x : Int32} {n : Nat} (hn : n < 1000) (h : x < 0 ∨ nI (n + 1) ≤ x) : fX12_in x (nI 0) (nI n) = nI 0 := by
  have := m_in0 (n := n + 1) (by omega) h
  rw [pk_sub (by omega), Nat.add_sub_cancel] at this; exact this
theorem m_inG {j n : Nat} (hn : n < 1000) (h : j ≤ n) : fX12_in (nI j) (nI 0) (nI n) = nI 1 := by
  have := m_in1 (n := n + 1) (j := j) (by omega) (by omega)
  rw [pk_sub (by omega), Nat.add_sub_cancel] at this; exact this
theorem ix (x : Int32) {n : Nat} (hn : n < 1000000) : (x < 0 ∨ nI n ≤ x) ∨ ∃ j, j < n ∧ x = nI j := by
  rcases pk_ix x (n := n) (by omega) with h | h | h
  · exact Or.inl (Or.inl h)
  · exact Or.inl (Or.inr h)
  · exact Or.inr h
theorem lt0 {x : Int32} {α : Type} {n : Nat} {a b : α} (h : x < 0 ∨ nI n ≤ x) : cnd (x < nI 0) a (cnd (x < nI n) b a) = a := by
  by_cases h0 : x < nI 0
  · rw [cnd_pos h0]
  · rw [cnd_neg h0]
    rcases h with h | h
    · exact absurd h h0
    · rw [cnd_neg (i_lt_le.mpr h)]
section CK
variable {σ : Sg} {ω : Nat → Int32} {N : Nat}
theorem ck_node (h0 : σ 0 0 = nI N) (w0 : ω 0 = nI N) (h6 : N ≤ 6) (x : Int32) : (∃ j, j < N ∧ x = nI j ∧ fX11_needNode x σ = some (.inl (nI 0), σ) ∧ ∀ u, fX12_noNode x (sq u 1 ω) = some (nI 0)) ∨ (fX11_needNode x σ = some (.inr 0, σ) ∧ ∀ u, fX12_noNode x (sq u 1 ω) = some (nI 1)) := by
  rcases ix x (n := N) (by omega) with h | ⟨j, hj, rfl⟩
  · right
    refine ⟨?_, fun u => ?_⟩
    · rw [u_fX11_needNode, u_fX11_needNode_0, u_fX11_needNode_15, h0]; exact lt0 h
    · simp (disch := first | omega | (simp only [pN, pP, pM, pE, pL, pC, pK, sp]; omega)) only [u_fX12_noNode, u_fX12_noNode_0, m_nodes, w0, m_in0 (show N < 1000000 by omega) h, e_T, e_F, e_bnd, e_obr, e_obd, e_obt, e_addB, e_addA, e_in, e_cl, e_leT, e_leF, e_ltT, e_ltF, e_eqT, e_eqF, e_NOT, e_NOF, nI_add, pk_mul, k_spot, k_chan, m_node, m_pair, m_msg, m_chan, m_pack, e_w, e_wn, e_ws]
  · left
    refine ⟨j, hj, rfl, ?_, fun u => ?_⟩
    · simp (disch := first | omega | (simp only [pN, pP, pM, pE, pL, pC, pK, sp]; omega)) only [u_fX11_needNode, u_fX11_needNode_0, h0, e_T, e_F, e_bnd, e_obr, e_obd, e_obt, e_addB, e_addA, e_in, e_cl, e_leT, e_leF, e_ltT, e_ltF, e_eqT, e_eqF, e_NOT, e_NOF, nI_add, pk_mul, k_spot, k_chan, m_node, m_pair, m_msg, m_chan, m_pack, e_w, e_wn, e_ws]
    · simp (disch := first | omega | (simp only [pN, pP, pM, pE, pL, pC, pK, sp]; omega)) only [u_fX12_noNode, u_fX12_noNode_0, m_nodes, w0, m_in1 (show N < 1000000 by omega) hj, e_T, e_F, e_bnd, e_obr, e_obd, e_obt, e_addB, e_addA, e_in, e_cl, e_leT, e_leF, e_ltT, e_ltF, e_eqT, e_eqF, e_NOT, e_NOF, nI_add, pk_mul, k_spot, k_chan, m_node, m_pair, m_msg, m_chan, m_pack, e_w, e_wn, e_ws]
theorem ck_group (h0 : σ 0 1 = nI N) (w0 : ω 1 = nI N) (h6 : N ≤ 6) (x : Int32) : (∃ j, j < N ∧ x = nI j ∧ fX11_needGroup x σ = some (.inl (nI 0), σ) ∧ ∀ u, fX12_noGroup x (sq u 1 ω) = some (nI 0)) ∨ (fX11_needGroup x σ = some (.inr 0, σ) ∧ ∀ u, fX12_noGroup x (sq u 1 ω) = some (nI 1)) := by
  rcases ix x (n := N) (by omega) with h | ⟨j, hj, rfl⟩
  · right
    refine ⟨?_, fun u => ?_⟩
    · rw [u_fX11_needGroup, u_fX11_needGroup_0, u_fX11_needGroup_15, h0]; exact lt0 h
    · simp (disch := first | omega | (simp only [pN, pP, pM, pE, pL, pC, pK, sp]; omega)) only [u_fX12_noGroup, u_fX12_noGroup_0, w0, m_in0 (show N < 1000000 by omega) h, e_T, e_F, e_bnd, e_obr, e_obd, e_obt, e_addB, e_addA, e_in, e_cl, e_leT, e_leF, e_ltT, e_ltF, e_eqT, e_eqF, e_NOT, e_NOF, nI_add, pk_mul, k_spot, k_chan, m_node, m_pair, m_msg, m_chan, m_pack, e_w, e_wn, e_ws]
  · left
    refine ⟨j, hj, rfl, ?_, fun u => ?_⟩
    · simp (disch := first | omega | (simp only [pN, pP, pM, pE, pL, pC, pK, sp]; omega)) only [u_fX11_needGroup, u_fX11_needGroup_0, h0, e_T, e_F, e_bnd, e_obr, e_obd, e_obt, e_addB, e_addA, e_in, e_cl, e_leT, e_leF, e_ltT, e_ltF, e_eqT, e_eqF, e_NOT, e_NOF, nI_add, pk_mul, k_spot, k_chan, m_node, m_pair, m_msg, m_chan, m_pack, e_w, e_wn, e_ws]
    · simp (disch := first | omega | (simp only [pN, pP, pM, pE, pL, pC, pK, sp]; omega)) only [u_fX12_noGroup, u_fX12_noGroup_0, w0, m_in1 (show N < 1000000 by omega) hj, e_T, e_F, e_bnd, e_obr, e_obd, e_obt, e_addB, e_addA, e_in, e_cl, e_leT, e_leF, e_ltT, e_ltF, e_eqT, e_eqF, e_NOT, e_NOF, nI_add, pk_mul, k_spot, k_chan, m_node, m_pair, m_msg, m_chan, m_pack, e_w, e_wn, e_ws]
theorem ck_msg (h0 : σ 13 0 = nI N) (w0 : ω 3 = nI N) (h6 : N ≤ 20) (x : Int32) : (∃ j, j < N ∧ x = nI j ∧ fX11_needMessage x σ = some (.inl (nI 0), σ) ∧ ∀ u, fX12_noMessage x (sq u 1 ω) = some (nI 0)) ∨ (fX11_needMessage x σ = some (.inr 0, σ) ∧ ∀ u, fX12_noMessage x (sq u 1 ω) = some (nI 1)) := by
  rcases ix x (n := N) (by omega) with h | ⟨j, hj, rfl⟩
  · right
    refine ⟨?_, fun u => ?_⟩
    · rw [u_fX11_needMessage, u_fX11_needMessage_0, u_fX11_needMessage_18, h0]; exact lt0 h
    · simp (disch := first | omega | (simp only [pN, pP, pM, pE, pL, pC, pK, sp]; omega)) only [u_fX12_noMessage, u_fX12_noMessage_0, m_messages, w0, m_in0 (show N < 1000000 by omega) h, e_T, e_F, e_bnd, e_obr, e_obd, e_obt, e_addB, e_addA, e_in, e_cl, e_leT, e_leF, e_ltT, e_ltF, e_eqT, e_eqF, e_NOT, e_NOF, nI_add, pk_mul, k_spot, k_chan, m_node, m_pair, m_msg, m_chan, m_pack, e_w, e_wn, e_ws]
  · left
    refine ⟨j, hj, rfl, ?_, fun u => ?_⟩
    · simp (disch := first | omega | (simp only [pN, pP, pM, pE, pL, pC, pK, sp]; omega)) only [u_fX11_needMessage, u_fX11_needMessage_0, h0, e_T, e_F, e_bnd, e_obr, e_obd, e_obt, e_addB, e_addA, e_in, e_cl, e_leT, e_leF, e_ltT, e_ltF, e_eqT, e_eqF, e_NOT, e_NOF, nI_add, pk_mul, k_spot, k_chan, m_node, m_pair, m_msg, m_chan, m_pack, e_w, e_wn, e_ws]
    · simp (disch := first | omega | (simp only [pN, pP, pM, pE, pL, pC, pK, sp]; omega)) only [u_fX12_noMessage, u_fX12_noMessage_0, m_messages, w0, m_in1 (show N < 1000000 by omega) hj, e_T, e_F, e_bnd, e_obr, e_obd, e_obt, e_addB, e_addA, e_in, e_cl, e_leT, e_leF, e_ltT, e_ltF, e_eqT, e_eqF, e_NOT, e_NOF, nI_add, pk_mul, k_spot, k_chan, m_node, m_pair, m_msg, m_chan, m_pack, e_w, e_wn, e_ws]
theorem m_thr0 {u : Sg} {c : Int32} : fX12_throwsIf (nI 0) c (sq u 1 ω) = some (nI 0, sq u 1 ω) := by
  simp (disch := first | omega | (simp only [pN, pP, pM, pE, pL, pC, pK, sp]; omega)) only [u_fX12_throwsIf, u_fX12_throwsIf_0, e_isB0, e_T, e_F, e_bnd, e_obr, e_obd, e_obt, e_addB, e_addA, e_in, e_cl, e_leT, e_leF, e_ltT, e_ltF, e_eqT, e_eqF, e_NOT, e_NOF, nI_add, pk_mul, k_spot, k_chan, m_node, m_pair, m_msg, m_chan, m_pack, e_w, e_wn, e_ws]
theorem m_thr1 {u : Sg} {c : Int32} : fX12_throwsIf (nI 1) c (sq u 1 ω) = some (nI 1, sq (s2 u 0 0 c) 1 ω) := by
  simp (disch := first | omega | (simp only [pN, pP, pM, pE, pL, pC, pK, sp]; omega)) only [u_fX12_throwsIf, u_fX12_throwsIf_0, e_isB1, e_ws0, e_T, e_F, e_bnd, e_obr, e_obd, e_obt, e_addB, e_addA, e_in, e_cl, e_leT, e_leF, e_ltT, e_ltF, e_eqT, e_eqF, e_NOT, e_NOF, nI_add, pk_mul, k_spot, k_chan, m_node, m_pair, m_msg, m_chan, m_pack, e_w, e_wn, e_ws]
end CK
