/-! an event more; nodes -/
section TM
variable {dr : Prop} {tk : Int32} {pl N G M T B : Nat} {Q : Qs} {Dl : Nat → List Nat} {σ σ' u : Sg} {ω ω' : Nat → Int32}
theorem R0_evt {E : Nat} (hE8 : E < 8) (hσ : σ 30 0 = nI E) (c : fc [30, 31, 32, 33] σ σ') (c0 : σ' 30 0 = nI (E + 1)) (c1 : ∀ k, k < E → σ' 31 k = σ 31 k ∧ σ' 32 k = σ 32 k ∧ σ' 33 k = σ 33 k) (hx : σ' 31 E = ω' (pE E 0)) (hn : ∃ n, n < N ∧ σ' 32 E = nI n ∧ ω' (pE E 2) = nI n) (hk : (σ' 33 E = NO ∧ ω' (pE E 1) = nI 1 ∧ ω' (pE E 3) = NO) ∨ ∃ g, g < G ∧ σ' 33 E = nI g ∧ ω' (pE E 1) = nI 0 ∧ ω' (pE E 3) = nI g) (w7 : ω' 7 = nI (E + 1)) (fw : ∀ i, i ≠ 7 → (∀ w, w < 4 → i ≠ pE E w) → ω' i = ω i) (h : R0 dr tk pl N G M T B Q Dl σ ω) (hl : ∀ c, c < 36 → (Q c).length ≤ 110) : R0 dr tk pl N G M T B Q Dl σ' ω' := by
  obtain ⟨hS, hN, hP, hD, hM, hE, hL, hC, hQ, hO, hB⟩ := h
  refine ⟨rS_fr hS (by rw [c 0 (by decide)]; exact ⟨rfl, rfl, rfl, rfl, rfl, rfl, rfl, rfl⟩) (fun g _ => by rw [c 1 (by decide)]) (by rw [c 13 (by decide)]) (fun i hi h7 h9 => fw _ (by first | omega | (simp only [pN, pP, pM, pE, pL, pC, pK]; omega)) (fun w hw => by simp only [pN, pP, pM, pE, pL, pC, pK]; omega)), rN_fr hN (fun n _ => by rw [c 2 (by decide), c 3 (by decide), c 4 (by decide)]; exact ⟨rfl, rfl, rfl⟩) (fun n w hn hw => fw _ (by first | omega | (simp only [pN, pP, pM, pE, pL, pC, pK]; omega)) (fun w hw => by simp only [pN, pP, pM, pE, pL, pC, pK]; omega)), rP_fr hP (fun i _ => by rw [c 20 (by decide), c 21 (by decide), c 22 (by decide), c 23 (by decide), c 27 (by decide), c 28 (by decide), c 29 (by decide)]; exact ⟨rfl, rfl, rfl, rfl, rfl, rfl, rfl⟩) (fun n m w hn hm hw => fw _ (by first | omega | (simp only [pN, pP, pM, pE, pL, pC, pK]; omega)) (fun w hw => by simp only [pN, pP, pM, pE, pL, pC, pK]; omega)), rD_fr hD (fun i _ => by rw [c 20 (by decide), c 24 (by decide), c 23 (by decide)]; exact ⟨rfl, rfl, rfl⟩) (fun n m _ _ => by rw [c 17 (by decide)]) (fun n _ => by rw [c 25 (by decide)]) (fun n w hn hw h4 => fw _ (by first | omega | (simp only [pN, pP, pM, pE, pL, pC, pK]; omega)) (fun w hw => by simp only [pN, pP, pM, pE, pL, pC, pK]; omega)), rM_fr hM (fun m _ => by rw [c 14 (by decide), c 15 (by decide), c 16 (by decide), c 17 (by decide), c 18 (by decide)]; exact ⟨rfl, rfl, rfl, rfl, rfl⟩) (fun m w hm hw => fw _ (by first | omega | (simp only [pN, pP, pM, pE, pL, pC, pK]; omega)) (fun w hw => by simp only [pN, pP, pM, pE, pL, pC, pK]; omega)), ?_, rL_fr hL (by rw [c 34 (by decide)]; exact ⟨rfl, rfl⟩) (fun i _ => by rw [c 35 (by decide)]) (fw _ (by first | omega | (simp only [pN, pP, pM, pE, pL, pC, pK]; omega)) (fun w hw => by simp only [pN, pP, pM, pE, pL, pC, pK]; omega)) (fun k w hk hw => fw _ (by first | omega | (simp only [pN, pP, pM, pE, pL, pC, pK]; omega)) (fun w hw => by simp only [pN, pP, pM, pE, pL, pC, pK]; omega)), rC_fr hC (fun x hx => Nat.le_trans (hl x hx) (by omega)) (fun x _ => by rw [c 6 (by decide), c 7 (by decide), c 8 (by decide)]; exact ⟨rfl, rfl, rfl⟩) (fun x w hx hw => fw _ (by first | omega | (simp only [pN, pP, pM, pE, pL, pC, pK]; omega)) (fun w hw => by simp only [pN, pP, pM, pE, pL, pC, pK]; omega)), hQ, rO_fr hO (by rw [c 5 (by decide)]; exact ⟨rfl, rfl⟩) (fun x _ => by rw [c 9 (by decide), c 11 (by decide), c 12 (by decide)]; exact ⟨rfl, rfl, rfl⟩) (fun i _ => by rw [c 10 (by decide)]), (by rw [cnt_fr (σ := σ) (fun i _ => by rw [c 20 (by decide)])]; exact hB)⟩
  obtain ⟨E', e1, e2, e3, e4⟩ := hE
  have : E' = E := (nI_eq (by omega) (by omega)).mp (e2.symm.trans hσ)
  subst this
  refine ⟨E' + 1, by omega, c0, w7, fun k hk' => ?_⟩
  by_cases ek : k = E'
  · subst ek; exact ⟨hx, hn, hk⟩
  · have hkl : k < E' := by omega
    obtain ⟨q1, q2, q3⟩ := c1 k hkl
    have f : ∀ w, w < 4 → ω' (pE k w) = ω (pE k w) := fun w hw => fw _ (by unfold pE; omega) (fun w' hw' => by unfold pE; omega)
    rw [q1, q2, q3, f 0 (by omega), f 1 (by omega), f 2 (by omega), f 3 (by omega)]
    exact e4 k hkl
theorem R0_nds {n₀ : Nat} (hn₀ : n₀ ≤ 6) (c : fc [0] σ σ') (c0 : σ' 0 0 = nI n₀) (cj : ∀ j, j ≠ 0 → σ' 0 j = σ 0 j) (w0 : ω' 0 = nI n₀) (wn : ∀ k, k < n₀ → ω' (pN k 0) = nI 1) (fw : ∀ i, i ≠ 0 → (∀ k, k < n₀ → i ≠ pN k 0) → ω' i = ω i) (h : R0 dr tk pl 0 G M T B Q Dl σ ω) (hl : ∀ c, c < 36 → (Q c).length ≤ 110) : R0 dr tk pl n₀ G M T B Q Dl σ' ω' := by
  obtain ⟨hS, hN, hP, hD, hM, hE, hL, hC, hQ, hO, hB⟩ := h
  have fs : ∀ i, i ≠ 0 → i < 17 → ω' i = ω i := fun i h1 h2 => fw i h1 (fun k _ => by unfold pN; omega)
  refine ⟨?_, ?_, ?_, rD_fr hD (fun i _ => by rw [c 20 (by decide), c 24 (by decide), c 23 (by decide)]; exact ⟨rfl, rfl, rfl⟩) (fun n m _ _ => by rw [c 17 (by decide)]) (fun n _ => by rw [c 25 (by decide)]) (fun n w hn hw h4 => fw _ (by first | omega | (simp only [pN, pP, pM, pE, pL, pC, pK]; omega)) (fun k hk => by first | exact pP_pN (by omega) (by omega) (by omega) | exact pN_pN (by omega) (by omega) (by omega) | (simp only [pN, pP, pM, pE, pL, pC, pK]; omega))), ?_, ?_, rL_fr hL (by rw [c 34 (by decide)]; exact ⟨rfl, rfl⟩) (fun i _ => by rw [c 35 (by decide)]) (fw _ (by first | omega | (simp only [pN, pP, pM, pE, pL, pC, pK]; omega)) (fun k hk => by first | exact pP_pN (by omega) (by omega) (by omega) | exact pN_pN (by omega) (by omega) (by omega) | (simp only [pN, pP, pM, pE, pL, pC, pK]; omega))) (fun k w hk hw => fw _ (by first | omega | (simp only [pN, pP, pM, pE, pL, pC, pK]; omega)) (fun k hk => by first | exact pP_pN (by omega) (by omega) (by omega) | exact pN_pN (by omega) (by omega) (by omega) | (simp only [pN, pP, pM, pE, pL, pC, pK]; omega))), rC_fr hC (fun x hx => Nat.le_trans (hl x hx) (by omega)) (fun x _ => by rw [c 6 (by decide), c 7 (by decide), c 8 (by decide)]; exact ⟨rfl, rfl, rfl⟩) (fun x w hx hw => fw _ (by first | omega | (simp only [pN, pP, pM, pE, pL, pC, pK]; omega)) (fun k hk => by first | exact pP_pN (by omega) (by omega) (by omega) | exact pN_pN (by omega) (by omega) (by omega) | (simp only [pN, pP, pM, pE, pL, pC, pK]; omega))), ?_, rO_fr hO (by rw [c 5 (by decide)]; exact ⟨rfl, rfl⟩) (fun x _ => by rw [c 9 (by decide), c 11 (by decide), c 12 (by decide)]; exact ⟨rfl, rfl, rfl⟩) (fun i _ => by rw [c 10 (by decide)]), (by rw [cnt_fr (σ := σ) (fun i _ => by rw [c 20 (by decide)])]; exact hB)⟩
  · obtain ⟨a0, a1, a2, a3, a4, a5, a6, a7, a8, a9, a10, a11⟩ := hS
    refine ⟨⟨hn₀, a0.2⟩, ⟨c0, w0⟩, ?_, ?_, ?_, ?_, ?_, ?_, ?_, ?_, ?_, ?_⟩
    · rw [cj 1 (by omega), fs 1 (by omega) (by omega)]; exact a2
    · rw [c 13 (by decide), fs 3 (by omega) (by omega)]; exact a3
    · rw [cj 3 (by omega), fs 4 (by omega) (by omega)]; exact a4
    · rw [cj 2 (by omega), fs 2 (by omega) (by omega)]; exact a5
    · rw [cj 6 (by omega), fs 8 (by omega) (by omega)]; exact a6
    · rw [cj 5 (by omega), fs 6 (by omega) (by omega)]; exact a7
    · rw [cj 4 (by omega), fs 5 (by omega) (by omega)]; exact a8
    · rw [cj 7 (by omega), fs 10 (by omega) (by omega)]; exact a9
    · intro g hg; rw [c 1 (by decide), fs (11 + g) (by omega) (by omega)]; exact a10 g hg
    · intro g hg k hk; rw [c 1 (by decide)]; exact a11 g hg k (by omega)
  · intro n hn
    obtain ⟨z1, z2, z3, z4⟩ := hN n hn
    have fn : ∀ w, 1 ≤ w → w < 4 → ω' (pN n w) = ω (pN n w) := fun w h1 h2 => fw _ (by unfold pN; omega) (fun k hk => pN_pN (by omega) (by omega) (by omega))
    rw [c 2 (by decide), c 3 (by decide), c 4 (by decide), fn 1 (by omega) (by omega), fn 2 (by omega) (by omega), fn 3 (by omega) (by omega)]
    refine ⟨fun hlt => Or.inl ⟨(z2 (by omega)).1, wn n hlt⟩, fun hge => ⟨(z2 (by omega)).1, ?_⟩, z3, z4⟩
    rw [fw (pN n 0) (by unfold pN; omega) (fun k hk => by unfold pN; omega)]
    exact (z2 (by omega)).2
  · intro n m hn hm
    have fp : ∀ w, w < 11 → ω' (pP n m w) = ω (pP n m w) := fun w hw => fw _ (by unfold pP; omega) (fun k hk => pP_pN (by omega) (by omega) (by omega))
    obtain ⟨⟨k, k1, k2, k3, k4, k5⟩, p2, p3, p4⟩ := hP n m hn hm
    have hk0 : k = 0 := Classical.byContradiction (fun q => by have := (k4 q).1; omega)
    rw [c 20 (by decide), c 21 (by decide), c 22 (by decide), c 23 (by decide), c 27 (by decide), fp 0 (by omega), fp 1 (by omega), fp 2 (by omega), fp 3 (by omega), fp 5 (by omega)]
    refine ⟨⟨k, k1, k2, k3, fun q => absurd hk0 q, fun q => by omega⟩, p2, p3, Or.inl ?_⟩
    rcases p4 with p4 | p4
    · exact p4
    · exact absurd p4.1 (by omega)
  · intro m hm
    obtain ⟨⟨q1, q2, q3, q4, q5⟩, q6, q7⟩ := hM m hm
    have fm : ∀ w, w < 5 → ω' (pM m w) = ω (pM m w) := fun w hw => fw _ (by unfold pM; omega) (fun k hk => by unfold pM pN; omega)
    rw [c 14 (by decide), c 15 (by decide), c 16 (by decide), c 17 (by decide), c 18 (by decide), fm 0 (by omega), fm 1 (by omega), fm 2 (by omega), fm 3 (by omega), fm 4 (by omega)]
    refine ⟨⟨q1, q2, q3, q4, q5⟩, fun hlt => ?_, q7⟩
    obtain ⟨⟨s, s1, -⟩, -⟩ := q6 hlt
    omega
  · obtain ⟨E, e1, e2, e3, e4⟩ := hE
    refine ⟨E, e1, by rw [c 30 (by decide)]; exact e2, by rw [fs 7 (by omega) (by omega)]; exact e3, fun k hk => ?_⟩
    obtain ⟨-, ⟨n, n1, -⟩, -⟩ := e4 k hk
    omega
  · intro a b ha hb
    have := (hQ a b ha hb).2 (Or.inl (by omega))
    refine ⟨fun p hp => ?_, fun _ => this⟩
    rw [this] at hp; cases hp
end TM
