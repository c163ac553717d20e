/-! frames by cells; how R0 bears a change of one kind of row -/
def fc (L : List Nat) (σ σ' : Sg) : Prop := ∀ q, q ∉ L → σ' q = σ q
theorem fc_rf (L : List Nat) (σ : Sg) : fc L σ σ := fun _ _ => rfl
theorem fc_tr {L L' : List Nat} {σ σ' σ'' : Sg} (h1 : fc L σ σ') (h2 : fc L' σ' σ'') : fc (L ++ L') σ σ'' := fun q hq => by
  rw [List.mem_append, not_or] at hq
  exact (h2 q hq.2).trans (h1 q hq.1)
theorem fc_wk {L L' : List Nat} {σ σ' : Sg} (h : fc L σ σ') (hs : ∀ q, q ∈ L → q ∈ L') : fc L' σ σ' := fun q hq => h q (fun hm => hq (hs q hm))
theorem fc_s2 (σ : Sg) (q i : Nat) (x : Int32) : fc [q] σ (s2 σ q i x) := fun p hp => e_s2n σ i x (fun e => hp (by rw [e]; exact List.mem_cons_self))
def rP1 (N M T B : Nat) (σ : Sg) (ω : Nat → Int32) (n m : Nat) : Prop :=
  (∃ k, k ≤ 3 ∧ σ 20 (sp n m) = nI k ∧ ω (pP n m 0) = nI k ∧ (k ≠ 0 → n < N ∧ m < M ∧ ∃ l, l < N ∧ σ 22 (sp n m) = nI l) ∧ (k = 3 → ∃ t, t ≤ T ∧ σ 23 (sp n m) = nI t ∧ ω (pP n m 4) = nI t)) ∧
  (vS B (σ 21 (sp n m)) ∧ ω (pP n m 1) = num (σ 21 (sp n m)) ∧ ω (pP n m 2) = nod (σ 21 (sp n m))) ∧ σ 22 (sp n m) = ω (pP n m 3) ∧
  ((σ 27 (sp n m) = NO ∧ ω (pP n m 5) = nI 0) ∨ (n < N ∧ m < M ∧ rG N B σ ω n m))
theorem rP_iff {N M T B : Nat} {σ : Sg} {ω : Nat → Int32} : rP N M T B σ ω ↔ ∀ n m, n < 6 → m < 20 → rP1 N M T B σ ω n m := Iff.rfl
theorem pP_pP {n m w a b v : Nat} (hm : m < 20) (hb : b < 20) (hw : w < 11) (hv : v < 11) (h : ¬ (n = a ∧ m = b)) : pP n m w ≠ pP a b v := by
  unfold pP
  rcases Nat.lt_trichotomy n a with g | g | g
  · have := Nat.mul_le_mul_left 245 (show n + 1 ≤ a from g); omega
  · subst g; omega
  · have := Nat.mul_le_mul_left 245 (show a + 1 ≤ n from g); omega
theorem sp_inj {n m n' m' : Nat} (hm : m < 20) (hm' : m' < 20) (h : sp n m = sp n' m') : n = n' ∧ m = m' := by unfold sp at h; omega
theorem Rm_of {dr : Prop} {tk : Int32} {pl N G M T B : Nat} {Q : Qs} {Dl : Nat → List Nat} {σ : Sg} {ω : Nat → Int32} (h : R0 dr tk pl N G M T B Q Dl σ ω) : Rm dr tk pl N G M T B Q Dl σ ω := by
  obtain ⟨hS, hN, hP, hD, hM, hE, hL, hC, hQ, hO, hB⟩ := h
  exact ⟨hS, hN, hP, hD, hM, hE, hL, hC, hQ, hO⟩
theorem R0_of {dr : Prop} {tk : Int32} {pl N G M T B : Nat} {Q : Qs} {Dl : Nat → List Nat} {σ : Sg} {ω : Nat → Int32} (h : Rm dr tk pl N G M T B Q Dl σ ω) (hB : B ≤ cnt σ) : R0 dr tk pl N G M T B Q Dl σ ω := by
  obtain ⟨hS, hN, hP, hD, hM, hE, hL, hC, hQ, hO⟩ := h
  exact ⟨hS, hN, hP, hD, hM, hE, hL, hC, hQ, hO, hB⟩
section UPD
variable {dr : Prop} {tk : Int32} {pl N G M T B : Nat} {Q : Qs} {Dl : Nat → List Nat} {σ σ' : Sg} {ω ω' : Nat → Int32}
theorem rP_up {n₀ m₀ : Nat} (hP : rP N M T B σ ω) (hm₀ : m₀ < 20) (f2 : ∀ q i, q ∈ [20, 21, 22, 23, 27, 28, 29] → i ≠ sp n₀ m₀ → σ' q i = σ q i) (fw : ∀ n m w, n < 6 → m < 20 → w < 11 → ¬ (n = n₀ ∧ m = m₀) → ω' (pP n m w) = ω (pP n m w)) (h1 : rP1 N M T B σ' ω' n₀ m₀) : rP N M T B σ' ω' := by
  rw [rP_iff] at hP ⊢
  intro n m hn hm
  by_cases e : n = n₀ ∧ m = m₀
  · rw [e.1, e.2]; exact h1
  · have h0 := hP n m hn hm
    have hs : sp n m ≠ sp n₀ m₀ := fun q => e (sp_inj hm hm₀ q)
    have g : ∀ w, w < 11 → ω' (pP n m w) = ω (pP n m w) := fun w hw => fw n m w hn hm hw e
    unfold rP1 rG at h0 ⊢
    rw [f2 20 _ (by decide) hs, f2 21 _ (by decide) hs, f2 22 _ (by decide) hs, f2 23 _ (by decide) hs, f2 27 _ (by decide) hs, f2 28 _ (by decide) hs, f2 29 _ (by decide) hs, g 0 (by omega), g 1 (by omega), g 2 (by omega), g 3 (by omega), g 4 (by omega), g 5 (by omega), g 6 (by omega), g 7 (by omega), g 8 (by omega), g 9 (by omega), g 10 (by omega)]
    exact h0
theorem rD_up {n₀ m₀ : Nat} (hD : rD Dl σ ω) (hm₀ : m₀ < 20) (h20 : ∀ i, i ≠ sp n₀ m₀ → σ' 20 i = σ 20 i) (h24 : σ' 24 = σ 24) (h23 : σ' 23 = σ 23) (h17 : σ' 17 = σ 17) (h25 : σ' 25 = σ 25) (fw : ∀ n w, n < 6 → w < 25 → 4 ≤ w → ω' (pN n w) = ω (pN n w)) (h2 : σ' 20 (sp n₀ m₀) = nI 3 ↔ σ 20 (sp n₀ m₀) = nI 3) : rD Dl σ' ω' := by
  intro n hn
  obtain ⟨d1, d2, d3, d4, d5⟩ := hD n hn
  have hlen := dl_len hD hn
  refine ⟨d1, fun m => ?_, by rw [h25]; exact d3, by rw [fw n 4 hn (by omega) (by omega)]; exact d4, fun k m hk => ?_⟩
  · rw [d2 m]
    by_cases e : n = n₀ ∧ m = m₀
    · rw [e.1, e.2, h2]
    · constructor
      · rintro ⟨z1, z2⟩; exact ⟨z1, by rw [h20 _ (fun q => e (sp_inj z1 hm₀ q))]; exact z2⟩
      · rintro ⟨z1, z2⟩; exact ⟨z1, by rw [← h20 _ (fun q => e (sp_inj z1 hm₀ q))]; exact z2⟩
  · have := (List.getElem?_eq_some_iff.mp hk).1
    unfold wh
    rw [h24, fw n (5 + k) hn (by omega) (by omega), h23, h17]
    exact d5 k m hk
theorem Rm_pair {n₀ m₀ : Nat} (h : Rm dr tk pl N G M T B Q Dl σ ω) (hl : ∀ c, c < 36 → (Q c).length ≤ 110) (hn₀ : n₀ < 6) (hm₀ : m₀ < 20) (c : fc [20, 21, 22, 27, 28, 29] σ σ') (f2 : ∀ q i, i ≠ sp n₀ m₀ → σ' q i = σ q i) (fw : ∀ i, (∀ w, w < 11 → i ≠ pP n₀ m₀ w) → ω' i = ω i) (h1 : rP1 N M T B σ' ω' n₀ m₀) (h2 : σ' 20 (sp n₀ m₀) = nI 3 ↔ σ 20 (sp n₀ m₀) = nI 3) : Rm dr tk pl N G M T B Q Dl σ' ω' := by
  obtain ⟨hS, hN, hP, hD, hM, hE, hL, hC, hQ, hO⟩ := h
  have fwN : ∀ n w, w < 25 → ω' (pN n w) = ω (pN n w) := fun n w hw => fw _ (fun v hv => (pP_pN hm₀ hv hw).symm)
  refine ⟨rS_fr hS (by rw [c 0 (by decide)]; exact ⟨rfl, rfl, rfl, rfl, rfl, rfl, rfl, rfl⟩) (fun g _ => by rw [c 1 (by decide)]) (by rw [c 13 (by decide)]) (fun i hi h7 h9 => (by first | exact fwN _ _ (by omega) | exact fw _ (fun v hv => (by first | omega | exact pP_pN (by omega) (by omega) (by omega) | exact (pP_pN (by omega) (by omega) (by omega)).symm | exact pP_pP (by omega) (by omega) (by omega) (by omega) (by omega) | (simp only [pN, pP, pM, pE, pL, pC, pK, sp]; omega))))), rN_fr hN (fun n _ => by rw [c 2 (by decide), c 3 (by decide), c 4 (by decide)]; exact ⟨rfl, rfl, rfl⟩) (fun n w hn hw => (by first | exact fwN _ _ (by omega) | exact fw _ (fun v hv => (by first | omega | exact pP_pN (by omega) (by omega) (by omega) | exact (pP_pN (by omega) (by omega) (by omega)).symm | exact pP_pP (by omega) (by omega) (by omega) (by omega) (by omega) | (simp only [pN, pP, pM, pE, pL, pC, pK, sp]; omega))))), ?_, ?_, rM_fr hM (fun m _ => by rw [c 14 (by decide), c 15 (by decide), c 16 (by decide), c 17 (by decide), c 18 (by decide)]; exact ⟨rfl, rfl, rfl, rfl, rfl⟩) (fun m w hm hw => (by first | exact fwN _ _ (by omega) | exact fw _ (fun v hv => (by first | omega | exact pP_pN (by omega) (by omega) (by omega) | exact (pP_pN (by omega) (by omega) (by omega)).symm | exact pP_pP (by omega) (by omega) (by omega) (by omega) (by omega) | (simp only [pN, pP, pM, pE, pL, pC, pK, sp]; omega))))), rE_fr hE (by rw [c 30 (by decide)]) (fun k _ => by rw [c 31 (by decide), c 32 (by decide), c 33 (by decide)]; exact ⟨rfl, rfl, rfl⟩) ((by first | exact fwN _ _ (by omega) | exact fw _ (fun v hv => (by first | omega | exact pP_pN (by omega) (by omega) (by omega) | exact (pP_pN (by omega) (by omega) (by omega)).symm | exact pP_pP (by omega) (by omega) (by omega) (by omega) (by omega) | (simp only [pN, pP, pM, pE, pL, pC, pK, sp]; omega))))) (fun k w hk hw => (by first | exact fwN _ _ (by omega) | exact fw _ (fun v hv => (by first | omega | exact pP_pN (by omega) (by omega) (by omega) | exact (pP_pN (by omega) (by omega) (by omega)).symm | exact pP_pP (by omega) (by omega) (by omega) (by omega) (by omega) | (simp only [pN, pP, pM, pE, pL, pC, pK, sp]; omega))))), rL_fr hL (by rw [c 34 (by decide)]; exact ⟨rfl, rfl⟩) (fun i _ => by rw [c 35 (by decide)]) ((by first | exact fwN _ _ (by omega) | exact fw _ (fun v hv => (by first | omega | exact pP_pN (by omega) (by omega) (by omega) | exact (pP_pN (by omega) (by omega) (by omega)).symm | exact pP_pP (by omega) (by omega) (by omega) (by omega) (by omega) | (simp only [pN, pP, pM, pE, pL, pC, pK, sp]; omega))))) (fun k w hk hw => (by first | exact fwN _ _ (by omega) | exact fw _ (fun v hv => (by first | omega | exact pP_pN (by omega) (by omega) (by omega) | exact (pP_pN (by omega) (by omega) (by omega)).symm | exact pP_pP (by omega) (by omega) (by omega) (by omega) (by omega) | (simp only [pN, pP, pM, pE, pL, pC, pK, sp]; omega))))), rC_fr hC (fun x hx => Nat.le_trans (hl x hx) (by omega)) (fun x _ => by rw [c 6 (by decide), c 7 (by decide), c 8 (by decide)]; exact ⟨rfl, rfl, rfl⟩) (fun x w hx hw => (by first | exact fwN _ _ (by omega) | exact fw _ (fun v hv => (by first | omega | exact pP_pN (by omega) (by omega) (by omega) | exact (pP_pN (by omega) (by omega) (by omega)).symm | exact pP_pP (by omega) (by omega) (by omega) (by omega) (by omega) | (simp only [pN, pP, pM, pE, pL, pC, pK, sp]; omega))))), hQ, rO_fr hO (by rw [c 5 (by decide)]; exact ⟨rfl, rfl⟩) (fun x _ => by rw [c 9 (by decide), c 11 (by decide), c 12 (by decide)]; exact ⟨rfl, rfl, rfl⟩) (fun i _ => by rw [c 10 (by decide)])⟩
  · exact rP_up hP hm₀ (fun q i _ hi => f2 q i hi) (fun n m w hn hm hw e => fw _ (fun v hv => (by first | omega | exact pP_pN (by omega) (by omega) (by omega) | exact (pP_pN (by omega) (by omega) (by omega)).symm | exact pP_pP (by omega) (by omega) (by omega) (by omega) (by omega) | (simp only [pN, pP, pM, pE, pL, pC, pK, sp]; omega)))) h1
  · exact rD_up hD hm₀ (fun i hi => f2 20 i hi) (c 24 (by decide)) (c 23 (by decide)) (c 17 (by decide)) (c 25 (by decide)) (fun n w hn hw h4 => fwN n w hw) h2
theorem R0_pair {n₀ m₀ : Nat} (h : R0 dr tk pl N G M T B Q Dl σ ω) (hl : ∀ c, c < 36 → (Q c).length ≤ 110) (hn₀ : n₀ < 6) (hm₀ : m₀ < 20) (c : fc [20, 21, 22, 27, 28, 29] σ σ') (f2 : ∀ q i, i ≠ sp n₀ m₀ → σ' q i = σ q i) (fw : ∀ i, (∀ w, w < 11 → i ≠ pP n₀ m₀ w) → ω' i = ω i) (h1 : rP1 N M T B σ' ω' n₀ m₀) (h2 : σ' 20 (sp n₀ m₀) = nI 3 ↔ σ 20 (sp n₀ m₀) = nI 3) (h3 : B ≤ cnt σ') : R0 dr tk pl N G M T B Q Dl σ' ω' := R0_of (Rm_pair (Rm_of h) hl hn₀ hm₀ c f2 fw h1 h2) h3
theorem Rm_clock {n₀ a : Nat} (h : Rm dr tk pl N G M T B Q Dl σ ω) (hl : ∀ c, c < 36 → (Q c).length ≤ 110) (hn₀ : n₀ < 6) (ha : a ≤ B) : Rm dr tk pl N G M T B Q Dl (s2 σ 3 n₀ (nI a)) (upd ω (pN n₀ 2) (nI a)) := by
  have c : fc [3] σ (s2 σ 3 n₀ (nI a)) := fc_s2 _ _ _ _
  have fw : ∀ i, i ≠ pN n₀ 2 → upd ω (pN n₀ 2) (nI a) i = ω i := fun i hi => pk_un hi
  obtain ⟨hS, hN, hP, hD, hM, hE, hL, hC, hQ, hO⟩ := h
  refine ⟨rS_fr hS (by rw [c 0 (by decide)]; exact ⟨rfl, rfl, rfl, rfl, rfl, rfl, rfl, rfl⟩) (fun g _ => by rw [c 1 (by decide)]) (by rw [c 13 (by decide)]) (fun i hi h7 h9 => fw _ (by first | omega | exact pP_pN (by omega) (by omega) (by omega) | exact (pP_pN (by omega) (by omega) (by omega)).symm | exact pP_pP (by omega) (by omega) (by omega) (by omega) (by omega) | (simp only [pN, pP, pM, pE, pL, pC, pK, sp]; omega))), ?_, rP_fr hP (fun i _ => by rw [c 20 (by decide), c 21 (by decide), c 22 (by decide), c 23 (by decide), c 27 (by decide), c 28 (by decide), c 29 (by decide)]; exact ⟨rfl, rfl, rfl, rfl, rfl, rfl, rfl⟩) (fun n m w hn hm hw => fw _ (by first | omega | exact pP_pN (by omega) (by omega) (by omega) | exact (pP_pN (by omega) (by omega) (by omega)).symm | exact pP_pP (by omega) (by omega) (by omega) (by omega) (by omega) | (simp only [pN, pP, pM, pE, pL, pC, pK, sp]; omega))), rD_fr hD (fun i _ => by rw [c 20 (by decide), c 24 (by decide), c 23 (by decide)]; exact ⟨rfl, rfl, rfl⟩) (fun n m _ _ => by rw [c 17 (by decide)]) (fun n _ => by rw [c 25 (by decide)]) (fun n w hn hw h4 => fw _ (by first | omega | exact pP_pN (by omega) (by omega) (by omega) | exact (pP_pN (by omega) (by omega) (by omega)).symm | exact pP_pP (by omega) (by omega) (by omega) (by omega) (by omega) | (simp only [pN, pP, pM, pE, pL, pC, pK, sp]; omega))), rM_fr hM (fun m _ => by rw [c 14 (by decide), c 15 (by decide), c 16 (by decide), c 17 (by decide), c 18 (by decide)]; exact ⟨rfl, rfl, rfl, rfl, rfl⟩) (fun m w hm hw => fw _ (by first | omega | exact pP_pN (by omega) (by omega) (by omega) | exact (pP_pN (by omega) (by omega) (by omega)).symm | exact pP_pP (by omega) (by omega) (by omega) (by omega) (by omega) | (simp only [pN, pP, pM, pE, pL, pC, pK, sp]; omega))), rE_fr hE (by rw [c 30 (by decide)]) (fun k _ => by rw [c 31 (by decide), c 32 (by decide), c 33 (by decide)]; exact ⟨rfl, rfl, rfl⟩) (fw _ (by first | omega | exact pP_pN (by omega) (by omega) (by omega) | exact (pP_pN (by omega) (by omega) (by omega)).symm | exact pP_pP (by omega) (by omega) (by omega) (by omega) (by omega) | (simp only [pN, pP, pM, pE, pL, pC, pK, sp]; omega))) (fun k w hk hw => fw _ (by first | omega | exact pP_pN (by omega) (by omega) (by omega) | exact (pP_pN (by omega) (by omega) (by omega)).symm | exact pP_pP (by omega) (by omega) (by omega) (by omega) (by omega) | (simp only [pN, pP, pM, pE, pL, pC, pK, sp]; omega))), rL_fr hL (by rw [c 34 (by decide)]; exact ⟨rfl, rfl⟩) (fun i _ => by rw [c 35 (by decide)]) (fw _ (by first | omega | exact pP_pN (by omega) (by omega) (by omega) | exact (pP_pN (by omega) (by omega) (by omega)).symm | exact pP_pP (by omega) (by omega) (by omega) (by omega) (by omega) | (simp only [pN, pP, pM, pE, pL, pC, pK, sp]; omega))) (fun k w hk hw => fw _ (by first | omega | exact pP_pN (by omega) (by omega) (by omega) | exact (pP_pN (by omega) (by omega) (by omega)).symm | exact pP_pP (by omega) (by omega) (by omega) (by omega) (by omega) | (simp only [pN, pP, pM, pE, pL, pC, pK, sp]; omega))), rC_fr hC (fun x hx => Nat.le_trans (hl x hx) (by omega)) (fun x _ => by rw [c 6 (by decide), c 7 (by decide), c 8 (by decide)]; exact ⟨rfl, rfl, rfl⟩) (fun x w hx hw => fw _ (by first | omega | exact pP_pN (by omega) (by omega) (by omega) | exact (pP_pN (by omega) (by omega) (by omega)).symm | exact pP_pP (by omega) (by omega) (by omega) (by omega) (by omega) | (simp only [pN, pP, pM, pE, pL, pC, pK, sp]; omega))), hQ, rO_fr hO (by rw [c 5 (by decide)]; exact ⟨rfl, rfl⟩) (fun x _ => by rw [c 9 (by decide), c 11 (by decide), c 12 (by decide)]; exact ⟨rfl, rfl, rfl⟩) (fun i _ => by rw [c 10 (by decide)])⟩
  intro n hn
  obtain ⟨z1, z2, z3, z4⟩ := hN n hn
  rw [c 2 (by decide), c 4 (by decide), fw (pN n 0) (by first | omega | exact pP_pN (by omega) (by omega) (by omega) | exact (pP_pN (by omega) (by omega) (by omega)).symm | exact pP_pP (by omega) (by omega) (by omega) (by omega) (by omega) | (simp only [pN, pP, pM, pE, pL, pC, pK, sp]; omega)), fw (pN n 1) (by first | omega | exact pP_pN (by omega) (by omega) (by omega) | exact (pP_pN (by omega) (by omega) (by omega)).symm | exact pP_pP (by omega) (by omega) (by omega) (by omega) (by omega) | (simp only [pN, pP, pM, pE, pL, pC, pK, sp]; omega)), fw (pN n 3) (by first | omega | exact pP_pN (by omega) (by omega) (by omega) | exact (pP_pN (by omega) (by omega) (by omega)).symm | exact pP_pP (by omega) (by omega) (by omega) (by omega) (by omega) | (simp only [pN, pP, pM, pE, pL, pC, pK, sp]; omega))]
  refine ⟨z1, z2, ?_, z4⟩
  by_cases e : n = n₀
  · subst e
    exact ⟨a, ha, by simp only [e_s2, e_s2n, pk_us, pk_un], by simp only [e_s2, e_s2n, pk_us, pk_un]⟩
  · obtain ⟨b, hb, y1, y2⟩ := z3
    exact ⟨b, hb, by simp (disch := first | omega | (simp only [pN, pP, pM, pE, pL, pC, pK, sp]; omega)) only [e_s2, e_s2n, pk_us, pk_un]; exact y1, by rw [fw _ (by first | omega | exact pP_pN (by omega) (by omega) (by omega) | exact (pP_pN (by omega) (by omega) (by omega)).symm | exact pP_pP (by omega) (by omega) (by omega) (by omega) (by omega) | (simp only [pN, pP, pM, pE, pL, pC, pK, sp]; omega))]; exact y2⟩
theorem vS_mono {B B' : Nat} {s : Int32} (h : vS B s) (hb : B ≤ B') : vS B' s := by obtain ⟨a, b, h1, h2, h3⟩ := h; exact ⟨a, b, by omega, h2, h3⟩
theorem oS_mono {B B' : Nat} {s : Int32} (h : oS B s) (hb : B ≤ B') : oS B' s := h.imp id (fun h => vS_mono h hb)
theorem vK_mono {M M' B B' : Nat} {p : Pk} (h : vK M B p) (hm : M ≤ M') (hb : B ≤ B') : vK M' B' p := ⟨h.1, by have := h.2.1; omega, h.2.2.1, h.2.2.2.1, fun q => vS_mono (h.2.2.2.2 q) hb⟩
theorem rP1_mono {M' T' B' n m : Nat} (h : rP1 N M T B σ ω n m) (hM : M ≤ M') (hT : T ≤ T') (hb : B ≤ B') : rP1 N M' T' B' σ ω n m := by
  obtain ⟨⟨k, k1, k2, k3, k4, k5⟩, ⟨s1, s2, s3⟩, l, g⟩ := h
  refine ⟨⟨k, k1, k2, k3, fun hk => ?_, fun hk => ?_⟩, ⟨vS_mono s1 hb, s2, s3⟩, l, g.imp id (fun g => ?_)⟩
  · obtain ⟨y1, y2, y3⟩ := k4 hk; exact ⟨y1, by omega, y3⟩
  · obtain ⟨t, y1, y2⟩ := k5 hk; exact ⟨t, by omega, y2⟩
  · obtain ⟨y1, y2, y3, y4, y5, ⟨y6, y7⟩, ⟨y8, y9⟩⟩ := g
    exact ⟨y1, by omega, y3, y4, y5, ⟨oS_mono y6 hb, y7⟩, ⟨oS_mono y8 hb, y9⟩⟩
theorem Rm_B {B' : Nat} (h : Rm dr tk pl N G M T B Q Dl σ ω) (hb : B ≤ B') : Rm dr tk pl N G M T B' Q Dl σ ω := by
  obtain ⟨hS, hN, hP, hD, hM, hE, hL, hC, hQ, hO⟩ := h
  refine ⟨hS, fun n hn => ?_, fun n m hn hm => rP1_mono (hP n m hn hm) (Nat.le_refl _) (Nat.le_refl _) hb, hD, hM, hE, hL, hC, fun a b ha hb' => ⟨fun p hp => vK_mono ((hQ a b ha hb').1 p hp) (Nat.le_refl _) hb, (hQ a b ha hb').2⟩, hO⟩
  obtain ⟨z1, z2, ⟨x, z3, z4⟩, z5⟩ := hN n hn
  exact ⟨z1, z2, ⟨x, by omega, z4⟩, z5⟩
/-- a cell that no group reads -/
theorem R0_stir {x : Int32} (h : R0 dr tk pl N G M T B Q Dl σ ω) : R0 dr tk pl N G M T B Q Dl (s2 σ 0 8 x) ω := by
  have c : fc [0] σ (s2 σ 0 8 x) := fc_s2 _ _ _ _
  obtain ⟨hS, hN, hP, hD, hM, hE, hL, hC, hQ, hO, hB⟩ := h
  have e : ∀ q j, (q ≠ 0 ∨ j ≠ 8) → s2 σ 0 8 x q j = σ q j := fun q j hq => by rw [e_s2'']; exact if_neg (fun z => by rcases hq with h | h; exact h z.1; exact h z.2)
  refine ⟨rS_fr hS ⟨e 0 0 (by omega), e 0 1 (by omega), e 0 2 (by omega), e 0 3 (by omega), e 0 4 (by omega), e 0 5 (by omega), e 0 6 (by omega), e 0 7 (by omega)⟩ (fun g _ => by rw [c 1 (by decide)]) (by rw [c 13 (by decide)]) (fun i _ _ _ => rfl), rN_fr hN (fun n _ => by rw [c 2 (by decide), c 3 (by decide), c 4 (by decide)]; exact ⟨rfl, rfl, rfl⟩) (fun _ _ _ _ => rfl), rP_fr hP (fun i _ => by rw [c 20 (by decide), c 21 (by decide), c 22 (by decide), c 23 (by decide), c 27 (by decide), c 28 (by decide), c 29 (by decide)]; exact ⟨rfl, rfl, rfl, rfl, rfl, rfl, rfl⟩) (fun _ _ _ _ _ _ => rfl), rD_fr hD (fun i _ => by rw [c 20 (by decide), c 24 (by decide), c 23 (by decide)]; exact ⟨rfl, rfl, rfl⟩) (fun n m _ _ => by rw [c 17 (by decide)]) (fun n _ => by rw [c 25 (by decide)]) (fun _ _ _ _ _ => rfl), rM_fr hM (fun m _ => by rw [c 14 (by decide), c 15 (by decide), c 16 (by decide), c 17 (by decide), c 18 (by decide)]; exact ⟨rfl, rfl, rfl, rfl, rfl⟩) (fun _ _ _ _ => rfl), rE_fr hE (by rw [c 30 (by decide)]) (fun k _ => by rw [c 31 (by decide), c 32 (by decide), c 33 (by decide)]; exact ⟨rfl, rfl, rfl⟩) rfl (fun _ _ _ _ => rfl), rL_fr hL (by rw [c 34 (by decide)]; exact ⟨rfl, rfl⟩) (fun i _ => by rw [c 35 (by decide)]) rfl (fun _ _ _ _ => rfl), ?_, hQ, rO_fr hO (by rw [c 5 (by decide)]; exact ⟨rfl, rfl⟩) (fun x _ => by rw [c 9 (by decide), c 11 (by decide), c 12 (by decide)]; exact ⟨rfl, rfl, rfl⟩) (fun i _ => by rw [c 10 (by decide)]), (by rw [cnt_fr (σ := σ) (fun i _ => by rw [c 20 (by decide)])]; exact hB)⟩
  intro x hx
  rw [c 6 (by decide), c 7 (by decide), c 8 (by decide)]
  exact hC x hx
theorem rI_c {e : Nat → Nat → Nat} (h : rI N e Q σ) (h1 : σ' 15 = σ 15) (h2 : σ' 2 = σ 2) (h3 : σ' 27 = σ 27) : rI N e Q σ' := by
  intro n x m hn hx hm
  rw [h1, h2, h3]
  exact h n x m hn hx hm
/-- one count more -/
theorem cnt_up {i : Nat} (hi : i < 120) (h0 : σ 20 i = nI 0) (h1 : σ' 20 i ≠ nI 0) (hf : ∀ j, j ≠ i → σ' 20 j = σ 20 j) : cnt σ' = cnt σ + 1 := by
  have := sumL_upd (f := fun i => if σ 20 i = nI 0 then 0 else 1) (g := fun i => if σ' 20 i = nI 0 then 0 else 1) (j := i) (k := 120) hi (fun j _ hj => by show (if σ' 20 j = nI 0 then 0 else 1) = _; rw [hf j hj])
  simp only [h0, if_true, if_neg h1] at this
  unfold cnt; omega
theorem cnt_same {i : Nat} (hi : i < 120) (h0 : σ 20 i ≠ nI 0) (h1 : σ' 20 i ≠ nI 0) (hf : ∀ j, j ≠ i → σ' 20 j = σ 20 j) : cnt σ' = cnt σ := by
  apply sumL_congr
  intro j _
  show (if σ' 20 j = nI 0 then 0 else 1) = if σ 20 j = nI 0 then 0 else 1
  by_cases e : j = i
  · subst e; rw [if_neg h0, if_neg h1]
  · rw [hf j e]
theorem cnt_le : cnt σ ≤ 120 := by
  have := sumL_le (f := fun i => if σ 20 i = nI 0 then 0 else 1) (c := 1) (k := 120) (fun i _ => by show (if σ 20 i = nI 0 then 0 else 1) ≤ 1; split <;> omega)
  unfold cnt; omega
end UPD
