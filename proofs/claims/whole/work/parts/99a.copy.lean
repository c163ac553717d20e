/-! copies of a net, of a row -/
def ln : Nat → Nat := fun q => if q = 0 then 8 else if q ≤ 4 then 6 else if q = 5 then 9 else if q ≤ 9 then 36 else if q = 10 then 0 else if q ≤ 12 then 36 else if q = 13 then 1 else if q ≤ 18 then 20 else if q = 19 then 0 else if q ≤ 24 then 120 else if q = 25 then 6 else if q = 26 then 0 else if q ≤ 29 then 120 else if q = 30 then 1 else if q ≤ 33 then 8 else if q = 34 then 2 else if q = 35 then 240 else 0
/-- as far as its rows go, a net is another one; the pool as far as it is used -/
def cpd (σ σ' : Sg) : Prop := (∀ q j, j < ln q → σ' q j = σ q j) ∧ ∀ U, σ 5 7 = nI (6 * U) → 6 * U ≤ 50000 → ∀ j, j < 6 * U → σ' 10 j = σ 10 j
section CP
variable {dr : Prop} {tk : Int32} {e : Nat → Nat → Nat} {pl pl' N G M T B : Nat} {Q : Qs} {Dl : Nat → List Nat} {u u' σ σ' : Sg} {ω ω' : Nat → Int32}
theorem R0_cp (h : R0 dr tk pl N G M T B Q Dl σ ω) (hl : ∀ c, c < 36 → (Q c).length ≤ 110) (hc : cpd σ σ') (hp : pw pl') (hu : ∀ U, σ 5 7 = nI (6 * U) → 6 * U ≤ pl → 6 * U ≤ pl') (hw : ∀ i, i < 32243 → ω' i = ω i) : R0 dr tk pl' N G M T B Q Dl σ' ω' := by
  obtain ⟨hS, hN, hP, hD, hM, hE, hL, hC, hQ, hO, hB⟩ := h
  obtain ⟨c, cp⟩ := hc
  refine ⟨rS_fr hS ⟨c 0 0 (by decide), c 0 1 (by decide), c 0 2 (by decide), c 0 3 (by decide), c 0 4 (by decide), c 0 5 (by decide), c 0 6 (by decide), c 0 7 (by decide)⟩ (fun g hg => c 1 g hg) (c 13 0 (by decide)) (fun i hi _ _ => hw i (by omega)), rN_fr hN (fun n hn => ⟨c 2 n hn, c 3 n hn, c 4 n hn⟩) (fun n w hn hw' => hw _ (by unfold pN; omega)), rP_fr hP (fun i hi => ⟨c 20 i hi, c 21 i hi, c 22 i hi, c 23 i hi, c 27 i hi, c 28 i hi, c 29 i hi⟩) (fun n m w hn hm hw' => hw _ (by unfold pP; omega)), rD_fr hD (fun i hi => ⟨c 20 i hi, c 24 i hi, c 23 i hi⟩) (fun n m hn hm => c 17 m (((hD n hn).2.1 m).mp hm).1) (fun n hn => c 25 n hn) (fun n w hn hw' h4 => hw _ (by unfold pN; omega)), rM_fr hM (fun m hm => ⟨c 14 m hm, c 15 m hm, c 16 m hm, c 17 m hm, c 18 m hm⟩) (fun m w hm hw' => hw _ (by unfold pM; omega)), rE_fr hE (c 30 0 (by decide)) (fun k hk => ⟨c 31 k hk, c 32 k hk, c 33 k hk⟩) (hw 7 (by omega)) (fun k w hk hw' => hw _ (by unfold pE; omega)), rL_fr hL ⟨c 34 0 (by decide), c 34 1 (by decide)⟩ (fun i hi => c 35 i hi) (hw 9 (by omega)) (fun k w hk hw' => hw _ (by unfold pL; omega)), rC_fr hC (fun x hx => Nat.le_trans (hl x hx) (by omega)) (fun x hx => ⟨c 6 x hx, c 7 x hx, c 8 x hx⟩) (fun x w hx hw' => hw _ (by unfold pC; omega)), hQ, ?_, (by rw [cnt_fr (σ := σ) (fun i hi => c 20 i hi)]; exact hB)⟩
  obtain ⟨C, F, U, a1, a2, a3, a4, a5, a6, a7, a8, a9⟩ := hO
  have hpool := cp U a1 (by omega)
  refine ⟨C, F, U, by rw [c 5 7 (by decide)]; exact a1, hu U a1 a2, hp.1, hp.2, a5, a6, a7, ?_, fun x hx => ?_⟩
  · rw [c 5 8 (by decide)]; exact lnk_fr a8 a7 hpool
  · obtain ⟨b1, b2, b3, b4, b5, b6⟩ := a9 x hx
    rw [c 9 x hx, c 11 x hx, c 12 x hx]
    exact ⟨b1, b2, lnk_fr b3 (fun i hi => (b2 i hi).1) hpool, b4, b5, cells_fr b6 (fun i hi => (b2 i hi).1) hpool⟩
theorem RR_cp (h : RR dr tk e pl N G M T Dl σ u ω) (he : ∀ n m, e n m ≤ 1) (hc : cpd σ σ') (hp : pw pl') (hu : ∀ U, σ 5 7 = nI (6 * U) → 6 * U ≤ pl → 6 * U ≤ pl') (hw : ∀ i, i < 32243 → ω' i = ω i) (h14 : u' 0 14 = u 0 14) : RR dr tk e pl' N G M T Dl σ' u' ω' := by
  obtain ⟨Q, B, h, hI, hd⟩ := h
  have hll : ∀ c, c < 36 → (Q c).length ≤ 110 := fun c hc => Nat.le_trans (q_len h.2.2.2.2.2.2.2.2.1 hI he h.1.1.1 h.1.1.2.2.1 hc) (by omega)
  refine ⟨Q, B, R0_cp h hll hc hp hu hw, rI_fr hI h.1.1.1 (fun m hm => hc.1 15 m hm) (fun n hn => hc.1 2 n hn) (fun i hi => hc.1 27 i hi), ?_⟩
  unfold dF at hd ⊢; rw [h14]; exact hd
theorem cpd_rf (σ : Sg) : cpd σ σ := ⟨fun _ _ _ => rfl, fun _ _ _ _ _ => rfl⟩
theorem rO_pw {pl : Nat} (h : rO pl Q σ) : pw pl := by
  obtain ⟨C, F, U, -, -, a3, a4, -⟩ := h
  exact ⟨a3, a4⟩
theorem cpy_in {n j : Nat} {f g : Nat → Int32} (h : j < n) : cpy n f g j = f j := by
  unfold cpy
  rw [pk_cpy_in (by omega) (by omega)]
  congr 1; omega
theorem pw_lt {a b : Nat} (ha : pw a) (hb : pw b) (h : a < b) : 2 * a ≤ b := by
  obtain ⟨-, x, rfl⟩ := ha
  obtain ⟨-, y, rfl⟩ := hb
  have hxy : x < y := by
    refine Classical.byContradiction (fun q => ?_)
    have := Nat.pow_le_pow_right (n := 2) (by omega) (show y ≤ x by omega)
    have := Nat.mul_le_mul_left 384 this
    omega
  have := Nat.pow_le_pow_right (n := 2) (by omega) (show x + 1 ≤ y from hxy)
  have := Nat.mul_le_mul_left 384 this
  rw [Nat.pow_succ] at this
  omega
/-- a net takes another one's state: cells 36 on are the other one's -/
theorem k_copy {l2 pl : Nat} {u : Sg} (h8 : u 36 8 = nI 0 ∨ u 36 8 = nI 1) (hp : pw pl) (hp2 : pw l2) (hU : ∃ U, u 41 7 = nI (6 * U) ∧ 6 * U ≤ l2) : ∃ u' d, fX7_copyFrom l2 u pl = some (u', d) ∧ cpd (fun q => u (q + 36)) u' ∧ pw (pl + d) ∧ (∀ U, u 41 7 = nI (6 * U) → 6 * U ≤ l2 → 6 * U ≤ pl + d) ∧ (∀ q, 36 ≤ q → u' q = u q) ∧ u' 0 8 = u 36 8 := by
  obtain ⟨U, u1, u2⟩ := hU
  have hl2 := hp2.1
  have hpl := hp.1
  have hB : ∀ {α : Type} {o : Option α}, grd (isB (u 36 8)) o = o := by
    intro α o
    rcases h8 with h | h <;> rw [h]
    · exact e_isB0
    · exact e_isB1
  have fin : ∀ (v : Sg) (d : Nat), fX1_copyFrom l2 (sq (sq (sq (sq (s2 (s2 (s2 (s2 (s2 (s2 (s2 (s2 (s2 u 0 0 (u 36 0)) 0 1 (u 36 1)) 0 2 (u 36 2)) 0 3 (u 36 3)) 0 4 (u 36 4)) 0 5 (u 36 5)) 0 6 (u 36 6)) 0 7 (u 36 7)) 0 8 (u 36 8)) 1 (cpy 6 (u 37) (u 1))) 2 (cpy 6 (u 38) (u 2))) 3 (cpy 6 (u 39) (u 3))) 4 (cpy 6 (u 40) (u 4))) pl = some (v, d) → (∀ q, q ≠ 5 → q ≠ 6 → q ≠ 7 → q ≠ 8 → q ≠ 9 → q ≠ 10 → q ≠ 11 → q ≠ 12 → v q = (sq (sq (sq (sq (s2 (s2 (s2 (s2 (s2 (s2 (s2 (s2 (s2 u 0 0 (u 36 0)) 0 1 (u 36 1)) 0 2 (u 36 2)) 0 3 (u 36 3)) 0 4 (u 36 4)) 0 5 (u 36 5)) 0 6 (u 36 6)) 0 7 (u 36 7)) 0 8 (u 36 8)) 1 (cpy 6 (u 37) (u 1))) 2 (cpy 6 (u 38) (u 2))) 3 (cpy 6 (u 39) (u 3))) 4 (cpy 6 (u 40) (u 4))) q) → (∀ q j, (q = 6 ∨ q = 7 ∨ q = 8 ∨ q = 9 ∨ q = 11 ∨ q = 12) → j < 36 → v q j = u (q + 36) j) → v 5 7 = u 41 7 → v 5 8 = u 41 8 → (∀ j, j < 6 * U → v 10 j = u 46 j) → pw (pl + d) → 6 * U ≤ pl + d → ∃ u' d, fX7_copyFrom l2 u pl = some (u', d) ∧ cpd (fun q => u (q + 36)) u' ∧ pw (pl + d) ∧ (∀ U, u 41 7 = nI (6 * U) → 6 * U ≤ l2 → 6 * U ≤ pl + d) ∧ (∀ q, 36 ≤ q → u' q = u q) ∧ u' 0 8 = u 36 8 := by
    sorry
  sorry
end CP
