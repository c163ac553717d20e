/-! copies of a net, of a row -/
def ln : Nat → Nat := fun q => if q = 0 then 8 else if q ≤ 4 then 6 else if q = 5 then 0 else if q ≤ 9 then 36 else if q = 10 then 0 else if q ≤ 12 then 36 else if q = 13 then 1 else if q ≤ 18 then 20 else if q = 19 then 0 else if q ≤ 24 then 120 else if q = 25 then 6 else if q = 26 then 0 else if q ≤ 29 then 120 else if q = 30 then 1 else if q ≤ 33 then 8 else if q = 34 then 2 else if q = 35 then 240 else 0
theorem ln_big {q : Nat} (h : 36 ≤ q) : ln q = 0 := by
  unfold ln
  repeat rw [if_neg (by omega)]
/-- as far as its rows go, a net is another one; the pool as far as it is used -/
def cpd (σ σ' : Sg) : Prop := (∀ q j, j < ln q → σ' q j = σ q j) ∧ (σ' 5 7 = σ 5 7 ∧ σ' 5 8 = σ 5 8) ∧ ∀ U, σ 5 7 = nI (6 * U) → 6 * U ≤ 50000 → ∀ j, j < 6 * U → σ' 10 j = σ 10 j
section CP
variable {dr : Prop} {tk : Int32} {e : Nat → Nat → Nat} {pl pl' N G M T B : Nat} {Q : Qs} {Dl : Nat → List Nat} {u u' σ σ' : Sg} {ω ω' : Nat → Int32}
theorem R0_cp (h : R0 dr tk pl N G M T B Q Dl σ ω) (hl : ∀ c, c < 36 → (Q c).length ≤ 110) (hc : cpd σ σ') (hp : pw pl') (hu : ∀ U, σ 5 7 = nI (6 * U) → 6 * U ≤ pl → 6 * U ≤ pl') (hw : ∀ i, i < 32243 → ω' i = ω i) : R0 dr tk pl' N G M T B Q Dl σ' ω' := by
  obtain ⟨hS, hN, hP, hD, hM, hE, hL, hC, hQ, hO, hB⟩ := h
  obtain ⟨c, ⟨c57, c58⟩, cp⟩ := hc
  refine ⟨rS_fr hS ⟨c 0 0 (by decide), c 0 1 (by decide), c 0 2 (by decide), c 0 3 (by decide), c 0 4 (by decide), c 0 5 (by decide), c 0 6 (by decide), c 0 7 (by decide)⟩ (fun g hg => c 1 g hg) (c 13 0 (by decide)) (fun i hi _ _ => hw i (by omega)), rN_fr hN (fun n hn => ⟨c 2 n hn, c 3 n hn, c 4 n hn⟩) (fun n w hn hw' => hw _ (by unfold pN; omega)), rP_fr hP (fun i hi => ⟨c 20 i hi, c 21 i hi, c 22 i hi, c 23 i hi, c 27 i hi, c 28 i hi, c 29 i hi⟩) (fun n m w hn hm hw' => hw _ (by unfold pP; omega)), rD_fr hD (fun i hi => ⟨c 20 i hi, c 24 i hi, c 23 i hi⟩) (fun n m hn hm => c 17 m (((hD n hn).2.1 m).mp hm).1) (fun n hn => c 25 n hn) (fun n w hn hw' h4 => hw _ (by unfold pN; omega)), rM_fr hM (fun m hm => ⟨c 14 m hm, c 15 m hm, c 16 m hm, c 17 m hm, c 18 m hm⟩) (fun m w hm hw' => hw _ (by unfold pM; omega)), rE_fr hE (c 30 0 (by decide)) (fun k hk => ⟨c 31 k hk, c 32 k hk, c 33 k hk⟩) (hw 7 (by omega)) (fun k w hk hw' => hw _ (by unfold pE; omega)), rL_fr hL ⟨c 34 0 (by decide), c 34 1 (by decide)⟩ (fun i hi => c 35 i hi) (hw 9 (by omega)) (fun k w hk hw' => hw _ (by unfold pL; omega)), rC_fr hC (fun x hx => Nat.le_trans (hl x hx) (by omega)) (fun x hx => ⟨c 6 x hx, c 7 x hx, c 8 x hx⟩) (fun x w hx hw' => hw _ (by unfold pC; omega)), hQ, ?_, (by rw [cnt_fr (σ := σ) (fun i hi => c 20 i hi)]; exact hB)⟩
  obtain ⟨C, F, U, a1, a2, a3, a4, a5, a6, a7, a8, a9⟩ := hO
  have hpool := cp U a1 (by omega)
  refine ⟨C, F, U, by rw [c57]; exact a1, hu U a1 a2, hp.1, hp.2, a5, a6, a7, ?_, fun x hx => ?_⟩
  · rw [c58]; exact lnk_fr a8 a7 hpool
  · obtain ⟨b1, b2, b3, b4, b5, b6⟩ := a9 x hx
    rw [c 9 x hx, c 11 x hx, c 12 x hx]
    exact ⟨b1, b2, lnk_fr b3 (fun i hi => (b2 i hi).1) hpool, b4, b5, cells_fr b6 (fun i hi => (b2 i hi).1) hpool⟩
theorem RR_cp (h : RR dr tk e pl N G M T Dl σ u ω) (he : ∀ n m, e n m ≤ 1) (hc : cpd σ σ') (hp : pw pl') (hu : ∀ U, σ 5 7 = nI (6 * U) → 6 * U ≤ pl → 6 * U ≤ pl') (hw : ∀ i, i < 32243 → ω' i = ω i) (h14 : u' 0 14 = u 0 14) : RR dr tk e pl' N G M T Dl σ' u' ω' := by
  obtain ⟨Q, B, h, hI, hd⟩ := h
  have hll : ∀ c, c < 36 → (Q c).length ≤ 110 := fun c hc => Nat.le_trans (q_len h.2.2.2.2.2.2.2.2.1 hI he h.1.1.1 h.1.1.2.2.1 hc) (by omega)
  refine ⟨Q, B, R0_cp h hll hc hp hu hw, rI_fr hI h.1.1.1 (fun m hm => hc.1 15 m hm) (fun n hn => hc.1 2 n hn) (fun i hi => hc.1 27 i hi), ?_⟩
  unfold dF at hd ⊢; rw [h14]; exact hd
theorem cpd_rf (σ : Sg) : cpd σ σ := ⟨fun _ _ _ => rfl, ⟨rfl, rfl⟩, fun _ _ _ _ _ => rfl⟩
theorem rO_pw {pl : Nat} (h : rO pl Q σ) : pw pl := by
  obtain ⟨C, F, U, -, -, a3, a4, -⟩ := h
  exact ⟨a3, a4⟩
theorem cpy_in {n j : Nat} {f g : Nat → Int32} (h : j < n) : cpy n f g j = f j := by
  unfold cpy
  rw [pk_cpy_in (by omega) (by omega)]
  congr 1; omega
theorem pw_lt {a b : Nat} (ha : pw a) (hb : pw b) (h : a < b) : 2 * a ≤ b := by
  obtain ⟨-, x, rfl⟩ := ha
  obtain ⟨-, y, rfl⟩ := hb
  have hxy : x < y := by
    refine Classical.byContradiction (fun q => ?_)
    have := Nat.pow_le_pow_right (n := 2) (by omega) (show y ≤ x by omega)
    have := Nat.mul_le_mul_left 384 this
    omega
  have := Nat.pow_le_pow_right (n := 2) (by omega) (show x + 1 ≤ y from hxy)
  have := Nat.mul_le_mul_left 384 this
  rw [Nat.pow_succ] at this
  omega
end CP
theorem cpy_out {n j : Nat} {f g : Nat → Int32} (h : n ≤ j) : cpy n f g j = g j := by
  show va_cpy f g 0 0 n j = g j
  unfold va_cpy
  rw [if_neg (by omega)]
theorem e_qs (u : Sg) (q : Nat) (f : Nat → Int32) : sq u q f q = f := by simp [sq]
theorem e_qn (u : Sg) {q a : Nat} (f : Nat → Int32) (h : a ≠ q) : sq u q f a = u a := by simp [sq, h]
/-- so much is copied -/
def cpP (P : Nat → Nat → Prop) (u v : Sg) : Prop := (∀ q, 36 ≤ q → v q = u q) ∧ ∀ q j, P q j → v q j = u (q + 36) j
section CQ
variable {P : Nat → Nat → Prop} {u v : Sg} {pl : Nat}
theorem cpP_0 (u : Sg) : cpP (fun _ _ => False) u u := ⟨fun _ _ => rfl, fun _ _ h => h.elim⟩
theorem cpP_s {q j : Nat} {x : Int32} (h : cpP P u v) (hq : q < 36) (hx : x = v (q + 36) j) : cpP (fun a b => P a b ∨ (a = q ∧ b = j)) u (s2 v q j x) := by
  subst hx
  refine ⟨fun a ha => by rw [e_s2n _ _ _ (by omega)]; exact h.1 a ha, fun a b hab => ?_⟩
  rw [e_s2'']
  by_cases hh : a = q ∧ b = j
  · rw [if_pos hh, hh.1, hh.2, h.1 _ (by omega)]
  · rw [if_neg hh]; exact h.2 a b (hab.resolve_right hh)
theorem cpP_q {q n : Nat} {f : Nat → Int32} (h : cpP P u v) (hq : q < 36) (hf : f = cpy n (v (q + 36)) (v q)) : cpP (fun a b => P a b ∨ (a = q ∧ b < n)) u (sq v q f) := by
  subst hf
  refine ⟨fun a ha => by rw [e_qn _ _ (by omega)]; exact h.1 a ha, fun a b hab => ?_⟩
  by_cases hh : a = q
  · subst hh
    rw [e_qs]
    by_cases hb : b < n
    · rw [cpy_in hb, h.1 _ (by omega)]
    · rw [cpy_out (by omega)]
      refine h.2 a b (hab.resolve_right (fun hc => hb hc.2))
  · rw [e_qn _ _ hh]; exact h.2 a b (hab.resolve_right (fun hc => hh hc.1))
theorem cpP_mono {P' : Nat → Nat → Prop} (h : cpP P u v) (hp : ∀ a b, P' a b → P a b) : cpP P' u v := ⟨h.1, fun a b hh => h.2 a b (hp a b hh)⟩
theorem k_cpChan {U : Nat} {l2 pl : Nat} (hc : cpP P u v) (hp : pw pl) (hp2 : pw l2) (u1 : u 41 7 = nI (6 * U)) (u2 : 6 * U ≤ l2) : ∃ v' d, fX1_copyFrom l2 v pl = some (v', d) ∧ cpP (fun a b => (a ≠ 10 ∧ P a b) ∨ ((a = 6 ∨ a = 7 ∨ a = 8 ∨ a = 9 ∨ a = 11 ∨ a = 12) ∧ b < 36) ∨ (a = 5 ∧ (b = 7 ∨ b = 8)) ∨ (a = 10 ∧ b < 6 * U)) u v' ∧ pw (pl + d) ∧ 6 * U ≤ pl + d := by
  have hl2 := hp2.1
  have hpl := hp.1
  have h6 := cpP_q (cpP_q (cpP_q (cpP_q (cpP_q (cpP_q hc (q := 6) (n := 36) (by omega) rfl) (q := 7) (n := 36) (by omega) rfl) (q := 8) (n := 36) (by omega) rfl) (q := 9) (n := 36) (by omega) rfl) (q := 11) (n := 36) (by omega) rfl) (q := 12) (n := 36) (by omega) rfl
  rw [u_fX1_copyFrom, u_fX1_copyFrom_0]
  simp only [e_bnd]
  generalize hw : sq (sq (sq (sq (sq (sq v 6 _) 7 _) 8 _) 9 _) 11 _) 12 _ = w at h6 ⊢
  have w7 : w 41 7 = nI (6 * U) := by rw [h6.1 41 (by omega)]; exact u1
  have hcl : (nI (6 * U) : Int32).toNatClampNeg = 6 * U := e_cl (by omega)
  by_cases hle : 6 * U ≤ pl
  · rw [w7, cnd_pos (nI_le hle (by omega)), u_fX1_copyFrom_89, w7, hcl, grd_pos ⟨nI_pos (by omega), u2, hle⟩]
    simp only [e_bnd]
    refine ⟨_, 0, rfl, cpP_mono (cpP_s (cpP_s (cpP_q h6 (q := 10) (n := 6 * U) (by omega) rfl) (q := 5) (j := 7) (by omega) rfl) (q := 5) (j := 8) (by omega) rfl) (fun a b hh => ?_), hp, hle⟩
    rcases hh with hh | hh | hh | hh
    · simp only [hh.2, true_or]
    · rcases hh with ⟨h | h | h | h | h | h, h'⟩ <;> simp only [h, h', and_self, true_or, or_true]
    · rcases hh with ⟨h, h' | h'⟩ <;> simp only [h, h', and_self, true_or, or_true]
    · simp only [hh.1, hh.2, and_self, true_or, or_true]
  · have h2 := pw_lt hp hp2 (by omega)
    have := hp.2
    have hp0 : 1 ≤ l2 := by omega
    rw [w7, cnd_neg (mt (nI_leI (by omega) (by omega)).mp hle), grd_pos ⟨h2, hp0, by omega⟩, u_fX1_copyFrom_89]
    have g6 : cpP (fun a b => a ≠ 10 ∧ ((((((P a b ∨ a = 6 ∧ b < 36) ∨ a = 7 ∧ b < 36) ∨ a = 8 ∧ b < 36) ∨ a = 9 ∧ b < 36) ∨ a = 11 ∧ b < 36) ∨ a = 12 ∧ b < 36)) u (sq w 10 (fun _ => nI 0)) :=
      ⟨fun a ha => by rw [e_qn _ _ (by omega)]; exact h6.1 a ha, fun a b hh => by rw [e_qn _ _ hh.1]; exact h6.2 a b hh.2⟩
    have w7' : sq w 10 (fun _ => nI 0) 41 7 = nI (6 * U) := by rw [e_qn _ _ (by omega)]; exact w7
    rw [w7', hcl, grd_pos ⟨nI_pos (by omega), u2, u2⟩]
    simp only [e_bnd]
    refine ⟨_, l2 - pl, rfl, cpP_mono (cpP_s (cpP_s (cpP_q g6 (q := 10) (n := 6 * U) (by omega) rfl) (q := 5) (j := 7) (by omega) rfl) (q := 5) (j := 8) (by omega) rfl) (fun a b hh => ?_), by rw [show pl + (l2 - pl) = l2 by omega]; exact hp2, by omega⟩
    rcases hh with hh | hh | hh | hh
    · simp only [hh.1, hh.2, true_or, ne_eq, not_false_eq_true, and_self]
    · rcases hh with ⟨h | h | h | h | h | h, h'⟩ <;> subst h <;> exact Or.inl (Or.inl (Or.inl ⟨by decide, by simp only [h', and_self, true_or, or_true]⟩))
    · rcases hh with ⟨h, h' | h'⟩ <;> simp only [h, h', and_self, true_or, or_true]
    · simp only [hh.1, hh.2, and_self, true_or, or_true]
def cpK (k : Nat) (S : Nat → Nat → Prop) (u v : Sg) : Prop := cpP (fun a b => (a < k ∧ b < ln a) ∨ S a b) u v
variable {S : Nat → Nat → Prop} {k n : Nat}
theorem cpK_q (h : cpK k S u v) (hk : k < 36) (hn : ln k = n) : cpK (k + 1) S u (sq v k (cpy n (v (k + 36)) (v k))) := by
  refine cpP_mono (cpP_q h hk rfl) (fun a b hh => ?_)
  rcases hh with ⟨h1, h2⟩ | hh
  · by_cases e : a = k
    · subst e; exact Or.inr ⟨rfl, hn ▸ h2⟩
    · exact Or.inl (Or.inl ⟨by omega, h2⟩)
  · exact Or.inl (Or.inr hh)
theorem cpK_n (h : cpK k S u v) (hn : ln k = 0) : cpK (k + 1) S u v := by
  refine cpP_mono h (fun a b hh => ?_)
  rcases hh with ⟨h1, h2⟩ | hh
  · by_cases e : a = k
    · subst e; omega
    · exact Or.inl ⟨by omega, h2⟩
  · exact Or.inr hh
theorem cpK_1 (h : cpK k S u v) (hk : k < 36) (hn : ln k = 1) : cpK (k + 1) S u (s2 v k 0 (v (k + 36) 0)) := by
  refine cpP_mono (cpP_s h hk rfl) (fun a b hh => ?_)
  rcases hh with ⟨h1, h2⟩ | hh
  · by_cases e : a = k
    · subst e; exact Or.inr ⟨rfl, by omega⟩
    · exact Or.inl (Or.inl ⟨by omega, h2⟩)
  · exact Or.inl (Or.inr hh)
theorem k_cp6 (h : cpK 13 S u v) : ∃ v', fX6_copyFrom v = some v' ∧ cpK 20 S u v' :=
  ⟨_, rfl, cpK_n (cpK_q (cpK_q (cpK_q (cpK_q (cpK_q (cpK_1 h (by omega) rfl) (by omega) (n := 20) rfl) (by omega) (n := 20) rfl) (by omega) (n := 20) rfl) (by omega) (n := 20) rfl) (by omega) (n := 20) rfl) rfl⟩
theorem k_cp4 (h : cpK 20 S u v) : ∃ v', fX4_copyFrom v = some v' ∧ cpK 27 S u v' :=
  ⟨_, rfl, cpK_n (cpK_q (cpK_q (cpK_q (cpK_q (cpK_q (cpK_q h (by omega) (n := 120) rfl) (by omega) (n := 120) rfl) (by omega) (n := 120) rfl) (by omega) (n := 120) rfl) (by omega) (n := 120) rfl) (by omega) (n := 6) rfl) rfl⟩
theorem k_cp3 (h : cpK 27 S u v) : ∃ v', fX3_copyFrom v = some v' ∧ cpK 30 S u v' :=
  ⟨_, rfl, cpK_q (cpK_q (cpK_q h (by omega) (n := 120) rfl) (by omega) (n := 120) rfl) (by omega) (n := 120) rfl⟩
theorem k_cp2 (h : cpK 30 S u v) : ∃ v', fX2_copyFrom v = some v' ∧ cpK 34 S u v' :=
  ⟨_, rfl, cpK_q (cpK_q (cpK_q (cpK_1 h (by omega) rfl) (by omega) (n := 8) rfl) (by omega) (n := 8) rfl) (by omega) (n := 8) rfl⟩
theorem k_cp5 (h : cpK 34 S u v) : ∃ v', fX5_copyFrom v = some v' ∧ cpK 36 S u v' := by
  refine ⟨_, rfl, cpK_q (k := 35) (n := 240) (cpP_mono (cpP_s (cpP_s h (q := 34) (j := 0) (by omega) rfl) (q := 34) (j := 1) (by omega) rfl) (fun a b hh => ?_)) (by omega) rfl⟩
  rcases hh with ⟨h1, h2⟩ | hh
  · by_cases e : a = 34
    · subst e
      have h2 : b < 2 := h2
      rcases Nat.lt_or_ge b 1 with h | h
      · exact Or.inl (Or.inr ⟨rfl, by omega⟩)
      · exact Or.inr ⟨rfl, by omega⟩
    · exact Or.inl (Or.inl (Or.inl ⟨by omega, h2⟩))
  · exact Or.inl (Or.inl (Or.inr hh))
theorem k_cp0 (u : Sg) : cpK 5 (fun a b => a = 0 ∧ b = 8) u (sq (sq (sq (sq (s2 (s2 (s2 (s2 (s2 (s2 (s2 (s2 (s2 u 0 0 (u 36 0)) 0 1 (u 36 1)) 0 2 (u 36 2)) 0 3 (u 36 3)) 0 4 (u 36 4)) 0 5 (u 36 5)) 0 6 (u 36 6)) 0 7 (u 36 7)) 0 8 (u 36 8)) 1 (cpy 6 (u 37) (u 1))) 2 (cpy 6 (u 38) (u 2))) 3 (cpy 6 (u 39) (u 3))) 4 (cpy 6 (u 40) (u 4))) := by
  refine cpK_q (k := 4) (n := 6) (cpK_q (k := 3) (n := 6) (cpK_q (k := 2) (n := 6) (cpK_q (k := 1) (n := 6) (cpP_mono (cpP_s (cpP_s (cpP_s (cpP_s (cpP_s (cpP_s (cpP_s (cpP_s (cpP_s (cpP_0 u) (q := 0) (j := 0) (by omega) rfl) (q := 0) (j := 1) (by omega) rfl) (q := 0) (j := 2) (by omega) rfl) (q := 0) (j := 3) (by omega) rfl) (q := 0) (j := 4) (by omega) rfl) (q := 0) (j := 5) (by omega) rfl) (q := 0) (j := 6) (by omega) rfl) (q := 0) (j := 7) (by omega) rfl) (q := 0) (j := 8) (by omega) rfl) (fun a b hh => ?_)) (by omega) rfl) (by omega) rfl) (by omega) rfl) (by omega) rfl
  have : a = 0 ∧ b ≤ 8 := by
    rcases hh with ⟨h1, h2⟩ | ⟨h1, h2⟩
    · have e : a = 0 := by omega
      subst e
      have h2 : b < 8 := h2
      exact ⟨rfl, by omega⟩
    · exact ⟨h1, by omega⟩
  omega
/-- a net takes another one's state: cells 36 on are the other one's -/
theorem k_copy {l2 pl : Nat} {u : Sg} (h8 : u 36 8 = nI 0 ∨ u 36 8 = nI 1) (hp : pw pl) (hp2 : pw l2) (hU : ∃ U, u 41 7 = nI (6 * U) ∧ 6 * U ≤ l2) : ∃ u' d, fX7_copyFrom l2 u pl = some (u', d) ∧ cpd (fun q => u (q + 36)) u' ∧ pw (pl + d) ∧ (∀ U, u 41 7 = nI (6 * U) → 6 * U ≤ l2 → 6 * U ≤ pl + d) ∧ (∀ q, 36 ≤ q → u' q = u q) ∧ u' 0 8 = u 36 8 := by
  obtain ⟨U, u1, u2⟩ := hU
  have hl2 := hp2.1
  have hB : ∀ {α : Type} {o : Option α}, grd (isB (u 36 8)) o = o := by
    intro α o
    rcases h8 with h | h <;> rw [h]
    · exact e_isB0
    · exact e_isB1
  have h0 := k_cp0 u
  obtain ⟨v1, d, e1, h1, p1, p2⟩ := k_cpChan (U := U) h0 hp hp2 u1 u2
  have h1 : cpK 13 (fun a b => (a = 0 ∧ b = 8) ∨ (a = 5 ∧ (b = 7 ∨ b = 8)) ∨ (a = 10 ∧ b < 6 * U)) u v1 := by
    refine cpP_mono h1 (fun a b hh => ?_)
    rcases hh with ⟨h1, h2⟩ | hh | hh | hh
    · by_cases e : a < 5
      · exact Or.inl ⟨by omega, Or.inl ⟨e, h2⟩⟩
      · refine Or.inr (Or.inl ?_)
        have : a = 5 ∨ a = 6 ∨ a = 7 ∨ a = 8 ∨ a = 9 ∨ a = 10 ∨ a = 11 ∨ a = 12 := by omega
        rcases this with e | e | e | e | e | e | e | e <;> subst e
        · exact absurd h2 (Nat.not_lt_zero _)
        · exact ⟨by omega, h2⟩
        · exact ⟨by omega, h2⟩
        · exact ⟨by omega, h2⟩
        · exact ⟨by omega, h2⟩
        · exact absurd h2 (Nat.not_lt_zero _)
        · exact ⟨by omega, h2⟩
        · exact ⟨by omega, h2⟩
    · exact Or.inl ⟨by omega, Or.inr hh⟩
    · exact Or.inr (Or.inr (Or.inl hh))
    · exact Or.inr (Or.inr (Or.inr hh))
  obtain ⟨v2, e2, h2⟩ := k_cp6 h1
  obtain ⟨v3, e3, h3⟩ := k_cp4 h2
  obtain ⟨v4, e4, h4⟩ := k_cp3 h3
  obtain ⟨v5, e5, h5⟩ := k_cp2 h4
  obtain ⟨v6, e6, h6⟩ := k_cp5 h5
  refine ⟨v6, d, ?_, ⟨fun q j hj => ?_, ⟨h6.2 5 7 (Or.inr (Or.inr (Or.inl ⟨rfl, Or.inl rfl⟩))), h6.2 5 8 (Or.inr (Or.inr (Or.inl ⟨rfl, Or.inr rfl⟩)))⟩, fun U' hU' hl j hj => h6.2 10 j (Or.inr (Or.inr (Or.inr ⟨rfl, ?_⟩)))⟩, p1, fun U' hU' hl => ?_, h6.1, h6.2 0 8 (Or.inr (Or.inl ⟨rfl, rfl⟩))⟩
  · rw [u_fX7_copyFrom, u_fX7_copyFrom_0]
    simp (disch := first | omega | (simp only [pN, pP, pM, pE, pL, pC, pK, sp]; omega)) only [e_bnd, e_s2, e_s2n, pk_us, pk_un, e_qn, hB, e1, e_obd, e2, e3, e4, e5, e6, e_obr, e_addB, Nat.add_zero]
  · refine h6.2 q j (Or.inl ⟨?_, hj⟩)
    refine Classical.byContradiction (fun hq => ?_)
    rw [ln_big (by omega)] at hj; omega
  · have : 6 * U = 6 * U' := (nI_eq (by omega) (by omega)).mp (u1.symm.trans hU')
    omega
  · have : 6 * U = 6 * U' := (nI_eq (by omega) (by omega)).mp (u1.symm.trans hU')
    omega
theorem k_copyS {l2 pl : Nat} {u σ : Sg} (hs : ∀ q, q < 36 → u (36 + q) = σ q) (h8 : σ 0 8 = nI 0 ∨ σ 0 8 = nI 1) (hp : pw pl) (hp2 : pw l2) (hU : ∃ U, σ 5 7 = nI (6 * U) ∧ 6 * U ≤ l2) : ∃ u' d, fX7_copyFrom l2 u pl = some (u', d) ∧ cpd σ u' ∧ pw (pl + d) ∧ (∀ U, σ 5 7 = nI (6 * U) → 6 * U ≤ l2 → 6 * U ≤ pl + d) ∧ (∀ q, q < 36 → u' (36 + q) = σ q) ∧ u' 0 8 = σ 0 8 := by
  have s0 : u 36 = σ 0 := hs 0 (by omega)
  have s5 : u 41 = σ 5 := hs 5 (by omega)
  have s10 : u 46 = σ 10 := hs 10 (by omega)
  obtain ⟨u', d, k1, k2, k3, k4, k5, k6⟩ := k_copy (u := u) (by rw [s0]; exact h8) hp hp2 (by rw [s5]; exact hU)
  refine ⟨u', d, k1, ⟨fun q j hj => ?_, ⟨?_, ?_⟩, fun U hU hl j hj => ?_⟩, k3, fun U hU hl => k4 U (by rw [s5]; exact hU) hl, fun q hq => by rw [k5 _ (by omega), hs q hq], by rw [k6, s0]⟩
  · have h1 : u' q j = u (q + 36) j := k2.1 q j hj
    rw [h1, Nat.add_comm, hs q (Nat.lt_of_not_le (fun h => by rw [ln_big h] at hj; omega))]
  · have h1 : u' 5 7 = u 41 7 := k2.2.1.1
    rw [h1, s5]
  · have h1 : u' 5 8 = u 41 8 := k2.2.1.2
    rw [h1, s5]
  · have h1 : u' 10 j = u 46 j := k2.2.2 U (by show u 41 7 = _; rw [s5]; exact hU) hl j hj
    rw [h1, s10]
/-- the same, for a look ahead: no node has gone down in it, none is counted -/
theorem k_look {l2 pl : Nat} {u σ : Sg} (hs : ∀ q, q < 36 → u (36 + q) = σ q) (h8 : σ 0 8 = nI 0 ∨ σ 0 8 = nI 1) (hp : pw pl) (hp2 : pw l2) (hU : ∃ U, σ 5 7 = nI (6 * U) ∧ 6 * U ≤ l2) : ∃ u' d, fX7_lookFrom l2 u pl = some (s2 (s2 u' 0 4 (nI 0)) 0 7 (nI 0), d) ∧ cpd σ u' ∧ pw (pl + d) ∧ (∀ U, σ 5 7 = nI (6 * U) → 6 * U ≤ l2 → 6 * U ≤ pl + d) ∧ (∀ q, q < 36 → u' (36 + q) = σ q) ∧ u' 0 8 = σ 0 8 := by
  obtain ⟨u', d, e, h⟩ := k_copyS hs h8 hp hp2 hU
  refine ⟨u', d, ?_, h⟩
  rw [u_fX7_lookFrom, u_fX7_lookFrom_0, e]
  simp only [e_obd, e_bnd, e_addB]; rfl
end CQ
