/-! reading a number, on both sides -/
section NU
variable {σ μ : Sg} {L t : Nat} {x1 x2 : Int32}
/-- a number that will do, or none; the reader stands at p -/
def nOut (x1 x2 : Int32) (t p : Nat) (σ μ : Sg) (k : Option (Int32 × Sg)) (m : Option (Int32 × Sg)) : Prop :=
  (∃ v, ¬ v < x1 ∧ v ≤ x2 ∧ k = some (v, s2 σ 36 1 (nI p)) ∧ m = some (v, s2 μ 0 8 (nI p))) ∨ (k = some (NO, s2 (s2 σ 36 1 (nI p)) 36 2 (nI t)) ∧ m = some (NO, s2 μ 0 8 (nI p)))
theorem s_num_e {p : Nat} {x3 : Int32} (hp : t ≤ p) (hL : p ≤ 400) (h3 : σ 36 3 = nI t) (h10 : μ 0 10 = nI t) : nOut x1 x2 t p σ μ (fX9_readNumber_92 x1 x2 x3 (s2 σ 36 1 (nI p))) (cnd (s2 μ 0 8 (nI p) 0 8 = s2 μ 0 8 (nI p) 0 10) (fX12_number_99 (s2 μ 0 8 (nI p))) (cnd (nI 3 < s2 μ 0 8 (nI p) 0 8 - s2 μ 0 8 (nI p) 0 10) (fX12_number_99 (s2 μ 0 8 (nI p))) (cnd (x3 < x1) (fX12_number_99 (s2 μ 0 8 (nI p))) (cnd (x3 ≤ x2) (some (x3, s2 μ 0 8 (nI p))) (fX12_number_99 (s2 μ 0 8 (nI p))))))) := by
  have e1 : s2 σ 36 1 (nI p) 36 1 - s2 σ 36 1 (nI p) 36 3 = nI (p - t) := by rw [e_s2, pk_us, pk_un (by omega), h3, pk_sub hp]
  have e8 : s2 μ 0 8 (nI p) 0 8 = nI p := by rw [e_s2, pk_us]
  have e10 : s2 μ 0 8 (nI p) 0 10 = nI t := by rw [e_s2, pk_un (by omega), h10]
  have e3 : s2 σ 36 1 (nI p) 36 3 = nI t := by rw [e_s2, pk_un (by omega), h3]
  have f125 : fX9_readNumber_125 (s2 σ 36 1 (nI p)) = some (NO, s2 (s2 σ 36 1 (nI p)) 36 2 (nI t)) := by rw [u_fX9_readNumber_125, e3, e_bnd]
  have f99 : fX12_number_99 (s2 μ 0 8 (nI p)) = some (NO, s2 μ 0 8 (nI p)) := u_fX12_number_99 _
  rw [u_fX9_readNumber_92, e1, e_bnd, e8, e10, pk_sub hp, f125, f99]
  by_cases a1 : p = t
  · right
    subst a1
    refine ⟨?_, ?_⟩
    · rw [cnd_pos (nI_lt (by omega) (by omega))]
    · rw [cnd_pos rfl]
  · rw [cnd_neg (nI_nlt (by omega) (by omega)), cnd_neg (fun q => a1 ((nI_eq (by omega) (by omega)).mp q))]
    by_cases a2 : 3 < p - t
    · right
      refine ⟨?_, ?_⟩ <;> rw [cnd_pos (nI_lt a2 (by omega))]
    · rw [cnd_neg (nI_nlt (by omega) (by omega)), cnd_neg (nI_nlt (by omega) (by omega))]
      by_cases a3 : x3 < x1
      · right
        refine ⟨?_, ?_⟩ <;> rw [cnd_pos a3]
      · rw [cnd_neg a3, cnd_neg a3]
        by_cases a4 : x3 ≤ x2
        · left
          refine ⟨x3, a3, a4, ?_, ?_⟩ <;> rw [cnd_pos a4]
        · right
          refine ⟨?_, ?_⟩ <;> rw [cnd_neg a4]
theorem dec_v (x b : Int32) : x * nI 10 + (b - nI 48) = nI 10 * x + b - nI 48 := by
  rw [Int32.mul_comm, Int32.sub_eq_add_neg, Int32.sub_eq_add_neg, Int32.add_assoc]
theorem s_num_lp (hL : L ≤ 400) (h37 : σ 37 1 = nI L) (h9 : μ 0 9 = nI L) (hb : ∀ j, j < 400 → σ 38 j = μ 5 j) (h3 : σ 36 3 = nI t) (h10 : μ 0 10 = nI t) : ∀ (r p f f' : Nat) (x3 : Int32), p + r = L → t ≤ p → r < f → r < f' →
    ∃ p', p ≤ p' ∧ p' ≤ L ∧ nOut x1 x2 t p' σ μ (fX9_readNumber_24 f x1 x2 x3 (s2 σ 36 1 (nI p))) (fX12_number_6 f' x1 x2 x3 (s2 μ 0 8 (nI p))) := by
  intro r
  induction r with
  | zero =>
    intro p f f' x3 hp ht hf hf'
    obtain ⟨f, rfl⟩ : ∃ g, f = g + 1 := ⟨f - 1, by omega⟩
    obtain ⟨f', rfl⟩ : ∃ g, f' = g + 1 := ⟨f' - 1, by omega⟩
    have ia := m_isAt (μ := s2 μ 0 8 (nI p)) (p := p) (L := L) (x := 48) (y := 57) (by rw [e_s2, pk_us]) (by rw [e_s2, pk_un (by omega)]; exact h9) hL (by omega)
    rw [cnd_neg (fun q => by omega)] at ia
    have E := s_num_e (x1 := x1) (x2 := x2) (x3 := x3) ht (by omega) h3 h10
    refine ⟨p, Nat.le_refl _, by omega, ?_⟩
    have k1 : fX9_readNumber_24 (f + 1) x1 x2 x3 (s2 σ 36 1 (nI p)) = fX9_readNumber_92 x1 x2 x3 (s2 σ 36 1 (nI p)) := by
      rw [u_fX9_readNumber_24, e_s2n _ _ _ (by omega), h37, e_s2, pk_us, cnd_pos (nI_le (by omega) (by omega))]
    rw [k1, u_fX12_number_6, ia, e_obr, cnd_pos rfl]
    exact E
  | succ r ih =>
    intro p f f' x3 hp ht hf hf'
    obtain ⟨f, rfl⟩ : ∃ g, f = g + 1 := ⟨f - 1, by omega⟩
    obtain ⟨f', rfl⟩ : ∃ g, f' = g + 1 := ⟨f' - 1, by omega⟩
    have ia := m_isAt (μ := s2 μ 0 8 (nI p)) (p := p) (L := L) (x := 48) (y := 57) (by rw [e_s2, pk_us]) (by rw [e_s2, pk_un (by omega)]; exact h9) hL (by omega)
    have ka := k_digit (σ := s2 σ 36 1 (nI p)) (p := p) (L := L) (by rw [e_s2, pk_us]) (by rw [e_s2n _ _ _ (by omega)]; exact h37) hL (by omega)
    rw [e_s2n μ (q := 0) (p := 5) _ _ (by omega), ← hb p (by omega)] at ia
    rw [e_s2n σ (q := 36) (p := 38) _ _ (by omega)] at ka
    have hle : ¬ nI L ≤ nI p := mt (nI_leI (by omega) (by omega)).mp (by omega)
    have e37 : s2 σ 36 1 (nI p) 37 1 = nI L := by rw [e_s2n _ _ _ (by omega), h37]
    have e36 : s2 σ 36 1 (nI p) 36 1 = nI p := by rw [e_s2, pk_us]
    have e363 : s2 σ 36 1 (nI p) 36 3 = nI t := by rw [e_s2, pk_un (by omega), h3]
    have e38 : s2 σ 36 1 (nI p) 38 = σ 38 := e_s2n _ _ _ (by omega)
    have e08 : s2 μ 0 8 (nI p) 0 8 = nI p := by rw [e_s2, pk_us]
    have e010 : s2 μ 0 8 (nI p) 0 10 = nI t := by rw [e_s2, pk_un (by omega), h10]
    have e5 : s2 μ 0 8 (nI p) 5 p = σ 38 p := by rw [e_s2n _ _ _ (by omega), hb p (by omega)]
    by_cases e : iA 48 57 (σ 38 p)
    · rw [cnd_pos ⟨by omega, e⟩] at ia ka
      by_cases h3' : 3 ≤ p - t
      · obtain ⟨p', q1, q2, q3⟩ := ih (p + 1) f f' x3 (by omega) (by omega) (by omega) (by omega)
        refine ⟨p', by omega, q2, ?_⟩
        have k1 : fX9_readNumber_24 (f + 1) x1 x2 x3 (s2 σ 36 1 (nI p)) = fX9_readNumber_24 f x1 x2 x3 (s2 σ 36 1 (nI (p + 1))) := by
          rw [u_fX9_readNumber_24, e37, e36, cnd_neg hle, ka, e_obr, cnd_neg (by decide), e363, pk_sub ht, cnd_pos (nI_le h3' (by omega)), u_fX9_readNumber_79, e36, nI_add, e_bnd, e_ss]
        have m1 : fX12_number_6 (f' + 1) x1 x2 x3 (s2 μ 0 8 (nI p)) = fX12_number_6 f' x1 x2 x3 (s2 μ 0 8 (nI (p + 1))) := by
          rw [u_fX12_number_6, ia, e_obr, cnd_neg (by decide), e08, e010, pk_sub ht, cnd_pos (nI_le h3' (by omega)), u_fX12_number_51, e08, nI_add, e_bnd, e_ss]
        rw [k1, m1]; exact q3
      · obtain ⟨p', q1, q2, q3⟩ := ih (p + 1) f f' (nI 10 * x3 + σ 38 p - nI 48) (by omega) (by omega) (by omega) (by omega)
        refine ⟨p', by omega, q2, ?_⟩
        have hn3 : ¬ nI 3 ≤ nI (p - t) := mt (nI_leI (by omega) (by omega)).mp h3'
        have k1 : fX9_readNumber_24 (f + 1) x1 x2 x3 (s2 σ 36 1 (nI p)) = fX9_readNumber_24 f x1 x2 (nI 10 * x3 + σ 38 p - nI 48) (s2 σ 36 1 (nI (p + 1))) := by
          rw [u_fX9_readNumber_24, e37, e36, cnd_neg hle, ka, e_obr, cnd_neg (by decide), e363, pk_sub ht, cnd_neg hn3, e_in (by omega) (by omega), e_cl (by omega), e38, dec_v, e_bnd, u_fX9_readNumber_79, e36, nI_add, e_bnd, e_ss]
        have m1 : fX12_number_6 (f' + 1) x1 x2 x3 (s2 μ 0 8 (nI p)) = fX12_number_6 f' x1 x2 (nI 10 * x3 + σ 38 p - nI 48) (s2 μ 0 8 (nI (p + 1))) := by
          rw [u_fX12_number_6, ia, e_obr, cnd_neg (by decide), e08, e010, pk_sub ht, cnd_neg hn3, e_in (by omega) (by omega), e_cl (by omega), e5, u_fX12_number_51, e08, nI_add, e_bnd, e_ss]
        rw [k1, m1]; exact q3
    · rw [cnd_neg (fun q => e q.2)] at ia ka
      have E := s_num_e (x1 := x1) (x2 := x2) (x3 := x3) ht (by omega) h3 h10
      refine ⟨p, Nat.le_refl _, by omega, ?_⟩
      have k1 : fX9_readNumber_24 (f + 1) x1 x2 x3 (s2 σ 36 1 (nI p)) = fX9_readNumber_92 x1 x2 x3 (s2 σ 36 1 (nI p)) := by
        rw [u_fX9_readNumber_24, e37, e36, cnd_neg hle, ka, e_obr, cnd_pos rfl]
      rw [k1, u_fX12_number_6, ia, e_obr, cnd_pos rfl]
      exact E
end NU
