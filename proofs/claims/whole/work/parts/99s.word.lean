/-! blanks, numbers, words: both readers keep step -/
def tp (L p : Nat) (σ μ : Sg) : Prop := L ≤ 400 ∧ p ≤ L ∧ σ 37 1 = nI L ∧ μ 0 9 = nI L ∧ σ 36 1 = nI p ∧ μ 0 8 = nI p ∧ ∀ j, j < 400 → σ 38 j = μ 5 j
def kQ (σ σ' : Sg) : Prop := ∀ q, q ≠ 36 → σ' q = σ q
def kN (μ μ' : Sg) : Prop := (∀ q, q ≠ 0 → μ' q = μ q) ∧ ∀ j, j ≠ 8 → j ≠ 10 → μ' 0 j = μ 0 j
theorem rn_cg {P : Int32 → Prop} {b b' : Nat → Int32} : ∀ {r p : Nat}, (∀ j, p ≤ j → j < p + r → b j = b' j) → rn P b r p = rn P b' r p
  | 0, _, _ => rfl
  | r + 1, p, h => by
    show cnd (P (b p)) (rn P b r (p + 1)) p = cnd (P (b' p)) (rn P b' r (p + 1)) p
    rw [h p (by omega) (by omega), rn_cg (fun j h1 h2 => h j (by omega) (by omega))]
section WD
variable {σ μ : Sg} {L p : Nat}
theorem s_blk (h : tp L p σ μ) : ∃ p', p ≤ p' ∧ p' ≤ L ∧ fX9_skipBlanks σ = some (s2 σ 36 1 (nI p')) ∧ fX12_blanks μ = some (s2 (s2 μ 0 8 (nI p')) 0 10 (nI p')) ∧ tp L p' (s2 σ 36 1 (nI p')) (s2 (s2 μ 0 8 (nI p')) 0 10 (nI p')) := by
  obtain ⟨hL, hp, h37, h9, h1, h8, hb⟩ := h
  have k := k_blk (σ := σ) (L := L) (L - p) p FU (by omega) hL h37 (by show L - p < 100000; omega)
  have m := m_blk (μ := μ) (L := L) (L - p) p FU (by omega) hL h9 (by show L - p < 100000; omega)
  rw [s2_sf h1] at k
  rw [s2_sf h8, ← rn_cg (b := σ 38) (b' := μ 5) (fun j _ h2 => hb j (by omega))] at m
  obtain ⟨r1, r2⟩ := rn_le (P := iA 32 32) (b := σ 38) (r := L - p) (p := p)
  refine ⟨rn (iA 32 32) (σ 38) (L - p) p, r1, by omega, k, m, hL, by omega, ?_, ?_, ?_, ?_, fun j hj => ?_⟩
  · rw [e_s2n _ _ _ (by omega)]; exact h37
  · rw [e_s2, pk_un (by omega), e_s2, pk_un (by omega)]; exact h9
  · rw [e_s2, pk_us]
  · rw [e_s2, pk_un (by omega), e_s2, pk_us]
  · rw [e_s2n _ _ _ (by omega), e_s2n _ _ _ (by omega), e_s2n _ _ _ (by omega)]; exact hb j hj
theorem s_wrd (h : tp L p σ μ) : ∃ p', p ≤ p' ∧ p' ≤ L ∧ fX9_skipWord σ = some (s2 σ 36 1 (nI p')) ∧ fX12_letters_4 FU μ = some (s2 μ 0 8 (nI p')) ∧ tp L p' (s2 σ 36 1 (nI p')) (s2 μ 0 8 (nI p')) := by
  obtain ⟨hL, hp, h37, h9, h1, h8, hb⟩ := h
  have k := k_wrd (σ := σ) (L := L) (L - p) p FU (by omega) hL h37 (by show L - p < 100000; omega)
  have m := m_wrd (μ := μ) (L := L) (L - p) p FU (by omega) hL h9 (by show L - p < 100000; omega)
  rw [s2_sf h1] at k
  rw [s2_sf h8, ← rn_cg (b := σ 38) (b' := μ 5) (fun j _ h2 => hb j (by omega))] at m
  obtain ⟨r1, r2⟩ := rn_le (P := iA 97 122) (b := σ 38) (r := L - p) (p := p)
  refine ⟨rn (iA 97 122) (σ 38) (L - p) p, r1, by omega, k, m, hL, by omega, ?_, ?_, ?_, ?_, fun j hj => ?_⟩
  · rw [e_s2n _ _ _ (by omega)]; exact h37
  · rw [e_s2, pk_un (by omega)]; exact h9
  · rw [e_s2, pk_us]
  · rw [e_s2, pk_us]
  · rw [e_s2n _ _ _ (by omega), e_s2n _ _ _ (by omega)]; exact hb j hj
theorem s_num {x1 x2 : Int32} (h : tp L p σ μ) (h2 : σ 36 2 = NO) :
    (∃ v p' σ' μ' t, ¬ v < x1 ∧ v ≤ x2 ∧ fX9_readNumber x1 x2 σ = some (v, σ') ∧ fX12_number x1 x2 μ = some (v, μ') ∧ tp L p' σ' μ' ∧ σ' 36 2 = NO ∧ σ' 36 3 = nI t ∧ μ' 0 10 = nI t ∧ kQ σ σ' ∧ kN μ μ' ∧ t ≤ 400) ∨
    (∃ p' σ' μ' t, fX9_readNumber x1 x2 σ = some (NO, σ') ∧ fX12_number x1 x2 μ = some (NO, μ') ∧ tp L p' σ' μ' ∧ σ' 36 2 = nI t ∧ μ' 0 10 = nI t ∧ kQ σ σ' ∧ kN μ μ' ∧ t ≤ 400) := by
  obtain ⟨t, t1, t2, k1, m1, ht⟩ := s_blk h
  obtain ⟨hL, hp, h37, h9, h1, h8, hb⟩ := ht
  have b37 : s2 (s2 σ 36 1 (nI t)) 36 3 (nI t) 37 1 = nI L := by rw [e_s2n _ _ _ (by omega)]; exact h37
  have b38 : s2 (s2 σ 36 1 (nI t)) 36 3 (nI t) 38 = s2 σ 36 1 (nI t) 38 := e_s2n _ _ _ (by omega)
  have b1 : s2 (s2 σ 36 1 (nI t)) 36 3 (nI t) 36 1 = nI t := by rw [e_s2, pk_un (by omega)]; exact h1
  have b2' : s2 (s2 σ 36 1 (nI t)) 36 3 (nI t) 36 2 = NO := by rw [e_s2, pk_un (by omega), e_s2, pk_un (by omega)]; exact h2
  have b3 : s2 (s2 σ 36 1 (nI t)) 36 3 (nI t) 36 3 = nI t := by rw [e_s2, pk_us]
  have c10 : s2 (s2 μ 0 8 (nI t)) 0 10 (nI t) 0 10 = nI t := by rw [e_s2, pk_us]
  have kq : ∀ q, q ≠ 36 → s2 (s2 σ 36 1 (nI t)) 36 3 (nI t) q = σ q := fun q hq => by rw [e_s2n _ _ _ hq, e_s2n _ _ _ hq]
  obtain ⟨p', q1, q2, q3⟩ := s_num_lp (x1 := x1) (x2 := x2) (σ := s2 (s2 σ 36 1 (nI t)) 36 3 (nI t)) (μ := s2 (s2 μ 0 8 (nI t)) 0 10 (nI t)) hL b37 h9 (by rw [b38]; exact hb) b3 c10 (L - t) t FU FU (nI 0) (by omega) (Nat.le_refl _) (by show L - t < 100000; omega) (by show L - t < 100000; omega)
  rw [s2_sf b1, s2_sf h8] at q3
  have kk : fX9_readNumber x1 x2 σ = fX9_readNumber_24 FU x1 x2 (nI 0) (s2 (s2 σ 36 1 (nI t)) 36 3 (nI t)) := by
    rw [u_fX9_readNumber, u_fX9_readNumber_0, cnd_pos h2, k1, e_obr, h1, e_bnd]
  have mm : fX12_number x1 x2 μ = fX12_number_6 FU x1 x2 (nI 0) (s2 (s2 μ 0 8 (nI t)) 0 10 (nI t)) := by
    rw [u_fX12_number, u_fX12_number_0, m1, e_obr]
  rw [← kk, ← mm] at q3
  have tpn : ∀ σ', (∀ q, q ≠ 36 → σ' q = σ q) → σ' 36 1 = nI p' → tp L p' σ' (s2 (s2 (s2 μ 0 8 (nI t)) 0 10 (nI t)) 0 8 (nI p')) := fun σ' hq hp1 =>
    ⟨hL, q2, by rw [hq 37 (by omega), ← h37, e_s2n _ _ _ (by omega)], by rw [e_s2, pk_un (by omega)]; exact h9, hp1, by rw [e_s2, pk_us], fun j hj => by rw [hq 38 (by omega), e_s2n _ _ _ (by omega), ← hb j hj, e_s2n _ _ _ (by omega)]⟩
  have m10 : s2 (s2 (s2 μ 0 8 (nI t)) 0 10 (nI t)) 0 8 (nI p') 0 10 = nI t := by rw [e_s2, pk_un (by omega)]; exact c10
  have kn : kN μ (s2 (s2 (s2 μ 0 8 (nI t)) 0 10 (nI t)) 0 8 (nI p')) := ⟨fun q hq => by rw [e_s2n _ _ _ hq, e_s2n _ _ _ hq, e_s2n _ _ _ hq], fun j h8 h10 => by rw [e_s2, pk_un h8, e_s2, pk_un h10, e_s2, pk_un h8]⟩
  rcases q3 with ⟨v, v1, v2, v3, v4⟩ | ⟨v3, v4⟩
  · left
    refine ⟨v, p', _, _, t, v1, v2, v3, v4, tpn _ (fun q hq => by rw [e_s2n _ _ _ hq]; exact kq q hq) (by rw [e_s2, pk_us]), by rw [e_s2, pk_un (by omega)]; exact b2', by rw [e_s2, pk_un (by omega)]; exact b3, m10, fun q hq => by rw [e_s2n _ _ _ hq]; exact kq q hq, kn, by omega⟩
  · right
    refine ⟨p', _, _, t, v3, v4, tpn _ (fun q hq => by rw [e_s2n _ _ _ hq, e_s2n _ _ _ hq]; exact kq q hq) (by rw [e_s2, pk_un (by omega), e_s2, pk_us]), by rw [e_s2, pk_us], m10, fun q hq => by rw [e_s2n _ _ _ hq, e_s2n _ _ _ hq]; exact kq q hq, kn, by omega⟩
end WD
