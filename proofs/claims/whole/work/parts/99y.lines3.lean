/-! delay -/
section L3
variable {L p pl N G M T : Nat} {Dl : Nat → List Nat} {σ μ : Sg}
theorem m_nds (ν : Sg) : fX12_nodes ν = some (ν 1 0) := rfl
theorem le_pm {k N : Nat} (hk : k < 2147483648) (hN : N < 1000000) (h : nI k ≤ nI N - nI 1) : k < N := by
  rw [pm_sub] at h
  cases N with
  | zero =>
    exfalso
    rw [Int32.le_iff_toInt_le, nI_toInt (by omega)] at h
    have : (pmI 0).toInt = -1 := rfl
    omega
  | succ N => have := (nI_leI hk (by omega)).mp h; omega
/-- a number of so many -/
theorem s_one (hN : N < 1000000) (h : tp L p σ μ) (h2 : σ 36 2 = NO) :
    (∃ k p' σ' μ' t, k < N ∧ fX9_readNumber (nI 0) (nI N - nI 1) σ = some (nI k, σ') ∧ fX12_number (nI 0) (nI N - nI 1) μ = some (nI k, μ') ∧ tp L p' σ' μ' ∧ σ' 36 2 = NO ∧ σ' 36 3 = nI t ∧ μ' 0 10 = nI t ∧ kQ σ σ' ∧ kN μ μ' ∧ t ≤ 400) ∨
    (∃ p' σ' μ' t, fX9_readNumber (nI 0) (nI N - nI 1) σ = some (NO, σ') ∧ fX12_number (nI 0) (nI N - nI 1) μ = some (NO, μ') ∧ tp L p' σ' μ' ∧ σ' 36 2 = nI t ∧ μ' 0 10 = nI t ∧ kQ σ σ' ∧ kN μ μ' ∧ t ≤ 400) := by
  rcases s_num (x1 := nI 0) (x2 := nI N - nI 1) h h2 with ⟨v, p', σ', μ', t, v1, v2, v3, v4, r⟩ | hf
  · left
    obtain ⟨k, -, k2, rfl⟩ := ge_nI (by omega) v1
    exact ⟨k, p', σ', μ', t, le_pm k2 hN v2, v3, v4, r⟩
  · exact Or.inr hf
/-- after a fault nothing is read -/
theorem k_stuck {x1 x2 : Int32} {t : Nat} (ht : t < 2147483648) (h : σ 36 2 = nI t) : fX9_readNumber x1 x2 σ = some (NO, σ) := by
  rw [u_fX9_readNumber, u_fX9_readNumber_0, cnd_neg (by rw [h]; exact NO_ne ht)]
end L3
