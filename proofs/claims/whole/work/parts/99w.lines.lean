/-! lines of a text, on both sides -/
/-- both readers stand at p; the nets are alike -/
def rdR (L p pl N G M T : Nat) (Dl : Nat → List Nat) (σ μ : Sg) : Prop := tp L p σ μ ∧ σ 36 2 = NO ∧ RR True 0 (fun _ _ => 0) pl N G M T Dl σ μ (μ 1)
/-- what stays, whatever a text says -/
def kF2 (σ σ' μ μ' : Sg) : Prop := (∀ q, 37 ≤ q → σ' q = σ q) ∧ (∀ q, q ≠ 0 → q ≠ 1 → μ' q = μ q) ∧ (∀ j, j ≠ 8 → j ≠ 10 → j ≠ 13 → μ' 0 j = μ 0 j) ∧ σ' 0 2 = σ 0 2 ∧ σ' 0 8 = σ 0 8
theorem kF2_tr {σ σ' σ'' μ μ' μ'' : Sg} (h1 : kF2 σ σ' μ μ') (h2 : kF2 σ' σ'' μ' μ'') : kF2 σ σ'' μ μ'' :=
  ⟨fun q hq => (h2.1 q hq).trans (h1.1 q hq), fun q h h' => (h2.2.1 q h h').trans (h1.2.1 q h h'), fun j a b c => (h2.2.2.1 j a b c).trans (h1.2.2.1 j a b c), h2.2.2.2.1.trans h1.2.2.2.1, h2.2.2.2.2.trans h1.2.2.2.2⟩
def tOut (L pl M T : Nat) (Dl : Nat → List Nat) (σ μ : Sg) (k : Option Sg) (m : Option (Int32 × Sg)) : Prop :=
  (∃ σ' μ' p' N' G', k = some σ' ∧ m = some (nI 1, μ') ∧ rdR L p' pl N' G' M T Dl σ' μ' ∧ kF2 σ σ' μ μ') ∨
  (∃ σ' μ' p' t, k = some σ' ∧ m = some (nI 0, μ') ∧ tp L p' σ' μ' ∧ σ' 36 2 = nI t ∧ μ' 0 10 = nI t ∧ t ≤ 400 ∧ (∀ q, 37 ≤ q → σ' q = σ q) ∧ (∀ q, q ≠ 0 → q ≠ 1 → μ' q = μ q) ∧ (∀ j, j ≠ 8 → j ≠ 10 → j ≠ 13 → μ' 0 j = μ 0 j))
section LN
variable {L p pl N G M T : Nat} {Dl : Nat → List Nat} {σ μ : Sg}
theorem RR_len {dr : Prop} {tk : Int32} {u : Sg} {ω : Nat → Int32} {B : Nat} {Q : Qs} (h : R0 dr tk pl N G M T B Q Dl σ ω) (hI : rI N (fun _ _ => 0) Q σ) : ∀ c, c < 36 → (Q c).length ≤ 110 :=
  fun c hc => Nat.le_trans (q_len h.2.2.2.2.2.2.2.2.1 hI (fun _ _ => by omega) h.1.1.1 h.1.1.2.2.1 hc) (by omega)
theorem ge_nI {v : Int32} {n : Nat} (hn : n < 2147483648) (h : ¬ v < nI n) : ∃ k, n ≤ k ∧ k < 2147483648 ∧ v = nI k := by
  have h0 : ¬ v < 0 := fun q => by
    rw [Int32.lt_iff_toInt_lt] at q h
    rw [nI_toInt (by omega)] at h
    have : (0 : Int32).toInt = 0 := rfl
    omega
  obtain ⟨k, hk, rfl⟩ := nI_of h0
  refine ⟨k, ?_, hk, rfl⟩
  exact (nI_leI hn hk).mp (i_lt_le.mp h)
/-- a number into a place of the model's row -/
theorem s_to {i a b : Nat} (hi : i < 32243) (ha : a < 1000000) (hb : b < 1000000) (h : tp L p σ μ) (h2 : σ 36 2 = NO) :
    (∃ k p' σ' μ' t, a ≤ k ∧ k ≤ b ∧ fX9_readNumber (nI a) (nI b) σ = some (nI k, σ') ∧ fX12_readTo (nI i) (nI a) (nI b) μ = some (nI 1, s2 μ' 1 i (nI k)) ∧ tp L p' σ' μ' ∧ σ' 36 2 = NO ∧ σ' 36 3 = nI t ∧ μ' 0 10 = nI t ∧ kQ σ σ' ∧ kN μ μ' ∧ t ≤ 400) ∨
    (∃ p' σ' μ' t, fX9_readNumber (nI a) (nI b) σ = some (NO, σ') ∧ fX12_readTo (nI i) (nI a) (nI b) μ = some (nI 0, s2 μ' 1 i (μ' 1 i)) ∧ tp L p' σ' μ' ∧ σ' 36 2 = nI t ∧ μ' 0 10 = nI t ∧ kQ σ σ' ∧ kN μ μ' ∧ t ≤ 400) := by
  rcases s_num (x1 := nI a) (x2 := nI b) h h2 with ⟨v, p', σ', μ', t, v1, v2, v3, v4, r⟩ | ⟨p', σ', μ', t, v3, v4, r⟩
  · left
    obtain ⟨k, k1, k2, rfl⟩ := ge_nI (by omega) v1
    have hkb : k ≤ b := (nI_leI k2 (by omega)).mp v2
    refine ⟨k, p', σ', μ', t, k1, hkb, v3, ?_, r⟩
    rw [u_fX12_readTo, u_fX12_readTo_0, v4, e_obd, cnd_pos (nI_le (by omega) (by omega)), u_fX12_readTo_29, e_in (by omega) (by omega), e_cl (by omega), e_bnd, cnd_neg (nI_nlt (by omega) (by omega))]
  · right
    refine ⟨p', σ', μ', t, v3, ?_, r⟩
    rw [u_fX12_readTo, u_fX12_readTo_0, v4, e_obd, cnd_neg (by decide), e_in (by omega) (by omega), e_cl (by omega), u_fX12_readTo_29, e_in (by omega) (by omega), e_cl (by omega), e_bnd, cnd_pos (by decide)]
end LN
