/-! words -/
theorem lenW_n : ∀ w, w < 8 → lenW w = nI (wrd w).length ∧ (wrd w).length ≤ 8 := by decide +kernel
def wdB (b : Nat → Int32) (t w : Nat) : Nat → Nat → Bool
  | 0, _ => true
  | r + 1, k => decide (b (t + k) = chW w (nI k)) && wdB b t w r (k + 1)
theorem wdB_cg {b b' : Nat → Int32} {t w : Nat} : ∀ {r k : Nat}, (∀ j, t + k ≤ j → j < t + k + r → b j = b' j) → wdB b t w r k = wdB b' t w r k
  | 0, _, _ => rfl
  | r + 1, k, h => by
    show (decide (b (t + k) = chW w (nI k)) && wdB b t w r (k + 1)) = (decide (b' (t + k) = chW w (nI k)) && wdB b' t w r (k + 1))
    rw [h (t + k) (by omega) (by omega), wdB_cg (fun j h1 h2 => h j (by omega) (by omega))]
section WO
variable {σ μ : Sg} {L p t w : Nat}
theorem k_word17 (hw : w < 8) (ht : t + (wrd w).length ≤ 400) : ∀ r k f, k + r = (wrd w).length → r < f → fX9_isWord_17 w σ f (nI t) (nI k) = some (b2 (wdB (σ 38) t w r k)) := by
  obtain ⟨e1, e2⟩ := lenW_n w hw
  intro r
  induction r with
  | zero =>
    intro k f hk hf
    obtain ⟨f, rfl⟩ : ∃ g, f = g + 1 := ⟨f - 1, by omega⟩
    rw [u_fX9_isWord_17, e1, cnd_pos (nI_le (by omega) (by omega))]; rfl
  | succ r ih =>
    intro k f hk hf
    obtain ⟨f, rfl⟩ : ∃ g, f = g + 1 := ⟨f - 1, by omega⟩
    have I := ih (k + 1) f (by omega) (by omega)
    have hle : ¬ nI (wrd w).length ≤ nI k := mt (nI_leI (by omega) (by omega)).mp (by omega)
    have es : wdB (σ 38) t w (r + 1) k = (decide (σ 38 (t + k) = chW w (nI k)) && wdB (σ 38) t w r (k + 1)) := rfl
    rw [u_fX9_isWord_17, e1, cnd_neg hle, nI_add, e_in (by omega) (by omega), e_in (by omega) (by omega), e_cl (by omega), es]
    by_cases e : σ 38 (t + k) = chW w (nI k)
    · rw [cnd_pos e, nI_add, e_bnd, I, decide_eq_true e, Bool.true_and]
    · rw [cnd_neg e, decide_eq_false e, Bool.false_and]; rfl
theorem m_word24 (hw : w < 8) (h10 : μ 0 10 = nI t) (ht : t + (wrd w).length ≤ 400) : ∀ r k f b, k + r = (wrd w).length → r < f → fX12_isWord_24 w μ f (b2 b) (nI k) = some (b2 (b && wdB (μ 5) t w r k)) := by
  obtain ⟨e1, e2⟩ := lenW_n w hw
  have F : ∀ k f, fX12_isWord_24 w μ (f + 1) (nI 0) k = some (nI 0) := fun k f => by rw [u_fX12_isWord_24, cnd_pos rfl, e_isB0]
  intro r
  induction r with
  | zero =>
    intro k f b hk hf
    obtain ⟨f, rfl⟩ : ∃ g, f = g + 1 := ⟨f - 1, by omega⟩
    cases b with
    | false => rw [b2_f, F, Bool.false_and]; rfl
    | true =>
      rw [b2_t, u_fX12_isWord_24, cnd_neg (by decide), e1, cnd_pos (nI_le (by omega) (by omega)), e_isB1]; rfl
  | succ r ih =>
    intro k f b hk hf
    obtain ⟨f, rfl⟩ : ∃ g, f = g + 1 := ⟨f - 1, by omega⟩
    cases b with
    | false => rw [b2_f, F, Bool.false_and]; rfl
    | true =>
      have It := ih (k + 1) f true (by omega) (by omega)
      have If := ih (k + 1) f false (by omega) (by omega)
      rw [b2_t, Bool.true_and] at It
      rw [b2_f, Bool.false_and] at If
      have hle : ¬ nI (wrd w).length ≤ nI k := mt (nI_leI (by omega) (by omega)).mp (by omega)
      have es : wdB (μ 5) t w (r + 1) k = (decide (μ 5 (t + k) = chW w (nI k)) && wdB (μ 5) t w r (k + 1)) := rfl
      rw [b2_t, u_fX12_isWord_24, cnd_neg (by decide), e1, cnd_neg hle, h10, nI_add, e_in (by omega) (by omega), e_in (by omega) (by omega), e_cl (by omega), es, Bool.true_and]
      by_cases e : μ 5 (t + k) = chW w (nI k)
      · rw [cnd_pos e, u_fX12_isWord_60, nI_add, e_bnd, It, decide_eq_true e, Bool.true_and]
      · rw [cnd_neg e, u_fX12_isWord_60, nI_add, e_bnd, If, decide_eq_false e, Bool.false_and]
theorem s_word (h : tp L p σ μ) (h10 : μ 0 10 = nI t) (ht : t ≤ p) (hw : w < 8) : ∃ b, fX9_isWord w (nI t) σ = some (b2 b) ∧ fX12_isWord w μ = some (b2 b) := by
  obtain ⟨hL, hp, h37, h9, h1, h8, hb⟩ := h
  obtain ⟨e1, e2⟩ := lenW_n w hw
  by_cases e : p - t = (wrd w).length
  · have k := k_word17 (σ := σ) (t := t) hw (by omega) (wrd w).length 0 FU (by omega) (by show _ < 100000; omega)
    have m := m_word24 (μ := μ) (t := t) hw h10 (by omega) (wrd w).length 0 FU true (by omega) (by show _ < 100000; omega)
    rw [Bool.true_and, ← wdB_cg (b := σ 38) (b' := μ 5) (fun j _ h2 => hb j (by omega)), b2_t] at m
    refine ⟨wdB (σ 38) t w (wrd w).length 0, ?_, ?_⟩
    · rw [u_fX9_isWord, u_fX9_isWord_0, h1, pk_sub ht, e1, e, cnd_pos rfl]; exact k
    · rw [u_fX12_isWord, u_fX12_isWord_0, h8, h10, pk_sub ht, e1, e, cnd_pos rfl, u_fX12_isWord_21]; exact m
  · have hne : ¬ nI (p - t) = nI (wrd w).length := fun q => e ((nI_eq (by omega) (by omega)).mp q)
    refine ⟨false, ?_, ?_⟩
    · rw [u_fX9_isWord, u_fX9_isWord_0, h1, pk_sub ht, e1, cnd_neg hne]; rfl
    · obtain ⟨f, hf⟩ : ∃ f, FU = f + 1 := ⟨99999, rfl⟩
      rw [u_fX12_isWord, u_fX12_isWord_0, h8, h10, pk_sub ht, e1, cnd_neg hne, u_fX12_isWord_21, hf, u_fX12_isWord_24, cnd_pos rfl, e_isB0]; rfl
end WO
