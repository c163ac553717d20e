/-! groups -/
section L5
variable {L p pl N G M T : Nat} {Dl : Nat → List Nat} {σ μ : Sg}
theorem tO_s {σ1 σ' μ1 μ' : Sg} {p' N' G' B : Nat} {Q : Qs} {k : Option Sg} {m : Option (Int32 × Sg)} (hk : k = some σ') (hm : m = some (nI 1, μ')) (t1 : tp L p' σ1 μ1) (t2 : σ1 36 2 = NO) (kq : kQ σ σ1) (kn : kN μ μ1) (hs : ∀ q, 36 ≤ q → σ' q = σ1 q) (hm1 : ∀ q, q ≠ 1 → μ' q = μ1 q) (h02 : σ' 0 2 = σ1 0 2) (h08 : σ' 0 8 = σ1 0 8) (r1 : R0 True 0 pl N' G' M T B Q Dl σ' (μ' 1)) (hI : rI N' (fun _ _ => 0) Q σ') (hd : dF True μ) : tOut L pl M T Dl σ μ k m := by
  left
  obtain ⟨d1, d2, d3, d4, d5, d6, d7⟩ := t1
  refine ⟨σ', μ', p', N', G', hk, hm, ⟨⟨d1, d2, ?_, ?_, ?_, ?_, fun j hj => ?_⟩, ?_, Q, B, r1, hI, ?_⟩, ?_⟩
  · rw [hs 37 (by omega)]; exact d3
  · rw [hm1 0 (by omega)]; exact d4
  · rw [hs 36 (by omega)]; exact d5
  · rw [hm1 0 (by omega)]; exact d6
  · rw [hs 38 (by omega), hm1 5 (by omega)]; exact d7 j hj
  · rw [hs 36 (by omega)]; exact t2
  · unfold dF at hd ⊢; rw [hm1 0 (by omega), kn.2 14 (by omega) (by omega)]; exact hd
  · exact ⟨fun q hq => by rw [hs q (by omega), kq q (by omega)], fun q h0 h1 => by rw [hm1 q h1, kn.1 q h0], fun j h8 h10 _ => by rw [hm1 0 (by omega), kn.2 j h8 h10], by rw [h02, kq 0 (by omega)], by rw [h08, kq 0 (by omega)]⟩
def crd (S : Int32) : Nat := (bt S 0).toNat + (bt S 1).toNat + (bt S 2).toNat + (bt S 3).toNat + (bt S 4).toNat + (bt S 5).toNat
theorem crd_le (S : Int32) : crd S ≤ 6 := by
  unfold crd
  have := Bool.toNat_le (bt S 0)
  have := Bool.toNat_le (bt S 1)
  have := Bool.toNat_le (bt S 2)
  have := Bool.toNat_le (bt S 3)
  have := Bool.toNat_le (bt S 4)
  have := Bool.toNat_le (bt S 5)
  omega
theorem crd_s {S : Int32} {k : Nat} (hk : k < 6) (h : bt S k = false) : crd (S ||| sh1 (nI k)) = crd S + 1 := by
  unfold crd
  rw [b_or, b_or, b_or, b_or, b_or, b_or, b_sh1 (by omega), b_sh1 (by omega), b_sh1 (by omega), b_sh1 (by omega), b_sh1 (by omega), b_sh1 (by omega)]
  rcases (show k = 0 ∨ k = 1 ∨ k = 2 ∨ k = 3 ∨ k = 4 ∨ k = 5 by omega) with rfl | rfl | rfl | rfl | rfl | rfl <;> (rw [h]; simp) <;> omega
/-- is there a figure next -/
theorem s_fig (h : tp L p σ μ) : ∃ p' b, fX9_skipBlanks σ = some (s2 σ 36 1 (nI p')) ∧ fX9_isDigit (s2 σ 36 1 (nI p')) = some (b2 b) ∧ fX12_isFigure μ = some (b2 b, s2 (s2 μ 0 8 (nI p')) 0 10 (nI p')) ∧ tp L p' (s2 σ 36 1 (nI p')) (s2 (s2 μ 0 8 (nI p')) 0 10 (nI p')) := by
  obtain ⟨p', q1, q2, k1, m1, t1⟩ := s_blk h
  obtain ⟨d1, d2, d3, d4, d5, d6, d7⟩ := t1
  have ia := m_isAt (x := 48) (y := 57) d6 d4 d1 d2
  have ka := k_digit d5 d3 d1 d2
  by_cases e : p' < L ∧ iA 48 57 (s2 σ 36 1 (nI p') 38 p')
  · rw [cnd_pos e] at ka
    rw [cnd_pos (by rw [← d7 p' (by omega)]; exact e)] at ia
    refine ⟨p', true, k1, ka, ?_, d1, d2, d3, d4, d5, d6, d7⟩
    rw [u_fX12_isFigure, u_fX12_isFigure_0, m1, e_obr, ia, e_obr, e_isB1]; rfl
  · rw [cnd_neg e] at ka
    rw [cnd_neg (fun q => e (by rw [d7 p' (by omega)]; exact q))] at ia
    refine ⟨p', false, k1, ka, ?_, d1, d2, d3, d4, d5, d6, d7⟩
    rw [u_fX12_isFigure, u_fX12_isFigure_0, m1, e_obr, ia, e_obr, e_isB0]; rfl
def gOut (L N G : Nat) (σ μ : Sg) (k : Option Sg) (m : Option (Int32 × Sg)) : Prop :=
  (∃ S p' σ' μ', (∀ i, N ≤ i → bt S i = false) ∧ k = fX9_tellGroup_96 S σ' ∧ m = some (nI 1, s2 (s2 μ' 1 (11 + G) S) 1 1 (nI (G + 1))) ∧ tp L p' σ' μ' ∧ σ' 36 2 = NO ∧ kQ σ σ' ∧ kN μ μ') ∨
  (∃ p' σ' μ' t, k = some σ' ∧ m = some (nI 0, μ') ∧ tp L p' σ' μ' ∧ σ' 36 2 = nI t ∧ μ' 0 10 = nI t ∧ t ≤ 400 ∧ kQ σ σ' ∧ kN μ μ')
theorem t_grp_lp (hN : N ≤ 6) (hG : G < 6) (z0 : σ 0 0 = nI N) (y0 : μ 1 0 = nI N) (y1 : μ 1 1 = nI G) : ∀ r S f f' p σ1 μ1, crd S + r = 7 → r < f → r < f' → (∀ i, N ≤ i → bt S i = false) → tp L p σ1 μ1 → σ1 36 2 = NO → kQ σ σ1 → kN μ μ1 → gOut L N G σ μ (fX9_tellGroup_23 f S (nI 1) (nI (crd S)) σ1) (fX12_readGroup_15 f' S μ1) := by
  intro r
  induction r with
  | zero => intro S f f' p σ1 μ1 hc; have := crd_le S; omega
  | succ r ih =>
    intro S f f' p σ1 μ1 hc hf hf' hS ht h2 kq kn
    obtain ⟨f, rfl⟩ : ∃ g, f = g + 1 := ⟨f - 1, by omega⟩
    obtain ⟨f', rfl⟩ : ∃ g, f' = g + 1 := ⟨f' - 1, by omega⟩
    have hle := crd_le S
    have z1 : σ1 0 0 = nI N := by rw [kq 0 (by omega)]; exact z0
    have mz : fX12_nodes μ1 = some (nI N) := by rw [m_nds, kn.1 1 (by omega), y0]
    rcases s_one (N := N) (by omega) ht h2 with ⟨k1, p1, σ2, μ2, t1, a1, a2, a3, a4, a5, a6, a7, a8, a9, a10⟩ | ⟨p1, σ2, μ2, t1, a2, a3, a4, a5, a7, a8, a9, a10⟩
    · have kq2 := kQ_tr kq a8
      have kn2 := kN_tr kn a9
      have hi := k_isIn2 S (k := k1) (by omega)
      have ho := k_holds2 S (k := k1) (by omega)
      cases hb : bt S k1
      · have hi0 : fX11_isIn S (nI k1) = nI 0 := by rw [hi, hb]; rfl
        have ho0 : fX12_holds S (nI k1) = nI 0 := by rw [ho, hb]; rfl
        obtain ⟨p2, b, b1, b2', b3, b4⟩ := s_fig a4
        have kq3 : kQ σ (s2 σ2 36 1 (nI p2)) := kQ_tr kq2 (fun q hq => e_s2n _ _ _ hq)
        have kn3 : kN μ (s2 (s2 μ2 0 8 (nI p2)) 0 10 (nI p2)) := kN_tr kn2 ⟨fun q hq => by rw [e_s2n _ _ _ hq, e_s2n _ _ _ hq], fun j h8 h10 => by rw [e_s2, pk_un h10, e_s2, pk_un h8]⟩
        have n3 : s2 σ2 36 1 (nI p2) 36 2 = NO := by rw [e_s2, pk_un (by omega)]; exact a5
        have hS' : ∀ i, N ≤ i → bt (S ||| sh1 (nI k1)) i = false := fun i hi => by rw [b_or, hS i hi, b_sh1 (by omega), decide_eq_false (by omega)]; rfl
        have hc' := crd_s (S := S) (k := k1) (by omega) hb
        have hle' := crd_le (S ||| sh1 (nI k1))
        have m1 : s2 (s2 μ2 0 8 (nI p2)) 0 10 (nI p2) 1 1 = nI G := by rw [kn3.1 1 (by omega), y1]
        have e1 : fX9_tellGroup_23 (f + 1) S (nI 1) (nI (crd S)) σ1 = fX9_tellGroup_23 f (S ||| sh1 (nI k1)) (b2 b) (nI (crd (S ||| sh1 (nI k1)))) (s2 σ2 36 1 (nI p2)) := by
          rw [u_fX9_tellGroup_23, e_ltF (by omega) (by omega), e_eqF (by omega) (by omega) (by omega), z1, a2, e_obd, e_NOF (by omega), hi0, e_eqT rfl, e_bnd, b1, e_obr, b2', e_obr, nI_add, e_bnd, hc']
        cases b with
        | true =>
          have I := ih (S ||| sh1 (nI k1)) f f' p2 (s2 σ2 36 1 (nI p2)) (s2 (s2 μ2 0 8 (nI p2)) 0 10 (nI p2)) (by omega) (by omega) (by omega) hS' b4 n3 kq3 kn3
          have e2 : fX12_readGroup_15 (f' + 1) S μ1 = fX12_readGroup_15 f' (S ||| sh1 (nI k1)) (s2 (s2 μ2 0 8 (nI p2)) 0 10 (nI p2)) := by
            rw [u_fX12_readGroup_15, mz, e_obr, a3, e_obd, e_ltF (by omega) (by omega), ho0, e_eqT rfl, e_bnd, b3, e_obd, e_b2T rfl]
          rw [e1, e2]; exact I
        | false =>
          left
          refine ⟨S ||| sh1 (nI k1), p2, s2 σ2 36 1 (nI p2), s2 (s2 μ2 0 8 (nI p2)) 0 10 (nI p2), hS', ?_, ?_, b4, n3, kq3, kn3⟩
          · obtain ⟨f, rfl⟩ : ∃ g, f = g + 1 := ⟨f - 1, by omega⟩
            rw [e1, u_fX9_tellGroup_23, e_ltF (by omega) (by omega), e_b2F rfl]
          · rw [u_fX12_readGroup_15, mz, e_obr, a3, e_obd, e_ltF (by omega) (by omega), ho0, e_eqT rfl, e_bnd, b3, e_obd, e_b2F rfl, m1, nI_add, e_in (by omega) (by omega), e_cl (by omega), e_bnd]
            have m2 : s2 (s2 (s2 μ2 0 8 (nI p2)) 0 10 (nI p2)) 1 (11 + G) (S ||| sh1 (nI k1)) 1 1 = nI G := by rw [e_s2, pk_un (by omega)]; exact m1
            rw [m2, nI_add, e_bnd]
      · have hi1 : fX11_isIn S (nI k1) = nI 1 := by rw [hi, hb]; rfl
        have ho1 : fX12_holds S (nI k1) = nI 1 := by rw [ho, hb]; rfl
        right
        obtain ⟨d1, d2, d3, d4, d5, d6, d7⟩ := a4
        refine ⟨p1, s2 σ2 36 2 (nI t1), μ2, t1, ?_, ?_, ⟨d1, d2, ?_, d4, ?_, d6, fun j hj => ?_⟩, ?_, a7, a10, kQ_tr kq2 (fun q hq => e_s2n _ _ _ hq), kn2⟩
        · rw [u_fX9_tellGroup_23, e_ltF (by omega) (by omega), e_eqF (by omega) (by omega) (by omega), z1, a2, e_obd, e_NOF (by omega), hi1, e_eqF (by omega) (by omega) (by omega), a6, e_bnd]
        · rw [u_fX12_readGroup_15, mz, e_obr, a3, e_obd, e_ltF (by omega) (by omega), ho1, e_eqF (by omega) (by omega) (by omega)]
        · rw [e_s2n _ _ _ (by omega)]; exact d3
        · rw [e_s2, pk_un (by omega)]; exact d5
        · rw [e_s2n _ _ _ (by omega)]; exact d7 j hj
        · rw [e_s2, pk_us]
    · right
      refine ⟨p1, σ2, μ2, t1, ?_, ?_, a4, a5, a7, a10, kQ_tr kq a8, kN_tr kn a9⟩
      · rw [u_fX9_tellGroup_23, e_ltF (by omega) (by omega), e_eqF (by omega) (by omega) (by omega), z1, a2, e_obd, e_NOT]
      · rw [u_fX12_readGroup_15, mz, e_obr, a3, e_obd, cnd_pos (NO_lt (by omega))]
theorem t_grp {t : Nat} (h : rdR L p pl N G M T Dl σ μ) (h10 : μ 0 10 = nI t) (ht4 : t ≤ 400) : tOut L pl M T Dl σ μ (fX9_tellGroup (nI t) σ) (fX12_readGroup μ) := by
  obtain ⟨ht, h2, Q, B, hR, hI, hd⟩ := h
  have hll := RR_len (u := μ) hR hI
  have h6 := hR.1.1.1
  have hG6 := hR.1.1.2.1
  have z0 := hR.1.2.1.1
  have y0 := hR.1.2.1.2
  have z1 := hR.1.2.2.1.1
  have y1 := hR.1.2.2.1.2
  by_cases hG : G < 6
  · obtain ⟨fu, hfu⟩ : ∃ f, FU = f + 9 := ⟨99991, rfl⟩
    have X := t_grp_lp (σ := σ) (μ := μ) (L := L) h6 hG z0 y0 y1 7 (nI 0) FU FU p σ μ (by decide) (by omega) (by omega) (fun i _ => b_n0 i) ht h2 (fun _ _ => rfl) ⟨fun _ _ => rfl, fun _ _ _ => rfl⟩
    have e1 : fX9_tellGroup (nI t) σ = fX9_tellGroup_23 FU (nI 0) (nI 1) (nI (crd (nI 0))) σ := by
      rw [u_fX9_tellGroup, u_fX9_tellGroup_0, z1, e_ltT hG (by omega)]; rfl
    have e2 : fX12_readGroup μ = fX12_readGroup_15 FU (nI 0) μ := by
      rw [u_fX12_readGroup, u_fX12_readGroup_0, y1, e_eqF (by omega) (by omega) (by omega)]
    rw [← e1, ← e2] at X
    rcases X with ⟨S, p', σ', μ', x1, x2, x3, x4, x5, x6, x7⟩ | ⟨p', σ', μ', t', x1, x2, x3, x4, x5, x6, x7, x8⟩
    · have r1 := R0_grp (S := S) hG x1 hR hll
      have r2 := R0_cg (σ' := s2 (s2 σ' 1 G S) 0 1 (nI (G + 1))) (fun q hq => by
        by_cases q0 : q = 0
        · subst q0; rw [e_s2, e_s2, e_s2n _ _ _ (by omega), e_s2n _ _ _ (by omega), x6 0 (by omega)]
        · rw [e_s2n _ _ _ q0, e_s2n _ _ _ q0]
          by_cases q1 : q = 1
          · subst q1; rw [e_s2, e_s2, x6 1 (by omega)]
          · rw [e_s2n _ _ _ q1, e_s2n _ _ _ q1, x6 q (by omega)]) r1
      have w1 : s2 (s2 μ' 1 (11 + G) S) 1 1 (nI (G + 1)) 1 = upd (upd (μ 1) (11 + G) S) 1 (nI (G + 1)) := by rw [e_s2, e_s2, x7.1 1 (by omega)]
      have z1' : σ' 0 1 = nI G := by rw [x6 0 (by omega)]; exact z1
      refine tO_s (Q := Q) (B := B) (N' := N) (G' := G + 1) (σ' := s2 (s2 σ' 1 G S) 0 1 (nI (G + 1))) ?_ x3 x4 x5 x6 x7 (fun q hq => by rw [e_s2n _ _ _ (by omega), e_s2n _ _ _ (by omega)]) (fun q hq => by rw [e_s2n _ _ _ hq, e_s2n _ _ _ hq]) ?_ ?_ ?_ ?_ hd
      · have z2' : s2 σ' 1 G S 0 1 = nI G := by rw [e_s2n _ _ _ (by omega)]; exact z1'
        rw [x2, u_fX9_tellGroup_96, z1', e_in hG (by omega), e_cl (by omega), e_bnd, z2', nI_add, e_bnd]
      · rw [e_s2, pk_un (by omega), e_s2n _ _ _ (by omega)]
      · rw [e_s2, pk_un (by omega), e_s2n _ _ _ (by omega)]
      · rw [w1]; exact r2
      · have c : ∀ q, 2 ≤ q → q < 36 → s2 (s2 σ' 1 G S) 0 1 (nI (G + 1)) q = σ q := fun q hq hq' => by rw [e_s2n _ _ _ (by omega), e_s2n _ _ _ (by omega), x6 q (by omega)]
        exact rI_c hI (c 15 (by omega) (by omega)) (c 2 (by omega) (by omega)) (c 27 (by omega) (by omega))
    · exact tO_f x1 x2 x3 x4 x5 x6 x7 x8
  · have : G = 6 := by omega
    subst this
    obtain ⟨d1, d2, d3, d4, d5, d6, d7⟩ := ht
    refine tO_f (p' := p) (σ' := s2 σ 36 2 (nI t)) (μ' := μ) ?_ ?_ ⟨d1, d2, ?_, d4, ?_, d6, fun j hj => ?_⟩ (by rw [e_s2, pk_us]) h10 ht4 (fun q hq => e_s2n _ _ _ hq) ⟨fun _ _ => rfl, fun _ _ _ => rfl⟩
    · rw [u_fX9_tellGroup, u_fX9_tellGroup_0, z1, e_ltF (by omega) (by omega), e_bnd]
    · rw [u_fX12_readGroup, u_fX12_readGroup_0, y1, e_eqT rfl]
    · rw [e_s2n _ _ _ (by omega)]; exact d3
    · rw [e_s2, pk_un (by omega)]; exact d5
    · rw [e_s2n _ _ _ (by omega)]; exact d7 j hj
end L5
