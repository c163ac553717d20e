/-! a line, and all lines -/
noncomputable def lnK (v1 x2 : Int32) (u3 : Sg) : Option Sg := obr (fX9_isWord 0 v1 u3) (fun r6 => cnd (r6 = (nI 0)) (obr (fX9_isWord 1 v1 u3) (fun r9 => cnd (r9 = (nI 0)) (obr (fX9_isWord 2 v1 u3) (fun r12 => cnd (r12 = (nI 0)) (obr (fX9_isWord 3 v1 u3) (fun r15 => cnd (r15 = (nI 0)) (obr (fX9_isWord 4 v1 u3) (fun r18 => cnd (r18 = (nI 0)) (obr (fX9_isWord 5 v1 u3) (fun r21 => cnd (r21 = (nI 0)) (bnd (s2 u3 36 2 v1) (fun u23 => some u23)) (obr (fX9_tellEvent v1 u3) (fun u25 => some u25)))) (obd (fX9_readNumber (nI 0) (nI 20) u3) (fun r27 u28 => bnd (s2 u28 0 5 r27) (fun u29 => some u29))))) (obd (fX9_readNumber (nI 0) (nI 5) u3) (fun r31 u32 => bnd (s2 u32 0 4 r31) (fun u33 => some u33))))) (obr (fX9_tellDelay u3) (fun u35 => some u35)))) (obr (fX9_tellGroup v1 u3) (fun u37 => some u37)))) (obr (fX9_tellNodes v1 x2 u3) (fun u39 => some u39)))
theorem e_obrS {α : Type} (k : Option α) : obr k (fun u => some u) = k := by cases k <;> rfl
section L7
variable {L p pl N G M T : Nat} {Dl : Nat → List Nat} {σ μ : Sg}
theorem tO_map {k : Option Sg} {m : Option (Int32 × Sg)} {F : Int32 → Sg → Option (Int32 × Sg)} (h : tOut L pl M T Dl σ μ k m) (h0 : ∀ u, F (nI 0) u = some (nI 0, u)) (h1 : ∀ u, F (nI 1) u = some (nI 1, u)) : tOut L pl M T Dl σ μ k (obd m F) := by
  rcases h with ⟨σ', μ', p', N', G', a1, a2, r⟩ | ⟨σ', μ', p', t, a1, a2, r⟩
  · exact Or.inl ⟨σ', μ', p', N', G', a1, by rw [a2, e_obd, h1], r⟩
  · exact Or.inr ⟨σ', μ', p', t, a1, by rw [a2, e_obd, h0], r⟩
theorem tO_mapB {k : Option Sg} {m : Option (Int32 × Sg)} (h : tOut L pl M T Dl σ μ k m) : tOut L pl M T Dl σ μ k (obd m (fun r u => grd (isB r) (some (r, u)))) :=
  tO_map h (fun u => e_isB0) (fun u => e_isB1)
theorem t_line {ln t : Nat} (h : rdR L p pl N G M T Dl σ μ) (h10 : μ 0 10 = nI t) (ht : t ≤ p) (ht4 : t ≤ 400) (h13 : μ 0 13 = nI ln) (hln : ln ≤ 14) : tOut L pl M T Dl σ μ (lnK (nI t) (nI ln) σ) (fX12_readLine μ) := by
  obtain ⟨b0, k0, m0⟩ := s_word (w := 0) h.1 h10 ht (by omega)
  obtain ⟨b1, k1, m1⟩ := s_word (w := 1) h.1 h10 ht (by omega)
  obtain ⟨b2', k2, m2⟩ := s_word (w := 2) h.1 h10 ht (by omega)
  obtain ⟨b3, k3, m3⟩ := s_word (w := 3) h.1 h10 ht (by omega)
  obtain ⟨b4, k4, m4⟩ := s_word (w := 4) h.1 h10 ht (by omega)
  obtain ⟨b5, k5, m5⟩ := s_word (w := 5) h.1 h10 ht (by omega)
  unfold lnK
  rw [u_fX12_readLine, u_fX12_readLine_0, k0, m0, e_obr, e_obr]
  cases b0 with
  | true => rw [e_b2T rfl, e_b2T rfl, e_obrS]; exact tO_mapB (t_nds h hln h13 h10 ht4)
  | false =>
    rw [e_b2F rfl, e_b2F rfl, k1, m1, e_obr, e_obr]
    cases b1 with
    | true => rw [e_b2T rfl, e_b2T rfl, e_obrS]; exact tO_mapB (t_grp h h10 ht4)
    | false =>
      rw [e_b2F rfl, e_b2F rfl, k2, m2, e_obr, e_obr]
      cases b2' with
      | true => rw [e_b2T rfl, e_b2T rfl, e_obrS]; exact tO_mapB (t_dly h)
      | false =>
        rw [e_b2F rfl, e_b2F rfl, k3, m3, e_obr, e_obr]
        cases b3 with
        | true => rw [e_b2T rfl, e_b2T rfl]; exact tO_mapB (t_jit h)
        | false =>
          rw [e_b2F rfl, e_b2F rfl, k4, m4, e_obr, e_obr]
          cases b4 with
          | true => rw [e_b2T rfl, e_b2T rfl]; exact tO_mapB (t_ntc h)
          | false =>
            rw [e_b2F rfl, e_b2F rfl, k5, m5, e_obr, e_obr]
            cases b5 with
            | true => rw [e_b2T rfl, e_b2T rfl, e_obrS]; exact tO_map (t_evt h h10 ht4) (fun u => cnd_pos rfl) (fun u => cnd_neg (by decide))
            | false =>
              rw [e_b2F rfl, e_b2F rfl, e_bnd]
              exact tO_f1 (t := t) rfl rfl (tp_flt h.1) (by rw [e_s2, pk_us]) h10 ht4 (fun q hq => e_s2n _ _ _ hq) ⟨fun _ _ _ => rfl, fun _ _ _ => rfl⟩
theorem rdR_cg {p' : Nat} {σ' μ' : Sg} (h : rdR L p pl N G M T Dl σ μ) (kq : kQ σ σ') (h1 : μ' 1 = μ 1) (h14 : μ' 0 14 = μ 0 14) (t : tp L p' σ' μ') (h2 : σ' 36 2 = NO) : rdR L p' pl N G M T Dl σ' μ' := by
  refine ⟨t, h2, ?_⟩
  rw [h1]
  exact RR_u h14 (RR_cg (fun q hq => kq q (by omega)) h.2.2)
theorem kF2_q {σ' μ' : Sg} (kq : kQ σ σ') (kn : kN μ μ') : kF2 σ σ' μ μ' :=
  ⟨fun q hq => kq q (by omega), fun q h0 _ => kn.1 q h0, fun j h8 h10 _ => kn.2 j h8 h10, by rw [kq 0 (by omega)], by rw [kq 0 (by omega)]⟩
theorem kF2_13 {x : Int32} : kF2 σ σ μ (s2 μ 0 13 x) :=
  ⟨fun q hq => rfl, fun q h0 _ => e_s2n _ _ _ h0, fun j _ _ h13 => by rw [e_s2, pk_un h13], rfl, rfl⟩
def lOut (pl M T : Nat) (Dl : Nat → List Nat) (σ μ : Sg) (k m : Option (Int32 × Sg)) : Prop :=
  (∃ σ' μ' N' G', k = some (NO, σ') ∧ m = some (nI 1, μ') ∧ RR True 0 (fun _ _ => 0) pl N' G' M T Dl σ' μ' (μ' 1) ∧ kF2 σ σ' μ μ') ∨
  (∃ σ' μ' t, k = some (nI t, σ') ∧ m = some (nI 0, μ') ∧ t ≤ 400 ∧ μ' 0 10 = nI t ∧ (∀ q, 37 ≤ q → σ' q = σ q) ∧ (∀ q, q ≠ 0 → q ≠ 1 → μ' q = μ q) ∧ (∀ j, j ≠ 8 → j ≠ 10 → j ≠ 13 → μ' 0 j = μ 0 j))
theorem lO_f {σ1 μ1 σ' μ' : Sg} {t : Nat} {k m : Option (Int32 × Sg)} (hk : k = some (nI t, σ')) (hm : m = some (nI 0, μ')) (ht : t ≤ 400) (h10 : μ' 0 10 = nI t) (f : kF2 σ σ1 μ μ1) (h1 : ∀ q, 37 ≤ q → σ' q = σ1 q) (h2 : ∀ q, q ≠ 0 → q ≠ 1 → μ' q = μ1 q) (h3 : ∀ j, j ≠ 8 → j ≠ 10 → j ≠ 13 → μ' 0 j = μ1 0 j) : lOut pl M T Dl σ μ k m :=
  Or.inr ⟨σ', μ', t, hk, hm, ht, h10, fun q hq => by rw [h1 q hq, f.1 q hq], fun q a b => by rw [h2 q a b, f.2.1 q a b], fun j a b c => by rw [h3 j a b c, f.2.2.1 j a b c]⟩
theorem lO_p {σ1 μ1 : Sg} {k m : Option (Int32 × Sg)} (f : kF2 σ σ1 μ μ1) (h : lOut pl M T Dl σ1 μ1 k m) : lOut pl M T Dl σ μ k m := by
  rcases h with ⟨σ', μ', N', G', a1, a2, a3, a4⟩ | ⟨σ', μ', t, a1, a2, a3, a4, a5, a6, a7⟩
  · exact Or.inl ⟨σ', μ', N', G', a1, a2, a3, kF2_tr f a4⟩
  · exact lO_f a1 a2 a3 a4 f a5 a6 a7
theorem k_tline {t ln : Nat} {σb : Sg} (h1 : σ 36 1 = nI t) (h2 : fX9_skipWord σ = some σb) (hln : ln < 14) : fX9_tellLine (nI ln) σ = lnK (nI t) (nI ln) σb := by
  rw [u_fX9_tellLine, u_fX9_tellLine_0, h1, e_bnd, h2, e_obr, e_ltT hln (by omega)]; rfl
/-- behind a line -/
theorem t_behind {f f' ln : Nat} (h : rdR L p pl N G M T Dl σ μ) (ih : ∀ p' σ' μ', rdR L p' pl N G M T Dl σ' μ' → lOut pl M T Dl σ' μ' (fX9_tell_32 f (nI (ln + 1)) σ') (fX12_readNet_19 f' (nI (ln + 1)) μ')) : lOut pl M T Dl σ μ (obr (fX9_skipBlanks σ) (fun u13 => cnd ((u13 36 1) < (u13 37 1)) (grd (vp_in (u13 36 1) 400) (cnd ((u13 38 (((u13 36 1)).toNatClampNeg)) = (nI 59)) (bnd (s2 u13 36 1 ((u13 36 1) + (nI 1))) (fun u17 => bnd ((nI ln) + (nI 1)) (fun v18 => fX9_tell_32 f v18 u17))) (some ((u13 36 1), u13)))) (some (NO, u13))))
    (obr (fX12_blanks μ) (fun u13 => cnd ((u13 0 8) = (u13 0 9)) (some ((nI 1), u13)) (obr (fX12_isAt (nI 59) (nI 59) u13) (fun r16 => cnd (r16 = (nI 0)) (some ((nI 0), u13)) (bnd (s2 u13 0 8 ((u13 0 8) + (nI 1))) (fun u18 => bnd ((nI ln) + (nI 1)) (fun v19 => fX12_readNet_19 f' v19 u18))))))) := by
  obtain ⟨p', q1, q2, k1, m1, t1⟩ := s_blk h.1
  rw [k1, m1, e_obr, e_obr]
  have kq : kQ σ (s2 σ 36 1 (nI p')) := fun q hq => e_s2n _ _ _ hq
  have kn : kN μ (s2 (s2 μ 0 8 (nI p')) 0 10 (nI p')) := ⟨fun q hq => by rw [e_s2n _ _ _ hq, e_s2n _ _ _ hq], fun j h8 h10 => by rw [e_s2, pk_un h10, e_s2, pk_un h8]⟩
  have n2 : s2 σ 36 1 (nI p') 36 2 = NO := by rw [e_s2, pk_un (by omega)]; exact h.2.1
  have m10 : s2 (s2 μ 0 8 (nI p')) 0 10 (nI p') 0 10 = nI p' := by rw [e_s2, pk_us]
  have hr := rdR_cg h kq (kn.1 1 (by omega)) (kn.2 14 (by omega) (by omega)) t1 n2
  generalize s2 σ 36 1 (nI p') = τ at kq n2 hr t1
  generalize s2 (s2 μ 0 8 (nI p')) 0 10 (nI p') = ν at kn m10 hr t1
  have fr := kF2_q kq kn
  obtain ⟨d1, d2, d3, d4, d5, d6, d7⟩ := t1
  rw [d3, d5, d6, d4]
  by_cases hl : p' < L
  · have ia := m_isAt (x := 59) (y := 59) d6 d4 d1 d2
    rw [e_ltT hl (by omega), e_in (by omega) (by omega), e_cl (by omega), e_eqF (by omega) (by omega) (by omega), ia, e_obr]
    by_cases e : iA 59 59 (τ 38 p')
    · have e' := iA_eq e
      rw [cnd_pos (show p' < L ∧ iA 59 59 (ν 5 p') from ⟨hl, by rw [← d7 p' (by omega)]; exact e⟩), cnd_pos e', cnd_neg (by decide), nI_add, nI_add, e_bnd, e_bnd, e_bnd, e_bnd]
      have t2 : tp L (p' + 1) (s2 τ 36 1 (nI (p' + 1))) (s2 ν 0 8 (nI (p' + 1))) := ⟨d1, by omega, by rw [e_s2n _ _ _ (by omega)]; exact d3, by rw [e_s2, pk_un (by omega)]; exact d4, by rw [e_s2, pk_us], by rw [e_s2, pk_us], fun j hj => by rw [e_s2n _ _ _ (by omega), e_s2n _ _ _ (by omega)]; exact d7 j hj⟩
      have kq2 : kQ τ (s2 τ 36 1 (nI (p' + 1))) := fun q hq => e_s2n _ _ _ hq
      have kn2 : kN ν (s2 ν 0 8 (nI (p' + 1))) := ⟨fun q hq => e_s2n _ _ _ hq, fun j h8 _ => by rw [e_s2, pk_un h8]⟩
      exact lO_p (kF2_tr fr (kF2_q kq2 kn2)) (ih (p' + 1) _ _ (rdR_cg hr kq2 (kn2.1 1 (by omega)) (kn2.2 14 (by omega) (by omega)) t2 (by rw [e_s2, pk_un (by omega)]; exact n2)))
    · have e' : τ 38 p' ≠ nI 59 := fun q => e (by rw [q]; exact ⟨by decide, by decide⟩)
      rw [cnd_neg (show ¬ (p' < L ∧ iA 59 59 (ν 5 p')) from fun q => e (by rw [d7 p' (by omega)]; exact q.2)), cnd_neg e', cnd_pos rfl]
      exact lO_f rfl rfl (by omega) m10 fr (fun _ _ => rfl) (fun _ _ _ => rfl) (fun _ _ _ _ => rfl)
  · have : p' = L := by omega
    subst this
    rw [e_ltF (by omega) (by omega), e_eqT rfl]
    exact Or.inl ⟨τ, ν, N, G, rfl, rfl, hr.2.2, fr⟩
theorem t_tell_lp : ∀ r ln f f' p N G σ μ, ln + r = 14 → r < f → r < f' → rdR L p pl N G M T Dl σ μ → lOut pl M T Dl σ μ (fX9_tell_32 f (nI ln) σ) (fX12_readNet_19 f' (nI ln) μ) := by
  intro r
  induction r with
  | zero =>
    intro ln f f' p N G σ μ hln hf hf' h
    obtain ⟨f, rfl⟩ : ∃ g, f = g + 1 := ⟨f - 1, by omega⟩
    obtain ⟨f', rfl⟩ : ∃ g, f' = g + 1 := ⟨f' - 1, by omega⟩
    have : ln = 14 := by omega
    subst this
    obtain ⟨t, p', σa, σb, μb, a1, a2, a3, a4, a5, a6, a7, a8, a9, a10, a11, a12, a13⟩ := s_let h.1
    have k1 : fX9_tellLine (nI 14) σa = some (s2 σb 36 2 (nI t)) := by
      rw [u_fX9_tellLine, u_fX9_tellLine_0, a2, e_bnd, a3, e_obr, e_ltF (by omega) (by omega), e_bnd]
    have n2 : s2 σb 36 2 (nI t) 36 2 = nI t := by rw [e_s2, pk_us]
    refine lO_f (σ1 := σb) (μ1 := μb) (σ' := s2 σb 36 2 (nI t)) (μ' := s2 μb 0 13 (nI 14)) (t := t) ?_ ?_ a8 ?_ (kF2_q a10 a11) (fun q hq => e_s2n _ _ _ (by omega)) (fun q h0 _ => e_s2n _ _ _ h0) (fun j _ _ h13 => by rw [e_s2, pk_un h13])
    · rw [u_fX9_tell_32, e_ltF (by omega) (by omega), a1, e_obr, k1, e_obr, n2, e_NOF (by omega)]
    · rw [u_fX12_readNet_19, a4, e_obr, e_bnd, e_eqT rfl]
    · rw [e_s2, pk_un (by omega)]; exact a6
  | succ r ih =>
    intro ln f f' p N G σ μ hln hf hf' h
    obtain ⟨f, rfl⟩ : ∃ g, f = g + 1 := ⟨f - 1, by omega⟩
    obtain ⟨f', rfl⟩ : ∃ g, f' = g + 1 := ⟨f' - 1, by omega⟩
    obtain ⟨t, p', σa, σb, μb, a1, a2, a3, a4, a5, a6, a7, a8, a9, a10, a11, a12, a13⟩ := s_let h.1
    have kl := k_tline (ln := ln) a2 a3 (by omega)
    have kf : kF2 σ σb μ (s2 μb 0 13 (nI ln)) := kF2_tr (kF2_q a10 a11) kF2_13
    obtain ⟨d1, d2, d3, d4, d5, d6, d7⟩ := a5
    have h0 : rdR L p' pl N G M T Dl σb (s2 μb 0 13 (nI ln)) := rdR_cg h a10 (by rw [e_s2n _ _ _ (by omega), a11.1 1 (by omega)]) (by rw [e_s2, pk_un (by omega), a11.2 14 (by omega) (by omega)]) ⟨d1, d2, d3, by rw [e_s2, pk_un (by omega)]; exact d4, d5, by rw [e_s2, pk_un (by omega)]; exact d6, fun j hj => by rw [e_s2n _ _ _ (by omega)]; exact d7 j hj⟩ (by rw [a13]; exact h.2.1)
    have X := t_line (ln := ln) (t := t) h0 (by rw [e_s2, pk_un (by omega)]; exact a6) a7 a8 (by rw [e_s2, pk_us]) (by omega)
    rw [u_fX9_tell_32, e_ltF (by omega) (by omega), a1, e_obr, kl, u_fX12_readNet_19, a4, e_obr, e_bnd, e_eqF (by omega) (by omega) (by omega)]
    rcases X with ⟨σ2, μ2, p2, N', G', x1, x2, x3, x4⟩ | ⟨σ2, μ2, p2, t2, x1, x2, x3, x4, x5, x6, x7, x8, x9⟩
    · rw [x1, x2, e_obr, e_obd, x3.2.1, e_NOT, e_eqF (by omega) (by omega) (by omega)]
      exact lO_p (kF2_tr kf x4) (t_behind x3 (fun p' σ' μ' h' => ih (ln + 1) f f' p' N' G' σ' μ' (by omega) (by omega) (by omega) h'))
    · rw [x1, x2, e_obr, e_obd, x4, e_NOF (by omega), e_eqT rfl]
      exact lO_f rfl rfl x6 x5 kf x7 x8 x9
theorem t_tell (hL : L ≤ 400) (h37 : σ 37 1 = nI L) (h9 : μ 0 9 = nI L) (h8 : μ 0 8 = nI 0) (hb : ∀ j, j < 400 → σ 38 j = μ 5 j) (hR : RR True 0 (fun _ _ => 0) pl N G M T Dl σ μ (μ 1)) : lOut pl M T Dl σ μ (fX9_tell σ) (fX12_readNet μ) := by
  have kq : kQ σ (s2 (s2 σ 36 1 (nI 0)) 36 2 NO) := fun q hq => by rw [e_s2n _ _ _ hq, e_s2n _ _ _ hq]
  have t0 : tp L 0 (s2 (s2 σ 36 1 (nI 0)) 36 2 NO) μ := ⟨hL, by omega, by rw [kq 37 (by omega)]; exact h37, h9, by rw [e_s2, pk_un (by omega), e_s2, pk_us], h8, fun j hj => by rw [kq 38 (by omega)]; exact hb j hj⟩
  have n0 : s2 (s2 σ 36 1 (nI 0)) 36 2 NO 36 2 = NO := by rw [e_s2, pk_us]
  have r0 : rdR L 0 pl N G M T Dl (s2 (s2 σ 36 1 (nI 0)) 36 2 NO) μ := ⟨t0, n0, RR_cg (fun q hq => kq q (by omega)) hR⟩
  rw [u_fX9_tell, u_fX9_tell_0, e_bnd, e_bnd, u_fX12_readNet, u_fX12_readNet_0]
  generalize s2 (s2 σ 36 1 (nI 0)) 36 2 NO = τ at kq t0 n0 r0
  obtain ⟨p', q1, q2, k1, m1, t1⟩ := s_blk t0
  rw [k1, m1, e_obr, e_obr]
  have kq1 : kQ τ (s2 τ 36 1 (nI p')) := fun q hq => e_s2n _ _ _ hq
  have kn1 : kN μ (s2 (s2 μ 0 8 (nI p')) 0 10 (nI p')) := ⟨fun q hq => by rw [e_s2n _ _ _ hq, e_s2n _ _ _ hq], fun j h8 h10 => by rw [e_s2, pk_un h10, e_s2, pk_un h8]⟩
  have hr := rdR_cg r0 kq1 (kn1.1 1 (by omega)) (kn1.2 14 (by omega) (by omega)) t1 (by rw [e_s2, pk_un (by omega)]; exact n0)
  generalize s2 τ 36 1 (nI p') = τ1 at kq1 hr t1
  generalize s2 (s2 μ 0 8 (nI p')) 0 10 (nI p') = ν at kn1 hr t1
  have fr : kF2 σ τ1 μ ν := kF2_q (kQ_tr kq kq1) kn1
  obtain ⟨d1, d2, d3, d4, d5, d6, d7⟩ := t1
  rw [d3, d5, d6, d4]
  by_cases hl : p' < L
  · rw [e_ltT hl (by omega), e_eqF (by omega) (by omega) (by omega)]
    obtain ⟨fu, hfu⟩ : ∃ f, FU = f + 20 := ⟨99980, rfl⟩
    exact lO_p fr (t_tell_lp 14 0 FU FU p' N G τ1 ν (by omega) (by omega) (by omega) hr)
  · have : p' = L := by omega
    subst this
    rw [e_ltF (by omega) (by omega), e_eqT rfl]
    exact Or.inl ⟨τ1, ν, N, G, rfl, rfl, hr.2.2, fr⟩
end L7
