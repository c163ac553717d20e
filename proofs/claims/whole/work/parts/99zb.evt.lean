/-! events -/
section L6
variable {L p pl N G M T : Nat} {Dl : Nat → List Nat} {σ μ : Sg}
theorem k_em92 {a : Nat} (ha : 1000 ≤ a) (ha2 : a < 2147483648) (x3 : Int32) (u : Sg) : fX9_readNumber_92 (nI a) (nI 999) x3 u = fX9_readNumber_92 (nI 1000) (nI 999) x3 u := by
  have key : ∀ b, 1000 ≤ b → b < 2147483648 → cnd (x3 < nI b) (fX9_readNumber_125 u) (cnd (x3 ≤ nI 999) (some (x3, u)) (fX9_readNumber_125 u)) = fX9_readNumber_125 u := fun b hb hb2 => by
    by_cases h1 : x3 < nI b
    · rw [cnd_pos h1]
    · rw [cnd_neg h1]
      obtain ⟨k, k1, k2, rfl⟩ := ge_nI hb2 h1
      rw [cnd_neg (nI_ge (by omega) (by omega))]
  rw [u_fX9_readNumber_92, u_fX9_readNumber_92, key a ha ha2, key 1000 (by omega) (by omega)]
theorem k_em24 {a : Nat} (ha : 1000 ≤ a) (ha2 : a < 2147483648) : ∀ (f : Nat) (x3 : Int32) (u : Sg), fX9_readNumber_24 f (nI a) (nI 999) x3 u = fX9_readNumber_24 f (nI 1000) (nI 999) x3 u := by
  intro f
  induction f with
  | zero => intro x3 u; rfl
  | succ f ih =>
    intro x3 u
    simp only [u_fX9_readNumber_24, u_fX9_readNumber_79, k_em92 ha ha2, ih]
theorem k_em {a : Nat} (ha : 1000 ≤ a) (ha2 : a < 2147483648) (u : Sg) : fX9_readNumber (nI a) (nI 999) u = fX9_readNumber (nI 1000) (nI 999) u := by
  simp only [u_fX9_readNumber, u_fX9_readNumber_0, k_em24 ha ha2]
/-- an event's tick -/
theorem s_evn {i : Nat} (hi : i < 32243) (hT : T ≤ 100000) (h : tp L p σ μ) (h2 : σ 36 2 = NO) :
    (∃ k p' σ' μ', k ≤ 999 ∧ fX9_readNumber (nI T) (nI 999) σ = some (nI k, σ') ∧ fX12_readTo (nI i) (if nI 1000 < nI T then nI 1000 else nI T) (nI 999) μ = some (nI 1, s2 μ' 1 i (nI k)) ∧ tp L p' σ' μ' ∧ σ' 36 2 = NO ∧ kQ σ σ' ∧ kN μ μ') ∨
    (∃ p' σ' μ' t, fX9_readNumber (nI T) (nI 999) σ = some (NO, σ') ∧ fX12_readTo (nI i) (if nI 1000 < nI T then nI 1000 else nI T) (nI 999) μ = some (nI 0, μ') ∧ tp L p' σ' μ' ∧ σ' 36 2 = nI t ∧ μ' 0 10 = nI t ∧ kQ σ σ' ∧ kN μ μ' ∧ t ≤ 400) := by
  by_cases hT1 : 1000 < T
  · rw [if_pos (nI_lt hT1 (by omega)), k_em (by omega) (by omega)]
    rcases s_to (i := i) (a := 1000) (b := 999) hi (by omega) (by omega) h h2 with ⟨k, p', σ', μ', t, k1, k2, -⟩ | ⟨p', σ', μ', t, v3, v4, r⟩
    · omega
    · right
      rw [s2_id] at v4
      exact ⟨p', σ', μ', t, v3, v4, r⟩
  · rw [if_neg (nI_nlt (by omega) (by omega))]
    rcases s_to (i := i) (a := T) (b := 999) hi (by omega) (by omega) h h2 with ⟨k, p', σ', μ', t, k1, k2, v3, v4, r1, r2, r3, r4, r5, r6, r7⟩ | ⟨p', σ', μ', t, v3, v4, r⟩
    · exact Or.inl ⟨k, p', σ', μ', k2, v3, v4, r1, r2, r5, r6⟩
    · right
      rw [s2_id] at v4
      exact ⟨p', σ', μ', t, v3, v4, r⟩
/-- a number of so many, into the model's row -/
theorem s_to1 {i : Nat} (hi : i < 32243) (hN : N < 1000000) (h : tp L p σ μ) (h2 : σ 36 2 = NO) :
    (∃ k p' σ' μ', k < N ∧ fX9_readNumber (nI 0) (nI N - nI 1) σ = some (nI k, σ') ∧ fX12_readTo (nI i) (nI 0) (nI N - nI 1) μ = some (nI 1, s2 μ' 1 i (nI k)) ∧ tp L p' σ' μ' ∧ σ' 36 2 = NO ∧ kQ σ σ' ∧ kN μ μ') ∨
    (∃ p' σ' μ' t, fX9_readNumber (nI 0) (nI N - nI 1) σ = some (NO, σ') ∧ fX12_readTo (nI i) (nI 0) (nI N - nI 1) μ = some (nI 0, μ') ∧ tp L p' σ' μ' ∧ σ' 36 2 = nI t ∧ μ' 0 10 = nI t ∧ kQ σ σ' ∧ kN μ μ' ∧ t ≤ 400) := by
  rcases s_one hN h h2 with ⟨k, p', σ', μ', t, k1, v3, v4, r1, r2, r3, r4, r5, r6, r7⟩ | ⟨p', σ', μ', t, v3, v4, r⟩
  · left
    refine ⟨k, p', σ', μ', k1, v3, ?_, r1, r2, r5, r6⟩
    rw [u_fX12_readTo, u_fX12_readTo_0, v4, e_obd, cnd_pos (nI_le (by omega) (by omega)), u_fX12_readTo_29, e_in (by omega) (by omega), e_cl (by omega), e_bnd, cnd_neg (nI_nlt (by omega) (by omega))]
  · right
    refine ⟨p', σ', μ', t, v3, ?_, r⟩
    rw [u_fX12_readTo, u_fX12_readTo_0, v4, e_obd, cnd_neg (by decide), e_in (by omega) (by omega), e_cl (by omega), u_fX12_readTo_29, e_in (by omega) (by omega), e_cl (by omega), e_bnd, cnd_pos (by decide), s2_id]
/-- a word is read -/
theorem s_let (h : tp L p σ μ) : ∃ t p' σa σb μb, fX9_skipBlanks σ = some σa ∧ σa 36 1 = nI t ∧ fX9_skipWord σa = some σb ∧ fX12_letters μ = some μb ∧ tp L p' σb μb ∧ μb 0 10 = nI t ∧ t ≤ p' ∧ t ≤ 400 ∧ kQ σ σa ∧ kQ σ σb ∧ kN μ μb ∧ σa 36 2 = σ 36 2 ∧ σb 36 2 = σ 36 2 := by
  obtain ⟨t, q1, q2, k1, m1, t1⟩ := s_blk h
  obtain ⟨p', r1, r2, k2, m2, t2⟩ := s_wrd t1
  have hL := t1.1
  refine ⟨t, p', _, _, _, k1, by rw [e_s2, pk_us], k2, ?_, t2, by rw [e_s2, pk_un (by omega), e_s2, pk_us], r1, by omega, fun q hq => e_s2n _ _ _ hq, fun q hq => by rw [e_s2n _ _ _ hq, e_s2n _ _ _ hq], ⟨fun q hq => by rw [e_s2n _ _ _ hq, e_s2n _ _ _ hq, e_s2n _ _ _ hq], fun j h8 h10 => by rw [e_s2, pk_un h8, e_s2, pk_un h10, e_s2, pk_un h8]⟩, by rw [e_s2, pk_un (by omega)], by rw [e_s2, pk_un (by omega), e_s2, pk_un (by omega)]⟩
  rw [u_fX12_letters, u_fX12_letters_0, m1, e_obr, m2]
theorem tp_row {i : Nat} {x : Int32} (h : tp L p σ μ) : tp L p σ (s2 μ 1 i x) := by
  obtain ⟨d1, d2, d3, d4, d5, d6, d7⟩ := h
  exact ⟨d1, d2, d3, by rw [e_s2n _ _ _ (by omega)]; exact d4, d5, by rw [e_s2n _ _ _ (by omega)]; exact d6, fun j hj => by rw [e_s2n _ _ _ (by omega)]; exact d7 j hj⟩
theorem tp_flt {x : Int32} (h : tp L p σ μ) : tp L p (s2 σ 36 2 x) μ := by
  obtain ⟨d1, d2, d3, d4, d5, d6, d7⟩ := h
  exact ⟨d1, d2, by rw [e_s2n _ _ _ (by omega)]; exact d3, d4, by rw [e_s2, pk_un (by omega)]; exact d5, d6, fun j hj => by rw [e_s2n _ _ _ (by omega)]; exact d7 j hj⟩
/-- what a step leaves, but for the model's row -/
def kR1 (μ μ' : Sg) : Prop := (∀ q, q ≠ 0 → q ≠ 1 → μ' q = μ q) ∧ ∀ j, j ≠ 8 → j ≠ 10 → μ' 0 j = μ 0 j
theorem kR1_n {μ' : Sg} (h : kN μ μ') : kR1 μ μ' := ⟨fun q h0 _ => h.1 q h0, h.2⟩
theorem kR1_s {i : Nat} {x : Int32} : kR1 μ (s2 μ 1 i x) := ⟨fun q _ h1 => e_s2n _ _ _ h1, fun j _ _ => by rw [e_s2n _ _ _ (by omega)]⟩
theorem kR1_tr {a b c : Sg} (h1 : kR1 a b) (h2 : kR1 b c) : kR1 a c := ⟨fun q x y => (h2.1 q x y).trans (h1.1 q x y), fun j x y => (h2.2 j x y).trans (h1.2 j x y)⟩
theorem tO_f1 {p' t : Nat} {σ' μ' : Sg} {k : Option Sg} {m : Option (Int32 × Sg)} (hk : k = some σ') (hm : m = some (nI 0, μ')) (h1 : tp L p' σ' μ') (h2 : σ' 36 2 = nI t) (h3 : μ' 0 10 = nI t) (h4 : t ≤ 400) (h5 : kQ σ σ') (h6 : kR1 μ μ') : tOut L pl M T Dl σ μ k m :=
  Or.inr ⟨σ', μ', p', t, hk, hm, h1, h2, h3, h4, fun q hq => h5 q (by omega), fun q h0 h1 => h6.1 q h0 h1, fun j a b _ => h6.2 j a b⟩
theorem tO_s1 {σ1 σ' μ' : Sg} {p' N' G' B : Nat} {Q : Qs} {k : Option Sg} {m : Option (Int32 × Sg)} (hk : k = some σ') (hm : m = some (nI 1, μ')) (t1 : tp L p' σ1 μ') (t2 : σ1 36 2 = NO) (kq : kQ σ σ1) (kn : kR1 μ μ') (hs : ∀ q, 36 ≤ q → σ' q = σ1 q) (h02 : σ' 0 2 = σ1 0 2) (h08 : σ' 0 8 = σ1 0 8) (r1 : R0 True 0 pl N' G' M T B Q Dl σ' (μ' 1)) (hI : rI N' (fun _ _ => 0) Q σ') (hd : dF True μ) : tOut L pl M T Dl σ μ k m := by
  left
  obtain ⟨d1, d2, d3, d4, d5, d6, d7⟩ := t1
  refine ⟨σ', μ', p', N', G', hk, hm, ⟨⟨d1, d2, ?_, d4, ?_, d6, fun j hj => ?_⟩, ?_, Q, B, r1, hI, ?_⟩, ?_⟩
  · rw [hs 37 (by omega)]; exact d3
  · rw [hs 36 (by omega)]; exact d5
  · rw [hs 38 (by omega)]; exact d7 j hj
  · rw [hs 36 (by omega)]; exact t2
  · unfold dF at hd ⊢; rw [kn.2 14 (by omega) (by omega)]; exact hd
  · exact ⟨fun q hq => by rw [hs q (by omega), kq q (by omega)], fun q h0 h1 => kn.1 q h0 h1, fun j h8 h10 _ => kn.2 j h8 h10, by rw [h02, kq 0 (by omega)], by rw [h08, kq 0 (by omega)]⟩
theorem k_eadd {E : Nat} {x1 x2 x3 : Int32} (hE : E < 8) (h : σ 30 0 = nI E) : fX2_add x1 x2 x3 σ = some (s2 (s2 (s2 (s2 σ 31 E x1) 32 E x2) 33 E x3) 30 0 (nI (E + 1))) := by
  have h1 : s2 σ 31 E x1 30 0 = nI E := by rw [e_s2n _ _ _ (by omega)]; exact h
  have h2 : s2 (s2 σ 31 E x1) 32 E x2 30 0 = nI E := by rw [e_s2n _ _ _ (by omega)]; exact h1
  have h3 : s2 (s2 (s2 σ 31 E x1) 32 E x2) 33 E x3 30 0 = nI E := by rw [e_s2n _ _ _ (by omega)]; exact h2
  rw [u_fX2_add, u_fX2_add_0, h, e_in hE (by omega), e_cl (by omega), e_bnd, h1, e_in hE (by omega), e_cl (by omega), e_bnd, h2, e_in hE (by omega), e_cl (by omega), e_bnd, h3, nI_add, e_bnd]
theorem k_e116 {E : Nat} {x1 x2 x3 : Int32} (hE : E < 8) (h : σ 30 0 = nI E) (h2 : σ 36 2 = NO) : fX9_tellEvent_116 x1 x2 x3 σ = some (s2 (s2 (s2 (s2 σ 31 E x1) 32 E x2) 33 E x3) 30 0 (nI (E + 1))) := by
  rw [u_fX9_tellEvent_116, cnd_pos h2, k_eadd hE h, e_obr, e_bnd]
  congr 1
  funext q
  show (if q < 36 then _ else _) = _
  by_cases hq : q < 36
  · rw [if_pos hq]
  · rw [if_neg hq, e_s2n _ _ _ (by omega), e_s2n _ _ _ (by omega), e_s2n _ _ _ (by omega), e_s2n _ _ _ (by omega)]
theorem k_e116f {t : Nat} {x1 x2 x3 : Int32} (ht : t ≤ 400) (h2 : σ 36 2 = nI t) : fX9_tellEvent_116 x1 x2 x3 σ = some σ := by
  rw [u_fX9_tellEvent_116, cnd_neg (by rw [h2]; exact NO_ne (by omega))]
/-- an event more, on both sides -/
theorem t_evf {E B n : Nat} {Q : Qs} {σ1 μ' : Sg} {p' : Nat} {x1 x3 : Int32} {k : Option Sg} {m : Option (Int32 × Sg)} (hR : R0 True 0 pl N G M T B Q Dl σ (μ 1)) (hI : rI N (fun _ _ => 0) Q σ) (hd : dF True μ) (hE : E < 8) (z30 : σ 30 0 = nI E) (hk : k = fX9_tellEvent_116 x1 (nI n) x3 σ1) (hm : m = some (nI 1, μ')) (t1 : tp L p' σ1 μ') (t2 : σ1 36 2 = NO) (kq : kQ σ σ1) (kn : kR1 μ μ')
    (w7 : μ' 1 7 = nI (E + 1)) (fw : ∀ i, i ≠ 7 → (∀ w, w < 4 → i ≠ pE E w) → μ' 1 i = μ 1 i) (hn : n < N) (w0 : μ' 1 (pE E 0) = x1) (w2 : μ' 1 (pE E 2) = nI n) (w3 : (x3 = NO ∧ μ' 1 (pE E 1) = nI 1 ∧ μ' 1 (pE E 3) = NO) ∨ ∃ g, g < G ∧ x3 = nI g ∧ μ' 1 (pE E 1) = nI 0 ∧ μ' 1 (pE E 3) = nI g) : tOut L pl M T Dl σ μ k m := by
  have hll := RR_len (u := μ) hR hI
  have z1 : σ1 30 0 = nI E := by rw [kq 30 (by omega)]; exact z30
  rw [k_e116 hE z1 t2] at hk
  have c31 : s2 (s2 (s2 (s2 σ1 31 E x1) 32 E (nI n)) 33 E x3) 30 0 (nI (E + 1)) 31 = upd (σ 31) E x1 := by rw [e_s2n _ _ _ (by omega), e_s2n _ _ _ (by omega), e_s2n _ _ _ (by omega), e_s2, kq 31 (by omega)]
  have c32 : s2 (s2 (s2 (s2 σ1 31 E x1) 32 E (nI n)) 33 E x3) 30 0 (nI (E + 1)) 32 = upd (σ 32) E (nI n) := by rw [e_s2n _ _ _ (by omega), e_s2n _ _ _ (by omega), e_s2, e_s2n _ _ _ (by omega), kq 32 (by omega)]
  have c33 : s2 (s2 (s2 (s2 σ1 31 E x1) 32 E (nI n)) 33 E x3) 30 0 (nI (E + 1)) 33 = upd (σ 33) E x3 := by rw [e_s2n _ _ _ (by omega), e_s2, e_s2n _ _ _ (by omega), e_s2n _ _ _ (by omega), kq 33 (by omega)]
  have c30 : s2 (s2 (s2 (s2 σ1 31 E x1) 32 E (nI n)) 33 E x3) 30 0 (nI (E + 1)) 30 0 = nI (E + 1) := by rw [e_s2, pk_us]
  have cq : ∀ q, q ≠ 30 → q ≠ 31 → q ≠ 32 → q ≠ 33 → s2 (s2 (s2 (s2 σ1 31 E x1) 32 E (nI n)) 33 E x3) 30 0 (nI (E + 1)) q = σ1 q := fun q h0 h1 h2 h3 => by rw [e_s2n _ _ _ h0, e_s2n _ _ _ h3, e_s2n _ _ _ h2, e_s2n _ _ _ h1]
  generalize s2 (s2 (s2 (s2 σ1 31 E x1) 32 E (nI n)) 33 E x3) 30 0 (nI (E + 1)) = τ at hk c31 c32 c33 c30 cq
  have cs : ∀ q, q ≠ 30 → q ≠ 31 → q ≠ 32 → q ≠ 33 → q ≠ 36 → τ q = σ q := fun q h0 h1 h2 h3 h6 => by rw [cq q h0 h1 h2 h3, kq q h6]
  let τ' : Sg := fun q => if q = 36 then σ 36 else τ q
  have ce : ∀ q, q ≠ 36 → τ' q = τ q := fun q hq => if_neg hq
  have r1 := R0_evt (σ := σ) (σ' := τ') (ω' := μ' 1) hE z30 (fun q hq => by
    by_cases e : q = 36
    · subst e; exact if_pos rfl
    · rw [ce q e]
      exact cs q (fun e' => hq (by rw [e']; decide)) (fun e' => hq (by rw [e']; decide)) (fun e' => hq (by rw [e']; decide)) (fun e' => hq (by rw [e']; decide)) e) (by rw [ce 30 (by omega)]; exact c30) (fun k hk => by rw [ce 31 (by omega), ce 32 (by omega), ce 33 (by omega), c31, c32, c33, pk_un (by omega), pk_un (by omega), pk_un (by omega)]; exact ⟨rfl, rfl, rfl⟩) (by rw [ce 31 (by omega), c31, pk_us, w0]) ⟨n, hn, by rw [ce 32 (by omega), c32, pk_us], w2⟩ (by rw [ce 33 (by omega), c33, pk_us]; exact w3) w7 fw hR hll
  refine tO_s1 (σ1 := σ1) hk hm t1 t2 kq kn (fun q hq => cq q (by omega) (by omega) (by omega) (by omega)) (by rw [cq 0 (by omega) (by omega) (by omega) (by omega)]) (by rw [cq 0 (by omega) (by omega) (by omega) (by omega)]) (R0_cg (fun q hq => (ce q (by omega)).symm) r1) ?_ hd
  exact rI_c hI (cs 15 (by omega) (by omega) (by omega) (by omega) (by omega)) (cs 2 (by omega) (by omega) (by omega) (by omega) (by omega)) (cs 27 (by omega) (by omega) (by omega) (by omega) (by omega))
theorem t_ev83 {E B k p' : Nat} {Q : Qs} {σb μb : Sg} {c : Bool} (hR : R0 True 0 pl N G M T B Q Dl σ (μ 1)) (hI : rI N (fun _ _ => 0) Q σ) (hd : dF True μ) (hE : E < 8) (z30 : σ 30 0 = nI E) (y7 : μ 1 7 = nI E) (kq : kQ σ σb) (kn : kR1 μ μb) (ht : tp L p' σb μb) (h2 : σb 36 2 = NO) (hrow : μb 1 = upd (μ 1) (pE E 0) (nI k)) : tOut L pl M T Dl σ μ (fX9_tellEvent_83 (nI k) (b2 c) σb) (fX12_readEvent_77 (nI (pE E 0)) (b2 c) μb) := by
  have h6 := hR.1.1.1
  have hG6 := hR.1.1.2.1
  have z0 : σb 0 0 = nI N := by rw [kq 0 (by omega)]; exact hR.1.2.1.1
  have y0 := hR.1.2.1.2
  have y1 := hR.1.2.2.1.2
  have hp1 : nI (pE E 0) + nI 1 = nI (pE E 1) := by rw [nI_add]; rfl
  have hp2 : nI (pE E 0) + nI 2 = nI (pE E 2) := by rw [nI_add]; rfl
  have hp3 : nI (pE E 0) + nI 3 = nI (pE E 3) := by rw [nI_add]; rfl
  have l1 : pE E 1 < 32243 := by unfold pE; omega
  have l2 : pE E 2 < 32243 := by unfold pE; omega
  have l3 : pE E 3 < 32243 := by unfold pE; omega
  have m77 : fX12_readEvent_77 (nI (pE E 0)) (b2 c) μb = fX12_readEvent_93 (nI (pE E 0)) (b2 c) (b2 !c) (nI (pE E 1)) μb := by
    rw [u_fX12_readEvent_77, hp1]
    cases c
    · rw [e_b2F rfl]; rfl
    · rw [e_b2T rfl]; rfl
  have rc : s2 (s2 μb 1 (pE E 1) (b2 !c)) 1 (pE E 3) NO 1 = upd (upd (upd (μ 1) (pE E 0) (nI k)) (pE E 1) (b2 !c)) (pE E 3) NO := by rw [e_s2, e_s2, hrow]
  have knc : kR1 μ (s2 (s2 μb 1 (pE E 1) (b2 !c)) 1 (pE E 3) NO) := kR1_tr kn (kR1_tr kR1_s kR1_s)
  have tpc : tp L p' σb (s2 (s2 μb 1 (pE E 1) (b2 !c)) 1 (pE E 3) NO) := tp_row (tp_row ht)
  have m93 : fX12_readEvent_93 (nI (pE E 0)) (b2 c) (b2 !c) (nI (pE E 1)) μb = obr (fX12_nodes (s2 (s2 μb 1 (pE E 1) (b2 !c)) 1 (pE E 3) NO)) (fun r19 => obd (fX12_readTo (nI (pE E 2)) (nI 0) (r19 - (nI 1)) (s2 (s2 μb 1 (pE E 1) (b2 !c)) 1 (pE E 3) NO)) (fun r21 u22 => cnd (r21 = (nI 0)) (some ((nI 0), u22)) (cnd (b2 c = (nI 0)) (fX12_readEvent_145 u22) (obd (fX12_readTo (nI (pE E 3)) (nI 0) ((u22 1 1) - (nI 1)) u22) (fun r27 u28 => cnd (r27 = (nI 0)) (some ((nI 0), u28)) (fX12_readEvent_145 u28)))))) := by
    rw [u_fX12_readEvent_93, e_in l1 (by omega), e_cl (by omega), e_bnd, hp3, hp2, e_in l3 (by omega), e_cl (by omega), e_bnd]
  generalize s2 (s2 μb 1 (pE E 1) (b2 !c)) 1 (pE E 3) NO = μc at rc knc tpc m93
  have mz : fX12_nodes μc = some (nI N) := by
    rw [m_nds, rc]
    simp (disch := first | omega | (simp only [pN, pP, pM, pE, pL, pC, pK, sp]; omega)) only [e_s2, e_s2n, pk_us, pk_un]
    rw [y0]
  rw [mz, e_obr] at m93
  rw [m77, m93]
  rcases s_to1 (i := pE E 2) (N := N) l2 (by omega) tpc h2 with ⟨n, p2, σ2, μ2, n1, a2, a3, a4, a5, a6, a7⟩ | ⟨p2, σ2, μ2, t2, a2, a3, a4, a5, a6, a7, a8, a9⟩
  · have r2 : s2 μ2 1 (pE E 2) (nI n) 1 = upd (upd (upd (upd (μ 1) (pE E 0) (nI k)) (pE E 1) (b2 !c)) (pE E 3) NO) (pE E 2) (nI n) := by rw [e_s2, a7.1 1 (by omega), rc]
    have kn2 : kR1 μ (s2 μ2 1 (pE E 2) (nI n)) := kR1_tr knc (kR1_tr (kR1_n a7) kR1_s)
    have tp2 : tp L p2 σ2 (s2 μ2 1 (pE E 2) (nI n)) := tp_row a4
    have kq2 := kQ_tr kq a6
    rw [a3, e_obd, e_eqF (by omega) (by omega) (by omega)]
    generalize s2 μ2 1 (pE E 2) (nI n) = μd at r2 kn2 tp2
    have g1 : μd 1 1 = nI G := by
      rw [r2]
      simp (disch := first | omega | (simp only [pN, pP, pM, pE, pL, pC, pK, sp]; omega)) only [e_s2, e_s2n, pk_us, pk_un]
      rw [y1]
    have g7 : μd 1 7 = nI E := by
      rw [r2]
      simp (disch := first | omega | (simp only [pN, pP, pM, pE, pL, pC, pK, sp]; omega)) only [e_s2, e_s2n, pk_us, pk_un]
      rw [y7]
    cases c with
    | false =>
      refine t_evf (E := E) (n := n) (x1 := nI k) (x3 := NO) (σ1 := σ2) (μ' := s2 μd 1 7 (nI (E + 1))) (p' := p2) hR hI hd hE z30 ?_ ?_ (tp_row tp2) a5 kq2 (kR1_tr kn2 kR1_s) (by rw [e_s2, pk_us]) (fun i hi hw => ?_) n1 ?_ ?_ (Or.inl ⟨rfl, ?_, ?_⟩)
      · rw [u_fX9_tellEvent_83, z0, a2, e_obd, e_b2F rfl]
      · rw [e_b2F rfl, u_fX12_readEvent_145, g7, nI_add, e_bnd]
      · rw [e_s2, pk_un hi, r2, pk_un (hw 2 (by omega)), pk_un (hw 3 (by omega)), pk_un (hw 1 (by omega)), pk_un (hw 0 (by omega))]
      · rw [e_s2, pk_un (by unfold pE; omega), r2]; simp (disch := first | omega | (simp only [pN, pP, pM, pE, pL, pC, pK, sp]; omega)) only [e_s2, e_s2n, pk_us, pk_un]
      · rw [e_s2, pk_un (by unfold pE; omega), r2]; simp (disch := first | omega | (simp only [pN, pP, pM, pE, pL, pC, pK, sp]; omega)) only [e_s2, e_s2n, pk_us, pk_un]
      · rw [e_s2, pk_un (by unfold pE; omega), r2]; simp (disch := first | omega | (simp only [pN, pP, pM, pE, pL, pC, pK, sp]; omega)) only [e_s2, e_s2n, pk_us, pk_un]; rfl
      · rw [e_s2, pk_un (by unfold pE; omega), r2]; simp (disch := first | omega | (simp only [pN, pP, pM, pE, pL, pC, pK, sp]; omega)) only [e_s2, e_s2n, pk_us, pk_un]
    | true =>
      have z1 : σ2 0 1 = nI G := by rw [kq2 0 (by omega)]; exact hR.1.2.2.1.1
      rcases s_to1 (i := pE E 3) (N := G) l3 (by omega) tp2 a5 with ⟨g, p3, σ3, μ3, b1, b2', b3, b4, b5, b6, b7⟩ | ⟨p3, σ3, μ3, t3, b2', b3, b4, b5, b6, b7, b8, b9⟩
      · have r3 : s2 μ3 1 (pE E 3) (nI g) 1 = upd (upd (upd (upd (upd (μ 1) (pE E 0) (nI k)) (pE E 1) (b2 !true)) (pE E 3) NO) (pE E 2) (nI n)) (pE E 3) (nI g) := by rw [e_s2, b7.1 1 (by omega), r2]
        have kn3 : kR1 μ (s2 μ3 1 (pE E 3) (nI g)) := kR1_tr kn2 (kR1_tr (kR1_n b7) kR1_s)
        have tp3 : tp L p3 σ3 (s2 μ3 1 (pE E 3) (nI g)) := tp_row b4
        rw [e_b2T rfl, g1, b3, e_obd, e_eqF (by omega) (by omega) (by omega)]
        generalize s2 μ3 1 (pE E 3) (nI g) = μe at r3 kn3 tp3
        have e7 : μe 1 7 = nI E := by
          rw [r3]
          simp (disch := first | omega | (simp only [pN, pP, pM, pE, pL, pC, pK, sp]; omega)) only [e_s2, e_s2n, pk_us, pk_un]
          rw [y7]
        refine t_evf (E := E) (n := n) (x1 := nI k) (x3 := nI g) (σ1 := σ3) (μ' := s2 μe 1 7 (nI (E + 1))) (p' := p3) hR hI hd hE z30 ?_ ?_ (tp_row tp3) b5 (kQ_tr kq2 b6) (kR1_tr kn3 kR1_s) (by rw [e_s2, pk_us]) (fun i hi hw => ?_) n1 ?_ ?_ (Or.inr ⟨g, b1, rfl, ?_, ?_⟩)
        · rw [u_fX9_tellEvent_83, z0, a2, e_obd, e_b2T rfl, z1, b2', e_obd]
        · rw [u_fX12_readEvent_145, e7, nI_add, e_bnd]
        · rw [e_s2, pk_un hi, r3, pk_un (hw 3 (by omega)), pk_un (hw 2 (by omega)), pk_un (hw 3 (by omega)), pk_un (hw 1 (by omega)), pk_un (hw 0 (by omega))]
        · rw [e_s2, pk_un (by unfold pE; omega), r3]; simp (disch := first | omega | (simp only [pN, pP, pM, pE, pL, pC, pK, sp]; omega)) only [e_s2, e_s2n, pk_us, pk_un]
        · rw [e_s2, pk_un (by unfold pE; omega), r3]; simp (disch := first | omega | (simp only [pN, pP, pM, pE, pL, pC, pK, sp]; omega)) only [e_s2, e_s2n, pk_us, pk_un]
        · rw [e_s2, pk_un (by unfold pE; omega), r3]; simp (disch := first | omega | (simp only [pN, pP, pM, pE, pL, pC, pK, sp]; omega)) only [e_s2, e_s2n, pk_us, pk_un]; rfl
        · rw [e_s2, pk_un (by unfold pE; omega), r3]; simp (disch := first | omega | (simp only [pN, pP, pM, pE, pL, pC, pK, sp]; omega)) only [e_s2, e_s2n, pk_us, pk_un]
      · refine tO_f1 (σ' := σ3) (μ' := μ3) (p' := p3) (t := t3) ?_ ?_ b4 b5 b6 b9 (kQ_tr kq2 b7) (kR1_tr kn2 (kR1_n b8))
        · rw [u_fX9_tellEvent_83, z0, a2, e_obd, e_b2T rfl, z1, b2', e_obd, k_e116f b9 b5]
        · rw [e_b2T rfl, g1, b3, e_obd, e_eqT rfl]
  · refine tO_f1 (σ' := σ2) (μ' := μ2) (p' := p2) (t := t2) ?_ ?_ a4 a5 a6 a9 (kQ_tr kq a7) (kR1_tr knc (kR1_n a8))
    · rw [u_fX9_tellEvent_83, z0, a2, e_obd]
      cases c with
      | false => rw [e_b2F rfl, k_e116f a9 a5]
      | true => rw [e_b2T rfl, k_stuck (t := t2) (by omega) a5, e_obd, k_e116f a9 a5]
    · rw [a3, e_obd, e_eqT rfl]
theorem t_evt {t : Nat} (h : rdR L p pl N G M T Dl σ μ) (h10 : μ 0 10 = nI t) (ht4 : t ≤ 400) : tOut L pl M T Dl σ μ (fX9_tellEvent (nI t) σ) (fX12_readEvent μ) := by
  obtain ⟨ht, h2, Q, B, hR, hI, hd⟩ := h
  obtain ⟨E, e1, e2, e3, -⟩ := hR.2.2.2.2.2.1
  have hT := hR.1.1.2.2.2
  have z3 : σ 0 3 = nI T := hR.1.2.2.2.2.1.1
  have y4 : μ 1 4 = nI T := hR.1.2.2.2.2.1.2
  by_cases hE : E < 8
  · have l0 : pE E 0 < 32243 := by unfold pE; omega
    have hv : nI 1587 + nI 4 * nI E = nI (pE E 0) := by rw [pk_mul, nI_add]; rfl
    have hv0 : nI (pE E 0) + nI 0 = nI (pE E 0) := by rw [nI_add]; rfl
    rcases s_evn (i := pE E 0) (T := T) l0 hT ht h2 with ⟨k, p1, σ1, μ1, hk, a2, a3, a4, a5, a6, a7⟩ | ⟨p1, σ1, μ1, t1, a2, a3, a4, a5, a6, a7, a8, a9⟩
    · obtain ⟨t2, p2, σa, σb, μb, b1, b2', b3, b4, b5, b6, b7, b8, b9, b10, b11, b12, b13⟩ := s_let (tp_row (i := pE E 0) (x := nI k) a4)
      obtain ⟨c6, d1, d2⟩ := s_word (w := 6) b5 b6 b7 (by omega)
      obtain ⟨c7, d3, d4⟩ := s_word (w := 7) b5 b6 b7 (by omega)
      have kq : kQ σ σb := kQ_tr a6 b10
      have kn : kR1 μ μb := kR1_tr (kR1_n a7) (kR1_tr kR1_s (kR1_n b11))
      have hrow : μb 1 = upd (μ 1) (pE E 0) (nI k) := by rw [b11.1 1 (by omega), e_s2, a7.1 1 (by omega)]
      have n2 : σb 36 2 = NO := by rw [b13]; exact a5
      have X := t_ev83 (E := E) (k := k) (c := c6) hR hI hd hE e2 e3 kq kn b5 n2 hrow
      have K : fX9_tellEvent (nI t) σ = cnd (b2 c6 = nI 0) (cnd (b2 c7 = nI 0) (some (s2 σb 36 2 (nI t2))) (fX9_tellEvent_83 (nI k) (b2 c6) σb)) (fX9_tellEvent_83 (nI k) (b2 c6) σb) := by
        rw [u_fX9_tellEvent, u_fX9_tellEvent_0, e2, e_ltT hE (by omega), z3, a2, e_obd, e_NOF (by omega), b1, e_obr, b2', e_bnd, b3, e_obr, d1, e_obr, d3, e_obr, e_bnd]
      have Mo : fX12_readEvent μ = cnd (b2 c6 = nI 0) (cnd (b2 c7 = nI 0) (some (nI 0, μb)) (fX12_readEvent_77 (nI (pE E 0)) (b2 c6) μb)) (fX12_readEvent_77 (nI (pE E 0)) (b2 c6) μb) := by
        rw [u_fX12_readEvent, u_fX12_readEvent_0, e3, e_bnd, e_eqF (by omega) (by omega) (by omega), hv, e_bnd, hv0, y4, a3, e_obd, e_eqF (by omega) (by omega) (by omega), b4, e_obr, d2, e_obr, d4, e_obr]
      rw [K, Mo]
      cases c6 with
      | true => rw [e_b2T rfl, e_b2T rfl]; exact X
      | false =>
        rw [e_b2F rfl, e_b2F rfl]
        cases c7 with
        | true => rw [e_b2T rfl, e_b2T rfl]; exact X
        | false =>
          rw [e_b2F rfl, e_b2F rfl]
          exact tO_f1 (t := t2) rfl rfl (tp_flt b5) (by rw [e_s2, pk_us]) b6 b8 (kQ_tr kq (fun q hq => e_s2n _ _ _ hq)) kn
    · refine tO_f1 (σ' := σ1) (μ' := μ1) (t := t1) ?_ ?_ a4 a5 a6 a9 a7 (kR1_n a8)
      · rw [u_fX9_tellEvent, u_fX9_tellEvent_0, e2, e_ltT hE (by omega), z3, a2, e_obd, e_NOT]
      · rw [u_fX12_readEvent, u_fX12_readEvent_0, e3, e_bnd, e_eqF (by omega) (by omega) (by omega), hv, e_bnd, hv0, y4, a3, e_obd, e_eqT rfl]
  · have : E = 8 := by omega
    subst this
    refine tO_f1 (σ' := s2 σ 36 2 (nI t)) (μ' := μ) (t := t) ?_ ?_ (tp_flt ht) (by rw [e_s2, pk_us]) h10 ht4 (fun q hq => e_s2n _ _ _ hq) ⟨fun _ _ _ => rfl, fun _ _ _ => rfl⟩
    · rw [u_fX9_tellEvent, u_fX9_tellEvent_0, e2, e_ltF (by omega) (by omega), e_bnd]
    · rw [u_fX12_readEvent, u_fX12_readEvent_0, e3, e_bnd, e_eqT rfl]
end L6
