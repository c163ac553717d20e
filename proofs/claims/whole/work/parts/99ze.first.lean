/-! the start: both sides new -/
theorem u_init116 (K : Int32 → Sg → Option Sg) (n : Nat) (x1 x2 : Int32) (u : Sg) : fX12_init_116 K (n + 1) x1 x2 u = cnd (nI 6 ≤ x2) (bnd (x1 + nI 1) (fun v5 => K v5 u)) (grd (vp_in (fX12_channelAt x1 x2 (nI 0)) 32243) (bnd (s2 u 1 (((fX12_channelAt x1 x2 (nI 0)) : Int32).toNatClampNeg) (nI 1)) (fun u7 => bnd (x2 + nI 1) (fun v8 => fX12_init_116 K n x1 v8 u7)))) := rfl
theorem u_init108 (n : Nat) (x1 : Int32) (u : Sg) : fX12_init_108 (n + 1) x1 u = cnd (nI 6 ≤ x1) (some u) (fX12_init_116 (fun a0 w => fX12_init_108 n a0 w) FU x1 (nI 0) u) := rfl
theorem u_init90 (u : Sg) : fX12_init_90 u = fX12_init_108 FU (nI 0) (s2 (s2 u 1 6 (nI 3)) 1 8 (nI 1)) := rfl
theorem i_116 {K : Int32 → Sg → Option Sg} {a : Nat} (ha : a < 6) : ∀ (r b f : Nat) (u : Sg), b + r = 6 → r < f → ∃ u', fX12_init_116 K f (nI a) (nI b) u = K (nI (a + 1)) u' ∧ (∀ q, q ≠ 1 → u' q = u q) ∧ (∀ i, (∀ b', b ≤ b' → b' < 6 → i ≠ pC (6 * a + b') 0) → u' 1 i = u 1 i) ∧ ∀ b', b ≤ b' → b' < 6 → u' 1 (pC (6 * a + b') 0) = nI 1 := by
  intro r
  induction r with
  | zero =>
    intro b f u hb hf
    obtain ⟨f, rfl⟩ : ∃ g, f = g + 1 := ⟨f - 1, by omega⟩
    refine ⟨u, ?_, fun _ _ => rfl, fun _ _ => rfl, fun b' h1 h2 => by omega⟩
    rw [u_init116, cnd_pos (nI_le (by omega) (by omega)), nI_add, e_bnd]
  | succ r ih =>
    intro b f u hb hf
    obtain ⟨f, rfl⟩ : ∃ g, f = g + 1 := ⟨f - 1, by omega⟩
    obtain ⟨u', e1, e2, e3, e4⟩ := ih (b + 1) f (s2 u 1 (pC (6 * a + b) 0) (nI 1)) (by omega) (by omega)
    have hp : pC (6 * a + b) 0 < 32243 := by unfold pC; omega
    refine ⟨u', ?_, fun q hq => by rw [e2 q hq, e_s2n _ _ _ hq], fun i hi => ?_, fun b' h1 h2 => ?_⟩
    · rw [← e1, u_init116, cnd_neg (nI_ge (by omega) (by omega)), m_chan, e_in hp (by omega), e_cl (by omega), e_bnd, nI_add, e_bnd]
    · rw [e3 i (fun b' h1 h2 => hi b' (by omega) h2), e_s2, pk_un (hi b (by omega) (by omega))]
    · by_cases e : b' = b
      · subst e
        rw [e3 _ (fun b'' h3 h4 => by unfold pC; omega), e_s2, pk_us]
      · exact e4 b' (by omega) h2
theorem i_108 : ∀ (r a f : Nat) (u : Sg), a + r = 6 → r < f → ∃ u', fX12_init_108 f (nI a) u = some u' ∧ (∀ q, q ≠ 1 → u' q = u q) ∧ (∀ i, (∀ x, 6 * a ≤ x → x < 36 → i ≠ pC x 0) → u' 1 i = u 1 i) ∧ ∀ x, 6 * a ≤ x → x < 36 → u' 1 (pC x 0) = nI 1 := by
  intro r
  induction r with
  | zero =>
    intro a f u ha hf
    obtain ⟨f, rfl⟩ : ∃ g, f = g + 1 := ⟨f - 1, by omega⟩
    refine ⟨u, ?_, fun _ _ => rfl, fun _ _ => rfl, fun x h1 h2 => by omega⟩
    rw [u_init108, cnd_pos (nI_le (by omega) (by omega))]
  | succ r ih =>
    intro a f u ha hf
    obtain ⟨f, rfl⟩ : ∃ g, f = g + 1 := ⟨f - 1, by omega⟩
    obtain ⟨fu, hfu⟩ : ∃ f, FU = f + 9 := ⟨99991, rfl⟩
    obtain ⟨v, d1, d2, d3, d4⟩ := i_116 (K := fun a0 w => fX12_init_108 f a0 w) (a := a) (by omega) 6 0 FU u (by omega) (by omega)
    obtain ⟨u', e1, e2, e3, e4⟩ := ih (a + 1) f v (by omega) (by omega)
    refine ⟨u', ?_, fun q hq => by rw [e2 q hq, d2 q hq], fun i hi => ?_, fun x h1 h2 => ?_⟩
    · rw [← e1, u_init108, cnd_neg (nI_ge (by omega) (by omega)), d1]
    · rw [e3 i (fun x h1 h2 => hi x (by omega) h2), d3 i (fun b' h1 h2 => hi _ (by omega) (by omega))]
    · by_cases e : x < 6 * (a + 1)
      · have hx : x = 6 * a + (x - 6 * a) := by omega
        rw [e3 _ (fun y h3 h4 => by unfold pC; omega), hx]
        exact d4 (x - 6 * a) (by omega) (by omega)
      · exact e4 x (by omega) h2
theorem i_mod : ∃ σ', fX12_init_90 m0 = some σ' ∧ (∀ q, q ≠ 1 → σ' q = m0 q) ∧ σ' 1 6 = nI 3 ∧ σ' 1 8 = nI 1 ∧ (∀ x, x < 36 → σ' 1 (pC x 0) = nI 1) ∧ ∀ i, i ≠ 6 → i ≠ 8 → (∀ x, x < 36 → i ≠ pC x 0) → σ' 1 i = nI 0 := by
  obtain ⟨fu, hfu⟩ : ∃ f, FU = f + 9 := ⟨99991, rfl⟩
  obtain ⟨u', e1, e2, e3, e4⟩ := i_108 6 0 FU (s2 (s2 m0 1 6 (nI 3)) 1 8 (nI 1)) (by omega) (by omega)
  refine ⟨u', by rw [u_init90, e1], fun q hq => by rw [e2 q hq, e_s2n _ _ _ hq, e_s2n _ _ _ hq], ?_, ?_, fun x hx => e4 x (by omega) hx, fun i h6 h8 hi => ?_⟩
  · rw [e3 6 (fun x _ _ => by unfold pC; omega), e_s2, pk_un (by omega), e_s2, pk_us]
  · rw [e3 8 (fun x _ _ => by unfold pC; omega), e_s2, pk_us]
  · rw [e3 i (fun x _ hx => hi x hx), e_s2, pk_un h8, e_s2, pk_un h6]; rfl
def Dl0 : Nat → List Nat := fun _ => []
def Q00 : Qs := fun _ => []
theorem fl_in {n k : Nat} {x : Int32} (h : k < n) : fl_ n x k = x := if_pos h
theorem fl_NO {n k : Nat} (h : k < n) : fl_ n (-1) k = NO := if_pos h
theorem nz0 : (0 : Int32) = nI 0 := rfl
theorem R0_first {μ : Sg} (w6 : μ 1 6 = nI 3) (w8 : μ 1 8 = nI 1) (wC : ∀ x, x < 36 → μ 1 (pC x 0) = nI 1) (wz : ∀ i, i ≠ 6 → i ≠ 8 → (∀ x, x < 36 → i ≠ pC x 0) → μ 1 i = nI 0) : R0 True 0 384 0 0 0 0 0 Q00 Dl0 xInit (μ 1) := by
  have wl : ∀ i, i ≠ 6 → i ≠ 8 → i < 1859 → μ 1 i = nI 0 := fun i a b h => wz i a b (fun x _ => by unfold pC; omega)
  have wc : ∀ c w, c < 36 → 1 ≤ w → w < 844 → μ 1 (pC c w) = nI 0 := fun c w hc h1 h2 => wz _ (by unfold pC; omega) (by unfold pC; omega) (fun x _ => by unfold pC; omega)
  have n0 : num (0 : Int32) = nI 0 := num_v (a := 0) (b := 0) (by omega) (by omega)
  have d0 : nod (0 : Int32) = nI 0 := nod_v (a := 0) (b := 0) (by omega) (by omega)
  refine ⟨?_, ?_, ?_, ?_, ?_, ?_, ?_, ?_, ?_, ?_, Nat.zero_le _⟩
  · refine ⟨⟨by omega, by omega, by omega, by omega⟩, ⟨rfl, wl 0 (by omega) (by omega) (by omega)⟩, ⟨rfl, wl 1 (by omega) (by omega) (by omega)⟩, ⟨rfl, wl 3 (by omega) (by omega) (by omega)⟩, ⟨rfl, wl 4 (by omega) (by omega) (by omega)⟩, ⟨0, by omega, rfl, wl 2 (by omega) (by omega) (by omega)⟩, by rw [w8]; rfl, ⟨3, by omega, rfl, w6⟩, ⟨0, by omega, rfl, fun _ => wl 5 (by omega) (by omega) (by omega), fun _ => rfl⟩, by rw [wl 10 (by omega) (by omega) (by omega)]; rfl, fun g hg => by rw [wl (11 + g) (by omega) (by omega) (by omega)]; rfl, fun g hg => by omega⟩
  · intro n hn
    refine ⟨fun h => by omega, fun _ => ⟨fl_NO hn, wl _ (by unfold pN; omega) (by unfold pN; omega) (by unfold pN; omega)⟩, ⟨0, by omega, rfl, wl _ (by unfold pN; omega) (by unfold pN; omega) (by unfold pN; omega)⟩, ?_⟩
    rw [wl (pN n 3) (by unfold pN; omega) (by unfold pN; omega) (by unfold pN; omega)]; rfl
  · intro n m hn hm
    have wp : ∀ w, w < 11 → μ 1 (pP n m w) = nI 0 := fun w hw => wl _ (by unfold pP; omega) (by unfold pP; omega) (by unfold pP; omega)
    refine ⟨⟨0, by omega, rfl, wp 0 (by omega), fun h => absurd rfl h, fun h => by omega⟩, ⟨⟨0, 0, by omega, by omega, rfl⟩, ?_, ?_⟩, ?_, Or.inl ⟨fl_NO (by unfold sp; omega), wp 5 (by omega)⟩⟩
    · rw [wp 1 (by omega)]; exact n0.symm
    · rw [wp 2 (by omega)]; exact d0.symm
    · rw [wp 3 (by omega)]; rfl
  · intro n hn
    refine ⟨List.nodup_nil, fun m => ⟨fun h => absurd h List.not_mem_nil, fun h => absurd h.2 (by show ¬ (0 : Int32) = nI 3; decide)⟩, rfl, wl _ (by unfold pN; omega) (by unfold pN; omega) (by unfold pN; omega), fun k m hk => by cases hk⟩
  · intro m hm
    have wp : ∀ w, w < 5 → μ 1 (pM m w) = nI 0 := fun w hw => wl _ (by unfold pM; omega) (by unfold pM; omega) (by unfold pM; omega)
    rw [wp 0 (by omega), wp 1 (by omega), wp 2 (by omega), wp 3 (by omega), wp 4 (by omega)]
    exact ⟨⟨rfl, rfl, rfl, rfl, rfl⟩, fun h => by omega, fun _ => ⟨rfl, rfl⟩⟩
  · exact ⟨0, by omega, rfl, wl 7 (by omega) (by omega) (by omega), fun k hk => by omega⟩
  · exact ⟨0, 0, by omega, by omega, rfl, rfl, fun _ => ⟨wl 9 (by omega) (by omega) (by omega), fun a w ha => by omega⟩⟩
  · intro c hc
    refine ⟨⟨1, by omega, by omega, fl_in hc, wC c hc⟩, ⟨0, by omega, rfl, wc c 1 hc (by omega) (by omega)⟩, ?_, wc c 2 hc (by omega) (by omega), fun k p hk => by cases hk⟩
    rw [wc c 3 hc (by omega) (by omega)]; rfl
  · exact fun a b ha hb => ⟨fun p hp => (by cases hp), fun _ => rfl⟩
  · refine ⟨fun _ => [], [], 0, rfl, by omega, by omega, ⟨0, rfl⟩, ?_, List.nodup_nil, fun i hi => (by cases hi), rfl, fun c hc => ⟨List.nodup_nil, fun i hi => (by cases hi), fl_NO hc, fl_NO hc, rfl, trivial⟩⟩
    have e : sumL (fun c => ((fun _ => ([] : List Nat)) c).length) 36 = 0 := sumL_0 (fun _ _ => rfl)
    rw [e]; rfl
theorem Inv_first {μ : Sg} (hq : ∀ q, q ≠ 1 → μ q = m0 q) (w6 : μ 1 6 = nI 3) (w8 : μ 1 8 = nI 1) (wC : ∀ x, x < 36 → μ 1 (pC x 0) = nI 1) (wz : ∀ i, i ≠ 6 → i ≠ 8 → (∀ x, x < 36 → i ≠ pC x 0) → μ 1 i = nI 0) : InvL 0 (384, 384, 384, xInit, nInit, nInit) μ := by
  refine ⟨⟨⟨0, 0, 0, 0, Dl0, by omega, Q00, 0, R0_first w6 w8 wC wz, fun n x m hn => by omega, Or.inl ⟨trivial, ?_⟩⟩, Or.inl rfl⟩, ⟨0, by omega, rfl, ?_, fun j hj => ?_⟩, ?_, ⟨(by decide : 384 ≤ 50000), 0, rfl⟩, ⟨(by decide : 384 ≤ 50000), 0, rfl⟩, Or.inl ⟨rfl, ?_⟩⟩
  · rw [hq 0 (by omega)]; rfl
  · rw [hq 0 (by omega)]; rfl
  · rw [hq 5 (by omega)]; rfl
  · rw [hq 0 (by omega)]; rfl
  · rw [hq 0 (by omega)]; rfl
