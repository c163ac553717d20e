/-! what keeps the channels short, step by step -/
theorem oF_snoc {m : Nat} {p : Pk} : ∀ {l : List Pk}, oF m l → (p.2.2.1 = m → kF p.2.1 = true → cN m kR l = 0) → oF m (l ++ [p])
  | [], _, _ => ⟨fun _ => rfl, trivial⟩
  | q :: l, h, h2 => by
    have h3 : p.2.2.1 = m → kF p.2.1 = true → (¬ (q.2.2.1 = m ∧ kR q.2.1 = true)) ∧ cN m kR l = 0 := by
      intro a b
      have := h2 a b
      rw [cN_cons] at this
      by_cases c : q.2.2.1 = m ∧ kR q.2.1 = true
      · rw [if_pos c] at this; omega
      · rw [if_neg c] at this; exact ⟨c, by omega⟩
    refine ⟨fun hq => ?_, oF_snoc h.2 (fun a b => (h3 a b).2)⟩
    show cN m kF (l ++ [p]) = 0
    rw [cN_app, h.1 hq, cN_one]
    by_cases c : p.2.2.1 = m ∧ kF p.2.1 = true
    · exact absurd hq (h3 c.1 c.2).1
    · rw [if_neg c]
theorem kRA {k : Nat} (h : kR k = true) : kA k = false ∧ kF k = false := by
  unfold kR at h; unfold kA kF
  rcases (show k = 0 ∨ k = 3 by simpa using h) with rfl | rfl <;> exact ⟨rfl, rfl⟩
theorem kAR {k : Nat} (h : kA k = true) : kR k = false ∧ kF k = false := by
  unfold kA at h; unfold kR kF
  rcases (show k = 1 ∨ k = 4 by simpa using h) with rfl | rfl <;> exact ⟨rfl, rfl⟩
theorem kFR {k : Nat} (h : kF k = true) : kR k = false ∧ kA k = false := by
  unfold kF at h; unfold kR kA
  rcases (show k = 2 by simpa using h) with rfl; exact ⟨rfl, rfl⟩
theorem up_nt {σ : Sg} {x : Nat} (h : σ 2 x = NO) : ntB σ x = false := by unfold ntB; rw [decide_eq_true h]; rfl
section SH
variable {N T : Nat} {e e' : Nat → Nat → Nat} {Q Q' : Qs} {σ σ' τ : Sg}
theorem rI_mono (h : rI N e Q σ) (he : ∀ n m, e n m ≤ e' n m) : rI N e' Q σ := by
  intro n x m hn hx hm
  obtain ⟨a, b, c, d⟩ := h n x m hn hx hm
  have := he n m
  exact ⟨a, b, c, fun q => by have := d q; omega⟩
/-- the counts behind a packet for all -/
theorem dQ_cN {a k m : Nat} {st : Int32} (h : dQ N T a k m st 0 τ Q Q') (K : Nat → Bool) {n x m' : Nat} (hx : x < N) : cN m' K (Q' (6 * n + x)) = cN m' K (Q (6 * n + x)) + (if n = a ∧ m' = m ∧ K k = true ∧ (bt (τ 15 m) x && !ntB τ x) = true then 1 else 0) ∨ (6 ≤ x) ∨ 6 < N := by
  by_cases h6 : 6 < N
  · exact Or.inr (Or.inr h6)
  refine Or.inl ?_
  by_cases e : n = a
  · subst e
    obtain ⟨t, -, h2⟩ := h.1 x (by omega) hx
    rw [h2, cN_app]
    congr 1
    by_cases c : (bt (τ 15 m) x && !ntB τ x) = true
    · rw [if_pos c, cN_one]
      by_cases c2 : m = m' ∧ K k = true
      · rw [if_pos c2, if_pos ⟨rfl, c2.1.symm, c2.2, c⟩]
      · rw [if_neg c2, if_neg (fun z => c2 ⟨z.2.1.symm, z.2.2.1⟩)]
    · rw [if_neg c, cN_nil, if_neg (fun z => c z.2.2.2)]
  · rw [h.2 _ (fun y _ hy => by omega), if_neg (fun z => e z.1), Nat.add_zero]
theorem dQ_cN' {a k m : Nat} {st : Int32} (h : dQ N T a k m st 0 τ Q Q') (h6 : N ≤ 6) (K : Nat → Bool) (n : Nat) {x : Nat} (m' : Nat) (hx : x < N) : cN m' K (Q' (6 * n + x)) = cN m' K (Q (6 * n + x)) + (if n = a ∧ m' = m ∧ K k = true ∧ (bt (τ 15 m) x && !ntB τ x) = true then 1 else 0) := by
  rcases dQ_cN h K (n := n) (m' := m') hx with h | h | h
  · exact h
  · omega
  · omega
theorem dQ_oF {a k m : Nat} {st : Int32} (h : dQ N T a k m st 0 τ Q Q') (h6 : N ≤ 6) {n x m' : Nat} (hx : x < N) (ho : oF m' (Q (6 * n + x))) (hk : n = a → m' = m → kF k = true → (bt (τ 15 m) x && !ntB τ x) = true → cN m kR (Q (6 * n + x)) = 0) : oF m' (Q' (6 * n + x)) := by
  by_cases e : n = a
  · subst e
    obtain ⟨t, -, h2⟩ := h.1 x (by omega) hx
    rw [h2]
    by_cases c : (bt (τ 15 m) x && !ntB τ x) = true
    · rw [if_pos c]
      exact oF_snoc ho (fun z1 z2 => by have z1 : m = m' := z1; subst z1; exact hk rfl rfl z2 c)
    · rw [if_neg c, List.append_nil]; exact ho
  · rw [h.2 _ (fun y _ hy => by omega)]; exact ho
/-- a node asks all: a gather begins -/
theorem rI_ask {a k m : Nat} {st : Int32} (h : rI N e Q σ) (h6 : N ≤ 6) (hm : m < 20) (hk : kR k = true) (hoff : σ 27 (sp a m) = NO) (dq : dQ N T a k m st 0 τ Q Q') (t15 : τ 15 = σ 15) (tnt : ∀ x, ntB τ x = ntB σ x) (h15 : σ' 15 = σ 15) (h2 : σ' 2 = σ 2) (h27 : σ' 27 = upd (σ 27) (sp a m) (nI 0)) (he : ∀ n m, e n m ≤ e' n m) (hx : ∀ x, x < N → σ 2 x ≠ NO → cN m kR (Q (6 * a + x)) ≤ e' a m) : rI N e' Q' σ' := by
  intro n x m' hn hxN hm'
  obtain ⟨i1, i2, i3, i4⟩ := h n x m' hn hxN hm'
  have hA := dQ_cN' dq h6 kA x m' hn
  have hR := dQ_cN' dq h6 kR n m' hxN
  have hF := dQ_cN' dq h6 kF n m' hxN
  rw [if_neg (fun z => by have := (kRA hk).1; rw [z.2.2.1] at this; cases this), Nat.add_zero] at hA
  rw [if_neg (fun z => by have := (kRA hk).2; rw [z.2.2.1] at this; cases this), Nat.add_zero] at hF
  rw [h15, h2, h27, hA, hR, hF]
  rw [t15, tnt] at hR
  have hen := he n m'
  by_cases ea : n = a ∧ m' = m
  · obtain ⟨rfl, rfl⟩ := ea
    rw [pk_us, t15, tnt]
    have hb0 : bt (nI 0) x = false := b_n0 x
    refine ⟨i1, fun hto => ?_, fun hu => ?_, fun hd => ?_⟩
    · obtain ⟨z1, z2⟩ := i2 hto
      rw [z1, z2, if_neg (by rw [hto]; simp)]; exact ⟨rfl, rfl⟩
    · obtain ⟨o1, o2, o3, o4, o5⟩ := i3 hu
      have z := o4 (Or.inl hoff)
      refine ⟨dQ_oF dq h6 hxN o1 (fun _ _ z2 _ => by have := (kRA hk).2; rw [z2] at this; cases this), ?_, o3, fun q => ?_, fun _ hto hr => ?_⟩
      · split <;> omega
      · rcases q with q | q
        · exact absurd q (NO_ne (by omega))
        · rw [hb0] at q; cases q
      · rw [if_pos ⟨rfl, rfl, hk, by rw [hto, up_nt hu]; rfl⟩] at hr; omega
    · obtain ⟨o1, o2⟩ := i4 hd
      have := hx x hxN hd
      refine ⟨?_, by omega⟩
      split <;> omega
  · have hsp : sp n m' ≠ sp a m := fun q => ea (sp_inj hm' hm q)
    rw [if_neg (fun z => ea ⟨z.1, z.2.1⟩), Nat.add_zero, pk_un hsp]
    refine ⟨i1, i2, fun hu => ?_, fun hd => ?_⟩
    · obtain ⟨o1, o2, o3, o4, o5⟩ := i3 hu
      exact ⟨dQ_oF dq h6 hxN o1 (fun z1 z2 _ _ => absurd ⟨z1, z2⟩ ea), o2, o3, o4, o5⟩
    · obtain ⟨o1, o2⟩ := i4 hd; omega
/-- a full gather ends: the final stamp for all -/
theorem rI_final {a m : Nat} {st : Int32} (h : rI N e Q σ) (h6 : N ≤ 6) (ha : a < N) (hm : m < 20) (hon : σ 27 (sp a m) ≠ NO) (hfull : ∀ x, x < N → bt (σ 15 m) x = true → ntB σ x = false → bt (σ 27 (sp a m)) x = true) (dq : dQ N T a 2 m st 0 τ Q Q') (t15 : τ 15 = σ 15) (tnt : ∀ x, ntB τ x = ntB σ x) (h15 : σ' 15 = σ 15) (h2 : σ' 2 = σ 2) (h27 : σ' 27 = upd (σ 27) (sp a m) NO) (he : ∀ n m, e n m ≤ e' n m) (hx : e a m = 0) (hx' : 1 ≤ e' a m) : rI N e' Q' σ' := by
  intro n x m' hn hxN hm'
  obtain ⟨i1, i2, i3, i4⟩ := h n x m' hn hxN hm'
  have hA := dQ_cN' dq h6 kA x m' hn
  have hR := dQ_cN' dq h6 kR n m' hxN
  have hF := dQ_cN' dq h6 kF n m' hxN
  rw [if_neg (fun z => by cases z.2.2.1), Nat.add_zero] at hA hR
  rw [h15, h2, h27, hA, hR, hF, t15, tnt]
  have hen := he n m'
  by_cases ea : n = a ∧ m' = m
  · obtain ⟨rfl, rfl⟩ := ea
    rw [pk_us]
    refine ⟨i1, i2, fun hu => ?_, fun hd => ?_⟩
    · obtain ⟨o1, o2, o3, o4, o5⟩ := i3 hu
      have hnt := up_nt hu
      have z : cN m' kR (Q (6 * n + x)) + cN m' kA (Q (6 * x + n)) = 0 := by
        cases hto : bt (σ 15 m') x with
        | false => obtain ⟨z1, z2⟩ := i2 hto; omega
        | true => exact o4 (Or.inr (hfull x hxN hto hnt))
      refine ⟨dQ_oF dq h6 hxN o1 (fun _ _ _ _ => by omega), o2, ?_, fun _ => z, fun q => absurd rfl q⟩
      by_cases c : n = n ∧ m' = m' ∧ kF 2 = true ∧ (bt (σ 15 m') x && !ntB σ x) = true
      · rw [if_pos c]
        have hto : bt (σ 15 m') x = true := by
          have := c.2.2.2
          rw [Bool.and_eq_true] at this; exact this.1
        have := o5 hon hto (by omega)
        omega
      · rw [if_neg c]; omega
    · obtain ⟨o1, o2⟩ := i4 hd
      refine ⟨by omega, ?_⟩
      split <;> omega
  · have hsp : sp n m' ≠ sp a m := fun q => ea (sp_inj hm' hm q)
    rw [if_neg (fun z => ea ⟨z.1, z.2.1⟩), Nat.add_zero, pk_un hsp]
    refine ⟨i1, i2, fun hu => ?_, fun hd => ?_⟩
    · obtain ⟨o1, o2, o3, o4, o5⟩ := i3 hu
      exact ⟨dQ_oF dq h6 hxN o1 (fun z1 z2 _ _ => absurd ⟨z1, z2⟩ ea), o2, o3, o4, o5⟩
    · obtain ⟨o1, o2⟩ := i4 hd; omega
/-- a gather that ends without a stamp -/
theorem rI_cease {a m : Nat} (h : rI N e Q σ) (hm : m < 20) (hon : σ 27 (sp a m) ≠ NO) (hfull : ∀ x, x < N → bt (σ 15 m) x = true → ntB σ x = false → bt (σ 27 (sp a m)) x = true) (h15 : σ' 15 = σ 15) (h2 : σ' 2 = σ 2) (h27 : σ' 27 = upd (σ 27) (sp a m) NO) : rI N e Q σ' := by
  intro n x m' hn hxN hm'
  obtain ⟨i1, i2, i3, i4⟩ := h n x m' hn hxN hm'
  rw [h15, h2, h27]
  by_cases ea : n = a ∧ m' = m
  · obtain ⟨rfl, rfl⟩ := ea
    rw [pk_us]
    refine ⟨i1, i2, fun hu => ?_, i4⟩
    obtain ⟨o1, o2, o3, o4, o5⟩ := i3 hu
    refine ⟨o1, o2, o3, fun _ => ?_, fun q => absurd rfl q⟩
    cases hto : bt (σ 15 m') x with
    | false => obtain ⟨z1, z2⟩ := i2 hto; omega
    | true => exact o4 (Or.inr (hfull x hxN hto (up_nt hu)))
  · rw [pk_un (fun q => ea (sp_inj hm' hm q))]; exact ⟨i1, i2, i3, i4⟩
/-- the first packet of a channel is taken -/
theorem rI_pop {f n : Nat} {p : Pk} {ps : List Pk} (h : rI N e Q σ) (h6 : N ≤ 6) (hn : n < N) (hf : f < N) (hu : σ 2 n = NO) (hq : Q (6 * f + n) = p :: ps) : rI N e (uQ Q (6 * f + n) ps) σ := by
  have hc : ∀ (K : Nat → Bool) (a x m : Nat), a < N → x < N → cN m K (uQ Q (6 * f + n) ps (6 * a + x)) + (if a = f ∧ x = n ∧ p.2.2.1 = m ∧ K p.2.1 = true then 1 else 0) = cN m K (Q (6 * a + x)) := by
    intro K a x m ha hx
    by_cases ea : a = f ∧ x = n
    · rw [ea.1, ea.2, uQ_s, hq, cN_cons, Nat.add_comm]
      by_cases c : p.2.2.1 = m ∧ K p.2.1 = true
      · rw [if_pos c, if_pos ⟨rfl, rfl, c⟩]
      · rw [if_neg c, if_neg (fun z => c z.2.2)]
    · rw [uQ_n _ _ (by omega), if_neg (fun z => ea ⟨z.1, z.2.1⟩), Nat.add_zero]
  intro a x m ha hx hm
  obtain ⟨i1, i2, i3, i4⟩ := h a x m ha hx hm
  have hA := hc kA x a m hx ha
  have hR := hc kR a x m ha hx
  have hF := hc kF a x m ha hx
  refine ⟨by omega, fun q => by have := i2 q; omega, fun hux => ?_, fun q => by have := i4 q; omega⟩
  obtain ⟨o1, o2, o3, o4, o5⟩ := i3 hux
  refine ⟨?_, by omega, by omega, fun q => by have := o4 q; omega, fun q1 q2 q3 => ?_⟩
  · by_cases ea : a = f ∧ x = n
    · rw [ea.1, ea.2, uQ_s]
      rw [ea.1, ea.2, hq] at o1
      exact o1.2
    · rw [uQ_n _ _ (by omega)]; exact o1
  · by_cases c : a = f ∧ x = n ∧ p.2.2.1 = m ∧ kR p.2.1 = true
    · rw [c.1, c.2.1, hq] at o1
      rw [c.1, c.2.1, uQ_s]
      exact o1.1 c.2.2
    · rw [if_neg c] at hR
      have := o5 q1 q2 (by omega)
      omega
/-- an answer is put -/
theorem rI_reply {f n : Nat} {p : Pk} (h : rI N e Q σ) (h6 : N ≤ 6) (hn : n < N) (hf : f < N) (hk : kA p.2.1 = true) (hR0 : cN p.2.2.1 kR (Q (6 * f + n)) = 0) (hA0 : cN p.2.2.1 kA (Q (6 * n + f)) = 0) (hto : bt (σ 15 p.2.2.1) n = true) (hon : σ 27 (sp f p.2.2.1) ≠ NO) (hh : bt (σ 27 (sp f p.2.2.1)) n = false) : rI N e (uQ Q (6 * n + f) (Q (6 * n + f) ++ [p])) σ := by
  have hc : ∀ (K : Nat → Bool) (a x m : Nat), a < N → x < N → cN m K (uQ Q (6 * n + f) (Q (6 * n + f) ++ [p]) (6 * a + x)) = cN m K (Q (6 * a + x)) + (if a = n ∧ x = f ∧ p.2.2.1 = m ∧ K p.2.1 = true then 1 else 0) := by
    intro K a x m ha hx
    by_cases ea : a = n ∧ x = f
    · rw [ea.1, ea.2, uQ_s, cN_app, cN_one]
      by_cases c : p.2.2.1 = m ∧ K p.2.1 = true
      · rw [if_pos c, if_pos ⟨rfl, rfl, c⟩]
      · rw [if_neg c, if_neg (fun z => c z.2.2)]
    · rw [uQ_n _ _ (by omega), if_neg (fun z => ea ⟨z.1, z.2.1⟩), Nat.add_zero]
  intro a x m ha hx hm
  obtain ⟨i1, i2, i3, i4⟩ := h a x m ha hx hm
  have hA := hc kA x a m hx ha
  have hR := hc kR a x m ha hx
  have hF := hc kF a x m ha hx
  rw [if_neg (fun z => by have := (kAR hk).1; rw [z.2.2.2] at this; cases this), Nat.add_zero] at hR
  rw [if_neg (fun z => by have := (kAR hk).2; rw [z.2.2.2] at this; cases this), Nat.add_zero] at hF
  rw [hA, hR, hF]
  have ho : oF m (Q (6 * a + x)) → oF m (uQ Q (6 * n + f) (Q (6 * n + f) ++ [p]) (6 * a + x)) := by
    intro o1
    by_cases ea : a = n ∧ x = f
    · rw [ea.1, ea.2] at o1 ⊢
      rw [uQ_s]
      exact oF_snoc o1 (fun _ z => by have := (kAR hk).2; rw [z] at this; cases this)
    · rw [uQ_n _ _ (by omega)]; exact o1
  by_cases c : x = n ∧ a = f ∧ p.2.2.1 = m ∧ kA p.2.1 = true
  · rw [if_pos c]
    obtain ⟨rfl, rfl, rfl, -⟩ := c
    refine ⟨by omega, (fun q => absurd (q.symm.trans hto) (by decide)), fun hu => ?_, i4⟩
    obtain ⟨o1, o2, o3, o4, o5⟩ := i3 hu
    refine ⟨ho o1, by omega, o3, fun q => ?_, o5⟩
    rcases q with q | q
    · exact absurd q hon
    · rw [q] at hh; cases hh
  · rw [if_neg c, Nat.add_zero]
    refine ⟨i1, i2, fun hu => ?_, i4⟩
    obtain ⟨o1, o2⟩ := i3 hu
    exact ⟨ho o1, o2⟩
/-- a node is heard of -/
theorem rI_heard {n f m₀ : Nat} (h : rI N e Q σ) (hm₀ : m₀ < 20) (hf : f < 32) (hon : σ 27 (sp n m₀) ≠ NO) (hz : σ 2 f = NO → cN m₀ kR (Q (6 * n + f)) + cN m₀ kA (Q (6 * f + n)) = 0) (h15 : σ' 15 = σ 15) (h2 : σ' 2 = σ 2) (h27 : σ' 27 = upd (σ 27) (sp n m₀) (σ 27 (sp n m₀) ||| sh1 (nI f))) (hno : σ 27 (sp n m₀) ||| sh1 (nI f) ≠ NO) : rI N e Q σ' := by
  intro a x m ha hx hm
  obtain ⟨i1, i2, i3, i4⟩ := h a x m ha hx hm
  rw [h15, h2, h27]
  by_cases ea : a = n ∧ m = m₀
  · obtain ⟨rfl, rfl⟩ := ea
    rw [pk_us]
    refine ⟨i1, i2, fun hu => ?_, i4⟩
    obtain ⟨o1, o2, o3, o4, o5⟩ := i3 hu
    refine ⟨o1, o2, o3, fun q => ?_, fun _ => o5 hon⟩
    rcases q with q | q
    · exact absurd q hno
    · rw [b_or, b_sh1 hf] at q
      by_cases ex : x = f
      · subst ex; exact hz hu
      · rw [decide_eq_false ex, Bool.or_false] at q
        exact o4 (Or.inr q)
  · rw [pk_un (fun q => ea (sp_inj hm hm₀ q))]; exact ⟨i1, i2, i3, i4⟩
/-- a node goes down -/
theorem rI_down {y : Nat} (h : rI N e Q σ) (h15 : σ' 15 = σ 15) (h2 : ∀ x, x ≠ y → σ' 2 x = σ 2 x) (hy : σ' 2 y ≠ NO) (h27 : σ' 27 = σ 27) : rI N e Q σ' := by
  intro n x m hn hx hm
  obtain ⟨i1, i2, i3, i4⟩ := h n x m hn hx hm
  rw [h15, h27]
  by_cases e : x = y
  · subst e
    refine ⟨i1, i2, fun q => absurd q hy, fun _ => ?_⟩
    by_cases hu : σ 2 x = NO
    · obtain ⟨o1, o2, o3, -⟩ := i3 hu; omega
    · exact i4 hu
  · rw [h2 x e]; exact ⟨i1, i2, i3, i4⟩
/-- a channel to one that is down is emptied -/
theorem rI_clear {f n : Nat} (h : rI N e Q σ) (h6 : N ≤ 6) (hf : f < N) (hn : n < N) (hd : σ 2 n ≠ NO) : rI N e (uQ Q (6 * f + n) []) σ := by
  have hc : ∀ (K : Nat → Bool) (a x m : Nat), a < N → x < N → cN m K (uQ Q (6 * f + n) [] (6 * a + x)) ≤ cN m K (Q (6 * a + x)) := by
    intro K a x m ha hx
    by_cases ea : a = f ∧ x = n
    · rw [ea.1, ea.2, uQ_s, cN_nil]; omega
    · rw [uQ_n _ _ (by omega)]; omega
  intro a x m ha hx hm
  obtain ⟨i1, i2, i3, i4⟩ := h a x m ha hx hm
  have hA := hc kA x a m hx ha
  have hR := hc kR a x m ha hx
  have hF := hc kF a x m ha hx
  refine ⟨by omega, fun q => by have := i2 q; omega, fun hu => ?_, fun q => by have := i4 q; omega⟩
  obtain ⟨o1, o2, o3, o4, o5⟩ := i3 hu
  have ex : x ≠ n := fun q => hd (q ▸ hu)
  have e1 : uQ Q (6 * f + n) [] (6 * a + x) = Q (6 * a + x) := uQ_n _ _ (by omega)
  rw [e1] at hR hF ⊢
  exact ⟨o1, by omega, o3, fun q => by have := o4 q; omega, o5⟩
/-- all channels to those that are down are empty -/
theorem rI_zero (h : rI N e Q σ) (hz : ∀ f n, f < N → n < N → σ 2 n ≠ NO → Q (6 * f + n) = []) : rI N (fun _ _ => 0) Q σ := by
  intro a x m ha hx hm
  obtain ⟨i1, i2, i3, i4⟩ := h a x m ha hx hm
  exact ⟨i1, i2, i3, fun q => by rw [hz a x ha hx q, cN_nil, cN_nil]; omega⟩
/-- a message more -/
theorem rI_new {m : Nat} (h : rI N e Q σ) (hq : ∀ a x, a < N → x < N → ∀ p, p ∈ Q (6 * a + x) → p.2.2.1 ≠ m) (h15 : ∀ j, j ≠ m → σ' 15 j = σ 15 j) (h2 : σ' 2 = σ 2) (h27 : σ' 27 = σ 27) : rI N e Q σ' := by
  intro a x m' ha hx hm'
  obtain ⟨i1, i2, i3, i4⟩ := h a x m' ha hx hm'
  rw [h2, h27]
  by_cases em : m' = m
  · subst em
    have zR := cN_0 (K := kR) (hq a x ha hx)
    have zF := cN_0 (K := kF) (hq a x ha hx)
    have zA := cN_0 (K := kA) (hq x a hx ha)
    rw [zR, zF, zA]
    refine ⟨by omega, fun _ => ⟨rfl, rfl⟩, fun hu => ?_, fun _ => by omega⟩
    obtain ⟨o1, -⟩ := i3 hu
    exact ⟨o1, by omega, by omega, fun _ => rfl, fun _ _ _ => rfl⟩
  · rw [h15 m' em]; exact ⟨i1, i2, i3, i4⟩
end SH
