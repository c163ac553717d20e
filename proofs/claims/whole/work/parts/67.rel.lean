/-! the relation between the class's net and the model's row -/
abbrev Pk : Type := Int32 × Nat × Nat × Int32 × Int32
abbrev Qs : Type := Nat → List Pk
noncomputable abbrev num (s : Int32) : Int32 := fX11_numberOf s
noncomputable abbrev nod (s : Int32) : Int32 := fX11_nodeOf s
/-- a stamp with a number of at most B -/
def vS (B : Nat) (s : Int32) : Prop := ∃ a b, a ≤ B ∧ b < 6 ∧ s = nI (8 * a + b)
def oS (B : Nat) (s : Int32) : Prop := s = NO ∨ vS B s
/-- a sum over the first k places -/
def sumL (f : Nat → Nat) : Nat → Nat
  | 0 => 0
  | k + 1 => sumL f k + f k
def rS (dr : Prop) (tk : Int32) (N G M T : Nat) (σ : Sg) (ω : Nat → Int32) : Prop :=
  (N ≤ 6 ∧ G ≤ 6 ∧ M ≤ 20 ∧ T ≤ 100000) ∧ (σ 0 0 = nI N ∧ ω 0 = nI N) ∧ (σ 0 1 = nI G ∧ ω 1 = nI G) ∧ (σ 13 0 = nI M ∧ ω 3 = nI M) ∧ (σ 0 3 = nI T ∧ ω 4 = nI T) ∧
  (∃ x, x ≤ 12 ∧ σ 0 2 = nI x ∧ ω 2 = nI x) ∧ σ 0 6 = ω 8 ∧ (∃ x, x ≤ 20 ∧ σ 0 5 = nI x ∧ ω 6 = nI x) ∧
  (∃ x, x ≤ 5 ∧ σ 0 4 = nI x ∧ (dr → ω 5 = nI x) ∧ (¬ dr → x = 0)) ∧ σ 0 7 + tk = ω 10 ∧
  (∀ g, g < 6 → σ 1 g = ω (11 + g)) ∧ (∀ g, g < G → ∀ k, N ≤ k → bt (σ 1 g) k = false)
def rN (N T B : Nat) (σ : Sg) (ω : Nat → Int32) : Prop := ∀ n, n < 6 →
  (n < N → (σ 2 n = NO ∧ ω (pN n 0) = nI 1) ∨ ∃ d, d ≤ T ∧ σ 2 n = nI d ∧ ω (pN n 0) = nI 0 ∧ ω (pN n 1) = nI d) ∧
  (N ≤ n → σ 2 n = NO ∧ ω (pN n 0) = nI 0) ∧ (∃ a, a ≤ B ∧ σ 3 n = nI a ∧ ω (pN n 2) = nI a) ∧ σ 4 n = ω (pN n 3)
/-- what a node gathers -/
def rG (N B : Nat) (σ : Sg) (ω : Nat → Int32) (n m : Nat) : Prop :=
  ω (pP n m 5) = nI 1 ∧ (∃ h, h < 64 ∧ σ 27 (sp n m) = nI h ∧ ω (pP n m 6) = nI h ∧ (h = 0 ↔ σ 28 (sp n m) = NO) ∧ (h = 0 → σ 29 (sp n m) = NO)) ∧ (∀ k, N ≤ k → bt (σ 27 (sp n m)) k = false) ∧
  (oS B (σ 28 (sp n m)) ∧ ω (pP n m 7) = num (σ 28 (sp n m)) ∧ ω (pP n m 8) = nod (σ 28 (sp n m))) ∧ (oS B (σ 29 (sp n m)) ∧ ω (pP n m 9) = num (σ 29 (sp n m)) ∧ ω (pP n m 10) = nod (σ 29 (sp n m)))
def rP (N M T B : Nat) (σ : Sg) (ω : Nat → Int32) : Prop := ∀ n m, n < 6 → m < 20 →
  (∃ k, k ≤ 3 ∧ σ 20 (sp n m) = nI k ∧ ω (pP n m 0) = nI k ∧ (k ≠ 0 → n < N ∧ m < M ∧ ∃ l, l < N ∧ σ 22 (sp n m) = nI l) ∧ (k = 3 → ∃ t, t ≤ T ∧ σ 23 (sp n m) = nI t ∧ ω (pP n m 4) = nI t)) ∧
  (vS B (σ 21 (sp n m)) ∧ ω (pP n m 1) = num (σ 21 (sp n m)) ∧ ω (pP n m 2) = nod (σ 21 (sp n m))) ∧ σ 22 (sp n m) = ω (pP n m 3) ∧
  ((σ 27 (sp n m) = NO ∧ ω (pP n m 5) = nI 0) ∨ (n < N ∧ m < M ∧ rG N B σ ω n m))
def wh (σ : Sg) (n m : Nat) : Prop := ∃ t b, b ≤ t ∧ t ≤ 100000 ∧ σ 23 (sp n m) = nI t ∧ σ 17 m = nI b
def rD (Dl : Nat → List Nat) (σ : Sg) (ω : Nat → Int32) : Prop := ∀ n, n < 6 → (Dl n).Nodup ∧ (∀ m, m ∈ Dl n ↔ (m < 20 ∧ σ 20 (sp n m) = nI 3)) ∧ σ 25 n = nI (Dl n).length ∧ ω (pN n 4) = nI (Dl n).length ∧
  ∀ k m, (Dl n)[k]? = some m → σ 24 (sp n k) = nI m ∧ ω (pN n (5 + k)) = nI m ∧ wh σ n m
def rM (N M T : Nat) (σ : Sg) (ω : Nat → Int32) : Prop := ∀ m, m < 20 → (σ 14 m = ω (pM m 0) ∧ σ 15 m = ω (pM m 1) ∧ σ 16 m = ω (pM m 2) ∧ σ 17 m = ω (pM m 3) ∧ σ 18 m = ω (pM m 4)) ∧
  (m < M → (∃ s, s < N ∧ σ 14 m = nI s) ∧ (∀ k, N ≤ k → bt (σ 15 m) k = false) ∧ ∃ b, b ≤ T ∧ σ 17 m = nI b) ∧ (M ≤ m → ω (pM m 2) = nI 0 ∧ ω (pM m 4) = nI 0)
def rE (N G : Nat) (σ : Sg) (ω : Nat → Int32) : Prop := ∃ E, E ≤ 8 ∧ σ 30 0 = nI E ∧ ω 7 = nI E ∧ ∀ k, k < E → σ 31 k = ω (pE k 0) ∧ (∃ n, n < N ∧ σ 32 k = nI n ∧ ω (pE k 2) = nI n) ∧
  ((σ 33 k = NO ∧ ω (pE k 1) = nI 1 ∧ ω (pE k 3) = NO) ∨ ∃ g, g < G ∧ σ 33 k = nI g ∧ ω (pE k 1) = nI 0 ∧ ω (pE k 3) = nI g)
def rL (dr : Prop) (σ : Sg) (ω : Nat → Int32) : Prop := ∃ st nx, st ≤ 60 ∧ nx < 60 ∧ σ 34 0 = nI st ∧ σ 34 1 = nI nx ∧ (dr → ω 9 = nI st ∧ ∀ a w, a < st → w < 4 → ω (pL a w) = σ 35 (4 * ((nx + 119 - a) % 60) + w))
/-- a packet of the model -/
def kM (ω : Nat → Int32) (c k : Nat) (p : Pk) : Prop := ω (pK c k 0) = p.1 ∧ ω (pK c k 1) = nI p.2.1 ∧ ω (pK c k 2) = nI p.2.2.1 ∧ ω (pK c k 3) = num p.2.2.2.1 ∧ ω (pK c k 4) = nod p.2.2.2.1 ∧ ω (pK c k 5) = p.2.2.2.2
def rC (Q : Qs) (σ : Sg) (ω : Nat → Int32) : Prop := ∀ c, c < 36 → (∃ d, 1 ≤ d ∧ d ≤ 9 ∧ σ 6 c = nI d ∧ ω (pC c 0) = nI d) ∧ (∃ h, h ≤ 1 ∧ σ 7 c = nI h ∧ ω (pC c 1) = nI h) ∧ σ 8 c = ω (pC c 3) ∧ ω (pC c 2) = nI (Q c).length ∧
  ∀ k p, (Q c)[k]? = some p → kM ω c k p
/-- a packet as it may be -/
def vK (M B : Nat) (p : Pk) : Prop := p.2.1 ≤ 4 ∧ p.2.2.1 < M ∧ ((p.2.2.2.2 = nI 0 ∨ p.2.2.2.2 = nI 1) ∧ (p.2.1 ≠ 4 → p.2.2.2.2 = nI 0)) ∧ (p.2.1 = 0 ∨ p.2.1 = 3 → p.2.2.2.1 = NO) ∧ (p.2.1 = 1 ∨ p.2.1 = 2 ∨ p.2.1 = 4 → vS B p.2.2.2.1)
def rQ (N M B : Nat) (Q : Qs) : Prop := ∀ a b, a < 6 → b < 6 → (∀ p, p ∈ Q (6 * a + b) → vK M B p) ∧ (N ≤ a ∨ N ≤ b → Q (6 * a + b) = [])
/-- the pool: cells in lists, each of 6 places -/
def cI6 (f : Nat → Int32) (i : Nat) (p : Pk) : Prop := f (6 * i) = p.1 ∧ f (6 * i + 1) = nI p.2.1 ∧ f (6 * i + 2) = nI p.2.2.1 ∧ f (6 * i + 3) = p.2.2.2.1 ∧ f (6 * i + 4) = p.2.2.2.2
def cells (f : Nat → Int32) : List Nat → List Pk → Prop
  | [], [] => True
  | i :: is, p :: ps => cI6 f i p ∧ cells f is ps
  | _, _ => False
def lnk (f : Nat → Int32) : Int32 → List Nat → Prop
  | h, [] => h = NO
  | h, i :: is => h = nI (6 * i) ∧ lnk f (f (6 * i + 5)) is
def lastOf : List Nat → Int32
  | [] => NO
  | [i] => nI (6 * i)
  | _ :: is => lastOf is
def rO (pl : Nat) (Q : Qs) (σ : Sg) : Prop := ∃ (C : Nat → List Nat) (F : List Nat) (U : Nat), σ 5 7 = nI (6 * U) ∧ 6 * U ≤ pl ∧ pl ≤ 50000 ∧ (∃ e, pl = 384 * 2 ^ e) ∧ U = F.length + sumL (fun c => (C c).length) 36 ∧
  F.Nodup ∧ (∀ i, i ∈ F → i < U) ∧ lnk (σ 10) (σ 5 8) F ∧
  ∀ c, c < 36 → (C c).Nodup ∧ (∀ i, i ∈ C c → i < U ∧ i ∉ F ∧ ∀ c', c' < 36 → c' ≠ c → i ∉ C c') ∧ lnk (σ 10) (σ 11 c) (C c) ∧ σ 12 c = lastOf (C c) ∧ σ 9 c = nI (C c).length ∧ cells (σ 10) (C c) (Q c)
/-- how many packets of a message are of some kinds -/
def cN (m : Nat) (K : Nat → Bool) (l : List Pk) : Nat := (l.filter (fun p => p.2.2.1 == m && K p.2.1)).length
def kR (k : Nat) : Bool := k == 0 || k == 3
def kA (k : Nat) : Bool := k == 1 || k == 4
def kF (k : Nat) : Bool := k == 2
/-- no final stamp of a message stands behind a request of it -/
def oF (m : Nat) : List Pk → Prop
  | [] => True
  | p :: ps => (p.2.2.1 = m ∧ kR p.2.1 = true → cN m kF ps = 0) ∧ oF m ps
/-- what keeps the channels short: e tells which node has led which message in this tick -/
def rI (N : Nat) (e : Nat → Nat → Nat) (Q : Qs) (σ : Sg) : Prop := ∀ n x m, n < N → x < N → m < 20 →
  cN m kA (Q (6 * x + n)) ≤ 1 ∧ (bt (σ 15 m) x = false → cN m kR (Q (6 * n + x)) = 0 ∧ cN m kA (Q (6 * x + n)) = 0) ∧
  (σ 2 x = NO → oF m (Q (6 * n + x)) ∧ cN m kR (Q (6 * n + x)) + cN m kA (Q (6 * x + n)) ≤ 1 ∧ cN m kF (Q (6 * n + x)) ≤ 1 ∧
    (σ 27 (sp n m) = NO ∨ bt (σ 27 (sp n m)) x = true → cN m kR (Q (6 * n + x)) + cN m kA (Q (6 * x + n)) = 0) ∧
    (σ 27 (sp n m) ≠ NO → bt (σ 15 m) x = true → cN m kR (Q (6 * n + x)) = 0 → cN m kF (Q (6 * n + x)) = 0)) ∧
  (σ 2 x ≠ NO → cN m kR (Q (6 * n + x)) ≤ 1 + e n m ∧ cN m kF (Q (6 * n + x)) ≤ 1 + e n m)
def cnt (σ : Sg) : Nat := sumL (fun i => if σ 20 i = nI 0 then 0 else 1) 120
def Rm (dr : Prop) (tk : Int32) (pl N G M T B : Nat) (Q : Qs) (Dl : Nat → List Nat) (σ : Sg) (ω : Nat → Int32) : Prop :=
  rS dr tk N G M T σ ω ∧ rN N T B σ ω ∧ rP N M T B σ ω ∧ rD Dl σ ω ∧ rM N M T σ ω ∧ rE N G σ ω ∧ rL dr σ ω ∧ rC Q σ ω ∧ rQ N M B Q ∧ rO pl Q σ
def R0 (dr : Prop) (tk : Int32) (pl N G M T B : Nat) (Q : Qs) (Dl : Nat → List Nat) (σ : Sg) (ω : Nat → Int32) : Prop :=
  rS dr tk N G M T σ ω ∧ rN N T B σ ω ∧ rP N M T B σ ω ∧ rD Dl σ ω ∧ rM N M T σ ω ∧ rE N G σ ω ∧ rL dr σ ω ∧ rC Q σ ω ∧ rQ N M B Q ∧ rO pl Q σ ∧ B ≤ cnt σ
def R (dr : Prop) (tk : Int32) (e : Nat → Nat → Nat) (pl N G M T B : Nat) (Q : Qs) (Dl : Nat → List Nat) (σ : Sg) (ω : Nat → Int32) : Prop := R0 dr tk pl N G M T B Q Dl σ ω ∧ rI N e Q σ ∧ ∀ n m, e n m ≤ 1
/-! frames: what a group rests on -/
section FR
variable {dr : Prop} {tk : Int32} {e : Nat → Nat → Nat} {pl N G M T B : Nat} {Q : Qs} {Dl : Nat → List Nat} {σ σ' : Sg} {ω ω' : Nat → Int32}
theorem rS_fr (h : rS dr tk N G M T σ ω) (h0 : σ' 0 0 = σ 0 0 ∧ σ' 0 1 = σ 0 1 ∧ σ' 0 2 = σ 0 2 ∧ σ' 0 3 = σ 0 3 ∧ σ' 0 4 = σ 0 4 ∧ σ' 0 5 = σ 0 5 ∧ σ' 0 6 = σ 0 6 ∧ σ' 0 7 = σ 0 7) (h1 : ∀ g, g < 6 → σ' 1 g = σ 1 g) (h13 : σ' 13 0 = σ 13 0) (hw : ∀ i, i < 17 → i ≠ 7 → i ≠ 9 → ω' i = ω i) : rS dr tk N G M T σ' ω' := by
  obtain ⟨a0, a1, a2, a3, a4, a5, a6, a7, a8, a9, a10, a11⟩ := h
  obtain ⟨z0, z1, z2, z3, z4, z5, z6, z7⟩ := h0
  refine ⟨a0, ?_, ?_, ?_, ?_, ?_, ?_, ?_, ?_, ?_, ?_, ?_⟩
  · rw [z0, hw 0 (by omega) (by omega) (by omega)]; exact a1
  · rw [z1, hw 1 (by omega) (by omega) (by omega)]; exact a2
  · rw [h13, hw 3 (by omega) (by omega) (by omega)]; exact a3
  · rw [z3, hw 4 (by omega) (by omega) (by omega)]; exact a4
  · rw [z2, hw 2 (by omega) (by omega) (by omega)]; exact a5
  · rw [z6, hw 8 (by omega) (by omega) (by omega)]; exact a6
  · rw [z5, hw 6 (by omega) (by omega) (by omega)]; exact a7
  · rw [z4, hw 5 (by omega) (by omega) (by omega)]; exact a8
  · rw [z7, hw 10 (by omega) (by omega) (by omega)]; exact a9
  · intro g hg; rw [h1 g hg, hw (11 + g) (by omega) (by omega) (by omega)]; exact a10 g hg
  · intro g hg k hk; have := a0.2.1; rw [h1 g (by omega)]; exact a11 g hg k hk
theorem rN_fr (h : rN N T B σ ω) (h1 : ∀ n, n < 6 → σ' 2 n = σ 2 n ∧ σ' 3 n = σ 3 n ∧ σ' 4 n = σ 4 n) (hw : ∀ n w, n < 6 → w < 4 → ω' (pN n w) = ω (pN n w)) : rN N T B σ' ω' := by
  intro n hn
  obtain ⟨a, b, c⟩ := h1 n hn
  rw [a, b, c, hw n 0 hn (by omega), hw n 1 hn (by omega), hw n 2 hn (by omega), hw n 3 hn (by omega)]
  exact h n hn
theorem rP_fr (h : rP N M T B σ ω) (h1 : ∀ i, i < 120 → σ' 20 i = σ 20 i ∧ σ' 21 i = σ 21 i ∧ σ' 22 i = σ 22 i ∧ σ' 23 i = σ 23 i ∧ σ' 27 i = σ 27 i ∧ σ' 28 i = σ 28 i ∧ σ' 29 i = σ 29 i) (hw : ∀ n m w, n < 6 → m < 20 → w < 11 → ω' (pP n m w) = ω (pP n m w)) : rP N M T B σ' ω' := by
  intro n m hn hm
  obtain ⟨a, b, c, d, e, f, g⟩ := h1 (sp n m) (by unfold sp; omega)
  have hw : ∀ w, w < 11 → ω' (pP n m w) = ω (pP n m w) := fun w hw' => hw n m w hn hm hw'
  unfold rG
  rw [a, b, c, d, e, f, g, hw 0 (by omega), hw 1 (by omega), hw 2 (by omega), hw 3 (by omega), hw 4 (by omega), hw 5 (by omega), hw 6 (by omega), hw 7 (by omega), hw 8 (by omega), hw 9 (by omega), hw 10 (by omega)]
  exact h n m hn hm
theorem dl_len (h : rD Dl σ ω) {n : Nat} (hn : n < 6) : (Dl n).length ≤ 20 := by
  obtain ⟨h1, h2, -⟩ := h n hn
  have : (Dl n) ⊆ List.range 20 := fun m hm => List.mem_range.mpr ((h2 m).mp hm).1
  have := List.Nodup.length_le_of_subset h1 this
  rwa [List.length_range] at this
theorem rD_fr (h : rD Dl σ ω) (h1 : ∀ i, i < 120 → σ' 20 i = σ 20 i ∧ σ' 24 i = σ 24 i ∧ σ' 23 i = σ 23 i) (h17 : ∀ n m, n < 6 → m ∈ Dl n → σ' 17 m = σ 17 m) (h2 : ∀ n, n < 6 → σ' 25 n = σ 25 n) (hw : ∀ n w, n < 6 → w < 25 → 4 ≤ w → ω' (pN n w) = ω (pN n w)) : rD Dl σ' ω' := by
  intro n hn
  have hl := dl_len h hn
  obtain ⟨a, b, c, d, f⟩ := h n hn
  refine ⟨a, fun m => ?_, by rw [h2 n hn]; exact c, by rw [hw n 4 hn (by omega) (by omega)]; exact d, fun k m hk => ?_⟩
  · rw [b m]
    constructor
    · rintro ⟨h3, h4⟩; exact ⟨h3, by rw [(h1 (sp n m) (by unfold sp; omega)).1]; exact h4⟩
    · rintro ⟨h3, h4⟩; exact ⟨h3, by rw [← (h1 (sp n m) (by unfold sp; omega)).1]; exact h4⟩
  · have hk2 := (List.getElem?_eq_some_iff.mp hk).1
    have hm := List.mem_of_getElem? hk
    have hm20 := ((b m).mp hm).1
    unfold wh
    rw [(h1 (sp n k) (by unfold sp; omega)).2.1, hw n (5 + k) hn (by omega) (by omega), (h1 (sp n m) (by unfold sp; omega)).2.2, h17 n m hn hm]
    exact f k m hk
theorem rM_fr (h : rM N M T σ ω) (h1 : ∀ m, m < 20 → σ' 14 m = σ 14 m ∧ σ' 15 m = σ 15 m ∧ σ' 16 m = σ 16 m ∧ σ' 17 m = σ 17 m ∧ σ' 18 m = σ 18 m) (hw : ∀ m w, m < 20 → w < 5 → ω' (pM m w) = ω (pM m w)) : rM N M T σ' ω' := by
  intro m hm
  obtain ⟨a, b, c, d, f⟩ := h1 m hm
  rw [a, b, c, d, f, hw m 0 hm (by omega), hw m 1 hm (by omega), hw m 2 hm (by omega), hw m 3 hm (by omega), hw m 4 hm (by omega)]
  exact h m hm
theorem rE_fr (h : rE N G σ ω) (h0 : σ' 30 0 = σ 30 0) (h1 : ∀ k, k < 8 → σ' 31 k = σ 31 k ∧ σ' 32 k = σ 32 k ∧ σ' 33 k = σ 33 k) (h7 : ω' 7 = ω 7) (hw : ∀ k w, k < 8 → w < 4 → ω' (pE k w) = ω (pE k w)) : rE N G σ' ω' := by
  obtain ⟨E, hE, a, b, c⟩ := h
  refine ⟨E, hE, by rw [h0]; exact a, by rw [h7]; exact b, fun k hk => ?_⟩
  obtain ⟨d, e, f⟩ := h1 k (by omega)
  rw [d, e, f, hw k 0 (by omega) (by omega), hw k 1 (by omega) (by omega), hw k 2 (by omega) (by omega), hw k 3 (by omega) (by omega)]
  exact c k hk
theorem rL_fr (h : rL dr σ ω) (h0 : σ' 34 0 = σ 34 0 ∧ σ' 34 1 = σ 34 1) (h1 : ∀ i, i < 240 → σ' 35 i = σ 35 i) (h9 : ω' 9 = ω 9) (hw : ∀ k w, k < 60 → w < 4 → ω' (pL k w) = ω (pL k w)) : rL dr σ' ω' := by
  obtain ⟨st, nx, a, b, c, d, f⟩ := h
  refine ⟨st, nx, a, b, by rw [h0.1]; exact c, by rw [h0.2]; exact d, fun hd => ?_⟩
  obtain ⟨f1, f2⟩ := f hd
  refine ⟨by rw [h9]; exact f1, fun k w hk hw2 => ?_⟩
  have := Nat.mod_lt (nx + 119 - k) (y := 60) (by omega)
  rw [hw k w (by omega) hw2, h1 _ (by omega)]
  exact f2 k w hk hw2
theorem rC_fr (h : rC Q σ ω) (hl : ∀ c, c < 36 → (Q c).length ≤ 140) (h1 : ∀ c, c < 36 → σ' 6 c = σ 6 c ∧ σ' 7 c = σ 7 c ∧ σ' 8 c = σ 8 c) (hw : ∀ c w, c < 36 → w < 844 → ω' (pC c w) = ω (pC c w)) : rC Q σ' ω' := by
  intro c hc
  obtain ⟨a, b, d⟩ := h1 c hc
  obtain ⟨q1, q2, q3, q4, q5⟩ := h c hc
  rw [a, b, d, hw c 0 hc (by omega), hw c 1 hc (by omega), hw c 2 hc (by omega), hw c 3 hc (by omega)]
  refine ⟨q1, q2, q3, q4, fun k p hk => ?_⟩
  have hk2 := (List.getElem?_eq_some_iff.mp hk).1
  have := hl c hc
  have e : ∀ w, w < 6 → ω' (pK c k w) = ω (pK c k w) := fun w hw' => by
    have := hw c (4 + 6 * k + w) hc (by omega)
    rw [show pC c (4 + 6 * k + w) = pK c k w from by unfold pC pK; omega] at this
    exact this
  unfold kM
  rw [e 0 (by omega), e 1 (by omega), e 2 (by omega), e 3 (by omega), e 4 (by omega), e 5 (by omega)]
  exact q5 k p hk
theorem cells_fr {f g : Nat → Int32} {U : Nat} : ∀ {l : List Nat} {q : List Pk}, cells f l q → (∀ i, i ∈ l → i < U) → (∀ j, j < 6 * U → g j = f j) → cells g l q
  | [], [], _, _, _ => trivial
  | i :: is, p :: ps, h, h1, h2 => by
    have := h1 i List.mem_cons_self
    refine ⟨?_, cells_fr h.2 (fun j hj => h1 j (List.mem_cons_of_mem _ hj)) h2⟩
    unfold cI6
    rw [h2 (6 * i) (by omega), h2 (6 * i + 1) (by omega), h2 (6 * i + 2) (by omega), h2 (6 * i + 3) (by omega), h2 (6 * i + 4) (by omega)]
    exact h.1
  | [], _ :: _, h, _, _ => h.elim
  | _ :: _, [], h, _, _ => h.elim
theorem lnk_fr {f g : Nat → Int32} {U : Nat} : ∀ {l : List Nat} {x : Int32}, lnk f x l → (∀ i, i ∈ l → i < U) → (∀ j, j < 6 * U → g j = f j) → lnk g x l
  | [], _, h, _, _ => h
  | i :: is, _, h, h1, h2 => by
    have := h1 i List.mem_cons_self
    refine ⟨h.1, ?_⟩
    rw [h2 (6 * i + 5) (by omega)]
    exact lnk_fr h.2 (fun j hj => h1 j (List.mem_cons_of_mem _ hj)) h2
theorem rO_fr (h : rO pl Q σ) (h0 : σ' 5 7 = σ 5 7 ∧ σ' 5 8 = σ 5 8) (h1 : ∀ c, c < 36 → σ' 9 c = σ 9 c ∧ σ' 11 c = σ 11 c ∧ σ' 12 c = σ 12 c) (h2 : ∀ i, i < pl → σ' 10 i = σ 10 i) : rO pl Q σ' := by
  obtain ⟨C, F, U, a1, a2, a3, a4, a5, a6, a7, a8, a9⟩ := h
  refine ⟨C, F, U, by rw [h0.1]; exact a1, a2, a3, a4, a5, a6, a7, ?_, fun c hc => ?_⟩
  · rw [h0.2]; exact lnk_fr a8 a7 (fun j hj => h2 j (by omega))
  · obtain ⟨z1, z2, z3⟩ := h1 c hc
    obtain ⟨b1, b2, b3, b4, b5, b6⟩ := a9 c hc
    rw [z1, z2, z3]
    exact ⟨b1, b2, lnk_fr b3 (fun i hi => (b2 i hi).1) (fun j hj => h2 j (by omega)), b4, b5, cells_fr b6 (fun i hi => (b2 i hi).1) (fun j hj => h2 j (by omega))⟩
theorem rI_fr (h : rI N e Q σ) (hN : N ≤ 6) (h1 : ∀ m, m < 20 → σ' 15 m = σ 15 m) (h2 : ∀ n, n < 6 → σ' 2 n = σ 2 n) (h3 : ∀ i, i < 120 → σ' 27 i = σ 27 i) : rI N e Q σ' := by
  intro n x m hn hx hm
  rw [h1 m hm, h2 x (by omega), h3 (sp n m) (by unfold sp; omega)]
  exact h n x m hn hx hm
theorem sumL_congr {f g : Nat → Nat} : ∀ {k : Nat}, (∀ i, i < k → f i = g i) → sumL f k = sumL g k
  | 0, _ => rfl
  | k + 1, h => by
    show sumL f k + f k = sumL g k + g k
    rw [sumL_congr (fun i hi => h i (by omega)), h k (by omega)]
theorem cnt_fr (h : ∀ i, i < 120 → σ' 20 i = σ 20 i) : cnt σ' = cnt σ := sumL_congr (fun i hi => by rw [h i hi])
end FR
