/-! where the object lies, and its state -/
abbrev Lay : Type := (Nat → Nat) × (Nat → Nat) × (Nat → Nat) × Nat × Nat × Nat
abbrev Sta : Type := Nat × Nat × Nat × Sg × Sg × Sg
def lpX (cI cB : ClassId) (y : Lay) (s : Sta) : va_W := (wT cI cB y.1 (y.2.1 0) (y.2.2.1 0) y.2.2.2.1 s.1 s.2.2.2.1 ++ wN cI y.2.1 y.2.2.2.2.1 s.2.1 s.2.2.2.2.1) ++ wN cI y.2.2.1 y.2.2.2.2.2 s.2.2.1 s.2.2.2.2.2
def tot (s : Sta) : Nat := s.1 + s.2.1 + s.2.2.1
section OP
variable (Inv : Nat → Sta → Sg → Prop)
def gI (cI cB : ClassId) (c : Nat) (s : Sta) (lay : Lay) (g : Nat) (μ' : Sg) (X' : va_W) : Prop := ∃ (lay' : Lay) (s' : Sta), X' = lpX cI cB lay' s' ∧ lay'.1 36 = lay.1 36 ∧ tot s' = tot s + g ∧ Inv (c + 1) s' μ'
/-- a call of the object that answers r, or throws what the model's 'thrown' says -/
def opI (l : Launch) (D : va_G) (tys : List (ClassId × FieldType)) (ka kv : Nat → Nat) (fv : Value) (y : MethodName) (b : ByteArray) (n : Nat) (rt : Option FieldType) (rf rl : Nat) (cI cB : ClassId) (c : Nat) (s : Sta) (as : List Value) (codes : List Nat) (k0 : Nat → Int32) (r : Int32) (μ' : Sg) : Prop :=
  ∃ mc ms g, mc ≤ 4 + g ∧ ms ≤ 24 + 2 * g ∧ tot s + g ≤ 200000 ∧ ∀ lay : Lay, metG l D tys ka kv fv y b n rt rf rl mc ms (.ref (lay.1 36) :: as) (lpX cI cB lay s) (fun v X' => v = r ∧ μ' 0 0 = 0 ∧ gI Inv cI cB c s lay g μ' X') (fun E X' => E ∈ codes ∧ μ' 0 0 = k0 E ∧ gI Inv cI cB c s lay g μ' X')
def opV (l : Launch) (D : va_G) (tys : List (ClassId × FieldType)) (ka kv : Nat → Nat) (fv : Value) (y : MethodName) (b : ByteArray) (n : Nat) (rf rl : Nat) (cI cB : ClassId) (c : Nat) (s : Sta) (as : List Value) (codes : List Nat) (k0 : Nat → Int32) (μ' : Sg) : Prop :=
  ∃ mc ms g, mc ≤ 4 + g ∧ ms ≤ 24 + 2 * g ∧ tot s + g ≤ 200000 ∧ ∀ lay : Lay, metGV l D tys ka kv fv y b n rf rl mc ms (.ref (lay.1 36) :: as) (lpX cI cB lay s) (fun X' => μ' 0 0 = 0 ∧ gI Inv cI cB c s lay g μ' X') (fun E X' => E ∈ codes ∧ μ' 0 0 = k0 E ∧ gI Inv cI cB c s lay g μ' X')
/-- what is to be shown of the functions, call by call -/
def out (z : Xr) (r : Int32) (codes : List Nat) (k0 : Nat → Int32) (μ' : Sg) : Prop := (z = .inl r ∧ μ' 0 0 = 0) ∨ ∃ E, z = .inr E ∧ E ∈ codes ∧ μ' 0 0 = k0 E
def okT (c : Nat) (s : Sta) (codes : List Nat) (k0 : Nat → Int32) (fc : Option (Xr × Sg)) (fm : Option (Int32 × Sg)) : Prop := ∃ z r μ', fc = some z ∧ fm = some (r, μ') ∧ Inv (c + 1) (s.1, s.2.1, s.2.2.1, z.2, s.2.2.2.2.1, s.2.2.2.2.2) μ' ∧ out z.1 r codes k0 μ'
def okTV (c : Nat) (s : Sta) (codes : List Nat) (k0 : Nat → Int32) (fc : Option (Xr × Sg)) (fm : Option Sg) : Prop := ∃ z μ', fc = some z ∧ fm = some μ' ∧ Inv (c + 1) (s.1, s.2.1, s.2.2.1, z.2, s.2.2.2.2.1, s.2.2.2.2.2) μ' ∧ out z.1 0 codes k0 μ'
def okY (c : Nat) (s : Sta) (codes : List Nat) (k0 : Nat → Int32) (fc : Option (Xr × Sg × Nat)) (fm : Option (Int32 × Sg)) : Prop := ∃ (z : Xr × Sg) (d : Nat) (r : Int32) (μ' : Sg), fc = some (z.1, z.2, d) ∧ fm = some (r, μ') ∧ Inv (c + 1) (s.1 + d, s.2.1, s.2.2.1, z.2, s.2.2.2.2.1, s.2.2.2.2.2) μ' ∧ out z.1 r codes k0 μ'
def okU (c : Nat) (s : Sta) (codes : List Nat) (k0 : Nat → Int32) (fc : Option (Xr × Sg × Nat)) (fm : Option (Int32 × Sg)) : Prop := ∃ (z : Xr × Sg) (d : Nat) (r : Int32) (μ' : Sg), fc = some (z.1, z.2, d) ∧ fm = some (r, μ') ∧ Inv (c + 1) (s.1, s.2.1 + d, s.2.2.1, uS z.2, nS z.2, s.2.2.2.2.2) μ' ∧ out z.1 r codes k0 μ'
def okN (c : Nat) (s : Sta) (codes : List Nat) (k0 : Nat → Int32) (fc : Option (Xr × Sg × Nat)) (fm : Option (Int32 × Sg)) : Prop := ∃ (z : Xr × Sg) (d : Nat) (r : Int32) (μ' : Sg), fc = some (z.1, z.2, d) ∧ fm = some (r, μ') ∧ ((z.1 = .inl r ∧ μ' 0 0 = 0 ∧ Inv (c + 1) (s.2.1 + d, s.1, s.2.2.1, uS z.2, nS z.2, s.2.2.2.2.2) μ') ∨ ∃ E, z.1 = .inr E ∧ E ∈ codes ∧ μ' 0 0 = k0 E ∧ Inv (c + 1) (s.1, s.2.1 + d, s.2.2.1, uS z.2, nS z.2, s.2.2.2.2.2) μ')
def okIm (c : Nat) (s : Sta) (fc : Option (Xr × Sg × Nat)) (fm : Option Sg) : Prop := ∃ (z : Xr × Sg) (d : Nat) (μ' : Sg), fc = some (z.1, z.2, d) ∧ fm = some μ' ∧ z.1 = .inl 0 ∧ μ' 0 0 = 0 ∧ Inv (c + 1) (s.1, s.2.1, s.2.2.1 + d, uS z.2, s.2.2.2.2.1, nS z.2) μ'
def okBk (c : Nat) (s : Sta) (fc : Option (Xr × Sg × Nat)) (fm : Option (Int32 × Sg)) : Prop := ∃ (z : Xr × Sg) (d : Nat) (r : Int32) (μ' : Sg), fc = some (z.1, z.2, d) ∧ fm = some (r, μ') ∧ z.1 = .inl r ∧ μ' 0 0 = 0 ∧ Inv (c + 1) (s.1 + d, s.2.1, s.2.2.1, uS z.2, s.2.2.2.2.1, nS z.2) μ'
variable {Inv}
section PF
variable {l : Launch} {D : va_G} {tys : List (ClassId × FieldType)} {ka kv : Nat → Nat} {fv : Value} {y : MethodName} {b : ByteArray} {n rf rl k d c : Nat} {rt : Option FieldType} {as : List Value} {cI cB cL : ClassId} {s : Sta} {codes : List Nat} {k0 : Nat → Int32} {r : Int32} {μ' : Sg} {z : Xr × Sg}
theorem opT (hbd : ∀ c s μ, Inv c s μ → tot s ≤ 200000) (hk : k ≤ 4) (hct : ∀ ad tr kt pa, metXI l D tys ka kv fv y b n rt rf rl k (wT cI cB ad tr kt pa s.1) (.ref (ad 36) :: as) s.2.2.2.1 z) (hi : Inv (c + 1) (s.1, s.2.1, s.2.2.1, z.2, s.2.2.2.2.1, s.2.2.2.2.2) μ') (ho : out z.1 r codes k0 μ') : opI Inv l D tys ka kv fv y b n rt rf rl cI cB c s as codes k0 r μ' := by
  refine ⟨k, 6 * k, 0, by omega, by omega, by have := hbd _ _ _ hi; simp only [tot] at this ⊢; omega, fun lay => ?_⟩
  refine ((((hct lay.1 (lay.2.1 0) (lay.2.2.1 0) lay.2.2.2.1).G).frame (wN cI lay.2.1 lay.2.2.2.2.1 s.2.1 s.2.2.2.2.1)).frame (wN cI lay.2.2.1 lay.2.2.2.2.2 s.2.2.1 s.2.2.2.2.2)).perm sw_rfl (fun v X' h => ?_) (fun E X' h => ?_)
  · obtain ⟨_, ⟨_, ⟨u, rfl, rfl⟩, rfl⟩, rfl⟩ := h
    rcases ho with ⟨h1, h2⟩ | ⟨E, h1, -⟩
    · exact ⟨_, sw_rfl, Sum.inl.inj h1, h2, lay, (s.1, s.2.1, s.2.2.1, u, s.2.2.2.2.1, s.2.2.2.2.2), rfl, rfl, rfl, hi⟩
    · cases h1
  · obtain ⟨_, ⟨_, ⟨u, rfl, rfl⟩, rfl⟩, rfl⟩ := h
    rcases ho with ⟨h1, h2⟩ | ⟨E, h1, h2, h3⟩
    · cases h1
    · cases Sum.inr.inj h1
      exact ⟨_, sw_rfl, h2, h3, lay, (s.1, s.2.1, s.2.2.1, u, s.2.2.2.2.1, s.2.2.2.2.2), rfl, rfl, rfl, hi⟩
theorem opTV (hbd : ∀ c s μ, Inv c s μ → tot s ≤ 200000) (hk : k ≤ 4) (hct : ∀ ad tr kt pa, metXV l D tys ka kv fv y b n rf rl k (wT cI cB ad tr kt pa s.1) (.ref (ad 36) :: as) s.2.2.2.1 z) (hi : Inv (c + 1) (s.1, s.2.1, s.2.2.1, z.2, s.2.2.2.2.1, s.2.2.2.2.2) μ') (ho : out z.1 0 codes k0 μ') : opV Inv l D tys ka kv fv y b n rf rl cI cB c s as codes k0 μ' := by
  refine ⟨k, 6 * k, 0, by omega, by omega, by have := hbd _ _ _ hi; simp only [tot] at this ⊢; omega, fun lay => ?_⟩
  refine ((((hct lay.1 (lay.2.1 0) (lay.2.2.1 0) lay.2.2.2.1).G).frame (wN cI lay.2.1 lay.2.2.2.2.1 s.2.1 s.2.2.2.2.1)).frame (wN cI lay.2.2.1 lay.2.2.2.2.2 s.2.2.1 s.2.2.2.2.2)).perm sw_rfl (fun X' h => ?_) (fun E X' h => ?_)
  · obtain ⟨_, ⟨_, ⟨u, rfl, rfl⟩, rfl⟩, rfl⟩ := h
    rcases ho with ⟨h1, h2⟩ | ⟨E, h1, -⟩
    · exact ⟨_, sw_rfl, h2, lay, (s.1, s.2.1, s.2.2.1, u, s.2.2.2.2.1, s.2.2.2.2.2), rfl, rfl, rfl, hi⟩
    · cases h1
  · obtain ⟨_, ⟨_, ⟨u, rfl, rfl⟩, rfl⟩, rfl⟩ := h
    rcases ho with ⟨h1, h2⟩ | ⟨E, h1, h2, h3⟩
    · cases h1
    · cases Sum.inr.inj h1
      exact ⟨_, sw_rfl, h2, h3, lay, (s.1, s.2.1, s.2.2.1, u, s.2.2.2.2.1, s.2.2.2.2.2), rfl, rfl, rfl, hi⟩
theorem opY (hbd : ∀ c s μ, Inv c s μ → tot s ≤ 200000) (hk : k ≤ 4) (hct : ∀ ad tr kt, metYI l D tys ka kv fv y b n rt rf rl k (wT cI cB ad tr kt) (.ref (ad 36) :: as) s.2.2.2.1 s.1 z d) (hi : Inv (c + 1) (s.1 + d, s.2.1, s.2.2.1, z.2, s.2.2.2.2.1, s.2.2.2.2.2) μ') (ho : out z.1 r codes k0 μ') : opI Inv l D tys ka kv fv y b n rt rf rl cI cB c s as codes k0 r μ' := by
  refine ⟨k + d, 6 * k + 2 * d, d, by omega, by omega, by have := hbd _ _ _ hi; simp only [tot] at this ⊢; omega, fun lay => ?_⟩
  have ht : tot (s.1 + d, s.2.1, s.2.2.1, z.2, s.2.2.2.2.1, s.2.2.2.2.2) = tot s + d := by simp only [tot]; omega
  refine ((((hct lay.1 (lay.2.1 0) (lay.2.2.1 0)).G lay.2.2.2.1).frame (wN cI lay.2.1 lay.2.2.2.2.1 s.2.1 s.2.2.2.2.1)).frame (wN cI lay.2.2.1 lay.2.2.2.2.2 s.2.2.1 s.2.2.2.2.2)).perm sw_rfl (fun v X' h => ?_) (fun E X' h => ?_)
  · obtain ⟨_, ⟨_, ⟨p1, u, rfl, rfl⟩, rfl⟩, rfl⟩ := h
    rcases ho with ⟨h1, h2⟩ | ⟨E, h1, -⟩
    · exact ⟨_, sw_rfl, Sum.inl.inj h1, h2, (lay.1, lay.2.1, lay.2.2.1, p1, lay.2.2.2.2.1, lay.2.2.2.2.2), _, rfl, rfl, ht, hi⟩
    · cases h1
  · obtain ⟨_, ⟨_, ⟨p1, u, rfl, rfl⟩, rfl⟩, rfl⟩ := h
    rcases ho with ⟨h1, h2⟩ | ⟨E, h1, h2, h3⟩
    · cases h1
    · cases Sum.inr.inj h1
      exact ⟨_, sw_rfl, h2, h3, (lay.1, lay.2.1, lay.2.2.1, p1, lay.2.2.2.2.1, lay.2.2.2.2.2), _, rfl, rfl, ht, hi⟩
theorem mA_72 (a t : Nat → Nat) : mA a t 72 = a 36 := rfl
theorem opU (hbd : ∀ c s μ, Inv c s μ → tot s ≤ 200000) (hk : k ≤ 4) (hct : ∀ ad kt p0, metYI l D tys ka kv fv y b n rt rf rl k (wU cI cB ad kt p0 s.1) (.ref (ad 72) :: as) (mS s.2.2.2.1 s.2.2.2.2.1) s.2.1 z d) (hi : Inv (c + 1) (s.1, s.2.1 + d, s.2.2.1, uS z.2, nS z.2, s.2.2.2.2.2) μ') (ho : out z.1 r codes k0 μ') : opI Inv l D tys ka kv fv y b n rt rf rl cI cB c s as codes k0 r μ' := by
  refine ⟨k + d, 6 * k + 2 * d, d, by omega, by omega, by have := hbd _ _ _ hi; simp only [tot] at this ⊢; omega, fun lay => ?_⟩
  have ht : tot (s.1, s.2.1 + d, s.2.2.1, uS z.2, nS z.2, s.2.2.2.2.2) = tot s + d := by simp only [tot]; omega
  have h0 := (hct (mA lay.1 lay.2.1) (lay.2.2.1 0) lay.2.2.2.1).G lay.2.2.2.2.1
  have h1 := h0.perm (RI' := fun v Z' => ∃ p1 u, z = (.inl v, u) ∧ Z' = wT cI cB (uA (mA lay.1 lay.2.1)) (nA (mA lay.1 lay.2.1) 0) (lay.2.2.1 0) lay.2.2.2.1 s.1 (uS u) ++ wN cI (nA (mA lay.1 lay.2.1)) p1 (s.2.1 + d) (nS u)) (RX' := fun E Z' => ∃ p1 u, z = (.inr E, u) ∧ Z' = wT cI cB (uA (mA lay.1 lay.2.1)) (nA (mA lay.1 lay.2.1) 0) (lay.2.2.1 0) lay.2.2.2.1 s.1 (uS u) ++ wN cI (nA (mA lay.1 lay.2.1)) p1 (s.2.1 + d) (nS u)) (sw_TU D cI cB lay.1 lay.2.1 (lay.2.2.1 0) lay.2.2.2.1 s.1 lay.2.2.2.2.1 s.2.1 s.2.2.2.1 s.2.2.2.2.1)
    (fun v X' h => by obtain ⟨p1, u, e1, rfl⟩ := h; exact ⟨_, sw_UT D cI cB _ _ _ _ _ _ _, p1, u, e1, rfl⟩) (fun E X' h => by obtain ⟨p1, u, e1, rfl⟩ := h; exact ⟨_, sw_UT D cI cB _ _ _ _ _ _ _, p1, u, e1, rfl⟩)
  refine (h1.frame (wN cI lay.2.2.1 lay.2.2.2.2.2 s.2.2.1 s.2.2.2.2.2)).perm sw_rfl (fun v X' h => ?_) (fun E X' h => ?_)
  · obtain ⟨_, ⟨p1, u, rfl, rfl⟩, rfl⟩ := h
    rcases ho with ⟨h1, h2⟩ | ⟨E, h1, -⟩
    · exact ⟨_, sw_rfl, Sum.inl.inj h1, h2, (uA (mA lay.1 lay.2.1), nA (mA lay.1 lay.2.1), lay.2.2.1, lay.2.2.2.1, p1, lay.2.2.2.2.2), _, rfl, rfl, ht, hi⟩
    · cases h1
  · obtain ⟨_, ⟨p1, u, rfl, rfl⟩, rfl⟩ := h
    rcases ho with ⟨h1, h2⟩ | ⟨E, h1, h2, h3⟩
    · cases h1
    · cases Sum.inr.inj h1
      exact ⟨_, sw_rfl, h2, h3, (uA (mA lay.1 lay.2.1), nA (mA lay.1 lay.2.1), lay.2.2.1, lay.2.2.2.1, p1, lay.2.2.2.2.2), _, rfl, rfl, ht, hi⟩
theorem opN {n rf rl k : Nat} {rt : Option FieldType} (hbd : ∀ c s μ, Inv c s μ → tot s ≤ 200000) (hk : k ≤ 4) (hct : ∀ ad kt p0, metN l D cI cB cL ka kv fv n rt rf rl k ad kt p0 s.1 (mS s.2.2.2.1 s.2.2.2.2.1) s.2.1 z d) (ho : (z.1 = .inl r ∧ μ' 0 0 = 0 ∧ Inv (c + 1) (s.2.1 + d, s.1, s.2.2.1, uS z.2, nS z.2, s.2.2.2.2.2) μ') ∨ ∃ E, z.1 = .inr E ∧ E ∈ codes ∧ μ' 0 0 = k0 E ∧ Inv (c + 1) (s.1, s.2.1 + d, s.2.2.1, uS z.2, nS z.2, s.2.2.2.2.2) μ') : opI Inv l D (tyl cI cB cL) ka kv fv yX11_net cX11_net n rt rf rl cI cB c s [] codes k0 r μ' := by
  refine ⟨k + d, 6 * k + 2 * d, d, by omega, by omega, by rcases ho with ⟨_, _, hi⟩ | ⟨_, _, _, _, hi⟩ <;> (have := hbd _ _ _ hi; simp only [tot] at this ⊢; omega), fun lay => ?_⟩
  have ht : tot (s.1, s.2.1 + d, s.2.2.1, uS z.2, nS z.2, s.2.2.2.2.2) = tot s + d := by simp only [tot]; omega
  have ht2 : tot (s.2.1 + d, s.1, s.2.2.1, uS z.2, nS z.2, s.2.2.2.2.2) = tot s + d := by simp only [tot]; omega
  have h0 := (hct (mA lay.1 lay.2.1) (lay.2.2.1 0) lay.2.2.2.1).G lay.2.2.2.2.1
  have h1 := h0.perm (RI' := fun v Z' => ∃ p1 u, z = (.inl v, u) ∧ Z' = wT cI cB (uA (adS (mA lay.1 lay.2.1))) (nA (adS (mA lay.1 lay.2.1)) 0) (lay.2.2.1 0) p1 (s.2.1 + d) (uS u) ++ wN cI (nA (adS (mA lay.1 lay.2.1))) lay.2.2.2.1 s.1 (nS u)) (RX' := fun E Z' => ∃ p1 u, z = (.inr E, u) ∧ Z' = wT cI cB (uA (mA lay.1 lay.2.1)) (nA (mA lay.1 lay.2.1) 0) (lay.2.2.1 0) lay.2.2.2.1 s.1 (uS u) ++ wN cI (nA (mA lay.1 lay.2.1)) p1 (s.2.1 + d) (nS u)) (sw_TU D cI cB lay.1 lay.2.1 (lay.2.2.1 0) lay.2.2.2.1 s.1 lay.2.2.2.2.1 s.2.1 s.2.2.2.1 s.2.2.2.2.1)
    (fun v X' h => by obtain ⟨p1, u, e1, rfl⟩ := h; exact ⟨_, sw_UT D cI cB _ _ _ _ _ _ _, p1, u, e1, rfl⟩) (fun E X' h => by obtain ⟨p1, u, e1, rfl⟩ := h; exact ⟨_, sw_UT D cI cB _ _ _ _ _ _ _, p1, u, e1, rfl⟩)
  refine (h1.frame (wN cI lay.2.2.1 lay.2.2.2.2.2 s.2.2.1 s.2.2.2.2.2)).perm sw_rfl (fun v X' h => ?_) (fun E X' h => ?_)
  · obtain ⟨_, ⟨p1, u, rfl, rfl⟩, rfl⟩ := h
    rcases ho with ⟨h1, h2, hi⟩ | ⟨E, h1, -⟩
    · exact ⟨_, sw_rfl, Sum.inl.inj h1, h2, (uA (adS (mA lay.1 lay.2.1)), nA (adS (mA lay.1 lay.2.1)), lay.2.2.1, p1, lay.2.2.2.1, lay.2.2.2.2.2), _, rfl, rfl, ht2, hi⟩
    · cases h1
  · obtain ⟨_, ⟨p1, u, rfl, rfl⟩, rfl⟩ := h
    rcases ho with ⟨h1, h2⟩ | ⟨E, h1, h2, h3, hi⟩
    · cases h1
    · cases Sum.inr.inj h1
      exact ⟨_, sw_rfl, h2, h3, (uA (mA lay.1 lay.2.1), nA (mA lay.1 lay.2.1), lay.2.2.1, lay.2.2.2.1, p1, lay.2.2.2.2.2), _, rfl, rfl, ht, hi⟩
theorem opIm (hbd : ∀ c s μ, Inv c s μ → tot s ≤ 200000) (hk : k ≤ 4) (hct : ∀ ad tr p0, metYV l D tys ka kv fv y b n rf rl k (wV cI cB ad tr p0 s.1) (.ref (ad 72) :: as) (mS s.2.2.2.1 s.2.2.2.2.2) s.2.2.1 z d) (hi : Inv (c + 1) (s.1, s.2.1, s.2.2.1 + d, uS z.2, s.2.2.2.2.1, nS z.2) μ') (ho : z.1 = .inl 0 ∧ μ' 0 0 = 0) : opV Inv l D tys ka kv fv y b n rf rl cI cB c s as [] (fun _ => 0) μ' := by
  refine ⟨k + d, 6 * k + 2 * d, d, by omega, by omega, by have := hbd _ _ _ hi; simp only [tot] at this ⊢; omega, fun lay => ?_⟩
  have ht : tot (s.1, s.2.1, s.2.2.1 + d, uS z.2, s.2.2.2.2.1, nS z.2) = tot s + d := by simp only [tot]; omega
  have h0 := (hct (mA lay.1 lay.2.2.1) (lay.2.1 0) lay.2.2.2.1).G lay.2.2.2.2.2
  have h1 := h0.perm (RV' := fun Z' => ∃ p1 u, z = (.inl 0, u) ∧ Z' = wT cI cB (uA (mA lay.1 lay.2.2.1)) (lay.2.1 0) (nA (mA lay.1 lay.2.2.1) 0) lay.2.2.2.1 s.1 (uS u) ++ wN cI (nA (mA lay.1 lay.2.2.1)) p1 (s.2.2.1 + d) (nS u)) (RX' := fun _ _ => False) (sw_TV D cI cB lay.1 lay.2.2.1 (lay.2.1 0) lay.2.2.2.1 s.1 lay.2.2.2.2.2 s.2.2.1 s.2.2.2.1 s.2.2.2.2.2)
    (fun X' h => by obtain ⟨p1, u, e1, rfl⟩ := h; exact ⟨_, sw_VT D cI cB _ _ _ _ _ _ _, p1, u, e1, rfl⟩) (fun E X' h => by obtain ⟨p1, u, e1, rfl⟩ := h; rw [e1] at ho; cases ho.1)
  refine (h1.frame (wN cI lay.2.1 lay.2.2.2.2.1 s.2.1 s.2.2.2.2.1)).perm sw_swap (fun X' h => ?_) (fun E X' h => ?_)
  · obtain ⟨_, ⟨p1, u, rfl, rfl⟩, rfl⟩ := h
    exact ⟨_, sw_swap, ho.2, (uA (mA lay.1 lay.2.2.1), lay.2.1, nA (mA lay.1 lay.2.2.1), lay.2.2.2.1, lay.2.2.2.2.1, p1), _, rfl, rfl, ht, hi⟩
  · obtain ⟨_, h, -⟩ := h
    exact h.elim
theorem opBk (hbd : ∀ c s μ, Inv c s μ → tot s ≤ 200000) (hk : k ≤ 4) (hct : ∀ ad tr p0, metYI l D tys ka kv fv y b n rt rf rl k (wZ cI cB ad tr p0 s.2.2.1) (.ref (ad 72) :: as) (mS s.2.2.2.1 s.2.2.2.2.2) s.1 z d) (hi : Inv (c + 1) (s.1 + d, s.2.1, s.2.2.1, uS z.2, s.2.2.2.2.1, nS z.2) μ') (ho : z.1 = .inl r ∧ μ' 0 0 = 0) : opI Inv l D tys ka kv fv y b n rt rf rl cI cB c s as [] (fun _ => 0) r μ' := by
  refine ⟨k + d, 6 * k + 2 * d, d, by omega, by omega, by have := hbd _ _ _ hi; simp only [tot] at this ⊢; omega, fun lay => ?_⟩
  have ht : tot (s.1 + d, s.2.1, s.2.2.1, uS z.2, s.2.2.2.2.1, nS z.2) = tot s + d := by simp only [tot]; omega
  have h0 := (hct (mA lay.1 lay.2.2.1) (lay.2.1 0) lay.2.2.2.2.2).G lay.2.2.2.1
  have h1 := h0.perm (RI' := fun v Z' => ∃ p1 u, z = (.inl v, u) ∧ Z' = wT cI cB (uA (mA lay.1 lay.2.2.1)) (lay.2.1 0) (nA (mA lay.1 lay.2.2.1) 0) p1 (s.1 + d) (uS u) ++ wN cI (nA (mA lay.1 lay.2.2.1)) lay.2.2.2.2.2 s.2.2.1 (nS u)) (RX' := fun _ _ => False) (sw_TZ D cI cB lay.1 lay.2.2.1 (lay.2.1 0) lay.2.2.2.1 s.1 lay.2.2.2.2.2 s.2.2.1 s.2.2.2.1 s.2.2.2.2.2)
    (fun v X' h => by obtain ⟨p1, u, e1, rfl⟩ := h; exact ⟨_, sw_ZT D cI cB _ _ _ _ _ _ _, p1, u, e1, rfl⟩) (fun E X' h => by obtain ⟨p1, u, e1, rfl⟩ := h; rw [e1] at ho; cases ho.1)
  refine (h1.frame (wN cI lay.2.1 lay.2.2.2.2.1 s.2.1 s.2.2.2.2.1)).perm sw_swap (fun v X' h => ?_) (fun E X' h => ?_)
  · obtain ⟨_, ⟨p1, u, rfl, rfl⟩, rfl⟩ := h
    exact ⟨_, sw_swap, Sum.inl.inj ho.1, ho.2, (uA (mA lay.1 lay.2.2.1), lay.2.1, nA (mA lay.1 lay.2.2.1), p1, lay.2.2.2.2.1, lay.2.2.2.2.2), _, rfl, rfl, ht, hi⟩
  · obtain ⟨_, h, -⟩ := h
    exact h.elim
end PF
end OP
/-! rows of the law's level: the model's calls, the wrappers' -/
def metH (l : Launch) (D : va_G) (tys : List (ClassId × FieldType)) (ka kv : Nat → Nat) (fv : Value) (y : MethodName) (b : ByteArray) (n : Nat) (rt : Option FieldType) (rf rl : Nat) (as : List Value) (X : va_W) (RI : Int32 → va_W → Prop) : Prop :=
  ∀ sz, Met l y (Cond.code y b n rt :: gw) (rmO rf rl) (va_Pc as (preK D tys (cw X) z0 ka kv fv sz)) (qG D tys X sz RI) 0 0 (va_A X sz)
def metHV (l : Launch) (D : va_G) (tys : List (ClassId × FieldType)) (ka kv : Nat → Nat) (fv : Value) (y : MethodName) (b : ByteArray) (n : Nat) (rf rl : Nat) (as : List Value) (X : va_W) (RV : va_W → Prop) : Prop :=
  ∀ sz, Met l y (Cond.code y b n none :: gw) (rmO rf rl) (va_Pc as (preK D tys (cw X) z0 ka kv fv sz)) (qGV D tys X sz RV) 0 0 (va_A X sz)
section HR
variable {p : Program} {l : Launch} {e : Env} {R : Room} {s : State} {m : MethodId} {args : Array Value} {below : List Frame} {meth : Method} {c : Code} {H : Heap} {locs : List Loc} {cells slots : Nat} {Q : State → Prop}
variable {D : va_G} {tys : List (ClassId × FieldType)} {A : Nat → Prop} {own : String} {cc : ByteArray} {nL : Nat} {ret : Option FieldType} {pc : Nat} {ls : Array Slot} {rest : List Value} {X X' Y : va_W} {wd : Sg → va_W} {σ σ' : Sg} {r : Int32}
variable {y : MethodName} {b : ByteArray} {n idx rf rl na mc ms : Nat} {rt : Option FieldType} {As as : List Value} {ka kv : Nat → Nat} {fv : Value} {RI : Int32 → va_W → Prop} {RV : va_W → Prop}
theorem metI.toH (h : metI l D tys y b n rt rf rl wd as σ r σ') : metH l D tys ka kv fv y b n rt rf rl as (wd σ) (fun x W' => x = r ∧ W' = wd σ') := fun sz => (h sz).mono (fun a s hp => ⟨hp.1, hp.2.1⟩) (fun a s o t hq => by
  obtain ⟨⟨x, u, h1, ⟨rfl, rfl⟩, h3⟩, hF⟩ := hq
  exact ⟨⟨x, wd u, h1, ⟨rfl, rfl⟩, h3⟩, hF⟩)
theorem metIK.toH (h : metIK l D tys ka kv fv y b n rt rf rl wd as σ r σ') : metH l D tys ka kv fv y b n rt rf rl as (wd σ) (fun x W' => x = r ∧ W' = wd σ') := fun sz => (h sz).mono (fun a s hp => hp) (fun a s o t hq => by
  obtain ⟨⟨x, u, h1, ⟨rfl, rfl⟩, h3⟩, hF⟩ := hq
  exact ⟨⟨x, wd u, h1, ⟨rfl, rfl⟩, h3⟩, hF⟩)
theorem metV.toH (h : metV l D tys y b n rf rl wd as σ σ') : metHV l D tys ka kv fv y b n rf rl as (wd σ) (fun W' => W' = wd σ') := fun sz => (h sz).mono (fun a s hp => ⟨hp.1, hp.2.1⟩) (fun a s o t hq => by
  obtain ⟨⟨u, h1, rfl, h3⟩, hF⟩ := hq
  exact ⟨⟨wd u, h1, rfl, h3⟩, hF⟩)
theorem h_callVi (C : cx D tys A own cc nL ret p s m args c meth) (Kx : kx ka kv fv A s s.heap) (S : st D (cw (X ++ Y)) A s z0 H locs) {q ao ci : Nat} {fs : List Value} (O : X[q]? = some (ao, .inr (ci, fs))) {Cn : String} {T : u_T} {N : Nat} (hc : vwCl[ci]? = some (Cn, T, N)) (hM : metH l D tys ka kv fv y b n rt rf rl (.ref ao :: As) X RI) (h1 : Cond.methodLink own idx y ∈ gw) (h2 : Cond.instanceMethod y ∈ gw) (h3 : Cond.selects Cn y y ∈ gw) (h4 : Cond.initialized Cn ∈ gw) (h5 : Cond.code y b n rt ∈ gw)
    (hd : y.cls = Cn ∧ y.cls ≠ "java/lang/invoke/MethodHandle" ∧ y.cls ≠ "java/lang/invoke/VarHandle" ∧ (parseMethodDescriptor y.desc).map (fun d => d.parameters.length) = some na) (hR : rf + 1 ≤ R.frames ∧ 8 + (n + 11) + rl ≤ R.locals) (hna : As.length = na) (hls : ls.size = nL) (hcap : cells ≤ R.cells ∧ slots ≤ R.slots) (hre : (rest.map fun v => v.category).sum ≤ 8) (hdg : decode cc pc = .ok (.invokevirtual idx, 3)) {sk : List Value} (hsk : sk = As.reverse ++ .ref ao :: rest)
    (kk : ∀ (r : Int32) (X' : va_W) (H1 : Heap) (locs1 : List Loc), RI r X' → st D (cw (X' ++ Y)) A s z0 H1 locs1 → W p l e R s m args below meth c H1 locs1 cells slots Q (F0 m (pc + 3) ls (.int r :: rest))) : W p l e R s m args below meth c H locs cells slots Q (F0 m pc ls sk) := by
  subst hsk
  refine va_calli (va_runV (As := As) (rest := rest) ⟨C.1, C.2.1, C.2.2.1, C.2.2.2.1, C.2.2.2.2.1⟩ (hM H.size) (cwV na C.2.2.2.2.1 (gg_V h1 h2 h3 h4 h5) rfl rfl rfl hd hR) ⟨preK_blind, va_recv C.2.2.2.2.2.2.2.1 (g_P S) (ci := ci) (q0 := q) hc O, g_pre C Kx S⟩ rfl hna hls rfl (lv_room hre) hdg hcap) S.2.2 (fun z _ h => g_own C S z h) (g_own C S) (fun r u t H1 locs1 ht hvm hw hB hz hk hS => ?_)
  exact kk r u H1 locs1 hw (g_after C S ht hB hk hS)
theorem h_callVv (C : cx D tys A own cc nL ret p s m args c meth) (Kx : kx ka kv fv A s s.heap) (S : st D (cw (X ++ Y)) A s z0 H locs) {q ao ci : Nat} {fs : List Value} (O : X[q]? = some (ao, .inr (ci, fs))) {Cn : String} {T : u_T} {N : Nat} (hc : vwCl[ci]? = some (Cn, T, N)) (hM : metHV l D tys ka kv fv y b n rf rl (.ref ao :: As) X RV) (h1 : Cond.methodLink own idx y ∈ gw) (h2 : Cond.instanceMethod y ∈ gw) (h3 : Cond.selects Cn y y ∈ gw) (h4 : Cond.initialized Cn ∈ gw) (h5 : Cond.code y b n none ∈ gw)
    (hd : y.cls = Cn ∧ y.cls ≠ "java/lang/invoke/MethodHandle" ∧ y.cls ≠ "java/lang/invoke/VarHandle" ∧ (parseMethodDescriptor y.desc).map (fun d => d.parameters.length) = some na) (hR : rf + 1 ≤ R.frames ∧ 8 + (n + 11) + rl ≤ R.locals) (hna : As.length = na) (hls : ls.size = nL) (hcap : cells ≤ R.cells ∧ slots ≤ R.slots) (hre : (rest.map fun v => v.category).sum ≤ 8) (hdg : decode cc pc = .ok (.invokevirtual idx, 3)) {sk : List Value} (hsk : sk = As.reverse ++ .ref ao :: rest)
    (kk : ∀ (X' : va_W) (H1 : Heap) (locs1 : List Loc), RV X' → st D (cw (X' ++ Y)) A s z0 H1 locs1 → W p l e R s m args below meth c H1 locs1 cells slots Q (F0 m (pc + 3) ls rest)) : W p l e R s m args below meth c H locs cells slots Q (F0 m pc ls sk) := by
  subst hsk
  refine va_callv (va_runV (As := As) (rest := rest) ⟨C.1, C.2.1, C.2.2.1, C.2.2.2.1, C.2.2.2.2.1⟩ (hM H.size) (cwV na C.2.2.2.2.1 (gg_V h1 h2 h3 h4 h5) rfl rfl rfl hd hR) ⟨preK_blind, va_recv C.2.2.2.2.2.2.2.1 (g_P S) (ci := ci) (q0 := q) hc O, g_pre C Kx S⟩ rfl hna hls rfl (lv_room hre) hdg hcap) S.2.2 (fun z _ h => g_own C S z h) (g_own C S) (fun u t H1 locs1 ht hvm hw hB hz hk hS => ?_)
  exact kk u H1 locs1 hw (g_after C S ht hB hk hS)
theorem gg_SW {own : String} {idx : Nat} {y : MethodName} {b : ByteArray} {n : Nat} {r : Option FieldType} {hh : List (Nat × Nat × Nat × Nat)} (h1 : Cond.methodLink own idx y ∈ gw) (h2 : Cond.static y ∈ gw) (h4 : Cond.initialized y.cls ∈ gw) (h5 : Cond.codeWith y b n r hh ∈ gw) : GoodIn gw (va_wsS own idx y (Cond.codeWith y b n r hh :: gw)) := by
  intro w hw
  have : w ∈ gw := by
    rcases List.mem_append.mp hw with h | h
    · simp only [List.mem_cons, List.not_mem_nil, or_false] at h
      rcases h with rfl | rfl | rfl
      · exact h1
      · exact h2
      · exact h4
    · rcases List.mem_cons.mp h with rfl | h
      · exact h5
      · exact h
  exact ⟨this, good_of_word (gw_good this)⟩
theorem h_callSW {hh : List (Nat × Nat × Nat × Nat)} (C : cx D tys A own cc nL ret p s m args c meth) (Kx : kx ka kv fv A s s.heap) (Np : nps s) (S : st D (cw (X ++ Y)) A s z0 H locs) (hM : metW l D tys ka kv fv y b n rt hh rf rl mc ms As X RI) (h1 : Cond.methodLink own idx y ∈ gw) (h2 : Cond.static y ∈ gw) (h4 : Cond.initialized y.cls ∈ gw) (h5 : Cond.codeWith y b n rt hh ∈ gw)
    (hd : y.cls ≠ "java/lang/invoke/MethodHandle" ∧ y.cls ≠ "java/lang/invoke/VarHandle" ∧ (parseMethodDescriptor y.desc).map (fun d => d.parameters.length) = some na) (hR : rf + 1 ≤ R.frames ∧ 8 + (n + 11) + rl ≤ R.locals) (hna : As.length = na) (hls : ls.size = nL) (hcap : cells + mc ≤ R.cells ∧ slots + ms ≤ R.slots) (hre : (rest.map fun v => v.category).sum ≤ 8) (hdg : decode cc pc = .ok (.invokestatic idx, 3)) {sk : List Value} (hsk : sk = As.reverse ++ rest)
    (kk : ∀ (r : Int32) (X' : va_W) (H1 : Heap) (locs1 : List Loc), RI r X' → st D (cw (X' ++ Y)) A s z0 H1 locs1 → W p l e R s m args below meth c H1 locs1 (cells + mc) (slots + ms) Q (F0 m (pc + 3) ls (.int r :: rest))) : W p l e R s m args below meth c H locs cells slots Q (F0 m pc ls sk) := by
  subst hsk
  refine va_calli (vx_runSW (As := As) (rest := rest) ⟨C.1, C.2.1, C.2.2.1, C.2.2.2.1, C.2.2.2.2.1⟩ (hM H.size) (vx_cwSW na C.2.2.2.2.1 (gg_SW h1 h2 h4 h5) rfl rfl rfl hd hR) ⟨preW_blind, fun U hU hW => ⟨rfl, (g_pre (as := As) C Kx S U hU hW).2, Np.moved hW.alike⟩⟩ rfl hna hls rfl (lv_room hre) hdg hcap) S.2.2 (fun z _ h => g_own C S z h) (g_own C S) (fun r u t H1 locs1 ht hvm hw hB hz hk hS => ?_)
  exact kk r u H1 locs1 hw (g_after C S ht hB hk hS)
end HR
