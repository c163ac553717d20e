/-! contracts in a wider world -/
theorem kx_narrow {ka kv : Nat → Nat} {fv : Value} {A A' : Nat → Prop} {U : State} {H : Heap} (K : kx ka kv fv A U H) (hA : ∀ q, A' q → A q) : kx ka kv fv A' U H := by
  obtain ⟨k1, k2, k3, ⟨k4, k4b⟩, k5, k6, k7⟩ := K
  refine ⟨fun i hi => ?_, k2, k3.narrow hA, ⟨k4.narrow hA, k4b⟩, k5.narrow hA, k6.narrow hA, k7⟩
  obtain ⟨a1, a2, a3, a4⟩ := k1 i hi
  exact ⟨a1.narrow hA, a2.narrow hA, a3.narrow hA, a4.narrow hA⟩
/-- from the world Z the world X can be had -/
def sw (D : va_G) (Z X : va_W) : Prop := (∀ H, va_P D vwCl Z H → va_P D vwCl X H) ∧ (∀ A, va_D A Z → va_D A X) ∧ ∀ sz q, va_A X sz q → va_A Z sz q
theorem sw_of {D : va_G} {Z X : va_W} (is : List Nat) (hn : va_nd is = true) (hs : is.map (fun i => Z[i]?) = X.map some) : sw D Z X := by
  refine ⟨fun H h => h.sub is (fm_of_map hs), fun A h => h.sub is hn hs, fun sz q h => ?_⟩
  rcases h with ⟨k, e, hk⟩ | h
  · obtain ⟨i, -, h2⟩ := va_in_of is hs hk
    exact Or.inl ⟨i, e, h2⟩
  · exact Or.inr h
theorem sw_rfl {D : va_G} {X : va_W} : sw D X X := ⟨fun _ h => h, fun _ h => h, fun _ _ h => h⟩
theorem sw_trans {D : va_G} {X Y Z : va_W} (h1 : sw D X Y) (h2 : sw D Y Z) : sw D X Z := ⟨fun H h => h2.1 H (h1.1 H h), fun A h => h2.2.1 A (h1.2.1 A h), fun sz q h => h1.2.2 sz q (h2.2.2 sz q h)⟩
theorem va_A_mem {X : va_W} {sz q : Nat} : va_A X sz q ↔ (∃ e, (q, e) ∈ X) ∨ sz ≤ q := by
  constructor
  · rintro (⟨k, e, h⟩ | h)
    · exact Or.inl ⟨e, List.mem_of_getElem? h⟩
    · exact Or.inr h
  · rintro (⟨e, h⟩ | h)
    · obtain ⟨k, hk⟩ := List.getElem?_of_mem h
      exact Or.inl ⟨k, e, hk⟩
    · exact Or.inr h
theorem sw_swap {D : va_G} {a b c : va_W} : sw D ((a ++ b) ++ c) ((a ++ c) ++ b) := by
  refine ⟨fun H h => h.swap, fun A h => h.swap, fun sz q h => ?_⟩
  rw [va_A_mem] at h ⊢
  rcases h with ⟨e, h⟩ | h
  · refine Or.inl ⟨e, ?_⟩
    simp only [List.mem_append] at h ⊢
    rcases h with (h | h) | h
    · exact Or.inl (Or.inl h)
    · exact Or.inr h
    · exact Or.inl (Or.inr h)
  · exact Or.inr h
theorem sw_part {D : va_G} {Z X : va_W} (Y : va_W) (is : List Nat) (hn : va_nd is = true) (hs : is.map (fun i => Z[i]?) = X.map some) : sw D (Z ++ Y) (X ++ Y) := by
  refine ⟨fun H h => va_P.by h _ (va_part is hs), fun A h => va_D.part h is hn hs, fun sz q h => ?_⟩
  rcases h with ⟨k, e, hk⟩ | h
  · exact Or.inl ⟨_, e, va_part is hs k _ hk⟩
  · exact Or.inr h
theorem kept_join {D : va_G} {tys : List (ClassId × FieldType)} {X X' Y : va_W} {s t : State} (hP : va_P D vwCl (X ++ Y) s.heap) (hD : va_D (fun _ => True) (X ++ Y)) (hB : post D tys (cw X') (va_A X s.heap.size) z0 t) (hF : va_F (va_A X s.heap.size) s t) : post D tys (cw (X' ++ Y)) (va_A (X ++ Y) s.heap.size) z0 t ∧ va_F (va_A (X ++ Y) s.heap.size) s t := by
  have hsub : ∀ q, va_A X s.heap.size q → va_A (X ++ Y) s.heap.size q := fun q h => by
    rw [va_A_mem] at h ⊢
    rcases h with ⟨e, h⟩ | h
    · exact Or.inl ⟨e, List.mem_append_left _ h⟩
    · exact Or.inr h
  obtain ⟨g1, g2⟩ := va_joinQ (X := X) (cx := X) (wr := []) (w1 := X') (pl := Y) (A0 := va_A (X ++ Y) s.heap.size) hP hD.self (List.range X.length) [] (rng_some X) rfl rfl (fun i hi => by cases hi) (H1 := t.heap) hF.2 hsub hB.1 hB.2.2
  exact ⟨⟨g1, hB.2.1, g2⟩, hF.1, fun q h1 h2 => hF.2 q h1 (fun h => h2 (hsub q h))⟩
section MF
variable {l : Launch} {D : va_G} {tys : List (ClassId × FieldType)} {ka kv : Nat → Nat} {fv : Value} {y : MethodName} {b : ByteArray} {n rf rl mc ms : Nat} {rt : Option FieldType} {as : List Value} {X Y Z : va_W} {RI RI' : Int32 → va_W → Prop} {RV RV' : va_W → Prop} {RX RX' : Nat → va_W → Prop}
theorem pre_left {sz : Nat} {args : Array Value} {s : State} (hP : va_Pc as (preK D tys (cw (X ++ Y)) z0 ka kv fv sz) args s) : va_Pc as (preK D tys (cw X) z0 ka kv fv sz) args s := by
  obtain ⟨h0, ⟨hsz, hP1, hK1, hD, hn⟩, hx⟩ := hP
  have hP1 : va_P D vwCl (X ++ Y) s.heap := hP1
  have hD : va_D (fun _ => True) (X ++ Y) := hD
  have key : ∀ (k : Nat) (q : Nat × va_E), X[k]? = some q → (X ++ Y)[k]? = some q := fun k q hk => by
    rw [List.getElem?_append_left (List.getElem?_eq_some_iff.mp hk).1]; exact hk
  refine ⟨h0, ⟨hsz, fun k q hk => hP1 k q (key k q hk), hK1, ?_, hn⟩, kx_narrow hx (fun q h => ?_)⟩
  · exact hD.by id (fun k q hk => key k q hk) (fun i j _ _ e => e)
  · show va_A (X ++ Y) sz q
    have h : va_A X sz q := h
    rw [va_A_mem] at h ⊢
    rcases h with ⟨e, h⟩ | h
    · exact Or.inl ⟨e, List.mem_append_left _ h⟩
    · exact Or.inr h
theorem A_left {sz q : Nat} (h : va_A X sz q) : va_A (X ++ Y) sz q := by
  rw [va_A_mem] at h ⊢
  rcases h with ⟨e, h⟩ | h
  · exact Or.inl ⟨e, List.mem_append_left _ h⟩
  · exact Or.inr h
theorem metG.frame (h : metG l D tys ka kv fv y b n rt rf rl mc ms as X RI RX) (Y : va_W) : metG l D tys ka kv fv y b n rt rf rl mc ms as (X ++ Y) (fun r W' => ∃ X', RI r X' ∧ W' = X' ++ Y) (fun E W' => ∃ X', RX E X' ∧ W' = X' ++ Y) := by
  intro sz p e ha hc hk s m args below hf happ hP hK
  obtain ⟨k, o, h1, h2, h3, hQ⟩ := h sz p e ha hc hk s m args below hf happ (pre_left hP) hK
  obtain ⟨h0, ⟨hsz, hP1, hK1, hD, hn⟩, hx⟩ := hP
  subst hsz
  refine ⟨k, o, h1, h2, h3, ?_⟩
  rcases hQ with ⟨⟨⟨r, X', ho, hr, hB⟩, hF⟩, L, hL, hfr⟩ | ⟨q, ho, E, ce, L, ⟨P, hp, ⟨hE, hB⟩, hF⟩, g1, g2, g3, g4, g5, g6⟩
  · obtain ⟨j1, j2⟩ := kept_join hP1 hD hB hF
    exact Or.inl ⟨⟨⟨r, X' ++ Y, ho, ⟨X', hr, rfl⟩, j1⟩, j2⟩, L, hL, fun q hq => A_left (hfr q hq)⟩
  · obtain ⟨j1, j2⟩ := kept_join hP1 hD hB hF
    exact Or.inr ⟨q, ho, E, ce, L, ⟨(P.1, P.2 ++ Y), ⟨P.2, hp, rfl⟩, ⟨hE, j1⟩, j2⟩, g1, g2, g3, g4, g5, fun z hz => A_left (g6 z hz)⟩
theorem metGV.frame (h : metGV l D tys ka kv fv y b n rf rl mc ms as X RV RX) (Y : va_W) : metGV l D tys ka kv fv y b n rf rl mc ms as (X ++ Y) (fun W' => ∃ X', RV X' ∧ W' = X' ++ Y) (fun E W' => ∃ X', RX E X' ∧ W' = X' ++ Y) := by
  intro sz p e ha hc hk s m args below hf happ hP hK
  obtain ⟨k, o, h1, h2, h3, hQ⟩ := h sz p e ha hc hk s m args below hf happ (pre_left hP) hK
  obtain ⟨h0, ⟨hsz, hP1, hK1, hD, hn⟩, hx⟩ := hP
  subst hsz
  refine ⟨k, o, h1, h2, h3, ?_⟩
  rcases hQ with ⟨⟨⟨X', ho, hr, hB⟩, hF⟩, L, hL, hfr⟩ | ⟨q, ho, E, ce, L, ⟨P, hp, ⟨hE, hB⟩, hF⟩, g1, g2, g3, g4, g5, g6⟩
  · obtain ⟨j1, j2⟩ := kept_join hP1 hD hB hF
    exact Or.inl ⟨⟨⟨X' ++ Y, ho, ⟨X', hr, rfl⟩, j1⟩, j2⟩, L, hL, fun q hq => A_left (hfr q hq)⟩
  · obtain ⟨j1, j2⟩ := kept_join hP1 hD hB hF
    exact Or.inr ⟨q, ho, E, ce, L, ⟨(P.1, P.2 ++ Y), ⟨P.2, hp, rfl⟩, ⟨hE, j1⟩, j2⟩, g1, g2, g3, g4, g5, fun z hz => A_left (g6 z hz)⟩
theorem pre_sw {sz : Nat} {args : Array Value} {s : State} (hs : sw D Z X) (hP : va_Pc as (preK D tys (cw Z) z0 ka kv fv sz) args s) : va_Pc as (preK D tys (cw X) z0 ka kv fv sz) args s := by
  obtain ⟨h0, ⟨hsz, hP1, hK1, hD, hn⟩, hx⟩ := hP
  exact ⟨h0, ⟨hsz, hs.1 _ hP1, hK1, hs.2.1 _ hD, hn⟩, kx_narrow hx (fun q h => hs.2.2 _ _ h)⟩
theorem post_sw {X' Z' : va_W} {s t : State} {sz : Nat} (hs : sw D Z X) (hs' : sw D X' Z') (hB : post D tys (cw X') (va_A X sz) z0 t) (hF : va_F (va_A X sz) s t) : post D tys (cw Z') (va_A Z sz) z0 t ∧ va_F (va_A Z sz) s t :=
  ⟨⟨hs'.1 _ hB.1, hB.2.1, hs'.2.1 _ (va_D.weaken hB.2.2 (fun _ q _ h => hs.2.2 _ _ h))⟩, hF.1, fun q h1 h2 => hF.2 q h1 (fun h => h2 (hs.2.2 _ _ h))⟩
theorem metG.perm (h : metG l D tys ka kv fv y b n rt rf rl mc ms as X RI RX) (hs : sw D Z X) (hI : ∀ r X', RI r X' → ∃ Z', sw D X' Z' ∧ RI' r Z') (hX : ∀ E X', RX E X' → ∃ Z', sw D X' Z' ∧ RX' E Z') : metG l D tys ka kv fv y b n rt rf rl mc ms as Z RI' RX' := by
  intro sz p e ha hc hk s m args below hf happ hP hK
  obtain ⟨k, o, h1, h2, h3, hQ⟩ := h sz p e ha hc hk s m args below hf happ (pre_sw hs hP) hK
  refine ⟨k, o, h1, h2, h3, ?_⟩
  rcases hQ with ⟨⟨⟨r, X', ho, hr, hB⟩, hF⟩, L, hL, hfr⟩ | ⟨q, ho, E, ce, L, ⟨P, hp, ⟨hE, hB⟩, hF⟩, g1, g2, g3, g4, g5, g6⟩
  · obtain ⟨Z', hz, hr'⟩ := hI r X' hr
    obtain ⟨j1, j2⟩ := post_sw hs hz hB hF
    exact Or.inl ⟨⟨⟨r, Z', ho, hr', j1⟩, j2⟩, L, hL, fun q hq => hs.2.2 _ _ (hfr q hq)⟩
  · obtain ⟨Z', hz, hr'⟩ := hX P.1 P.2 hp
    obtain ⟨j1, j2⟩ := post_sw hs hz hB hF
    exact Or.inr ⟨q, ho, E, ce, L, ⟨(P.1, Z'), hr', ⟨hE, j1⟩, j2⟩, g1, g2, g3, g4, g5, fun z hz => hs.2.2 _ _ (g6 z hz)⟩
theorem metGV.perm (h : metGV l D tys ka kv fv y b n rf rl mc ms as X RV RX) (hs : sw D Z X) (hI : ∀ X', RV X' → ∃ Z', sw D X' Z' ∧ RV' Z') (hX : ∀ E X', RX E X' → ∃ Z', sw D X' Z' ∧ RX' E Z') : metGV l D tys ka kv fv y b n rf rl mc ms as Z RV' RX' := by
  intro sz p e ha hc hk s m args below hf happ hP hK
  obtain ⟨k, o, h1, h2, h3, hQ⟩ := h sz p e ha hc hk s m args below hf happ (pre_sw hs hP) hK
  refine ⟨k, o, h1, h2, h3, ?_⟩
  rcases hQ with ⟨⟨⟨X', ho, hr, hB⟩, hF⟩, L, hL, hfr⟩ | ⟨q, ho, E, ce, L, ⟨P, hp, ⟨hE, hB⟩, hF⟩, g1, g2, g3, g4, g5, g6⟩
  · obtain ⟨Z', hz, hr'⟩ := hI X' hr
    obtain ⟨j1, j2⟩ := post_sw hs hz hB hF
    exact Or.inl ⟨⟨⟨Z', ho, hr', j1⟩, j2⟩, L, hL, fun q hq => hs.2.2 _ _ (hfr q hq)⟩
  · obtain ⟨Z', hz, hr'⟩ := hX P.1 P.2 hp
    obtain ⟨j1, j2⟩ := post_sw hs hz hB hF
    exact Or.inr ⟨q, ho, E, ce, L, ⟨(P.1, Z'), hr', ⟨hE, j1⟩, j2⟩, g1, g2, g3, g4, g5, fun z hz => hs.2.2 _ _ (g6 z hz)⟩
end MF
/-! the object's own world: now and the top, trial, kept -/
def mA (a t : Nat → Nat) : Nat → Nat := fun k => if k < 36 then a k else if k < 72 then t (k - 36) else a (k - 36)
def mS (σ τ : Sg) : Sg := fun q => if q < 36 then σ q else if q < 72 then τ (q - 36) else σ (q - 36)
def uA (a : Nat → Nat) : Nat → Nat := fun k => if k < 36 then a k else a (k + 36)
def uS (u : Sg) : Sg := fun q => if q < 36 then u q else u (q + 36)
def nA (a : Nat → Nat) : Nat → Nat := fun k => a (k + 36)
def nS (u : Sg) : Sg := fun q => u (q + 36)
set_option maxRecDepth 20000 in
set_option maxHeartbeats 4000000 in
theorem sw_TU (D : va_G) (cI cB : ClassId) (ad ax : Nat → Nat) (kt pa pl px lx : Nat) (σ τ : Sg) : sw D (wT cI cB ad (ax 0) kt pa pl σ ++ wN cI ax px lx τ) (wU cI cB (mA ad ax) kt pa pl px lx (mS σ τ)) := sw_of [0,1,2,3,4,5,6,7,8,9,10,11,12,13,14,15,16,17,18,19,20,21,22,23,24,25,26,27,28,29,30,31,32,33,34,35,42,43,44,45,46,47,48,49,50,51,52,53,54,55,56,57,58,59,60,61,62,63,64,65,66,67,68,69,70,71,72,73,74,75,76,77,36,37,38,39,40,41] (by decide) rfl
set_option maxRecDepth 20000 in
set_option maxHeartbeats 4000000 in
theorem sw_TV (D : va_G) (cI cB : ClassId) (ad ax : Nat → Nat) (kt pa pl px lx : Nat) (σ τ : Sg) : sw D (wT cI cB ad kt (ax 0) pa pl σ ++ wN cI ax px lx τ) (wV cI cB (mA ad ax) kt pa pl px lx (mS σ τ)) := sw_of [0,1,2,3,4,5,6,7,8,9,10,11,12,13,14,15,16,17,18,19,20,21,22,23,24,25,26,27,28,29,30,31,32,33,34,35,42,43,44,45,46,47,48,49,50,51,52,53,54,55,56,57,58,59,60,61,62,63,64,65,66,67,68,69,70,71,72,73,74,75,76,77,36,37,38,39,40,41] (by decide) rfl
set_option maxRecDepth 20000 in
set_option maxHeartbeats 4000000 in
theorem sw_TZ (D : va_G) (cI cB : ClassId) (ad ax : Nat → Nat) (kt pa pl px lx : Nat) (σ τ : Sg) : sw D (wT cI cB ad kt (ax 0) pa pl σ ++ wN cI ax px lx τ) (wZ cI cB (mA ad ax) kt px lx pa pl (mS σ τ)) := sw_of [0,1,2,3,4,5,6,7,8,9,10,11,12,13,14,15,16,17,18,19,20,21,22,23,24,25,26,27,28,29,30,31,32,33,34,35,42,43,44,45,46,47,48,49,50,51,52,53,54,55,56,57,58,59,60,61,62,63,64,65,66,67,68,69,70,71,72,73,74,75,76,77,36,37,38,39,40,41] (by decide) rfl
set_option maxRecDepth 20000 in
set_option maxHeartbeats 4000000 in
theorem sw_UT (D : va_G) (cI cB : ClassId) (a : Nat → Nat) (kt p0 l0 p1 l1 : Nat) (u : Sg) : sw D (wU cI cB a kt p0 l0 p1 l1 u) (wT cI cB (uA a) (nA a 0) kt p0 l0 (uS u) ++ wN cI (nA a) p1 l1 (nS u)) := sw_of [0,1,2,3,4,5,6,7,8,9,10,11,12,13,14,15,16,17,18,19,20,21,22,23,24,25,26,27,28,29,30,31,32,33,34,35,72,73,74,75,76,77,36,37,38,39,40,41,42,43,44,45,46,47,48,49,50,51,52,53,54,55,56,57,58,59,60,61,62,63,64,65,66,67,68,69,70,71] (by decide) rfl
set_option maxRecDepth 20000 in
set_option maxHeartbeats 4000000 in
theorem sw_VT (D : va_G) (cI cB : ClassId) (a : Nat → Nat) (kt p0 l0 p1 l1 : Nat) (u : Sg) : sw D (wV cI cB a kt p0 l0 p1 l1 u) (wT cI cB (uA a) kt (nA a 0) p0 l0 (uS u) ++ wN cI (nA a) p1 l1 (nS u)) := sw_of [0,1,2,3,4,5,6,7,8,9,10,11,12,13,14,15,16,17,18,19,20,21,22,23,24,25,26,27,28,29,30,31,32,33,34,35,72,73,74,75,76,77,36,37,38,39,40,41,42,43,44,45,46,47,48,49,50,51,52,53,54,55,56,57,58,59,60,61,62,63,64,65,66,67,68,69,70,71] (by decide) rfl
set_option maxRecDepth 20000 in
set_option maxHeartbeats 4000000 in
theorem sw_ZT (D : va_G) (cI cB : ClassId) (a : Nat → Nat) (kt p0 l0 p1 l1 : Nat) (u : Sg) : sw D (wZ cI cB a kt p0 l0 p1 l1 u) (wT cI cB (uA a) kt (nA a 0) p1 l1 (uS u) ++ wN cI (nA a) p0 l0 (nS u)) := sw_of [0,1,2,3,4,5,6,7,8,9,10,11,12,13,14,15,16,17,18,19,20,21,22,23,24,25,26,27,28,29,30,31,32,33,34,35,72,73,74,75,76,77,36,37,38,39,40,41,42,43,44,45,46,47,48,49,50,51,52,53,54,55,56,57,58,59,60,61,62,63,64,65,66,67,68,69,70,71] (by decide) rfl
