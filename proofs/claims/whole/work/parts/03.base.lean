/-! words: the good ones of the tables, one list for every method -/
def gw : List Cond := lw_tbl.filter goodWord
theorem gw_mem {w : Cond} (h : w ∈ lw_tbl) (g : goodWord w = true) : w ∈ gw := List.mem_filter.mpr ⟨h, g⟩
theorem gw_good {w : Cond} (h : w ∈ gw) : goodWord w = true := (List.mem_filter.mp h).2
theorem gw_t1 {w : Cond} (i : Nat) (h : tables_1_1[i]? = some w) (g : goodWord w = true) : w ∈ gw := gw_mem (List.mem_append_right _ (List.mem_append_left _ (List.mem_of_getElem? h))) g
theorem gw_t2 {w : Cond} (i : Nat) (h : tables_1_2[i]? = some w) (g : goodWord w = true) : w ∈ gw := gw_mem (List.mem_append_right _ (List.mem_append_right _ (List.mem_append_left _ (List.mem_of_getElem? h)))) g
theorem gw_t3 {w : Cond} (i : Nat) (h : tables_1_3[i]? = some w) (g : goodWord w = true) : w ∈ gw := gw_mem (List.mem_append_right _ (List.mem_append_right _ (List.mem_append_right _ (List.mem_append_left _ (List.mem_of_getElem? h))))) g
theorem gw_t4 {w : Cond} (i : Nat) (h : tables_1_4[i]? = some w) (g : goodWord w = true) : w ∈ gw := gw_mem (List.mem_append_right _ (List.mem_append_right _ (List.mem_append_right _ (List.mem_append_right _ (List.mem_append_left _ (List.mem_of_getElem? h)))))) g
theorem gw_t5 {w : Cond} (i : Nat) (h : tables_1_5[i]? = some w) (g : goodWord w = true) : w ∈ gw := gw_mem (List.mem_append_right _ (List.mem_append_right _ (List.mem_append_right _ (List.mem_append_right _ (List.mem_append_right _ (List.mem_append_left _ (List.mem_of_getElem? h))))))) g
theorem gw_t6 {w : Cond} (i : Nat) (h : tables_1_6[i]? = some w) (g : goodWord w = true) : w ∈ gw := gw_mem (List.mem_append_right _ (List.mem_append_right _ (List.mem_append_right _ (List.mem_append_right _ (List.mem_append_right _ (List.mem_append_right _ (List.mem_append_left _ (List.mem_of_getElem? h)))))))) g
theorem gw_t7 {w : Cond} (i : Nat) (h : tables_1_7[i]? = some w) (g : goodWord w = true) : w ∈ gw := gw_mem (List.mem_append_right _ (List.mem_append_right _ (List.mem_append_right _ (List.mem_append_right _ (List.mem_append_right _ (List.mem_append_right _ (List.mem_append_right _ (List.mem_append_left _ (List.mem_of_getElem? h))))))))) g
theorem gw_t8 {w : Cond} (i : Nat) (h : tables_1_8[i]? = some w) (g : goodWord w = true) : w ∈ gw := gw_mem (List.mem_append_right _ (List.mem_append_right _ (List.mem_append_right _ (List.mem_append_right _ (List.mem_append_right _ (List.mem_append_right _ (List.mem_append_right _ (List.mem_append_right _ (List.mem_of_getElem? h))))))))) g
theorem gw_pv {y : MethodName} {n : Nat} (h : (y, n) ∈ lw_privs) : Cond.selects y.cls y y ∈ gw := gw_mem (List.mem_append_left _ (List.mem_map.mpr ⟨(y, n), h, rfl⟩)) rfl
theorem gg_c {y : MethodName} {b : ByteArray} {n : Nat} {r : Option FieldType} (h5 : Cond.code y b n r ∈ gw) : GoodIn gw (Cond.code y b n r :: gw) := by
  intro w hw
  have : w ∈ gw := by
    rcases List.mem_cons.mp hw with rfl | h
    · exact h5
    · exact h
  exact ⟨this, good_of_word (gw_good this)⟩
theorem gg_V {own C : String} {idx : Nat} {y : MethodName} {b : ByteArray} {n : Nat} {r : Option FieldType} (h1 : Cond.methodLink own idx y ∈ gw) (h2 : Cond.instanceMethod y ∈ gw) (h3 : Cond.selects C y y ∈ gw) (h4 : Cond.initialized C ∈ gw) (h5 : Cond.code y b n r ∈ gw) : GoodIn gw (wsV own idx C y (Cond.code y b n r :: gw)) := by
  intro w hw
  rcases List.mem_append.mp hw with h | h
  · have : w ∈ gw := by
      simp only [List.mem_cons, List.not_mem_nil, or_false] at h
      rcases h with rfl | rfl | rfl | rfl
      · exact h1
      · exact h2
      · exact h3
      · exact h4
    exact ⟨this, good_of_word (gw_good this)⟩
  · exact gg_c h5 w h
theorem gg_S {own : String} {idx : Nat} {y : MethodName} {b : ByteArray} {n : Nat} {r : Option FieldType} (h1 : Cond.methodLink own idx y ∈ gw) (h2 : Cond.static y ∈ gw) (h4 : Cond.initialized y.cls ∈ gw) (h5 : Cond.code y b n r ∈ gw) : GoodIn gw (va_wsS own idx y (Cond.code y b n r :: gw)) := by
  intro w hw
  rcases List.mem_append.mp hw with h | h
  · have : w ∈ gw := by
      simp only [List.mem_cons, List.not_mem_nil, or_false] at h
      rcases h with rfl | rfl | rfl
      · exact h1
      · exact h2
      · exact h4
    exact ⟨this, good_of_word (gw_good this)⟩
  · exact gg_c h5 w h
/-! what a method does, as a function that may fail -/
def bnd {α β : Type} (e : α) (k : α → β) : β := k e
noncomputable def grd {α : Type} (P : Prop) (o : Option α) : Option α := @ite _ P (Classical.propDecidable P) o none
noncomputable def cnd {α : Type} (P : Prop) (a b : α) : α := @ite _ P (Classical.propDecidable P) a b
def obd {α β γ : Type} (o : Option (α × β)) (k : α → β → Option γ) : Option γ := match o with
  | none => none
  | some z => k z.1 z.2
theorem bnd_of {α β : Type} {e x : α} {k : α → β} {z : β} (h : x = e) (q : bnd e k = z) : k x = z := by subst h; exact q
theorem grd_some {α : Type} {P : Prop} {o : Option α} {z : α} (h : grd P o = some z) : P ∧ o = some z := by
  unfold grd at h
  by_cases c : P
  · rw [if_pos c] at h; exact ⟨c, h⟩
  · rw [if_neg c] at h; cases h
theorem grd_pos {α : Type} {P : Prop} {o : Option α} (c : P) : grd P o = o := by unfold grd; rw [if_pos c]
theorem cnd_pos {α : Type} {P : Prop} {a b : α} (c : P) : cnd P a b = a := by unfold cnd; rw [if_pos c]
theorem cnd_neg {α : Type} {P : Prop} {a b : α} (c : ¬ P) : cnd P a b = b := by unfold cnd; rw [if_neg c]
theorem cnd_t {α : Type} {P : Prop} {a b z : α} (c : P) (h : cnd P a b = z) : a = z := (cnd_pos c).symm.trans h
theorem cnd_f {α : Type} {P : Prop} {a b z : α} (c : ¬ P) (h : cnd P a b = z) : b = z := (cnd_neg c).symm.trans h
theorem obd_some {α β γ : Type} {o : Option (α × β)} {k : α → β → Option γ} {z : γ} (h : obd o k = some z) : ∃ (r : α) (u : β), o = some (r, u) ∧ k r u = some z := by
  cases o with
  | none => cases h
  | some q => exact ⟨q.1, q.2, rfl, h⟩
/-! the states: rows of numbers by the number of the cell -/
abbrev Sg : Type := Nat → Nat → Int32
def sq (σ : Sg) (q : Nat) (f : Nat → Int32) : Sg := fun p => if p = q then f else σ p
def s2 (σ : Sg) (q i : Nat) (x : Int32) : Sg := sq σ q (upd (σ q) i x)
def arrAt (wd : Sg → va_W) (q a : Nat) (cA : ClassId) (n : Nat) : Prop := (∀ σ, (wd σ)[q]? = some (a, .inl (cA, n, .inl (σ q)))) ∧ ∀ σ f, (wd σ).set q (a, .inl (cA, n, .inl f)) = wd (sq σ q f)
def objAt (wd : Sg → va_W) (q a ci : Nat) (fl : Sg → List Value) : Prop := ∀ σ, (wd σ)[q]? = some (a, .inr (ci, fl σ))
def intAt (wd : Sg → va_W) (q a ci : Nat) (fl : Sg → List Value) (k : Nat) : Prop := (∀ σ, (fl σ)[k]? = some (.int (σ q k))) ∧ ∀ σ v, (wd σ).set q (a, .inr (ci, (fl σ).set k (.int v))) = wd (s2 σ q k v)
/-- the links between nest mates -/
def nwq : List (String × Nat × MethodName) := [(RX8, 42, yX11_spotOf), (RX8, 46, yX11_isIn), (RX0, 25, yX11_spotOf), (RX0, 73, yX11_isIn), (RX7, 101, yX11_copyRow), (RX1, 46, yX11_copyRow), (RX6, 31, yX11_copyRow), (RX4, 30, yX11_copyRow), (RX3, 27, yX11_copyRow), (RX2, 25, yX11_copyRow), (RX5, 22, yX11_copyRow), (RX9, 89, yX11_isIn), (RX9, 109, yX11_channelOf), (RX7, 151, yX11_spotOf), (RX7, 284, yX11_isIn), (RX7, 212, yX11_channelOf), (RX7, 259, yX11_stampOf), (RX7, 243, yX11_numberOf), (RX4, 34, yX11_spotOf), (RX1, 71, yX11_channelOf), (RX6, 35, yX11_isIn)]
def nws (s : State) : Prop := ∀ q ∈ nwq, va_Nw (.methodLinkNest q.1 q.2.1 q.2.2 RX11) s
theorem nws_warm {s U : State} (hW : s.WarmedH U.vm) (h : nws s) : nws U := fun q hq => (h q hq).warmM hW
theorem nws_call {U : State} {g : JFrame} {mk : MethodId} {a : Array Value} (h : nws U) : nws (U.calling g mk a) := fun q hq => va_Nw.same (u := U) rfl rfl (h q hq)
/-- the machine and the tables, as they stay in a method's body -/
def cx (D : va_G) (tys : List (ClassId × FieldType)) (A : Nat → Prop) (own : String) (cc : ByteArray) (nL : Nat) (ret : Option FieldType) (p : Program) (s : State) (m : MethodId) (args : Array Value) (c : Code) (meth : Method) : Prop :=
  p.tables.exec = Jvm.exec ∧ c.code = cc ∧ c.maxLocals = nL ∧ s.vm.findClass own = some m.cls ∧ (∀ w ∈ gw, w.before args s = true) ∧ meth.sig.returnType = ret ∧ meth.locks = false ∧ va_K D vwCl tys s ∧ (∀ q, s.heap.size ≤ q → A q) ∧ nws s
def st (D : va_G) (wd : Sg → va_W) (A : Nat → Prop) (s : State) (σ : Sg) (H : Heap) (locs : List Loc) : Prop := va_P D vwCl (wd σ) H ∧ va_D A (wd σ) ∧ va_S A s.heap H locs
def pre (D : va_G) (tys : List (ClassId × FieldType)) (wd : Sg → va_W) (σ : Sg) (sz : Nat) : State → Prop := fun U => U.heap.size = sz ∧ va_P D vwCl (wd σ) U.heap ∧ va_K D vwCl tys U ∧ va_D (fun _ => True) (wd σ) ∧ nws U
def post (D : va_G) (tys : List (ClassId × FieldType)) (wd : Sg → va_W) (A : Nat → Prop) : Sg → State → Prop := fun u t => va_P D vwCl (wd u) t.heap ∧ va_K D vwCl tys t ∧ va_D A (wd u)
abbrev rmO (rf rl : Nat) : Room := { frames := rf, cells := 0, slots := 0, locals := rl }
/-- the ends of methods that make nothing: an int comes back, or nothing -/
abbrev qI (D : va_G) (tys : List (ClassId × FieldType)) (wd : Sg → va_W) (A : Nat → Prop) (r : Int32) (σ' : Sg) : Array Value → State → Outcome → State → Prop := va_Qi (fun x u => x = r ∧ u = σ') (post D tys wd A) A
abbrev qV (D : va_G) (tys : List (ClassId × FieldType)) (wd : Sg → va_W) (A : Nat → Prop) (σ' : Sg) : Array Value → State → Outcome → State → Prop := va_Qv (fun u => u = σ') (post D tys wd A) A
def metI (l : Launch) (D : va_G) (tys : List (ClassId × FieldType)) (y : MethodName) (b : ByteArray) (n : Nat) (rt : Option FieldType) (rf rl : Nat) (wd : Sg → va_W) (as : List Value) (σ : Sg) (r : Int32) (σ' : Sg) : Prop :=
  ∀ sz, Met l y (Cond.code y b n rt :: gw) (rmO rf rl) (va_Pc as (pre D tys wd σ sz)) (qI D tys wd (va_A (wd σ) sz) r σ') 0 0 (va_A (wd σ) sz)
def metV (l : Launch) (D : va_G) (tys : List (ClassId × FieldType)) (y : MethodName) (b : ByteArray) (n : Nat) (rf rl : Nat) (wd : Sg → va_W) (as : List Value) (σ : Sg) (σ' : Sg) : Prop :=
  ∀ sz, Met l y (Cond.code y b n none :: gw) (rmO rf rl) (va_Pc as (pre D tys wd σ sz)) (qV D tys wd (va_A (wd σ) sz) σ') 0 0 (va_A (wd σ) sz)
def w0 : Sg → va_W := fun _ => []
def z0 : Sg := fun _ _ => 0
/-- a function of numbers alone -/
def metP (l : Launch) (D : va_G) (tys : List (ClassId × FieldType)) (y : MethodName) (b : ByteArray) (n : Nat) (rt : Option FieldType) (rf rl : Nat) (as : List Value) (r : Int32) : Prop := metI l D tys y b n rt rf rl w0 as z0 r z0
def obr {β γ : Type} (o : Option β) (k : β → Option γ) : Option γ := match o with
  | none => none
  | some z => k z
theorem obr_some {β γ : Type} {o : Option β} {k : β → Option γ} {z : γ} (h : obr o k = some z) : ∃ u : β, o = some u ∧ k u = some z := by
  cases o with
  | none => cases h
  | some q => exact ⟨q, rfl, h⟩
def isB (x : Int32) : Prop := x = 0 ∨ x = 1
theorem isB_n {x : Int32} (h : isB x) : narrow .boolean (.int x) = .int x := by
  rcases h with rfl | rfl <;> rfl
theorem isB_f {x : Int32} (h : isB x) : fits .boolean (.int x) = true := by
  rcases h with rfl | rfl <;> rfl
theorem rt_S {v r : Int32} {σ σ' : Sg} (h : some (v, σ) = some (r, σ')) : v = r ∧ σ = σ' := Prod.mk.inj (Option.some.inj h)
theorem rt_R {v r : Int32} {σ : Sg} (h : some v = some r) : v = r ∧ σ = σ := ⟨Option.some.inj h, rfl⟩
theorem rt_P {v r : Int32} {σ : Sg} (h : v = r) : v = r ∧ σ = σ := ⟨h, rfl⟩
def FU : Nat := 100000
theorem sw_out {x : Int32} (lo : Int) (n : Nat) (h : ∀ k : Nat, k < n → x.toInt ≠ lo + k) : x.toInt < lo ∨ lo + n - 1 < x.toInt := by
  rcases Int.lt_or_le x.toInt lo with q | q
  · exact Or.inl q
  · right
    rcases Int.lt_or_le (lo + n - 1) x.toInt with q2 | q2
    · exact q2
    · exact absurd (show x.toInt = lo + ((x.toInt - lo).toNat : Nat) by omega) (h _ (by omega))
theorem sw_ne {x : Int32} (v : Int32) (i : Int) (hv : v.toInt = i) (h : ¬ x = v) : x.toInt ≠ i := fun e => h (Int32.toInt_inj.mp (e.trans hv.symm))
