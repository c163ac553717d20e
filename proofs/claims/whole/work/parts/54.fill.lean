theorem sq_self (u : Sg) (q : Nat) : sq u q (u q) = u := by
  funext p
  unfold sq
  split
  · next h => rw [h]
  · rfl
theorem sq_sq (u : Sg) (q : Nat) (f g : Nat → Int32) : sq (sq u q f) q g = sq u q g := by
  funext p
  unfold sq
  split <;> rfl
theorem sq_at (u : Sg) (q : Nat) (f : Nat → Int32) : sq u q f q = f := by
  unfold sq
  rw [if_pos rfl]
theorem sq_ne {u : Sg} {q r : Nat} {f : Nat → Int32} (h : r ≠ q) : sq u q f r = u r := by
  unfold sq
  rw [if_neg h]
/-- what a fill leaves in a new row -/
def fl_ (n : Nat) (x : Int32) : Nat → Int32 := fun k => if k < n then x else 0
theorem fill_loop (n : Nat) (hn : n < 100000) (x : Int32) : ∀ (m i : Nat) (u : Sg), i ≤ n → n - i < m → fJ7_fill_53178_5 n m x (nI i) (nI n) u = some (sq u 0 (fun k => if i ≤ k ∧ k < n then x else u 0 k)) := by
  intro m
  induction m with
  | zero => intro i u _ h; omega
  | succ m ih =>
    intro i u hi hm
    rw [fJ7_fill_53178_5]
    rcases Nat.lt_or_ge i n with h | h
    · rw [cnd_neg (nI_ge h (by omega)), grd_pos (vp_in_nI h (by omega))]
      show fJ7_fill_53178_5 n m x (nI i + 1) (nI n) (s2 u 0 (nI i).toNatClampNeg x) = _
      rw [nI_clamp (by omega), nI_1, ih (i + 1) _ h (by omega)]
      congr 1
      unfold s2
      rw [sq_sq, sq_at]
      congr 1
      funext k
      by_cases h1 : k = i
      · subst h1
        rw [if_neg (by omega), if_pos (by omega), pk_us]
      · by_cases h2 : i + 1 ≤ k ∧ k < n
        · rw [if_pos h2, if_pos (by omega)]
        · rw [if_neg h2, if_neg (by omega), pk_un h1]
    · have e : i = n := by omega
      subst e
      rw [cnd_pos (nI_le (Nat.le_refl i) (by omega))]
      congr 1
      have e2 : (fun k => if i ≤ k ∧ k < i then x else u 0 k) = u 0 := by
        funext k
        rw [if_neg (by omega)]
      rw [e2, sq_self]
theorem fill_eqF (n : Nat) (hn : n < 100000) (x : Int32) (f : Nat → Int32) (F : Nat) (hF : n < F) : fJ7_fill_53178_5 n F x 0 (Int32.ofNat n) (fun _ => f) = some (sq (fun _ => f) 0 (fun k => if k < n then x else f k)) := by
  have h := fill_loop n hn x F 0 (fun _ => f) (Nat.zero_le n) (by omega)
  have e : (fun k => if 0 ≤ k ∧ k < n then x else f k) = (fun k => if k < n then x else f k) := by
    funext k
    simp
  rw [e, nI_0] at h
  exact h
theorem FU_lt {n : Nat} (h : n < 100000) : n < FU := h
theorem fill_eq (n : Nat) (hn : n < 100000) (x : Int32) (f : Nat → Int32) : fJ7_fill_53178 n x (fun _ => f) = some (sq (fun _ => f) 0 (fun k => if k < n then x else f k)) := by
  unfold fJ7_fill_53178 fJ7_fill_53178_0 bnd
  exact fill_eqF n hn x f FU (FU_lt hn)
theorem tyl_byte {D : va_G} {cI cB cL cA : ClassId} {s : State} (h : va_K D vwCl (tyl cI cB cL) s) (h' : va_K D vwCl (tyl cI cB cL ++ [(cA, .byte)]) s) : cA = cB := by
  have h1 : s.vm.findClass ("[" ++ FieldType.byte.toString) = some cB := (h.2 1 (cB, .byte) rfl).2
  have h2 : s.vm.findClass ("[" ++ FieldType.byte.toString) = some cA := (h'.2 3 (cA, .byte) rfl).2
  exact Option.some.inj (h2.symm.trans h1)
