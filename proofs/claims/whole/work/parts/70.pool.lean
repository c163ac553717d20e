/-! the pool -/
def uQ (Q : Qs) (c : Nat) (l : List Pk) : Qs := fun d => if d = c then l else Q d
def uC (C : Nat → List Nat) (c : Nat) (l : List Nat) : Nat → List Nat := fun d => if d = c then l else C d
theorem uQ_s (Q : Qs) (c : Nat) (l : List Pk) : uQ Q c l c = l := if_pos rfl
theorem uQ_n (Q : Qs) {c d : Nat} (l : List Pk) (h : d ≠ c) : uQ Q c l d = Q d := if_neg h
theorem uC_s (C : Nat → List Nat) (c : Nat) (l : List Nat) : uC C c l c = l := if_pos rfl
theorem uC_n (C : Nat → List Nat) {c d : Nat} (l : List Nat) (h : d ≠ c) : uC C c l d = C d := if_neg h
theorem snoc : ∀ l : List Nat, l = [] ∨ ∃ l' j, l = l' ++ [j]
  | [] => Or.inl rfl
  | i :: is => by
    rcases snoc is with rfl | ⟨l', j, rfl⟩
    · exact Or.inr ⟨[], i, rfl⟩
    · exact Or.inr ⟨i :: l', j, rfl⟩
theorem lastOf_snoc : ∀ (l : List Nat) (j : Nat), lastOf (l ++ [j]) = nI (6 * j)
  | [], _ => rfl
  | [_], _ => rfl
  | _ :: b :: l, j => lastOf_snoc (b :: l) j
theorem lnk_eq {f g : Nat → Int32} : ∀ {l : List Nat} {x : Int32}, lnk f x l → (∀ i, i ∈ l → g (6 * i + 5) = f (6 * i + 5)) → lnk g x l
  | [], _, h, _ => h
  | i :: is, _, h, h2 => by
    refine ⟨h.1, ?_⟩
    rw [h2 i List.mem_cons_self]
    exact lnk_eq h.2 (fun j hj => h2 j (List.mem_cons_of_mem _ hj))
theorem cells_eq {f g : Nat → Int32} : ∀ {l : List Nat} {q : List Pk}, cells f l q → (∀ i w, i ∈ l → w < 5 → g (6 * i + w) = f (6 * i + w)) → cells g l q
  | [], [], _, _ => trivial
  | i :: is, p :: ps, h, h2 => by
    refine ⟨?_, cells_eq h.2 (fun j w hj => h2 j w (List.mem_cons_of_mem _ hj))⟩
    have e : ∀ w, w < 5 → g (6 * i + w) = f (6 * i + w) := fun w hw => h2 i w List.mem_cons_self hw
    unfold cI6
    rw [show g (6 * i) = f (6 * i) from e 0 (by omega), e 1 (by omega), e 2 (by omega), e 3 (by omega), e 4 (by omega)]
    exact h.1
  | [], _ :: _, h, _ => h.elim
  | _ :: _, [], h, _ => h.elim
theorem cells_len {f : Nat → Int32} : ∀ {l : List Nat} {q : List Pk}, cells f l q → l.length = q.length
  | [], [], _ => rfl
  | _ :: _, _ :: _, h => congrArg Nat.succ (cells_len h.2)
  | [], _ :: _, h => h.elim
  | _ :: _, [], h => h.elim
theorem cells_app {f : Nat → Int32} {i : Nat} {p : Pk} : ∀ {l : List Nat} {q : List Pk}, cells f l q → cI6 f i p → cells f (l ++ [i]) (q ++ [p])
  | [], [], _, h => ⟨h, trivial⟩
  | _ :: _, _ :: _, h, h2 => ⟨h.1, cells_app h.2 h2⟩
  | [], _ :: _, h, _ => h.elim
  | _ :: _, [], h, _ => h.elim
theorem lnk_app {f g : Nat → Int32} {i j : Nat} : ∀ {l : List Nat} {x : Int32}, lnk f x (l ++ [j]) → (∀ k, k ∈ l → g (6 * k + 5) = f (6 * k + 5)) → g (6 * j + 5) = nI (6 * i) → g (6 * i + 5) = NO → lnk g x (l ++ [j] ++ [i])
  | [], _, h, _, h3, h4 => ⟨h.1, h3, h4⟩
  | k :: l, _, h, h2, h3, h4 => by
    refine ⟨h.1, ?_⟩
    rw [h2 k List.mem_cons_self]
    exact lnk_app h.2 (fun z hz => h2 z (List.mem_cons_of_mem _ hz)) h3 h4
/-- the pool with one loose cell -/
def rY (pl : Nat) (Q : Qs) (σ : Sg) (i : Nat) : Prop := ∃ (C : Nat → List Nat) (F : List Nat) (U : Nat), σ 5 7 = nI (6 * U) ∧ 6 * U ≤ pl ∧ pl ≤ 50000 ∧ (∃ e, pl = 384 * 2 ^ e) ∧ U = 1 + F.length + sumL (fun c => (C c).length) 36 ∧
  F.Nodup ∧ (∀ j, j ∈ F → j < U ∧ j ≠ i) ∧ lnk (σ 10) (σ 5 8) F ∧ i < U ∧
  ∀ c, c < 36 → (C c).Nodup ∧ (∀ j, j ∈ C c → j < U ∧ j ≠ i ∧ j ∉ F ∧ ∀ c', c' < 36 → c' ≠ c → j ∉ C c') ∧ lnk (σ 10) (σ 11 c) (C c) ∧ σ 12 c = lastOf (C c) ∧ σ 9 c = nI (C c).length ∧ cells (σ 10) (C c) (Q c)
/-- what an added packet leaves as it was -/
def fA (σ σ' : Sg) (c : Nat) (t : Int32) : Prop := (∀ q, q ≠ 5 → q ≠ 8 → q ≠ 9 → q ≠ 10 → q ≠ 11 → q ≠ 12 → σ' q = σ q) ∧ σ' 8 = upd (σ 8) c t
theorem k_add89 {pl c i : Nat} {Q : Qs} {σ : Sg} {t st se : Int32} {k m : Nat} (hY : rY pl Q σ i) (hc : c < 36) :
    ∃ σ', fX1_add_89 (nI c) t (nI k) (nI m) st se (nI (6 * i)) σ pl = some (σ', 0) ∧ rO pl (uQ Q c (Q c ++ [((if σ 8 c < t then t else σ 8 c), k, m, st, se)])) σ' ∧ fA σ σ' c (if σ 8 c < t then t else σ 8 c) := by
  obtain ⟨C, F, U, a1, a2, a3, a4, a5, a6, a7, a8, a9, a10⟩ := hY
  obtain ⟨b1, b2, b3, b4, b5, b6⟩ := a10 c hc
  have hlen := cells_len b6
  have hU : sumL (fun d => (uC C c (C c ++ [i]) d).length) 36 = sumL (fun d => (C d).length) 36 + 1 := by
    have := sumL_upd (f := fun d => (C d).length) (g := fun d => (uC C c (C c ++ [i]) d).length) (j := c) (k := 36) hc (fun d _ hd => by show (uC C c (C c ++ [i]) d).length = _; rw [uC_n _ _ hd])
    simp only [uC_s, List.length_append, List.length_cons, List.length_nil] at this
    omega
  rcases snoc (C c) with he | ⟨l, j, he⟩
  · have hno : σ 12 c = NO := by rw [b4, he]; rfl
    simp (disch := first | omega | (simp only [pN, pP, pM, pE, pL, pC, pK, sp]; omega)) only [u_fX1_add_89, u_fX1_add_209, e_T, e_F, e_bnd, e_obr, e_obd, e_obt, e_addB, e_addA, e_in, e_cl, e_leT, e_leF, e_ltT, e_ltF, e_eqT, e_eqF, e_NOT, e_NOF, nI_add, pk_mul, k_spot, k_chan, m_node, m_pair, m_msg, m_chan, m_pack, e_w, e_wn, e_ws, e_s2, e_s2n, pk_us, pk_un, hno]
    refine ⟨_, rfl, ?_⟩
    · refine ⟨⟨uC C c (C c ++ [i]), F, U, ?_, a2, a3, a4, by rw [hU]; omega, a6, fun j hj => (a7 j hj).1, ?_, fun d hd => ?_⟩, ?_⟩
      · simp (disch := first | omega | (simp only [pN, pP, pM, pE, pL, pC, pK, sp]; omega)) only [e_s2, e_s2n, pk_us, pk_un]; exact a1
      · simp (disch := first | omega | (simp only [pN, pP, pM, pE, pL, pC, pK, sp]; omega)) only [e_s2, e_s2n, pk_us, pk_un]
        exact lnk_eq a8 (fun j hj => by have := a7 j hj; simp (disch := first | omega | (simp only [pN, pP, pM, pE, pL, pC, pK, sp]; omega)) only [pk_un])
      · by_cases e : d = c
        · subst e
          rw [uC_s, uQ_s, he]
          rw [he] at b6 hlen
          have hq : Q d = [] := by
            cases hq : Q d with
            | nil => rfl
            | cons p ps => rw [hq] at b6; exact b6.elim
          refine ⟨by simp, fun j hj => ?_, ?_, ?_, ?_, ?_⟩
          · rw [List.nil_append, List.mem_singleton] at hj
            subst hj
            refine ⟨a9, fun hF => (a7 j hF).2 rfl, fun c' hc' hn hm => ?_⟩
            rw [uC_n _ _ hn] at hm
            exact ((a10 c' hc').2.1 j hm).2.1 rfl
          · simp (disch := first | omega | (simp only [pN, pP, pM, pE, pL, pC, pK, sp]; omega)) only [e_s2, e_s2n, pk_us, pk_un]
            exact ⟨rfl, by simp (disch := first | omega | (simp only [pN, pP, pM, pE, pL, pC, pK, sp]; omega)) only [e_s2, e_s2n, pk_us, pk_un]; rfl⟩
          · simp (disch := first | omega | (simp only [pN, pP, pM, pE, pL, pC, pK, sp]; omega)) only [e_s2, e_s2n, pk_us, pk_un]; rfl
          · simp (disch := first | omega | (simp only [pN, pP, pM, pE, pL, pC, pK, sp]; omega)) only [e_s2, e_s2n, pk_us, pk_un, b5, he, e_T, e_F, e_bnd, e_obr, e_obd, e_obt, e_addB, e_addA, e_in, e_cl, e_leT, e_leF, e_ltT, e_ltF, e_eqT, e_eqF, e_NOT, e_NOF, nI_add, pk_mul, k_spot, k_chan, m_node, m_pair, m_msg, m_chan, m_pack, e_w, e_wn, e_ws]; rfl
          · rw [hq]
            simp (disch := first | omega | (simp only [pN, pP, pM, pE, pL, pC, pK, sp]; omega)) only [e_s2, e_s2n, pk_us, pk_un]
            refine ⟨⟨?_, ?_, ?_, ?_, ?_⟩, trivial⟩ <;> simp (disch := first | omega | (simp only [pN, pP, pM, pE, pL, pC, pK, sp]; omega)) only [e_s2, e_s2n, pk_us, pk_un, Nat.add_zero]
        · rw [uC_n _ _ e, uQ_n _ _ e]
          obtain ⟨d1, d2, d3, d4, d5, d6⟩ := a10 d hd
          refine ⟨d1, fun j hj => ⟨(d2 j hj).1, (d2 j hj).2.2.1, fun c' hc' hn hm => ?_⟩, ?_, ?_, ?_, ?_⟩
          · by_cases e2 : c' = c
            · subst e2
              rw [uC_s, he, List.nil_append, List.mem_singleton] at hm
              exact (d2 j hj).2.1 hm
            · rw [uC_n _ _ e2] at hm
              exact (d2 j hj).2.2.2 c' hc' hn hm
          · simp (disch := first | omega | (simp only [pN, pP, pM, pE, pL, pC, pK, sp]; omega)) only [e_s2, e_s2n, pk_us, pk_un]
            exact lnk_eq d3 (fun j hj => by have := (d2 j hj).2.1; simp (disch := first | omega | (simp only [pN, pP, pM, pE, pL, pC, pK, sp]; omega)) only [pk_un])
          · simp (disch := first | omega | (simp only [pN, pP, pM, pE, pL, pC, pK, sp]; omega)) only [e_s2, e_s2n, pk_us, pk_un]; exact d4
          · simp (disch := first | omega | (simp only [pN, pP, pM, pE, pL, pC, pK, sp]; omega)) only [e_s2, e_s2n, pk_us, pk_un]; exact d5
          · simp (disch := first | omega | (simp only [pN, pP, pM, pE, pL, pC, pK, sp]; omega)) only [e_s2, e_s2n, pk_us, pk_un]
            exact cells_eq d6 (fun j w hj hw => by have := (d2 j hj).2.1; simp (disch := first | omega | (simp only [pN, pP, pM, pE, pL, pC, pK, sp]; omega)) only [pk_un])
      · refine ⟨fun q h1 h2 h3 h4 h5 h6 => ?_, ?_⟩
        · simp (disch := first | omega | (simp only [pN, pP, pM, pE, pL, pC, pK, sp]; omega)) only [e_s2, e_s2n, pk_us, pk_un]
        · simp (disch := first | omega | (simp only [pN, pP, pM, pE, pL, pC, pK, sp]; omega)) only [e_s2, e_s2n, pk_us, pk_un]
  · have hj : j ∈ C c := by rw [he]; simp
    have hno : σ 12 c = nI (6 * j) := by rw [b4, he, lastOf_snoc]
    have hjU := (b2 j hj).1
    have hji := (b2 j hj).2.1
    simp (disch := first | omega | (simp only [pN, pP, pM, pE, pL, pC, pK, sp]; omega)) only [u_fX1_add_89, u_fX1_add_209, e_T, e_F, e_bnd, e_obr, e_obd, e_obt, e_addB, e_addA, e_in, e_cl, e_leT, e_leF, e_ltT, e_ltF, e_eqT, e_eqF, e_NOT, e_NOF, nI_add, pk_mul, k_spot, k_chan, m_node, m_pair, m_msg, m_chan, m_pack, e_w, e_wn, e_ws, e_s2, e_s2n, pk_us, pk_un, hno]
    refine ⟨_, rfl, ?_⟩
    · refine ⟨⟨uC C c (C c ++ [i]), F, U, ?_, a2, a3, a4, by rw [hU]; omega, a6, fun j hj => (a7 j hj).1, ?_, fun d hd => ?_⟩, ?_⟩
      · simp (disch := first | omega | (simp only [pN, pP, pM, pE, pL, pC, pK, sp]; omega)) only [e_s2, e_s2n, pk_us, pk_un]; exact a1
      · simp (disch := first | omega | (simp only [pN, pP, pM, pE, pL, pC, pK, sp]; omega)) only [e_s2, e_s2n, pk_us, pk_un]
        refine lnk_eq a8 (fun z hz => ?_)
        have := (a7 z hz).2
        have hzj : z ≠ j := fun e => (b2 j hj).2.2.1 (e ▸ hz)
        simp (disch := first | omega | (simp only [pN, pP, pM, pE, pL, pC, pK, sp]; omega)) only [pk_un]
      · by_cases e : d = c
        · subst e
          rw [uC_s, uQ_s]
          refine ⟨?_, fun z hz => ?_, ?_, ?_, ?_, ?_⟩
          · rw [List.nodup_append]
            refine ⟨b1, by simp, fun z hz y hy => ?_⟩
            rw [List.mem_singleton] at hy
            subst hy
            exact (b2 z hz).2.1
          · rw [List.mem_append, List.mem_singleton] at hz
            rcases hz with hz | rfl
            · refine ⟨(b2 z hz).1, (b2 z hz).2.2.1, fun c' hc' hn hm => ?_⟩
              rw [uC_n _ _ hn] at hm
              exact (b2 z hz).2.2.2 c' hc' hn hm
            · refine ⟨a9, fun hF => (a7 z hF).2 rfl, fun c' hc' hn hm => ?_⟩
              rw [uC_n _ _ hn] at hm
              exact ((a10 c' hc').2.1 z hm).2.1 rfl
          · simp (disch := first | omega | (simp only [pN, pP, pM, pE, pL, pC, pK, sp]; omega)) only [e_s2, e_s2n, pk_us, pk_un]
            rw [he] at b3 b1 ⊢
            refine lnk_app b3 (fun z hz => ?_) ?_ ?_
            · have h1 := (b2 z (by rw [he]; simp [hz])).2.1
              have h2 : z ≠ j := fun e => by
                subst e
                rw [List.nodup_append] at b1
                exact b1.2.2 z hz z (by simp) rfl
              simp (disch := first | omega | (simp only [pN, pP, pM, pE, pL, pC, pK, sp]; omega)) only [pk_un]
            · simp (disch := first | omega | (simp only [pN, pP, pM, pE, pL, pC, pK, sp]; omega)) only [e_s2, e_s2n, pk_us, pk_un]
            · simp (disch := first | omega | (simp only [pN, pP, pM, pE, pL, pC, pK, sp]; omega)) only [e_s2, e_s2n, pk_us, pk_un]
          · simp (disch := first | omega | (simp only [pN, pP, pM, pE, pL, pC, pK, sp]; omega)) only [e_s2, e_s2n, pk_us, pk_un]; rw [lastOf_snoc]
          · simp (disch := first | omega | (simp only [pN, pP, pM, pE, pL, pC, pK, sp]; omega)) only [e_s2, e_s2n, pk_us, pk_un, b5, e_T, e_F, e_bnd, e_obr, e_obd, e_obt, e_addB, e_addA, e_in, e_cl, e_leT, e_leF, e_ltT, e_ltF, e_eqT, e_eqF, e_NOT, e_NOF, nI_add, pk_mul, k_spot, k_chan, m_node, m_pair, m_msg, m_chan, m_pack, e_w, e_wn, e_ws, List.length_append, List.length_cons, List.length_nil]
          · simp (disch := first | omega | (simp only [pN, pP, pM, pE, pL, pC, pK, sp]; omega)) only [e_s2, e_s2n, pk_us, pk_un]
            refine cells_app (cells_eq b6 (fun z w hz hw => ?_)) ⟨?_, ?_, ?_, ?_, ?_⟩
            · have h1 := (b2 z hz).2.1
              simp (disch := first | omega | (simp only [pN, pP, pM, pE, pL, pC, pK, sp]; omega)) only [pk_un]
            all_goals simp (disch := first | omega | (simp only [pN, pP, pM, pE, pL, pC, pK, sp]; omega)) only [e_s2, e_s2n, pk_us, pk_un, Nat.add_zero]
        · rw [uC_n _ _ e, uQ_n _ _ e]
          obtain ⟨d1, d2, d3, d4, d5, d6⟩ := a10 d hd
          refine ⟨d1, fun z hz => ⟨(d2 z hz).1, (d2 z hz).2.2.1, fun c' hc' hn hm => ?_⟩, ?_, ?_, ?_, ?_⟩
          · by_cases e2 : c' = c
            · subst e2
              rw [uC_s, List.mem_append, List.mem_singleton] at hm
              rcases hm with hm | hm
              · exact (d2 z hz).2.2.2 c' hc' hn hm
              · exact (d2 z hz).2.1 hm
            · rw [uC_n _ _ e2] at hm
              exact (d2 z hz).2.2.2 c' hc' hn hm
          · simp (disch := first | omega | (simp only [pN, pP, pM, pE, pL, pC, pK, sp]; omega)) only [e_s2, e_s2n, pk_us, pk_un]
            refine lnk_eq d3 (fun z hz => ?_)
            have h1 := (d2 z hz).2.1
            have h2 : z ≠ j := fun e' => by subst e'; exact (d2 z hz).2.2.2 c hc (Ne.symm e) hj
            simp (disch := first | omega | (simp only [pN, pP, pM, pE, pL, pC, pK, sp]; omega)) only [pk_un]
          · simp (disch := first | omega | (simp only [pN, pP, pM, pE, pL, pC, pK, sp]; omega)) only [e_s2, e_s2n, pk_us, pk_un]; exact d4
          · simp (disch := first | omega | (simp only [pN, pP, pM, pE, pL, pC, pK, sp]; omega)) only [e_s2, e_s2n, pk_us, pk_un]; exact d5
          · simp (disch := first | omega | (simp only [pN, pP, pM, pE, pL, pC, pK, sp]; omega)) only [e_s2, e_s2n, pk_us, pk_un]
            refine cells_eq d6 (fun z w hz hw => ?_)
            have h1 := (d2 z hz).2.1
            simp (disch := first | omega | (simp only [pN, pP, pM, pE, pL, pC, pK, sp]; omega)) only [pk_un]
      · refine ⟨fun q h1 h2 h3 h4 h5 h6 => ?_, ?_⟩
        · simp (disch := first | omega | (simp only [pN, pP, pM, pE, pL, pC, pK, sp]; omega)) only [e_s2, e_s2n, pk_us, pk_un]
        · simp (disch := first | omega | (simp only [pN, pP, pM, pE, pL, pC, pK, sp]; omega)) only [e_s2, e_s2n, pk_us, pk_un]
