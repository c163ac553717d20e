/-! parted: pairs in one order at one node, in the other at another -/
def i01 (b : Bool) : Nat := if b = true then 1 else 0
def cS (g : Nat → Bool) : List Nat → Nat
  | [] => 0
  | w :: l => i01 (g w) + cS g l
def pS (f : Nat → Nat → Bool) : List Nat → Nat
  | [] => 0
  | v :: l => cS (f v) l + pS f l
theorem cS_0 {g : Nat → Bool} : ∀ {l : List Nat}, (∀ w, w ∈ l → g w = false) → cS g l = 0
  | [], _ => rfl
  | w :: l, h => by
    unfold cS
    rw [h w List.mem_cons_self, cS_0 (fun x hx => h x (List.mem_cons_of_mem _ hx))]; rfl
theorem sumL_pt {f : Nat → Nat} {w k : Nat} (hw : w < k) (h : ∀ i, i < k → i ≠ w → f i = 0) : sumL f k = f w := by
  have := sumL_upd (f := fun _ => 0) (g := f) hw (fun i hi hne => h i hi hne)
  rw [sumL_0 (f := fun _ => 0) (fun _ _ => rfl)] at this
  omega
theorem sum_cS {M : Nat} {g : Nat → Bool} : ∀ {l : List Nat}, l.Nodup → (∀ w, w ∈ l → w < M) → sumL (fun b => i01 (decide (b ∈ l) && g b)) M = cS g l
  | [], _, _ => sumL_0 (fun i _ => by rw [decide_eq_false (fun q => by cases q)]; rfl)
  | w :: l, hn, hM => by
    have hnd := List.nodup_cons.mp hn
    have e : sumL (fun b => i01 (decide (b ∈ w :: l) && g b)) M = sumL (fun b => (if b = w then i01 (g w) else 0) + i01 (decide (b ∈ l) && g b)) M := by
      refine sumL_congr (fun b hb => ?_)
      by_cases e : b = w
      · subst e
        rw [if_pos rfl, decide_eq_true List.mem_cons_self, decide_eq_false hnd.1, Bool.true_and, Bool.false_and]; rfl
      · have : (b ∈ w :: l) = (b ∈ l) := propext ⟨fun q => (List.mem_cons.mp q).resolve_left e, fun q => List.mem_cons_of_mem _ q⟩
        rw [if_neg e, Nat.zero_add]; simp only [this]
    rw [e, sumL_add, sumL_pt (hM w List.mem_cons_self) (fun i _ hne => if_neg hne), if_pos rfl, sum_cS hnd.2 (fun x hx => hM x (List.mem_cons_of_mem _ hx))]
    rfl
theorem sum_pS {M : Nat} {f : Nat → Nat → Bool} : ∀ {l : List Nat}, l.Nodup → (∀ w, w ∈ l → w < M) → sumL (fun a => sumL (fun b => i01 (bef l a b && f a b)) M) M = pS f l
  | [], _, _ => sumL_0 (fun i _ => sumL_0 (fun j _ => rfl))
  | v :: l, hn, hM => by
    have hnd := List.nodup_cons.mp hn
    have hM' : ∀ w, w ∈ l → w < M := fun x hx => hM x (List.mem_cons_of_mem _ hx)
    have e : sumL (fun a => sumL (fun b => i01 (bef (v :: l) a b && f a b)) M) M = sumL (fun a => (if a = v then cS (f v) l else 0) + sumL (fun b => i01 (bef l a b && f a b)) M) M := by
      refine sumL_congr (fun a ha => ?_)
      by_cases e : a = v
      · subst e
        rw [if_pos rfl, sumL_0 (f := fun b => i01 (bef l a b && f a b)) (fun b _ => by rw [bef_out1 hnd.1]; rfl), Nat.add_zero, ← sum_cS hnd.2 hM']
        refine sumL_congr (fun b _ => ?_)
        unfold bef; rw [if_pos rfl]
      · rw [if_neg e, Nat.zero_add]
        refine sumL_congr (fun b _ => ?_)
        show i01 (bef (v :: l) a b && f a b) = _
        rw [show bef (v :: l) a b = bef l a b from if_neg (fun q => e q.symm)]
    rw [e, sumL_add, sumL_pt (hM v List.mem_cons_self) (fun i _ hne => if_neg hne), if_pos rfl, sum_pS hnd.2 hM']
    rfl
section PA
variable {dr : Prop} {tk : Int32} {pl N G M T B : Nat} {Q : Qs} {Dl : Nat → List Nat} {σ u : Sg} {ω : Nat → Int32} {n1 n2 a : Nat}
theorem k_part_in (hD : rD Dl σ ω) (h1 : n1 < 6) (h2 : n2 < 6) (ha : a < 20) {K : Int32 → Int32 → Int32 → Int32 → Option Int32} {i : Nat} : ∀ l j f c, (Dl n1).drop j = l → a ∉ l → j ≤ 20 → l.length < f → fX0_partedPairs_46 K σ f (nI n1) (nI n2) (nI c) (nI i) (plI 0 (Dl n2) a) (nI j) = K (nI n1) (nI n2) (nI (c + cS (fun b => bef (Dl n2) b a) l)) (nI (i + 1)) := by
  have hlen := dl_len hD h1
  have hlen2 := dl_len hD h2
  have hnd2 := (hD n2 h2).1
  obtain ⟨d1, d2, d3, d4, d5⟩ := hD n1 h1
  intro l
  induction l with
  | nil =>
    intro j f c hj hal hj2 hf
    obtain ⟨f, rfl⟩ : ∃ g, f = g + 1 := ⟨f - 1, by omega⟩
    have := drop_n hj
    simp (disch := first | omega | (simp only [pN, pP, pM, pE, pL, pC, pK, sp]; omega)) only [u_fX0_partedPairs_46, u_fX0_partedPairs_103, d3, cS, Nat.add_zero, e_T, e_F, e_bnd, e_obr, e_obd, e_obt, e_addB, e_addA, e_in, e_cl, e_leT, e_leF, e_ltT, e_ltF, e_eqT, e_eqF, e_NOT, e_NOF, nI_add, pk_mul, k_spot, k_chan, m_node, m_pair, m_msg, m_chan, m_pack, e_w, e_wn, e_ws]
  | cons b l ih =>
    intro j f c hj hal hj2 hf
    obtain ⟨f, rfl⟩ : ∃ g, f = g + 1 := ⟨f - 1, by omega⟩
    obtain ⟨q1, q2, q3⟩ := drop_c hj
    rw [List.length_cons] at hf
    have hb := ((d2 b).mp (List.mem_of_getElem? q1)).1
    have h24 := (d5 j b q1).1
    have hab : b ≠ a := fun e => hal (by rw [e]; exact List.mem_cons_self)
    have hal' : a ∉ l := fun q => hal (List.mem_cons_of_mem _ q)
    by_cases ia : a ∈ Dl n2
    · obtain ⟨a1, a2, a3⟩ := plI_in (k := 0) ia
      have I := fun c => ih (j + 1) f c q2 hal' (by omega) (by omega)
      have pb := k_place hD (n := n2) (m := b) h2 hb
      rw [a1] at I ⊢
      unfold cS
      by_cases ib : b ∈ Dl n2
      · obtain ⟨b1, b2', b3⟩ := plI_in (k := 0) ib
        have hbp := bef_pos hab (k := 0) hnd2 ib ia
        rw [b1] at pb
        by_cases hbf : bef (Dl n2) b a = true
        · have := hbp.mp hbf
          have e1 : i01 (bef (Dl n2) b a) = 1 := by rw [hbf]; rfl
          simp (disch := first | omega | (simp only [pN, pP, pM, pE, pL, pC, pK, sp]; omega)) only [u_fX0_partedPairs_46, u_fX0_partedPairs_97, d3, h24, pb, I, e1, Nat.add_assoc, e_T, e_F, e_bnd, e_obr, e_obd, e_obt, e_addB, e_addA, e_in, e_cl, e_leT, e_leF, e_ltT, e_ltF, e_eqT, e_eqF, e_NOT, e_NOF, nI_add, pk_mul, k_spot, k_chan, m_node, m_pair, m_msg, m_chan, m_pack, e_w, e_wn, e_ws]
        · have : ¬ posN 0 (Dl n2) b < posN 0 (Dl n2) a := fun q => hbf (hbp.mpr q)
          have e1 : i01 (bef (Dl n2) b a) = 0 := if_neg hbf
          simp (disch := first | omega | (simp only [pN, pP, pM, pE, pL, pC, pK, sp]; omega)) only [u_fX0_partedPairs_46, u_fX0_partedPairs_97, d3, h24, pb, I, e1, Nat.zero_add, e_T, e_F, e_bnd, e_obr, e_obd, e_obt, e_addB, e_addA, e_in, e_cl, e_leT, e_leF, e_ltT, e_ltF, e_eqT, e_eqF, e_NOT, e_NOF, nI_add, pk_mul, k_spot, k_chan, m_node, m_pair, m_msg, m_chan, m_pack, e_w, e_wn, e_ws]
      · rw [plI_out ib] at pb
        have e1 : i01 (bef (Dl n2) b a) = 0 := by rw [bef_out1 ib]; rfl
        simp (disch := first | omega | (simp only [pN, pP, pM, pE, pL, pC, pK, sp]; omega)) only [u_fX0_partedPairs_46, u_fX0_partedPairs_97, d3, h24, pb, I, e1, Nat.zero_add, e_T, e_F, e_bnd, e_obr, e_obd, e_obt, e_addB, e_addA, e_in, e_cl, e_leT, e_leF, e_ltT, e_ltF, e_eqT, e_eqF, e_NOT, e_NOF, nI_add, pk_mul, k_spot, k_chan, m_node, m_pair, m_msg, m_chan, m_pack, e_w, e_wn, e_ws]
    · rw [plI_out ia, cS_0 (fun w _ => bef_out ia)]
      simp (disch := first | omega | (simp only [pN, pP, pM, pE, pL, pC, pK, sp]; omega)) only [u_fX0_partedPairs_46, u_fX0_partedPairs_103, d3, Nat.add_zero, e_T, e_F, e_bnd, e_obr, e_obd, e_obt, e_addB, e_addA, e_in, e_cl, e_leT, e_leF, e_ltT, e_ltF, e_eqT, e_eqF, e_NOT, e_NOF, nI_add, pk_mul, k_spot, k_chan, m_node, m_pair, m_msg, m_chan, m_pack, e_w, e_wn, e_ws]
theorem k_part_lp (hD : rD Dl σ ω) (h1 : n1 < 6) (h2 : n2 < 6) : ∀ l i f c, (Dl n1).drop i = l → i ≤ 20 → l.length < f → fX0_partedPairs_11 σ f (nI n1) (nI n2) (nI c) (nI i) = some (nI (c + pS (fun a b => bef (Dl n2) b a) l)) := by
  have hlen := dl_len hD h1
  obtain ⟨d1, d2, d3, d4, d5⟩ := hD n1 h1
  intro l
  induction l with
  | nil =>
    intro i f c hi hi2 hf
    obtain ⟨f, rfl⟩ : ∃ g, f = g + 1 := ⟨f - 1, by omega⟩
    have := drop_n hi
    simp (disch := first | omega | (simp only [pN, pP, pM, pE, pL, pC, pK, sp]; omega)) only [u_fX0_partedPairs_11, d3, pS, Nat.add_zero, e_T, e_F, e_bnd, e_obr, e_obd, e_obt, e_addB, e_addA, e_in, e_cl, e_leT, e_leF, e_ltT, e_ltF, e_eqT, e_eqF, e_NOT, e_NOF, nI_add, pk_mul, k_spot, k_chan, m_node, m_pair, m_msg, m_chan, m_pack, e_w, e_wn, e_ws]
  | cons a l ih =>
    intro i f c hi hi2 hf
    obtain ⟨f, rfl⟩ : ∃ g, f = g + 1 := ⟨f - 1, by omega⟩
    obtain ⟨q1, q2, q3⟩ := drop_c hi
    rw [List.length_cons] at hf
    have ha := ((d2 a).mp (List.mem_of_getElem? q1)).1
    have h24 := (d5 i a q1).1
    have hal : a ∉ l := by
      have := List.Sublist.nodup (List.drop_sublist i (Dl n1)) d1
      rw [hi] at this
      exact (List.nodup_cons.mp this).1
    have pa := k_place hD (n := n2) (m := a) h2 ha
    have I := k_part_in (K := fun a0 a1 a2 a3 => fX0_partedPairs_11 σ f a0 a1 a2 a3) hD h1 h2 ha (i := i) l (i + 1) FU c q2 hal (by omega) (by show l.length < 100000; omega)
    have J := ih (i + 1) f (c + cS (fun b => bef (Dl n2) b a) l) q2 (by omega) (by omega)
    unfold pS
    rw [← Nat.add_assoc, ← J]
    simp (disch := first | omega | (simp only [pN, pP, pM, pE, pL, pC, pK, sp]; omega)) only [u_fX0_partedPairs_11, d3, h24, pa, I, e_T, e_F, e_bnd, e_obr, e_obd, e_obt, e_addB, e_addA, e_in, e_cl, e_leT, e_leF, e_ltT, e_ltF, e_eqT, e_eqF, e_NOT, e_NOF, nI_add, pk_mul, k_spot, k_chan, m_node, m_pair, m_msg, m_chan, m_pack, e_w, e_wn, e_ws]
theorem k_part (hD : rD Dl σ ω) (h1 : n1 < 6) (h2 : n2 < 6) : fX0_partedPairs (nI n1) (nI n2) σ = some (nI (pS (fun a b => bef (Dl n2) b a) (Dl n1))) := by
  have := dl_len hD h1
  have I := k_part_lp hD h1 h2 (Dl n1) 0 FU 0 rfl (by omega) (by show (Dl n1).length < 100000; omega)
  rw [Nat.zero_add] at I
  exact I
def ptF (Dl : Nat → List Nat) (n1 n2 a : Nat) : Nat → Nat := fun b => i01 (bef (Dl n1) a b && bef (Dl n2) b a)
theorem m_part_in (h : R0 dr tk pl N G M T B Q Dl σ ω) (h1 : n1 < 6) (h2 : n2 < 6) (ha : a < 20) {K : Int32 → Int32 → Int32 → Int32 → Sg → Option (Int32 × Sg)} : ∀ r k f c, k + r = M → r < f → fX12_parted_46 K f (nI n1) (nI n2) (nI (c + sumL (ptF Dl n1 n2 a) k)) (nI a) (nI k) (sq u 1 ω) = K (nI n1) (nI n2) (nI (c + sumL (ptF Dl n1 n2 a) M)) (nI (a + 1)) (sq u 1 ω) := by
  have hM20 := h.1.1.2.2.1
  have z3 := h.1.2.2.2.1.2
  have hD := h.2.2.2.1
  intro r
  induction r with
  | zero =>
    intro k f c hk hf
    obtain ⟨f, rfl⟩ : ∃ g, f = g + 1 := ⟨f - 1, by omega⟩
    have hk : k = M := by omega
    subst hk
    simp (disch := first | omega | (simp only [pN, pP, pM, pE, pL, pC, pK, sp]; omega)) only [u_fX12_parted_46, m_messages, z3, e_T, e_F, e_bnd, e_obr, e_obd, e_obt, e_addB, e_addA, e_in, e_cl, e_leT, e_leF, e_ltT, e_ltF, e_eqT, e_eqF, e_NOT, e_NOF, nI_add, pk_mul, k_spot, k_chan, m_node, m_pair, m_msg, m_chan, m_pack, e_w, e_wn, e_ws]
  | succ r ih =>
    intro k f c hk hf
    obtain ⟨f, rfl⟩ : ∃ g, f = g + 1 := ⟨f - 1, by omega⟩
    have I := ih (k + 1) f c (by omega) (by omega)
    have x1 := m_has (u := u) hD h1 ha (show k < 20 by omega)
    have x2 := m_has (u := u) hD h2 (show k < 20 by omega) ha
    have es : sumL (ptF Dl n1 n2 a) (k + 1) = sumL (ptF Dl n1 n2 a) k + ptF Dl n1 n2 a k := rfl
    rw [es] at I
    unfold ptF at I ⊢
    cases y1 : bef (Dl n1) a k with
    | false =>
      rw [y1] at x1 I
      rw [Bool.false_and, show i01 false = 0 from rfl, Nat.add_zero] at I
      simp (disch := first | omega | (simp only [pN, pP, pM, pE, pL, pC, pK, sp]; omega)) only [u_fX12_parted_46, u_fX12_parted_84, u_fX12_parted_85, m_messages, z3, x1, b2_f, I, Nat.add_zero, e_T, e_F, e_bnd, e_obr, e_obd, e_obt, e_addB, e_addA, e_in, e_cl, e_leT, e_leF, e_ltT, e_ltF, e_eqT, e_eqF, e_NOT, e_NOF, nI_add, pk_mul, k_spot, k_chan, m_node, m_pair, m_msg, m_chan, m_pack, e_w, e_wn, e_ws]
    | true =>
      cases y2 : bef (Dl n2) k a with
      | false =>
        rw [y1] at x1 I
        rw [y2] at x2 I
        rw [Bool.and_false, show i01 false = 0 from rfl, Nat.add_zero] at I
        simp (disch := first | omega | (simp only [pN, pP, pM, pE, pL, pC, pK, sp]; omega)) only [u_fX12_parted_46, u_fX12_parted_84, u_fX12_parted_85, m_messages, z3, x1, x2, b2_f, b2_t, I, Nat.add_zero, e_T, e_F, e_bnd, e_obr, e_obd, e_obt, e_addB, e_addA, e_in, e_cl, e_leT, e_leF, e_ltT, e_ltF, e_eqT, e_eqF, e_NOT, e_NOF, nI_add, pk_mul, k_spot, k_chan, m_node, m_pair, m_msg, m_chan, m_pack, e_w, e_wn, e_ws]
      | true =>
        rw [y1] at x1 I
        rw [y2] at x2 I
        rw [Bool.and_true, show i01 true = 1 from rfl, ← Nat.add_assoc] at I
        simp (disch := first | omega | (simp only [pN, pP, pM, pE, pL, pC, pK, sp]; omega)) only [u_fX12_parted_46, u_fX12_parted_84, u_fX12_parted_85, m_messages, z3, x1, x2, b2_t, I, e_T, e_F, e_bnd, e_obr, e_obd, e_obt, e_addB, e_addA, e_in, e_cl, e_leT, e_leF, e_ltT, e_ltF, e_eqT, e_eqF, e_NOT, e_NOF, nI_add, pk_mul, k_spot, k_chan, m_node, m_pair, m_msg, m_chan, m_pack, e_w, e_wn, e_ws]
theorem m_part_lp (h : R0 dr tk pl N G M T B Q Dl σ ω) (h1 : n1 < 6) (h2 : n2 < 6) : ∀ r k f, k + r = M → r < f → fX12_parted_34 f (nI n1) (nI n2) (nI (sumL (fun a => sumL (ptF Dl n1 n2 a) M) k)) (nI k) (sq u 1 ω) = some (nI (sumL (fun a => sumL (ptF Dl n1 n2 a) M) M), sq u 1 ω) := by
  have hM20 := h.1.1.2.2.1
  have z3 := h.1.2.2.2.1.2
  intro r
  induction r with
  | zero =>
    intro k f hk hf
    obtain ⟨f, rfl⟩ : ∃ g, f = g + 1 := ⟨f - 1, by omega⟩
    have hk : k = M := by omega
    subst hk
    simp (disch := first | omega | (simp only [pN, pP, pM, pE, pL, pC, pK, sp]; omega)) only [u_fX12_parted_34, m_messages, z3, e_T, e_F, e_bnd, e_obr, e_obd, e_obt, e_addB, e_addA, e_in, e_cl, e_leT, e_leF, e_ltT, e_ltF, e_eqT, e_eqF, e_NOT, e_NOF, nI_add, pk_mul, k_spot, k_chan, m_node, m_pair, m_msg, m_chan, m_pack, e_w, e_wn, e_ws]
  | succ r ih =>
    intro k f hk hf
    obtain ⟨f, rfl⟩ : ∃ g, f = g + 1 := ⟨f - 1, by omega⟩
    have I := ih (k + 1) f (by omega) (by omega)
    have J := m_part_in (u := u) h h1 h2 (show k < 20 by omega) (K := fun a0 a1 a2 a3 w => fX12_parted_34 f a0 a1 a2 a3 w) M 0 FU (sumL (fun a => sumL (ptF Dl n1 n2 a) M) k) (by omega) (by show M < 100000; omega)
    rw [show sumL (ptF Dl n1 n2 k) 0 = 0 from rfl, Nat.add_zero] at J
    have es : sumL (fun a => sumL (ptF Dl n1 n2 a) M) (k + 1) = sumL (fun a => sumL (ptF Dl n1 n2 a) M) k + sumL (ptF Dl n1 n2 k) M := rfl
    rw [es] at I
    rw [← I]
    simp (disch := first | omega | (simp only [pN, pP, pM, pE, pL, pC, pK, sp]; omega)) only [u_fX12_parted_34, m_messages, z3, J, e_T, e_F, e_bnd, e_obr, e_obd, e_obt, e_addB, e_addA, e_in, e_cl, e_leT, e_leF, e_ltT, e_ltF, e_eqT, e_eqF, e_NOT, e_NOF, nI_add, pk_mul, k_spot, k_chan, m_node, m_pair, m_msg, m_chan, m_pack, e_w, e_wn, e_ws]
theorem o_parted (h : R0 dr tk pl N G M T B Q Dl σ ω) (x1 x2 : Int32) : QR [0, 3] kk2 (fX11_parted x1 x2 σ) (fX12_parted x1 x2 (sq u 1 ω)) σ u ω := by
  have h6 := h.1.1.1
  have hM20 := h.1.1.2.2.1
  have hD := h.2.2.2.1
  rcases ck_two h x1 x2 with ⟨n1, n2, h1, h2, rfl, rfl, k1, k2, m1⟩ | ⟨k1, m1⟩
  · by_cases e : n1 = n2
    · subst e
      refine QR_thr (r := nI 0) 3 (by decide) ?_ ?_
      · simp (disch := first | omega | (simp only [pN, pP, pM, pE, pL, pC, pK, sp]; omega)) only [u_fX11_parted, u_fX11_parted_0, k1, e_obxl, e_obxr, u_fX11_needTwo, u_fX11_needTwo_0, e_T, e_F, e_bnd, e_obr, e_obd, e_obt, e_addB, e_addA, e_in, e_cl, e_leT, e_leF, e_ltT, e_ltF, e_eqT, e_eqF, e_NOT, e_NOF, nI_add, pk_mul, k_spot, k_chan, m_node, m_pair, m_msg, m_chan, m_pack, e_w, e_wn, e_ws]
      · simp (disch := first | omega | (simp only [pN, pP, pM, pE, pL, pC, pK, sp]; omega)) only [u_fX12_parted, u_fX12_parted_0, u_fX12_parted_20, m1, m_thr1, e_ss, e_T, e_F, e_bnd, e_obr, e_obd, e_obt, e_addB, e_addA, e_in, e_cl, e_leT, e_leF, e_ltT, e_ltF, e_eqT, e_eqF, e_NOT, e_NOF, nI_add, pk_mul, k_spot, k_chan, m_node, m_pair, m_msg, m_chan, m_pack, e_w, e_wn, e_ws]; rfl
    · have kp := k_part hD (show n1 < 6 by omega) (show n2 < 6 by omega)
      have mp := m_part_lp (u := s2 u 0 0 (nI 0)) h (show n1 < 6 by omega) (show n2 < 6 by omega) M 0 FU (by omega) (by show M < 100000; omega)
      have hle : ∀ w, w ∈ Dl n1 → w < M := fun w hw => by
        have := ((hD n1 (by omega)).2.1 w).mp hw
        obtain ⟨⟨k, q1, q2, q3, q4, -⟩, -⟩ := h.2.2.1 n1 w (by omega) this.1
        rw [this.2] at q2
        have hk : 3 = k := (nI_eq (by omega) (by omega)).mp q2
        exact (q4 (by omega)).2.1
      have es : sumL (fun a => sumL (ptF Dl n1 n2 a) M) M = pS (fun a b => bef (Dl n2) b a) (Dl n1) := sum_pS (hD n1 (by omega)).1 hle
      rw [es] at mp
      have mp : fX12_parted_34 FU (nI n1) (nI n2) (nI 0) (nI 0) (sq (s2 u 0 0 (nI 0)) 1 ω) = _ := mp
      refine QR_val (r := nI (pS (fun a b => bef (Dl n2) b a) (Dl n1))) ?_ ?_
      · simp (disch := first | omega | (simp only [pN, pP, pM, pE, pL, pC, pK, sp]; omega)) only [u_fX11_parted, u_fX11_parted_0, k1, k2, e_obxl, u_fX11_needTwo, u_fX11_needTwo_0, e_sbTN, kp, e_T, e_F, e_bnd, e_obr, e_obd, e_obt, e_addB, e_addA, e_in, e_cl, e_leT, e_leF, e_ltT, e_ltF, e_eqT, e_eqF, e_NOT, e_NOF, nI_add, pk_mul, k_spot, k_chan, m_node, m_pair, m_msg, m_chan, m_pack, e_w, e_wn, e_ws]
      · simp (disch := first | omega | (simp only [pN, pP, pM, pE, pL, pC, pK, sp]; omega)) only [u_fX12_parted, u_fX12_parted_0, u_fX12_parted_20, m1, m_thr0, mp, e_T, e_F, e_bnd, e_obr, e_obd, e_obt, e_addB, e_addA, e_in, e_cl, e_leT, e_leF, e_ltT, e_ltF, e_eqT, e_eqF, e_NOT, e_NOF, nI_add, pk_mul, k_spot, k_chan, m_node, m_pair, m_msg, m_chan, m_pack, e_w, e_wn, e_ws]
  · refine QR_thr (r := nI 0) 0 (by decide) ?_ ?_
    · rw [u_fX11_parted, u_fX11_parted_0]; exact k1 _
    · simp (disch := first | omega | (simp only [pN, pP, pM, pE, pL, pC, pK, sp]; omega)) only [u_fX12_parted, u_fX12_parted_0, m1, e_T, e_F, e_bnd, e_obr, e_obd, e_obt, e_addB, e_addA, e_in, e_cl, e_leT, e_leF, e_ltT, e_ltF, e_eqT, e_eqF, e_NOT, e_NOF, nI_add, pk_mul, k_spot, k_chan, m_node, m_pair, m_msg, m_chan, m_pack, e_w, e_wn, e_ws]; rfl
end PA
