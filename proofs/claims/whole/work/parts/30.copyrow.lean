def wB (cI : ClassId) (a na : Nat) (f : Nat → Int32) (b nb : Nat) (g : Nat → Int32) : Sg → va_W := fun _ => [(a, .inl (cI, na, .inl f)), (b, .inl (cI, nb, .inl g))]
def cpy (n : Nat) (f g : Nat → Int32) : Nat → Int32 := va_cpy f g 0 0 n
theorem mw30_0 : Cond.methodLink RX11 402 Lib.Math.min.name ∈ gw := gw_t3 18 rfl rfl
theorem mw30_1 : Cond.static Lib.Math.min.name ∈ gw := gw_t3 19 rfl rfl
theorem mw30_2 : Cond.initialized "java/lang/Math" ∈ gw := gw_t1 14 rfl rfl
theorem mw30_3 : Cond.code Lib.Math.min.name Lib.Math.min.code 2 (some .int) ∈ gw := gw_t3 20 rfl rfl
theorem mw30_4 : Cond.methodLink RX11 407 arraycopyName ∈ gw := gw_t3 21 rfl rfl
theorem mw30_5 : Cond.code yX11_copyRow cX11_copyRow 2 none ∈ gw := gw_t3 17 rfl rfl
theorem mw30_6 : Cond.initialized RX11 ∈ gw := gw_t1 1 rfl rfl
theorem mw30_7 : Cond.static yX11_copyRow ∈ gw := gw_t3 16 rfl rfl
theorem dX11_copyRow_0 : decode cX11_copyRow 0 = .ok (.aload_n 0, 1) := by decide +kernel
theorem dX11_copyRow_1 : decode cX11_copyRow 1 = .ok (.iconst 0, 1) := by decide +kernel
theorem dX11_copyRow_2 : decode cX11_copyRow 2 = .ok (.aload_n 1, 1) := by decide +kernel
theorem dX11_copyRow_3 : decode cX11_copyRow 3 = .ok (.iconst 0, 1) := by decide +kernel
theorem dX11_copyRow_4 : decode cX11_copyRow 4 = .ok (.aload_n 0, 1) := by decide +kernel
theorem dX11_copyRow_5 : decode cX11_copyRow 5 = .ok (.arraylength, 1) := by decide +kernel
theorem dX11_copyRow_6 : decode cX11_copyRow 6 = .ok (.aload_n 1, 1) := by decide +kernel
theorem dX11_copyRow_7 : decode cX11_copyRow 7 = .ok (.arraylength, 1) := by decide +kernel
theorem dX11_copyRow_8 : decode cX11_copyRow 8 = .ok (.invokestatic 402, 3) := by decide +kernel
theorem dX11_copyRow_11 : decode cX11_copyRow 11 = .ok (.invokestatic 407, 3) := by decide +kernel
theorem dX11_copyRow_14 : decode cX11_copyRow 14 = .ok (.return_, 1) := by decide +kernel
section S30
set_option maxRecDepth 10000 in
set_option maxHeartbeats 4000000 in
theorem ct_copyRow (l : Launch) (D : va_G) (cI cB cL : ClassId) (a b n : Nat) (f g : Nat → Int32) (hn : n < 2 ^ 31) : ∀ sz, Met l yX11_copyRow (Cond.code yX11_copyRow cX11_copyRow 2 none :: gw) (rmO 1 26) (va_Pc [.ref a, .ref b] (pre D (tyl cI cB cL) (wB cI a n f b n g) z0 sz))
    (va_Qv (fun _ : Unit => True) (fun _ t => va_P D vwCl (wB cI a n f b n (cpy n f g) z0) t.heap) (va_A (wB cI a n f b n g z0) sz)) 0 0 (va_A (wB cI a n f b n g z0) sz) := by
  intro sz
  refine Met.ofW (cc := cX11_copyRow) (maxL := 2) (ret := none) (by decide) rfl ?_
  intro p e s m args below meth c s₁ B hml hv
  obtain ⟨rfl, C, S⟩ := q_entry B hml hv
  have hx := C.1
  have hb := C.2.1
  have hl := lv_entry ([.ref a, .ref b]) (n := 2) (Nat.le_of_ble_eq_true rfl)
  rw [lg_entry_eq]
  generalize (lg_sl ([.ref a, .ref b]) ++ List.replicate (2 - (lg_sl ([.ref a, .ref b])).length) Slot.unset).toArray = ls at hl ⊢
  have hl : lv_has ls 2 [(0, .ref a), (1, .ref b)] := hl
  obtain ⟨hP, hD, hS⟩ := S
  have hK := C.2.2.2.2.2.2.2.1
  have hown := C.2.2.2.1
  have hts := C.2.2.2.2.1
  generalize hAe : va_A (wB cI a n f b n g z0) sz = A at hP hD hS C ⊢
  have hP : va_P D vwCl [(a, .inl (cI, n, .inl f)), (b, .inl (cI, n, .inl g))] s.heap := hP
  have hD : va_D A [(a, .inl (cI, n, .inl f)), (b, .inl (cI, n, .inl g))] := hD
  refine lv_aload_n hx hb dX11_copyRow_0 rfl (lv_at hl 0 rfl) ?_
  refine lv_iconst (v := 0) hx hb dX11_copyRow_1 (by decide) ?_
  refine lv_aload_n hx hb dX11_copyRow_2 rfl (lv_at hl 1 rfl) ?_
  refine lv_iconst (v := 0) hx hb dX11_copyRow_3 (by decide) ?_
  refine lv_aload_n hx hb dX11_copyRow_4 rfl (lv_at hl 0 rfl) ?_
  refine va_alen (D := D) (v := nI n) hx hb hK hP 0 0 rfl rfl rfl dX11_copyRow_5 ?_
  refine lv_aload_n hx hb dX11_copyRow_6 rfl (lv_at hl 1 rfl) ?_
  refine va_alen (D := D) (v := nI n) hx hb hK hP 1 0 rfl rfl rfl dX11_copyRow_7 ?_
  refine q_mmin C mw30_0 mw30_1 mw30_2 mw30_3 ⟨Nat.le_refl _, Nat.le_of_ble_eq_true rfl⟩ hl.1 ⟨Nat.le_refl _, Nat.le_refl _⟩ (Nat.le_of_ble_eq_true rfl) dX11_copyRow_8 ?_
  rw [if_neg (nI_nlt (Nat.le_refl n) hn)]
  have e0 : (0 : Int32).toNatClampNeg = 0 := by decide
  have eL : (nI n).toNatClampNeg = n := nI_clamp hn
  refine va_copyi hx hb (hml.trans hl.1.symm) hown (hts _ mw30_4) (hts _ mwJ3) (hts _ mwJ4) (hts _ mwJ5) hK hP hD hS 0 1 0 0 rfl rfl (ty := .int) rfl rfl rfl (by decide) (by decide) (nI_pos hn) (by rw [e0, eL]; omega) (by rw [e0, eL]; omega) (fun _ _ => rfl) (Nat.le_refl _) (Nat.le_of_ble_eq_true rfl) dX11_copyRow_11 (fun H locs hP hD hS => ?_)
  rw [e0, eL] at hP hD
  exact W.vret hx hb C.2.2.2.2.2.1 (fun t ht hW => ⟨⟨(), rfl, trivial, by show va_P D vwCl _ t.heap; rw [ht]; exact hP⟩, hS.F ht⟩) hS.2.2 dX11_copyRow_14 C.2.2.2.2.2.2.1
end S30
section S30b
variable {p : Program} {l : Launch} {e : Env} {R : Room} {s : State} {m : MethodId} {args : Array Value} {below : List Frame} {meth : Method} {c : Code} {H : Heap} {locs : List Loc} {cells slots : Nat} {Q : State → Prop}
variable {D : va_G} {tys : List (ClassId × FieldType)} {A : Nat → Prop} {own : String} {cc : ByteArray} {nL : Nat} {ret : Option FieldType} {wd : Sg → va_W} {σ : Sg} {pc : Nat} {ls : Array Slot} {rest : List Value}
variable {cI cB cL : ClassId}
/-- one row of a world is new, all else stands -/
theorem q_one {q a n : Nat} (S : st D wd A s σ H locs) (Aq : arrAt wd q a cI n) {f : Nat → Int32} {H1 : Heap} {locs1 : List Loc} (hk : ∀ z : Nat, z < H.size → z ≠ a → H1[z]? = H[z]?) (h1 : H1[a]? = some (vp_cell cI (n, .inl f))) (hS : va_S A s.heap H1 locs1) : st D wd A s (sq σ q f) H1 locs1 := by
  have hq := Aq.1 σ
  have hlen := (List.getElem?_eq_some_iff.mp hq).1
  refine ⟨?_, ?_, hS⟩
  · rw [← Aq.2 σ f]
    intro k z hz
    by_cases hkq : k = q
    · subst hkq
      rw [List.getElem?_set_self hlen] at hz
      cases hz
      exact h1
    · rw [List.getElem?_set_ne (Ne.symm hkq)] at hz
      exact (S.1 k z hz).kept (hk z.1 (S.1 k z hz).lt (fun e => hkq (S.2.1.1 k q z _ hz hq e)))
  · rw [← Aq.2 σ f]
    exact S.2.1.set hq
theorem q_copyRow (C : cx D (tyl cI cB cL) A own cc nL ret p s m args c meth) (S : st D wd A s σ H locs) {qa qb a b n idx : Nat} (Aq : arrAt wd qa a cI n) (Bq : arrAt wd qb b cI n) (hn : n < 2 ^ 31) (hab : qa ≠ qb) (h1 : (own, idx, yX11_copyRow) ∈ nwq) (hR : 2 ≤ R.frames ∧ 47 ≤ R.locals) (hls : ls.size = nL) (hcap : cells ≤ R.cells ∧ slots ≤ R.slots) (hre : (rest.map fun v => v.category).sum ≤ 8) (hdg : decode cc pc = .ok (.invokestatic idx, 3))
    {σ' : Sg} (hσ : σ' = sq σ qb (cpy n (σ qa) (σ qb))) (kk : ∀ (H1 : Heap) (locs1 : List Loc), st D wd A s σ' H1 locs1 → W p l e R s m args below meth c H1 locs1 cells slots Q (F0 m (pc + 3) ls rest)) : W p l e R s m args below meth c H locs cells slots Q (F0 m pc ls (.ref b :: .ref a :: rest)) := by
  have e1 := Aq.1 σ
  have e2 := Bq.1 σ
  have hP2 : va_P D vwCl (wB cI a n (σ qa) b n (σ qb) z0) H := by
    refine S.1.sub [qa, qb] ?_
    simp only [List.filterMap_cons, e1, e2, List.filterMap_nil]
    rfl
  have hne : a ≠ b := fun e => hab (S.2.1.1 qa qb _ _ e1 e2 e)
  have hown : ∀ q, va_A (wB cI a n (σ qa) b n (σ qb) z0) H.size q → A q := fun q h => by
    rcases h with ⟨k, z, hz⟩ | h
    · match k, hz with
      | 0, hz => cases hz; exact S.2.1.2 qa _ e1
      | 1, hz => cases hz; exact S.2.1.2 qb _ e2
      | k + 2, hz => simp [wB] at hz
    · exact C.2.2.2.2.2.2.2.2.1 q (Nat.le_trans S.2.2.1 h)
  have hD2 : va_D (fun _ => True) (wB cI a n (σ qa) b n (σ qb) z0) := by
    refine ⟨fun i j x y hx hy hxy => ?_, fun _ _ _ => trivial⟩
    match i, j, hx, hy with
    | 0, 0, _, _ => rfl
    | 1, 1, _, _ => rfl
    | 0, 1, hx, hy => cases hx; cases hy; exact absurd hxy hne
    | 1, 0, hx, hy => cases hx; cases hy; exact absurd hxy.symm hne
    | i + 2, _, hx, _ => simp [wB] at hx
    | 0, j + 2, _, hy => simp [wB] at hy
    | 1, j + 2, _, hy => simp [wB] at hy
  refine va_callv (va_runSN (As := [.ref a, .ref b]) (rest := rest) ⟨C.1, C.2.1, C.2.2.1, C.2.2.2.1, C.2.2.2.2.1⟩ (ct_copyRow l D cI cB cL a b n (σ qa) (σ qb) hn H.size) ⟨va_cnB 2 C.2.2.2.2.1 (gg_c mw30_5) rfl rfl rfl (C.2.2.2.2.2.2.2.2.2 _ h1) (C.2.2.2.2.1 _ mw30_6) (by decide +kernel) ⟨hR.1, Nat.le_trans (Nat.le_of_ble_eq_true rfl) hR.2⟩, C.2.2.2.2.1 _ mw30_7, trivial⟩ ⟨pre_blind, fun U hU hW => ⟨rfl, by rw [hU], by rw [hU]; exact hP2, va_K.moved hW.alike C.2.2.2.2.2.2.2.1, hD2, nws_warm hW C.2.2.2.2.2.2.2.2.2⟩⟩ rfl rfl hls rfl (lv_room hre) hdg hcap) S.2.2 (fun z _ h => hown z h) hown (fun u t H1 locs1 ht hvm hw hB hz hk hS => ?_)
  rw [ht] at hB
  subst hσ
  refine kk H1 locs1 (q_one S Bq (fun z hz1 hz2 => ?_) (hB 1 _ rfl) hS)
  by_cases hza : z = a
  · subst hza
    exact (hB 0 _ rfl).trans (hP2 0 _ rfl).symm
  · refine hk z hz1 (fun f => ?_)
    rcases f with ⟨k, y, f⟩ | f
    · match k, f with
      | 0, f => cases f; exact hza rfl
      | 1, f => cases f; exact hz2 rfl
      | k + 2, f => simp [wB] at f
    · exact absurd hz1 (Nat.not_lt.mpr f)
end S30b
