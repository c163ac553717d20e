section S34
variable {p : Program} {l : Launch} {e : Env} {R : Room} {s : State} {m : MethodId} {args : Array Value} {below : List Frame} {meth : Method} {c : Code} {H : Heap} {locs : List Loc} {cells slots : Nat} {Q : State → Prop}
variable {D : va_G} {A : Nat → Prop} {own : String} {cc : ByteArray} {nL : Nat} {ret : Option FieldType} {wd : Sg → va_W} {σ : Sg} {pc : Nat} {ls : Array Slot} {rest : List Value}
variable {cI cB cL : ClassId}
theorem q_fill (C : cx D (tyl cI cB cL) A own cc nL ret p s m args c meth) (S : st D wd A s σ H locs) {q a n idx : Nat} (Aq : arrAt wd q a cI n) {x : Int32} {v : Sg} (hf : fJ7_fill_53178 n x (fun _ => σ q) = some v) (h1 : Cond.methodLink own idx yJ7_fill_53178 ∈ gw) (h2 : Cond.static yJ7_fill_53178 ∈ gw) (h4 : Cond.initialized RJ7 ∈ gw) (h5 : Cond.code yJ7_fill_53178 cJ7_fill_53178 4 none ∈ gw) (hR : 1 ≤ R.frames ∧ 23 ≤ R.locals) (hls : ls.size = nL) (hcap : cells ≤ R.cells ∧ slots ≤ R.slots) (hre : (rest.map fun v => v.category).sum ≤ 8) (hdg : decode cc pc = .ok (.invokestatic idx, 3))
    {σ' : Sg} (hσ : σ' = sq σ q (v 0)) (kk : ∀ (H1 : Heap) (locs1 : List Loc), st D wd A s σ' H1 locs1 → W p l e R s m args below meth c H1 locs1 cells slots Q (F0 m (pc + 3) ls rest)) : W p l e R s m args below meth c H locs cells slots Q (F0 m pc ls (.int x :: .ref a :: rest)) := by
  have e1 := Aq.1 σ
  have hP2 : va_P D vwCl (wF cI (fun _ => a) n (fun _ => σ q)) H := by
    refine S.1.sub [q] ?_
    simp only [List.filterMap_cons, e1, List.filterMap_nil]
    rfl
  have hown : ∀ z, va_A (wF cI (fun _ => a) n (fun _ => σ q)) H.size z → A z := fun z h => by
    rcases h with ⟨k, y, hz⟩ | h
    · match k, hz with
      | 0, hz => cases hz; exact S.2.1.2 q _ e1
      | k + 1, hz => simp [wF] at hz
    · exact C.2.2.2.2.2.2.2.2.1 z (Nat.le_trans S.2.2.1 h)
  have hD2 : va_D (fun _ => True) (wF cI (fun _ => a) n (fun _ => σ q)) := by
    refine ⟨fun i j x y hx hy hxy => ?_, fun _ _ _ => trivial⟩
    match i, j, hx, hy with
    | 0, 0, _, _ => rfl
    | i + 1, _, hx, _ => simp [wF] at hx
    | 0, j + 1, _, hy => simp [wF] at hy
  refine va_callv (va_runS (As := [.ref a, .int x]) (rest := rest) ⟨C.1, C.2.1, C.2.2.1, C.2.2.2.1, C.2.2.2.2.1⟩ (ct_J7_fill_53178 l D cI cB cL (fun _ => a) n x (fun _ => σ q) hf H.size) (va_cwS 2 C.2.2.2.2.1 (gg_S h1 h2 h4 h5) rfl rfl rfl (by decide +kernel) ⟨hR.1, Nat.le_trans (Nat.le_of_ble_eq_true rfl) hR.2⟩) ⟨pre_blind, fun U hU hW => ⟨rfl, by rw [hU], by rw [hU]; exact hP2, va_K.moved hW.alike C.2.2.2.2.2.2.2.1, hD2, nws_warm hW C.2.2.2.2.2.2.2.2.2⟩⟩ rfl rfl hls rfl (lv_room hre) hdg hcap) S.2.2 (fun z _ h => hown z h) hown (fun u t H1 locs1 ht hvm hw hB hz hk hS => ?_)
  obtain ⟨hB, -, -⟩ := hB
  rw [ht] at hB
  subst hσ
  subst hw
  refine kk H1 locs1 (q_one S Aq (fun z hz1 hz2 => ?_) (hB 0 _ rfl) hS)
  refine hk z hz1 (fun f => ?_)
  rcases f with ⟨k, y, f⟩ | f
  · match k, f with
    | 0, f => cases f; exact hz2 rfl
    | k + 1, f => simp [wF] at f
  · exact absurd hz1 (Nat.not_lt.mpr f)
end S34
