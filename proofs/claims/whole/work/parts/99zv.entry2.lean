/-! the law's entry -/
section E2
variable {p : Program} {l : Launch} {s : State} {m : MethodId} {meth : Method} {c : Code} {args : Array Value}
theorem en_kx (hts : ∀ w ∈ lw_tbl, w.before args s = true) (hs : ∀ w ∈ nfl, w.before args s = true) : ∃ ka kv fv, kx ka kv fv (fun q => s.heap.size ≤ q) s s.heap := by
  have hA : ∀ a : Nat, a < s.heap.size → ¬ (fun q => s.heap.size ≤ q) a := fun a h => Nat.not_le.mpr h
  obtain ⟨a0, v0, e0, o0, c0, f0, t0⟩ := en_str (w := wrd 0) (A := fun q => s.heap.size ≤ q) (show (wrd 0).length < 2 ^ 31 by decide) (hs _ ne_0) (hs _ nc_0) (hs _ na_0) (hs _ nl_0) (fun j hj => by
    have hj : j < 5 := hj
    rcases (show j = 0 ∨ j = 1 ∨ j = 2 ∨ j = 3 ∨ j = 4 by omega) with rfl | rfl | rfl | rfl | rfl
    · exact hs _ nx_0_0
    · exact hs _ nx_0_1
    · exact hs _ nx_0_2
    · exact hs _ nx_0_3
    · exact hs _ nx_0_4) hA
  obtain ⟨a1, v1, e1, o1, c1, f1, t1⟩ := en_str (w := wrd 1) (A := fun q => s.heap.size ≤ q) (show (wrd 1).length < 2 ^ 31 by decide) (hs _ ne_1) (hs _ nc_1) (hs _ na_1) (hs _ nl_1) (fun j hj => by
    have hj : j < 5 := hj
    rcases (show j = 0 ∨ j = 1 ∨ j = 2 ∨ j = 3 ∨ j = 4 by omega) with rfl | rfl | rfl | rfl | rfl
    · exact hs _ nx_1_0
    · exact hs _ nx_1_1
    · exact hs _ nx_1_2
    · exact hs _ nx_1_3
    · exact hs _ nx_1_4) hA
  obtain ⟨a2, v2, e2, o2, c2, f2, t2⟩ := en_str (w := wrd 2) (A := fun q => s.heap.size ≤ q) (show (wrd 2).length < 2 ^ 31 by decide) (hs _ ne_2) (hs _ nc_2) (hs _ na_2) (hs _ nl_2) (fun j hj => by
    have hj : j < 5 := hj
    rcases (show j = 0 ∨ j = 1 ∨ j = 2 ∨ j = 3 ∨ j = 4 by omega) with rfl | rfl | rfl | rfl | rfl
    · exact hs _ nx_2_0
    · exact hs _ nx_2_1
    · exact hs _ nx_2_2
    · exact hs _ nx_2_3
    · exact hs _ nx_2_4) hA
  obtain ⟨a3, v3, e3, o3, c3, f3, t3⟩ := en_str (w := wrd 3) (A := fun q => s.heap.size ≤ q) (show (wrd 3).length < 2 ^ 31 by decide) (hs _ ne_3) (hs _ nc_3) (hs _ na_3) (hs _ nl_3) (fun j hj => by
    have hj : j < 6 := hj
    rcases (show j = 0 ∨ j = 1 ∨ j = 2 ∨ j = 3 ∨ j = 4 ∨ j = 5 by omega) with rfl | rfl | rfl | rfl | rfl | rfl
    · exact hs _ nx_3_0
    · exact hs _ nx_3_1
    · exact hs _ nx_3_2
    · exact hs _ nx_3_3
    · exact hs _ nx_3_4
    · exact hs _ nx_3_5) hA
  obtain ⟨a4, v4, e4, o4, c4, f4, t4⟩ := en_str (w := wrd 4) (A := fun q => s.heap.size ≤ q) (show (wrd 4).length < 2 ^ 31 by decide) (hs _ ne_4) (hs _ nc_4) (hs _ na_4) (hs _ nl_4) (fun j hj => by
    have hj : j < 6 := hj
    rcases (show j = 0 ∨ j = 1 ∨ j = 2 ∨ j = 3 ∨ j = 4 ∨ j = 5 by omega) with rfl | rfl | rfl | rfl | rfl | rfl
    · exact hs _ nx_4_0
    · exact hs _ nx_4_1
    · exact hs _ nx_4_2
    · exact hs _ nx_4_3
    · exact hs _ nx_4_4
    · exact hs _ nx_4_5) hA
  obtain ⟨a5, v5, e5, o5, c5, f5, t5⟩ := en_str (w := wrd 5) (A := fun q => s.heap.size ≤ q) (show (wrd 5).length < 2 ^ 31 by decide) (hs _ ne_5) (hs _ nc_5) (hs _ na_5) (hs _ nl_5) (fun j hj => by
    have hj : j < 2 := hj
    rcases (show j = 0 ∨ j = 1 by omega) with rfl | rfl
    · exact hs _ nx_5_0
    · exact hs _ nx_5_1) hA
  obtain ⟨a6, v6, e6, o6, c6, f6, t6⟩ := en_str (w := wrd 6) (A := fun q => s.heap.size ≤ q) (show (wrd 6).length < 2 ^ 31 by decide) (hs _ ne_6) (hs _ nc_6) (hs _ na_6) (hs _ nl_6) (fun j hj => by
    have hj : j < 4 := hj
    rcases (show j = 0 ∨ j = 1 ∨ j = 2 ∨ j = 3 by omega) with rfl | rfl | rfl | rfl
    · exact hs _ nx_6_0
    · exact hs _ nx_6_1
    · exact hs _ nx_6_2
    · exact hs _ nx_6_3) hA
  obtain ⟨a7, v7, e7, o7, c7, f7, t7⟩ := en_str (w := wrd 7) (A := fun q => s.heap.size ≤ q) (show (wrd 7).length < 2 ^ 31 by decide) (hs _ ne_7) (hs _ nc_7) (hs _ na_7) (hs _ nl_7) (fun j hj => by
    have hj : j < 5 := hj
    rcases (show j = 0 ∨ j = 1 ∨ j = 2 ∨ j = 3 ∨ j = 4 by omega) with rfl | rfl | rfl | rfl | rfl
    · exact hs _ nx_7_0
    · exact hs _ nx_7_1
    · exact hs _ nx_7_2
    · exact hs _ nx_7_3
    · exact hs _ nx_7_4) hA
  obtain ⟨a8, e8⟩ := en_ref (hs _ ne_8)
  obtain ⟨a9, e9⟩ := en_ref (hs _ ne_9)
  obtain ⟨a10, e10⟩ := en_ref (hs _ ne_10)
  obtain ⟨a11, e11⟩ := en_ref (hs _ ne_11)
  obtain ⟨a12, e12⟩ := en_ref (hs _ ne_12)
  obtain ⟨a13, e13⟩ := en_ref (hs _ ne_13)
  obtain ⟨a14, e14⟩ := en_ref (hs _ ne_14)
  obtain ⟨a15, e15⟩ := en_ref (hs _ ne_15)
  obtain ⟨a16, e16⟩ := en_ref (hs _ ne_16)
  obtain ⟨a17, e17⟩ := en_ref (hs _ ne_17)
  obtain ⟨a18, e18⟩ := en_ref (hs _ ne_18)
  obtain ⟨a19, e19⟩ := en_ref (hs _ ne_19)
  obtain ⟨a20, e20⟩ := en_ref (hs _ ne_20)
  obtain ⟨a21, e21⟩ := en_ref (hs _ ne_21)
  obtain ⟨a22, e22⟩ := en_ref (hs _ ne_22)
  obtain ⟨a23, e23⟩ := en_ref (hs _ ne_23)
  obtain ⟨a24, e24⟩ := en_ref (hs _ ne_24)
  obtain ⟨a25, e25⟩ := en_ref (hs _ ne_25)
  obtain ⟨a26, e26⟩ := en_ref (hs _ ne_26)
  obtain ⟨fv, hfv, hfr⟩ := Cond.isRef_spec (hs _ ns_f)
  refine ⟨fun i => [a0, a1, a2, a3, a4, a5, a6, a7, a8, a9, a10, a11, a12, a13, a14, a15, a16, a17, a18, a19, a20, a21, a22, a23, a24, a25, a26].getD i 0, fun i => [v0, v1, v2, v3, v4, v5, v6, v7].getD i 0, fv, fun i hi => ?_, ?_, va_Zof (hts _ ly_c) (hts _ in_c) (va_eqi (hs _ ns_c)) hA, ⟨va_Zof (hts _ ly_f) (hts _ in_f) hfv hA, ?_⟩, vx_Zqof (hts _ ly_u) (hts _ in_u) (hs _ ns_u) hA, vx_Zqof (hts _ ly_s) (hts _ in_s) (hs _ ns_s) hA, fun w hw => ?_⟩
  · rcases (show i = 0 ∨ i = 1 ∨ i = 2 ∨ i = 3 ∨ i = 4 ∨ i = 5 ∨ i = 6 ∨ i = 7 by omega) with rfl | rfl | rfl | rfl | rfl | rfl | rfl | rfl
    · exact ⟨o0, c0, f0, t0⟩
    · exact ⟨o1, c1, f1, t1⟩
    · exact ⟨o2, c2, f2, t2⟩
    · exact ⟨o3, c3, f3, t3⟩
    · exact ⟨o4, c4, f4, t4⟩
    · exact ⟨o5, c5, f5, t5⟩
    · exact ⟨o6, c6, f6, t6⟩
    · exact ⟨o7, c7, f7, t7⟩
  · exact List.forall_mem_cons.mpr ⟨vk_R.of (hts _ ks_0) e0, List.forall_mem_cons.mpr ⟨vk_R.of (hts _ ks_1) e1, List.forall_mem_cons.mpr ⟨vk_R.of (hts _ ks_2) e2, List.forall_mem_cons.mpr ⟨vk_R.of (hts _ ks_3) e3, List.forall_mem_cons.mpr ⟨vk_R.of (hts _ ks_4) e4, List.forall_mem_cons.mpr ⟨vk_R.of (hts _ ks_5) e5, List.forall_mem_cons.mpr ⟨vk_R.of (hts _ ks_6) e6, List.forall_mem_cons.mpr ⟨vk_R.of (hts _ ks_7) e7, List.forall_mem_cons.mpr ⟨vk_R.of (hts _ ks_8) e8, List.forall_mem_cons.mpr ⟨vk_R.of (hts _ ks_9) e9, List.forall_mem_cons.mpr ⟨vk_R.of (hts _ ks_10) e10, List.forall_mem_cons.mpr ⟨vk_R.of (hts _ ks_11) e11, List.forall_mem_cons.mpr ⟨vk_R.of (hts _ ks_12) e12, List.forall_mem_cons.mpr ⟨vk_R.of (hts _ ks_13) e13, List.forall_mem_cons.mpr ⟨vk_R.of (hts _ ks_14) e14, List.forall_mem_cons.mpr ⟨vk_R.of (hts _ ks_15) e15, List.forall_mem_cons.mpr ⟨vk_R.of (hts _ ks_16) e16, List.forall_mem_cons.mpr ⟨vk_R.of (hts _ ks_17) e17, List.forall_mem_cons.mpr ⟨vk_R.of (hts _ ks_18) e18, List.forall_mem_cons.mpr ⟨vk_R.of (hts _ ks_19) e19, List.forall_mem_cons.mpr ⟨vk_R.of (hts _ ks_20) e20, List.forall_mem_cons.mpr ⟨vk_R.of (hts _ ks_21) e21, List.forall_mem_cons.mpr ⟨vk_R.of (hts _ ks_22) e22, List.forall_mem_cons.mpr ⟨vk_R.of (hts _ ks_23) e23, List.forall_mem_cons.mpr ⟨vk_R.of (hts _ ks_24) e24, List.forall_mem_cons.mpr ⟨vk_R.of (hts _ ks_25) e25, List.forall_mem_cons.mpr ⟨vk_R.of (hts _ ks_26) e26, List.forall_mem_cons.mpr ⟨vk_R.of (hts _ ks_27) (va_eqR (hs _ nq_0) e0), List.forall_mem_cons.mpr ⟨vk_R.of (hts _ ks_28) (va_eqR (hs _ nq_1) e1), List.forall_mem_cons.mpr ⟨vk_R.of (hts _ ks_29) (va_eqR (hs _ nq_2) e2), List.forall_mem_cons.mpr ⟨vk_R.of (hts _ ks_30) (va_eqR (hs _ nq_3) e3), List.forall_mem_cons.mpr ⟨vk_R.of (hts _ ks_31) (va_eqR (hs _ nq_4) e4), List.forall_mem_cons.mpr ⟨vk_R.of (hts _ ks_32) (va_eqR (hs _ nq_5) e5), List.forall_mem_cons.mpr ⟨vk_R.of (hts _ ks_33) (va_eqR (hs _ nq_6) e6), List.forall_mem_cons.mpr ⟨vk_R.of (hts _ ks_34) (va_eqR (hs _ nq_7) e7), fun _ h => absurd h List.not_mem_nil⟩⟩⟩⟩⟩⟩⟩⟩⟩⟩⟩⟩⟩⟩⟩⟩⟩⟩⟩⟩⟩⟩⟩⟩⟩⟩⟩⟩⟩⟩⟩⟩⟩⟩⟩
  · cases fv with
    | null => exact Or.inl rfl
    | ref t => exact Or.inr ⟨t, rfl⟩
    | _ => exact absurd hfr Bool.false_ne_true
  · have h2 := (List.mem_filter.mp hw).2
    rw [Bool.and_eq_true] at h2
    exact va_tabs h2.1 rfl (hts w (List.mem_filter.mp hw).1)
theorem en_nps (hs : ∀ w ∈ nfl, w.before args s = true) : nps s := by
  intro i j hi hj hn
  rcases (show i = 0 ∨ i = 1 ∨ i = 2 ∨ i = 3 ∨ i = 4 by omega) with rfl | rfl | rfl | rfl | rfl <;> rcases (show j = 0 ∨ j = 1 ∨ j = 2 ∨ j = 3 ∨ j = 4 by omega) with rfl | rfl | rfl | rfl | rfl
  · exact absurd rfl hn
  · exact va_Nc.of (hs _ nn_0_1)
  · exact va_Nc.of (hs _ nn_0_2)
  · exact va_Nc.of (hs _ nn_0_3)
  · exact va_Nc.of (hs _ nn_0_4)
  · exact va_Nc.of (hs _ nn_1_0)
  · exact absurd rfl hn
  · exact va_Nc.of (hs _ nn_1_2)
  · exact va_Nc.of (hs _ nn_1_3)
  · exact va_Nc.of (hs _ nn_1_4)
  · exact va_Nc.of (hs _ nn_2_0)
  · exact va_Nc.of (hs _ nn_2_1)
  · exact absurd rfl hn
  · exact va_Nc.of (hs _ nn_2_3)
  · exact va_Nc.of (hs _ nn_2_4)
  · exact va_Nc.of (hs _ nn_3_0)
  · exact va_Nc.of (hs _ nn_3_1)
  · exact va_Nc.of (hs _ nn_3_2)
  · exact absurd rfl hn
  · exact va_Nc.of (hs _ nn_3_4)
  · exact va_Nc.of (hs _ nn_4_0)
  · exact va_Nc.of (hs _ nn_4_1)
  · exact va_Nc.of (hs _ nn_4_2)
  · exact va_Nc.of (hs _ nn_4_3)
  · exact absurd rfl hn
theorem en_nws (hts : ∀ w ∈ lw_tbl, w.before args s = true) : nws s := fun q hq => va_tabs rfl rfl (hts _ (nk_all q hq))
theorem en_K (hts : ∀ w ∈ gw, w.before args s = true) : ∃ D cI cB cL, va_K D vwCl (tyl cI cB cL) s := by
  have h : ∀ k : Nat, ∃ cd : ClassId × (Nat → Nat), ∀ q, vwCl[k]? = some q → u_Kn s q.1 q.2.1 q.2.2 cd.1 cd.2 := fun k => by
    match k with
    | 0 => obtain ⟨a, b, h⟩ := u_known (C := RX1) (T := TX1) hts iwX1 (hts _ ii_RX1); exact ⟨(a, b), fun q hq => by cases hq; exact h⟩
    | 1 => obtain ⟨a, b, h⟩ := u_known (C := RX2) (T := TX2) hts iwX2 (hts _ ii_RX2); exact ⟨(a, b), fun q hq => by cases hq; exact h⟩
    | 2 => obtain ⟨a, b, h⟩ := u_known (C := RX3) (T := TX3) hts iwX3 (hts _ ii_RX3); exact ⟨(a, b), fun q hq => by cases hq; exact h⟩
    | 3 => obtain ⟨a, b, h⟩ := u_known (C := RX4) (T := TX4) hts iwX4 (hts _ ii_RX4); exact ⟨(a, b), fun q hq => by cases hq; exact h⟩
    | 4 => obtain ⟨a, b, h⟩ := u_known (C := RX5) (T := TX5) hts iwX5 (hts _ ii_RX5); exact ⟨(a, b), fun q hq => by cases hq; exact h⟩
    | 5 => obtain ⟨a, b, h⟩ := u_known (C := RX6) (T := TX6) hts iwX6 (hts _ ii_RX6); exact ⟨(a, b), fun q hq => by cases hq; exact h⟩
    | 6 => obtain ⟨a, b, h⟩ := u_known (C := RX7) (T := TX7) hts iwX7 (hts _ ii_RX7); exact ⟨(a, b), fun q hq => by cases hq; exact h⟩
    | 7 => obtain ⟨a, b, h⟩ := u_known (C := RX8) (T := TX8) hts iwX8 (hts _ ii_RX8); exact ⟨(a, b), fun q hq => by cases hq; exact h⟩
    | 8 => obtain ⟨a, b, h⟩ := u_known (C := RX9) (T := TX9) hts iwX9 (hts _ ii_RX9); exact ⟨(a, b), fun q hq => by cases hq; exact h⟩
    | 9 => obtain ⟨a, b, h⟩ := u_known (C := RX10) (T := TX10) hts iwX10 (hts _ ii_RX10); exact ⟨(a, b), fun q hq => by cases hq; exact h⟩
    | 10 => obtain ⟨a, b, h⟩ := u_known (C := RX11) (T := TX11) hts iwX11 (hts _ ii_RX11); exact ⟨(a, b), fun q hq => by cases hq; exact h⟩
    | 11 => obtain ⟨a, b, h⟩ := u_known (C := RX12) (T := TX12) hts iwX12 (hts _ ii_RX12); exact ⟨(a, b), fun q hq => by cases hq; exact h⟩
    | n + 12 => exact ⟨(0, fun _ => 0), fun q hq => by cases hq⟩
  obtain ⟨d, hd⟩ := Classical.axiomOfChoice h
  obtain ⟨cI, i1, i2⟩ := en_arr (hts _ mw_arrI) (fun C h => by cases h)
  obtain ⟨cB, b1, b2⟩ := en_arr (hts _ mw_915) (fun C h => by cases h)
  obtain ⟨cL, l1, l2⟩ := en_arr (hts _ ia_l) (fun C h => by cases h)
  refine ⟨(fun k => (d k).1, fun k => (d k).2), cI, cB, cL, fun k q hq => hd k q hq, fun k q hq => ?_⟩
  match k, hq with
  | 0, hq => cases hq; exact ⟨i1, i2⟩
  | 1, hq => cases hq; exact ⟨b1, b2⟩
  | 2, hq => cases hq; exact ⟨l1, l2⟩
  | n + 3, hq => cases hq
theorem en_all {b L : Nat} {xs : Nat → Int32} (hflags : l.flags = flags0) (hL : L ≤ 3072) (C0 : lw_At p s m meth c b L xs) : ∃ D cI cB cL ka kv fv, lawC l D cI cB cL ka kv fv p s m c meth b L xs := by
  obtain ⟨hx, hb, hr, hml, hown, hts, hX, hbl, hlocks, hgv⟩ := C0
  have hs : ∀ w ∈ nfl, w.before #[Value.ref b] s = true := flat_of_before _ hgv
  have hg : ∀ w ∈ gw, w.before #[Value.ref b] s = true := fun w hw => hts w (List.mem_filter.mp hw).1
  obtain ⟨ka, kv, fv, hk⟩ := en_kx hts hs
  obtain ⟨D, cI, cB, cL, hK⟩ := en_K hg
  refine ⟨D, cI, cB, cL, ka, kv, fv, ⟨hx, hb, hml, hown, hg, hr, hlocks, hK, fun q h => h, en_nws hts⟩, hk, en_nps hs, hX, hbl, ?_, hL⟩
  unfold Launch.stackTraces; rw [hflags]; decide
end E2
