theorem mw_984 : Cond.methodLink RX12 7 objectInit ∈ gw := gw_t6 115 rfl rfl
theorem dX12_init_0 : decode cX12_init 0 = .ok (.aload_n 0, 1) := by decide +kernel
theorem dX12_init_1 : decode cX12_init 1 = .ok (.invokespecial 7, 3) := by decide +kernel
theorem dX12_init_4 : decode cX12_init 4 = .ok (.aload_n 0, 1) := by decide +kernel
theorem dX12_init_5 : decode cX12_init 5 = .ok (.sipush 32243, 3) := by decide +kernel
theorem dX12_init_8 : decode cX12_init 8 = .ok (.newarray .int, 2) := by decide +kernel
theorem dX12_init_10 : decode cX12_init 10 = .ok (.putfield 13, 3) := by decide +kernel
theorem dX12_init_13 : decode cX12_init 13 = .ok (.aload_n 0, 1) := by decide +kernel
theorem dX12_init_14 : decode cX12_init 14 = .ok (.sipush 32243, 3) := by decide +kernel
theorem dX12_init_17 : decode cX12_init 17 = .ok (.newarray .int, 2) := by decide +kernel
theorem dX12_init_19 : decode cX12_init 19 = .ok (.putfield 17, 3) := by decide +kernel
theorem dX12_init_22 : decode cX12_init 22 = .ok (.aload_n 0, 1) := by decide +kernel
theorem dX12_init_23 : decode cX12_init 23 = .ok (.sipush 32243, 3) := by decide +kernel
theorem dX12_init_26 : decode cX12_init 26 = .ok (.newarray .int, 2) := by decide +kernel
theorem dX12_init_28 : decode cX12_init 28 = .ok (.putfield 20, 3) := by decide +kernel
theorem dX12_init_31 : decode cX12_init 31 = .ok (.aload_n 0, 1) := by decide +kernel
theorem dX12_init_32 : decode cX12_init 32 = .ok (.sipush 32243, 3) := by decide +kernel
theorem dX12_init_35 : decode cX12_init 35 = .ok (.newarray .int, 2) := by decide +kernel
theorem dX12_init_37 : decode cX12_init 37 = .ok (.putfield 23, 3) := by decide +kernel
theorem dX12_init_40 : decode cX12_init 40 = .ok (.aload_n 0, 1) := by decide +kernel
theorem dX12_init_41 : decode cX12_init 41 = .ok (.sipush 400, 3) := by decide +kernel
theorem dX12_init_44 : decode cX12_init 44 = .ok (.newarray .byte, 2) := by decide +kernel
theorem dX12_init_46 : decode cX12_init 46 = .ok (.putfield 26, 3) := by decide +kernel
theorem dX12_init_49 : decode cX12_init 49 = .ok (.aload_n 0, 1) := by decide +kernel
theorem dX12_init_50 : decode cX12_init 50 = .ok (.iconst (-1), 1) := by decide +kernel
theorem dX12_init_51 : decode cX12_init 51 = .ok (.putfield 30, 3) := by decide +kernel
theorem dX12_init_54 : decode cX12_init 54 = .ok (.aload_n 0, 1) := by decide +kernel
theorem dX12_init_55 : decode cX12_init 55 = .ok (.iconst 5, 1) := by decide +kernel
theorem dX12_init_56 : decode cX12_init 56 = .ok (.newarray .int, 2) := by decide +kernel
theorem dX12_init_58 : decode cX12_init 58 = .ok (.putfield 33, 3) := by decide +kernel
theorem dX12_init_61 : decode cX12_init 61 = .ok (.aload_n 0, 1) := by decide +kernel
theorem dX12_init_62 : decode cX12_init 62 = .ok (.iconst 1, 1) := by decide +kernel
theorem dX12_init_63 : decode cX12_init 63 = .ok (.putfield 36, 3) := by decide +kernel
theorem dX12_init_66 : decode cX12_init 66 = .ok (.aload_n 0, 1) := by decide +kernel
theorem dX12_init_67 : decode cX12_init 67 = .ok (.bipush 6, 2) := by decide +kernel
theorem dX12_init_69 : decode cX12_init 69 = .ok (.newarray .int, 2) := by decide +kernel
theorem dX12_init_71 : decode cX12_init 71 = .ok (.putfield 40, 3) := by decide +kernel
theorem dX12_init_74 : decode cX12_init 74 = .ok (.aload_n 0, 1) := by decide +kernel
theorem dX12_init_75 : decode cX12_init 75 = .ok (.bipush 21, 2) := by decide +kernel
theorem dX12_init_77 : decode cX12_init 77 = .ok (.newarray .int, 2) := by decide +kernel
theorem dX12_init_79 : decode cX12_init 79 = .ok (.putfield 43, 3) := by decide +kernel
theorem dX12_init_82 : decode cX12_init 82 = .ok (.aload_n 0, 1) := by decide +kernel
theorem dX12_init_83 : decode cX12_init 83 = .ok (.bipush 20, 2) := by decide +kernel
theorem dX12_init_85 : decode cX12_init 85 = .ok (.newarray .int, 2) := by decide +kernel
theorem dX12_init_87 : decode cX12_init 87 = .ok (.putfield 46, 3) := by decide +kernel
theorem dX12_init_90 : decode cX12_init 90 = .ok (.aload_n 0, 1) := by decide +kernel
theorem dX12_init_91 : decode cX12_init 91 = .ok (.getfield 13, 3) := by decide +kernel
theorem dX12_init_94 : decode cX12_init 94 = .ok (.bipush 6, 2) := by decide +kernel
theorem dX12_init_96 : decode cX12_init 96 = .ok (.iconst 3, 1) := by decide +kernel
theorem dX12_init_97 : decode cX12_init 97 = .ok (.iastore, 1) := by decide +kernel
theorem dX12_init_98 : decode cX12_init 98 = .ok (.aload_n 0, 1) := by decide +kernel
theorem dX12_init_99 : decode cX12_init 99 = .ok (.getfield 13, 3) := by decide +kernel
theorem dX12_init_102 : decode cX12_init 102 = .ok (.bipush 8, 2) := by decide +kernel
theorem dX12_init_104 : decode cX12_init 104 = .ok (.iconst 1, 1) := by decide +kernel
theorem dX12_init_105 : decode cX12_init 105 = .ok (.iastore, 1) := by decide +kernel
theorem dX12_init_106 : decode cX12_init 106 = .ok (.iconst 0, 1) := by decide +kernel
theorem dX12_init_107 : decode cX12_init 107 = .ok (.istore_n 1, 1) := by decide +kernel
theorem dX12_init_108 : decode cX12_init 108 = .ok (.iload_n 1, 1) := by decide +kernel
theorem dX12_init_109 : decode cX12_init 109 = .ok (.bipush 6, 2) := by decide +kernel
theorem dX12_init_111 : decode cX12_init 111 = .ok (.if_icmp .ge 35, 3) := by decide +kernel
theorem dX12_init_114 : decode cX12_init 114 = .ok (.iconst 0, 1) := by decide +kernel
theorem dX12_init_115 : decode cX12_init 115 = .ok (.istore_n 2, 1) := by decide +kernel
theorem dX12_init_116 : decode cX12_init 116 = .ok (.iload_n 2, 1) := by decide +kernel
theorem dX12_init_117 : decode cX12_init 117 = .ok (.bipush 6, 2) := by decide +kernel
theorem dX12_init_119 : decode cX12_init 119 = .ok (.if_icmp .ge 21, 3) := by decide +kernel
theorem dX12_init_122 : decode cX12_init 122 = .ok (.aload_n 0, 1) := by decide +kernel
theorem dX12_init_123 : decode cX12_init 123 = .ok (.getfield 13, 3) := by decide +kernel
theorem dX12_init_126 : decode cX12_init 126 = .ok (.iload_n 1, 1) := by decide +kernel
theorem dX12_init_127 : decode cX12_init 127 = .ok (.iload_n 2, 1) := by decide +kernel
theorem dX12_init_128 : decode cX12_init 128 = .ok (.iconst 0, 1) := by decide +kernel
theorem dX12_init_129 : decode cX12_init 129 = .ok (.invokestatic 49, 3) := by decide +kernel
theorem dX12_init_132 : decode cX12_init 132 = .ok (.iconst 1, 1) := by decide +kernel
theorem dX12_init_133 : decode cX12_init 133 = .ok (.iastore, 1) := by decide +kernel
theorem dX12_init_134 : decode cX12_init 134 = .ok (.iinc 2 1, 3) := by decide +kernel
theorem dX12_init_137 : decode cX12_init 137 = .ok (.goto (-21), 3) := by decide +kernel
theorem dX12_init_140 : decode cX12_init 140 = .ok (.iinc 1 1, 3) := by decide +kernel
theorem dX12_init_143 : decode cX12_init 143 = .ok (.goto (-35), 3) := by decide +kernel
theorem dX12_init_146 : decode cX12_init 146 = .ok (.return_, 1) := by decide +kernel
def m0 : Sg := fun q => match q with | 0 => (fun k => match k with | 11 => (-1) | 14 => 1 | _ => 0) | _ => fun _ => 0
noncomputable def fX12_init_116 (K108 : Int32 → Sg → Option Sg) : Nat → Int32 → Int32 → Sg → Option Sg
  | 0, _, _, _ => none
  | n + 1, x1, x2, u => cnd (6 ≤ x2) (bnd (x1 + 1) (fun v5 => K108 v5 u)) (grd (vp_in (fX12_channelAt x1 x2 0) 32243) (bnd (s2 u 1 (((fX12_channelAt x1 x2 0) : Int32).toNatClampNeg) 1) (fun u7 => bnd (x2 + 1) (fun v8 => fX12_init_116 K108 n x1 v8 u7))))
noncomputable def fX12_init_108 : Nat → Int32 → Sg → Option Sg
  | 0, _, _ => none
  | n + 1, x1, u => cnd (6 ≤ x1) (some u) (fX12_init_116 (fun a0 w => fX12_init_108 n a0 w) FU x1 0 u)
noncomputable def fX12_init_90 (u : Sg) : Option Sg := bnd (s2 u 1 6 3) (fun u1 => bnd (s2 u1 1 8 1) (fun u2 => fX12_init_108 FU 0 u2))
section S_mi
variable {p : Program} {l : Launch} {e : Env} {R : Room} {s : State} {m : MethodId} {args : Array Value} {below : List Frame} {meth : Method} {c : Code} {A : Nat → Prop} {D : va_G} {cI cB cL : ClassId} {ad : Nat → Nat} {pa pl : Nat}
set_option maxRecDepth 10000 in
set_option maxHeartbeats 4000000 in
theorem wX12_init_116 (C : cx D (tyl cI cB cL) A RX12 cX12_init 3 none p s m args c meth) (hR : 1 ≤ R.frames ∧ 22 ≤ R.locals) (hcp : 9 ≤ R.cells ∧ 129424 ≤ R.slots) {σ' : Sg} {K108 : Int32 → Sg → Option Sg} (hK108 : ∀ (y1 : Int32) (v : Sg) (H : Heap) (locs : List Loc) (ls : Array Slot), lv_has ls 3 [(0, .ref (ad 0)), (1, .int y1)] → st D (wM cI cB ad) A s v H locs → K108 y1 v = some σ' → W p l e R s m args below meth c H locs 9 129424 (MQ below (va_Qv (fun P : Nat → Nat => P 0 = ad 0) (fun P t => va_P D vwCl (wM cI cB P σ') t.heap ∧ va_K D vwCl (tyl cI cB cL) t ∧ va_D A (wM cI cB P σ')) A) args s 9 129424 A) (F0 m 108 ls [])) : ∀ (n : Nat) (x1 : Int32) (x2 : Int32) (u : Sg) (H : Heap) (locs : List Loc) (ls : Array Slot), lv_has ls 3 [(0, .ref (ad 0)), (1, .int x1), (2, .int x2)] → st D (wM cI cB ad) A s u H locs → fX12_init_116 K108 n x1 x2 u = some σ' → W p l e R s m args below meth c H locs 9 129424 (MQ below (va_Qv (fun P : Nat → Nat => P 0 = ad 0) (fun P t => va_P D vwCl (wM cI cB P σ') t.heap ∧ va_K D vwCl (tyl cI cB cL) t ∧ va_D A (wM cI cB P σ')) A) args s 9 129424 A) (F0 m 116 ls []) := by
  have hx := C.1
  have hb := C.2.1
  intro n
  induction n with
  | zero =>
    intro x1 x2 u H locs ls hl S h
    cases h
  | succ n ih =>
    intro x1 x2 u H locs ls hl S h
    rw [fX12_init_116] at h
    have hsz := hl.1
    refine lv_iload_n hx hb dX12_init_116 rfl (lv_at hl 2 rfl) ?_
    refine lv_bipush (v := 6) hx hb dX12_init_117 (by decide) ?_
    refine lv_icmp_ge (tgt := 140) hx hb dX12_init_119 (by decide) (fun c4 => ?_) (fun c4 => ?_)
    · have h := cnd_t c4 h
      obtain ⟨v5, ev5⟩ : ∃ y : Int32, y = x1 + 1 := ⟨_, rfl⟩
      have h := bnd_of ev5 h
      refine lv_iinc (v := v5) (lv' := [(1, .int v5), (0, .ref (ad 0)), (2, .int x2)]) hx hb dX12_init_140 hl (k := 1) rfl (by rw [ev5]; rfl) (by decide) rfl (fun ls hl => ?_)
      have hsz := hl.1
      refine lv_goto (tgt := 108) hx hb dX12_init_143 (by decide) ?_
      exact hK108 v5 u H locs ls (lv_sub hl [1, 0] rfl) S h
    · have h := cnd_f c4 h
      refine lv_aload_n hx hb dX12_init_122 rfl (lv_at hl 0 rfl) ?_
      refine q_get (v := .ref (ad 1)) C S (oM0 cI cB ad) rfl iwX12 1 (by decide) mw_14 rfl dX12_init_123 ?_
      refine lv_iload_n hx hb dX12_init_126 rfl (lv_at hl 1 rfl) ?_
      refine lv_iload_n hx hb dX12_init_127 rfl (lv_at hl 2 rfl) ?_
      refine lv_iconst (v := 0) hx hb dX12_init_128 (by decide) ?_
      refine q_callP (As := [.int x1, .int x2, .int 0]) (na := 3) C S (ct_X12_channelAt l D cI cB cL x1 x2 0) mw_10 mw_9 mw_5 mw_8 hdX12_channelAt ⟨Nat.le_trans (Nat.le_of_ble_eq_true rfl) hR.1, Nat.le_trans (Nat.le_of_ble_eq_true rfl) hR.2⟩ rfl hsz hcp (Nat.le_of_ble_eq_true rfl) dX12_init_129 rfl (fun H locs S => ?_)
      refine lv_iconst (v := 1) hx hb dX12_init_132 (by decide) ?_
      obtain ⟨g6, h⟩ := grd_some h
      obtain ⟨u7, eu7⟩ : ∃ z : Sg, z = s2 u 1 (((fX12_channelAt x1 x2 0) : Int32).toNatClampNeg) 1 := ⟨_, rfl⟩
      have h := bnd_of eu7 h
      refine q_iast C S (aM1 cI cB ad) 0 rfl g6 dX12_init_133 (j := ((fX12_channelAt x1 x2 0) : Int32).toNatClampNeg) rfl eu7 (fun H locs S => ?_)
      obtain ⟨v8, ev8⟩ : ∃ y : Int32, y = x2 + 1 := ⟨_, rfl⟩
      have h := bnd_of ev8 h
      refine lv_iinc (v := v8) (lv' := [(2, .int v8), (0, .ref (ad 0)), (1, .int x1)]) hx hb dX12_init_134 hl (k := 2) rfl (by rw [ev8]; rfl) (by decide) rfl (fun ls hl => ?_)
      have hsz := hl.1
      refine lv_goto (tgt := 116) hx hb dX12_init_137 (by decide) ?_
      exact ih x1 v8 u7 H locs ls (lv_sub hl [1, 2, 0] rfl) S h
set_option maxRecDepth 10000 in
set_option maxHeartbeats 4000000 in
theorem wX12_init_108 (C : cx D (tyl cI cB cL) A RX12 cX12_init 3 none p s m args c meth) (hR : 1 ≤ R.frames ∧ 22 ≤ R.locals) (hcp : 9 ≤ R.cells ∧ 129424 ≤ R.slots) {σ' : Sg} : ∀ (n : Nat) (x1 : Int32) (u : Sg) (H : Heap) (locs : List Loc) (ls : Array Slot), lv_has ls 3 [(0, .ref (ad 0)), (1, .int x1)] → st D (wM cI cB ad) A s u H locs → fX12_init_108 n x1 u = some σ' → W p l e R s m args below meth c H locs 9 129424 (MQ below (va_Qv (fun P : Nat → Nat => P 0 = ad 0) (fun P t => va_P D vwCl (wM cI cB P σ') t.heap ∧ va_K D vwCl (tyl cI cB cL) t ∧ va_D A (wM cI cB P σ')) A) args s 9 129424 A) (F0 m 108 ls []) := by
  have hx := C.1
  have hb := C.2.1
  intro n
  induction n with
  | zero =>
    intro x1 u H locs ls hl S h
    cases h
  | succ n ih =>
    intro x1 u H locs ls hl S h
    rw [fX12_init_108] at h
    have hsz := hl.1
    refine lv_iload_n hx hb dX12_init_108 rfl (lv_at hl 1 rfl) ?_
    refine lv_bipush (v := 6) hx hb dX12_init_109 (by decide) ?_
    refine lv_icmp_ge (tgt := 146) hx hb dX12_init_111 (by decide) (fun c3 => ?_) (fun c3 => ?_)
    · have h := cnd_t c3 h
      obtain rfl := Option.some.inj h
      exact W.vret hx hb C.2.2.2.2.2.1 (fun t ht hW => ⟨⟨ad, rfl, rfl, by show va_P D vwCl _ t.heap; rw [ht]; exact S.1, va_K.moved hW.alike C.2.2.2.2.2.2.2.1, S.2.1⟩, S.2.2.F ht⟩) S.2.2.2.2 dX12_init_146 C.2.2.2.2.2.2.1
    · have h := cnd_f c3 h
      refine lv_iconst (v := 0) hx hb dX12_init_114 (by decide) ?_
      refine lv_istore_n (lv' := [(2, .int 0), (0, .ref (ad 0)), (1, .int x1)]) hx hb dX12_init_115 rfl hl (by decide) rfl (fun ls hl => ?_)
      have hsz := hl.1
      exact wX12_init_116 C hR hcp ih FU x1 0 u H locs ls (lv_sub hl [1, 2, 0] rfl) S h
set_option maxRecDepth 10000 in
set_option maxHeartbeats 4000000 in
theorem wX12_init_90 (C : cx D (tyl cI cB cL) A RX12 cX12_init 3 none p s m args c meth) (hR : 1 ≤ R.frames ∧ 22 ≤ R.locals) (hcp : 9 ≤ R.cells ∧ 129424 ≤ R.slots) {σ' : Sg} (u : Sg) {H : Heap} {locs : List Loc} {ls : Array Slot} (hl : lv_has ls 3 [(0, .ref (ad 0))]) (S : st D (wM cI cB ad) A s u H locs) (h : fX12_init_90 u = some σ') : W p l e R s m args below meth c H locs 9 129424 (MQ below (va_Qv (fun P : Nat → Nat => P 0 = ad 0) (fun P t => va_P D vwCl (wM cI cB P σ') t.heap ∧ va_K D vwCl (tyl cI cB cL) t ∧ va_D A (wM cI cB P σ')) A) args s 9 129424 A) (F0 m 90 ls []) := by
  have hx := C.1
  have hb := C.2.1
  have hsz := hl.1
  unfold fX12_init_90 at h
  refine lv_aload_n hx hb dX12_init_90 rfl (lv_at hl 0 rfl) ?_
  refine q_get (v := .ref (ad 1)) C S (oM0 cI cB ad) rfl iwX12 1 (by decide) mw_14 rfl dX12_init_91 ?_
  refine lv_bipush (v := 6) hx hb dX12_init_94 (by decide) ?_
  refine lv_iconst (v := 3) hx hb dX12_init_96 (by decide) ?_
  obtain ⟨u1, eu1⟩ : ∃ z : Sg, z = s2 u 1 6 3 := ⟨_, rfl⟩
  have h := bnd_of eu1 h
  refine q_iast C S (aM1 cI cB ad) 0 rfl (show vp_in 6 32243 by unfold vp_in; decide) dX12_init_97 (j := 6) (by decide) eu1 (fun H locs S => ?_)
  refine lv_aload_n hx hb dX12_init_98 rfl (lv_at hl 0 rfl) ?_
  refine q_get (v := .ref (ad 1)) C S (oM0 cI cB ad) rfl iwX12 1 (by decide) mw_14 rfl dX12_init_99 ?_
  refine lv_bipush (v := 8) hx hb dX12_init_102 (by decide) ?_
  refine lv_iconst (v := 1) hx hb dX12_init_104 (by decide) ?_
  obtain ⟨u2, eu2⟩ : ∃ z : Sg, z = s2 u1 1 8 1 := ⟨_, rfl⟩
  have h := bnd_of eu2 h
  refine q_iast C S (aM1 cI cB ad) 0 rfl (show vp_in 8 32243 by unfold vp_in; decide) dX12_init_105 (j := 8) (by decide) eu2 (fun H locs S => ?_)
  refine lv_iconst (v := 0) hx hb dX12_init_106 (by decide) ?_
  refine lv_istore_n (lv' := [(1, .int 0), (0, .ref (ad 0))]) hx hb dX12_init_107 rfl hl (by decide) rfl (fun ls hl => ?_)
  have hsz := hl.1
  exact wX12_init_108 C hR hcp FU 0 u2 H locs ls (lv_sub hl [1, 0] rfl) S h
end S_mi
def wc_X12 (h0 : Nat) : Sg → va_W := fun _ => [(h0, .inr (11, [.int 0, .null, .null, .null, .null, .int 0, .null, .int 0, .int 0, .int 0, .int 0, .int 0, .null, .int 0, .int 0, .null, .null, .null]))]
set_option maxRecDepth 10000 in
set_option maxHeartbeats 4000000 in
theorem cc_X12 (l : Launch) (D : va_G) (cI cB cL : ClassId) (h0 : Nat) {σ' : Sg} (h : fX12_init_90 m0 = some σ') : ∀ sz, Met l yX12_init (Cond.code yX12_init cX12_init 3 none :: gw) { frames := 1, cells := 9, slots := 129424, locals := 22 } (va_Pc [.ref h0] (pre D (tyl cI cB cL) (wc_X12 h0) z0 sz)) (va_Qv (fun P : Nat → Nat => P 0 = h0) (fun P t => va_P D vwCl (wM cI cB P σ') t.heap ∧ va_K D vwCl (tyl cI cB cL) t ∧ va_D (va_A (wc_X12 h0 z0) sz) (wM cI cB P σ')) (va_A (wc_X12 h0 z0) sz)) 9 129424 (va_A (wc_X12 h0 z0) sz) := by
  intro sz
  refine Met.ofW (cc := cX12_init) (maxL := 3) (ret := none) (by decide) rfl ?_
  intro p e s m args below meth c s₁ B hml hv
  obtain ⟨rfl, C, S⟩ := q_entryA B hml hv
  have hx := C.1
  have hb := C.2.1
  have hown := C.2.2.2.1
  have hts := C.2.2.2.2.1
  have hin : meth.name = "<init>" := (name_of_methodNamed B.named B.method).1
  have hK := C.2.2.2.2.2.2.2.1
  have hl := lv_entry ([.ref h0]) (n := 3) (Nat.le_of_ble_eq_true rfl)
  rw [lg_entry_eq]
  generalize (lg_sl ([.ref h0]) ++ List.replicate (3 - (lg_sl ([.ref h0])).length) Slot.unset).toArray = ls at hl ⊢
  have hl : lv_has ls 3 [(0, .ref h0)] := hl
  obtain ⟨hP, hD, hS⟩ := S
  generalize hAe : va_A (wc_X12 h0 z0) sz = A at hP hD hS C ⊢
  have hA := C.2.2.2.2.2.2.2.2.1
  have hP : va_P D vwCl [(h0, .inr (11, [.int 0, .null, .null, .null, .null, .int 0, .null, .int 0, .int 0, .int 0, .int 0, .int 0, .null, .int 0, .int 0, .null, .null, .null]))] s.heap := hP
  have hD : va_D A [(h0, .inr (11, [.int 0, .null, .null, .null, .null, .int 0, .null, .int 0, .int 0, .int 0, .int 0, .int 0, .null, .int 0, .int 0, .null, .null, .null]))] := hD
  refine lv_aload_n hx hb dX12_init_0 rfl (lv_at hl 0 rfl) ?_
  refine W.objInit hx hb hown (hts _ mw_984) (hts _ mw_913) (hts _ mw_914) rfl (by rw [hml]; exact hl.1) rfl dX12_init_1 (Nat.le_of_ble_eq_true rfl) (Nat.le_of_ble_eq_true rfl) ?_
  refine W.eq (g2 := F0 m 4 ls []) rfl ?_
  refine lv_aload_n hx hb dX12_init_4 rfl (lv_at hl 0 rfl) ?_
  refine lv_sipush (v := 32243) hx hb dX12_init_5 (by decide) ?_
  refine va_newa (atype := .int) (N' := 32243) (a0 := (32243, .inl (fun _ => 0))) hx hb (hts _ mw_arrI) (ty := .int) rfl hK hP hD hS hA (fun _ => rfl) (by decide) (by decide) (Nat.le_of_ble_eq_true rfl) (Nat.le_of_ble_eq_true rfl) (Nat.le_of_ble_eq_true rfl) dX12_init_8 (fun q1 cA1 H hK2 hP hD hS => ?_)
  rw [tyl_int hK hK2] at hP hD
  have hP : va_P D vwCl [(h0, .inr (11, [.int 0, .null, .null, .null, .null, .int 0, .null, .int 0, .int 0, .int 0, .int 0, .int 0, .null, .int 0, .int 0, .null, .null, .null])), (q1, .inl (cI, 32243, .inl (fun _ => 0)))] H := hP
  have hD : va_D A [(h0, .inr (11, [.int 0, .null, .null, .null, .null, .int 0, .null, .int 0, .int 0, .int 0, .int 0, .int 0, .null, .int 0, .int 0, .null, .null, .null])), (q1, .inl (cI, 32243, .inl (fun _ => 0)))] := hD
  refine va_putF (D := D) (ci := 11) (v := .ref q1) (ty := .array .int) (C := RX12) (T := TX12) (N := 18) hx hb hts iwX12 tyX12 tyX12_ok nmX12 hown hK hP hD hS 0 rfl rfl 1 (by decide) (hts _ mw_14) (fun _ h9 => h9) rfl hin rfl (by decide +kernel) rfl rfl (Nat.le_of_ble_eq_true rfl) dX12_init_10 (fun H locs hP hD hS => ?_)
  have hP : va_P D vwCl [(h0, .inr (11, [.int 0, .ref q1, .null, .null, .null, .int 0, .null, .int 0, .int 0, .int 0, .int 0, .int 0, .null, .int 0, .int 0, .null, .null, .null])), (q1, .inl (cI, 32243, .inl (fun _ => 0)))] H := hP
  have hD : va_D A [(h0, .inr (11, [.int 0, .ref q1, .null, .null, .null, .int 0, .null, .int 0, .int 0, .int 0, .int 0, .int 0, .null, .int 0, .int 0, .null, .null, .null])), (q1, .inl (cI, 32243, .inl (fun _ => 0)))] := hD
  refine lv_aload_n hx hb dX12_init_13 rfl (lv_at hl 0 rfl) ?_
  refine lv_sipush (v := 32243) hx hb dX12_init_14 (by decide) ?_
  refine va_newa (atype := .int) (N' := 32243) (a0 := (32243, .inl (fun _ => 0))) hx hb (hts _ mw_arrI) (ty := .int) rfl hK hP hD hS hA (fun _ => rfl) (by decide) (by decide) (Nat.le_of_ble_eq_true rfl) (Nat.le_of_ble_eq_true rfl) (Nat.le_of_ble_eq_true rfl) dX12_init_17 (fun q2 cA2 H hK2 hP hD hS => ?_)
  rw [tyl_int hK hK2] at hP hD
  have hP : va_P D vwCl [(h0, .inr (11, [.int 0, .ref q1, .null, .null, .null, .int 0, .null, .int 0, .int 0, .int 0, .int 0, .int 0, .null, .int 0, .int 0, .null, .null, .null])), (q1, .inl (cI, 32243, .inl (fun _ => 0))), (q2, .inl (cI, 32243, .inl (fun _ => 0)))] H := hP
  have hD : va_D A [(h0, .inr (11, [.int 0, .ref q1, .null, .null, .null, .int 0, .null, .int 0, .int 0, .int 0, .int 0, .int 0, .null, .int 0, .int 0, .null, .null, .null])), (q1, .inl (cI, 32243, .inl (fun _ => 0))), (q2, .inl (cI, 32243, .inl (fun _ => 0)))] := hD
  refine va_putF (D := D) (ci := 11) (v := .ref q2) (ty := .array .int) (C := RX12) (T := TX12) (N := 18) hx hb hts iwX12 tyX12 tyX12_ok nmX12 hown hK hP hD hS 0 rfl rfl 2 (by decide) (hts _ mw_13) (fun _ h9 => h9) rfl hin rfl (by decide +kernel) rfl rfl (Nat.le_of_ble_eq_true rfl) dX12_init_19 (fun H locs hP hD hS => ?_)
  have hP : va_P D vwCl [(h0, .inr (11, [.int 0, .ref q1, .ref q2, .null, .null, .int 0, .null, .int 0, .int 0, .int 0, .int 0, .int 0, .null, .int 0, .int 0, .null, .null, .null])), (q1, .inl (cI, 32243, .inl (fun _ => 0))), (q2, .inl (cI, 32243, .inl (fun _ => 0)))] H := hP
  have hD : va_D A [(h0, .inr (11, [.int 0, .ref q1, .ref q2, .null, .null, .int 0, .null, .int 0, .int 0, .int 0, .int 0, .int 0, .null, .int 0, .int 0, .null, .null, .null])), (q1, .inl (cI, 32243, .inl (fun _ => 0))), (q2, .inl (cI, 32243, .inl (fun _ => 0)))] := hD
  refine lv_aload_n hx hb dX12_init_22 rfl (lv_at hl 0 rfl) ?_
  refine lv_sipush (v := 32243) hx hb dX12_init_23 (by decide) ?_
  refine va_newa (atype := .int) (N' := 32243) (a0 := (32243, .inl (fun _ => 0))) hx hb (hts _ mw_arrI) (ty := .int) rfl hK hP hD hS hA (fun _ => rfl) (by decide) (by decide) (Nat.le_of_ble_eq_true rfl) (Nat.le_of_ble_eq_true rfl) (Nat.le_of_ble_eq_true rfl) dX12_init_26 (fun q3 cA3 H hK2 hP hD hS => ?_)
  rw [tyl_int hK hK2] at hP hD
  have hP : va_P D vwCl [(h0, .inr (11, [.int 0, .ref q1, .ref q2, .null, .null, .int 0, .null, .int 0, .int 0, .int 0, .int 0, .int 0, .null, .int 0, .int 0, .null, .null, .null])), (q1, .inl (cI, 32243, .inl (fun _ => 0))), (q2, .inl (cI, 32243, .inl (fun _ => 0))), (q3, .inl (cI, 32243, .inl (fun _ => 0)))] H := hP
  have hD : va_D A [(h0, .inr (11, [.int 0, .ref q1, .ref q2, .null, .null, .int 0, .null, .int 0, .int 0, .int 0, .int 0, .int 0, .null, .int 0, .int 0, .null, .null, .null])), (q1, .inl (cI, 32243, .inl (fun _ => 0))), (q2, .inl (cI, 32243, .inl (fun _ => 0))), (q3, .inl (cI, 32243, .inl (fun _ => 0)))] := hD
  refine va_putF (D := D) (ci := 11) (v := .ref q3) (ty := .array .int) (C := RX12) (T := TX12) (N := 18) hx hb hts iwX12 tyX12 tyX12_ok nmX12 hown hK hP hD hS 0 rfl rfl 3 (by decide) (hts _ mw_719) (fun _ h9 => h9) rfl hin rfl (by decide +kernel) rfl rfl (Nat.le_of_ble_eq_true rfl) dX12_init_28 (fun H locs hP hD hS => ?_)
  have hP : va_P D vwCl [(h0, .inr (11, [.int 0, .ref q1, .ref q2, .ref q3, .null, .int 0, .null, .int 0, .int 0, .int 0, .int 0, .int 0, .null, .int 0, .int 0, .null, .null, .null])), (q1, .inl (cI, 32243, .inl (fun _ => 0))), (q2, .inl (cI, 32243, .inl (fun _ => 0))), (q3, .inl (cI, 32243, .inl (fun _ => 0)))] H := hP
  have hD : va_D A [(h0, .inr (11, [.int 0, .ref q1, .ref q2, .ref q3, .null, .int 0, .null, .int 0, .int 0, .int 0, .int 0, .int 0, .null, .int 0, .int 0, .null, .null, .null])), (q1, .inl (cI, 32243, .inl (fun _ => 0))), (q2, .inl (cI, 32243, .inl (fun _ => 0))), (q3, .inl (cI, 32243, .inl (fun _ => 0)))] := hD
  refine lv_aload_n hx hb dX12_init_31 rfl (lv_at hl 0 rfl) ?_
  refine lv_sipush (v := 32243) hx hb dX12_init_32 (by decide) ?_
  refine va_newa (atype := .int) (N' := 32243) (a0 := (32243, .inl (fun _ => 0))) hx hb (hts _ mw_arrI) (ty := .int) rfl hK hP hD hS hA (fun _ => rfl) (by decide) (by decide) (Nat.le_of_ble_eq_true rfl) (Nat.le_of_ble_eq_true rfl) (Nat.le_of_ble_eq_true rfl) dX12_init_35 (fun q4 cA4 H hK2 hP hD hS => ?_)
  rw [tyl_int hK hK2] at hP hD
  have hP : va_P D vwCl [(h0, .inr (11, [.int 0, .ref q1, .ref q2, .ref q3, .null, .int 0, .null, .int 0, .int 0, .int 0, .int 0, .int 0, .null, .int 0, .int 0, .null, .null, .null])), (q1, .inl (cI, 32243, .inl (fun _ => 0))), (q2, .inl (cI, 32243, .inl (fun _ => 0))), (q3, .inl (cI, 32243, .inl (fun _ => 0))), (q4, .inl (cI, 32243, .inl (fun _ => 0)))] H := hP
  have hD : va_D A [(h0, .inr (11, [.int 0, .ref q1, .ref q2, .ref q3, .null, .int 0, .null, .int 0, .int 0, .int 0, .int 0, .int 0, .null, .int 0, .int 0, .null, .null, .null])), (q1, .inl (cI, 32243, .inl (fun _ => 0))), (q2, .inl (cI, 32243, .inl (fun _ => 0))), (q3, .inl (cI, 32243, .inl (fun _ => 0))), (q4, .inl (cI, 32243, .inl (fun _ => 0)))] := hD
  refine va_putF (D := D) (ci := 11) (v := .ref q4) (ty := .array .int) (C := RX12) (T := TX12) (N := 18) hx hb hts iwX12 tyX12 tyX12_ok nmX12 hown hK hP hD hS 0 rfl rfl 4 (by decide) (hts _ mw_15) (fun _ h9 => h9) rfl hin rfl (by decide +kernel) rfl rfl (Nat.le_of_ble_eq_true rfl) dX12_init_37 (fun H locs hP hD hS => ?_)
  have hP : va_P D vwCl [(h0, .inr (11, [.int 0, .ref q1, .ref q2, .ref q3, .ref q4, .int 0, .null, .int 0, .int 0, .int 0, .int 0, .int 0, .null, .int 0, .int 0, .null, .null, .null])), (q1, .inl (cI, 32243, .inl (fun _ => 0))), (q2, .inl (cI, 32243, .inl (fun _ => 0))), (q3, .inl (cI, 32243, .inl (fun _ => 0))), (q4, .inl (cI, 32243, .inl (fun _ => 0)))] H := hP
  have hD : va_D A [(h0, .inr (11, [.int 0, .ref q1, .ref q2, .ref q3, .ref q4, .int 0, .null, .int 0, .int 0, .int 0, .int 0, .int 0, .null, .int 0, .int 0, .null, .null, .null])), (q1, .inl (cI, 32243, .inl (fun _ => 0))), (q2, .inl (cI, 32243, .inl (fun _ => 0))), (q3, .inl (cI, 32243, .inl (fun _ => 0))), (q4, .inl (cI, 32243, .inl (fun _ => 0)))] := hD
  refine lv_aload_n hx hb dX12_init_40 rfl (lv_at hl 0 rfl) ?_
  refine lv_sipush (v := 400) hx hb dX12_init_41 (by decide) ?_
  refine va_newa (atype := .byte) (N' := 400) (a0 := (400, .inl (fun _ => 0))) hx hb (hts _ mw_915) (ty := .byte) rfl hK hP hD hS hA (fun _ => rfl) (by decide) (by decide) (Nat.le_of_ble_eq_true rfl) (Nat.le_of_ble_eq_true rfl) (Nat.le_of_ble_eq_true rfl) dX12_init_44 (fun q5 cA5 H hK2 hP hD hS => ?_)
  rw [tyl_byte hK hK2] at hP hD
  have hP : va_P D vwCl [(h0, .inr (11, [.int 0, .ref q1, .ref q2, .ref q3, .ref q4, .int 0, .null, .int 0, .int 0, .int 0, .int 0, .int 0, .null, .int 0, .int 0, .null, .null, .null])), (q1, .inl (cI, 32243, .inl (fun _ => 0))), (q2, .inl (cI, 32243, .inl (fun _ => 0))), (q3, .inl (cI, 32243, .inl (fun _ => 0))), (q4, .inl (cI, 32243, .inl (fun _ => 0))), (q5, .inl (cB, 400, .inl (fun _ => 0)))] H := hP
  have hD : va_D A [(h0, .inr (11, [.int 0, .ref q1, .ref q2, .ref q3, .ref q4, .int 0, .null, .int 0, .int 0, .int 0, .int 0, .int 0, .null, .int 0, .int 0, .null, .null, .null])), (q1, .inl (cI, 32243, .inl (fun _ => 0))), (q2, .inl (cI, 32243, .inl (fun _ => 0))), (q3, .inl (cI, 32243, .inl (fun _ => 0))), (q4, .inl (cI, 32243, .inl (fun _ => 0))), (q5, .inl (cB, 400, .inl (fun _ => 0)))] := hD
  refine va_putF (D := D) (ci := 11) (v := .ref q5) (ty := .array .byte) (C := RX12) (T := TX12) (N := 18) hx hb hts iwX12 tyX12 tyX12_ok nmX12 hown hK hP hD hS 0 rfl rfl 6 (by decide) (hts _ mw_50) (fun _ h9 => h9) rfl hin rfl (by decide +kernel) rfl rfl (Nat.le_of_ble_eq_true rfl) dX12_init_46 (fun H locs hP hD hS => ?_)
  have hP : va_P D vwCl [(h0, .inr (11, [.int 0, .ref q1, .ref q2, .ref q3, .ref q4, .int 0, .ref q5, .int 0, .int 0, .int 0, .int 0, .int 0, .null, .int 0, .int 0, .null, .null, .null])), (q1, .inl (cI, 32243, .inl (fun _ => 0))), (q2, .inl (cI, 32243, .inl (fun _ => 0))), (q3, .inl (cI, 32243, .inl (fun _ => 0))), (q4, .inl (cI, 32243, .inl (fun _ => 0))), (q5, .inl (cB, 400, .inl (fun _ => 0)))] H := hP
  have hD : va_D A [(h0, .inr (11, [.int 0, .ref q1, .ref q2, .ref q3, .ref q4, .int 0, .ref q5, .int 0, .int 0, .int 0, .int 0, .int 0, .null, .int 0, .int 0, .null, .null, .null])), (q1, .inl (cI, 32243, .inl (fun _ => 0))), (q2, .inl (cI, 32243, .inl (fun _ => 0))), (q3, .inl (cI, 32243, .inl (fun _ => 0))), (q4, .inl (cI, 32243, .inl (fun _ => 0))), (q5, .inl (cB, 400, .inl (fun _ => 0)))] := hD
  refine lv_aload_n hx hb dX12_init_49 rfl (lv_at hl 0 rfl) ?_
  refine lv_iconst (v := (-1)) hx hb dX12_init_50 (by decide) ?_
  refine va_put (D := D) (ci := 11) (v := .int (-1)) (ty := .int) (C := RX12) (T := TX12) (N := 18) hx hb hts iwX12 tyX12 tyX12_ok nmX12 hown hK hP hD hS 0 rfl rfl 11 (by decide) (hts _ mw_66) (fun _ h9 => h9) rfl (by decide +kernel) rfl rfl (Nat.le_of_ble_eq_true rfl) dX12_init_51 (fun H locs hP hD hS => ?_)
  have hP : va_P D vwCl [(h0, .inr (11, [.int 0, .ref q1, .ref q2, .ref q3, .ref q4, .int 0, .ref q5, .int 0, .int 0, .int 0, .int 0, .int (-1), .null, .int 0, .int 0, .null, .null, .null])), (q1, .inl (cI, 32243, .inl (fun _ => 0))), (q2, .inl (cI, 32243, .inl (fun _ => 0))), (q3, .inl (cI, 32243, .inl (fun _ => 0))), (q4, .inl (cI, 32243, .inl (fun _ => 0))), (q5, .inl (cB, 400, .inl (fun _ => 0)))] H := hP
  have hD : va_D A [(h0, .inr (11, [.int 0, .ref q1, .ref q2, .ref q3, .ref q4, .int 0, .ref q5, .int 0, .int 0, .int 0, .int 0, .int (-1), .null, .int 0, .int 0, .null, .null, .null])), (q1, .inl (cI, 32243, .inl (fun _ => 0))), (q2, .inl (cI, 32243, .inl (fun _ => 0))), (q3, .inl (cI, 32243, .inl (fun _ => 0))), (q4, .inl (cI, 32243, .inl (fun _ => 0))), (q5, .inl (cB, 400, .inl (fun _ => 0)))] := hD
  refine lv_aload_n hx hb dX12_init_54 rfl (lv_at hl 0 rfl) ?_
  refine lv_iconst (v := 5) hx hb dX12_init_55 (by decide) ?_
  refine va_newa (atype := .int) (N' := 5) (a0 := (5, .inl (fun _ => 0))) hx hb (hts _ mw_arrI) (ty := .int) rfl hK hP hD hS hA (fun _ => rfl) (by decide) (by decide) (Nat.le_of_ble_eq_true rfl) (Nat.le_of_ble_eq_true rfl) (Nat.le_of_ble_eq_true rfl) dX12_init_56 (fun q6 cA6 H hK2 hP hD hS => ?_)
  rw [tyl_int hK hK2] at hP hD
  have hP : va_P D vwCl [(h0, .inr (11, [.int 0, .ref q1, .ref q2, .ref q3, .ref q4, .int 0, .ref q5, .int 0, .int 0, .int 0, .int 0, .int (-1), .null, .int 0, .int 0, .null, .null, .null])), (q1, .inl (cI, 32243, .inl (fun _ => 0))), (q2, .inl (cI, 32243, .inl (fun _ => 0))), (q3, .inl (cI, 32243, .inl (fun _ => 0))), (q4, .inl (cI, 32243, .inl (fun _ => 0))), (q5, .inl (cB, 400, .inl (fun _ => 0))), (q6, .inl (cI, 5, .inl (fun _ => 0)))] H := hP
  have hD : va_D A [(h0, .inr (11, [.int 0, .ref q1, .ref q2, .ref q3, .ref q4, .int 0, .ref q5, .int 0, .int 0, .int 0, .int 0, .int (-1), .null, .int 0, .int 0, .null, .null, .null])), (q1, .inl (cI, 32243, .inl (fun _ => 0))), (q2, .inl (cI, 32243, .inl (fun _ => 0))), (q3, .inl (cI, 32243, .inl (fun _ => 0))), (q4, .inl (cI, 32243, .inl (fun _ => 0))), (q5, .inl (cB, 400, .inl (fun _ => 0))), (q6, .inl (cI, 5, .inl (fun _ => 0)))] := hD
  refine va_putF (D := D) (ci := 11) (v := .ref q6) (ty := .array .int) (C := RX12) (T := TX12) (N := 18) hx hb hts iwX12 tyX12 tyX12_ok nmX12 hown hK hP hD hS 0 rfl rfl 12 (by decide) (hts _ mw_49) (fun _ h9 => h9) rfl hin rfl (by decide +kernel) rfl rfl (Nat.le_of_ble_eq_true rfl) dX12_init_58 (fun H locs hP hD hS => ?_)
  have hP : va_P D vwCl [(h0, .inr (11, [.int 0, .ref q1, .ref q2, .ref q3, .ref q4, .int 0, .ref q5, .int 0, .int 0, .int 0, .int 0, .int (-1), .ref q6, .int 0, .int 0, .null, .null, .null])), (q1, .inl (cI, 32243, .inl (fun _ => 0))), (q2, .inl (cI, 32243, .inl (fun _ => 0))), (q3, .inl (cI, 32243, .inl (fun _ => 0))), (q4, .inl (cI, 32243, .inl (fun _ => 0))), (q5, .inl (cB, 400, .inl (fun _ => 0))), (q6, .inl (cI, 5, .inl (fun _ => 0)))] H := hP
  have hD : va_D A [(h0, .inr (11, [.int 0, .ref q1, .ref q2, .ref q3, .ref q4, .int 0, .ref q5, .int 0, .int 0, .int 0, .int 0, .int (-1), .ref q6, .int 0, .int 0, .null, .null, .null])), (q1, .inl (cI, 32243, .inl (fun _ => 0))), (q2, .inl (cI, 32243, .inl (fun _ => 0))), (q3, .inl (cI, 32243, .inl (fun _ => 0))), (q4, .inl (cI, 32243, .inl (fun _ => 0))), (q5, .inl (cB, 400, .inl (fun _ => 0))), (q6, .inl (cI, 5, .inl (fun _ => 0)))] := hD
  refine lv_aload_n hx hb dX12_init_61 rfl (lv_at hl 0 rfl) ?_
  refine lv_iconst (v := 1) hx hb dX12_init_62 (by decide) ?_
  refine va_put (D := D) (ci := 11) (v := .int 1) (ty := .boolean) (C := RX12) (T := TX12) (N := 18) hx hb hts iwX12 tyX12 tyX12_ok nmX12 hown hK hP hD hS 0 rfl rfl 14 (by decide) (hts _ mw_76) (fun _ h9 => h9) rfl (by decide +kernel) rfl rfl (Nat.le_of_ble_eq_true rfl) dX12_init_63 (fun H locs hP hD hS => ?_)
  have hP : va_P D vwCl [(h0, .inr (11, [.int 0, .ref q1, .ref q2, .ref q3, .ref q4, .int 0, .ref q5, .int 0, .int 0, .int 0, .int 0, .int (-1), .ref q6, .int 0, .int 1, .null, .null, .null])), (q1, .inl (cI, 32243, .inl (fun _ => 0))), (q2, .inl (cI, 32243, .inl (fun _ => 0))), (q3, .inl (cI, 32243, .inl (fun _ => 0))), (q4, .inl (cI, 32243, .inl (fun _ => 0))), (q5, .inl (cB, 400, .inl (fun _ => 0))), (q6, .inl (cI, 5, .inl (fun _ => 0)))] H := hP
  have hD : va_D A [(h0, .inr (11, [.int 0, .ref q1, .ref q2, .ref q3, .ref q4, .int 0, .ref q5, .int 0, .int 0, .int 0, .int 0, .int (-1), .ref q6, .int 0, .int 1, .null, .null, .null])), (q1, .inl (cI, 32243, .inl (fun _ => 0))), (q2, .inl (cI, 32243, .inl (fun _ => 0))), (q3, .inl (cI, 32243, .inl (fun _ => 0))), (q4, .inl (cI, 32243, .inl (fun _ => 0))), (q5, .inl (cB, 400, .inl (fun _ => 0))), (q6, .inl (cI, 5, .inl (fun _ => 0)))] := hD
  refine lv_aload_n hx hb dX12_init_66 rfl (lv_at hl 0 rfl) ?_
  refine lv_bipush (v := 6) hx hb dX12_init_67 (by decide) ?_
  refine va_newa (atype := .int) (N' := 6) (a0 := (6, .inl (fun _ => 0))) hx hb (hts _ mw_arrI) (ty := .int) rfl hK hP hD hS hA (fun _ => rfl) (by decide) (by decide) (Nat.le_of_ble_eq_true rfl) (Nat.le_of_ble_eq_true rfl) (Nat.le_of_ble_eq_true rfl) dX12_init_69 (fun q7 cA7 H hK2 hP hD hS => ?_)
  rw [tyl_int hK hK2] at hP hD
  have hP : va_P D vwCl [(h0, .inr (11, [.int 0, .ref q1, .ref q2, .ref q3, .ref q4, .int 0, .ref q5, .int 0, .int 0, .int 0, .int 0, .int (-1), .ref q6, .int 0, .int 1, .null, .null, .null])), (q1, .inl (cI, 32243, .inl (fun _ => 0))), (q2, .inl (cI, 32243, .inl (fun _ => 0))), (q3, .inl (cI, 32243, .inl (fun _ => 0))), (q4, .inl (cI, 32243, .inl (fun _ => 0))), (q5, .inl (cB, 400, .inl (fun _ => 0))), (q6, .inl (cI, 5, .inl (fun _ => 0))), (q7, .inl (cI, 6, .inl (fun _ => 0)))] H := hP
  have hD : va_D A [(h0, .inr (11, [.int 0, .ref q1, .ref q2, .ref q3, .ref q4, .int 0, .ref q5, .int 0, .int 0, .int 0, .int 0, .int (-1), .ref q6, .int 0, .int 1, .null, .null, .null])), (q1, .inl (cI, 32243, .inl (fun _ => 0))), (q2, .inl (cI, 32243, .inl (fun _ => 0))), (q3, .inl (cI, 32243, .inl (fun _ => 0))), (q4, .inl (cI, 32243, .inl (fun _ => 0))), (q5, .inl (cB, 400, .inl (fun _ => 0))), (q6, .inl (cI, 5, .inl (fun _ => 0))), (q7, .inl (cI, 6, .inl (fun _ => 0)))] := hD
  refine va_putF (D := D) (ci := 11) (v := .ref q7) (ty := .array .int) (C := RX12) (T := TX12) (N := 18) hx hb hts iwX12 tyX12 tyX12_ok nmX12 hown hK hP hD hS 0 rfl rfl 15 (by decide) (hts _ mw_139) (fun _ h9 => h9) rfl hin rfl (by decide +kernel) rfl rfl (Nat.le_of_ble_eq_true rfl) dX12_init_71 (fun H locs hP hD hS => ?_)
  have hP : va_P D vwCl [(h0, .inr (11, [.int 0, .ref q1, .ref q2, .ref q3, .ref q4, .int 0, .ref q5, .int 0, .int 0, .int 0, .int 0, .int (-1), .ref q6, .int 0, .int 1, .ref q7, .null, .null])), (q1, .inl (cI, 32243, .inl (fun _ => 0))), (q2, .inl (cI, 32243, .inl (fun _ => 0))), (q3, .inl (cI, 32243, .inl (fun _ => 0))), (q4, .inl (cI, 32243, .inl (fun _ => 0))), (q5, .inl (cB, 400, .inl (fun _ => 0))), (q6, .inl (cI, 5, .inl (fun _ => 0))), (q7, .inl (cI, 6, .inl (fun _ => 0)))] H := hP
  have hD : va_D A [(h0, .inr (11, [.int 0, .ref q1, .ref q2, .ref q3, .ref q4, .int 0, .ref q5, .int 0, .int 0, .int 0, .int 0, .int (-1), .ref q6, .int 0, .int 1, .ref q7, .null, .null])), (q1, .inl (cI, 32243, .inl (fun _ => 0))), (q2, .inl (cI, 32243, .inl (fun _ => 0))), (q3, .inl (cI, 32243, .inl (fun _ => 0))), (q4, .inl (cI, 32243, .inl (fun _ => 0))), (q5, .inl (cB, 400, .inl (fun _ => 0))), (q6, .inl (cI, 5, .inl (fun _ => 0))), (q7, .inl (cI, 6, .inl (fun _ => 0)))] := hD
  refine lv_aload_n hx hb dX12_init_74 rfl (lv_at hl 0 rfl) ?_
  refine lv_bipush (v := 21) hx hb dX12_init_75 (by decide) ?_
  refine va_newa (atype := .int) (N' := 21) (a0 := (21, .inl (fun _ => 0))) hx hb (hts _ mw_arrI) (ty := .int) rfl hK hP hD hS hA (fun _ => rfl) (by decide) (by decide) (Nat.le_of_ble_eq_true rfl) (Nat.le_of_ble_eq_true rfl) (Nat.le_of_ble_eq_true rfl) dX12_init_77 (fun q8 cA8 H hK2 hP hD hS => ?_)
  rw [tyl_int hK hK2] at hP hD
  have hP : va_P D vwCl [(h0, .inr (11, [.int 0, .ref q1, .ref q2, .ref q3, .ref q4, .int 0, .ref q5, .int 0, .int 0, .int 0, .int 0, .int (-1), .ref q6, .int 0, .int 1, .ref q7, .null, .null])), (q1, .inl (cI, 32243, .inl (fun _ => 0))), (q2, .inl (cI, 32243, .inl (fun _ => 0))), (q3, .inl (cI, 32243, .inl (fun _ => 0))), (q4, .inl (cI, 32243, .inl (fun _ => 0))), (q5, .inl (cB, 400, .inl (fun _ => 0))), (q6, .inl (cI, 5, .inl (fun _ => 0))), (q7, .inl (cI, 6, .inl (fun _ => 0))), (q8, .inl (cI, 21, .inl (fun _ => 0)))] H := hP
  have hD : va_D A [(h0, .inr (11, [.int 0, .ref q1, .ref q2, .ref q3, .ref q4, .int 0, .ref q5, .int 0, .int 0, .int 0, .int 0, .int (-1), .ref q6, .int 0, .int 1, .ref q7, .null, .null])), (q1, .inl (cI, 32243, .inl (fun _ => 0))), (q2, .inl (cI, 32243, .inl (fun _ => 0))), (q3, .inl (cI, 32243, .inl (fun _ => 0))), (q4, .inl (cI, 32243, .inl (fun _ => 0))), (q5, .inl (cB, 400, .inl (fun _ => 0))), (q6, .inl (cI, 5, .inl (fun _ => 0))), (q7, .inl (cI, 6, .inl (fun _ => 0))), (q8, .inl (cI, 21, .inl (fun _ => 0)))] := hD
  refine va_putF (D := D) (ci := 11) (v := .ref q8) (ty := .array .int) (C := RX12) (T := TX12) (N := 18) hx hb hts iwX12 tyX12 tyX12_ok nmX12 hown hK hP hD hS 0 rfl rfl 16 (by decide) (hts _ mw_268) (fun _ h9 => h9) rfl hin rfl (by decide +kernel) rfl rfl (Nat.le_of_ble_eq_true rfl) dX12_init_79 (fun H locs hP hD hS => ?_)
  have hP : va_P D vwCl [(h0, .inr (11, [.int 0, .ref q1, .ref q2, .ref q3, .ref q4, .int 0, .ref q5, .int 0, .int 0, .int 0, .int 0, .int (-1), .ref q6, .int 0, .int 1, .ref q7, .ref q8, .null])), (q1, .inl (cI, 32243, .inl (fun _ => 0))), (q2, .inl (cI, 32243, .inl (fun _ => 0))), (q3, .inl (cI, 32243, .inl (fun _ => 0))), (q4, .inl (cI, 32243, .inl (fun _ => 0))), (q5, .inl (cB, 400, .inl (fun _ => 0))), (q6, .inl (cI, 5, .inl (fun _ => 0))), (q7, .inl (cI, 6, .inl (fun _ => 0))), (q8, .inl (cI, 21, .inl (fun _ => 0)))] H := hP
  have hD : va_D A [(h0, .inr (11, [.int 0, .ref q1, .ref q2, .ref q3, .ref q4, .int 0, .ref q5, .int 0, .int 0, .int 0, .int 0, .int (-1), .ref q6, .int 0, .int 1, .ref q7, .ref q8, .null])), (q1, .inl (cI, 32243, .inl (fun _ => 0))), (q2, .inl (cI, 32243, .inl (fun _ => 0))), (q3, .inl (cI, 32243, .inl (fun _ => 0))), (q4, .inl (cI, 32243, .inl (fun _ => 0))), (q5, .inl (cB, 400, .inl (fun _ => 0))), (q6, .inl (cI, 5, .inl (fun _ => 0))), (q7, .inl (cI, 6, .inl (fun _ => 0))), (q8, .inl (cI, 21, .inl (fun _ => 0)))] := hD
  refine lv_aload_n hx hb dX12_init_82 rfl (lv_at hl 0 rfl) ?_
  refine lv_bipush (v := 20) hx hb dX12_init_83 (by decide) ?_
  refine va_newa (atype := .int) (N' := 20) (a0 := (20, .inl (fun _ => 0))) hx hb (hts _ mw_arrI) (ty := .int) rfl hK hP hD hS hA (fun _ => rfl) (by decide) (by decide) (Nat.le_of_ble_eq_true rfl) (Nat.le_of_ble_eq_true rfl) (Nat.le_of_ble_eq_true rfl) dX12_init_85 (fun q9 cA9 H hK2 hP hD hS => ?_)
  rw [tyl_int hK hK2] at hP hD
  have hP : va_P D vwCl [(h0, .inr (11, [.int 0, .ref q1, .ref q2, .ref q3, .ref q4, .int 0, .ref q5, .int 0, .int 0, .int 0, .int 0, .int (-1), .ref q6, .int 0, .int 1, .ref q7, .ref q8, .null])), (q1, .inl (cI, 32243, .inl (fun _ => 0))), (q2, .inl (cI, 32243, .inl (fun _ => 0))), (q3, .inl (cI, 32243, .inl (fun _ => 0))), (q4, .inl (cI, 32243, .inl (fun _ => 0))), (q5, .inl (cB, 400, .inl (fun _ => 0))), (q6, .inl (cI, 5, .inl (fun _ => 0))), (q7, .inl (cI, 6, .inl (fun _ => 0))), (q8, .inl (cI, 21, .inl (fun _ => 0))), (q9, .inl (cI, 20, .inl (fun _ => 0)))] H := hP
  have hD : va_D A [(h0, .inr (11, [.int 0, .ref q1, .ref q2, .ref q3, .ref q4, .int 0, .ref q5, .int 0, .int 0, .int 0, .int 0, .int (-1), .ref q6, .int 0, .int 1, .ref q7, .ref q8, .null])), (q1, .inl (cI, 32243, .inl (fun _ => 0))), (q2, .inl (cI, 32243, .inl (fun _ => 0))), (q3, .inl (cI, 32243, .inl (fun _ => 0))), (q4, .inl (cI, 32243, .inl (fun _ => 0))), (q5, .inl (cB, 400, .inl (fun _ => 0))), (q6, .inl (cI, 5, .inl (fun _ => 0))), (q7, .inl (cI, 6, .inl (fun _ => 0))), (q8, .inl (cI, 21, .inl (fun _ => 0))), (q9, .inl (cI, 20, .inl (fun _ => 0)))] := hD
  refine va_putF (D := D) (ci := 11) (v := .ref q9) (ty := .array .int) (C := RX12) (T := TX12) (N := 18) hx hb hts iwX12 tyX12 tyX12_ok nmX12 hown hK hP hD hS 0 rfl rfl 17 (by decide) (hts _ mw_276) (fun _ h9 => h9) rfl hin rfl (by decide +kernel) rfl rfl (Nat.le_of_ble_eq_true rfl) dX12_init_87 (fun H locs hP hD hS => ?_)
  have hP : va_P D vwCl [(h0, .inr (11, [.int 0, .ref q1, .ref q2, .ref q3, .ref q4, .int 0, .ref q5, .int 0, .int 0, .int 0, .int 0, .int (-1), .ref q6, .int 0, .int 1, .ref q7, .ref q8, .ref q9])), (q1, .inl (cI, 32243, .inl (fun _ => 0))), (q2, .inl (cI, 32243, .inl (fun _ => 0))), (q3, .inl (cI, 32243, .inl (fun _ => 0))), (q4, .inl (cI, 32243, .inl (fun _ => 0))), (q5, .inl (cB, 400, .inl (fun _ => 0))), (q6, .inl (cI, 5, .inl (fun _ => 0))), (q7, .inl (cI, 6, .inl (fun _ => 0))), (q8, .inl (cI, 21, .inl (fun _ => 0))), (q9, .inl (cI, 20, .inl (fun _ => 0)))] H := hP
  have hD : va_D A [(h0, .inr (11, [.int 0, .ref q1, .ref q2, .ref q3, .ref q4, .int 0, .ref q5, .int 0, .int 0, .int 0, .int 0, .int (-1), .ref q6, .int 0, .int 1, .ref q7, .ref q8, .ref q9])), (q1, .inl (cI, 32243, .inl (fun _ => 0))), (q2, .inl (cI, 32243, .inl (fun _ => 0))), (q3, .inl (cI, 32243, .inl (fun _ => 0))), (q4, .inl (cI, 32243, .inl (fun _ => 0))), (q5, .inl (cB, 400, .inl (fun _ => 0))), (q6, .inl (cI, 5, .inl (fun _ => 0))), (q7, .inl (cI, 6, .inl (fun _ => 0))), (q8, .inl (cI, 21, .inl (fun _ => 0))), (q9, .inl (cI, 20, .inl (fun _ => 0)))] := hD
  have S : st D (wM cI cB (fun k => match k with | 0 => h0 | 1 => q1 | 2 => q2 | 3 => q3 | 4 => q4 | 5 => q5 | 6 => q6 | 7 => q7 | 8 => q8 | 9 => q9 | _ => 0)) A s m0 H locs := ⟨hP.sub [0, 1, 2, 3, 4, 5, 6, 7, 8, 9] rfl, hD.sub [0, 1, 2, 3, 4, 5, 6, 7, 8, 9] (by decide) rfl, hS⟩
  exact wX12_init_90 (ad := (fun k => match k with | 0 => h0 | 1 => q1 | 2 => q2 | 3 => q3 | 4 => q4 | 5 => q5 | 6 => q6 | 7 => q7 | 8 => q8 | 9 => q9 | _ => 0)) C ⟨Nat.le_refl _, Nat.le_refl _⟩ ⟨Nat.le_refl _, Nat.le_refl _⟩ m0 hl S h
