/-! each call of the object, at the level of the law -/
section OPS
variable {l : Launch} {D : va_G} {cI cB cL : ClassId} {ka kv : Nat → Nat} {fv : Value} {c : Nat} {s : Sta} {μ : Sg}
theorem hbd : ∀ c s μ, InvL c s μ → tot s ≤ 200000 := fun _ _ _ h => Inv_bd h
theorem op_feed (hfl : l.stackTraces = false) (hI : InvL c s μ) (x1 x2 x3 x4 x5 : Int32) : ∃ r μ', fX12_feed x1 x2 x3 x4 x5 μ = some (r, μ') ∧ opI InvL l D (tyl cI cB cL) ka kv fv yX11_feed cX11_feed 6 (some .int) 1 22 cI cB c s [.int x1, .int x2, .int x3, .int x4, .int x5] [] kk2 r μ' := by
  obtain ⟨z, r, μ', h1, h2, hi, ho⟩ := r_feed hI x1 x2 x3 x4 x5
  exact ⟨r, μ', h2, opT hbd (k := 0) (by decide) (fun ad tr kt pa => ct_X11_feed l hfl D cI cB cL ka kv fv ad tr kt pa s.1 x1 x2 x3 x4 x5 s.2.2.2.1 h1) hi ho⟩
theorem op_end (hfl : l.stackTraces = false) (hI : InvL c s μ) (x1 : Int32) : ∃ r μ', fX12_end x1 μ = some (r, μ') ∧ opI InvL l D (tyl cI cB cL) ka kv fv yX11_end cX11_end 2 (some .boolean) 0 0 cI cB c s [.int x1] [] kk2 r μ' := by
  obtain ⟨z, r, μ', h1, h2, hi, ho⟩ := r_end hI x1
  exact ⟨r, μ', h2, opT hbd (k := 0) (by decide) (fun ad tr kt pa => ct_X11_end l hfl D cI cB cL ka kv fv ad tr kt pa s.1 x1 s.2.2.2.1 h1) hi ho⟩
theorem op_net (hfl : l.stackTraces = false) (hI : InvL c s μ) : ∃ r μ', fX12_net μ = some (r, μ') ∧ opI InvL l D (tyl cI cB cL) ka kv fv yX11_net cX11_net 2 (some .int) 8 180 cI cB c s [] [3, 4] kkN r μ' := by
  obtain ⟨z, d, r, μ', h1, h2, ho⟩ := r_net hI
  exact ⟨r, μ', h2, opN hbd (k := 1) (by decide) (fun ad kt p0 => ct_X11_net l hfl D cI cB cL ka kv fv ad kt p0 s.1 _ _ h1) ho⟩
theorem op_fault (hfl : l.stackTraces = false) (hI : InvL c s μ) : ∃ r μ', fX12_fault μ = some (r, μ') ∧ opI InvL l D (tyl cI cB cL) ka kv fv yX11_fault cX11_fault 1 (some .int) 0 0 cI cB c s [] [] kk2 r μ' := by
  obtain ⟨⟨⟨N, G, M, T, Dl, hT, Q, B, h, hQI, hd⟩, h8⟩, hTp, h36, -⟩ := id hI
  have X := okT_of hI (o_fault (u := μ) (ω := μ 1) h36)
  rw [e_wid] at X
  obtain ⟨z, r, μ', h1, h2, hi, ho⟩ := X
  exact ⟨r, μ', h2, opT hbd (k := 0) (by decide) (fun ad tr kt pa => ct_X11_fault l hfl D cI cB cL ka kv fv ad tr kt pa s.1 s.2.2.2.1 h1) hi ho⟩
theorem op_node (hfl : l.stackTraces = false) (hI : InvL c s μ) (x1 x2 : Int32) : ∃ r μ', fX12_node x1 x2 μ = some (r, μ') ∧ opI InvL l D (tyl cI cB cL) ka kv fv yX11_node cX11_node 3 (some .int) 7 111 cI cB c s [.int x1, .int x2] [0, 1] kk2 r μ' := by
  obtain ⟨⟨⟨N, G, M, T, Dl, hT, Q, B, h, hQI, hd⟩, h8⟩, hTp, h36, -⟩ := id hI
  have X := okT_of hI (o_node (u := μ) h x1 x2)
  rw [e_wid] at X
  obtain ⟨z, r, μ', h1, h2, hi, ho⟩ := X
  exact ⟨r, μ', h2, opT hbd (k := 2) (by decide) (fun ad tr kt pa => ct_X11_node l hfl D cI cB cL ka kv fv ad tr kt pa s.1 x1 x2 s.2.2.2.1 h1) hi ho⟩
theorem op_group (hfl : l.stackTraces = false) (hI : InvL c s μ) (x1 : Int32) : ∃ r μ', fX12_group x1 μ = some (r, μ') ∧ opI InvL l D (tyl cI cB cL) ka kv fv yX11_group cX11_group 2 (some .int) 7 111 cI cB c s [.int x1] [0] kk2 r μ' := by
  obtain ⟨⟨⟨N, G, M, T, Dl, hT, Q, B, h, hQI, hd⟩, h8⟩, hTp, h36, -⟩ := id hI
  have X := okT_of hI (o_group (u := μ) h x1)
  rw [e_wid] at X
  obtain ⟨z, r, μ', h1, h2, hi, ho⟩ := X
  exact ⟨r, μ', h2, opT hbd (k := 1) (by decide) (fun ad tr kt pa => ct_X11_group l hfl D cI cB cL ka kv fv ad tr kt pa s.1 x1 s.2.2.2.1 h1) hi ho⟩
theorem op_message (hfl : l.stackTraces = false) (hI : InvL c s μ) (x1 x2 : Int32) : ∃ r μ', fX12_message x1 x2 μ = some (r, μ') ∧ opI InvL l D (tyl cI cB cL) ka kv fv yX11_message cX11_message 3 (some .int) 7 111 cI cB c s [.int x1, .int x2] [0, 1] kk2 r μ' := by
  obtain ⟨⟨⟨N, G, M, T, Dl, hT, Q, B, h, hQI, hd⟩, h8⟩, hTp, h36, -⟩ := id hI
  have X := okT_of hI (o_message (u := μ) h x1 x2)
  rw [e_wid] at X
  obtain ⟨z, r, μ', h1, h2, hi, ho⟩ := X
  exact ⟨r, μ', h2, opT hbd (k := 2) (by decide) (fun ad tr kt pa => ct_X11_message l hfl D cI cB cL ka kv fv ad tr kt pa s.1 x1 x2 s.2.2.2.1 h1) hi ho⟩
theorem op_has (hfl : l.stackTraces = false) (hI : InvL c s μ) (x1 x2 x3 : Int32) : ∃ r μ', fX12_has x1 x2 x3 μ = some (r, μ') ∧ opI InvL l D (tyl cI cB cL) ka kv fv yX11_has cX11_has 7 (some .int) 7 112 cI cB c s [.int x1, .int x2, .int x3] [0, 1] kk2 r μ' := by
  obtain ⟨⟨⟨N, G, M, T, Dl, hT, Q, B, h, hQI, hd⟩, h8⟩, hTp, h36, -⟩ := id hI
  have X := okT_of hI (o_has (u := μ) h x1 x2 x3)
  rw [e_wid] at X
  obtain ⟨z, r, μ', h1, h2, hi, ho⟩ := X
  exact ⟨r, μ', h2, opT hbd (k := 3) (by decide) (fun ad tr kt pa => ct_X11_has l hfl D cI cB cL ka kv fv ad tr kt pa s.1 x1 x2 x3 s.2.2.2.1 h1) hi ho⟩
theorem op_delivered (hfl : l.stackTraces = false) (hI : InvL c s μ) (x1 x2 : Int32) : ∃ r μ', fX12_delivered x1 x2 μ = some (r, μ') ∧ opI InvL l D (tyl cI cB cL) ka kv fv yX11_delivered cX11_delivered 3 (some .int) 7 111 cI cB c s [.int x1, .int x2] [0] kk2 r μ' := by
  obtain ⟨⟨⟨N, G, M, T, Dl, hT, Q, B, h, hQI, hd⟩, h8⟩, hTp, h36, -⟩ := id hI
  have X := okT_of hI (o_delivered (u := μ) h x1 x2)
  rw [e_wid] at X
  obtain ⟨z, r, μ', h1, h2, hi, ho⟩ := X
  exact ⟨r, μ', h2, opT hbd (k := 1) (by decide) (fun ad tr kt pa => ct_X11_delivered l hfl D cI cB cL ka kv fv ad tr kt pa s.1 x1 x2 s.2.2.2.1 h1) hi ho⟩
theorem op_channel (hfl : l.stackTraces = false) (hI : InvL c s μ) (x1 x2 x3 : Int32) : ∃ r μ', fX12_channel x1 x2 x3 μ = some (r, μ') ∧ opI InvL l D (tyl cI cB cL) ka kv fv yX11_channel cX11_channel 5 (some .int) 7 111 cI cB c s [.int x1, .int x2, .int x3] [0, 1] kk2 r μ' := by
  obtain ⟨⟨⟨N, G, M, T, Dl, hT, Q, B, h, hQI, hd⟩, h8⟩, hTp, h36, -⟩ := id hI
  have X := okT_of hI (o_channel (u := μ) h x1 x2 x3)
  rw [e_wid] at X
  obtain ⟨z, r, μ', h1, h2, hi, ho⟩ := X
  exact ⟨r, μ', h2, opT hbd (k := 3) (by decide) (fun ad tr kt pa => ct_X11_channel l hfl D cI cB cL ka kv fv ad tr kt pa s.1 x1 x2 x3 s.2.2.2.1 h1) hi ho⟩
theorem op_packet (hfl : l.stackTraces = false) (hI : InvL c s μ) (x1 x2 x3 x4 : Int32) : ∃ r μ', fX12_packet x1 x2 x3 x4 μ = some (r, μ') ∧ opI InvL l D (tyl cI cB cL) ka kv fv yX11_packet cX11_packet 7 (some .int) 7 111 cI cB c s [.int x1, .int x2, .int x3, .int x4] [0, 1] kk2 r μ' := by
  obtain ⟨⟨⟨N, G, M, T, Dl, hT, Q, B, h, hQI, hd⟩, h8⟩, hTp, h36, -⟩ := id hI
  have X := okT_of hI (o_packet (u := μ) h (fun c hc => q_len h.2.2.2.2.2.2.2.2.1 hQI (fun _ _ => by omega) h.1.1.1 h.1.1.2.2.1 hc) x1 x2 x3 x4)
  rw [e_wid] at X
  obtain ⟨z, r, μ', h1, h2, hi, ho⟩ := X
  exact ⟨r, μ', h2, opT hbd (k := 3) (by decide) (fun ad tr kt pa => ct_X11_packet l hfl D cI cB cL ka kv fv ad tr kt pa s.1 x1 x2 x3 x4 s.2.2.2.1 h1) hi ho⟩
theorem op_gather (hfl : l.stackTraces = false) (hI : InvL c s μ) (x1 x2 x3 : Int32) : ∃ r μ', fX12_gather x1 x2 x3 μ = some (r, μ') ∧ opI InvL l D (tyl cI cB cL) ka kv fv yX11_gather cX11_gather 5 (some .int) 7 111 cI cB c s [.int x1, .int x2, .int x3] [0, 2, 1] kk3 r μ' := by
  obtain ⟨⟨⟨N, G, M, T, Dl, hT, Q, B, h, hQI, hd⟩, h8⟩, hTp, h36, -⟩ := id hI
  have X := okT_of hI (o_gather (u := μ) h x1 x2 x3)
  rw [e_wid] at X
  obtain ⟨z, r, μ', h1, h2, hi, ho⟩ := X
  exact ⟨r, μ', h2, opT hbd (k := 3) (by decide) (fun ad tr kt pa => ct_X11_gather l hfl D cI cB cL ka kv fv ad tr kt pa s.1 x1 x2 x3 s.2.2.2.1 h1) hi ho⟩
theorem op_ticks (hfl : l.stackTraces = false) (hI : InvL c s μ) (hc : c ≤ 512) (x1 : Int32) : ∃ r μ', fX12_ticks x1 μ = some (r, μ') ∧ opI InvL l D (tyl cI cB cL) ka kv fv yX11_ticks cX11_ticks 4 (some .int) 8 200 cI cB c s [.int x1] [3] kkL r μ' := by
  obtain ⟨z, d, r, μ', h1, h2, hi, ho⟩ := r_ticks hI hc x1
  exact ⟨r, μ', h2, opY hbd (k := 1) (by decide) (fun ad tr kt => ct_X11_ticks l hfl D cI cB cL ka kv fv ad tr kt x1 s.2.2.2.1 s.1 h1) hi ho⟩
theorem op_send (hfl : l.stackTraces = false) (hI : InvL c s μ) (x1 x2 : Int32) : ∃ r μ', fX12_send x1 x2 μ = some (r, μ') ∧ opI InvL l D (tyl cI cB cL) ka kv fv yX11_send cX11_send 3 (some .int) 7 151 cI cB c s [.int x1, .int x2] [0, 2] kk2 r μ' := by
  obtain ⟨z, d, r, μ', h1, h2, hi, ho⟩ := r_send hI x1 x2
  exact ⟨r, μ', h2, opY hbd (k := 3) (by decide) (fun ad tr kt => ct_X11_send l hfl D cI cB cL ka kv fv ad tr kt x1 x2 s.2.2.2.1 s.1 h1) hi ho⟩
theorem op_crash (hfl : l.stackTraces = false) (hI : InvL c s μ) (x1 : Int32) : ∃ μ', fX12_crash x1 μ = some μ' ∧ opV InvL l D (tyl cI cB cL) ka kv fv yX11_crash cX11_crash 2 7 111 cI cB c s [.int x1] [0, 2] kk2 μ' := by
  obtain ⟨z, μ', h1, h2, hi, ho⟩ := r_crash hI x1
  exact ⟨μ', h2, opTV hbd (k := 2) (by decide) (fun ad tr kt pa => ct_X11_crash l hfl D cI cB cL ka kv fv ad tr kt pa s.1 x1 s.2.2.2.1 h1) hi ho⟩
theorem op_hold (hfl : l.stackTraces = false) (hI : InvL c s μ) (x1 x2 x3 : Int32) (hx3 : x3 = nI 0 ∨ x3 = nI 1) : ∃ r μ', fX12_hold x1 x2 x3 μ = some (r, μ') ∧ opI InvL l D (tyl cI cB cL) ka kv fv yX11_hold cX11_hold 7 (some .boolean) 7 111 cI cB c s [.int x1, .int x2, .int x3] [0] kk2 r μ' := by
  obtain ⟨z, r, μ', h1, h2, hi, ho⟩ := r_hold hI x1 x2 x3 hx3
  exact ⟨r, μ', h2, opT hbd (k := 2) (by decide) (fun ad tr kt pa => ct_X11_hold l hfl D cI cB cL ka kv fv ad tr kt pa s.1 x1 x2 x3 s.2.2.2.1 h1) hi ho⟩
theorem op_due (hfl : l.stackTraces = false) (hI : InvL c s μ) (hc : c ≤ 512) (x1 x2 : Int32) : ∃ r μ', fX12_due x1 x2 μ = some (r, μ') ∧ opI InvL l D (tyl cI cB cL) ka kv fv yX11_due cX11_due 6 (some .int) 7 180 cI cB c s [.int x1, .int x2] [0] kk2 r μ' := by
  obtain ⟨z, d, r, μ', h1, h2, hi, ho⟩ := r_due hI hc x1 x2
  exact ⟨r, μ', h2, opU hbd (k := 2) (by decide) (fun ad kt p0 => ct_X11_due l hfl D cI cB cL ka kv fv ad kt p0 s.1 x1 x2 _ _ h1) hi ho⟩
theorem op_block (hfl : l.stackTraces = false) (hI : InvL c s μ) (x1 x2 : Int32) : ∃ r μ', fX12_block x1 x2 μ = some (r, μ') ∧ opI InvL l D (tyl cI cB cL) ka kv fv yX11_block cX11_block 3 (some .int) 7 111 cI cB c s [.int x1, .int x2] [0] kk2 r μ' := by
  obtain ⟨⟨⟨N, G, M, T, Dl, hT, Q, B, h, hQI, hd⟩, h8⟩, hTp, h36, -⟩ := id hI
  have X := okT_of hI (o_block (u := μ) h x1 x2)
  rw [e_wid] at X
  obtain ⟨z, r, μ', h1, h2, hi, ho⟩ := X
  exact ⟨r, μ', h2, opT hbd (k := 2) (by decide) (fun ad tr kt pa => ct_X11_block l hfl D cI cB cL ka kv fv ad tr kt pa s.1 x1 x2 s.2.2.2.1 h1) hi ho⟩
theorem op_waits (hfl : l.stackTraces = false) (hI : InvL c s μ) (x1 : Int32) : ∃ r μ', fX12_waits x1 μ = some (r, μ') ∧ opI InvL l D (tyl cI cB cL) ka kv fv yX11_waits cX11_waits 2 (some .int) 7 111 cI cB c s [.int x1] [0] kk2 r μ' := by
  obtain ⟨⟨⟨N, G, M, T, Dl, hT, Q, B, h, hQI, hd⟩, h8⟩, hTp, h36, -⟩ := id hI
  have X := okT_of hI (o_waits (u := μ) h x1)
  rw [e_wid] at X
  obtain ⟨z, r, μ', h1, h2, hi, ho⟩ := X
  exact ⟨r, μ', h2, opT hbd (k := 1) (by decide) (fun ad tr kt pa => ct_X11_waits l hfl D cI cB cL ka kv fv ad tr kt pa s.1 x1 s.2.2.2.1 h1) hi ho⟩
theorem op_ahead (hfl : l.stackTraces = false) (hI : InvL c s μ) (x1 x2 : Int32) : ∃ r μ', fX12_ahead x1 x2 μ = some (r, μ') ∧ opI InvL l D (tyl cI cB cL) ka kv fv yX11_ahead cX11_ahead 3 (some .boolean) 7 111 cI cB c s [.int x1, .int x2] [0, 3] kk2 r μ' := by
  obtain ⟨⟨⟨N, G, M, T, Dl, hT, Q, B, h, hQI, hd⟩, h8⟩, hTp, h36, -⟩ := id hI
  have X := okT_of hI (o_ahead (u := μ) h x1 x2)
  rw [e_wid] at X
  obtain ⟨z, r, μ', h1, h2, hi, ho⟩ := X
  exact ⟨r, μ', h2, opT hbd (k := 3) (by decide) (fun ad tr kt pa => ct_X11_ahead l hfl D cI cB cL ka kv fv ad tr kt pa s.1 x1 x2 s.2.2.2.1 h1) hi ho⟩
theorem op_line (hfl : l.stackTraces = false) (hI : InvL c s μ) (x1 : Int32) : ∃ r μ', fX12_line x1 μ = some (r, μ') ∧ opI InvL l D (tyl cI cB cL) ka kv fv yX11_line cX11_line 2 (some .int) 5 113 cI cB c s [.int x1] [] kk2 r μ' := by
  obtain ⟨⟨⟨N, G, M, T, Dl, hT, Q, B, h, hQI, hd⟩, h8⟩, hTp, h36, -⟩ := id hI
  have X := okT_of hI (o_line (u := μ) h x1)
  rw [e_wid] at X
  obtain ⟨z, r, μ', h1, h2, hi, ho⟩ := X
  exact ⟨r, μ', h2, opT hbd (k := 0) (by decide) (fun ad tr kt pa => ct_X11_line l hfl D cI cB cL ka kv fv ad tr kt pa s.1 x1 s.2.2.2.1 h1) hi ho⟩
theorem op_after (hfl : l.stackTraces = false) (hI : InvL c s μ) (hc : c ≤ 512) (x1 x2 : Int32) : ∃ r μ', fX12_after x1 x2 μ = some (r, μ') ∧ opI InvL l D (tyl cI cB cL) ka kv fv yX11_after cX11_after 3 (some .int) 8 203 cI cB c s [.int x1, .int x2] [0] kk2 r μ' := by
  obtain ⟨z, d, r, μ', h1, h2, hi, ho⟩ := r_after hI hc x1 x2
  exact ⟨r, μ', h2, opU hbd (k := 2) (by decide) (fun ad kt p0 => ct_X11_after l hfl D cI cB cL ka kv fv ad kt p0 s.1 x1 x2 _ _ h1) hi ho⟩
theorem op_outside (hfl : l.stackTraces = false) (hI : InvL c s μ) (x1 : Int32) : ∃ r μ', fX12_outside x1 μ = some (r, μ') ∧ opI InvL l D (tyl cI cB cL) ka kv fv yX11_outside cX11_outside 3 (some .int) 7 111 cI cB c s [.int x1] [0] kk2 r μ' := by
  obtain ⟨⟨⟨N, G, M, T, Dl, hT, Q, B, h, hQI, hd⟩, h8⟩, hTp, h36, -⟩ := id hI
  have X := okT_of hI (o_outside (u := μ) h x1)
  rw [e_wid] at X
  obtain ⟨z, r, μ', h1, h2, hi, ho⟩ := X
  exact ⟨r, μ', h2, opT hbd (k := 1) (by decide) (fun ad tr kt pa => ct_X11_outside l hfl D cI cB cL ka kv fv ad tr kt pa s.1 x1 s.2.2.2.1 h1) hi ho⟩
theorem op_parted (hfl : l.stackTraces = false) (hI : InvL c s μ) (x1 x2 : Int32) : ∃ r μ', fX12_parted x1 x2 μ = some (r, μ') ∧ opI InvL l D (tyl cI cB cL) ka kv fv yX11_parted cX11_parted 3 (some .int) 7 111 cI cB c s [.int x1, .int x2] [0, 3] kk2 r μ' := by
  obtain ⟨⟨⟨N, G, M, T, Dl, hT, Q, B, h, hQI, hd⟩, h8⟩, hTp, h36, -⟩ := id hI
  have X := okT_of hI (o_parted (u := μ) h x1 x2)
  rw [e_wid] at X
  obtain ⟨z, r, μ', h1, h2, hi, ho⟩ := X
  exact ⟨r, μ', h2, opT hbd (k := 3) (by decide) (fun ad tr kt pa => ct_X11_parted l hfl D cI cB cL ka kv fv ad tr kt pa s.1 x1 x2 s.2.2.2.1 h1) hi ho⟩
theorem op_when (hfl : l.stackTraces = false) (hI : InvL c s μ) (x1 x2 : Int32) : ∃ r μ', fX12_when x1 x2 μ = some (r, μ') ∧ opI InvL l D (tyl cI cB cL) ka kv fv yX11_when cX11_when 4 (some .int) 7 111 cI cB c s [.int x1, .int x2] [0] kk2 r μ' := by
  obtain ⟨⟨⟨N, G, M, T, Dl, hT, Q, B, h, hQI, hd⟩, h8⟩, hTp, h36, -⟩ := id hI
  have X := okT_of hI (o_when (u := μ) h x1 x2)
  rw [e_wid] at X
  obtain ⟨z, r, μ', h1, h2, hi, ho⟩ := X
  exact ⟨r, μ', h2, opT hbd (k := 2) (by decide) (fun ad tr kt pa => ct_X11_when l hfl D cI cB cL ka kv fv ad tr kt pa s.1 x1 x2 s.2.2.2.1 h1) hi ho⟩
theorem op_chain (hfl : l.stackTraces = false) (hI : InvL c s μ) (x1 x2 x3 : Int32) : ∃ r μ', fX12_chain x1 x2 x3 μ = some (r, μ') ∧ opI InvL l D (tyl cI cB cL) ka kv fv yX11_chain cX11_chain 4 (some .int) 7 116 cI cB c s [.int x1, .int x2, .int x3] [0] kk2 r μ' := by
  obtain ⟨⟨⟨N, G, M, T, Dl, hT, Q, B, h, hQI, hd⟩, h8⟩, hTp, h36, -⟩ := id hI
  have X := okT_of hI (o_chain (u := μ) h x1 x2 x3)
  rw [e_wid] at X
  obtain ⟨z, r, μ', h1, h2, hi, ho⟩ := X
  exact ⟨r, μ', h2, opT hbd (k := 2) (by decide) (fun ad tr kt pa => ct_X11_chain l hfl D cI cB cL ka kv fv ad tr kt pa s.1 x1 x2 x3 s.2.2.2.1 h1) hi ho⟩
theorem op_late (hfl : l.stackTraces = false) (hI : InvL c s μ) (x1 : Int32) : ∃ r μ', fX12_late x1 μ = some (r, μ') ∧ opI InvL l D (tyl cI cB cL) ka kv fv yX11_late cX11_late 2 (some .int) 7 111 cI cB c s [.int x1] [0] kk2 r μ' := by
  obtain ⟨⟨⟨N, G, M, T, Dl, hT, Q, B, h, hQI, hd⟩, h8⟩, hTp, h36, -⟩ := id hI
  have X := okT_of hI (o_late (u := μ) h x1)
  rw [e_wid] at X
  obtain ⟨z, r, μ', h1, h2, hi, ho⟩ := X
  exact ⟨r, μ', h2, opT hbd (k := 1) (by decide) (fun ad tr kt pa => ct_X11_late l hfl D cI cB cL ka kv fv ad tr kt pa s.1 x1 s.2.2.2.1 h1) hi ho⟩
theorem op_slowest (hfl : l.stackTraces = false) (hI : InvL c s μ) : ∃ r μ', fX12_slowest μ = some (r, μ') ∧ opI InvL l D (tyl cI cB cL) ka kv fv yX11_slowest cX11_slowest 5 (some .int) 3 68 cI cB c s [] [] kk2 r μ' := by
  obtain ⟨⟨⟨N, G, M, T, Dl, hT, Q, B, h, hQI, hd⟩, h8⟩, hTp, h36, -⟩ := id hI
  have X := okT_of hI (o_slowest (u := μ) h)
  rw [e_wid] at X
  obtain ⟨z, r, μ', h1, h2, hi, ho⟩ := X
  exact ⟨r, μ', h2, opT hbd (k := 0) (by decide) (fun ad tr kt pa => ct_X11_slowest l hfl D cI cB cL ka kv fv ad tr kt pa s.1 s.2.2.2.1 h1) hi ho⟩
theorem op_first (hfl : l.stackTraces = false) (hI : InvL c s μ) (hc : c ≤ 512) (x1 x2 : Int32) : ∃ r μ', fX12_first x1 x2 μ = some (r, μ') ∧ opI InvL l D (tyl cI cB cL) ka kv fv yX11_first cX11_first 3 (some .int) 8 203 cI cB c s [.int x1, .int x2] [0, 3] kk2 r μ' := by
  obtain ⟨z, d, r, μ', h1, h2, hi, ho⟩ := r_first hI hc x1 x2
  exact ⟨r, μ', h2, opU hbd (k := 3) (by decide) (fun ad kt p0 => ct_X11_first l hfl D cI cB cL ka kv fv ad kt p0 s.1 x1 x2 _ _ h1) hi ho⟩
theorem op_lag (hfl : l.stackTraces = false) (hI : InvL c s μ) (x1 : Int32) : ∃ r μ', fX12_lag x1 μ = some (r, μ') ∧ opI InvL l D (tyl cI cB cL) ka kv fv yX11_lag cX11_lag 2 (some .int) 7 111 cI cB c s [.int x1] [0] kk2 r μ' := by
  obtain ⟨⟨⟨N, G, M, T, Dl, hT, Q, B, h, hQI, hd⟩, h8⟩, hTp, h36, -⟩ := id hI
  have X := okT_of hI (o_lag (u := μ) h x1)
  rw [e_wid] at X
  obtain ⟨z, r, μ', h1, h2, hi, ho⟩ := X
  exact ⟨r, μ', h2, opT hbd (k := 1) (by decide) (fun ad tr kt pa => ct_X11_lag l hfl D cI cB cL ka kv fv ad tr kt pa s.1 x1 s.2.2.2.1 h1) hi ho⟩
theorem op_takes (hfl : l.stackTraces = false) (hI : InvL c s μ) (hc : c ≤ 512) (x1 : Int32) : ∃ r μ', fX12_takes x1 μ = some (r, μ') ∧ opI InvL l D (tyl cI cB cL) ka kv fv yX11_takes cX11_takes 2 (some .int) 8 203 cI cB c s [.int x1] [0] kk2 r μ' := by
  obtain ⟨z, d, r, μ', h1, h2, hi, ho⟩ := r_takes hI hc x1
  exact ⟨r, μ', h2, opU hbd (k := 1) (by decide) (fun ad kt p0 => ct_X11_takes l hfl D cI cB cL ka kv fv ad kt p0 s.1 x1 _ _ h1) hi ho⟩
theorem op_knot (hfl : l.stackTraces = false) (hI : InvL c s μ) (x1 x2 : Int32) : ∃ r μ', fX12_knot x1 x2 μ = some (r, μ') ∧ opI InvL l D (tyl cI cB cL) ka kv fv yX11_knot cX11_knot 3 (some .int) 7 111 cI cB c s [.int x1, .int x2] [0, 3] kk2 r μ' := by
  obtain ⟨⟨⟨N, G, M, T, Dl, hT, Q, B, h, hQI, hd⟩, h8⟩, hTp, h36, -⟩ := id hI
  have X := okT_of hI (o_knot (u := μ) h x1 x2)
  rw [e_wid] at X
  obtain ⟨z, r, μ', h1, h2, hi, ho⟩ := X
  exact ⟨r, μ', h2, opT hbd (k := 3) (by decide) (fun ad tr kt pa => ct_X11_knot l hfl D cI cB cL ka kv fv ad tr kt pa s.1 x1 x2 s.2.2.2.1 h1) hi ho⟩
theorem op_ring (hfl : l.stackTraces = false) (hI : InvL c s μ) : ∃ r μ', fX12_ring μ = some (r, μ') ∧ opI InvL l D (tyl cI cB cL) ka kv fv yX11_ring cX11_ring 1 (some .int) 2 45 cI cB c s [] [] kk2 r μ' := by
  obtain ⟨⟨⟨N, G, M, T, Dl, hT, Q, B, h, hQI, hd⟩, h8⟩, hTp, h36, -⟩ := id hI
  have X := okT_of hI (o_ring (u := μ) h)
  rw [e_wid] at X
  obtain ⟨z, r, μ', h1, h2, hi, ho⟩ := X
  exact ⟨r, μ', h2, opT hbd (k := 0) (by decide) (fun ad tr kt pa => ct_X11_ring l hfl D cI cB cL ka kv fv ad tr kt pa s.1 s.2.2.2.1 h1) hi ho⟩
theorem op_spared (hfl : l.stackTraces = false) (hI : InvL c s μ) (x1 : Int32) : ∃ r μ', fX12_spared x1 μ = some (r, μ') ∧ opI InvL l D (tyl cI cB cL) ka kv fv yX11_spared cX11_spared 2 (some .int) 7 111 cI cB c s [.int x1] [0] kk2 r μ' := by
  obtain ⟨⟨⟨N, G, M, T, Dl, hT, Q, B, h, hQI, hd⟩, h8⟩, hTp, h36, -⟩ := id hI
  have X := okT_of hI (o_spared (u := μ) h x1)
  rw [e_wid] at X
  obtain ⟨z, r, μ', h1, h2, hi, ho⟩ := X
  exact ⟨r, μ', h2, opT hbd (k := 1) (by decide) (fun ad tr kt pa => ct_X11_spared l hfl D cI cB cL ka kv fv ad tr kt pa s.1 x1 s.2.2.2.1 h1) hi ho⟩
theorem op_those (hfl : l.stackTraces = false) (hI : InvL c s μ) (x1 x2 : Int32) : ∃ r μ', fX12_those x1 x2 μ = some (r, μ') ∧ opI InvL l D (tyl cI cB cL) ka kv fv yX11_those cX11_those 3 (some .int) 7 112 cI cB c s [.int x1, .int x2] [0, 1] kk2 r μ' := by
  obtain ⟨⟨⟨N, G, M, T, Dl, hT, Q, B, h, hQI, hd⟩, h8⟩, hTp, h36, -⟩ := id hI
  have X := okT_of hI (o_those (u := μ) h x1 x2)
  rw [e_wid] at X
  obtain ⟨z, r, μ', h1, h2, hi, ho⟩ := X
  exact ⟨r, μ', h2, opT hbd (k := 2) (by decide) (fun ad tr kt pa => ct_X11_those l hfl D cI cB cL ka kv fv ad tr kt pa s.1 x1 x2 s.2.2.2.1 h1) hi ho⟩
theorem op_event (hfl : l.stackTraces = false) (hI : InvL c s μ) (x1 x2 : Int32) : ∃ r μ', fX12_event x1 x2 μ = some (r, μ') ∧ opI InvL l D (tyl cI cB cL) ka kv fv yX11_event cX11_event 3 (some .int) 6 90 cI cB c s [.int x1, .int x2] [0, 1] kk2 r μ' := by
  obtain ⟨⟨⟨N, G, M, T, Dl, hT, Q, B, h, hQI, hd⟩, h8⟩, hTp, h36, -⟩ := id hI
  have X := okT_of hI (o_event (u := μ) h x1 x2)
  rw [e_wid] at X
  obtain ⟨z, r, μ', h1, h2, hi, ho⟩ := X
  exact ⟨r, μ', h2, opT hbd (k := 1) (by decide) (fun ad tr kt pa => ct_X11_event l hfl D cI cB cL ka kv fv ad tr kt pa s.1 x1 x2 s.2.2.2.1 h1) hi ho⟩
theorem op_log (hfl : l.stackTraces = false) (hI : InvL c s μ) (x1 x2 : Int32) : ∃ r μ', fX12_log x1 x2 μ = some (r, μ') ∧ opI InvL l D (tyl cI cB cL) ka kv fv yX11_log cX11_log 3 (some .int) 7 112 cI cB c s [.int x1, .int x2] [1] kkL r μ' := by
  obtain ⟨⟨⟨N, G, M, T, Dl, hT, Q, B, h, hQI, hd⟩, h8⟩, hTp, h36, -⟩ := id hI
  have X := okT_of hI (o_log (u := μ) h x1 x2)
  rw [e_wid] at X
  obtain ⟨z, r, μ', h1, h2, hi, ho⟩ := X
  exact ⟨r, μ', h2, opT hbd (k := 1) (by decide) (fun ad tr kt pa => ct_X11_log l hfl D cI cB cL ka kv fv ad tr kt pa s.1 x1 x2 s.2.2.2.1 h1) hi ho⟩
theorem op_seed (hfl : l.stackTraces = false) (hI : InvL c s μ) (x1 : Int32) : ∃ r μ', fX12_seed x1 μ = some (r, μ') ∧ opI InvL l D (tyl cI cB cL) ka kv fv yX11_seed cX11_seed 3 (some .int) 0 0 cI cB c s [.int x1] [] kk2 r μ' := by
  obtain ⟨z, r, μ', h1, h2, hi, ho⟩ := r_seed hI x1
  exact ⟨r, μ', h2, opT hbd (k := 0) (by decide) (fun ad tr kt pa => ct_X11_seed l hfl D cI cB cL ka kv fv ad tr kt pa s.1 x1 s.2.2.2.1 h1) hi ho⟩
theorem op_image (hfl : l.stackTraces = false) (hI : InvL c s μ) : ∃ μ', fX12_image μ = some μ' ∧ opV InvL l D (tyl cI cB cL) ka kv fv yX11_image cX11_image 1 4 89 cI cB c s [] [] (fun _ => 0) μ' := by
  obtain ⟨z, d, μ', h1, h2, ho1, ho2, hi⟩ := r_image hI
  exact ⟨μ', h2, opIm hbd (k := 0) (by decide) (fun ad tr p0 => ct_X11_image l hfl D cI cB cL ka kv fv ad tr p0 s.1 _ _ h1) hi ⟨ho1, ho2⟩⟩
theorem op_back (hfl : l.stackTraces = false) (hI : InvL c s μ) : ∃ r μ', fX12_back μ = some (r, μ') ∧ opI InvL l D (tyl cI cB cL) ka kv fv yX11_back cX11_back 1 (some .boolean) 4 89 cI cB c s [] [] (fun _ => 0) r μ' := by
  obtain ⟨z, d, r, μ', h1, h2, ho1, ho2, hi⟩ := r_back hI
  exact ⟨r, μ', h2, opBk hbd (k := 0) (by decide) (fun ad tr p0 => ct_X11_back l hfl D cI cB cL ka kv fv ad tr p0 s.2.2.1 _ _ h1) hi ⟨ho1, ho2⟩⟩
theorem op_count (hfl : l.stackTraces = false) (hI : InvL c s μ) (x1 : Int32) : ∃ r μ', fX12_count x1 μ = some (r, μ') ∧ opI InvL l D (tyl cI cB cL) ka kv fv yX11_count cX11_count 2 (some .int) 1 22 cI cB c s [.int x1] [] kk2 r μ' := by
  obtain ⟨⟨⟨N, G, M, T, Dl, hT, Q, B, h, hQI, hd⟩, h8⟩, hTp, h36, -⟩ := id hI
  have X := okT_of hI (o_count (u := μ) h x1)
  rw [e_wid] at X
  obtain ⟨z, r, μ', h1, h2, hi, ho⟩ := X
  exact ⟨r, μ', h2, opT hbd (k := 0) (by decide) (fun ad tr kt pa => ct_X11_count l hfl D cI cB cL ka kv fv ad tr kt pa s.1 x1 s.2.2.2.1 h1) hi ho⟩
end OPS
