theorem mw_892 : Cond.fieldLink RX11 39 "LeastPending" "trial" "LLeastPending$Net;" ∈ gw := gw_t2 143 rfl rfl
theorem mw_893 : Cond.code yX7_lookFrom cX7_lookFrom 2 none ∈ gw := gw_t5 165 rfl rfl
theorem mw_894 : Cond.methodLink RX11 263 yX7_lookFrom ∈ gw := gw_t5 162 rfl rfl
theorem mw_895 : Cond.instanceMethod yX7_lookFrom ∈ gw := gw_t5 163 rfl rfl
theorem mw_896 : Cond.selects RX7 yX7_lookFrom yX7_lookFrom ∈ gw := gw_t5 164 rfl rfl
theorem mw_897 : Cond.methodLink RX11 266 yX7_canStir ∈ gw := gw_t5 167 rfl rfl
theorem mw_898 : Cond.methodLink RX11 270 yX7_passOn ∈ gw := gw_t5 176 rfl rfl
theorem mw_899 : Cond.fieldLink RX11 273 "LeastPending$Net" "stirred" "Z" ∈ gw := gw_t2 71 rfl rfl
theorem mw_900 : Cond.code yX7_passFar cX7_passFar 4 none ∈ gw := gw_t5 222 rfl rfl
theorem mw_901 : Cond.methodLink RX11 297 yX7_passFar ∈ gw := gw_t5 219 rfl rfl
theorem mw_902 : Cond.instanceMethod yX7_passFar ∈ gw := gw_t5 220 rfl rfl
theorem mw_903 : Cond.selects RX7 yX7_passFar yX7_passFar ∈ gw := gw_t5 221 rfl rfl
theorem mw_904 : Cond.methodLink RX11 300 yX7_upNodes ∈ gw := gw_t5 224 rfl rfl
theorem mw_905 : Cond.code yX0_firstOf cX0_firstOf 6 (some .int) ∈ gw := gw_t6 44 rfl rfl
theorem mw_906 : Cond.methodLink RX11 322 yX0_firstOf ∈ gw := gw_t6 42 rfl rfl
theorem mw_907 : Cond.static yX0_firstOf ∈ gw := gw_t6 43 rfl rfl
theorem mw_908 : Cond.fieldLink RX11 328 "LeastPending$Net" "takeovers" "I" ∈ gw := gw_t2 69 rfl rfl
theorem hdX0_firstOf : yX0_firstOf.cls ≠ "java/lang/invoke/MethodHandle" ∧ yX0_firstOf.cls ≠ "java/lang/invoke/VarHandle" ∧ (parseMethodDescriptor yX0_firstOf.desc).map (fun d => d.parameters.length) = some 3 := by decide +kernel
theorem hdX7_lookFrom : yX7_lookFrom.cls = RX7 ∧ yX7_lookFrom.cls ≠ "java/lang/invoke/MethodHandle" ∧ yX7_lookFrom.cls ≠ "java/lang/invoke/VarHandle" ∧ (parseMethodDescriptor yX7_lookFrom.desc).map (fun d => d.parameters.length) = some 1 := by decide +kernel
theorem hdX7_passFar : yX7_passFar.cls = RX7 ∧ yX7_passFar.cls ≠ "java/lang/invoke/MethodHandle" ∧ yX7_passFar.cls ≠ "java/lang/invoke/VarHandle" ∧ (parseMethodDescriptor yX7_passFar.desc).map (fun d => d.parameters.length) = some 0 := by decide +kernel
theorem dX11_due_0 : decode cX11_due 0 = .ok (.aload_n 0, 1) := by decide +kernel
theorem dX11_due_1 : decode cX11_due 1 = .ok (.iload_n 1, 1) := by decide +kernel
theorem dX11_due_2 : decode cX11_due 2 = .ok (.invokevirtual 83, 3) := by decide +kernel
theorem dX11_due_5 : decode cX11_due 5 = .ok (.aload_n 0, 1) := by decide +kernel
theorem dX11_due_6 : decode cX11_due 6 = .ok (.iload_n 2, 1) := by decide +kernel
theorem dX11_due_7 : decode cX11_due 7 = .ok (.invokevirtual 130, 3) := by decide +kernel
theorem dX11_due_10 : decode cX11_due 10 = .ok (.iload_n 1, 1) := by decide +kernel
theorem dX11_due_11 : decode cX11_due 11 = .ok (.iload_n 2, 1) := by decide +kernel
theorem dX11_due_12 : decode cX11_due 12 = .ok (.invokestatic 163, 3) := by decide +kernel
theorem dX11_due_15 : decode cX11_due 15 = .ok (.istore_n 3, 1) := by decide +kernel
theorem dX11_due_16 : decode cX11_due 16 = .ok (.aload_n 0, 1) := by decide +kernel
theorem dX11_due_17 : decode cX11_due 17 = .ok (.getfield 39, 3) := by decide +kernel
theorem dX11_due_20 : decode cX11_due 20 = .ok (.aload_n 0, 1) := by decide +kernel
theorem dX11_due_21 : decode cX11_due 21 = .ok (.getfield 35, 3) := by decide +kernel
theorem dX11_due_24 : decode cX11_due 24 = .ok (.invokevirtual 263, 3) := by decide +kernel
theorem dX11_due_27 : decode cX11_due 27 = .ok (.iconst 1, 1) := by decide +kernel
theorem dX11_due_28 : decode cX11_due 28 = .ok (.istore 4, 2) := by decide +kernel
theorem dX11_due_30 : decode cX11_due 30 = .ok (.iconst 0, 1) := by decide +kernel
theorem dX11_due_31 : decode cX11_due 31 = .ok (.istore 5, 2) := by decide +kernel
theorem dX11_due_33 : decode cX11_due 33 = .ok (.iload 5, 2) := by decide +kernel
theorem dX11_due_35 : decode cX11_due 35 = .ok (.bipush 120, 2) := by decide +kernel
theorem dX11_due_37 : decode cX11_due 37 = .ok (.if_icmp .gt 74, 3) := by decide +kernel
theorem dX11_due_40 : decode cX11_due 40 = .ok (.aload_n 0, 1) := by decide +kernel
theorem dX11_due_41 : decode cX11_due 41 = .ok (.getfield 39, 3) := by decide +kernel
theorem dX11_due_44 : decode cX11_due 44 = .ok (.getfield 104, 3) := by decide +kernel
theorem dX11_due_47 : decode cX11_due 47 = .ok (.getfield 166, 3) := by decide +kernel
theorem dX11_due_50 : decode cX11_due 50 = .ok (.iload_n 3, 1) := by decide +kernel
theorem dX11_due_51 : decode cX11_due 51 = .ok (.iaload, 1) := by decide +kernel
theorem dX11_due_52 : decode cX11_due 52 = .ok (.iconst 3, 1) := by decide +kernel
theorem dX11_due_53 : decode cX11_due 53 = .ok (.if_icmp .ne 6, 3) := by decide +kernel
theorem dX11_due_56 : decode cX11_due 56 = .ok (.iload 5, 2) := by decide +kernel
theorem dX11_due_58 : decode cX11_due 58 = .ok (.ireturn, 1) := by decide +kernel
theorem dX11_due_59 : decode cX11_due 59 = .ok (.iload 4, 2) := by decide +kernel
theorem dX11_due_61 : decode cX11_due 61 = .ok (.ifCond .ne 5, 3) := by decide +kernel
theorem dX11_due_64 : decode cX11_due 64 = .ok (.iconst (-1), 1) := by decide +kernel
theorem dX11_due_65 : decode cX11_due 65 = .ok (.ireturn, 1) := by decide +kernel
theorem dX11_due_66 : decode cX11_due 66 = .ok (.aload_n 0, 1) := by decide +kernel
theorem dX11_due_67 : decode cX11_due 67 = .ok (.getfield 39, 3) := by decide +kernel
theorem dX11_due_70 : decode cX11_due 70 = .ok (.invokevirtual 266, 3) := by decide +kernel
theorem dX11_due_73 : decode cX11_due 73 = .ok (.istore 4, 2) := by decide +kernel
theorem dX11_due_75 : decode cX11_due 75 = .ok (.aload_n 0, 1) := by decide +kernel
theorem dX11_due_76 : decode cX11_due 76 = .ok (.getfield 39, 3) := by decide +kernel
theorem dX11_due_79 : decode cX11_due 79 = .ok (.invokevirtual 270, 3) := by decide +kernel
theorem dX11_due_82 : decode cX11_due 82 = .ok (.pop, 1) := by decide +kernel
theorem dX11_due_83 : decode cX11_due 83 = .ok (.iload 4, 2) := by decide +kernel
theorem dX11_due_85 : decode cX11_due 85 = .ok (.ifCond .ne 13, 3) := by decide +kernel
theorem dX11_due_88 : decode cX11_due 88 = .ok (.aload_n 0, 1) := by decide +kernel
theorem dX11_due_89 : decode cX11_due 89 = .ok (.getfield 39, 3) := by decide +kernel
theorem dX11_due_92 : decode cX11_due 92 = .ok (.getfield 273, 3) := by decide +kernel
theorem dX11_due_95 : decode cX11_due 95 = .ok (.ifCond .eq 7, 3) := by decide +kernel
theorem dX11_due_98 : decode cX11_due 98 = .ok (.iconst 1, 1) := by decide +kernel
theorem dX11_due_99 : decode cX11_due 99 = .ok (.goto 4, 3) := by decide +kernel
theorem dX11_due_102 : decode cX11_due 102 = .ok (.iconst 0, 1) := by decide +kernel
theorem dX11_due_103 : decode cX11_due 103 = .ok (.istore 4, 2) := by decide +kernel
theorem dX11_due_105 : decode cX11_due 105 = .ok (.iinc 5 1, 3) := by decide +kernel
theorem dX11_due_108 : decode cX11_due 108 = .ok (.goto (-75), 3) := by decide +kernel
theorem dX11_due_111 : decode cX11_due 111 = .ok (.iconst (-1), 1) := by decide +kernel
theorem dX11_due_112 : decode cX11_due 112 = .ok (.ireturn, 1) := by decide +kernel
theorem dX11_after_0 : decode cX11_after 0 = .ok (.aload_n 0, 1) := by decide +kernel
theorem dX11_after_1 : decode cX11_after 1 = .ok (.iload_n 1, 1) := by decide +kernel
theorem dX11_after_2 : decode cX11_after 2 = .ok (.invokevirtual 83, 3) := by decide +kernel
theorem dX11_after_5 : decode cX11_after 5 = .ok (.aload_n 0, 1) := by decide +kernel
theorem dX11_after_6 : decode cX11_after 6 = .ok (.iload_n 2, 1) := by decide +kernel
theorem dX11_after_7 : decode cX11_after 7 = .ok (.invokevirtual 130, 3) := by decide +kernel
theorem dX11_after_10 : decode cX11_after 10 = .ok (.aload_n 0, 1) := by decide +kernel
theorem dX11_after_11 : decode cX11_after 11 = .ok (.getfield 39, 3) := by decide +kernel
theorem dX11_after_14 : decode cX11_after 14 = .ok (.aload_n 0, 1) := by decide +kernel
theorem dX11_after_15 : decode cX11_after 15 = .ok (.getfield 35, 3) := by decide +kernel
theorem dX11_after_18 : decode cX11_after 18 = .ok (.invokevirtual 263, 3) := by decide +kernel
theorem dX11_after_21 : decode cX11_after 21 = .ok (.aload_n 0, 1) := by decide +kernel
theorem dX11_after_22 : decode cX11_after 22 = .ok (.getfield 39, 3) := by decide +kernel
theorem dX11_after_25 : decode cX11_after 25 = .ok (.iload_n 1, 1) := by decide +kernel
theorem dX11_after_26 : decode cX11_after 26 = .ok (.invokevirtual 260, 3) := by decide +kernel
theorem dX11_after_29 : decode cX11_after 29 = .ok (.aload_n 0, 1) := by decide +kernel
theorem dX11_after_30 : decode cX11_after 30 = .ok (.getfield 39, 3) := by decide +kernel
theorem dX11_after_33 : decode cX11_after 33 = .ok (.invokevirtual 297, 3) := by decide +kernel
theorem dX11_after_36 : decode cX11_after 36 = .ok (.aload_n 0, 1) := by decide +kernel
theorem dX11_after_37 : decode cX11_after 37 = .ok (.getfield 39, 3) := by decide +kernel
theorem dX11_after_40 : decode cX11_after 40 = .ok (.iload_n 2, 1) := by decide +kernel
theorem dX11_after_41 : decode cX11_after 41 = .ok (.invokestatic 148, 3) := by decide +kernel
theorem dX11_after_44 : decode cX11_after 44 = .ok (.aload_n 0, 1) := by decide +kernel
theorem dX11_after_45 : decode cX11_after 45 = .ok (.getfield 39, 3) := by decide +kernel
theorem dX11_after_48 : decode cX11_after 48 = .ok (.getfield 133, 3) := by decide +kernel
theorem dX11_after_51 : decode cX11_after 51 = .ok (.getfield 142, 3) := by decide +kernel
theorem dX11_after_54 : decode cX11_after 54 = .ok (.iload_n 2, 1) := by decide +kernel
theorem dX11_after_55 : decode cX11_after 55 = .ok (.iaload, 1) := by decide +kernel
theorem dX11_after_56 : decode cX11_after 56 = .ok (.iand, 1) := by decide +kernel
theorem dX11_after_57 : decode cX11_after 57 = .ok (.aload_n 0, 1) := by decide +kernel
theorem dX11_after_58 : decode cX11_after 58 = .ok (.getfield 39, 3) := by decide +kernel
theorem dX11_after_61 : decode cX11_after 61 = .ok (.invokevirtual 300, 3) := by decide +kernel
theorem dX11_after_64 : decode cX11_after 64 = .ok (.iand, 1) := by decide +kernel
theorem dX11_after_65 : decode cX11_after 65 = .ok (.ireturn, 1) := by decide +kernel
theorem dX11_first_0 : decode cX11_first 0 = .ok (.aload_n 0, 1) := by decide +kernel
theorem dX11_first_1 : decode cX11_first 1 = .ok (.iload_n 1, 1) := by decide +kernel
theorem dX11_first_2 : decode cX11_first 2 = .ok (.invokevirtual 130, 3) := by decide +kernel
theorem dX11_first_5 : decode cX11_first 5 = .ok (.aload_n 0, 1) := by decide +kernel
theorem dX11_first_6 : decode cX11_first 6 = .ok (.iload_n 2, 1) := by decide +kernel
theorem dX11_first_7 : decode cX11_first 7 = .ok (.invokevirtual 130, 3) := by decide +kernel
theorem dX11_first_10 : decode cX11_first 10 = .ok (.iload_n 1, 1) := by decide +kernel
theorem dX11_first_11 : decode cX11_first 11 = .ok (.iload_n 2, 1) := by decide +kernel
theorem dX11_first_12 : decode cX11_first 12 = .ok (.invokestatic 283, 3) := by decide +kernel
theorem dX11_first_15 : decode cX11_first 15 = .ok (.aload_n 0, 1) := by decide +kernel
theorem dX11_first_16 : decode cX11_first 16 = .ok (.getfield 39, 3) := by decide +kernel
theorem dX11_first_19 : decode cX11_first 19 = .ok (.aload_n 0, 1) := by decide +kernel
theorem dX11_first_20 : decode cX11_first 20 = .ok (.getfield 35, 3) := by decide +kernel
theorem dX11_first_23 : decode cX11_first 23 = .ok (.invokevirtual 263, 3) := by decide +kernel
theorem dX11_first_26 : decode cX11_first 26 = .ok (.aload_n 0, 1) := by decide +kernel
theorem dX11_first_27 : decode cX11_first 27 = .ok (.getfield 39, 3) := by decide +kernel
theorem dX11_first_30 : decode cX11_first 30 = .ok (.invokevirtual 297, 3) := by decide +kernel
theorem dX11_first_33 : decode cX11_first 33 = .ok (.aload_n 0, 1) := by decide +kernel
theorem dX11_first_34 : decode cX11_first 34 = .ok (.getfield 39, 3) := by decide +kernel
theorem dX11_first_37 : decode cX11_first 37 = .ok (.iload_n 1, 1) := by decide +kernel
theorem dX11_first_38 : decode cX11_first 38 = .ok (.iload_n 2, 1) := by decide +kernel
theorem dX11_first_39 : decode cX11_first 39 = .ok (.invokestatic 322, 3) := by decide +kernel
theorem dX11_first_42 : decode cX11_first 42 = .ok (.ireturn, 1) := by decide +kernel
theorem dX11_takes_0 : decode cX11_takes 0 = .ok (.aload_n 0, 1) := by decide +kernel
theorem dX11_takes_1 : decode cX11_takes 1 = .ok (.iload_n 1, 1) := by decide +kernel
theorem dX11_takes_2 : decode cX11_takes 2 = .ok (.invokevirtual 83, 3) := by decide +kernel
theorem dX11_takes_5 : decode cX11_takes 5 = .ok (.aload_n 0, 1) := by decide +kernel
theorem dX11_takes_6 : decode cX11_takes 6 = .ok (.getfield 39, 3) := by decide +kernel
theorem dX11_takes_9 : decode cX11_takes 9 = .ok (.aload_n 0, 1) := by decide +kernel
theorem dX11_takes_10 : decode cX11_takes 10 = .ok (.getfield 35, 3) := by decide +kernel
theorem dX11_takes_13 : decode cX11_takes 13 = .ok (.invokevirtual 263, 3) := by decide +kernel
theorem dX11_takes_16 : decode cX11_takes 16 = .ok (.aload_n 0, 1) := by decide +kernel
theorem dX11_takes_17 : decode cX11_takes 17 = .ok (.getfield 39, 3) := by decide +kernel
theorem dX11_takes_20 : decode cX11_takes 20 = .ok (.iload_n 1, 1) := by decide +kernel
theorem dX11_takes_21 : decode cX11_takes 21 = .ok (.invokevirtual 260, 3) := by decide +kernel
theorem dX11_takes_24 : decode cX11_takes 24 = .ok (.aload_n 0, 1) := by decide +kernel
theorem dX11_takes_25 : decode cX11_takes 25 = .ok (.getfield 39, 3) := by decide +kernel
theorem dX11_takes_28 : decode cX11_takes 28 = .ok (.invokevirtual 297, 3) := by decide +kernel
theorem dX11_takes_31 : decode cX11_takes 31 = .ok (.aload_n 0, 1) := by decide +kernel
theorem dX11_takes_32 : decode cX11_takes 32 = .ok (.getfield 39, 3) := by decide +kernel
theorem dX11_takes_35 : decode cX11_takes 35 = .ok (.getfield 328, 3) := by decide +kernel
theorem dX11_takes_38 : decode cX11_takes 38 = .ok (.ireturn, 1) := by decide +kernel
section S_51a_yu
variable {p : Program} {l : Launch} {e : Env} {R : Room} {s : State} {m : MethodId} {args : Array Value} {below : List Frame} {meth : Method} {c : Code} {A : Nat → Prop} {D : va_G} {cI cB cL : ClassId} {ad : Nat → Nat} {ka kv : Nat → Nat} {fv : Value} {tr kt p0 l0 pa pl : Nat}
noncomputable def fX11_due_103 (l0 : Nat) (K33 : Int32 → Int32 → Int32 → Sg → Nat → Option (Xr × Sg × Nat)) (x3 : Int32) (x5 : Int32) (t0 : Int32) (u : Sg) (pl : Nat) : Option (Xr × Sg × Nat) := bnd (x5 + 1) (fun v32 => K33 x3 t0 v32 u pl)
noncomputable def fX11_due_98 (l0 : Nat) (K33 : Int32 → Int32 → Int32 → Sg → Nat → Option (Xr × Sg × Nat)) (x3 : Int32) (x5 : Int32) (u : Sg) (pl : Nat) : Option (Xr × Sg × Nat) := fX11_due_103 l0 K33 x3 x5 1 u pl
noncomputable def fX11_due_33 (l0 : Nat) : Nat → Int32 → Int32 → Int32 → Sg → Nat → Option (Xr × Sg × Nat)
  | 0, _, _, _, _, _ => none
  | n + 1, x3, x4, x5, u, pl => cnd (120 < x5) (some (.inl (-1), u, 0)) (grd (vp_in x3 120) (cnd ((u 56 ((x3 : Int32).toNatClampNeg)) = 3) (some (.inl x5, u, 0)) (cnd (x4 = 0) (some (.inl (-1), u, 0)) (obr (fX7_canStir (sbUN u)) (fun r23 => obt (fX7_passOn (sbUN u) pl) (fun r30 u25 d27 => bnd (ubUN u u25) (fun u26 => addY d27 (cnd (r23 = 0) (cnd ((u26 36 8) = 0) (fX11_due_103 l0 (fun a0 a1 a2 w z => fX11_due_33 l0 n a0 a1 a2 w z) x3 x5 0 u26 (pl + d27)) (fX11_due_98 l0 (fun a0 a1 a2 w z => fX11_due_33 l0 n a0 a1 a2 w z) x3 x5 u26 (pl + d27))) (fX11_due_98 l0 (fun a0 a1 a2 w z => fX11_due_33 l0 n a0 a1 a2 w z) x3 x5 u26 (pl + d27))))))))))
noncomputable def fX11_due_0 (l0 : Nat) (x1 : Int32) (x2 : Int32) (u : Sg) (pl : Nat) : Option (Xr × Sg × Nat) := obxY (fX11_needNode x1 (sbUT u)) (ubUT u) (fun u4 => obxY (fX11_needMessage x2 (sbUT u4)) (ubUT u4) (fun u9 => bnd (fX11_spotOf x1 x2) (fun v11 => obd (fX7_lookFrom l0 (sbU2 u9) pl) (fun u13 d15 => bnd (ubU2 u9 u13) (fun u14 => addY d15 (fX11_due_33 l0 FU v11 1 0 u14 (pl + d15)))))))
noncomputable def fX11_due (l0 : Nat) (x1 : Int32) (x2 : Int32) (u : Sg) (pl : Nat) : Option (Xr × Sg × Nat) := fX11_due_0 l0 x1 x2 u pl
set_option maxRecDepth 10000 in
set_option maxHeartbeats 4000000 in
theorem wX11_due_103 (C : cx D (tyl cI cB cL) A RX11 cX11_due 6 (some .int) p s m args c meth) (Kx : kx ka kv fv A s s.heap) (Xc : ∀ x ∈ c.exceptionTable.toList, False) (hfl : l.stackTraces = false) (hR : 7 ≤ R.frames ∧ 180 ≤ R.locals) {z : Xr × Sg} {dt pf : Nat} (hC : R.cells = 2 + dt ∧ R.slots = 6 * 2 + 2 * dt) (u : Sg) {K33 : Int32 → Int32 → Int32 → Sg → Nat → Option (Xr × Sg × Nat)} (hK33 : ∀ (y3 : Int32) (y4 : Int32) (y5 : Int32) (v : Sg) (pl pa a dz : Nat) (H : Heap) (locs : List Loc) (ls : Array Slot), lv_has ls 6 [(0, .ref (ad 72)), (3, .int y3), (4, .int y4), (5, .int y5)] → st D (wU cI cB ad kt p0 l0 pa pl) A s v H locs → dt = a + dz → pf = pl + dz → K33 y3 y4 y5 v pl = some (z.1, z.2, dz) → W p l e R s m args below meth c H locs (2 + a) (6 * 2 + 2 * a) (vx_MQ below (qYI D (tyl cI cB cL) (wU cI cB ad kt p0 l0) pf A z) (xY D (tyl cI cB cL) (wU cI cB ad kt p0 l0) pf A z) args s (2 + dt) (6 * 2 + 2 * dt) A) (F0 m 33 ls [])) (x3 : Int32) (x5 : Int32) (t0 : Int32) {pl pa a dz : Nat} {H : Heap} {locs : List Loc} {ls : Array Slot} (hl : lv_has ls 6 [(0, .ref (ad 72)), (3, .int x3), (5, .int x5)]) (S : st D (wU cI cB ad kt p0 l0 pa pl) A s u H locs) (ha : dt = a + dz) (hpf : pf = pl + dz) (h : fX11_due_103 l0 K33 x3 x5 t0 u pl = some (z.1, z.2, dz)) : W p l e R s m args below meth c H locs (2 + a) (6 * 2 + 2 * a) (vx_MQ below (qYI D (tyl cI cB cL) (wU cI cB ad kt p0 l0) pf A z) (xY D (tyl cI cB cL) (wU cI cB ad kt p0 l0) pf A z) args s (2 + dt) (6 * 2 + 2 * dt) A) (F0 m 103 ls [.int t0]) := by
  have hx := C.1
  have hb := C.2.1
  have hsz := hl.1
  unfold fX11_due_103 at h
  refine lv_istore (lv' := [(4, .int t0), (0, .ref (ad 72)), (3, .int x3), (5, .int x5)]) hx hb dX11_due_103 hl (by decide) rfl (fun ls hl => ?_)
  have hsz := hl.1
  obtain ⟨v32, ev32⟩ : ∃ y : Int32, y = x5 + 1 := ⟨_, rfl⟩
  have h := bnd_of ev32 h
  refine lv_iinc (v := v32) (lv' := [(5, .int v32), (4, .int t0), (0, .ref (ad 72)), (3, .int x3)]) hx hb dX11_due_105 hl (k := 3) rfl (by rw [ev32]; rfl) (by decide) rfl (fun ls hl => ?_)
  have hsz := hl.1
  refine lv_goto (tgt := 33) hx hb dX11_due_108 (by decide) ?_
  exact hK33 x3 t0 v32 u pl pa a dz H locs ls (lv_sub hl [2, 3, 1, 0] rfl) S ha hpf h
set_option maxRecDepth 10000 in
set_option maxHeartbeats 4000000 in
theorem wX11_due_98 (C : cx D (tyl cI cB cL) A RX11 cX11_due 6 (some .int) p s m args c meth) (Kx : kx ka kv fv A s s.heap) (Xc : ∀ x ∈ c.exceptionTable.toList, False) (hfl : l.stackTraces = false) (hR : 7 ≤ R.frames ∧ 180 ≤ R.locals) {z : Xr × Sg} {dt pf : Nat} (hC : R.cells = 2 + dt ∧ R.slots = 6 * 2 + 2 * dt) (u : Sg) {K33 : Int32 → Int32 → Int32 → Sg → Nat → Option (Xr × Sg × Nat)} (hK33 : ∀ (y3 : Int32) (y4 : Int32) (y5 : Int32) (v : Sg) (pl pa a dz : Nat) (H : Heap) (locs : List Loc) (ls : Array Slot), lv_has ls 6 [(0, .ref (ad 72)), (3, .int y3), (4, .int y4), (5, .int y5)] → st D (wU cI cB ad kt p0 l0 pa pl) A s v H locs → dt = a + dz → pf = pl + dz → K33 y3 y4 y5 v pl = some (z.1, z.2, dz) → W p l e R s m args below meth c H locs (2 + a) (6 * 2 + 2 * a) (vx_MQ below (qYI D (tyl cI cB cL) (wU cI cB ad kt p0 l0) pf A z) (xY D (tyl cI cB cL) (wU cI cB ad kt p0 l0) pf A z) args s (2 + dt) (6 * 2 + 2 * dt) A) (F0 m 33 ls [])) (x3 : Int32) (x5 : Int32) {pl pa a dz : Nat} {H : Heap} {locs : List Loc} {ls : Array Slot} (hl : lv_has ls 6 [(0, .ref (ad 72)), (3, .int x3), (5, .int x5)]) (S : st D (wU cI cB ad kt p0 l0 pa pl) A s u H locs) (ha : dt = a + dz) (hpf : pf = pl + dz) (h : fX11_due_98 l0 K33 x3 x5 u pl = some (z.1, z.2, dz)) : W p l e R s m args below meth c H locs (2 + a) (6 * 2 + 2 * a) (vx_MQ below (qYI D (tyl cI cB cL) (wU cI cB ad kt p0 l0) pf A z) (xY D (tyl cI cB cL) (wU cI cB ad kt p0 l0) pf A z) args s (2 + dt) (6 * 2 + 2 * dt) A) (F0 m 98 ls []) := by
  have hx := C.1
  have hb := C.2.1
  have hsz := hl.1
  unfold fX11_due_98 at h
  refine lv_iconst (v := 1) hx hb dX11_due_98 (by decide) ?_
  refine lv_goto (tgt := 103) hx hb dX11_due_99 (by decide) ?_
  exact wX11_due_103 C Kx Xc hfl hR hC u hK33 x3 x5 1 (lv_sub hl [0, 1, 2] rfl) S ha hpf h
set_option maxRecDepth 10000 in
set_option maxHeartbeats 4000000 in
theorem wX11_due_33 (C : cx D (tyl cI cB cL) A RX11 cX11_due 6 (some .int) p s m args c meth) (Kx : kx ka kv fv A s s.heap) (Xc : ∀ x ∈ c.exceptionTable.toList, False) (hfl : l.stackTraces = false) (hR : 7 ≤ R.frames ∧ 180 ≤ R.locals) {z : Xr × Sg} {dt pf : Nat} (hC : R.cells = 2 + dt ∧ R.slots = 6 * 2 + 2 * dt) : ∀ (n : Nat) (x3 : Int32) (x4 : Int32) (x5 : Int32) (u : Sg) (pl pa a dz : Nat) (H : Heap) (locs : List Loc) (ls : Array Slot), lv_has ls 6 [(0, .ref (ad 72)), (3, .int x3), (4, .int x4), (5, .int x5)] → st D (wU cI cB ad kt p0 l0 pa pl) A s u H locs → dt = a + dz → pf = pl + dz → fX11_due_33 l0 n x3 x4 x5 u pl = some (z.1, z.2, dz) → W p l e R s m args below meth c H locs (2 + a) (6 * 2 + 2 * a) (vx_MQ below (qYI D (tyl cI cB cL) (wU cI cB ad kt p0 l0) pf A z) (xY D (tyl cI cB cL) (wU cI cB ad kt p0 l0) pf A z) args s (2 + dt) (6 * 2 + 2 * dt) A) (F0 m 33 ls []) := by
  have hx := C.1
  have hb := C.2.1
  intro n
  induction n with
  | zero =>
    intro x3 x4 x5 u pl pa a dz H locs ls hl S ha hpf h
    cases h
  | succ n ih =>
    intro x3 x4 x5 u pl pa a dz H locs ls hl S ha hpf h
    rw [fX11_due_33] at h
    have hsz := hl.1
    refine lv_iload hx hb dX11_due_33 (lv_at hl 3 rfl) ?_
    refine lv_bipush (v := 120) hx hb dX11_due_35 (by decide) ?_
    refine lv_icmp_gt (tgt := 111) hx hb dX11_due_37 (by decide) (fun c18 => ?_) (fun c18 => ?_)
    · have h := cnd_t c18 h
      refine lv_iconst (v := (-1)) hx hb dX11_due_111 (by decide) ?_
      exact y_iret C S h ha hpf (K := 2) (k := 2) (Nat.le_of_ble_eq_true rfl) dX11_due_112
    · have h := cnd_f c18 h
      refine lv_aload_n hx hb dX11_due_40 rfl (lv_at hl 0 rfl) ?_
      refine q_get (v := .ref (ad 36)) C S (oU72 cI cB ad kt p0 l0 pa pl) rfl iwX11 5 (by decide) mw_892 rfl dX11_due_41 ?_
      refine q_get (v := .ref (ad 55)) C S (oU36 cI cB ad kt p0 l0 pa pl) rfl iwX7 15 (by decide) mw_781 rfl dX11_due_44 ?_
      refine q_get (v := .ref (ad 56)) C S (oU55 cI cB ad kt p0 l0 pa pl) rfl iwX4 0 (by decide) mw_815 rfl dX11_due_47 ?_
      refine lv_iload_n hx hb dX11_due_50 rfl (lv_at hl 1 rfl) ?_
      obtain ⟨g19, h⟩ := grd_some h
      refine q_iald C S (aU56 cI cB ad kt p0 l0 pa pl) 0 rfl g19 dX11_due_51 (j := (x3 : Int32).toNatClampNeg) rfl ?_
      refine lv_iconst (v := 3) hx hb dX11_due_52 (by decide) ?_
      refine lv_icmp_ne (tgt := 59) hx hb dX11_due_53 (by decide) (fun c20 => ?_) (fun c20 => ?_)
      · have h := cnd_f c20 h
        refine lv_iload hx hb dX11_due_59 (lv_at hl 2 rfl) ?_
        refine lv_if_ne (tgt := 66) hx hb dX11_due_61 (by decide) (fun c21 => ?_) (fun c21 => ?_)
        · have h := cnd_f c21 h
          refine lv_aload_n hx hb dX11_due_66 rfl (lv_at hl 0 rfl) ?_
          refine q_get (v := .ref (ad 36)) C S (oU72 cI cB ad kt p0 l0 pa pl) rfl iwX11 5 (by decide) mw_892 rfl dX11_due_67 ?_
          obtain ⟨r23, h22, h⟩ := obr_some h
          refine s_callViR (spl_UN cI cB ad kt p0 l0) (As := []) (na := 0) C S (oN0 cI (adUN ad) pa pl) rfl (ct_X7_canStir l D cI cB cL (adUN ad) pa pl (sbUN u) h22) mw_897 mw_562 mw_564 mw_341 mw_561 hdX7_canStir ⟨Nat.le_trans (Nat.le_of_ble_eq_true rfl) hR.1, Nat.le_trans (Nat.le_of_ble_eq_true rfl) hR.2⟩ rfl hsz (capY (K := 2) hC ha (Nat.le_of_ble_eq_true rfl)) (Nat.le_of_ble_eq_true rfl) dX11_due_70 rfl (fun H locs S => ?_)
          refine lv_istore (lv' := [(4, .int r23), (0, .ref (ad 72)), (3, .int x3), (5, .int x5)]) hx hb dX11_due_73 hl (by decide) rfl (fun ls hl => ?_)
          have hsz := hl.1
          refine lv_aload_n hx hb dX11_due_75 rfl (lv_at hl 1 rfl) ?_
          refine q_get (v := .ref (ad 36)) C S (oU72 cI cB ad kt p0 l0 pa pl) rfl iwX11 5 (by decide) mw_892 rfl dX11_due_76 ?_
          obtain ⟨r30, u25, d27, h24, h⟩ := obt_some h
          obtain ⟨u26, eu26⟩ : ∃ z : Sg, z = ubUN u u25 := ⟨_, rfl⟩
          have h := bnd_of eu26 h
          obtain ⟨dz28, h, edz28⟩ := addY_some h
          have ha29 : dt = (a + d27) + dz28 := by omega
          have hpf29 : pf = (pl + d27) + dz28 := by omega
          refine s_callViA (spl_UN cI cB ad kt p0 l0) (As := []) (na := 0) C S (oN0 cI (adUN ad) pa pl) rfl (ct_X7_passOn l D cI cB cL (adUN ad) (sbUN u) pl h24) mw_898 mw_566 mw_568 mw_341 mw_565 hdX7_passOn ⟨Nat.le_trans (Nat.le_of_ble_eq_true rfl) hR.1, Nat.le_trans (Nat.le_of_ble_eq_true rfl) hR.2⟩ rfl hsz (by have hq := capY (K := 2) hC ha29 (Nat.le_of_ble_eq_true rfl); exact ⟨by omega, by omega⟩) (Nat.le_of_ble_eq_true rfl) dX11_due_79 rfl (fun pa29 H locs S => ?_)
          rw [← eu26] at S
          refine W.widen (k := 2 + (a + d27)) (n := 6 * 2 + 2 * (a + d27)) (by omega) (by omega) ?_
          refine lv_pop hx hb dX11_due_82 rfl ?_
          refine lv_iload hx hb dX11_due_83 (lv_at hl 0 rfl) ?_
          refine lv_if_ne (tgt := 98) hx hb dX11_due_85 (by decide) (fun c31 => ?_) (fun c31 => ?_)
          · have h := cnd_f c31 h
            exact wX11_due_98 C Kx Xc hfl hR hC u26 ih x3 x5 (lv_sub hl [1, 2, 3] rfl) S ha29 hpf29 h
          · have h := cnd_t c31 h
            refine lv_aload_n hx hb dX11_due_88 rfl (lv_at hl 1 rfl) ?_
            refine q_get (v := .ref (ad 36)) C S (oU72 cI cB ad kt p0 l0 pa29 (pl + d27)) rfl iwX11 5 (by decide) mw_892 rfl dX11_due_89 ?_
            refine q_get (v := .int (u26 36 8)) C S (oU36 cI cB ad kt p0 l0 pa29 (pl + d27)) rfl iwX7 8 (by decide) mw_899 rfl dX11_due_92 ?_
            refine lv_if_eq (tgt := 102) hx hb dX11_due_95 (by decide) (fun c33 => ?_) (fun c33 => ?_)
            · have h := cnd_t c33 h
              refine lv_iconst (v := 0) hx hb dX11_due_102 (by decide) ?_
              exact wX11_due_103 C Kx Xc hfl hR hC u26 ih x3 x5 0 (lv_sub hl [1, 2, 3] rfl) S ha29 hpf29 h
            · have h := cnd_f c33 h
              exact wX11_due_98 C Kx Xc hfl hR hC u26 ih x3 x5 (lv_sub hl [1, 2, 3] rfl) S ha29 hpf29 h
        · have h := cnd_t c21 h
          refine lv_iconst (v := (-1)) hx hb dX11_due_64 (by decide) ?_
          exact y_iret C S h ha hpf (K := 2) (k := 2) (Nat.le_of_ble_eq_true rfl) dX11_due_65
      · have h := cnd_t c20 h
        refine lv_iload hx hb dX11_due_56 (lv_at hl 3 rfl) ?_
        exact y_iret C S h ha hpf (K := 2) (k := 2) (Nat.le_of_ble_eq_true rfl) dX11_due_58
set_option maxRecDepth 10000 in
set_option maxHeartbeats 4000000 in
theorem wX11_due_0 (C : cx D (tyl cI cB cL) A RX11 cX11_due 6 (some .int) p s m args c meth) (Kx : kx ka kv fv A s s.heap) (Xc : ∀ x ∈ c.exceptionTable.toList, False) (hfl : l.stackTraces = false) (hR : 7 ≤ R.frames ∧ 180 ≤ R.locals) {z : Xr × Sg} {dt pf : Nat} (hC : R.cells = 2 + dt ∧ R.slots = 6 * 2 + 2 * dt) (u : Sg) (x1 : Int32) (x2 : Int32) {pl pa a dz : Nat} {H : Heap} {locs : List Loc} {ls : Array Slot} (hl : lv_has ls 6 [(0, .ref (ad 72)), (1, .int x1), (2, .int x2)]) (S : st D (wU cI cB ad kt p0 l0 pa pl) A s u H locs) (ha : dt = a + dz) (hpf : pf = pl + dz) (h : fX11_due_0 l0 x1 x2 u pl = some (z.1, z.2, dz)) : W p l e R s m args below meth c H locs (0 + a) (6 * 0 + 2 * a) (vx_MQ below (qYI D (tyl cI cB cL) (wU cI cB ad kt p0 l0) pf A z) (xY D (tyl cI cB cL) (wU cI cB ad kt p0 l0) pf A z) args s (2 + dt) (6 * 2 + 2 * dt) A) (F0 m 0 ls []) := by
  have hx := C.1
  have hb := C.2.1
  have hsz := hl.1
  unfold fX11_due_0 at h
  refine lv_aload_n hx hb dX11_due_0 rfl (lv_at hl 0 rfl) ?_
  refine lv_iload_n hx hb dX11_due_1 rfl (lv_at hl 1 rfl) ?_
  obtain ⟨z2, k5, ek5, h3, h1⟩ := obxY_some h
  refine y_callVv (wf := (wU cI cB ad kt p0 l0)) (pa := pa) (pl := pl) (p0 := 0) (l0 := 0) (K := 0) (k := 2) (spl_UT cI cB ad kt p0 l0 pa pl) (As := [.int x1]) (na := 1) C Kx Xc S rfl (oT36 cI cB (adUT ad) (ad 36) kt p0 l0) rfl (ct_X11_needNode l hfl D cI cB cL ka kv fv (adUT ad) (ad 36) kt p0 l0 x1 (sbUT u) h3) h1 mw_778 mw_779 mw_780 mw_321 mw_777 hdX11_needNode ⟨Nat.le_trans (Nat.le_of_ble_eq_true rfl) hR.1, Nat.le_trans (Nat.le_of_ble_eq_true rfl) hR.2⟩ rfl hsz hC ha hpf (Nat.le_of_ble_eq_true rfl) (Nat.le_of_ble_eq_true rfl) dX11_due_2 rfl (fun u4 H locs h S => ?_)
  have h := app_of ek5 h
  refine W.widen (k := 1 + a) (n := 6 * 1 + 2 * a) (Nat.le_refl _) (Nat.le_refl _) ?_
  refine lv_aload_n hx hb dX11_due_5 rfl (lv_at hl 0 rfl) ?_
  refine lv_iload_n hx hb dX11_due_6 rfl (lv_at hl 2 rfl) ?_
  obtain ⟨z7, k10, ek10, h8, h6⟩ := obxY_some h
  refine y_callVv (wf := (wU cI cB ad kt p0 l0)) (pa := pa) (pl := pl) (p0 := 0) (l0 := 0) (K := 1) (k := 2) (spl_UT cI cB ad kt p0 l0 pa pl) (As := [.int x2]) (na := 1) C Kx Xc S rfl (oT36 cI cB (adUT ad) (ad 36) kt p0 l0) rfl (ct_X11_needMessage l hfl D cI cB cL ka kv fv (adUT ad) (ad 36) kt p0 l0 x2 (sbUT u4) h8) h6 mw_791 mw_792 mw_793 mw_321 mw_790 hdX11_needMessage ⟨Nat.le_trans (Nat.le_of_ble_eq_true rfl) hR.1, Nat.le_trans (Nat.le_of_ble_eq_true rfl) hR.2⟩ rfl hsz hC ha hpf (Nat.le_of_ble_eq_true rfl) (Nat.le_of_ble_eq_true rfl) dX11_due_7 rfl (fun u9 H locs h S => ?_)
  have h := app_of ek10 h
  refine W.widen (k := 2 + a) (n := 6 * 2 + 2 * a) (Nat.le_refl _) (Nat.le_refl _) ?_
  refine lv_iload_n hx hb dX11_due_10 rfl (lv_at hl 1 rfl) ?_
  refine lv_iload_n hx hb dX11_due_11 rfl (lv_at hl 2 rfl) ?_
  refine q_callP (As := [.int x1, .int x2]) (na := 2) C S (ct_X11_spotOf l D cI cB cL x1 x2) mw_784 mw_322 mw_321 mw_320 hdX11_spotOf ⟨Nat.le_trans (Nat.le_of_ble_eq_true rfl) hR.1, Nat.le_trans (Nat.le_of_ble_eq_true rfl) hR.2⟩ rfl hsz (capY (K := 2) hC ha (Nat.le_of_ble_eq_true rfl)) (Nat.le_of_ble_eq_true rfl) dX11_due_12 rfl (fun H locs S => ?_)
  refine lv_topi (fun v11 ev11 => ?_)
  have h := bnd_of ev11 h
  refine lv_istore_n (lv' := [(3, .int v11), (0, .ref (ad 72)), (1, .int x1), (2, .int x2)]) hx hb dX11_due_15 rfl hl (by decide) rfl (fun ls hl => ?_)
  have hsz := hl.1
  refine lv_aload_n hx hb dX11_due_16 rfl (lv_at hl 1 rfl) ?_
  refine q_get (v := .ref (ad 36)) C S (oU72 cI cB ad kt p0 l0 pa pl) rfl iwX11 5 (by decide) mw_892 rfl dX11_due_17 ?_
  refine lv_aload_n hx hb dX11_due_20 rfl (lv_at hl 1 rfl) ?_
  refine q_get (v := .ref (ad 0)) C S (oU72 cI cB ad kt p0 l0 pa pl) rfl iwX11 4 (by decide) mw_767 rfl dX11_due_21 ?_
  obtain ⟨u13, d15, h12, h⟩ := obd_some h
  obtain ⟨u14, eu14⟩ : ∃ z : Sg, z = ubU2 u9 u13 := ⟨_, rfl⟩
  have h := bnd_of eu14 h
  obtain ⟨dz16, h, edz16⟩ := addY_some h
  have ha17 : dt = (a + d15) + dz16 := by omega
  have hpf17 : pf = (pl + d15) + dz16 := by omega
  refine s_callVvA (spl_U2 cI cB ad kt p0 l0) (As := [.ref (adU2 ad 36)]) (na := 1) C S (o20 cI (adU2 ad) p0 l0 pa pl) rfl (ct_X7_lookFrom l D cI cB cL (adU2 ad) p0 l0 (sbU2 u9) pl h12) mw_894 mw_895 mw_896 mw_341 mw_893 hdX7_lookFrom ⟨Nat.le_trans (Nat.le_of_ble_eq_true rfl) hR.1, Nat.le_trans (Nat.le_of_ble_eq_true rfl) hR.2⟩ rfl hsz (by have hq := capY (K := 2) hC ha17 (Nat.le_of_ble_eq_true rfl); exact ⟨by omega, by omega⟩) (Nat.le_of_ble_eq_true rfl) dX11_due_24 rfl (fun pa17 H locs S => ?_)
  rw [← eu14] at S
  refine W.widen (k := 2 + (a + d15)) (n := 6 * 2 + 2 * (a + d15)) (by omega) (by omega) ?_
  refine lv_iconst (v := 1) hx hb dX11_due_27 (by decide) ?_
  refine lv_istore (lv' := [(4, .int 1), (3, .int v11), (0, .ref (ad 72)), (1, .int x1), (2, .int x2)]) hx hb dX11_due_28 hl (by decide) rfl (fun ls hl => ?_)
  have hsz := hl.1
  refine lv_iconst (v := 0) hx hb dX11_due_30 (by decide) ?_
  refine lv_istore (lv' := [(5, .int 0), (4, .int 1), (3, .int v11), (0, .ref (ad 72)), (1, .int x1), (2, .int x2)]) hx hb dX11_due_31 hl (by decide) rfl (fun ls hl => ?_)
  have hsz := hl.1
  exact wX11_due_33 C Kx Xc hfl hR hC FU v11 1 0 u14 (pl + d15) pa17 (a + d15) dz16 H locs ls (lv_sub hl [3, 2, 1, 0] rfl) S ha17 hpf17 h
set_option maxRecDepth 10000 in
set_option maxHeartbeats 4000000 in
theorem ct_X11_due (l : Launch) (hfl : l.stackTraces = false) (D : va_G) (cI cB cL : ClassId) (ka kv : Nat → Nat) (fv : Value) (ad : Nat → Nat) (kt p0 l0 : Nat) (x1 : Int32) (x2 : Int32) (u : Sg) (pl : Nat) {z : Xr × Sg} {dz : Nat} (h : fX11_due l0 x1 x2 u pl = some (z.1, z.2, dz)) : metYI l D (tyl cI cB cL) ka kv fv yX11_due cX11_due 6 (some .int) 7 180 2 (wU cI cB ad kt p0 l0) [.ref (ad 72), .int x1, .int x2] u pl z dz := by
  intro pa sz
  refine vx_ofW (cc := cX11_due) (maxL := 6) (ret := (some .int)) (by decide) rfl ?_
  intro p e s m args below meth c s₁ B hml Xc hv
  obtain ⟨rfl, C, S, Kx⟩ := q_entryK B hml hv
  have hl := lv_entry ([.ref (ad 72), .int x1, .int x2]) (n := 6) (Nat.le_of_ble_eq_true rfl)
  rw [lg_entry_eq]
  generalize (lg_sl ([.ref (ad 72), .int x1, .int x2]) ++ List.replicate (6 - (lg_sl ([.ref (ad 72), .int x1, .int x2])).length) Slot.unset).toArray = ls at hl ⊢
  exact wX11_due_0 C Kx Xc hfl ⟨Nat.le_refl _, Nat.le_refl _⟩ ⟨rfl, rfl⟩ u x1 x2 (a := 0) (lv_sub hl [0, 1, 2] rfl) S (Nat.zero_add _).symm rfl h
noncomputable def fX11_after_0 (l0 : Nat) (x1 : Int32) (x2 : Int32) (u : Sg) (pl : Nat) : Option (Xr × Sg × Nat) := obxY (fX11_needNode x1 (sbUT u)) (ubUT u) (fun u4 => obxY (fX11_needMessage x2 (sbUT u4)) (ubUT u4) (fun u9 => obd (fX7_lookFrom l0 (sbU2 u9) pl) (fun u12 d14 => bnd (ubU2 u9 u12) (fun u13 => addY d14 (obr (fX7_goDown x1 (sbUN u13)) (fun u18 => bnd (ubUN u13 u18) (fun u19 => obd (fX7_passFar (sbUN u19) (pl + d14)) (fun u21 d23 => bnd (ubUN u19 u21) (fun u22 => addY d23 (obr (fX0_deliveredBy x2 (sbUN u22)) (fun r27 => grd (vp_in x2 20) (obr (fX7_upNodes (sbUN u22)) (fun r30 => some (.inl ((r27 &&& (u22 51 ((x2 : Int32).toNatClampNeg))) &&& r30), u22, 0))))))))))))))
noncomputable def fX11_after (l0 : Nat) (x1 : Int32) (x2 : Int32) (u : Sg) (pl : Nat) : Option (Xr × Sg × Nat) := fX11_after_0 l0 x1 x2 u pl
set_option maxRecDepth 10000 in
set_option maxHeartbeats 4000000 in
theorem wX11_after_0 (C : cx D (tyl cI cB cL) A RX11 cX11_after 3 (some .int) p s m args c meth) (Kx : kx ka kv fv A s s.heap) (Xc : ∀ x ∈ c.exceptionTable.toList, False) (hfl : l.stackTraces = false) (hR : 8 ≤ R.frames ∧ 203 ≤ R.locals) {z : Xr × Sg} {dt pf : Nat} (hC : R.cells = 2 + dt ∧ R.slots = 6 * 2 + 2 * dt) (u : Sg) (x1 : Int32) (x2 : Int32) {pl pa a dz : Nat} {H : Heap} {locs : List Loc} {ls : Array Slot} (hl : lv_has ls 3 [(0, .ref (ad 72)), (1, .int x1), (2, .int x2)]) (S : st D (wU cI cB ad kt p0 l0 pa pl) A s u H locs) (ha : dt = a + dz) (hpf : pf = pl + dz) (h : fX11_after_0 l0 x1 x2 u pl = some (z.1, z.2, dz)) : W p l e R s m args below meth c H locs (0 + a) (6 * 0 + 2 * a) (vx_MQ below (qYI D (tyl cI cB cL) (wU cI cB ad kt p0 l0) pf A z) (xY D (tyl cI cB cL) (wU cI cB ad kt p0 l0) pf A z) args s (2 + dt) (6 * 2 + 2 * dt) A) (F0 m 0 ls []) := by
  have hx := C.1
  have hb := C.2.1
  have hsz := hl.1
  unfold fX11_after_0 at h
  refine lv_aload_n hx hb dX11_after_0 rfl (lv_at hl 0 rfl) ?_
  refine lv_iload_n hx hb dX11_after_1 rfl (lv_at hl 1 rfl) ?_
  obtain ⟨z2, k5, ek5, h3, h1⟩ := obxY_some h
  refine y_callVv (wf := (wU cI cB ad kt p0 l0)) (pa := pa) (pl := pl) (p0 := 0) (l0 := 0) (K := 0) (k := 2) (spl_UT cI cB ad kt p0 l0 pa pl) (As := [.int x1]) (na := 1) C Kx Xc S rfl (oT36 cI cB (adUT ad) (ad 36) kt p0 l0) rfl (ct_X11_needNode l hfl D cI cB cL ka kv fv (adUT ad) (ad 36) kt p0 l0 x1 (sbUT u) h3) h1 mw_778 mw_779 mw_780 mw_321 mw_777 hdX11_needNode ⟨Nat.le_trans (Nat.le_of_ble_eq_true rfl) hR.1, Nat.le_trans (Nat.le_of_ble_eq_true rfl) hR.2⟩ rfl hsz hC ha hpf (Nat.le_of_ble_eq_true rfl) (Nat.le_of_ble_eq_true rfl) dX11_after_2 rfl (fun u4 H locs h S => ?_)
  have h := app_of ek5 h
  refine W.widen (k := 1 + a) (n := 6 * 1 + 2 * a) (Nat.le_refl _) (Nat.le_refl _) ?_
  refine lv_aload_n hx hb dX11_after_5 rfl (lv_at hl 0 rfl) ?_
  refine lv_iload_n hx hb dX11_after_6 rfl (lv_at hl 2 rfl) ?_
  obtain ⟨z7, k10, ek10, h8, h6⟩ := obxY_some h
  refine y_callVv (wf := (wU cI cB ad kt p0 l0)) (pa := pa) (pl := pl) (p0 := 0) (l0 := 0) (K := 1) (k := 2) (spl_UT cI cB ad kt p0 l0 pa pl) (As := [.int x2]) (na := 1) C Kx Xc S rfl (oT36 cI cB (adUT ad) (ad 36) kt p0 l0) rfl (ct_X11_needMessage l hfl D cI cB cL ka kv fv (adUT ad) (ad 36) kt p0 l0 x2 (sbUT u4) h8) h6 mw_791 mw_792 mw_793 mw_321 mw_790 hdX11_needMessage ⟨Nat.le_trans (Nat.le_of_ble_eq_true rfl) hR.1, Nat.le_trans (Nat.le_of_ble_eq_true rfl) hR.2⟩ rfl hsz hC ha hpf (Nat.le_of_ble_eq_true rfl) (Nat.le_of_ble_eq_true rfl) dX11_after_7 rfl (fun u9 H locs h S => ?_)
  have h := app_of ek10 h
  refine W.widen (k := 2 + a) (n := 6 * 2 + 2 * a) (Nat.le_refl _) (Nat.le_refl _) ?_
  refine lv_aload_n hx hb dX11_after_10 rfl (lv_at hl 0 rfl) ?_
  refine q_get (v := .ref (ad 36)) C S (oU72 cI cB ad kt p0 l0 pa pl) rfl iwX11 5 (by decide) mw_892 rfl dX11_after_11 ?_
  refine lv_aload_n hx hb dX11_after_14 rfl (lv_at hl 0 rfl) ?_
  refine q_get (v := .ref (ad 0)) C S (oU72 cI cB ad kt p0 l0 pa pl) rfl iwX11 4 (by decide) mw_767 rfl dX11_after_15 ?_
  obtain ⟨u12, d14, h11, h⟩ := obd_some h
  obtain ⟨u13, eu13⟩ : ∃ z : Sg, z = ubU2 u9 u12 := ⟨_, rfl⟩
  have h := bnd_of eu13 h
  obtain ⟨dz15, h, edz15⟩ := addY_some h
  have ha16 : dt = (a + d14) + dz15 := by omega
  have hpf16 : pf = (pl + d14) + dz15 := by omega
  refine s_callVvA (spl_U2 cI cB ad kt p0 l0) (As := [.ref (adU2 ad 36)]) (na := 1) C S (o20 cI (adU2 ad) p0 l0 pa pl) rfl (ct_X7_lookFrom l D cI cB cL (adU2 ad) p0 l0 (sbU2 u9) pl h11) mw_894 mw_895 mw_896 mw_341 mw_893 hdX7_lookFrom ⟨Nat.le_trans (Nat.le_of_ble_eq_true rfl) hR.1, Nat.le_trans (Nat.le_of_ble_eq_true rfl) hR.2⟩ rfl hsz (by have hq := capY (K := 2) hC ha16 (Nat.le_of_ble_eq_true rfl); exact ⟨by omega, by omega⟩) (Nat.le_of_ble_eq_true rfl) dX11_after_18 rfl (fun pa16 H locs S => ?_)
  rw [← eu13] at S
  refine W.widen (k := 2 + (a + d14)) (n := 6 * 2 + 2 * (a + d14)) (by omega) (by omega) ?_
  refine lv_aload_n hx hb dX11_after_21 rfl (lv_at hl 0 rfl) ?_
  refine q_get (v := .ref (ad 36)) C S (oU72 cI cB ad kt p0 l0 pa16 (pl + d14)) rfl iwX11 5 (by decide) mw_892 rfl dX11_after_22 ?_
  refine lv_iload_n hx hb dX11_after_25 rfl (lv_at hl 1 rfl) ?_
  obtain ⟨u18, h17, h⟩ := obr_some h
  obtain ⟨u19, eu19⟩ : ∃ z : Sg, z = ubUN u13 u18 := ⟨_, rfl⟩
  have h := bnd_of eu19 h
  refine s_callVv (spl_UN cI cB ad kt p0 l0) (As := [.int x1]) (na := 1) C S (oN0 cI (adUN ad) pa16 (pl + d14)) rfl (ct_X7_goDown l D cI cB cL (adUN ad) pa16 (pl + d14) x1 (sbUN u13) h17) mw_786 mw_594 mw_596 mw_341 mw_593 hdX7_goDown ⟨Nat.le_trans (Nat.le_of_ble_eq_true rfl) hR.1, Nat.le_trans (Nat.le_of_ble_eq_true rfl) hR.2⟩ rfl hsz (capY (K := 2) hC ha16 (Nat.le_of_ble_eq_true rfl)) (Nat.le_of_ble_eq_true rfl) dX11_after_26 rfl (fun H locs S => ?_)
  rw [← eu19] at S
  refine lv_aload_n hx hb dX11_after_29 rfl (lv_at hl 0 rfl) ?_
  refine q_get (v := .ref (ad 36)) C S (oU72 cI cB ad kt p0 l0 pa16 (pl + d14)) rfl iwX11 5 (by decide) mw_892 rfl dX11_after_30 ?_
  obtain ⟨u21, d23, h20, h⟩ := obd_some h
  obtain ⟨u22, eu22⟩ : ∃ z : Sg, z = ubUN u19 u21 := ⟨_, rfl⟩
  have h := bnd_of eu22 h
  obtain ⟨dz24, h, edz24⟩ := addY_some h
  have ha25 : dt = ((a + d14) + d23) + dz24 := by omega
  have hpf25 : pf = ((pl + d14) + d23) + dz24 := by omega
  refine s_callVvA (spl_UN cI cB ad kt p0 l0) (As := []) (na := 0) C S (oN0 cI (adUN ad) pa16 (pl + d14)) rfl (ct_X7_passFar l D cI cB cL (adUN ad) (sbUN u19) (pl + d14) h20) mw_901 mw_902 mw_903 mw_341 mw_900 hdX7_passFar ⟨Nat.le_trans (Nat.le_of_ble_eq_true rfl) hR.1, Nat.le_trans (Nat.le_of_ble_eq_true rfl) hR.2⟩ rfl hsz (by have hq := capY (K := 2) hC ha25 (Nat.le_of_ble_eq_true rfl); exact ⟨by omega, by omega⟩) (Nat.le_of_ble_eq_true rfl) dX11_after_33 rfl (fun pa25 H locs S => ?_)
  rw [← eu22] at S
  refine W.widen (k := 2 + ((a + d14) + d23)) (n := 6 * 2 + 2 * ((a + d14) + d23)) (by omega) (by omega) ?_
  refine lv_aload_n hx hb dX11_after_36 rfl (lv_at hl 0 rfl) ?_
  refine q_get (v := .ref (ad 36)) C S (oU72 cI cB ad kt p0 l0 pa25 ((pl + d14) + d23)) rfl iwX11 5 (by decide) mw_892 rfl dX11_after_37 ?_
  refine lv_iload_n hx hb dX11_after_40 rfl (lv_at hl 2 rfl) ?_
  obtain ⟨r27, h26, h⟩ := obr_some h
  refine s_callSiR (spl_UN cI cB ad kt p0 l0) (As := [.ref (adUN ad 0), .int x2]) (na := 2) C S (ct_X0_deliveredBy l D cI cB cL (adUN ad) pa25 ((pl + d14) + d23) x2 (sbUN u22) h26) mw_852 mw_372 mw_362 mw_371 hdX0_deliveredBy ⟨Nat.le_trans (Nat.le_of_ble_eq_true rfl) hR.1, Nat.le_trans (Nat.le_of_ble_eq_true rfl) hR.2⟩ rfl hsz (capY (K := 2) hC ha25 (Nat.le_of_ble_eq_true rfl)) (Nat.le_of_ble_eq_true rfl) dX11_after_41 rfl (fun H locs S => ?_)
  refine lv_aload_n hx hb dX11_after_44 rfl (lv_at hl 0 rfl) ?_
  refine q_get (v := .ref (ad 36)) C S (oU72 cI cB ad kt p0 l0 pa25 ((pl + d14) + d23)) rfl iwX11 5 (by decide) mw_892 rfl dX11_after_45 ?_
  refine q_get (v := .ref (ad 49)) C S (oU36 cI cB ad kt p0 l0 pa25 ((pl + d14) + d23)) rfl iwX7 14 (by decide) mw_775 rfl dX11_after_48 ?_
  refine q_get (v := .ref (ad 51)) C S (oU49 cI cB ad kt p0 l0 pa25 ((pl + d14) + d23)) rfl iwX6 2 (by decide) mw_809 rfl dX11_after_51 ?_
  refine lv_iload_n hx hb dX11_after_54 rfl (lv_at hl 2 rfl) ?_
  obtain ⟨g28, h⟩ := grd_some h
  refine q_iald C S (aU51 cI cB ad kt p0 l0 pa25 ((pl + d14) + d23)) 0 rfl g28 dX11_after_55 (j := (x2 : Int32).toNatClampNeg) rfl ?_
  refine lv_iand hx hb dX11_after_56 ?_
  refine lv_aload_n hx hb dX11_after_57 rfl (lv_at hl 0 rfl) ?_
  refine q_get (v := .ref (ad 36)) C S (oU72 cI cB ad kt p0 l0 pa25 ((pl + d14) + d23)) rfl iwX11 5 (by decide) mw_892 rfl dX11_after_58 ?_
  obtain ⟨r30, h29, h⟩ := obr_some h
  refine s_callViR (spl_UN cI cB ad kt p0 l0) (As := []) (na := 0) C S (oN0 cI (adUN ad) pa25 ((pl + d14) + d23)) rfl (ct_X7_upNodes l D cI cB cL (adUN ad) pa25 ((pl + d14) + d23) (sbUN u22) h29) mw_904 mw_375 mw_377 mw_341 mw_374 hdX7_upNodes ⟨Nat.le_trans (Nat.le_of_ble_eq_true rfl) hR.1, Nat.le_trans (Nat.le_of_ble_eq_true rfl) hR.2⟩ rfl hsz (capY (K := 2) hC ha25 (Nat.le_of_ble_eq_true rfl)) (Nat.le_of_ble_eq_true rfl) dX11_after_61 rfl (fun H locs S => ?_)
  refine lv_iand hx hb dX11_after_64 ?_
  exact y_iret C S h ha25 hpf25 (K := 2) (k := 2) (Nat.le_of_ble_eq_true rfl) dX11_after_65
set_option maxRecDepth 10000 in
set_option maxHeartbeats 4000000 in
theorem ct_X11_after (l : Launch) (hfl : l.stackTraces = false) (D : va_G) (cI cB cL : ClassId) (ka kv : Nat → Nat) (fv : Value) (ad : Nat → Nat) (kt p0 l0 : Nat) (x1 : Int32) (x2 : Int32) (u : Sg) (pl : Nat) {z : Xr × Sg} {dz : Nat} (h : fX11_after l0 x1 x2 u pl = some (z.1, z.2, dz)) : metYI l D (tyl cI cB cL) ka kv fv yX11_after cX11_after 3 (some .int) 8 203 2 (wU cI cB ad kt p0 l0) [.ref (ad 72), .int x1, .int x2] u pl z dz := by
  intro pa sz
  refine vx_ofW (cc := cX11_after) (maxL := 3) (ret := (some .int)) (by decide) rfl ?_
  intro p e s m args below meth c s₁ B hml Xc hv
  obtain ⟨rfl, C, S, Kx⟩ := q_entryK B hml hv
  have hl := lv_entry ([.ref (ad 72), .int x1, .int x2]) (n := 3) (Nat.le_of_ble_eq_true rfl)
  rw [lg_entry_eq]
  generalize (lg_sl ([.ref (ad 72), .int x1, .int x2]) ++ List.replicate (3 - (lg_sl ([.ref (ad 72), .int x1, .int x2])).length) Slot.unset).toArray = ls at hl ⊢
  exact wX11_after_0 C Kx Xc hfl ⟨Nat.le_refl _, Nat.le_refl _⟩ ⟨rfl, rfl⟩ u x1 x2 (a := 0) (lv_sub hl [0, 1, 2] rfl) S (Nat.zero_add _).symm rfl h
noncomputable def fX11_first_0 (l0 : Nat) (x1 : Int32) (x2 : Int32) (u : Sg) (pl : Nat) : Option (Xr × Sg × Nat) := obxY (fX11_needMessage x1 (sbUT u)) (ubUT u) (fun u4 => obxY (fX11_needMessage x2 (sbUT u4)) (ubUT u4) (fun u9 => obxY (fX11_needTwo x1 x2 (sbUT u9)) (ubUT u9) (fun u14 => obd (fX7_lookFrom l0 (sbU2 u14) pl) (fun u17 d19 => bnd (ubU2 u14 u17) (fun u18 => addY d19 (obd (fX7_passFar (sbUN u18) (pl + d19)) (fun u23 d25 => bnd (ubUN u18 u23) (fun u24 => addY d25 (obr (fX0_firstOf x1 x2 (sbUN u24)) (fun r29 => some (.inl r29, u24, 0)))))))))))
noncomputable def fX11_first (l0 : Nat) (x1 : Int32) (x2 : Int32) (u : Sg) (pl : Nat) : Option (Xr × Sg × Nat) := fX11_first_0 l0 x1 x2 u pl
set_option maxRecDepth 10000 in
set_option maxHeartbeats 4000000 in
theorem wX11_first_0 (C : cx D (tyl cI cB cL) A RX11 cX11_first 3 (some .int) p s m args c meth) (Kx : kx ka kv fv A s s.heap) (Xc : ∀ x ∈ c.exceptionTable.toList, False) (hfl : l.stackTraces = false) (hR : 8 ≤ R.frames ∧ 203 ≤ R.locals) {z : Xr × Sg} {dt pf : Nat} (hC : R.cells = 3 + dt ∧ R.slots = 6 * 3 + 2 * dt) (u : Sg) (x1 : Int32) (x2 : Int32) {pl pa a dz : Nat} {H : Heap} {locs : List Loc} {ls : Array Slot} (hl : lv_has ls 3 [(0, .ref (ad 72)), (1, .int x1), (2, .int x2)]) (S : st D (wU cI cB ad kt p0 l0 pa pl) A s u H locs) (ha : dt = a + dz) (hpf : pf = pl + dz) (h : fX11_first_0 l0 x1 x2 u pl = some (z.1, z.2, dz)) : W p l e R s m args below meth c H locs (0 + a) (6 * 0 + 2 * a) (vx_MQ below (qYI D (tyl cI cB cL) (wU cI cB ad kt p0 l0) pf A z) (xY D (tyl cI cB cL) (wU cI cB ad kt p0 l0) pf A z) args s (3 + dt) (6 * 3 + 2 * dt) A) (F0 m 0 ls []) := by
  have hx := C.1
  have hb := C.2.1
  have hsz := hl.1
  unfold fX11_first_0 at h
  refine lv_aload_n hx hb dX11_first_0 rfl (lv_at hl 0 rfl) ?_
  refine lv_iload_n hx hb dX11_first_1 rfl (lv_at hl 1 rfl) ?_
  obtain ⟨z2, k5, ek5, h3, h1⟩ := obxY_some h
  refine y_callVv (wf := (wU cI cB ad kt p0 l0)) (pa := pa) (pl := pl) (p0 := 0) (l0 := 0) (K := 0) (k := 3) (spl_UT cI cB ad kt p0 l0 pa pl) (As := [.int x1]) (na := 1) C Kx Xc S rfl (oT36 cI cB (adUT ad) (ad 36) kt p0 l0) rfl (ct_X11_needMessage l hfl D cI cB cL ka kv fv (adUT ad) (ad 36) kt p0 l0 x1 (sbUT u) h3) h1 mw_791 mw_792 mw_793 mw_321 mw_790 hdX11_needMessage ⟨Nat.le_trans (Nat.le_of_ble_eq_true rfl) hR.1, Nat.le_trans (Nat.le_of_ble_eq_true rfl) hR.2⟩ rfl hsz hC ha hpf (Nat.le_of_ble_eq_true rfl) (Nat.le_of_ble_eq_true rfl) dX11_first_2 rfl (fun u4 H locs h S => ?_)
  have h := app_of ek5 h
  refine W.widen (k := 1 + a) (n := 6 * 1 + 2 * a) (Nat.le_refl _) (Nat.le_refl _) ?_
  refine lv_aload_n hx hb dX11_first_5 rfl (lv_at hl 0 rfl) ?_
  refine lv_iload_n hx hb dX11_first_6 rfl (lv_at hl 2 rfl) ?_
  obtain ⟨z7, k10, ek10, h8, h6⟩ := obxY_some h
  refine y_callVv (wf := (wU cI cB ad kt p0 l0)) (pa := pa) (pl := pl) (p0 := 0) (l0 := 0) (K := 1) (k := 3) (spl_UT cI cB ad kt p0 l0 pa pl) (As := [.int x2]) (na := 1) C Kx Xc S rfl (oT36 cI cB (adUT ad) (ad 36) kt p0 l0) rfl (ct_X11_needMessage l hfl D cI cB cL ka kv fv (adUT ad) (ad 36) kt p0 l0 x2 (sbUT u4) h8) h6 mw_791 mw_792 mw_793 mw_321 mw_790 hdX11_needMessage ⟨Nat.le_trans (Nat.le_of_ble_eq_true rfl) hR.1, Nat.le_trans (Nat.le_of_ble_eq_true rfl) hR.2⟩ rfl hsz hC ha hpf (Nat.le_of_ble_eq_true rfl) (Nat.le_of_ble_eq_true rfl) dX11_first_7 rfl (fun u9 H locs h S => ?_)
  have h := app_of ek10 h
  refine W.widen (k := 2 + a) (n := 6 * 2 + 2 * a) (Nat.le_refl _) (Nat.le_refl _) ?_
  refine lv_iload_n hx hb dX11_first_10 rfl (lv_at hl 1 rfl) ?_
  refine lv_iload_n hx hb dX11_first_11 rfl (lv_at hl 2 rfl) ?_
  obtain ⟨z12, k15, ek15, h13, h11⟩ := obxY_some h
  refine y_callSv (wf := (wU cI cB ad kt p0 l0)) (pa := pa) (pl := pl) (p0 := 0) (l0 := 0) (K := 2) (k := 3) (spl_UT cI cB ad kt p0 l0 pa pl) (As := [.int x1, .int x2]) (na := 2) C Kx Xc S rfl (ct_X11_needTwo l hfl D cI cB cL ka kv fv (adUT ad) (ad 36) kt p0 l0 x1 x2 (sbUT u9) h13) h11 mw_797 mw_798 mw_321 mw_796 hdX11_needTwo ⟨Nat.le_trans (Nat.le_of_ble_eq_true rfl) hR.1, Nat.le_trans (Nat.le_of_ble_eq_true rfl) hR.2⟩ rfl hsz hC ha hpf (Nat.le_of_ble_eq_true rfl) (Nat.le_of_ble_eq_true rfl) dX11_first_12 rfl (fun u14 H locs h S => ?_)
  have h := app_of ek15 h
  refine W.widen (k := 3 + a) (n := 6 * 3 + 2 * a) (Nat.le_refl _) (Nat.le_refl _) ?_
  refine lv_aload_n hx hb dX11_first_15 rfl (lv_at hl 0 rfl) ?_
  refine q_get (v := .ref (ad 36)) C S (oU72 cI cB ad kt p0 l0 pa pl) rfl iwX11 5 (by decide) mw_892 rfl dX11_first_16 ?_
  refine lv_aload_n hx hb dX11_first_19 rfl (lv_at hl 0 rfl) ?_
  refine q_get (v := .ref (ad 0)) C S (oU72 cI cB ad kt p0 l0 pa pl) rfl iwX11 4 (by decide) mw_767 rfl dX11_first_20 ?_
  obtain ⟨u17, d19, h16, h⟩ := obd_some h
  obtain ⟨u18, eu18⟩ : ∃ z : Sg, z = ubU2 u14 u17 := ⟨_, rfl⟩
  have h := bnd_of eu18 h
  obtain ⟨dz20, h, edz20⟩ := addY_some h
  have ha21 : dt = (a + d19) + dz20 := by omega
  have hpf21 : pf = (pl + d19) + dz20 := by omega
  refine s_callVvA (spl_U2 cI cB ad kt p0 l0) (As := [.ref (adU2 ad 36)]) (na := 1) C S (o20 cI (adU2 ad) p0 l0 pa pl) rfl (ct_X7_lookFrom l D cI cB cL (adU2 ad) p0 l0 (sbU2 u14) pl h16) mw_894 mw_895 mw_896 mw_341 mw_893 hdX7_lookFrom ⟨Nat.le_trans (Nat.le_of_ble_eq_true rfl) hR.1, Nat.le_trans (Nat.le_of_ble_eq_true rfl) hR.2⟩ rfl hsz (by have hq := capY (K := 3) hC ha21 (Nat.le_of_ble_eq_true rfl); exact ⟨by omega, by omega⟩) (Nat.le_of_ble_eq_true rfl) dX11_first_23 rfl (fun pa21 H locs S => ?_)
  rw [← eu18] at S
  refine W.widen (k := 3 + (a + d19)) (n := 6 * 3 + 2 * (a + d19)) (by omega) (by omega) ?_
  refine lv_aload_n hx hb dX11_first_26 rfl (lv_at hl 0 rfl) ?_
  refine q_get (v := .ref (ad 36)) C S (oU72 cI cB ad kt p0 l0 pa21 (pl + d19)) rfl iwX11 5 (by decide) mw_892 rfl dX11_first_27 ?_
  obtain ⟨u23, d25, h22, h⟩ := obd_some h
  obtain ⟨u24, eu24⟩ : ∃ z : Sg, z = ubUN u18 u23 := ⟨_, rfl⟩
  have h := bnd_of eu24 h
  obtain ⟨dz26, h, edz26⟩ := addY_some h
  have ha27 : dt = ((a + d19) + d25) + dz26 := by omega
  have hpf27 : pf = ((pl + d19) + d25) + dz26 := by omega
  refine s_callVvA (spl_UN cI cB ad kt p0 l0) (As := []) (na := 0) C S (oN0 cI (adUN ad) pa21 (pl + d19)) rfl (ct_X7_passFar l D cI cB cL (adUN ad) (sbUN u18) (pl + d19) h22) mw_901 mw_902 mw_903 mw_341 mw_900 hdX7_passFar ⟨Nat.le_trans (Nat.le_of_ble_eq_true rfl) hR.1, Nat.le_trans (Nat.le_of_ble_eq_true rfl) hR.2⟩ rfl hsz (by have hq := capY (K := 3) hC ha27 (Nat.le_of_ble_eq_true rfl); exact ⟨by omega, by omega⟩) (Nat.le_of_ble_eq_true rfl) dX11_first_30 rfl (fun pa27 H locs S => ?_)
  rw [← eu24] at S
  refine W.widen (k := 3 + ((a + d19) + d25)) (n := 6 * 3 + 2 * ((a + d19) + d25)) (by omega) (by omega) ?_
  refine lv_aload_n hx hb dX11_first_33 rfl (lv_at hl 0 rfl) ?_
  refine q_get (v := .ref (ad 36)) C S (oU72 cI cB ad kt p0 l0 pa27 ((pl + d19) + d25)) rfl iwX11 5 (by decide) mw_892 rfl dX11_first_34 ?_
  refine lv_iload_n hx hb dX11_first_37 rfl (lv_at hl 1 rfl) ?_
  refine lv_iload_n hx hb dX11_first_38 rfl (lv_at hl 2 rfl) ?_
  obtain ⟨r29, h28, h⟩ := obr_some h
  refine s_callSiR (spl_UN cI cB ad kt p0 l0) (As := [.ref (adUN ad 0), .int x1, .int x2]) (na := 3) C S (ct_X0_firstOf l D cI cB cL (adUN ad) pa27 ((pl + d19) + d25) x1 x2 (sbUN u24) h28) mw_906 mw_907 mw_362 mw_905 hdX0_firstOf ⟨Nat.le_trans (Nat.le_of_ble_eq_true rfl) hR.1, Nat.le_trans (Nat.le_of_ble_eq_true rfl) hR.2⟩ rfl hsz (capY (K := 3) hC ha27 (Nat.le_of_ble_eq_true rfl)) (Nat.le_of_ble_eq_true rfl) dX11_first_39 rfl (fun H locs S => ?_)
  exact y_iret C S h ha27 hpf27 (K := 3) (k := 3) (Nat.le_of_ble_eq_true rfl) dX11_first_42
set_option maxRecDepth 10000 in
set_option maxHeartbeats 4000000 in
theorem ct_X11_first (l : Launch) (hfl : l.stackTraces = false) (D : va_G) (cI cB cL : ClassId) (ka kv : Nat → Nat) (fv : Value) (ad : Nat → Nat) (kt p0 l0 : Nat) (x1 : Int32) (x2 : Int32) (u : Sg) (pl : Nat) {z : Xr × Sg} {dz : Nat} (h : fX11_first l0 x1 x2 u pl = some (z.1, z.2, dz)) : metYI l D (tyl cI cB cL) ka kv fv yX11_first cX11_first 3 (some .int) 8 203 3 (wU cI cB ad kt p0 l0) [.ref (ad 72), .int x1, .int x2] u pl z dz := by
  intro pa sz
  refine vx_ofW (cc := cX11_first) (maxL := 3) (ret := (some .int)) (by decide) rfl ?_
  intro p e s m args below meth c s₁ B hml Xc hv
  obtain ⟨rfl, C, S, Kx⟩ := q_entryK B hml hv
  have hl := lv_entry ([.ref (ad 72), .int x1, .int x2]) (n := 3) (Nat.le_of_ble_eq_true rfl)
  rw [lg_entry_eq]
  generalize (lg_sl ([.ref (ad 72), .int x1, .int x2]) ++ List.replicate (3 - (lg_sl ([.ref (ad 72), .int x1, .int x2])).length) Slot.unset).toArray = ls at hl ⊢
  exact wX11_first_0 C Kx Xc hfl ⟨Nat.le_refl _, Nat.le_refl _⟩ ⟨rfl, rfl⟩ u x1 x2 (a := 0) (lv_sub hl [0, 1, 2] rfl) S (Nat.zero_add _).symm rfl h
noncomputable def fX11_takes_0 (l0 : Nat) (x1 : Int32) (u : Sg) (pl : Nat) : Option (Xr × Sg × Nat) := obxY (fX11_needNode x1 (sbUT u)) (ubUT u) (fun u4 => obd (fX7_lookFrom l0 (sbU2 u4) pl) (fun u7 d9 => bnd (ubU2 u4 u7) (fun u8 => addY d9 (obr (fX7_goDown x1 (sbUN u8)) (fun u13 => bnd (ubUN u8 u13) (fun u14 => obd (fX7_passFar (sbUN u14) (pl + d9)) (fun u16 d18 => bnd (ubUN u14 u16) (fun u17 => addY d18 (some (.inl (u17 36 7), u17, 0))))))))))
noncomputable def fX11_takes (l0 : Nat) (x1 : Int32) (u : Sg) (pl : Nat) : Option (Xr × Sg × Nat) := fX11_takes_0 l0 x1 u pl
set_option maxRecDepth 10000 in
set_option maxHeartbeats 4000000 in
theorem wX11_takes_0 (C : cx D (tyl cI cB cL) A RX11 cX11_takes 2 (some .int) p s m args c meth) (Kx : kx ka kv fv A s s.heap) (Xc : ∀ x ∈ c.exceptionTable.toList, False) (hfl : l.stackTraces = false) (hR : 8 ≤ R.frames ∧ 203 ≤ R.locals) {z : Xr × Sg} {dt pf : Nat} (hC : R.cells = 1 + dt ∧ R.slots = 6 * 1 + 2 * dt) (u : Sg) (x1 : Int32) {pl pa a dz : Nat} {H : Heap} {locs : List Loc} {ls : Array Slot} (hl : lv_has ls 2 [(0, .ref (ad 72)), (1, .int x1)]) (S : st D (wU cI cB ad kt p0 l0 pa pl) A s u H locs) (ha : dt = a + dz) (hpf : pf = pl + dz) (h : fX11_takes_0 l0 x1 u pl = some (z.1, z.2, dz)) : W p l e R s m args below meth c H locs (0 + a) (6 * 0 + 2 * a) (vx_MQ below (qYI D (tyl cI cB cL) (wU cI cB ad kt p0 l0) pf A z) (xY D (tyl cI cB cL) (wU cI cB ad kt p0 l0) pf A z) args s (1 + dt) (6 * 1 + 2 * dt) A) (F0 m 0 ls []) := by
  have hx := C.1
  have hb := C.2.1
  have hsz := hl.1
  unfold fX11_takes_0 at h
  refine lv_aload_n hx hb dX11_takes_0 rfl (lv_at hl 0 rfl) ?_
  refine lv_iload_n hx hb dX11_takes_1 rfl (lv_at hl 1 rfl) ?_
  obtain ⟨z2, k5, ek5, h3, h1⟩ := obxY_some h
  refine y_callVv (wf := (wU cI cB ad kt p0 l0)) (pa := pa) (pl := pl) (p0 := 0) (l0 := 0) (K := 0) (k := 1) (spl_UT cI cB ad kt p0 l0 pa pl) (As := [.int x1]) (na := 1) C Kx Xc S rfl (oT36 cI cB (adUT ad) (ad 36) kt p0 l0) rfl (ct_X11_needNode l hfl D cI cB cL ka kv fv (adUT ad) (ad 36) kt p0 l0 x1 (sbUT u) h3) h1 mw_778 mw_779 mw_780 mw_321 mw_777 hdX11_needNode ⟨Nat.le_trans (Nat.le_of_ble_eq_true rfl) hR.1, Nat.le_trans (Nat.le_of_ble_eq_true rfl) hR.2⟩ rfl hsz hC ha hpf (Nat.le_of_ble_eq_true rfl) (Nat.le_of_ble_eq_true rfl) dX11_takes_2 rfl (fun u4 H locs h S => ?_)
  have h := app_of ek5 h
  refine W.widen (k := 1 + a) (n := 6 * 1 + 2 * a) (Nat.le_refl _) (Nat.le_refl _) ?_
  refine lv_aload_n hx hb dX11_takes_5 rfl (lv_at hl 0 rfl) ?_
  refine q_get (v := .ref (ad 36)) C S (oU72 cI cB ad kt p0 l0 pa pl) rfl iwX11 5 (by decide) mw_892 rfl dX11_takes_6 ?_
  refine lv_aload_n hx hb dX11_takes_9 rfl (lv_at hl 0 rfl) ?_
  refine q_get (v := .ref (ad 0)) C S (oU72 cI cB ad kt p0 l0 pa pl) rfl iwX11 4 (by decide) mw_767 rfl dX11_takes_10 ?_
  obtain ⟨u7, d9, h6, h⟩ := obd_some h
  obtain ⟨u8, eu8⟩ : ∃ z : Sg, z = ubU2 u4 u7 := ⟨_, rfl⟩
  have h := bnd_of eu8 h
  obtain ⟨dz10, h, edz10⟩ := addY_some h
  have ha11 : dt = (a + d9) + dz10 := by omega
  have hpf11 : pf = (pl + d9) + dz10 := by omega
  refine s_callVvA (spl_U2 cI cB ad kt p0 l0) (As := [.ref (adU2 ad 36)]) (na := 1) C S (o20 cI (adU2 ad) p0 l0 pa pl) rfl (ct_X7_lookFrom l D cI cB cL (adU2 ad) p0 l0 (sbU2 u4) pl h6) mw_894 mw_895 mw_896 mw_341 mw_893 hdX7_lookFrom ⟨Nat.le_trans (Nat.le_of_ble_eq_true rfl) hR.1, Nat.le_trans (Nat.le_of_ble_eq_true rfl) hR.2⟩ rfl hsz (by have hq := capY (K := 1) hC ha11 (Nat.le_of_ble_eq_true rfl); exact ⟨by omega, by omega⟩) (Nat.le_of_ble_eq_true rfl) dX11_takes_13 rfl (fun pa11 H locs S => ?_)
  rw [← eu8] at S
  refine W.widen (k := 1 + (a + d9)) (n := 6 * 1 + 2 * (a + d9)) (by omega) (by omega) ?_
  refine lv_aload_n hx hb dX11_takes_16 rfl (lv_at hl 0 rfl) ?_
  refine q_get (v := .ref (ad 36)) C S (oU72 cI cB ad kt p0 l0 pa11 (pl + d9)) rfl iwX11 5 (by decide) mw_892 rfl dX11_takes_17 ?_
  refine lv_iload_n hx hb dX11_takes_20 rfl (lv_at hl 1 rfl) ?_
  obtain ⟨u13, h12, h⟩ := obr_some h
  obtain ⟨u14, eu14⟩ : ∃ z : Sg, z = ubUN u8 u13 := ⟨_, rfl⟩
  have h := bnd_of eu14 h
  refine s_callVv (spl_UN cI cB ad kt p0 l0) (As := [.int x1]) (na := 1) C S (oN0 cI (adUN ad) pa11 (pl + d9)) rfl (ct_X7_goDown l D cI cB cL (adUN ad) pa11 (pl + d9) x1 (sbUN u8) h12) mw_786 mw_594 mw_596 mw_341 mw_593 hdX7_goDown ⟨Nat.le_trans (Nat.le_of_ble_eq_true rfl) hR.1, Nat.le_trans (Nat.le_of_ble_eq_true rfl) hR.2⟩ rfl hsz (capY (K := 1) hC ha11 (Nat.le_of_ble_eq_true rfl)) (Nat.le_of_ble_eq_true rfl) dX11_takes_21 rfl (fun H locs S => ?_)
  rw [← eu14] at S
  refine lv_aload_n hx hb dX11_takes_24 rfl (lv_at hl 0 rfl) ?_
  refine q_get (v := .ref (ad 36)) C S (oU72 cI cB ad kt p0 l0 pa11 (pl + d9)) rfl iwX11 5 (by decide) mw_892 rfl dX11_takes_25 ?_
  obtain ⟨u16, d18, h15, h⟩ := obd_some h
  obtain ⟨u17, eu17⟩ : ∃ z : Sg, z = ubUN u14 u16 := ⟨_, rfl⟩
  have h := bnd_of eu17 h
  obtain ⟨dz19, h, edz19⟩ := addY_some h
  have ha20 : dt = ((a + d9) + d18) + dz19 := by omega
  have hpf20 : pf = ((pl + d9) + d18) + dz19 := by omega
  refine s_callVvA (spl_UN cI cB ad kt p0 l0) (As := []) (na := 0) C S (oN0 cI (adUN ad) pa11 (pl + d9)) rfl (ct_X7_passFar l D cI cB cL (adUN ad) (sbUN u14) (pl + d9) h15) mw_901 mw_902 mw_903 mw_341 mw_900 hdX7_passFar ⟨Nat.le_trans (Nat.le_of_ble_eq_true rfl) hR.1, Nat.le_trans (Nat.le_of_ble_eq_true rfl) hR.2⟩ rfl hsz (by have hq := capY (K := 1) hC ha20 (Nat.le_of_ble_eq_true rfl); exact ⟨by omega, by omega⟩) (Nat.le_of_ble_eq_true rfl) dX11_takes_28 rfl (fun pa20 H locs S => ?_)
  rw [← eu17] at S
  refine W.widen (k := 1 + ((a + d9) + d18)) (n := 6 * 1 + 2 * ((a + d9) + d18)) (by omega) (by omega) ?_
  refine lv_aload_n hx hb dX11_takes_31 rfl (lv_at hl 0 rfl) ?_
  refine q_get (v := .ref (ad 36)) C S (oU72 cI cB ad kt p0 l0 pa20 ((pl + d9) + d18)) rfl iwX11 5 (by decide) mw_892 rfl dX11_takes_32 ?_
  refine q_get (v := .int (u17 36 7)) C S (oU36 cI cB ad kt p0 l0 pa20 ((pl + d9) + d18)) rfl iwX7 7 (by decide) mw_908 rfl dX11_takes_35 ?_
  exact y_iret C S h ha20 hpf20 (K := 1) (k := 1) (Nat.le_of_ble_eq_true rfl) dX11_takes_38
set_option maxRecDepth 10000 in
set_option maxHeartbeats 4000000 in
theorem ct_X11_takes (l : Launch) (hfl : l.stackTraces = false) (D : va_G) (cI cB cL : ClassId) (ka kv : Nat → Nat) (fv : Value) (ad : Nat → Nat) (kt p0 l0 : Nat) (x1 : Int32) (u : Sg) (pl : Nat) {z : Xr × Sg} {dz : Nat} (h : fX11_takes l0 x1 u pl = some (z.1, z.2, dz)) : metYI l D (tyl cI cB cL) ka kv fv yX11_takes cX11_takes 2 (some .int) 8 203 1 (wU cI cB ad kt p0 l0) [.ref (ad 72), .int x1] u pl z dz := by
  intro pa sz
  refine vx_ofW (cc := cX11_takes) (maxL := 2) (ret := (some .int)) (by decide) rfl ?_
  intro p e s m args below meth c s₁ B hml Xc hv
  obtain ⟨rfl, C, S, Kx⟩ := q_entryK B hml hv
  have hl := lv_entry ([.ref (ad 72), .int x1]) (n := 2) (Nat.le_of_ble_eq_true rfl)
  rw [lg_entry_eq]
  generalize (lg_sl ([.ref (ad 72), .int x1]) ++ List.replicate (2 - (lg_sl ([.ref (ad 72), .int x1])).length) Slot.unset).toArray = ls at hl ⊢
  exact wX11_takes_0 C Kx Xc hfl ⟨Nat.le_refl _, Nat.le_refl _⟩ ⟨rfl, rfl⟩ u x1 (a := 0) (lv_sub hl [0, 1] rfl) S (Nat.zero_add _).symm rfl h
end S_51a_yu
