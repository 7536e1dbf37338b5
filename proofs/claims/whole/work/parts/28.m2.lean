abbrev YX12_fault : jw_Y := (RX12, cX12_fault, 1, 1, "fault")
theorem qX12_fault : jw_cy YX12_fault (some .int) yX12_fault 0 := ⟨by decide, jt_1473, jt_14, by decide, by decide +kernel⟩
theorem dX12_fault_0 : decode cX12_fault 0 = .ok (.aload_n 0, 1) := by decide +kernel
theorem dX12_fault_1 : decode cX12_fault 1 = .ok (.iconst 0, 1) := by decide +kernel
theorem dX12_fault_2 : decode cX12_fault 2 = .ok (.putfield 71, 3) := by decide +kernel
theorem dX12_fault_5 : decode cX12_fault 5 = .ok (.aload_n 0, 1) := by decide +kernel
theorem dX12_fault_6 : decode cX12_fault 6 = .ok (.getfield 211, 3) := by decide +kernel
theorem dX12_fault_9 : decode cX12_fault 9 = .ok (.ireturn, 1) := by decide +kernel
def fX12_fault (M : jw_M) : Option (Int × jw_M) :=
  Option.bind (some (jw_up M 127 0 0)) (fun M1 => some (M1 127 11, M1))
set_option maxRecDepth 100000 in
theorem rX12_fault (G : jw_G) (M : jw_M) : jw_Rn G YX12_fault 1 0 0 true (fun q => q) 0 [(0, jR G 127)] [] M (fX12_fault M) := by
  unfold fX12_fault
  refine jw_aloadR (pc := 0) 0 dX12_fault_0 rfl ?_
  refine jw_iconst (pc := 1) dX12_fault_1 ?_
  refine jw_putI (pc := 2) (j := 0) tyX12 rfl dX12_fault_2 jv_12 ji_12 tyX12_ok nmX12 (Or.inl jt_1231) rfl jg_127 jl_127 (by decide) (by decide) (jw_ho jg_127 (by decide)) rfl rfl (jw_rc _ rfl) rfl ?_
  refine jw_letM (fun M1 => ?_)
  refine jw_aloadR (pc := 5) 0 dX12_fault_5 rfl ?_
  refine jw_getI (pc := 6) (j := 11) rfl dX12_fault_6 jv_12 ji_12 (Or.inl jt_1242) jg_127 jl_127 (by decide) (by decide) (jw_ho jg_127 (by decide)) (Or.inl rfl) rfl (fun h2 => ?_)
  exact jw_ret (pc := 9) (v := M1 127 11) dX12_fault_9 h2 rfl rfl
theorem kX12_fault (G : jw_G) (M : jw_M) : jw_Ct G YX12_fault (some .int) 1 0 0 true (fun q => q) yX12_fault [jR G 127] M (fX12_fault M) := jw_met (by decide) rfl rfl rfl (Nat.le_of_ble_eq_true rfl) (rX12_fault G M)
abbrev YX12_isCorner : jw_Y := (RX12, cX12_isCorner, 2, 4, "isCorner")
theorem qX12_isCorner : jw_cy YX12_isCorner (some .boolean) yX12_isCorner 1 := ⟨by decide, jt_1481, jt_14, by decide, by decide +kernel⟩
theorem dX12_isCorner_0 : decode cX12_isCorner 0 = .ok (.iload_n 1, 1) := by decide +kernel
theorem dX12_isCorner_1 : decode cX12_isCorner 1 = .ok (.i2l, 1) := by decide +kernel
theorem dX12_isCorner_2 : decode cX12_isCorner 2 = .ok (.lconst 0, 1) := by decide +kernel
theorem dX12_isCorner_3 : decode cX12_isCorner 3 = .ok (.aload_n 0, 1) := by decide +kernel
theorem dX12_isCorner_4 : decode cX12_isCorner 4 = .ok (.getfield 19, 3) := by decide +kernel
theorem dX12_isCorner_7 : decode cX12_isCorner 7 = .ok (.iconst 0, 1) := by decide +kernel
theorem dX12_isCorner_8 : decode cX12_isCorner 8 = .ok (.iaload, 1) := by decide +kernel
theorem dX12_isCorner_9 : decode cX12_isCorner 9 = .ok (.iconst 1, 1) := by decide +kernel
theorem dX12_isCorner_10 : decode cX12_isCorner 10 = .ok (.isub, 1) := by decide +kernel
theorem dX12_isCorner_11 : decode cX12_isCorner 11 = .ok (.i2l, 1) := by decide +kernel
theorem dX12_isCorner_12 : decode cX12_isCorner 12 = .ok (.invokestatic 82, 3) := by decide +kernel
theorem dX12_isCorner_15 : decode cX12_isCorner 15 = .ok (.ireturn, 1) := by decide +kernel
def fX12_isCorner (a1 : Int) (M : jw_M) : Option Int :=
  if 0 ≤ (0 : Int) ∧ (0 : Int) < 104 then Option.bind (fX12_in a1 0 (jw_w ((M 131 0) - 1)) M) (fun v2 => some v2) else none
set_option maxRecDepth 100000 in
theorem rX12_isCorner (G : jw_G) (a1 : Int) (ha1 : jw_r a1) (M : jw_M) : jw_Rn G YX12_isCorner 2 0 0 true (fun v => (v, M)) 0 [(0, jR G 127), (1, jI a1)] [] M (fX12_isCorner a1 M) := by
  unfold fX12_isCorner
  refine jw_iload_n (pc := 0) 1 dX12_isCorner_0 rfl ?_
  refine jw_i2lr (pc := 1) dX12_isCorner_1 ha1 ?_
  refine jw_lconst (pc := 2) (z := 0) dX12_isCorner_2 rfl ?_
  refine jw_aloadR (pc := 3) 0 dX12_isCorner_3 rfl ?_
  refine jw_getR (pc := 4) (j := 5) rfl dX12_isCorner_4 jv_12 ji_12 (Or.inl jt_1236) jg_127 jl_127 (by decide) (by decide) rfl jf_12_5 ?_
  refine jw_iconst (pc := 7) dX12_isCorner_7 ?_
  refine jw_iald (pc := 8) dX12_isCorner_8 jg_131 jl_131 (jw_ho jg_131 (by decide)) (jw_rc _ rfl) rfl (fun h1 => ?_)
  refine jw_iconst (pc := 9) dX12_isCorner_9 ?_
  refine jw_isub (pc := 10) dX12_isCorner_10 ?_
  refine jw_i2lr (pc := 11) dX12_isCorner_11 (jw_wr _) ?_
  refine jw_callSz (pc := 12) (As := [jL a1, jL 0, jL (jw_w ((M 131 0) - 1))]) (st := []) dX12_isCorner_12 rfl (Nat.le_of_ble_eq_true rfl) qX12_in jt_1345 jt_1346 rfl rfl (Nat.le_of_ble_eq_true rfl) (kX12_in G a1 0 (jw_w ((M 131 0) - 1)) (jw_rq ha1) (jw_qc _ rfl) (jw_rq (jw_wr _)) M) (fun v2 hv2 => ?_)
  exact jw_ret (pc := 15) (v := v2) dX12_isCorner_15 hv2 rfl rfl
theorem kX12_isCorner (G : jw_G) (a1 : Int) (ha1 : jw_r a1) (M : jw_M) : jw_Ct G YX12_isCorner (some .boolean) 2 0 0 true (fun v => (v, M)) yX12_isCorner [jR G 127, jI a1] M (fX12_isCorner a1 M) := jw_met (by decide) rfl rfl rfl (Nat.le_of_ble_eq_true rfl) (rX12_isCorner G a1 ha1 M)
abbrev YX12_isSeller : jw_Y := (RX12, cX12_isSeller, 2, 4, "isSeller")
theorem qX12_isSeller : jw_cy YX12_isSeller (some .boolean) yX12_isSeller 1 := ⟨by decide, jt_1490, jt_14, by decide, by decide +kernel⟩
theorem dX12_isSeller_0 : decode cX12_isSeller 0 = .ok (.iload_n 1, 1) := by decide +kernel
theorem dX12_isSeller_1 : decode cX12_isSeller 1 = .ok (.i2l, 1) := by decide +kernel
theorem dX12_isSeller_2 : decode cX12_isSeller 2 = .ok (.lconst 0, 1) := by decide +kernel
theorem dX12_isSeller_3 : decode cX12_isSeller 3 = .ok (.aload_n 0, 1) := by decide +kernel
theorem dX12_isSeller_4 : decode cX12_isSeller 4 = .ok (.getfield 19, 3) := by decide +kernel
theorem dX12_isSeller_7 : decode cX12_isSeller 7 = .ok (.iconst 3, 1) := by decide +kernel
theorem dX12_isSeller_8 : decode cX12_isSeller 8 = .ok (.iaload, 1) := by decide +kernel
theorem dX12_isSeller_9 : decode cX12_isSeller 9 = .ok (.iconst 1, 1) := by decide +kernel
theorem dX12_isSeller_10 : decode cX12_isSeller 10 = .ok (.isub, 1) := by decide +kernel
theorem dX12_isSeller_11 : decode cX12_isSeller 11 = .ok (.i2l, 1) := by decide +kernel
theorem dX12_isSeller_12 : decode cX12_isSeller 12 = .ok (.invokestatic 82, 3) := by decide +kernel
theorem dX12_isSeller_15 : decode cX12_isSeller 15 = .ok (.ireturn, 1) := by decide +kernel
def fX12_isSeller (a1 : Int) (M : jw_M) : Option Int :=
  if 0 ≤ (3 : Int) ∧ (3 : Int) < 104 then Option.bind (fX12_in a1 0 (jw_w ((M 131 3) - 1)) M) (fun v2 => some v2) else none
set_option maxRecDepth 100000 in
theorem rX12_isSeller (G : jw_G) (a1 : Int) (ha1 : jw_r a1) (M : jw_M) : jw_Rn G YX12_isSeller 2 0 0 true (fun v => (v, M)) 0 [(0, jR G 127), (1, jI a1)] [] M (fX12_isSeller a1 M) := by
  unfold fX12_isSeller
  refine jw_iload_n (pc := 0) 1 dX12_isSeller_0 rfl ?_
  refine jw_i2lr (pc := 1) dX12_isSeller_1 ha1 ?_
  refine jw_lconst (pc := 2) (z := 0) dX12_isSeller_2 rfl ?_
  refine jw_aloadR (pc := 3) 0 dX12_isSeller_3 rfl ?_
  refine jw_getR (pc := 4) (j := 5) rfl dX12_isSeller_4 jv_12 ji_12 (Or.inl jt_1236) jg_127 jl_127 (by decide) (by decide) rfl jf_12_5 ?_
  refine jw_iconst (pc := 7) dX12_isSeller_7 ?_
  refine jw_iald (pc := 8) dX12_isSeller_8 jg_131 jl_131 (jw_ho jg_131 (by decide)) (jw_rc _ rfl) rfl (fun h1 => ?_)
  refine jw_iconst (pc := 9) dX12_isSeller_9 ?_
  refine jw_isub (pc := 10) dX12_isSeller_10 ?_
  refine jw_i2lr (pc := 11) dX12_isSeller_11 (jw_wr _) ?_
  refine jw_callSz (pc := 12) (As := [jL a1, jL 0, jL (jw_w ((M 131 3) - 1))]) (st := []) dX12_isSeller_12 rfl (Nat.le_of_ble_eq_true rfl) qX12_in jt_1345 jt_1346 rfl rfl (Nat.le_of_ble_eq_true rfl) (kX12_in G a1 0 (jw_w ((M 131 3) - 1)) (jw_rq ha1) (jw_qc _ rfl) (jw_rq (jw_wr _)) M) (fun v2 hv2 => ?_)
  exact jw_ret (pc := 15) (v := v2) dX12_isSeller_15 hv2 rfl rfl
theorem kX12_isSeller (G : jw_G) (a1 : Int) (ha1 : jw_r a1) (M : jw_M) : jw_Ct G YX12_isSeller (some .boolean) 2 0 0 true (fun v => (v, M)) yX12_isSeller [jR G 127, jI a1] M (fX12_isSeller a1 M) := jw_met (by decide) rfl rfl rfl (Nat.le_of_ble_eq_true rfl) (rX12_isSeller G a1 ha1 M)
abbrev YX12_isWatcher : jw_Y := (RX12, cX12_isWatcher, 2, 4, "isWatcher")
theorem qX12_isWatcher : jw_cy YX12_isWatcher (some .boolean) yX12_isWatcher 1 := ⟨by decide, jt_1507, jt_14, by decide, by decide +kernel⟩
theorem dX12_isWatcher_0 : decode cX12_isWatcher 0 = .ok (.iload_n 1, 1) := by decide +kernel
theorem dX12_isWatcher_1 : decode cX12_isWatcher 1 = .ok (.i2l, 1) := by decide +kernel
theorem dX12_isWatcher_2 : decode cX12_isWatcher 2 = .ok (.lconst 0, 1) := by decide +kernel
theorem dX12_isWatcher_3 : decode cX12_isWatcher 3 = .ok (.aload_n 0, 1) := by decide +kernel
theorem dX12_isWatcher_4 : decode cX12_isWatcher 4 = .ok (.getfield 19, 3) := by decide +kernel
theorem dX12_isWatcher_7 : decode cX12_isWatcher 7 = .ok (.iconst 4, 1) := by decide +kernel
theorem dX12_isWatcher_8 : decode cX12_isWatcher 8 = .ok (.iaload, 1) := by decide +kernel
theorem dX12_isWatcher_9 : decode cX12_isWatcher 9 = .ok (.iconst 1, 1) := by decide +kernel
theorem dX12_isWatcher_10 : decode cX12_isWatcher 10 = .ok (.isub, 1) := by decide +kernel
theorem dX12_isWatcher_11 : decode cX12_isWatcher 11 = .ok (.i2l, 1) := by decide +kernel
theorem dX12_isWatcher_12 : decode cX12_isWatcher 12 = .ok (.invokestatic 82, 3) := by decide +kernel
theorem dX12_isWatcher_15 : decode cX12_isWatcher 15 = .ok (.ireturn, 1) := by decide +kernel
def fX12_isWatcher (a1 : Int) (M : jw_M) : Option Int :=
  if 0 ≤ (4 : Int) ∧ (4 : Int) < 104 then Option.bind (fX12_in a1 0 (jw_w ((M 131 4) - 1)) M) (fun v2 => some v2) else none
set_option maxRecDepth 100000 in
theorem rX12_isWatcher (G : jw_G) (a1 : Int) (ha1 : jw_r a1) (M : jw_M) : jw_Rn G YX12_isWatcher 2 0 0 true (fun v => (v, M)) 0 [(0, jR G 127), (1, jI a1)] [] M (fX12_isWatcher a1 M) := by
  unfold fX12_isWatcher
  refine jw_iload_n (pc := 0) 1 dX12_isWatcher_0 rfl ?_
  refine jw_i2lr (pc := 1) dX12_isWatcher_1 ha1 ?_
  refine jw_lconst (pc := 2) (z := 0) dX12_isWatcher_2 rfl ?_
  refine jw_aloadR (pc := 3) 0 dX12_isWatcher_3 rfl ?_
  refine jw_getR (pc := 4) (j := 5) rfl dX12_isWatcher_4 jv_12 ji_12 (Or.inl jt_1236) jg_127 jl_127 (by decide) (by decide) rfl jf_12_5 ?_
  refine jw_iconst (pc := 7) dX12_isWatcher_7 ?_
  refine jw_iald (pc := 8) dX12_isWatcher_8 jg_131 jl_131 (jw_ho jg_131 (by decide)) (jw_rc _ rfl) rfl (fun h1 => ?_)
  refine jw_iconst (pc := 9) dX12_isWatcher_9 ?_
  refine jw_isub (pc := 10) dX12_isWatcher_10 ?_
  refine jw_i2lr (pc := 11) dX12_isWatcher_11 (jw_wr _) ?_
  refine jw_callSz (pc := 12) (As := [jL a1, jL 0, jL (jw_w ((M 131 4) - 1))]) (st := []) dX12_isWatcher_12 rfl (Nat.le_of_ble_eq_true rfl) qX12_in jt_1345 jt_1346 rfl rfl (Nat.le_of_ble_eq_true rfl) (kX12_in G a1 0 (jw_w ((M 131 4) - 1)) (jw_rq ha1) (jw_qc _ rfl) (jw_rq (jw_wr _)) M) (fun v2 hv2 => ?_)
  exact jw_ret (pc := 15) (v := v2) dX12_isWatcher_15 hv2 rfl rfl
theorem kX12_isWatcher (G : jw_G) (a1 : Int) (ha1 : jw_r a1) (M : jw_M) : jw_Ct G YX12_isWatcher (some .boolean) 2 0 0 true (fun v => (v, M)) yX12_isWatcher [jR G 127, jI a1] M (fX12_isWatcher a1 M) := jw_met (by decide) rfl rfl rfl (Nat.le_of_ble_eq_true rfl) (rX12_isWatcher G a1 ha1 M)
abbrev YX12_walk : jw_Y := (RX12, cX12_walk, 5, 2, "walk")
theorem qX12_walk : jw_cy YX12_walk (some .long) yX12_walk 3 := ⟨by decide, jt_1477, jt_14, by decide, by decide +kernel⟩
theorem dX12_walk_0 : decode cX12_walk 0 = .ok (.aload_n 0, 1) := by decide +kernel
theorem dX12_walk_1 : decode cX12_walk 1 = .ok (.iconst 0, 1) := by decide +kernel
theorem dX12_walk_2 : decode cX12_walk 2 = .ok (.putfield 71, 3) := by decide +kernel
theorem dX12_walk_5 : decode cX12_walk 5 = .ok (.aload_n 0, 1) := by decide +kernel
theorem dX12_walk_6 : decode cX12_walk 6 = .ok (.iload_n 1, 1) := by decide +kernel
theorem dX12_walk_7 : decode cX12_walk 7 = .ok (.invokevirtual 224, 3) := by decide +kernel
theorem dX12_walk_10 : decode cX12_walk 10 = .ok (.ifCond .eq 21, 3) := by decide +kernel
theorem dX12_walk_13 : decode cX12_walk 13 = .ok (.aload_n 0, 1) := by decide +kernel
theorem dX12_walk_14 : decode cX12_walk 14 = .ok (.iload_n 2, 1) := by decide +kernel
theorem dX12_walk_15 : decode cX12_walk 15 = .ok (.invokevirtual 224, 3) := by decide +kernel
theorem dX12_walk_18 : decode cX12_walk 18 = .ok (.ifCond .eq 13, 3) := by decide +kernel
theorem dX12_walk_21 : decode cX12_walk 21 = .ok (.iload_n 3, 1) := by decide +kernel
theorem dX12_walk_22 : decode cX12_walk 22 = .ok (.i2l, 1) := by decide +kernel
theorem dX12_walk_23 : decode cX12_walk 23 = .ok (.lconst 0, 1) := by decide +kernel
theorem dX12_walk_24 : decode cX12_walk 24 = .ok (.lconst 1, 1) := by decide +kernel
theorem dX12_walk_25 : decode cX12_walk 25 = .ok (.invokestatic 82, 3) := by decide +kernel
theorem dX12_walk_28 : decode cX12_walk 28 = .ok (.ifCond .ne 7, 3) := by decide +kernel
theorem dX12_walk_31 : decode cX12_walk 31 = .ok (.ldc2_w 92, 3) := by decide +kernel
theorem dX12_walk_34 : decode cX12_walk 34 = .ok (.lreturn, 1) := by decide +kernel
theorem dX12_walk_35 : decode cX12_walk 35 = .ok (.iload_n 3, 1) := by decide +kernel
theorem dX12_walk_36 : decode cX12_walk 36 = .ok (.ifCond .ne 17, 3) := by decide +kernel
theorem dX12_walk_39 : decode cX12_walk 39 = .ok (.aload_n 0, 1) := by decide +kernel
theorem dX12_walk_40 : decode cX12_walk 40 = .ok (.getfield 31, 3) := by decide +kernel
theorem dX12_walk_43 : decode cX12_walk 43 = .ok (.bipush 7, 2) := by decide +kernel
theorem dX12_walk_45 : decode cX12_walk 45 = .ok (.iload_n 1, 1) := by decide +kernel
theorem dX12_walk_46 : decode cX12_walk 46 = .ok (.imul, 1) := by decide +kernel
theorem dX12_walk_47 : decode cX12_walk 47 = .ok (.iload_n 2, 1) := by decide +kernel
theorem dX12_walk_48 : decode cX12_walk 48 = .ok (.iadd, 1) := by decide +kernel
theorem dX12_walk_49 : decode cX12_walk 49 = .ok (.iaload, 1) := by decide +kernel
theorem dX12_walk_50 : decode cX12_walk 50 = .ok (.goto 14, 3) := by decide +kernel
theorem dX12_walk_53 : decode cX12_walk 53 = .ok (.aload_n 0, 1) := by decide +kernel
theorem dX12_walk_54 : decode cX12_walk 54 = .ok (.getfield 34, 3) := by decide +kernel
theorem dX12_walk_57 : decode cX12_walk 57 = .ok (.bipush 7, 2) := by decide +kernel
theorem dX12_walk_59 : decode cX12_walk 59 = .ok (.iload_n 1, 1) := by decide +kernel
theorem dX12_walk_60 : decode cX12_walk 60 = .ok (.imul, 1) := by decide +kernel
theorem dX12_walk_61 : decode cX12_walk 61 = .ok (.iload_n 2, 1) := by decide +kernel
theorem dX12_walk_62 : decode cX12_walk 62 = .ok (.iadd, 1) := by decide +kernel
theorem dX12_walk_63 : decode cX12_walk 63 = .ok (.iaload, 1) := by decide +kernel
theorem dX12_walk_64 : decode cX12_walk 64 = .ok (.istore 4, 2) := by decide +kernel
theorem dX12_walk_66 : decode cX12_walk 66 = .ok (.iload 4, 2) := by decide +kernel
theorem dX12_walk_68 : decode cX12_walk 68 = .ok (.ldc 223, 2) := by decide +kernel
theorem dX12_walk_70 : decode cX12_walk 70 = .ok (.if_icmp .ge 9, 3) := by decide +kernel
theorem dX12_walk_73 : decode cX12_walk 73 = .ok (.iload 4, 2) := by decide +kernel
theorem dX12_walk_75 : decode cX12_walk 75 = .ok (.i2l, 1) := by decide +kernel
theorem dX12_walk_76 : decode cX12_walk 76 = .ok (.goto 6, 3) := by decide +kernel
theorem dX12_walk_79 : decode cX12_walk 79 = .ok (.ldc2_w 227, 3) := by decide +kernel
theorem dX12_walk_82 : decode cX12_walk 82 = .ok (.lreturn, 1) := by decide +kernel
def fX12_walk_64 (xs0 : Int) (M : jw_M) : Option (Int × jw_M) :=
  Option.bind (some xs0) (fun v6 => if v6 < 1000000 then (some (v6, M)) else (some ((-1000000), M)))
set_option maxRecDepth 100000 in
theorem pX12_walk_64 (G : jw_G) : ∀ (xs0 : Int) (hxs0 : jw_r xs0) (M : jw_M), jw_Rn G YX12_walk 3 0 0 true (fun q => q) 64 [] [jI xs0] M (fX12_walk_64 xs0 M) := by
  intro xs0 hxs0 M
  unfold fX12_walk_64
  refine jw_istoreL (pc := 64) (lv' := (fun y => [(4, y)])) dX12_walk_64 hxs0 (by decide) (fun _ => rfl) (fun v6 hv6 => ?_)
  refine jw_iload (pc := 66) 0 dX12_walk_66 rfl ?_
  refine jw_ldc (pc := 68) (n := 1000000) dX12_walk_68 jt_1469 (by decide) ?_
  refine jw_ic_ge (pc := 70) 79 dX12_walk_70 (by decide) hv6 (jw_rc _ rfl) (fun _ => ?_) (fun _ => ?_)
  · refine jw_iload (pc := 73) 0 dX12_walk_73 rfl ?_
    refine jw_i2lr (pc := 75) dX12_walk_75 hv6 ?_
    refine jw_goto (pc := 76) 82 dX12_walk_76 (by decide) ?_
    exact jw_ret (pc := 82) (v := v6) dX12_walk_82 (jw_rq hv6) rfl rfl
  · refine jw_ldc2 (pc := 79) (n := (-1000000)) dX12_walk_79 jt_1482 (by decide) ?_
    exact jw_ret (pc := 82) (v := (-1000000)) dX12_walk_82 (jw_qc _ rfl) rfl rfl
def fX12_walk (a1 : Int) (a2 : Int) (a3 : Int) (M : jw_M) : Option (Int × jw_M) :=
  Option.bind (some (jw_up M 127 0 0)) (fun M1 => Option.bind (fX12_isCorner a1 M1) (fun v2 => if v2 = 0 then (some ((-9000000000000000001), M1)) else (Option.bind (fX12_isCorner a2 M1) (fun v3 => if v3 = 0 then (some ((-9000000000000000001), M1)) else (Option.bind (fX12_in a3 0 1 M1) (fun v4 => if v4 = 0 then (some ((-9000000000000000001), M1)) else (if a3 = 0 then (if 0 ≤ jw_w ((jw_w (7 * a1)) + a2) ∧ jw_w ((jw_w (7 * a1)) + a2) < 49 then fX12_walk_64 (M1 135 (jw_w ((jw_w (7 * a1)) + a2))) M1 else none) else (if 0 ≤ jw_w ((jw_w (7 * a1)) + a2) ∧ jw_w ((jw_w (7 * a1)) + a2) < 49 then fX12_walk_64 (M1 136 (jw_w ((jw_w (7 * a1)) + a2))) M1 else none))))))))
set_option maxRecDepth 100000 in
theorem rX12_walk (G : jw_G) (a1 : Int) (a2 : Int) (a3 : Int) (ha1 : jw_r a1) (ha2 : jw_r a2) (ha3 : jw_r a3) (M : jw_M) : jw_Rn G YX12_walk 3 0 0 true (fun q => q) 0 [(0, jR G 127), (1, jI a1), (2, jI a2), (3, jI a3)] [] M (fX12_walk a1 a2 a3 M) := by
  unfold fX12_walk
  refine jw_aloadR (pc := 0) 0 dX12_walk_0 rfl ?_
  refine jw_iconst (pc := 1) dX12_walk_1 ?_
  refine jw_putI (pc := 2) (j := 0) tyX12 rfl dX12_walk_2 jv_12 ji_12 tyX12_ok nmX12 (Or.inl jt_1231) rfl jg_127 jl_127 (by decide) (by decide) (jw_ho jg_127 (by decide)) rfl rfl (jw_rc _ rfl) rfl ?_
  refine jw_letM (fun M1 => ?_)
  refine jw_aloadR (pc := 5) 0 dX12_walk_5 rfl ?_
  refine jw_iload_n (pc := 6) 1 dX12_walk_6 rfl ?_
  refine jw_callVz (pc := 7) (As := [jI a1]) (st := []) dX12_walk_7 rfl (Nat.le_of_ble_eq_true rfl) qX12_isCorner jt_1478 jt_1480 jp_63 rfl rfl (Nat.le_of_ble_eq_true rfl) jv_12 rfl jg_127 jl_127 (by decide) (jw_ho jg_127 (by decide)) (kX12_isCorner G a1 ha1 M1) (fun v2 hv2 => ?_)
  refine jw_if_eq (pc := 10) 31 dX12_walk_10 (by decide) (jw_bz hv2) (fun _ => ?_) (fun _ => ?_)
  · refine jw_ldc2 (pc := 31) (n := (-9000000000000000001)) dX12_walk_31 jt_1349 (by decide) ?_
    exact jw_ret (pc := 34) (v := (-9000000000000000001)) dX12_walk_34 (jw_qc _ rfl) rfl rfl
  · refine jw_aloadR (pc := 13) 0 dX12_walk_13 rfl ?_
    refine jw_iload_n (pc := 14) 2 dX12_walk_14 rfl ?_
    refine jw_callVz (pc := 15) (As := [jI a2]) (st := []) dX12_walk_15 rfl (Nat.le_of_ble_eq_true rfl) qX12_isCorner jt_1478 jt_1480 jp_63 rfl rfl (Nat.le_of_ble_eq_true rfl) jv_12 rfl jg_127 jl_127 (by decide) (jw_ho jg_127 (by decide)) (kX12_isCorner G a2 ha2 M1) (fun v3 hv3 => ?_)
    refine jw_if_eq (pc := 18) 31 dX12_walk_18 (by decide) (jw_bz hv3) (fun _ => ?_) (fun _ => ?_)
    · refine jw_ldc2 (pc := 31) (n := (-9000000000000000001)) dX12_walk_31 jt_1349 (by decide) ?_
      exact jw_ret (pc := 34) (v := (-9000000000000000001)) dX12_walk_34 (jw_qc _ rfl) rfl rfl
    · refine jw_iload_n (pc := 21) 3 dX12_walk_21 rfl ?_
      refine jw_i2lr (pc := 22) dX12_walk_22 ha3 ?_
      refine jw_lconst (pc := 23) (z := 0) dX12_walk_23 rfl ?_
      refine jw_lconst (pc := 24) (z := 1) dX12_walk_24 rfl ?_
      refine jw_callSz (pc := 25) (As := [jL a3, jL 0, jL 1]) (st := []) dX12_walk_25 rfl (Nat.le_of_ble_eq_true rfl) qX12_in jt_1345 jt_1346 rfl rfl (Nat.le_of_ble_eq_true rfl) (kX12_in G a3 0 1 (jw_rq ha3) (jw_qc _ rfl) (jw_qc _ rfl) M1) (fun v4 hv4 => ?_)
      refine jw_if_ne (pc := 28) 35 dX12_walk_28 (by decide) (jw_bz hv4) (fun _ => ?_) (fun _ => ?_)
      · refine jw_ldc2 (pc := 31) (n := (-9000000000000000001)) dX12_walk_31 jt_1349 (by decide) ?_
        exact jw_ret (pc := 34) (v := (-9000000000000000001)) dX12_walk_34 (jw_qc _ rfl) rfl rfl
      · refine jw_iload_n (pc := 35) 3 dX12_walk_35 rfl ?_
        refine jw_if_ne (pc := 36) 53 dX12_walk_36 (by decide) ha3 (fun _ => ?_) (fun _ => ?_)
        · refine jw_aloadR (pc := 39) 0 dX12_walk_39 rfl ?_
          refine jw_getR (pc := 40) (j := 19) rfl dX12_walk_40 jv_12 ji_12 (Or.inl jt_1250) jg_127 jl_127 (by decide) (by decide) rfl jf_12_19 ?_
          refine jw_bipush (pc := 43) dX12_walk_43 rfl ?_
          refine jw_iload_n (pc := 45) 1 dX12_walk_45 rfl ?_
          refine jw_imul (pc := 46) dX12_walk_46 ?_
          refine jw_iload_n (pc := 47) 2 dX12_walk_47 rfl ?_
          refine jw_iadd (pc := 48) dX12_walk_48 ?_
          refine jw_iald (pc := 49) dX12_walk_49 jg_135 jl_135 (jw_ho jg_135 (by decide)) (jw_wr _) rfl (fun h5 => ?_)
          refine jw_goto (pc := 50) 64 dX12_walk_50 (by decide) ?_
          exact jw_few [] rfl (pX12_walk_64 G (M1 135 (jw_w ((jw_w (7 * a1)) + a2))) h5 M1)
        · refine jw_aloadR (pc := 53) 0 dX12_walk_53 rfl ?_
          refine jw_getR (pc := 54) (j := 20) rfl dX12_walk_54 jv_12 ji_12 (Or.inl jt_1251) jg_127 jl_127 (by decide) (by decide) rfl jf_12_20 ?_
          refine jw_bipush (pc := 57) dX12_walk_57 rfl ?_
          refine jw_iload_n (pc := 59) 1 dX12_walk_59 rfl ?_
          refine jw_imul (pc := 60) dX12_walk_60 ?_
          refine jw_iload_n (pc := 61) 2 dX12_walk_61 rfl ?_
          refine jw_iadd (pc := 62) dX12_walk_62 ?_
          refine jw_iald (pc := 63) dX12_walk_63 jg_136 jl_136 (jw_ho jg_136 (by decide)) (jw_wr _) rfl (fun h7 => ?_)
          exact jw_few [] rfl (pX12_walk_64 G (M1 136 (jw_w ((jw_w (7 * a1)) + a2))) h7 M1)
theorem kX12_walk (G : jw_G) (a1 : Int) (a2 : Int) (a3 : Int) (ha1 : jw_r a1) (ha2 : jw_r a2) (ha3 : jw_r a3) (M : jw_M) : jw_Ct G YX12_walk (some .long) 3 0 0 true (fun q => q) yX12_walk [jR G 127, jI a1, jI a2, jI a3] M (fX12_walk a1 a2 a3 M) := jw_met (by decide) rfl rfl rfl (Nat.le_of_ble_eq_true rfl) (rX12_walk G a1 a2 a3 ha1 ha2 ha3 M)
abbrev YX12_goes : jw_Y := (RX12, cX12_goes, 4, 2, "goes")
theorem qX12_goes : jw_cy YX12_goes (some .long) yX12_goes 2 := ⟨by decide, jt_1486, jt_14, by decide, by decide +kernel⟩
theorem dX12_goes_0 : decode cX12_goes 0 = .ok (.aload_n 0, 1) := by decide +kernel
theorem dX12_goes_1 : decode cX12_goes 1 = .ok (.iconst 0, 1) := by decide +kernel
theorem dX12_goes_2 : decode cX12_goes 2 = .ok (.putfield 71, 3) := by decide +kernel
theorem dX12_goes_5 : decode cX12_goes 5 = .ok (.aload_n 0, 1) := by decide +kernel
theorem dX12_goes_6 : decode cX12_goes 6 = .ok (.iload_n 1, 1) := by decide +kernel
theorem dX12_goes_7 : decode cX12_goes 7 = .ok (.invokevirtual 229, 3) := by decide +kernel
theorem dX12_goes_10 : decode cX12_goes 10 = .ok (.ifCond .eq 11, 3) := by decide +kernel
theorem dX12_goes_13 : decode cX12_goes 13 = .ok (.aload_n 0, 1) := by decide +kernel
theorem dX12_goes_14 : decode cX12_goes 14 = .ok (.iload_n 2, 1) := by decide +kernel
theorem dX12_goes_15 : decode cX12_goes 15 = .ok (.invokevirtual 224, 3) := by decide +kernel
theorem dX12_goes_18 : decode cX12_goes 18 = .ok (.ifCond .ne 7, 3) := by decide +kernel
theorem dX12_goes_21 : decode cX12_goes 21 = .ok (.ldc2_w 92, 3) := by decide +kernel
theorem dX12_goes_24 : decode cX12_goes 24 = .ok (.lreturn, 1) := by decide +kernel
theorem dX12_goes_25 : decode cX12_goes 25 = .ok (.aload_n 0, 1) := by decide +kernel
theorem dX12_goes_26 : decode cX12_goes 26 = .ok (.getfield 25, 3) := by decide +kernel
theorem dX12_goes_29 : decode cX12_goes 29 = .ok (.iconst 0, 1) := by decide +kernel
theorem dX12_goes_30 : decode cX12_goes 30 = .ok (.iload_n 1, 1) := by decide +kernel
theorem dX12_goes_31 : decode cX12_goes 31 = .ok (.iadd, 1) := by decide +kernel
theorem dX12_goes_32 : decode cX12_goes 32 = .ok (.iaload, 1) := by decide +kernel
theorem dX12_goes_33 : decode cX12_goes 33 = .ok (.istore_n 3, 1) := by decide +kernel
theorem dX12_goes_34 : decode cX12_goes 34 = .ok (.aload_n 0, 1) := by decide +kernel
theorem dX12_goes_35 : decode cX12_goes 35 = .ok (.getfield 25, 3) := by decide +kernel
theorem dX12_goes_38 : decode cX12_goes 38 = .ok (.iconst 0, 1) := by decide +kernel
theorem dX12_goes_39 : decode cX12_goes 39 = .ok (.iload_n 1, 1) := by decide +kernel
theorem dX12_goes_40 : decode cX12_goes 40 = .ok (.iadd, 1) := by decide +kernel
theorem dX12_goes_41 : decode cX12_goes 41 = .ok (.iload_n 2, 1) := by decide +kernel
theorem dX12_goes_42 : decode cX12_goes 42 = .ok (.iastore, 1) := by decide +kernel
theorem dX12_goes_43 : decode cX12_goes 43 = .ok (.iload_n 3, 1) := by decide +kernel
theorem dX12_goes_44 : decode cX12_goes 44 = .ok (.i2l, 1) := by decide +kernel
theorem dX12_goes_45 : decode cX12_goes 45 = .ok (.lreturn, 1) := by decide +kernel
def fX12_goes (a1 : Int) (a2 : Int) (M : jw_M) : Option (Int × jw_M) :=
  Option.bind (some (jw_up M 127 0 0)) (fun M1 => Option.bind (fX12_isSeller a1 M1) (fun v2 => if v2 = 0 then (some ((-9000000000000000001), M1)) else (Option.bind (fX12_isCorner a2 M1) (fun v3 => if v3 = 0 then (some ((-9000000000000000001), M1)) else (if 0 ≤ jw_w (0 + a1) ∧ jw_w (0 + a1) < 104 then Option.bind (some (M1 133 (jw_w (0 + a1)))) (fun v5 => if 0 ≤ jw_w (0 + a1) ∧ jw_w (0 + a1) < 104 then Option.bind (some (jw_up M1 133 (jw_w (0 + a1)) a2)) (fun M6 => some (v5, M6)) else none) else none)))))
set_option maxRecDepth 100000 in
theorem rX12_goes (G : jw_G) (a1 : Int) (a2 : Int) (ha1 : jw_r a1) (ha2 : jw_r a2) (M : jw_M) : jw_Rn G YX12_goes 3 0 0 true (fun q => q) 0 [(0, jR G 127), (1, jI a1), (2, jI a2)] [] M (fX12_goes a1 a2 M) := by
  unfold fX12_goes
  refine jw_aloadR (pc := 0) 0 dX12_goes_0 rfl ?_
  refine jw_iconst (pc := 1) dX12_goes_1 ?_
  refine jw_putI (pc := 2) (j := 0) tyX12 rfl dX12_goes_2 jv_12 ji_12 tyX12_ok nmX12 (Or.inl jt_1231) rfl jg_127 jl_127 (by decide) (by decide) (jw_ho jg_127 (by decide)) rfl rfl (jw_rc _ rfl) rfl ?_
  refine jw_letM (fun M1 => ?_)
  refine jw_aloadR (pc := 5) 0 dX12_goes_5 rfl ?_
  refine jw_iload_n (pc := 6) 1 dX12_goes_6 rfl ?_
  refine jw_callVz (pc := 7) (As := [jI a1]) (st := []) dX12_goes_7 rfl (Nat.le_of_ble_eq_true rfl) qX12_isSeller jt_1487 jt_1489 jp_64 rfl rfl (Nat.le_of_ble_eq_true rfl) jv_12 rfl jg_127 jl_127 (by decide) (jw_ho jg_127 (by decide)) (kX12_isSeller G a1 ha1 M1) (fun v2 hv2 => ?_)
  refine jw_if_eq (pc := 10) 21 dX12_goes_10 (by decide) (jw_bz hv2) (fun _ => ?_) (fun _ => ?_)
  · refine jw_ldc2 (pc := 21) (n := (-9000000000000000001)) dX12_goes_21 jt_1349 (by decide) ?_
    exact jw_ret (pc := 24) (v := (-9000000000000000001)) dX12_goes_24 (jw_qc _ rfl) rfl rfl
  · refine jw_aloadR (pc := 13) 0 dX12_goes_13 rfl ?_
    refine jw_iload_n (pc := 14) 2 dX12_goes_14 rfl ?_
    refine jw_callVz (pc := 15) (As := [jI a2]) (st := []) dX12_goes_15 rfl (Nat.le_of_ble_eq_true rfl) qX12_isCorner jt_1478 jt_1480 jp_63 rfl rfl (Nat.le_of_ble_eq_true rfl) jv_12 rfl jg_127 jl_127 (by decide) (jw_ho jg_127 (by decide)) (kX12_isCorner G a2 ha2 M1) (fun v3 hv3 => ?_)
    refine jw_if_ne (pc := 18) 25 dX12_goes_18 (by decide) (jw_bz hv3) (fun _ => ?_) (fun _ => ?_)
    · refine jw_ldc2 (pc := 21) (n := (-9000000000000000001)) dX12_goes_21 jt_1349 (by decide) ?_
      exact jw_ret (pc := 24) (v := (-9000000000000000001)) dX12_goes_24 (jw_qc _ rfl) rfl rfl
    · refine jw_aloadR (pc := 25) 0 dX12_goes_25 rfl ?_
      refine jw_getR (pc := 26) (j := 8) rfl dX12_goes_26 jv_12 ji_12 (Or.inl jt_1239) jg_127 jl_127 (by decide) (by decide) rfl jf_12_8 ?_
      refine jw_iconst (pc := 29) dX12_goes_29 ?_
      refine jw_iload_n (pc := 30) 1 dX12_goes_30 rfl ?_
      refine jw_iadd (pc := 31) dX12_goes_31 ?_
      refine jw_iald (pc := 32) dX12_goes_32 jg_133 jl_133 (jw_ho jg_133 (by decide)) (jw_wr _) rfl (fun h4 => ?_)
      refine jw_istore_nL (pc := 33) (lv' := (fun y => [(3, y), (0, jR G 127), (1, jI a1), (2, jI a2)])) dX12_goes_33 h4 (by decide) (fun _ => rfl) (fun v5 hv5 => ?_)
      refine jw_aloadR (pc := 34) 1 dX12_goes_34 rfl ?_
      refine jw_getR (pc := 35) (j := 8) rfl dX12_goes_35 jv_12 ji_12 (Or.inl jt_1239) jg_127 jl_127 (by decide) (by decide) rfl jf_12_8 ?_
      refine jw_iconst (pc := 38) dX12_goes_38 ?_
      refine jw_iload_n (pc := 39) 2 dX12_goes_39 rfl ?_
      refine jw_iadd (pc := 40) dX12_goes_40 ?_
      refine jw_iload_n (pc := 41) 3 dX12_goes_41 rfl ?_
      refine jw_iast (pc := 42) dX12_goes_42 jg_133 jl_133 (jw_ho jg_133 (by decide)) (jw_wr _) ha2 rfl ?_
      refine jw_letM (fun M6 => ?_)
      refine jw_iload_n (pc := 43) 0 dX12_goes_43 rfl ?_
      refine jw_i2lr (pc := 44) dX12_goes_44 hv5 ?_
      exact jw_ret (pc := 45) (v := v5) dX12_goes_45 (jw_rq hv5) rfl rfl
theorem kX12_goes (G : jw_G) (a1 : Int) (a2 : Int) (ha1 : jw_r a1) (ha2 : jw_r a2) (M : jw_M) : jw_Ct G YX12_goes (some .long) 3 0 0 true (fun q => q) yX12_goes [jR G 127, jI a1, jI a2] M (fX12_goes a1 a2 M) := jw_met (by decide) rfl rfl rfl (Nat.le_of_ble_eq_true rfl) (rX12_goes G a1 a2 ha1 ha2 M)
abbrev YX12_goodsOf : jw_Y := (RX12, cX12_goodsOf, 3, 1, "goodsOf")
theorem qX12_goodsOf : jw_cy YX12_goodsOf (some .int) yX12_goodsOf 2 := ⟨by decide, jt_1499, jt_14, by decide, by decide +kernel⟩
theorem dX12_goodsOf_0 : decode cX12_goodsOf 0 = .ok (.aload_n 0, 1) := by decide +kernel
theorem dX12_goodsOf_1 : decode cX12_goodsOf 1 = .ok (.getfield 19, 3) := by decide +kernel
theorem dX12_goodsOf_4 : decode cX12_goodsOf 4 = .ok (.bipush 63, 2) := by decide +kernel
theorem dX12_goodsOf_6 : decode cX12_goodsOf 6 = .ok (.iconst 3, 1) := by decide +kernel
theorem dX12_goodsOf_7 : decode cX12_goodsOf 7 = .ok (.aload_n 0, 1) := by decide +kernel
theorem dX12_goodsOf_8 : decode cX12_goodsOf 8 = .ok (.getfield 19, 3) := by decide +kernel
theorem dX12_goodsOf_11 : decode cX12_goodsOf 11 = .ok (.bipush 90, 2) := by decide +kernel
theorem dX12_goodsOf_13 : decode cX12_goodsOf 13 = .ok (.iload_n 1, 1) := by decide +kernel
theorem dX12_goodsOf_14 : decode cX12_goodsOf 14 = .ok (.iadd, 1) := by decide +kernel
theorem dX12_goodsOf_15 : decode cX12_goodsOf 15 = .ok (.iaload, 1) := by decide +kernel
theorem dX12_goodsOf_16 : decode cX12_goodsOf 16 = .ok (.imul, 1) := by decide +kernel
theorem dX12_goodsOf_17 : decode cX12_goodsOf 17 = .ok (.iadd, 1) := by decide +kernel
theorem dX12_goodsOf_18 : decode cX12_goodsOf 18 = .ok (.iload_n 2, 1) := by decide +kernel
theorem dX12_goodsOf_19 : decode cX12_goodsOf 19 = .ok (.iadd, 1) := by decide +kernel
theorem dX12_goodsOf_20 : decode cX12_goodsOf 20 = .ok (.iaload, 1) := by decide +kernel
theorem dX12_goodsOf_21 : decode cX12_goodsOf 21 = .ok (.ireturn, 1) := by decide +kernel
def fX12_goodsOf (a1 : Int) (a2 : Int) (M : jw_M) : Option Int :=
  if 0 ≤ jw_w (90 + a1) ∧ jw_w (90 + a1) < 104 then if 0 ≤ jw_w ((jw_w (63 + (jw_w (3 * (M 131 (jw_w (90 + a1))))))) + a2) ∧ jw_w ((jw_w (63 + (jw_w (3 * (M 131 (jw_w (90 + a1))))))) + a2) < 104 then some (M 131 (jw_w ((jw_w (63 + (jw_w (3 * (M 131 (jw_w (90 + a1))))))) + a2))) else none else none
set_option maxRecDepth 100000 in
theorem rX12_goodsOf (G : jw_G) (a1 : Int) (a2 : Int) (ha1 : jw_r a1) (ha2 : jw_r a2) (M : jw_M) : jw_Rn G YX12_goodsOf 1 0 0 true (fun v => (v, M)) 0 [(0, jR G 127), (1, jI a1), (2, jI a2)] [] M (fX12_goodsOf a1 a2 M) := by
  unfold fX12_goodsOf
  refine jw_aloadR (pc := 0) 0 dX12_goodsOf_0 rfl ?_
  refine jw_getR (pc := 1) (j := 5) rfl dX12_goodsOf_1 jv_12 ji_12 (Or.inl jt_1236) jg_127 jl_127 (by decide) (by decide) rfl jf_12_5 ?_
  refine jw_bipush (pc := 4) dX12_goodsOf_4 rfl ?_
  refine jw_iconst (pc := 6) dX12_goodsOf_6 ?_
  refine jw_aloadR (pc := 7) 0 dX12_goodsOf_7 rfl ?_
  refine jw_getR (pc := 8) (j := 5) rfl dX12_goodsOf_8 jv_12 ji_12 (Or.inl jt_1236) jg_127 jl_127 (by decide) (by decide) rfl jf_12_5 ?_
  refine jw_bipush (pc := 11) dX12_goodsOf_11 rfl ?_
  refine jw_iload_n (pc := 13) 1 dX12_goodsOf_13 rfl ?_
  refine jw_iadd (pc := 14) dX12_goodsOf_14 ?_
  refine jw_iald (pc := 15) dX12_goodsOf_15 jg_131 jl_131 (jw_ho jg_131 (by decide)) (jw_wr _) rfl (fun h1 => ?_)
  refine jw_imul (pc := 16) dX12_goodsOf_16 ?_
  refine jw_iadd (pc := 17) dX12_goodsOf_17 ?_
  refine jw_iload_n (pc := 18) 2 dX12_goodsOf_18 rfl ?_
  refine jw_iadd (pc := 19) dX12_goodsOf_19 ?_
  refine jw_iald (pc := 20) dX12_goodsOf_20 jg_131 jl_131 (jw_ho jg_131 (by decide)) (jw_wr _) rfl (fun h2 => ?_)
  exact jw_ret (pc := 21) (v := M 131 (jw_w ((jw_w (63 + (jw_w (3 * (M 131 (jw_w (90 + a1))))))) + a2))) dX12_goodsOf_21 h2 rfl rfl
theorem kX12_goodsOf (G : jw_G) (a1 : Int) (a2 : Int) (ha1 : jw_r a1) (ha2 : jw_r a2) (M : jw_M) : jw_Ct G YX12_goodsOf (some .int) 1 0 0 true (fun v => (v, M)) yX12_goodsOf [jR G 127, jI a1, jI a2] M (fX12_goodsOf a1 a2 M) := jw_met (by decide) rfl rfl rfl (Nat.le_of_ble_eq_true rfl) (rX12_goodsOf G a1 a2 ha1 ha2 M)
abbrev YX12_seller : jw_Y := (RX12, cX12_seller, 3, 2, "seller")
theorem qX12_seller : jw_cy YX12_seller (some .long) yX12_seller 2 := ⟨by decide, jt_1494, jt_14, by decide, by decide +kernel⟩
theorem dX12_seller_0 : decode cX12_seller 0 = .ok (.aload_n 0, 1) := by decide +kernel
theorem dX12_seller_1 : decode cX12_seller 1 = .ok (.iconst 0, 1) := by decide +kernel
theorem dX12_seller_2 : decode cX12_seller 2 = .ok (.putfield 71, 3) := by decide +kernel
theorem dX12_seller_5 : decode cX12_seller 5 = .ok (.aload_n 0, 1) := by decide +kernel
theorem dX12_seller_6 : decode cX12_seller 6 = .ok (.iload_n 1, 1) := by decide +kernel
theorem dX12_seller_7 : decode cX12_seller 7 = .ok (.invokevirtual 229, 3) := by decide +kernel
theorem dX12_seller_10 : decode cX12_seller 10 = .ok (.ifCond .eq 15, 3) := by decide +kernel
theorem dX12_seller_13 : decode cX12_seller 13 = .ok (.iload_n 2, 1) := by decide +kernel
theorem dX12_seller_14 : decode cX12_seller 14 = .ok (.i2l, 1) := by decide +kernel
theorem dX12_seller_15 : decode cX12_seller 15 = .ok (.lconst 0, 1) := by decide +kernel
theorem dX12_seller_16 : decode cX12_seller 16 = .ok (.ldc2_w 232, 3) := by decide +kernel
theorem dX12_seller_19 : decode cX12_seller 19 = .ok (.invokestatic 82, 3) := by decide +kernel
theorem dX12_seller_22 : decode cX12_seller 22 = .ok (.ifCond .ne 7, 3) := by decide +kernel
theorem dX12_seller_25 : decode cX12_seller 25 = .ok (.ldc2_w 92, 3) := by decide +kernel
theorem dX12_seller_28 : decode cX12_seller 28 = .ok (.lreturn, 1) := by decide +kernel
theorem dX12_seller_29 : decode cX12_seller 29 = .ok (.iload_n 2, 1) := by decide +kernel
theorem dX12_seller_30 : decode cX12_seller 30 = .ok (.ifCond .ne 16, 3) := by decide +kernel
theorem dX12_seller_33 : decode cX12_seller 33 = .ok (.aload_n 0, 1) := by decide +kernel
theorem dX12_seller_34 : decode cX12_seller 34 = .ok (.getfield 19, 3) := by decide +kernel
theorem dX12_seller_37 : decode cX12_seller 37 = .ok (.bipush 90, 2) := by decide +kernel
theorem dX12_seller_39 : decode cX12_seller 39 = .ok (.iload_n 1, 1) := by decide +kernel
theorem dX12_seller_40 : decode cX12_seller 40 = .ok (.iadd, 1) := by decide +kernel
theorem dX12_seller_41 : decode cX12_seller 41 = .ok (.iaload, 1) := by decide +kernel
theorem dX12_seller_42 : decode cX12_seller 42 = .ok (.i2l, 1) := by decide +kernel
theorem dX12_seller_43 : decode cX12_seller 43 = .ok (.goto 29, 3) := by decide +kernel
theorem dX12_seller_46 : decode cX12_seller 46 = .ok (.iload_n 2, 1) := by decide +kernel
theorem dX12_seller_47 : decode cX12_seller 47 = .ok (.iconst 1, 1) := by decide +kernel
theorem dX12_seller_48 : decode cX12_seller 48 = .ok (.if_icmp .ne 15, 3) := by decide +kernel
theorem dX12_seller_51 : decode cX12_seller 51 = .ok (.aload_n 0, 1) := by decide +kernel
theorem dX12_seller_52 : decode cX12_seller 52 = .ok (.getfield 25, 3) := by decide +kernel
theorem dX12_seller_55 : decode cX12_seller 55 = .ok (.iconst 0, 1) := by decide +kernel
theorem dX12_seller_56 : decode cX12_seller 56 = .ok (.iload_n 1, 1) := by decide +kernel
theorem dX12_seller_57 : decode cX12_seller 57 = .ok (.iadd, 1) := by decide +kernel
theorem dX12_seller_58 : decode cX12_seller 58 = .ok (.iaload, 1) := by decide +kernel
theorem dX12_seller_59 : decode cX12_seller 59 = .ok (.i2l, 1) := by decide +kernel
theorem dX12_seller_60 : decode cX12_seller 60 = .ok (.goto 12, 3) := by decide +kernel
theorem dX12_seller_63 : decode cX12_seller 63 = .ok (.aload_n 0, 1) := by decide +kernel
theorem dX12_seller_64 : decode cX12_seller 64 = .ok (.iload_n 1, 1) := by decide +kernel
theorem dX12_seller_65 : decode cX12_seller 65 = .ok (.iload_n 2, 1) := by decide +kernel
theorem dX12_seller_66 : decode cX12_seller 66 = .ok (.iconst 2, 1) := by decide +kernel
theorem dX12_seller_67 : decode cX12_seller 67 = .ok (.isub, 1) := by decide +kernel
theorem dX12_seller_68 : decode cX12_seller 68 = .ok (.invokevirtual 234, 3) := by decide +kernel
theorem dX12_seller_71 : decode cX12_seller 71 = .ok (.i2l, 1) := by decide +kernel
theorem dX12_seller_72 : decode cX12_seller 72 = .ok (.lreturn, 1) := by decide +kernel
def fX12_seller (a1 : Int) (a2 : Int) (M : jw_M) : Option (Int × jw_M) :=
  Option.bind (some (jw_up M 127 0 0)) (fun M1 => Option.bind (fX12_isSeller a1 M1) (fun v2 => if v2 = 0 then (some ((-9000000000000000001), M1)) else (Option.bind (fX12_in a2 0 4 M1) (fun v3 => if v3 = 0 then (some ((-9000000000000000001), M1)) else (if a2 = 0 then (if 0 ≤ jw_w (90 + a1) ∧ jw_w (90 + a1) < 104 then some (M1 131 (jw_w (90 + a1)), M1) else none) else (if a2 = 1 then (if 0 ≤ jw_w (0 + a1) ∧ jw_w (0 + a1) < 104 then some (M1 133 (jw_w (0 + a1)), M1) else none) else (Option.bind (fX12_goodsOf a1 (jw_w (a2 - 2)) M1) (fun v6 => some (v6, M1)))))))))
set_option maxRecDepth 100000 in
theorem rX12_seller (G : jw_G) (a1 : Int) (a2 : Int) (ha1 : jw_r a1) (ha2 : jw_r a2) (M : jw_M) : jw_Rn G YX12_seller 3 0 0 true (fun q => q) 0 [(0, jR G 127), (1, jI a1), (2, jI a2)] [] M (fX12_seller a1 a2 M) := by
  unfold fX12_seller
  refine jw_aloadR (pc := 0) 0 dX12_seller_0 rfl ?_
  refine jw_iconst (pc := 1) dX12_seller_1 ?_
  refine jw_putI (pc := 2) (j := 0) tyX12 rfl dX12_seller_2 jv_12 ji_12 tyX12_ok nmX12 (Or.inl jt_1231) rfl jg_127 jl_127 (by decide) (by decide) (jw_ho jg_127 (by decide)) rfl rfl (jw_rc _ rfl) rfl ?_
  refine jw_letM (fun M1 => ?_)
  refine jw_aloadR (pc := 5) 0 dX12_seller_5 rfl ?_
  refine jw_iload_n (pc := 6) 1 dX12_seller_6 rfl ?_
  refine jw_callVz (pc := 7) (As := [jI a1]) (st := []) dX12_seller_7 rfl (Nat.le_of_ble_eq_true rfl) qX12_isSeller jt_1487 jt_1489 jp_64 rfl rfl (Nat.le_of_ble_eq_true rfl) jv_12 rfl jg_127 jl_127 (by decide) (jw_ho jg_127 (by decide)) (kX12_isSeller G a1 ha1 M1) (fun v2 hv2 => ?_)
  refine jw_if_eq (pc := 10) 25 dX12_seller_10 (by decide) (jw_bz hv2) (fun _ => ?_) (fun _ => ?_)
  · refine jw_ldc2 (pc := 25) (n := (-9000000000000000001)) dX12_seller_25 jt_1349 (by decide) ?_
    exact jw_ret (pc := 28) (v := (-9000000000000000001)) dX12_seller_28 (jw_qc _ rfl) rfl rfl
  · refine jw_iload_n (pc := 13) 2 dX12_seller_13 rfl ?_
    refine jw_i2lr (pc := 14) dX12_seller_14 ha2 ?_
    refine jw_lconst (pc := 15) (z := 0) dX12_seller_15 rfl ?_
    refine jw_ldc2 (pc := 16) (n := 4) dX12_seller_16 jt_1495 (by decide) ?_
    refine jw_callSz (pc := 19) (As := [jL a2, jL 0, jL 4]) (st := []) dX12_seller_19 rfl (Nat.le_of_ble_eq_true rfl) qX12_in jt_1345 jt_1346 rfl rfl (Nat.le_of_ble_eq_true rfl) (kX12_in G a2 0 4 (jw_rq ha2) (jw_qc _ rfl) (jw_qc _ rfl) M1) (fun v3 hv3 => ?_)
    refine jw_if_ne (pc := 22) 29 dX12_seller_22 (by decide) (jw_bz hv3) (fun _ => ?_) (fun _ => ?_)
    · refine jw_ldc2 (pc := 25) (n := (-9000000000000000001)) dX12_seller_25 jt_1349 (by decide) ?_
      exact jw_ret (pc := 28) (v := (-9000000000000000001)) dX12_seller_28 (jw_qc _ rfl) rfl rfl
    · refine jw_iload_n (pc := 29) 2 dX12_seller_29 rfl ?_
      refine jw_if_ne (pc := 30) 46 dX12_seller_30 (by decide) ha2 (fun _ => ?_) (fun _ => ?_)
      · refine jw_aloadR (pc := 33) 0 dX12_seller_33 rfl ?_
        refine jw_getR (pc := 34) (j := 5) rfl dX12_seller_34 jv_12 ji_12 (Or.inl jt_1236) jg_127 jl_127 (by decide) (by decide) rfl jf_12_5 ?_
        refine jw_bipush (pc := 37) dX12_seller_37 rfl ?_
        refine jw_iload_n (pc := 39) 1 dX12_seller_39 rfl ?_
        refine jw_iadd (pc := 40) dX12_seller_40 ?_
        refine jw_iald (pc := 41) dX12_seller_41 jg_131 jl_131 (jw_ho jg_131 (by decide)) (jw_wr _) rfl (fun h4 => ?_)
        refine jw_i2lr (pc := 42) dX12_seller_42 h4 ?_
        refine jw_goto (pc := 43) 72 dX12_seller_43 (by decide) ?_
        exact jw_ret (pc := 72) (v := M1 131 (jw_w (90 + a1))) dX12_seller_72 (jw_rq h4) rfl rfl
      · refine jw_iload_n (pc := 46) 2 dX12_seller_46 rfl ?_
        refine jw_iconst (pc := 47) dX12_seller_47 ?_
        refine jw_ic_ne (pc := 48) 63 dX12_seller_48 (by decide) ha2 (jw_rc _ rfl) (fun _ => ?_) (fun _ => ?_)
        · refine jw_aloadR (pc := 51) 0 dX12_seller_51 rfl ?_
          refine jw_getR (pc := 52) (j := 8) rfl dX12_seller_52 jv_12 ji_12 (Or.inl jt_1239) jg_127 jl_127 (by decide) (by decide) rfl jf_12_8 ?_
          refine jw_iconst (pc := 55) dX12_seller_55 ?_
          refine jw_iload_n (pc := 56) 1 dX12_seller_56 rfl ?_
          refine jw_iadd (pc := 57) dX12_seller_57 ?_
          refine jw_iald (pc := 58) dX12_seller_58 jg_133 jl_133 (jw_ho jg_133 (by decide)) (jw_wr _) rfl (fun h5 => ?_)
          refine jw_i2lr (pc := 59) dX12_seller_59 h5 ?_
          refine jw_goto (pc := 60) 72 dX12_seller_60 (by decide) ?_
          exact jw_ret (pc := 72) (v := M1 133 (jw_w (0 + a1))) dX12_seller_72 (jw_rq h5) rfl rfl
        · refine jw_aloadR (pc := 63) 0 dX12_seller_63 rfl ?_
          refine jw_iload_n (pc := 64) 1 dX12_seller_64 rfl ?_
          refine jw_iload_n (pc := 65) 2 dX12_seller_65 rfl ?_
          refine jw_iconst (pc := 66) dX12_seller_66 ?_
          refine jw_isub (pc := 67) dX12_seller_67 ?_
          refine jw_callVi (pc := 68) (As := [jI a1, jI (jw_w (a2 - 2))]) (st := []) dX12_seller_68 rfl (Nat.le_of_ble_eq_true rfl) qX12_goodsOf jt_1496 jt_1498 jp_65 rfl rfl (Nat.le_of_ble_eq_true rfl) jv_12 rfl jg_127 jl_127 (by decide) (jw_ho jg_127 (by decide)) (kX12_goodsOf G a1 (jw_w (a2 - 2)) ha1 (jw_wr _) M1) (fun v6 hv6 => ?_)
          refine jw_i2lr (pc := 71) dX12_seller_71 hv6 ?_
          exact jw_ret (pc := 72) (v := v6) dX12_seller_72 (jw_rq hv6) rfl rfl
theorem kX12_seller (G : jw_G) (a1 : Int) (a2 : Int) (ha1 : jw_r a1) (ha2 : jw_r a2) (M : jw_M) : jw_Ct G YX12_seller (some .long) 3 0 0 true (fun q => q) yX12_seller [jR G 127, jI a1, jI a2] M (fX12_seller a1 a2 M) := jw_met (by decide) rfl rfl rfl (Nat.le_of_ble_eq_true rfl) (rX12_seller G a1 a2 ha1 ha2 M)
abbrev YX12_watch : jw_Y := (RX12, cX12_watch, 4, 2, "watch")
theorem qX12_watch : jw_cy YX12_watch (some .long) yX12_watch 2 := ⟨by decide, jt_1503, jt_14, by decide, by decide +kernel⟩
theorem dX12_watch_0 : decode cX12_watch 0 = .ok (.aload_n 0, 1) := by decide +kernel
theorem dX12_watch_1 : decode cX12_watch 1 = .ok (.iconst 0, 1) := by decide +kernel
theorem dX12_watch_2 : decode cX12_watch 2 = .ok (.putfield 71, 3) := by decide +kernel
theorem dX12_watch_5 : decode cX12_watch 5 = .ok (.aload_n 0, 1) := by decide +kernel
theorem dX12_watch_6 : decode cX12_watch 6 = .ok (.iload_n 1, 1) := by decide +kernel
theorem dX12_watch_7 : decode cX12_watch 7 = .ok (.invokevirtual 237, 3) := by decide +kernel
theorem dX12_watch_10 : decode cX12_watch 10 = .ok (.ifCond .eq 11, 3) := by decide +kernel
theorem dX12_watch_13 : decode cX12_watch 13 = .ok (.aload_n 0, 1) := by decide +kernel
theorem dX12_watch_14 : decode cX12_watch 14 = .ok (.iload_n 2, 1) := by decide +kernel
theorem dX12_watch_15 : decode cX12_watch 15 = .ok (.invokevirtual 224, 3) := by decide +kernel
theorem dX12_watch_18 : decode cX12_watch 18 = .ok (.ifCond .ne 7, 3) := by decide +kernel
theorem dX12_watch_21 : decode cX12_watch 21 = .ok (.ldc2_w 92, 3) := by decide +kernel
theorem dX12_watch_24 : decode cX12_watch 24 = .ok (.lreturn, 1) := by decide +kernel
theorem dX12_watch_25 : decode cX12_watch 25 = .ok (.aload_n 0, 1) := by decide +kernel
theorem dX12_watch_26 : decode cX12_watch 26 = .ok (.getfield 25, 3) := by decide +kernel
theorem dX12_watch_29 : decode cX12_watch 29 = .ok (.iconst 5, 1) := by decide +kernel
theorem dX12_watch_30 : decode cX12_watch 30 = .ok (.iload_n 1, 1) := by decide +kernel
theorem dX12_watch_31 : decode cX12_watch 31 = .ok (.iadd, 1) := by decide +kernel
theorem dX12_watch_32 : decode cX12_watch 32 = .ok (.iaload, 1) := by decide +kernel
theorem dX12_watch_33 : decode cX12_watch 33 = .ok (.istore_n 3, 1) := by decide +kernel
theorem dX12_watch_34 : decode cX12_watch 34 = .ok (.aload_n 0, 1) := by decide +kernel
theorem dX12_watch_35 : decode cX12_watch 35 = .ok (.getfield 25, 3) := by decide +kernel
theorem dX12_watch_38 : decode cX12_watch 38 = .ok (.iconst 5, 1) := by decide +kernel
theorem dX12_watch_39 : decode cX12_watch 39 = .ok (.iload_n 1, 1) := by decide +kernel
theorem dX12_watch_40 : decode cX12_watch 40 = .ok (.iadd, 1) := by decide +kernel
theorem dX12_watch_41 : decode cX12_watch 41 = .ok (.iload_n 2, 1) := by decide +kernel
theorem dX12_watch_42 : decode cX12_watch 42 = .ok (.iastore, 1) := by decide +kernel
theorem dX12_watch_43 : decode cX12_watch 43 = .ok (.iload_n 3, 1) := by decide +kernel
theorem dX12_watch_44 : decode cX12_watch 44 = .ok (.i2l, 1) := by decide +kernel
theorem dX12_watch_45 : decode cX12_watch 45 = .ok (.lreturn, 1) := by decide +kernel
def fX12_watch (a1 : Int) (a2 : Int) (M : jw_M) : Option (Int × jw_M) :=
  Option.bind (some (jw_up M 127 0 0)) (fun M1 => Option.bind (fX12_isWatcher a1 M1) (fun v2 => if v2 = 0 then (some ((-9000000000000000001), M1)) else (Option.bind (fX12_isCorner a2 M1) (fun v3 => if v3 = 0 then (some ((-9000000000000000001), M1)) else (if 0 ≤ jw_w (5 + a1) ∧ jw_w (5 + a1) < 104 then Option.bind (some (M1 133 (jw_w (5 + a1)))) (fun v5 => if 0 ≤ jw_w (5 + a1) ∧ jw_w (5 + a1) < 104 then Option.bind (some (jw_up M1 133 (jw_w (5 + a1)) a2)) (fun M6 => some (v5, M6)) else none) else none)))))
set_option maxRecDepth 100000 in
theorem rX12_watch (G : jw_G) (a1 : Int) (a2 : Int) (ha1 : jw_r a1) (ha2 : jw_r a2) (M : jw_M) : jw_Rn G YX12_watch 3 0 0 true (fun q => q) 0 [(0, jR G 127), (1, jI a1), (2, jI a2)] [] M (fX12_watch a1 a2 M) := by
  unfold fX12_watch
  refine jw_aloadR (pc := 0) 0 dX12_watch_0 rfl ?_
  refine jw_iconst (pc := 1) dX12_watch_1 ?_
  refine jw_putI (pc := 2) (j := 0) tyX12 rfl dX12_watch_2 jv_12 ji_12 tyX12_ok nmX12 (Or.inl jt_1231) rfl jg_127 jl_127 (by decide) (by decide) (jw_ho jg_127 (by decide)) rfl rfl (jw_rc _ rfl) rfl ?_
  refine jw_letM (fun M1 => ?_)
  refine jw_aloadR (pc := 5) 0 dX12_watch_5 rfl ?_
  refine jw_iload_n (pc := 6) 1 dX12_watch_6 rfl ?_
  refine jw_callVz (pc := 7) (As := [jI a1]) (st := []) dX12_watch_7 rfl (Nat.le_of_ble_eq_true rfl) qX12_isWatcher jt_1504 jt_1506 jp_66 rfl rfl (Nat.le_of_ble_eq_true rfl) jv_12 rfl jg_127 jl_127 (by decide) (jw_ho jg_127 (by decide)) (kX12_isWatcher G a1 ha1 M1) (fun v2 hv2 => ?_)
  refine jw_if_eq (pc := 10) 21 dX12_watch_10 (by decide) (jw_bz hv2) (fun _ => ?_) (fun _ => ?_)
  · refine jw_ldc2 (pc := 21) (n := (-9000000000000000001)) dX12_watch_21 jt_1349 (by decide) ?_
    exact jw_ret (pc := 24) (v := (-9000000000000000001)) dX12_watch_24 (jw_qc _ rfl) rfl rfl
  · refine jw_aloadR (pc := 13) 0 dX12_watch_13 rfl ?_
    refine jw_iload_n (pc := 14) 2 dX12_watch_14 rfl ?_
    refine jw_callVz (pc := 15) (As := [jI a2]) (st := []) dX12_watch_15 rfl (Nat.le_of_ble_eq_true rfl) qX12_isCorner jt_1478 jt_1480 jp_63 rfl rfl (Nat.le_of_ble_eq_true rfl) jv_12 rfl jg_127 jl_127 (by decide) (jw_ho jg_127 (by decide)) (kX12_isCorner G a2 ha2 M1) (fun v3 hv3 => ?_)
    refine jw_if_ne (pc := 18) 25 dX12_watch_18 (by decide) (jw_bz hv3) (fun _ => ?_) (fun _ => ?_)
    · refine jw_ldc2 (pc := 21) (n := (-9000000000000000001)) dX12_watch_21 jt_1349 (by decide) ?_
      exact jw_ret (pc := 24) (v := (-9000000000000000001)) dX12_watch_24 (jw_qc _ rfl) rfl rfl
    · refine jw_aloadR (pc := 25) 0 dX12_watch_25 rfl ?_
      refine jw_getR (pc := 26) (j := 8) rfl dX12_watch_26 jv_12 ji_12 (Or.inl jt_1239) jg_127 jl_127 (by decide) (by decide) rfl jf_12_8 ?_
      refine jw_iconst (pc := 29) dX12_watch_29 ?_
      refine jw_iload_n (pc := 30) 1 dX12_watch_30 rfl ?_
      refine jw_iadd (pc := 31) dX12_watch_31 ?_
      refine jw_iald (pc := 32) dX12_watch_32 jg_133 jl_133 (jw_ho jg_133 (by decide)) (jw_wr _) rfl (fun h4 => ?_)
      refine jw_istore_nL (pc := 33) (lv' := (fun y => [(3, y), (0, jR G 127), (1, jI a1), (2, jI a2)])) dX12_watch_33 h4 (by decide) (fun _ => rfl) (fun v5 hv5 => ?_)
      refine jw_aloadR (pc := 34) 1 dX12_watch_34 rfl ?_
      refine jw_getR (pc := 35) (j := 8) rfl dX12_watch_35 jv_12 ji_12 (Or.inl jt_1239) jg_127 jl_127 (by decide) (by decide) rfl jf_12_8 ?_
      refine jw_iconst (pc := 38) dX12_watch_38 ?_
      refine jw_iload_n (pc := 39) 2 dX12_watch_39 rfl ?_
      refine jw_iadd (pc := 40) dX12_watch_40 ?_
      refine jw_iload_n (pc := 41) 3 dX12_watch_41 rfl ?_
      refine jw_iast (pc := 42) dX12_watch_42 jg_133 jl_133 (jw_ho jg_133 (by decide)) (jw_wr _) ha2 rfl ?_
      refine jw_letM (fun M6 => ?_)
      refine jw_iload_n (pc := 43) 0 dX12_watch_43 rfl ?_
      refine jw_i2lr (pc := 44) dX12_watch_44 hv5 ?_
      exact jw_ret (pc := 45) (v := v5) dX12_watch_45 (jw_rq hv5) rfl rfl
theorem kX12_watch (G : jw_G) (a1 : Int) (a2 : Int) (ha1 : jw_r a1) (ha2 : jw_r a2) (M : jw_M) : jw_Ct G YX12_watch (some .long) 3 0 0 true (fun q => q) yX12_watch [jR G 127, jI a1, jI a2] M (fX12_watch a1 a2 M) := jw_met (by decide) rfl rfl rfl (Nat.le_of_ble_eq_true rfl) (rX12_watch G a1 a2 ha1 ha2 M)
abbrev YX12_clearComes : jw_Y := (RX12, cX12_clearComes, 2, 0, "clearComes")
theorem qX12_clearComes : jw_cy YX12_clearComes none yX12_clearComes 0 := ⟨by decide, jt_1517, jt_14, by decide, by decide +kernel⟩
theorem dX12_clearComes_0 : decode cX12_clearComes 0 = .ok (.iconst 0, 1) := by decide +kernel
theorem dX12_clearComes_1 : decode cX12_clearComes 1 = .ok (.istore_n 1, 1) := by decide +kernel
theorem dX12_clearComes_2 : decode cX12_clearComes 2 = .ok (.iload_n 1, 1) := by decide +kernel
theorem dX12_clearComes_3 : decode cX12_clearComes 3 = .ok (.bipush 7, 2) := by decide +kernel
theorem dX12_clearComes_5 : decode cX12_clearComes 5 = .ok (.if_icmp .ge 17, 3) := by decide +kernel
theorem dX12_clearComes_8 : decode cX12_clearComes 8 = .ok (.aload_n 0, 1) := by decide +kernel
theorem dX12_clearComes_9 : decode cX12_clearComes 9 = .ok (.getfield 37, 3) := by decide +kernel
theorem dX12_clearComes_12 : decode cX12_clearComes 12 = .ok (.iload_n 1, 1) := by decide +kernel
theorem dX12_clearComes_13 : decode cX12_clearComes 13 = .ok (.ldc 223, 2) := by decide +kernel
theorem dX12_clearComes_15 : decode cX12_clearComes 15 = .ok (.iastore, 1) := by decide +kernel
theorem dX12_clearComes_16 : decode cX12_clearComes 16 = .ok (.iinc 1 1, 3) := by decide +kernel
theorem dX12_clearComes_19 : decode cX12_clearComes 19 = .ok (.goto (-17), 3) := by decide +kernel
theorem dX12_clearComes_22 : decode cX12_clearComes 22 = .ok (.return_, 1) := by decide +kernel
def fX12_clearComes_2 : Nat → Int → jw_M → Option jw_M
  | 0, _, _ => none
  | k + 1, x1, M => if x1 < 7 then (if 0 ≤ x1 ∧ x1 < 7 then Option.bind (some (jw_up M 137 x1 1000000)) (fun M2 => Option.bind (some (jw_w (x1 + 1))) (fun v3 => fX12_clearComes_2 k v3 M2)) else none) else (some M)
set_option maxRecDepth 100000 in
theorem pX12_clearComes_2 (G : jw_G) : ∀ (k : Nat) (x1 : Int) (hx1 : jw_r x1) (M : jw_M), jw_Rn G YX12_clearComes 1 0 0 true (fun M1 => (0, M1)) 2 [(0, jR G 127), (1, jI x1)] [] M (fX12_clearComes_2 k x1 M) := by
  intro k
  induction k with
  | zero =>
    intro x1 hx1 M
    exact jw_none
  | succ k ih =>
    intro x1 hx1 M
    rw [fX12_clearComes_2]
    refine jw_iload_n (pc := 2) 1 dX12_clearComes_2 rfl ?_
    refine jw_bipush (pc := 3) dX12_clearComes_3 rfl ?_
    refine jw_ic_ge (pc := 5) 22 dX12_clearComes_5 (by decide) hx1 (jw_rc _ rfl) (fun _ => ?_) (fun _ => ?_)
    · refine jw_aloadR (pc := 8) 0 dX12_clearComes_8 rfl ?_
      refine jw_getR (pc := 9) (j := 21) rfl dX12_clearComes_9 jv_12 ji_12 (Or.inl jt_1252) jg_127 jl_127 (by decide) (by decide) rfl jf_12_21 ?_
      refine jw_iload_n (pc := 12) 1 dX12_clearComes_12 rfl ?_
      refine jw_ldc (pc := 13) (n := 1000000) dX12_clearComes_13 jt_1469 (by decide) ?_
      refine jw_iast (pc := 15) dX12_clearComes_15 jg_137 jl_137 (jw_ho jg_137 (by decide)) hx1 (jw_rc _ rfl) rfl ?_
      refine jw_letM (fun M2 => ?_)
      refine jw_iincL (pc := 16) 1 (lv' := (fun y => [(1, y), (0, jR G 127)])) dX12_clearComes_16 rfl (Nat.le_of_ble_eq_true rfl) (fun _ => rfl) (fun v3 hv3 => ?_)
      refine jw_goto (pc := 19) 2 dX12_clearComes_19 (by decide) ?_
      exact jw_few [1, 0] rfl (ih v3 hv3 M2)
    · exact jw_ret (pc := 22) (v := 0) dX12_clearComes_22 trivial rfl rfl
def fX12_clearComes (M : jw_M) : Option jw_M :=
  Option.bind (some 0) (fun v1 => fX12_clearComes_2 jw_fu v1 M)
set_option maxRecDepth 100000 in
theorem rX12_clearComes (G : jw_G) (M : jw_M) : jw_Rn G YX12_clearComes 1 0 0 true (fun M1 => (0, M1)) 0 [(0, jR G 127)] [] M (fX12_clearComes M) := by
  unfold fX12_clearComes
  refine jw_iconst (pc := 0) dX12_clearComes_0 ?_
  refine jw_istore_nL (pc := 1) (lv' := (fun y => [(1, y), (0, jR G 127)])) dX12_clearComes_1 (jw_rc _ rfl) (by decide) (fun _ => rfl) (fun v1 hv1 => ?_)
  exact jw_few [1, 0] rfl (pX12_clearComes_2 G jw_fu v1 hv1 M)
theorem kX12_clearComes (G : jw_G) (M : jw_M) : jw_Ct G YX12_clearComes none 1 0 0 true (fun M1 => (0, M1)) yX12_clearComes [jR G 127] M (fX12_clearComes M) := jw_met (by decide) rfl rfl rfl (Nat.le_of_ble_eq_true rfl) (rX12_clearComes G M)
abbrev YX12_goRoute : jw_Y := (RX12, cX12_goRoute, 7, 4, "goRoute")
theorem qX12_goRoute : jw_cy YX12_goRoute (some .boolean) yX12_goRoute 2 := ⟨by decide, jt_1521, jt_14, by decide, by decide +kernel⟩
theorem dX12_goRoute_0 : decode cX12_goRoute 0 = .ok (.iconst 0, 1) := by decide +kernel
theorem dX12_goRoute_1 : decode cX12_goRoute 1 = .ok (.istore_n 3, 1) := by decide +kernel
theorem dX12_goRoute_2 : decode cX12_goRoute 2 = .ok (.iconst 0, 1) := by decide +kernel
theorem dX12_goRoute_3 : decode cX12_goRoute 3 = .ok (.istore 4, 2) := by decide +kernel
theorem dX12_goRoute_5 : decode cX12_goRoute 5 = .ok (.iload 4, 2) := by decide +kernel
theorem dX12_goRoute_7 : decode cX12_goRoute 7 = .ok (.iload_n 2, 1) := by decide +kernel
theorem dX12_goRoute_8 : decode cX12_goRoute 8 = .ok (.if_icmp .ge 113, 3) := by decide +kernel
theorem dX12_goRoute_11 : decode cX12_goRoute 11 = .ok (.aload_n 0, 1) := by decide +kernel
theorem dX12_goRoute_12 : decode cX12_goRoute 12 = .ok (.getfield 16, 3) := by decide +kernel
theorem dX12_goRoute_15 : decode cX12_goRoute 15 = .ok (.iload_n 1, 1) := by decide +kernel
theorem dX12_goRoute_16 : decode cX12_goRoute 16 = .ok (.iload 4, 2) := by decide +kernel
theorem dX12_goRoute_18 : decode cX12_goRoute 18 = .ok (.iadd, 1) := by decide +kernel
theorem dX12_goRoute_19 : decode cX12_goRoute 19 = .ok (.iaload, 1) := by decide +kernel
theorem dX12_goRoute_20 : decode cX12_goRoute 20 = .ok (.istore 5, 2) := by decide +kernel
theorem dX12_goRoute_22 : decode cX12_goRoute 22 = .ok (.aload_n 0, 1) := by decide +kernel
theorem dX12_goRoute_23 : decode cX12_goRoute 23 = .ok (.iload 5, 2) := by decide +kernel
theorem dX12_goRoute_25 : decode cX12_goRoute 25 = .ok (.invokevirtual 224, 3) := by decide +kernel
theorem dX12_goRoute_28 : decode cX12_goRoute 28 = .ok (.ifCond .ne 5, 3) := by decide +kernel
theorem dX12_goRoute_31 : decode cX12_goRoute 31 = .ok (.iconst 0, 1) := by decide +kernel
theorem dX12_goRoute_32 : decode cX12_goRoute 32 = .ok (.ireturn, 1) := by decide +kernel
theorem dX12_goRoute_33 : decode cX12_goRoute 33 = .ok (.iload 4, 2) := by decide +kernel
theorem dX12_goRoute_35 : decode cX12_goRoute 35 = .ok (.ifCond .ne 7, 3) := by decide +kernel
theorem dX12_goRoute_38 : decode cX12_goRoute 38 = .ok (.iconst 0, 1) := by decide +kernel
theorem dX12_goRoute_39 : decode cX12_goRoute 39 = .ok (.goto 28, 3) := by decide +kernel
theorem dX12_goRoute_42 : decode cX12_goRoute 42 = .ok (.aload_n 0, 1) := by decide +kernel
theorem dX12_goRoute_43 : decode cX12_goRoute 43 = .ok (.getfield 19, 3) := by decide +kernel
theorem dX12_goRoute_46 : decode cX12_goRoute 46 = .ok (.bipush 14, 2) := by decide +kernel
theorem dX12_goRoute_48 : decode cX12_goRoute 48 = .ok (.bipush 7, 2) := by decide +kernel
theorem dX12_goRoute_50 : decode cX12_goRoute 50 = .ok (.aload_n 0, 1) := by decide +kernel
theorem dX12_goRoute_51 : decode cX12_goRoute 51 = .ok (.getfield 16, 3) := by decide +kernel
theorem dX12_goRoute_54 : decode cX12_goRoute 54 = .ok (.iload_n 1, 1) := by decide +kernel
theorem dX12_goRoute_55 : decode cX12_goRoute 55 = .ok (.iload 4, 2) := by decide +kernel
theorem dX12_goRoute_57 : decode cX12_goRoute 57 = .ok (.iadd, 1) := by decide +kernel
theorem dX12_goRoute_58 : decode cX12_goRoute 58 = .ok (.iconst 1, 1) := by decide +kernel
theorem dX12_goRoute_59 : decode cX12_goRoute 59 = .ok (.isub, 1) := by decide +kernel
theorem dX12_goRoute_60 : decode cX12_goRoute 60 = .ok (.iaload, 1) := by decide +kernel
theorem dX12_goRoute_61 : decode cX12_goRoute 61 = .ok (.imul, 1) := by decide +kernel
theorem dX12_goRoute_62 : decode cX12_goRoute 62 = .ok (.iadd, 1) := by decide +kernel
theorem dX12_goRoute_63 : decode cX12_goRoute 63 = .ok (.iload 5, 2) := by decide +kernel
theorem dX12_goRoute_65 : decode cX12_goRoute 65 = .ok (.iadd, 1) := by decide +kernel
theorem dX12_goRoute_66 : decode cX12_goRoute 66 = .ok (.iaload, 1) := by decide +kernel
theorem dX12_goRoute_67 : decode cX12_goRoute 67 = .ok (.istore 6, 2) := by decide +kernel
theorem dX12_goRoute_69 : decode cX12_goRoute 69 = .ok (.iload 4, 2) := by decide +kernel
theorem dX12_goRoute_71 : decode cX12_goRoute 71 = .ok (.ifCond .le 10, 3) := by decide +kernel
theorem dX12_goRoute_74 : decode cX12_goRoute 74 = .ok (.iload 6, 2) := by decide +kernel
theorem dX12_goRoute_76 : decode cX12_goRoute 76 = .ok (.ifCond .ne 5, 3) := by decide +kernel
theorem dX12_goRoute_79 : decode cX12_goRoute 79 = .ok (.iconst 0, 1) := by decide +kernel
theorem dX12_goRoute_80 : decode cX12_goRoute 80 = .ok (.ireturn, 1) := by decide +kernel
theorem dX12_goRoute_81 : decode cX12_goRoute 81 = .ok (.iload_n 3, 1) := by decide +kernel
theorem dX12_goRoute_82 : decode cX12_goRoute 82 = .ok (.iload 6, 2) := by decide +kernel
theorem dX12_goRoute_84 : decode cX12_goRoute 84 = .ok (.iadd, 1) := by decide +kernel
theorem dX12_goRoute_85 : decode cX12_goRoute 85 = .ok (.istore_n 3, 1) := by decide +kernel
theorem dX12_goRoute_86 : decode cX12_goRoute 86 = .ok (.aload_n 0, 1) := by decide +kernel
theorem dX12_goRoute_87 : decode cX12_goRoute 87 = .ok (.getfield 37, 3) := by decide +kernel
theorem dX12_goRoute_90 : decode cX12_goRoute 90 = .ok (.iload 5, 2) := by decide +kernel
theorem dX12_goRoute_92 : decode cX12_goRoute 92 = .ok (.iload_n 3, 1) := by decide +kernel
theorem dX12_goRoute_93 : decode cX12_goRoute 93 = .ok (.aload_n 0, 1) := by decide +kernel
theorem dX12_goRoute_94 : decode cX12_goRoute 94 = .ok (.getfield 37, 3) := by decide +kernel
theorem dX12_goRoute_97 : decode cX12_goRoute 97 = .ok (.iload 5, 2) := by decide +kernel
theorem dX12_goRoute_99 : decode cX12_goRoute 99 = .ok (.iaload, 1) := by decide +kernel
theorem dX12_goRoute_100 : decode cX12_goRoute 100 = .ok (.if_icmp .ge 7, 3) := by decide +kernel
theorem dX12_goRoute_103 : decode cX12_goRoute 103 = .ok (.iload_n 3, 1) := by decide +kernel
theorem dX12_goRoute_104 : decode cX12_goRoute 104 = .ok (.goto 10, 3) := by decide +kernel
theorem dX12_goRoute_107 : decode cX12_goRoute 107 = .ok (.aload_n 0, 1) := by decide +kernel
theorem dX12_goRoute_108 : decode cX12_goRoute 108 = .ok (.getfield 37, 3) := by decide +kernel
theorem dX12_goRoute_111 : decode cX12_goRoute 111 = .ok (.iload 5, 2) := by decide +kernel
theorem dX12_goRoute_113 : decode cX12_goRoute 113 = .ok (.iaload, 1) := by decide +kernel
theorem dX12_goRoute_114 : decode cX12_goRoute 114 = .ok (.iastore, 1) := by decide +kernel
theorem dX12_goRoute_115 : decode cX12_goRoute 115 = .ok (.iinc 4 1, 3) := by decide +kernel
theorem dX12_goRoute_118 : decode cX12_goRoute 118 = .ok (.goto (-113), 3) := by decide +kernel
theorem dX12_goRoute_121 : decode cX12_goRoute 121 = .ok (.iconst 1, 1) := by decide +kernel
theorem dX12_goRoute_122 : decode cX12_goRoute 122 = .ok (.ireturn, 1) := by decide +kernel
def fX12_goRoute_114 (r5 : Int → Int → Int → Int → jw_M → Option (Int × jw_M)) (x1 : Int) (x2 : Int) (x3 : Int) (x4 : Int) (xs0 : Int) (xs1 : Int) (M : jw_M) : Option (Int × jw_M) :=
  if 0 ≤ xs1 ∧ xs1 < 7 then Option.bind (some (jw_up M 137 xs1 xs0)) (fun M9 => Option.bind (some (jw_w (x4 + 1))) (fun v10 => r5 x1 x2 x3 v10 M9)) else none
set_option maxRecDepth 100000 in
theorem pX12_goRoute_114 (G : jw_G) (r5 : Int → Int → Int → Int → jw_M → Option (Int × jw_M)) (hr5 : ∀ (x1 : Int) (x2 : Int) (x3 : Int) (x4 : Int) (hx1 : jw_r x1) (hx2 : jw_r x2) (hx3 : jw_r x3) (hx4 : jw_r x4) (M : jw_M), jw_Rn G YX12_goRoute 3 0 0 true (fun q => q) 5 [(0, jR G 127), (1, jI x1), (2, jI x2), (3, jI x3), (4, jI x4)] [] M (r5 x1 x2 x3 x4 M)) : ∀ (x1 : Int) (x2 : Int) (x3 : Int) (x4 : Int) (xs0 : Int) (xs1 : Int) (hx1 : jw_r x1) (hx2 : jw_r x2) (hx3 : jw_r x3) (hx4 : jw_r x4) (hxs0 : jw_r xs0) (hxs1 : jw_r xs1) (M : jw_M), jw_Rn G YX12_goRoute 3 0 0 true (fun q => q) 114 [(0, jR G 127), (1, jI x1), (2, jI x2), (3, jI x3), (4, jI x4)] [jI xs0, jI xs1, jR G 137] M (fX12_goRoute_114 r5 x1 x2 x3 x4 xs0 xs1 M) := by
  intro x1 x2 x3 x4 xs0 xs1 hx1 hx2 hx3 hx4 hxs0 hxs1 M
  unfold fX12_goRoute_114
  refine jw_iast (pc := 114) dX12_goRoute_114 jg_137 jl_137 (jw_ho jg_137 (by decide)) hxs1 hxs0 rfl ?_
  refine jw_letM (fun M9 => ?_)
  refine jw_iincL (pc := 115) 4 (lv' := (fun y => [(4, y), (0, jR G 127), (1, jI x1), (2, jI x2), (3, jI x3)])) dX12_goRoute_115 rfl (Nat.le_of_ble_eq_true rfl) (fun _ => rfl) (fun v10 hv10 => ?_)
  refine jw_goto (pc := 118) 5 dX12_goRoute_118 (by decide) ?_
  exact jw_few [1, 2, 3, 4, 0] rfl (hr5 x1 x2 x3 v10 hx1 hx2 hx3 hv10 M9)
def fX12_goRoute_81 (r5 : Int → Int → Int → Int → jw_M → Option (Int × jw_M)) (x1 : Int) (x2 : Int) (x3 : Int) (x4 : Int) (x5 : Int) (x6 : Int) (M : jw_M) : Option (Int × jw_M) :=
  Option.bind (some (jw_w (x3 + x6))) (fun v7 => if 0 ≤ x5 ∧ x5 < 7 then if v7 < M 137 x5 then (fX12_goRoute_114 r5 x1 x2 v7 x4 v7 x5 M) else (if 0 ≤ x5 ∧ x5 < 7 then fX12_goRoute_114 r5 x1 x2 v7 x4 (M 137 x5) x5 M else none) else none)
set_option maxRecDepth 100000 in
theorem pX12_goRoute_81 (G : jw_G) (r5 : Int → Int → Int → Int → jw_M → Option (Int × jw_M)) (hr5 : ∀ (x1 : Int) (x2 : Int) (x3 : Int) (x4 : Int) (hx1 : jw_r x1) (hx2 : jw_r x2) (hx3 : jw_r x3) (hx4 : jw_r x4) (M : jw_M), jw_Rn G YX12_goRoute 3 0 0 true (fun q => q) 5 [(0, jR G 127), (1, jI x1), (2, jI x2), (3, jI x3), (4, jI x4)] [] M (r5 x1 x2 x3 x4 M)) : ∀ (x1 : Int) (x2 : Int) (x3 : Int) (x4 : Int) (x5 : Int) (x6 : Int) (hx1 : jw_r x1) (hx2 : jw_r x2) (hx3 : jw_r x3) (hx4 : jw_r x4) (hx5 : jw_r x5) (hx6 : jw_r x6) (M : jw_M), jw_Rn G YX12_goRoute 3 0 0 true (fun q => q) 81 [(0, jR G 127), (1, jI x1), (2, jI x2), (3, jI x3), (4, jI x4), (5, jI x5), (6, jI x6)] [] M (fX12_goRoute_81 r5 x1 x2 x3 x4 x5 x6 M) := by
  intro x1 x2 x3 x4 x5 x6 hx1 hx2 hx3 hx4 hx5 hx6 M
  unfold fX12_goRoute_81
  refine jw_iload_n (pc := 81) 3 dX12_goRoute_81 rfl ?_
  refine jw_iload (pc := 82) 6 dX12_goRoute_82 rfl ?_
  refine jw_iadd (pc := 84) dX12_goRoute_84 ?_
  refine jw_istore_nL (pc := 85) (lv' := (fun y => [(3, y), (0, jR G 127), (1, jI x1), (2, jI x2), (4, jI x4), (5, jI x5), (6, jI x6)])) dX12_goRoute_85 (jw_wr _) (by decide) (fun _ => rfl) (fun v7 hv7 => ?_)
  refine jw_aloadR (pc := 86) 1 dX12_goRoute_86 rfl ?_
  refine jw_getR (pc := 87) (j := 21) rfl dX12_goRoute_87 jv_12 ji_12 (Or.inl jt_1252) jg_127 jl_127 (by decide) (by decide) rfl jf_12_21 ?_
  refine jw_iload (pc := 90) 5 dX12_goRoute_90 rfl ?_
  refine jw_iload_n (pc := 92) 0 dX12_goRoute_92 rfl ?_
  refine jw_aloadR (pc := 93) 1 dX12_goRoute_93 rfl ?_
  refine jw_getR (pc := 94) (j := 21) rfl dX12_goRoute_94 jv_12 ji_12 (Or.inl jt_1252) jg_127 jl_127 (by decide) (by decide) rfl jf_12_21 ?_
  refine jw_iload (pc := 97) 5 dX12_goRoute_97 rfl ?_
  refine jw_iald (pc := 99) dX12_goRoute_99 jg_137 jl_137 (jw_ho jg_137 (by decide)) hx5 rfl (fun h8 => ?_)
  refine jw_ic_ge (pc := 100) 107 dX12_goRoute_100 (by decide) hv7 h8 (fun _ => ?_) (fun _ => ?_)
  · refine jw_iload_n (pc := 103) 0 dX12_goRoute_103 rfl ?_
    refine jw_goto (pc := 104) 114 dX12_goRoute_104 (by decide) ?_
    exact jw_few [1, 2, 3, 0, 4] rfl (pX12_goRoute_114 G r5 hr5 x1 x2 v7 x4 v7 x5 hx1 hx2 hv7 hx4 hv7 hx5 M)
  · refine jw_aloadR (pc := 107) 1 dX12_goRoute_107 rfl ?_
    refine jw_getR (pc := 108) (j := 21) rfl dX12_goRoute_108 jv_12 ji_12 (Or.inl jt_1252) jg_127 jl_127 (by decide) (by decide) rfl jf_12_21 ?_
    refine jw_iload (pc := 111) 5 dX12_goRoute_111 rfl ?_
    refine jw_iald (pc := 113) dX12_goRoute_113 jg_137 jl_137 (jw_ho jg_137 (by decide)) hx5 rfl (fun h11 => ?_)
    exact jw_few [1, 2, 3, 0, 4] rfl (pX12_goRoute_114 G r5 hr5 x1 x2 v7 x4 (M 137 x5) x5 hx1 hx2 hv7 hx4 h11 hx5 M)
def fX12_goRoute_67 (r5 : Int → Int → Int → Int → jw_M → Option (Int × jw_M)) (x1 : Int) (x2 : Int) (x3 : Int) (x4 : Int) (x5 : Int) (xs0 : Int) (M : jw_M) : Option (Int × jw_M) :=
  Option.bind (some xs0) (fun v6 => if (0 : Int) < x4 then (if v6 = 0 then (some (0, M)) else (fX12_goRoute_81 r5 x1 x2 x3 x4 x5 v6 M)) else (fX12_goRoute_81 r5 x1 x2 x3 x4 x5 v6 M))
set_option maxRecDepth 100000 in
theorem pX12_goRoute_67 (G : jw_G) (r5 : Int → Int → Int → Int → jw_M → Option (Int × jw_M)) (hr5 : ∀ (x1 : Int) (x2 : Int) (x3 : Int) (x4 : Int) (hx1 : jw_r x1) (hx2 : jw_r x2) (hx3 : jw_r x3) (hx4 : jw_r x4) (M : jw_M), jw_Rn G YX12_goRoute 3 0 0 true (fun q => q) 5 [(0, jR G 127), (1, jI x1), (2, jI x2), (3, jI x3), (4, jI x4)] [] M (r5 x1 x2 x3 x4 M)) : ∀ (x1 : Int) (x2 : Int) (x3 : Int) (x4 : Int) (x5 : Int) (xs0 : Int) (hx1 : jw_r x1) (hx2 : jw_r x2) (hx3 : jw_r x3) (hx4 : jw_r x4) (hx5 : jw_r x5) (hxs0 : jw_r xs0) (M : jw_M), jw_Rn G YX12_goRoute 3 0 0 true (fun q => q) 67 [(0, jR G 127), (1, jI x1), (2, jI x2), (3, jI x3), (4, jI x4), (5, jI x5)] [jI xs0] M (fX12_goRoute_67 r5 x1 x2 x3 x4 x5 xs0 M) := by
  intro x1 x2 x3 x4 x5 xs0 hx1 hx2 hx3 hx4 hx5 hxs0 M
  unfold fX12_goRoute_67
  refine jw_istoreL (pc := 67) (lv' := (fun y => [(6, y), (0, jR G 127), (1, jI x1), (2, jI x2), (3, jI x3), (4, jI x4), (5, jI x5)])) dX12_goRoute_67 hxs0 (by decide) (fun _ => rfl) (fun v6 hv6 => ?_)
  refine jw_iload (pc := 69) 5 dX12_goRoute_69 rfl ?_
  refine jw_if_le (pc := 71) 81 dX12_goRoute_71 (by decide) hx4 (fun _ => ?_) (fun _ => ?_)
  · refine jw_iload (pc := 74) 0 dX12_goRoute_74 rfl ?_
    refine jw_if_ne (pc := 76) 81 dX12_goRoute_76 (by decide) hv6 (fun _ => ?_) (fun _ => ?_)
    · refine jw_iconst (pc := 79) dX12_goRoute_79 ?_
      exact jw_ret (pc := 80) (v := 0) dX12_goRoute_80 (Or.inl rfl) rfl rfl
    · exact jw_few [1, 2, 3, 4, 5, 6, 0] rfl (pX12_goRoute_81 G r5 hr5 x1 x2 x3 x4 x5 v6 hx1 hx2 hx3 hx4 hx5 hv6 M)
  · exact jw_few [1, 2, 3, 4, 5, 6, 0] rfl (pX12_goRoute_81 G r5 hr5 x1 x2 x3 x4 x5 v6 hx1 hx2 hx3 hx4 hx5 hv6 M)
def fX12_goRoute_5 : Nat → Int → Int → Int → Int → jw_M → Option (Int × jw_M)
  | 0, _, _, _, _, _ => none
  | k + 1, x1, x2, x3, x4, M => if x4 < x2 then (if 0 ≤ jw_w (x1 + x4) ∧ jw_w (x1 + x4) < 320 then Option.bind (some (M 130 (jw_w (x1 + x4)))) (fun v4 => Option.bind (fX12_isCorner v4 M) (fun v5 => if v5 = 0 then (some (0, M)) else (if x4 = 0 then (fX12_goRoute_67 (fX12_goRoute_5 k) x1 x2 x3 x4 v4 0 M) else (if 0 ≤ jw_w ((jw_w (x1 + x4)) - 1) ∧ jw_w ((jw_w (x1 + x4)) - 1) < 320 then if 0 ≤ jw_w ((jw_w (14 + (jw_w (7 * (M 130 (jw_w ((jw_w (x1 + x4)) - 1))))))) + v4) ∧ jw_w ((jw_w (14 + (jw_w (7 * (M 130 (jw_w ((jw_w (x1 + x4)) - 1))))))) + v4) < 104 then fX12_goRoute_67 (fX12_goRoute_5 k) x1 x2 x3 x4 v4 (M 131 (jw_w ((jw_w (14 + (jw_w (7 * (M 130 (jw_w ((jw_w (x1 + x4)) - 1))))))) + v4))) M else none else none)))) else none) else (some (1, M))
set_option maxRecDepth 100000 in
theorem pX12_goRoute_5 (G : jw_G) : ∀ (k : Nat) (x1 : Int) (x2 : Int) (x3 : Int) (x4 : Int) (hx1 : jw_r x1) (hx2 : jw_r x2) (hx3 : jw_r x3) (hx4 : jw_r x4) (M : jw_M), jw_Rn G YX12_goRoute 3 0 0 true (fun q => q) 5 [(0, jR G 127), (1, jI x1), (2, jI x2), (3, jI x3), (4, jI x4)] [] M (fX12_goRoute_5 k x1 x2 x3 x4 M) := by
  intro k
  induction k with
  | zero =>
    intro x1 x2 x3 x4 hx1 hx2 hx3 hx4 M
    exact jw_none
  | succ k ih =>
    intro x1 x2 x3 x4 hx1 hx2 hx3 hx4 M
    rw [fX12_goRoute_5]
    refine jw_iload (pc := 5) 4 dX12_goRoute_5 rfl ?_
    refine jw_iload_n (pc := 7) 2 dX12_goRoute_7 rfl ?_
    refine jw_ic_ge (pc := 8) 121 dX12_goRoute_8 (by decide) hx4 hx2 (fun _ => ?_) (fun _ => ?_)
    · refine jw_aloadR (pc := 11) 0 dX12_goRoute_11 rfl ?_
      refine jw_getR (pc := 12) (j := 4) rfl dX12_goRoute_12 jv_12 ji_12 (Or.inl jt_1235) jg_127 jl_127 (by decide) (by decide) rfl jf_12_4 ?_
      refine jw_iload_n (pc := 15) 1 dX12_goRoute_15 rfl ?_
      refine jw_iload (pc := 16) 4 dX12_goRoute_16 rfl ?_
      refine jw_iadd (pc := 18) dX12_goRoute_18 ?_
      refine jw_iald (pc := 19) dX12_goRoute_19 jg_130 jl_130 (jw_ho jg_130 (by decide)) (jw_wr _) rfl (fun h3 => ?_)
      refine jw_istoreL (pc := 20) (lv' := (fun y => [(5, y), (0, jR G 127), (1, jI x1), (2, jI x2), (3, jI x3), (4, jI x4)])) dX12_goRoute_20 h3 (by decide) (fun _ => rfl) (fun v4 hv4 => ?_)
      refine jw_aloadR (pc := 22) 1 dX12_goRoute_22 rfl ?_
      refine jw_iload (pc := 23) 0 dX12_goRoute_23 rfl ?_
      refine jw_callVz (pc := 25) (As := [jI v4]) (st := []) dX12_goRoute_25 rfl (Nat.le_of_ble_eq_true rfl) qX12_isCorner jt_1478 jt_1480 jp_63 rfl rfl (Nat.le_of_ble_eq_true rfl) jv_12 rfl jg_127 jl_127 (by decide) (jw_ho jg_127 (by decide)) (kX12_isCorner G v4 hv4 M) (fun v5 hv5 => ?_)
      refine jw_if_ne (pc := 28) 33 dX12_goRoute_28 (by decide) (jw_bz hv5) (fun _ => ?_) (fun _ => ?_)
      · refine jw_iconst (pc := 31) dX12_goRoute_31 ?_
        exact jw_ret (pc := 32) (v := 0) dX12_goRoute_32 (Or.inl rfl) rfl rfl
      · refine jw_iload (pc := 33) 5 dX12_goRoute_33 rfl ?_
        refine jw_if_ne (pc := 35) 42 dX12_goRoute_35 (by decide) hx4 (fun _ => ?_) (fun _ => ?_)
        · refine jw_iconst (pc := 38) dX12_goRoute_38 ?_
          refine jw_goto (pc := 39) 67 dX12_goRoute_39 (by decide) ?_
          exact jw_few [1, 2, 3, 4, 5, 0] rfl (pX12_goRoute_67 G (fX12_goRoute_5 k) ih x1 x2 x3 x4 v4 0 hx1 hx2 hx3 hx4 hv4 (jw_rc _ rfl) M)
        · refine jw_aloadR (pc := 42) 1 dX12_goRoute_42 rfl ?_
          refine jw_getR (pc := 43) (j := 5) rfl dX12_goRoute_43 jv_12 ji_12 (Or.inl jt_1236) jg_127 jl_127 (by decide) (by decide) rfl jf_12_5 ?_
          refine jw_bipush (pc := 46) dX12_goRoute_46 rfl ?_
          refine jw_bipush (pc := 48) dX12_goRoute_48 rfl ?_
          refine jw_aloadR (pc := 50) 1 dX12_goRoute_50 rfl ?_
          refine jw_getR (pc := 51) (j := 4) rfl dX12_goRoute_51 jv_12 ji_12 (Or.inl jt_1235) jg_127 jl_127 (by decide) (by decide) rfl jf_12_4 ?_
          refine jw_iload_n (pc := 54) 2 dX12_goRoute_54 rfl ?_
          refine jw_iload (pc := 55) 5 dX12_goRoute_55 rfl ?_
          refine jw_iadd (pc := 57) dX12_goRoute_57 ?_
          refine jw_iconst (pc := 58) dX12_goRoute_58 ?_
          refine jw_isub (pc := 59) dX12_goRoute_59 ?_
          refine jw_iald (pc := 60) dX12_goRoute_60 jg_130 jl_130 (jw_ho jg_130 (by decide)) (jw_wr _) rfl (fun h12 => ?_)
          refine jw_imul (pc := 61) dX12_goRoute_61 ?_
          refine jw_iadd (pc := 62) dX12_goRoute_62 ?_
          refine jw_iload (pc := 63) 0 dX12_goRoute_63 rfl ?_
          refine jw_iadd (pc := 65) dX12_goRoute_65 ?_
          refine jw_iald (pc := 66) dX12_goRoute_66 jg_131 jl_131 (jw_ho jg_131 (by decide)) (jw_wr _) rfl (fun h13 => ?_)
          exact jw_few [1, 2, 3, 4, 5, 0] rfl (pX12_goRoute_67 G (fX12_goRoute_5 k) ih x1 x2 x3 x4 v4 (M 131 (jw_w ((jw_w (14 + (jw_w (7 * (M 130 (jw_w ((jw_w (x1 + x4)) - 1))))))) + v4))) hx1 hx2 hx3 hx4 hv4 h13 M)
    · refine jw_iconst (pc := 121) dX12_goRoute_121 ?_
      exact jw_ret (pc := 122) (v := 1) dX12_goRoute_122 (Or.inr rfl) rfl rfl
def fX12_goRoute (a1 : Int) (a2 : Int) (M : jw_M) : Option (Int × jw_M) :=
  Option.bind (some 0) (fun v1 => Option.bind (some 0) (fun v2 => fX12_goRoute_5 jw_fu a1 a2 v1 v2 M))
set_option maxRecDepth 100000 in
theorem rX12_goRoute (G : jw_G) (a1 : Int) (a2 : Int) (ha1 : jw_r a1) (ha2 : jw_r a2) (M : jw_M) : jw_Rn G YX12_goRoute 3 0 0 true (fun q => q) 0 [(0, jR G 127), (1, jI a1), (2, jI a2)] [] M (fX12_goRoute a1 a2 M) := by
  unfold fX12_goRoute
  refine jw_iconst (pc := 0) dX12_goRoute_0 ?_
  refine jw_istore_nL (pc := 1) (lv' := (fun y => [(3, y), (0, jR G 127), (1, jI a1), (2, jI a2)])) dX12_goRoute_1 (jw_rc _ rfl) (by decide) (fun _ => rfl) (fun v1 hv1 => ?_)
  refine jw_iconst (pc := 2) dX12_goRoute_2 ?_
  refine jw_istoreL (pc := 3) (lv' := (fun y => [(4, y), (3, jI v1), (0, jR G 127), (1, jI a1), (2, jI a2)])) dX12_goRoute_3 (jw_rc _ rfl) (by decide) (fun _ => rfl) (fun v2 hv2 => ?_)
  exact jw_few [2, 3, 4, 1, 0] rfl (pX12_goRoute_5 G jw_fu a1 a2 v1 v2 ha1 ha2 hv1 hv2 M)
theorem kX12_goRoute (G : jw_G) (a1 : Int) (a2 : Int) (ha1 : jw_r a1) (ha2 : jw_r a2) (M : jw_M) : jw_Ct G YX12_goRoute (some .boolean) 3 0 0 true (fun q => q) yX12_goRoute [jR G 127, jI a1, jI a2] M (fX12_goRoute a1 a2 M) := jw_met (by decide) rfl rfl rfl (Nat.le_of_ble_eq_true rfl) (rX12_goRoute G a1 a2 ha1 ha2 M)
abbrev YX12_warnedOf : jw_Y := (RX12, cX12_warnedOf, 7, 1, "warnedOf")
theorem qX12_warnedOf : jw_cy YX12_warnedOf (some .int) yX12_warnedOf 2 := ⟨by decide, jt_1529, jt_14, by decide, by decide +kernel⟩
theorem dX12_warnedOf_0 : decode cX12_warnedOf 0 = .ok (.ldc 223, 2) := by decide +kernel
theorem dX12_warnedOf_2 : decode cX12_warnedOf 2 = .ok (.istore_n 3, 1) := by decide +kernel
theorem dX12_warnedOf_3 : decode cX12_warnedOf 3 = .ok (.iconst 0, 1) := by decide +kernel
theorem dX12_warnedOf_4 : decode cX12_warnedOf 4 = .ok (.istore 4, 2) := by decide +kernel
theorem dX12_warnedOf_6 : decode cX12_warnedOf 6 = .ok (.iload 4, 2) := by decide +kernel
theorem dX12_warnedOf_8 : decode cX12_warnedOf 8 = .ok (.aload_n 0, 1) := by decide +kernel
theorem dX12_warnedOf_9 : decode cX12_warnedOf 9 = .ok (.getfield 19, 3) := by decide +kernel
theorem dX12_warnedOf_12 : decode cX12_warnedOf 12 = .ok (.iconst 4, 1) := by decide +kernel
theorem dX12_warnedOf_13 : decode cX12_warnedOf 13 = .ok (.iaload, 1) := by decide +kernel
theorem dX12_warnedOf_14 : decode cX12_warnedOf 14 = .ok (.if_icmp .ge 68, 3) := by decide +kernel
theorem dX12_warnedOf_17 : decode cX12_warnedOf 17 = .ok (.aload_n 0, 1) := by decide +kernel
theorem dX12_warnedOf_18 : decode cX12_warnedOf 18 = .ok (.getfield 25, 3) := by decide +kernel
theorem dX12_warnedOf_21 : decode cX12_warnedOf 21 = .ok (.iconst 5, 1) := by decide +kernel
theorem dX12_warnedOf_22 : decode cX12_warnedOf 22 = .ok (.iload 4, 2) := by decide +kernel
theorem dX12_warnedOf_24 : decode cX12_warnedOf 24 = .ok (.iadd, 1) := by decide +kernel
theorem dX12_warnedOf_25 : decode cX12_warnedOf 25 = .ok (.iaload, 1) := by decide +kernel
theorem dX12_warnedOf_26 : decode cX12_warnedOf 26 = .ok (.istore 5, 2) := by decide +kernel
theorem dX12_warnedOf_28 : decode cX12_warnedOf 28 = .ok (.aload_n 0, 1) := by decide +kernel
theorem dX12_warnedOf_29 : decode cX12_warnedOf 29 = .ok (.getfield 37, 3) := by decide +kernel
theorem dX12_warnedOf_32 : decode cX12_warnedOf 32 = .ok (.iload 5, 2) := by decide +kernel
theorem dX12_warnedOf_34 : decode cX12_warnedOf 34 = .ok (.iaload, 1) := by decide +kernel
theorem dX12_warnedOf_35 : decode cX12_warnedOf 35 = .ok (.aload_n 0, 1) := by decide +kernel
theorem dX12_warnedOf_36 : decode cX12_warnedOf 36 = .ok (.getfield 34, 3) := by decide +kernel
theorem dX12_warnedOf_39 : decode cX12_warnedOf 39 = .ok (.bipush 7, 2) := by decide +kernel
theorem dX12_warnedOf_41 : decode cX12_warnedOf 41 = .ok (.iload 5, 2) := by decide +kernel
theorem dX12_warnedOf_43 : decode cX12_warnedOf 43 = .ok (.imul, 1) := by decide +kernel
theorem dX12_warnedOf_44 : decode cX12_warnedOf 44 = .ok (.aload_n 0, 1) := by decide +kernel
theorem dX12_warnedOf_45 : decode cX12_warnedOf 45 = .ok (.getfield 25, 3) := by decide +kernel
theorem dX12_warnedOf_48 : decode cX12_warnedOf 48 = .ok (.iconst 0, 1) := by decide +kernel
theorem dX12_warnedOf_49 : decode cX12_warnedOf 49 = .ok (.iload_n 1, 1) := by decide +kernel
theorem dX12_warnedOf_50 : decode cX12_warnedOf 50 = .ok (.iadd, 1) := by decide +kernel
theorem dX12_warnedOf_51 : decode cX12_warnedOf 51 = .ok (.iaload, 1) := by decide +kernel
theorem dX12_warnedOf_52 : decode cX12_warnedOf 52 = .ok (.iadd, 1) := by decide +kernel
theorem dX12_warnedOf_53 : decode cX12_warnedOf 53 = .ok (.iaload, 1) := by decide +kernel
theorem dX12_warnedOf_54 : decode cX12_warnedOf 54 = .ok (.iadd, 1) := by decide +kernel
theorem dX12_warnedOf_55 : decode cX12_warnedOf 55 = .ok (.istore 6, 2) := by decide +kernel
theorem dX12_warnedOf_57 : decode cX12_warnedOf 57 = .ok (.iload 4, 2) := by decide +kernel
theorem dX12_warnedOf_59 : decode cX12_warnedOf 59 = .ok (.iload_n 2, 1) := by decide +kernel
theorem dX12_warnedOf_60 : decode cX12_warnedOf 60 = .ok (.if_icmp .eq 14, 3) := by decide +kernel
theorem dX12_warnedOf_63 : decode cX12_warnedOf 63 = .ok (.iload 6, 2) := by decide +kernel
theorem dX12_warnedOf_65 : decode cX12_warnedOf 65 = .ok (.iload_n 3, 1) := by decide +kernel
theorem dX12_warnedOf_66 : decode cX12_warnedOf 66 = .ok (.if_icmp .ge 8, 3) := by decide +kernel
theorem dX12_warnedOf_69 : decode cX12_warnedOf 69 = .ok (.iload 6, 2) := by decide +kernel
theorem dX12_warnedOf_71 : decode cX12_warnedOf 71 = .ok (.goto 4, 3) := by decide +kernel
theorem dX12_warnedOf_74 : decode cX12_warnedOf 74 = .ok (.iload_n 3, 1) := by decide +kernel
theorem dX12_warnedOf_75 : decode cX12_warnedOf 75 = .ok (.istore_n 3, 1) := by decide +kernel
theorem dX12_warnedOf_76 : decode cX12_warnedOf 76 = .ok (.iinc 4 1, 3) := by decide +kernel
theorem dX12_warnedOf_79 : decode cX12_warnedOf 79 = .ok (.goto (-73), 3) := by decide +kernel
theorem dX12_warnedOf_82 : decode cX12_warnedOf 82 = .ok (.iload_n 3, 1) := by decide +kernel
theorem dX12_warnedOf_83 : decode cX12_warnedOf 83 = .ok (.ireturn, 1) := by decide +kernel
def fX12_warnedOf_75 (M : jw_M) (r6 : Int → Int → Int → Int → Option Int) (x1 : Int) (x2 : Int) (x4 : Int) (xs0 : Int) : Option Int :=
  Option.bind (some xs0) (fun v10 => Option.bind (some (jw_w (x4 + 1))) (fun v11 => r6 x1 x2 v10 v11))
set_option maxRecDepth 100000 in
theorem pX12_warnedOf_75 (G : jw_G) (M : jw_M) (r6 : Int → Int → Int → Int → Option Int) (hr6 : ∀ (x1 : Int) (x2 : Int) (x3 : Int) (x4 : Int) (hx1 : jw_r x1) (hx2 : jw_r x2) (hx3 : jw_r x3) (hx4 : jw_r x4), jw_Rn G YX12_warnedOf 1 0 0 true (fun v => (v, M)) 6 [(0, jR G 127), (1, jI x1), (2, jI x2), (3, jI x3), (4, jI x4)] [] M (r6 x1 x2 x3 x4)) : ∀ (x1 : Int) (x2 : Int) (x4 : Int) (xs0 : Int) (hx1 : jw_r x1) (hx2 : jw_r x2) (hx4 : jw_r x4) (hxs0 : jw_r xs0), jw_Rn G YX12_warnedOf 1 0 0 true (fun v => (v, M)) 75 [(0, jR G 127), (1, jI x1), (2, jI x2), (4, jI x4)] [jI xs0] M (fX12_warnedOf_75 M r6 x1 x2 x4 xs0) := by
  intro x1 x2 x4 xs0 hx1 hx2 hx4 hxs0
  unfold fX12_warnedOf_75
  refine jw_istore_nL (pc := 75) (lv' := (fun y => [(3, y), (0, jR G 127), (1, jI x1), (2, jI x2), (4, jI x4)])) dX12_warnedOf_75 hxs0 (by decide) (fun _ => rfl) (fun v10 hv10 => ?_)
  refine jw_iincL (pc := 76) 4 (lv' := (fun y => [(4, y), (3, jI v10), (0, jR G 127), (1, jI x1), (2, jI x2)])) dX12_warnedOf_76 rfl (Nat.le_of_ble_eq_true rfl) (fun _ => rfl) (fun v11 hv11 => ?_)
  refine jw_goto (pc := 79) 6 dX12_warnedOf_79 (by decide) ?_
  exact jw_few [2, 3, 4, 1, 0] rfl (hr6 x1 x2 v10 v11 hx1 hx2 hv10 hv11)
def fX12_warnedOf_74 (M : jw_M) (r6 : Int → Int → Int → Int → Option Int) (x1 : Int) (x2 : Int) (x3 : Int) (x4 : Int) : Option Int :=
  fX12_warnedOf_75 M r6 x1 x2 x4 x3
set_option maxRecDepth 100000 in
theorem pX12_warnedOf_74 (G : jw_G) (M : jw_M) (r6 : Int → Int → Int → Int → Option Int) (hr6 : ∀ (x1 : Int) (x2 : Int) (x3 : Int) (x4 : Int) (hx1 : jw_r x1) (hx2 : jw_r x2) (hx3 : jw_r x3) (hx4 : jw_r x4), jw_Rn G YX12_warnedOf 1 0 0 true (fun v => (v, M)) 6 [(0, jR G 127), (1, jI x1), (2, jI x2), (3, jI x3), (4, jI x4)] [] M (r6 x1 x2 x3 x4)) : ∀ (x1 : Int) (x2 : Int) (x3 : Int) (x4 : Int) (hx1 : jw_r x1) (hx2 : jw_r x2) (hx3 : jw_r x3) (hx4 : jw_r x4), jw_Rn G YX12_warnedOf 1 0 0 true (fun v => (v, M)) 74 [(0, jR G 127), (1, jI x1), (2, jI x2), (3, jI x3), (4, jI x4)] [] M (fX12_warnedOf_74 M r6 x1 x2 x3 x4) := by
  intro x1 x2 x3 x4 hx1 hx2 hx3 hx4
  unfold fX12_warnedOf_74
  refine jw_iload_n (pc := 74) 3 dX12_warnedOf_74 rfl ?_
  exact jw_few [0, 1, 2, 4] rfl (pX12_warnedOf_75 G M r6 hr6 x1 x2 x4 x3 hx1 hx2 hx4 hx3)
def fX12_warnedOf_6 (M : jw_M) : Nat → Int → Int → Int → Int → Option Int
  | 0, _, _, _, _ => none
  | k + 1, x1, x2, x3, x4 => if 0 ≤ (4 : Int) ∧ (4 : Int) < 104 then if x4 < M 131 4 then (if 0 ≤ jw_w (5 + x4) ∧ jw_w (5 + x4) < 104 then Option.bind (some (M 133 (jw_w (5 + x4)))) (fun v5 => if 0 ≤ v5 ∧ v5 < 7 then if 0 ≤ jw_w (0 + x1) ∧ jw_w (0 + x1) < 104 then if 0 ≤ jw_w ((jw_w (7 * v5)) + (M 133 (jw_w (0 + x1)))) ∧ jw_w ((jw_w (7 * v5)) + (M 133 (jw_w (0 + x1)))) < 49 then Option.bind (some (jw_w ((M 137 v5) + (M 136 (jw_w ((jw_w (7 * v5)) + (M 133 (jw_w (0 + x1))))))))) (fun v9 => if x4 = x2 then (fX12_warnedOf_74 M (fX12_warnedOf_6 M k) x1 x2 x3 x4) else (if v9 < x3 then (fX12_warnedOf_75 M (fX12_warnedOf_6 M k) x1 x2 x4 v9) else (fX12_warnedOf_74 M (fX12_warnedOf_6 M k) x1 x2 x3 x4))) else none else none else none) else none) else (some x3) else none
set_option maxRecDepth 100000 in
theorem pX12_warnedOf_6 (G : jw_G) (M : jw_M) : ∀ (k : Nat) (x1 : Int) (x2 : Int) (x3 : Int) (x4 : Int) (hx1 : jw_r x1) (hx2 : jw_r x2) (hx3 : jw_r x3) (hx4 : jw_r x4), jw_Rn G YX12_warnedOf 1 0 0 true (fun v => (v, M)) 6 [(0, jR G 127), (1, jI x1), (2, jI x2), (3, jI x3), (4, jI x4)] [] M (fX12_warnedOf_6 M k x1 x2 x3 x4) := by
  intro k
  induction k with
  | zero =>
    intro x1 x2 x3 x4 hx1 hx2 hx3 hx4
    exact jw_none
  | succ k ih =>
    intro x1 x2 x3 x4 hx1 hx2 hx3 hx4
    rw [fX12_warnedOf_6]
    refine jw_iload (pc := 6) 4 dX12_warnedOf_6 rfl ?_
    refine jw_aloadR (pc := 8) 0 dX12_warnedOf_8 rfl ?_
    refine jw_getR (pc := 9) (j := 5) rfl dX12_warnedOf_9 jv_12 ji_12 (Or.inl jt_1236) jg_127 jl_127 (by decide) (by decide) rfl jf_12_5 ?_
    refine jw_iconst (pc := 12) dX12_warnedOf_12 ?_
    refine jw_iald (pc := 13) dX12_warnedOf_13 jg_131 jl_131 (jw_ho jg_131 (by decide)) (jw_rc _ rfl) rfl (fun h3 => ?_)
    refine jw_ic_ge (pc := 14) 82 dX12_warnedOf_14 (by decide) hx4 h3 (fun _ => ?_) (fun _ => ?_)
    · refine jw_aloadR (pc := 17) 0 dX12_warnedOf_17 rfl ?_
      refine jw_getR (pc := 18) (j := 8) rfl dX12_warnedOf_18 jv_12 ji_12 (Or.inl jt_1239) jg_127 jl_127 (by decide) (by decide) rfl jf_12_8 ?_
      refine jw_iconst (pc := 21) dX12_warnedOf_21 ?_
      refine jw_iload (pc := 22) 4 dX12_warnedOf_22 rfl ?_
      refine jw_iadd (pc := 24) dX12_warnedOf_24 ?_
      refine jw_iald (pc := 25) dX12_warnedOf_25 jg_133 jl_133 (jw_ho jg_133 (by decide)) (jw_wr _) rfl (fun h4 => ?_)
      refine jw_istoreL (pc := 26) (lv' := (fun y => [(5, y), (0, jR G 127), (1, jI x1), (2, jI x2), (3, jI x3), (4, jI x4)])) dX12_warnedOf_26 h4 (by decide) (fun _ => rfl) (fun v5 hv5 => ?_)
      refine jw_aloadR (pc := 28) 1 dX12_warnedOf_28 rfl ?_
      refine jw_getR (pc := 29) (j := 21) rfl dX12_warnedOf_29 jv_12 ji_12 (Or.inl jt_1252) jg_127 jl_127 (by decide) (by decide) rfl jf_12_21 ?_
      refine jw_iload (pc := 32) 0 dX12_warnedOf_32 rfl ?_
      refine jw_iald (pc := 34) dX12_warnedOf_34 jg_137 jl_137 (jw_ho jg_137 (by decide)) hv5 rfl (fun h6 => ?_)
      refine jw_aloadR (pc := 35) 1 dX12_warnedOf_35 rfl ?_
      refine jw_getR (pc := 36) (j := 20) rfl dX12_warnedOf_36 jv_12 ji_12 (Or.inl jt_1251) jg_127 jl_127 (by decide) (by decide) rfl jf_12_20 ?_
      refine jw_bipush (pc := 39) dX12_warnedOf_39 rfl ?_
      refine jw_iload (pc := 41) 0 dX12_warnedOf_41 rfl ?_
      refine jw_imul (pc := 43) dX12_warnedOf_43 ?_
      refine jw_aloadR (pc := 44) 1 dX12_warnedOf_44 rfl ?_
      refine jw_getR (pc := 45) (j := 8) rfl dX12_warnedOf_45 jv_12 ji_12 (Or.inl jt_1239) jg_127 jl_127 (by decide) (by decide) rfl jf_12_8 ?_
      refine jw_iconst (pc := 48) dX12_warnedOf_48 ?_
      refine jw_iload_n (pc := 49) 2 dX12_warnedOf_49 rfl ?_
      refine jw_iadd (pc := 50) dX12_warnedOf_50 ?_
      refine jw_iald (pc := 51) dX12_warnedOf_51 jg_133 jl_133 (jw_ho jg_133 (by decide)) (jw_wr _) rfl (fun h7 => ?_)
      refine jw_iadd (pc := 52) dX12_warnedOf_52 ?_
      refine jw_iald (pc := 53) dX12_warnedOf_53 jg_136 jl_136 (jw_ho jg_136 (by decide)) (jw_wr _) rfl (fun h8 => ?_)
      refine jw_iadd (pc := 54) dX12_warnedOf_54 ?_
      refine jw_istoreL (pc := 55) (lv' := (fun y => [(6, y), (5, jI v5), (0, jR G 127), (1, jI x1), (2, jI x2), (3, jI x3), (4, jI x4)])) dX12_warnedOf_55 (jw_wr _) (by decide) (fun _ => rfl) (fun v9 hv9 => ?_)
      refine jw_iload (pc := 57) 6 dX12_warnedOf_57 rfl ?_
      refine jw_iload_n (pc := 59) 4 dX12_warnedOf_59 rfl ?_
      refine jw_ic_eq (pc := 60) 74 dX12_warnedOf_60 (by decide) hx4 hx2 (fun _ => ?_) (fun _ => ?_)
      · exact jw_few [2, 3, 4, 5, 6] rfl (pX12_warnedOf_74 G M (fX12_warnedOf_6 M k) ih x1 x2 x3 x4 hx1 hx2 hx3 hx4)
      · refine jw_iload (pc := 63) 0 dX12_warnedOf_63 rfl ?_
        refine jw_iload_n (pc := 65) 5 dX12_warnedOf_65 rfl ?_
        refine jw_ic_ge (pc := 66) 74 dX12_warnedOf_66 (by decide) hv9 hx3 (fun _ => ?_) (fun _ => ?_)
        · refine jw_iload (pc := 69) 0 dX12_warnedOf_69 rfl ?_
          refine jw_goto (pc := 71) 75 dX12_warnedOf_71 (by decide) ?_
          exact jw_few [2, 3, 4, 6] rfl (pX12_warnedOf_75 G M (fX12_warnedOf_6 M k) ih x1 x2 x4 v9 hx1 hx2 hx4 hv9)
        · exact jw_few [2, 3, 4, 5, 6] rfl (pX12_warnedOf_74 G M (fX12_warnedOf_6 M k) ih x1 x2 x3 x4 hx1 hx2 hx3 hx4)
    · refine jw_iload_n (pc := 82) 3 dX12_warnedOf_82 rfl ?_
      exact jw_ret (pc := 83) (v := x3) dX12_warnedOf_83 hx3 rfl rfl
def fX12_warnedOf (a1 : Int) (a2 : Int) (M : jw_M) : Option Int :=
  Option.bind (some 1000000) (fun v1 => Option.bind (some 0) (fun v2 => fX12_warnedOf_6 M jw_fu a1 a2 v1 v2))
set_option maxRecDepth 100000 in
theorem rX12_warnedOf (G : jw_G) (a1 : Int) (a2 : Int) (ha1 : jw_r a1) (ha2 : jw_r a2) (M : jw_M) : jw_Rn G YX12_warnedOf 1 0 0 true (fun v => (v, M)) 0 [(0, jR G 127), (1, jI a1), (2, jI a2)] [] M (fX12_warnedOf a1 a2 M) := by
  unfold fX12_warnedOf
  refine jw_ldc (pc := 0) (n := 1000000) dX12_warnedOf_0 jt_1469 (by decide) ?_
  refine jw_istore_nL (pc := 2) (lv' := (fun y => [(3, y), (0, jR G 127), (1, jI a1), (2, jI a2)])) dX12_warnedOf_2 (jw_rc _ rfl) (by decide) (fun _ => rfl) (fun v1 hv1 => ?_)
  refine jw_iconst (pc := 3) dX12_warnedOf_3 ?_
  refine jw_istoreL (pc := 4) (lv' := (fun y => [(4, y), (3, jI v1), (0, jR G 127), (1, jI a1), (2, jI a2)])) dX12_warnedOf_4 (jw_rc _ rfl) (by decide) (fun _ => rfl) (fun v2 hv2 => ?_)
  exact jw_few [2, 3, 4, 1, 0] rfl (pX12_warnedOf_6 G M jw_fu a1 a2 v1 v2 ha1 ha2 hv1 hv2)
theorem kX12_warnedOf (G : jw_G) (a1 : Int) (a2 : Int) (ha1 : jw_r a1) (ha2 : jw_r a2) (M : jw_M) : jw_Ct G YX12_warnedOf (some .int) 1 0 0 true (fun v => (v, M)) yX12_warnedOf [jR G 127, jI a1, jI a2] M (fX12_warnedOf a1 a2 M) := jw_met (by decide) rfl rfl rfl (Nat.le_of_ble_eq_true rfl) (rX12_warnedOf G a1 a2 ha1 ha2 M)
abbrev YX12_isCaught : jw_Y := (RX12, cX12_isCaught, 4, 4, "isCaught")
theorem qX12_isCaught : jw_cy YX12_isCaught (some .boolean) yX12_isCaught 2 := ⟨by decide, jt_1533, jt_14, by decide, by decide +kernel⟩
theorem dX12_isCaught_0 : decode cX12_isCaught 0 = .ok (.aload_n 0, 1) := by decide +kernel
theorem dX12_isCaught_1 : decode cX12_isCaught 1 = .ok (.getfield 37, 3) := by decide +kernel
theorem dX12_isCaught_4 : decode cX12_isCaught 4 = .ok (.aload_n 0, 1) := by decide +kernel
theorem dX12_isCaught_5 : decode cX12_isCaught 5 = .ok (.getfield 25, 3) := by decide +kernel
theorem dX12_isCaught_8 : decode cX12_isCaught 8 = .ok (.iconst 0, 1) := by decide +kernel
theorem dX12_isCaught_9 : decode cX12_isCaught 9 = .ok (.iload_n 1, 1) := by decide +kernel
theorem dX12_isCaught_10 : decode cX12_isCaught 10 = .ok (.iadd, 1) := by decide +kernel
theorem dX12_isCaught_11 : decode cX12_isCaught 11 = .ok (.iaload, 1) := by decide +kernel
theorem dX12_isCaught_12 : decode cX12_isCaught 12 = .ok (.iaload, 1) := by decide +kernel
theorem dX12_isCaught_13 : decode cX12_isCaught 13 = .ok (.istore_n 3, 1) := by decide +kernel
theorem dX12_isCaught_14 : decode cX12_isCaught 14 = .ok (.iload_n 3, 1) := by decide +kernel
theorem dX12_isCaught_15 : decode cX12_isCaught 15 = .ok (.ldc 223, 2) := by decide +kernel
theorem dX12_isCaught_17 : decode cX12_isCaught 17 = .ok (.if_icmp .ge 25, 3) := by decide +kernel
theorem dX12_isCaught_20 : decode cX12_isCaught 20 = .ok (.iload_n 2, 1) := by decide +kernel
theorem dX12_isCaught_21 : decode cX12_isCaught 21 = .ok (.ldc 223, 2) := by decide +kernel
theorem dX12_isCaught_23 : decode cX12_isCaught 23 = .ok (.if_icmp .ge 15, 3) := by decide +kernel
theorem dX12_isCaught_26 : decode cX12_isCaught 26 = .ok (.iload_n 3, 1) := by decide +kernel
theorem dX12_isCaught_27 : decode cX12_isCaught 27 = .ok (.iload_n 2, 1) := by decide +kernel
theorem dX12_isCaught_28 : decode cX12_isCaught 28 = .ok (.aload_n 0, 1) := by decide +kernel
theorem dX12_isCaught_29 : decode cX12_isCaught 29 = .ok (.iload_n 1, 1) := by decide +kernel
theorem dX12_isCaught_30 : decode cX12_isCaught 30 = .ok (.iconst 0, 1) := by decide +kernel
theorem dX12_isCaught_31 : decode cX12_isCaught 31 = .ok (.invokevirtual 234, 3) := by decide +kernel
theorem dX12_isCaught_34 : decode cX12_isCaught 34 = .ok (.iadd, 1) := by decide +kernel
theorem dX12_isCaught_35 : decode cX12_isCaught 35 = .ok (.if_icmp .ge 7, 3) := by decide +kernel
theorem dX12_isCaught_38 : decode cX12_isCaught 38 = .ok (.iconst 1, 1) := by decide +kernel
theorem dX12_isCaught_39 : decode cX12_isCaught 39 = .ok (.goto 4, 3) := by decide +kernel
theorem dX12_isCaught_42 : decode cX12_isCaught 42 = .ok (.iconst 0, 1) := by decide +kernel
theorem dX12_isCaught_43 : decode cX12_isCaught 43 = .ok (.ireturn, 1) := by decide +kernel
def fX12_isCaught_38 (M : jw_M) : Option Int :=
  some 1
set_option maxRecDepth 100000 in
theorem pX12_isCaught_38 (G : jw_G) (M : jw_M) : jw_Rn G YX12_isCaught 2 0 0 true (fun v => (v, M)) 38 [] [] M (fX12_isCaught_38 M) := by
  unfold fX12_isCaught_38
  refine jw_iconst (pc := 38) dX12_isCaught_38 ?_
  refine jw_goto (pc := 39) 43 dX12_isCaught_39 (by decide) ?_
  exact jw_ret (pc := 43) (v := 1) dX12_isCaught_43 (Or.inr rfl) rfl rfl
def fX12_isCaught (a1 : Int) (a2 : Int) (M : jw_M) : Option Int :=
  if 0 ≤ jw_w (0 + a1) ∧ jw_w (0 + a1) < 104 then if 0 ≤ M 133 (jw_w (0 + a1)) ∧ M 133 (jw_w (0 + a1)) < 7 then Option.bind (some (M 137 (M 133 (jw_w (0 + a1))))) (fun v3 => if v3 < 1000000 then (if a2 < 1000000 then (Option.bind (fX12_goodsOf a1 0 M) (fun v4 => if v3 < jw_w (a2 + v4) then (fX12_isCaught_38 M) else (some 0))) else (fX12_isCaught_38 M)) else (some 0)) else none else none
set_option maxRecDepth 100000 in
theorem rX12_isCaught (G : jw_G) (a1 : Int) (a2 : Int) (ha1 : jw_r a1) (ha2 : jw_r a2) (M : jw_M) : jw_Rn G YX12_isCaught 2 0 0 true (fun v => (v, M)) 0 [(0, jR G 127), (1, jI a1), (2, jI a2)] [] M (fX12_isCaught a1 a2 M) := by
  unfold fX12_isCaught
  refine jw_aloadR (pc := 0) 0 dX12_isCaught_0 rfl ?_
  refine jw_getR (pc := 1) (j := 21) rfl dX12_isCaught_1 jv_12 ji_12 (Or.inl jt_1252) jg_127 jl_127 (by decide) (by decide) rfl jf_12_21 ?_
  refine jw_aloadR (pc := 4) 0 dX12_isCaught_4 rfl ?_
  refine jw_getR (pc := 5) (j := 8) rfl dX12_isCaught_5 jv_12 ji_12 (Or.inl jt_1239) jg_127 jl_127 (by decide) (by decide) rfl jf_12_8 ?_
  refine jw_iconst (pc := 8) dX12_isCaught_8 ?_
  refine jw_iload_n (pc := 9) 1 dX12_isCaught_9 rfl ?_
  refine jw_iadd (pc := 10) dX12_isCaught_10 ?_
  refine jw_iald (pc := 11) dX12_isCaught_11 jg_133 jl_133 (jw_ho jg_133 (by decide)) (jw_wr _) rfl (fun h1 => ?_)
  refine jw_iald (pc := 12) dX12_isCaught_12 jg_137 jl_137 (jw_ho jg_137 (by decide)) h1 rfl (fun h2 => ?_)
  refine jw_istore_nL (pc := 13) (lv' := (fun y => [(3, y), (0, jR G 127), (1, jI a1), (2, jI a2)])) dX12_isCaught_13 h2 (by decide) (fun _ => rfl) (fun v3 hv3 => ?_)
  refine jw_iload_n (pc := 14) 0 dX12_isCaught_14 rfl ?_
  refine jw_ldc (pc := 15) (n := 1000000) dX12_isCaught_15 jt_1469 (by decide) ?_
  refine jw_ic_ge (pc := 17) 42 dX12_isCaught_17 (by decide) hv3 (jw_rc _ rfl) (fun _ => ?_) (fun _ => ?_)
  · refine jw_iload_n (pc := 20) 3 dX12_isCaught_20 rfl ?_
    refine jw_ldc (pc := 21) (n := 1000000) dX12_isCaught_21 jt_1469 (by decide) ?_
    refine jw_ic_ge (pc := 23) 38 dX12_isCaught_23 (by decide) ha2 (jw_rc _ rfl) (fun _ => ?_) (fun _ => ?_)
    · refine jw_iload_n (pc := 26) 0 dX12_isCaught_26 rfl ?_
      refine jw_iload_n (pc := 27) 3 dX12_isCaught_27 rfl ?_
      refine jw_aloadR (pc := 28) 1 dX12_isCaught_28 rfl ?_
      refine jw_iload_n (pc := 29) 2 dX12_isCaught_29 rfl ?_
      refine jw_iconst (pc := 30) dX12_isCaught_30 ?_
      refine jw_callVi (pc := 31) (As := [jI a1, jI 0]) (st := [jI a2, jI v3]) dX12_isCaught_31 rfl (Nat.le_of_ble_eq_true rfl) qX12_goodsOf jt_1496 jt_1498 jp_65 rfl rfl (Nat.le_of_ble_eq_true rfl) jv_12 rfl jg_127 jl_127 (by decide) (jw_ho jg_127 (by decide)) (kX12_goodsOf G a1 0 ha1 (jw_rc _ rfl) M) (fun v4 hv4 => ?_)
      refine jw_iadd (pc := 34) dX12_isCaught_34 ?_
      refine jw_ic_ge (pc := 35) 42 dX12_isCaught_35 (by decide) hv3 (jw_wr _) (fun _ => ?_) (fun _ => ?_)
      · exact jw_few [] rfl (pX12_isCaught_38 G M)
      · refine jw_iconst (pc := 42) dX12_isCaught_42 ?_
        exact jw_ret (pc := 43) (v := 0) dX12_isCaught_43 (Or.inl rfl) rfl rfl
    · exact jw_few [] rfl (pX12_isCaught_38 G M)
  · refine jw_iconst (pc := 42) dX12_isCaught_42 ?_
    exact jw_ret (pc := 43) (v := 0) dX12_isCaught_43 (Or.inl rfl) rfl rfl
theorem kX12_isCaught (G : jw_G) (a1 : Int) (a2 : Int) (ha1 : jw_r a1) (ha2 : jw_r a2) (M : jw_M) : jw_Ct G YX12_isCaught (some .boolean) 2 0 0 true (fun v => (v, M)) yX12_isCaught [jR G 127, jI a1, jI a2] M (fX12_isCaught a1 a2 M) := jw_met (by decide) rfl rfl rfl (Nat.le_of_ble_eq_true rfl) (rX12_isCaught G a1 a2 ha1 ha2 M)
abbrev YX12_lostBy : jw_Y := (RX12, cX12_lostBy, 3, 1, "lostBy")
theorem qX12_lostBy : jw_cy YX12_lostBy (some .int) yX12_lostBy 2 := ⟨by decide, jt_1537, jt_14, by decide, by decide +kernel⟩
theorem dX12_lostBy_0 : decode cX12_lostBy 0 = .ok (.aload_n 0, 1) := by decide +kernel
theorem dX12_lostBy_1 : decode cX12_lostBy 1 = .ok (.iload_n 1, 1) := by decide +kernel
theorem dX12_lostBy_2 : decode cX12_lostBy 2 = .ok (.iload_n 2, 1) := by decide +kernel
theorem dX12_lostBy_3 : decode cX12_lostBy 3 = .ok (.invokevirtual 240, 3) := by decide +kernel
theorem dX12_lostBy_6 : decode cX12_lostBy 6 = .ok (.ifCond .eq 19, 3) := by decide +kernel
theorem dX12_lostBy_9 : decode cX12_lostBy 9 = .ok (.aload_n 0, 1) := by decide +kernel
theorem dX12_lostBy_10 : decode cX12_lostBy 10 = .ok (.iload_n 1, 1) := by decide +kernel
theorem dX12_lostBy_11 : decode cX12_lostBy 11 = .ok (.iconst 1, 1) := by decide +kernel
theorem dX12_lostBy_12 : decode cX12_lostBy 12 = .ok (.invokevirtual 234, 3) := by decide +kernel
theorem dX12_lostBy_15 : decode cX12_lostBy 15 = .ok (.aload_n 0, 1) := by decide +kernel
theorem dX12_lostBy_16 : decode cX12_lostBy 16 = .ok (.iload_n 1, 1) := by decide +kernel
theorem dX12_lostBy_17 : decode cX12_lostBy 17 = .ok (.iconst 2, 1) := by decide +kernel
theorem dX12_lostBy_18 : decode cX12_lostBy 18 = .ok (.invokevirtual 234, 3) := by decide +kernel
theorem dX12_lostBy_21 : decode cX12_lostBy 21 = .ok (.iadd, 1) := by decide +kernel
theorem dX12_lostBy_22 : decode cX12_lostBy 22 = .ok (.goto 4, 3) := by decide +kernel
theorem dX12_lostBy_25 : decode cX12_lostBy 25 = .ok (.iconst 0, 1) := by decide +kernel
theorem dX12_lostBy_26 : decode cX12_lostBy 26 = .ok (.ireturn, 1) := by decide +kernel
def fX12_lostBy (a1 : Int) (a2 : Int) (M : jw_M) : Option Int :=
  Option.bind (fX12_isCaught a1 a2 M) (fun v1 => if v1 = 0 then (some 0) else (Option.bind (fX12_goodsOf a1 1 M) (fun v2 => Option.bind (fX12_goodsOf a1 2 M) (fun v3 => some (jw_w (v2 + v3))))))
set_option maxRecDepth 100000 in
theorem rX12_lostBy (G : jw_G) (a1 : Int) (a2 : Int) (ha1 : jw_r a1) (ha2 : jw_r a2) (M : jw_M) : jw_Rn G YX12_lostBy 3 0 0 true (fun v => (v, M)) 0 [(0, jR G 127), (1, jI a1), (2, jI a2)] [] M (fX12_lostBy a1 a2 M) := by
  unfold fX12_lostBy
  refine jw_aloadR (pc := 0) 0 dX12_lostBy_0 rfl ?_
  refine jw_iload_n (pc := 1) 1 dX12_lostBy_1 rfl ?_
  refine jw_iload_n (pc := 2) 2 dX12_lostBy_2 rfl ?_
  refine jw_callVz (pc := 3) (As := [jI a1, jI a2]) (st := []) dX12_lostBy_3 rfl (Nat.le_of_ble_eq_true rfl) qX12_isCaught jt_1530 jt_1532 jp_71 rfl rfl (Nat.le_of_ble_eq_true rfl) jv_12 rfl jg_127 jl_127 (by decide) (jw_ho jg_127 (by decide)) (kX12_isCaught G a1 a2 ha1 ha2 M) (fun v1 hv1 => ?_)
  refine jw_if_eq (pc := 6) 25 dX12_lostBy_6 (by decide) (jw_bz hv1) (fun _ => ?_) (fun _ => ?_)
  · refine jw_iconst (pc := 25) dX12_lostBy_25 ?_
    exact jw_ret (pc := 26) (v := 0) dX12_lostBy_26 (jw_rc _ rfl) rfl rfl
  · refine jw_aloadR (pc := 9) 0 dX12_lostBy_9 rfl ?_
    refine jw_iload_n (pc := 10) 1 dX12_lostBy_10 rfl ?_
    refine jw_iconst (pc := 11) dX12_lostBy_11 ?_
    refine jw_callVi (pc := 12) (As := [jI a1, jI 1]) (st := []) dX12_lostBy_12 rfl (Nat.le_of_ble_eq_true rfl) qX12_goodsOf jt_1496 jt_1498 jp_65 rfl rfl (Nat.le_of_ble_eq_true rfl) jv_12 rfl jg_127 jl_127 (by decide) (jw_ho jg_127 (by decide)) (kX12_goodsOf G a1 1 ha1 (jw_rc _ rfl) M) (fun v2 hv2 => ?_)
    refine jw_aloadR (pc := 15) 0 dX12_lostBy_15 rfl ?_
    refine jw_iload_n (pc := 16) 1 dX12_lostBy_16 rfl ?_
    refine jw_iconst (pc := 17) dX12_lostBy_17 ?_
    refine jw_callVi (pc := 18) (As := [jI a1, jI 2]) (st := [jI v2]) dX12_lostBy_18 rfl (Nat.le_of_ble_eq_true rfl) qX12_goodsOf jt_1496 jt_1498 jp_65 rfl rfl (Nat.le_of_ble_eq_true rfl) jv_12 rfl jg_127 jl_127 (by decide) (jw_ho jg_127 (by decide)) (kX12_goodsOf G a1 2 ha1 (jw_rc _ rfl) M) (fun v3 hv3 => ?_)
    refine jw_iadd (pc := 21) dX12_lostBy_21 ?_
    refine jw_goto (pc := 22) 26 dX12_lostBy_22 (by decide) ?_
    exact jw_ret (pc := 26) (v := jw_w (v2 + v3)) dX12_lostBy_26 (jw_wr _) rfl rfl
theorem kX12_lostBy (G : jw_G) (a1 : Int) (a2 : Int) (ha1 : jw_r a1) (ha2 : jw_r a2) (M : jw_M) : jw_Ct G YX12_lostBy (some .int) 3 0 0 true (fun v => (v, M)) yX12_lostBy [jR G 127, jI a1, jI a2] M (fX12_lostBy a1 a2 M) := jw_met (by decide) rfl rfl rfl (Nat.le_of_ble_eq_true rfl) (rX12_lostBy G a1 a2 ha1 ha2 M)
abbrev YX12_becameOf : jw_Y := (RX12, cX12_becameOf, 2, 1, "becameOf")
theorem qX12_becameOf : jw_cy YX12_becameOf (some .int) yX12_becameOf 1 := ⟨by decide, jt_1550, jt_14, by decide, by decide +kernel⟩
theorem dX12_becameOf_0 : decode cX12_becameOf 0 = .ok (.aload_n 0, 1) := by decide +kernel
theorem dX12_becameOf_1 : decode cX12_becameOf 1 = .ok (.getfield 25, 3) := by decide +kernel
theorem dX12_becameOf_4 : decode cX12_becameOf 4 = .ok (.bipush 53, 2) := by decide +kernel
theorem dX12_becameOf_6 : decode cX12_becameOf 6 = .ok (.iload_n 1, 1) := by decide +kernel
theorem dX12_becameOf_7 : decode cX12_becameOf 7 = .ok (.iadd, 1) := by decide +kernel
theorem dX12_becameOf_8 : decode cX12_becameOf 8 = .ok (.iaload, 1) := by decide +kernel
theorem dX12_becameOf_9 : decode cX12_becameOf 9 = .ok (.ireturn, 1) := by decide +kernel
def fX12_becameOf (a1 : Int) (M : jw_M) : Option Int :=
  if 0 ≤ jw_w (53 + a1) ∧ jw_w (53 + a1) < 104 then some (M 133 (jw_w (53 + a1))) else none
set_option maxRecDepth 100000 in
theorem rX12_becameOf (G : jw_G) (a1 : Int) (ha1 : jw_r a1) (M : jw_M) : jw_Rn G YX12_becameOf 1 0 0 true (fun v => (v, M)) 0 [(0, jR G 127), (1, jI a1)] [] M (fX12_becameOf a1 M) := by
  unfold fX12_becameOf
  refine jw_aloadR (pc := 0) 0 dX12_becameOf_0 rfl ?_
  refine jw_getR (pc := 1) (j := 8) rfl dX12_becameOf_1 jv_12 ji_12 (Or.inl jt_1239) jg_127 jl_127 (by decide) (by decide) rfl jf_12_8 ?_
  refine jw_bipush (pc := 4) dX12_becameOf_4 rfl ?_
  refine jw_iload_n (pc := 6) 1 dX12_becameOf_6 rfl ?_
  refine jw_iadd (pc := 7) dX12_becameOf_7 ?_
  refine jw_iald (pc := 8) dX12_becameOf_8 jg_133 jl_133 (jw_ho jg_133 (by decide)) (jw_wr _) rfl (fun h1 => ?_)
  exact jw_ret (pc := 9) (v := M 133 (jw_w (53 + a1))) dX12_becameOf_9 h1 rfl rfl
theorem kX12_becameOf (G : jw_G) (a1 : Int) (ha1 : jw_r a1) (M : jw_M) : jw_Ct G YX12_becameOf (some .int) 1 0 0 true (fun v => (v, M)) yX12_becameOf [jR G 127, jI a1] M (fX12_becameOf a1 M) := jw_met (by decide) rfl rfl rfl (Nat.le_of_ble_eq_true rfl) (rX12_becameOf G a1 ha1 M)
abbrev YX12_layRaid : jw_Y := (RX12, cX12_layRaid, 7, 1, "layRaid")
theorem qX12_layRaid : jw_cy YX12_layRaid (some .int) yX12_layRaid 1 := ⟨by decide, jt_1525, jt_14, by decide, by decide +kernel⟩
theorem dX12_layRaid_0 : decode cX12_layRaid 0 = .ok (.iconst 0, 1) := by decide +kernel
theorem dX12_layRaid_1 : decode cX12_layRaid 1 = .ok (.istore_n 2, 1) := by decide +kernel
theorem dX12_layRaid_2 : decode cX12_layRaid 2 = .ok (.aload_n 0, 1) := by decide +kernel
theorem dX12_layRaid_3 : decode cX12_layRaid 3 = .ok (.getfield 25, 3) := by decide +kernel
theorem dX12_layRaid_6 : decode cX12_layRaid 6 = .ok (.bipush 42, 2) := by decide +kernel
theorem dX12_layRaid_8 : decode cX12_layRaid 8 = .ok (.iload_n 1, 1) := by decide +kernel
theorem dX12_layRaid_9 : decode cX12_layRaid 9 = .ok (.iastore, 1) := by decide +kernel
theorem dX12_layRaid_10 : decode cX12_layRaid 10 = .ok (.aload_n 0, 1) := by decide +kernel
theorem dX12_layRaid_11 : decode cX12_layRaid 11 = .ok (.getfield 25, 3) := by decide +kernel
theorem dX12_layRaid_14 : decode cX12_layRaid 14 = .ok (.bipush 58, 2) := by decide +kernel
theorem dX12_layRaid_16 : decode cX12_layRaid 16 = .ok (.iconst 0, 1) := by decide +kernel
theorem dX12_layRaid_17 : decode cX12_layRaid 17 = .ok (.iastore, 1) := by decide +kernel
theorem dX12_layRaid_18 : decode cX12_layRaid 18 = .ok (.iconst 0, 1) := by decide +kernel
theorem dX12_layRaid_19 : decode cX12_layRaid 19 = .ok (.istore_n 3, 1) := by decide +kernel
theorem dX12_layRaid_20 : decode cX12_layRaid 20 = .ok (.iload_n 3, 1) := by decide +kernel
theorem dX12_layRaid_21 : decode cX12_layRaid 21 = .ok (.bipush 7, 2) := by decide +kernel
theorem dX12_layRaid_23 : decode cX12_layRaid 23 = .ok (.if_icmp .ge 37, 3) := by decide +kernel
theorem dX12_layRaid_26 : decode cX12_layRaid 26 = .ok (.aload_n 0, 1) := by decide +kernel
theorem dX12_layRaid_27 : decode cX12_layRaid 27 = .ok (.getfield 25, 3) := by decide +kernel
theorem dX12_layRaid_30 : decode cX12_layRaid 30 = .ok (.bipush 58, 2) := by decide +kernel
theorem dX12_layRaid_32 : decode cX12_layRaid 32 = .ok (.dup2, 1) := by decide +kernel
theorem dX12_layRaid_33 : decode cX12_layRaid 33 = .ok (.iaload, 1) := by decide +kernel
theorem dX12_layRaid_34 : decode cX12_layRaid 34 = .ok (.aload_n 0, 1) := by decide +kernel
theorem dX12_layRaid_35 : decode cX12_layRaid 35 = .ok (.getfield 37, 3) := by decide +kernel
theorem dX12_layRaid_38 : decode cX12_layRaid 38 = .ok (.iload_n 3, 1) := by decide +kernel
theorem dX12_layRaid_39 : decode cX12_layRaid 39 = .ok (.iaload, 1) := by decide +kernel
theorem dX12_layRaid_40 : decode cX12_layRaid 40 = .ok (.ldc 223, 2) := by decide +kernel
theorem dX12_layRaid_42 : decode cX12_layRaid 42 = .ok (.if_icmp .ge 9, 3) := by decide +kernel
theorem dX12_layRaid_45 : decode cX12_layRaid 45 = .ok (.iconst 1, 1) := by decide +kernel
theorem dX12_layRaid_46 : decode cX12_layRaid 46 = .ok (.iload_n 3, 1) := by decide +kernel
theorem dX12_layRaid_47 : decode cX12_layRaid 47 = .ok (.ishl, 1) := by decide +kernel
theorem dX12_layRaid_48 : decode cX12_layRaid 48 = .ok (.goto 4, 3) := by decide +kernel
theorem dX12_layRaid_51 : decode cX12_layRaid 51 = .ok (.iconst 0, 1) := by decide +kernel
theorem dX12_layRaid_52 : decode cX12_layRaid 52 = .ok (.ior, 1) := by decide +kernel
theorem dX12_layRaid_53 : decode cX12_layRaid 53 = .ok (.iastore, 1) := by decide +kernel
theorem dX12_layRaid_54 : decode cX12_layRaid 54 = .ok (.iinc 3 1, 3) := by decide +kernel
theorem dX12_layRaid_57 : decode cX12_layRaid 57 = .ok (.goto (-37), 3) := by decide +kernel
theorem dX12_layRaid_60 : decode cX12_layRaid 60 = .ok (.iconst 0, 1) := by decide +kernel
theorem dX12_layRaid_61 : decode cX12_layRaid 61 = .ok (.istore_n 3, 1) := by decide +kernel
theorem dX12_layRaid_62 : decode cX12_layRaid 62 = .ok (.iload_n 3, 1) := by decide +kernel
theorem dX12_layRaid_63 : decode cX12_layRaid 63 = .ok (.aload_n 0, 1) := by decide +kernel
theorem dX12_layRaid_64 : decode cX12_layRaid 64 = .ok (.getfield 19, 3) := by decide +kernel
theorem dX12_layRaid_67 : decode cX12_layRaid 67 = .ok (.iconst 3, 1) := by decide +kernel
theorem dX12_layRaid_68 : decode cX12_layRaid 68 = .ok (.iaload, 1) := by decide +kernel
theorem dX12_layRaid_69 : decode cX12_layRaid 69 = .ok (.if_icmp .ge 188, 3) := by decide +kernel
theorem dX12_layRaid_72 : decode cX12_layRaid 72 = .ok (.aload_n 0, 1) := by decide +kernel
theorem dX12_layRaid_73 : decode cX12_layRaid 73 = .ok (.iload_n 3, 1) := by decide +kernel
theorem dX12_layRaid_74 : decode cX12_layRaid 74 = .ok (.ldc 110, 2) := by decide +kernel
theorem dX12_layRaid_76 : decode cX12_layRaid 76 = .ok (.invokevirtual 244, 3) := by decide +kernel
theorem dX12_layRaid_79 : decode cX12_layRaid 79 = .ok (.istore 4, 2) := by decide +kernel
theorem dX12_layRaid_81 : decode cX12_layRaid 81 = .ok (.aload_n 0, 1) := by decide +kernel
theorem dX12_layRaid_82 : decode cX12_layRaid 82 = .ok (.getfield 37, 3) := by decide +kernel
theorem dX12_layRaid_85 : decode cX12_layRaid 85 = .ok (.aload_n 0, 1) := by decide +kernel
theorem dX12_layRaid_86 : decode cX12_layRaid 86 = .ok (.getfield 25, 3) := by decide +kernel
theorem dX12_layRaid_89 : decode cX12_layRaid 89 = .ok (.iconst 0, 1) := by decide +kernel
theorem dX12_layRaid_90 : decode cX12_layRaid 90 = .ok (.iload_n 3, 1) := by decide +kernel
theorem dX12_layRaid_91 : decode cX12_layRaid 91 = .ok (.iadd, 1) := by decide +kernel
theorem dX12_layRaid_92 : decode cX12_layRaid 92 = .ok (.iaload, 1) := by decide +kernel
theorem dX12_layRaid_93 : decode cX12_layRaid 93 = .ok (.iaload, 1) := by decide +kernel
theorem dX12_layRaid_94 : decode cX12_layRaid 94 = .ok (.istore 5, 2) := by decide +kernel
theorem dX12_layRaid_96 : decode cX12_layRaid 96 = .ok (.aload_n 0, 1) := by decide +kernel
theorem dX12_layRaid_97 : decode cX12_layRaid 97 = .ok (.getfield 25, 3) := by decide +kernel
theorem dX12_layRaid_100 : decode cX12_layRaid 100 = .ok (.bipush 43, 2) := by decide +kernel
theorem dX12_layRaid_102 : decode cX12_layRaid 102 = .ok (.iload_n 3, 1) := by decide +kernel
theorem dX12_layRaid_103 : decode cX12_layRaid 103 = .ok (.iadd, 1) := by decide +kernel
theorem dX12_layRaid_104 : decode cX12_layRaid 104 = .ok (.iload 4, 2) := by decide +kernel
theorem dX12_layRaid_106 : decode cX12_layRaid 106 = .ok (.ldc 223, 2) := by decide +kernel
theorem dX12_layRaid_108 : decode cX12_layRaid 108 = .ok (.if_icmp .ge 8, 3) := by decide +kernel
theorem dX12_layRaid_111 : decode cX12_layRaid 111 = .ok (.iload 4, 2) := by decide +kernel
theorem dX12_layRaid_113 : decode cX12_layRaid 113 = .ok (.goto 5, 3) := by decide +kernel
theorem dX12_layRaid_116 : decode cX12_layRaid 116 = .ok (.ldc 110, 2) := by decide +kernel
theorem dX12_layRaid_118 : decode cX12_layRaid 118 = .ok (.iastore, 1) := by decide +kernel
theorem dX12_layRaid_119 : decode cX12_layRaid 119 = .ok (.aload_n 0, 1) := by decide +kernel
theorem dX12_layRaid_120 : decode cX12_layRaid 120 = .ok (.getfield 25, 3) := by decide +kernel
theorem dX12_layRaid_123 : decode cX12_layRaid 123 = .ok (.bipush 48, 2) := by decide +kernel
theorem dX12_layRaid_125 : decode cX12_layRaid 125 = .ok (.iload_n 3, 1) := by decide +kernel
theorem dX12_layRaid_126 : decode cX12_layRaid 126 = .ok (.iadd, 1) := by decide +kernel
theorem dX12_layRaid_127 : decode cX12_layRaid 127 = .ok (.iload 5, 2) := by decide +kernel
theorem dX12_layRaid_129 : decode cX12_layRaid 129 = .ok (.ldc 223, 2) := by decide +kernel
theorem dX12_layRaid_131 : decode cX12_layRaid 131 = .ok (.if_icmp .ge 8, 3) := by decide +kernel
theorem dX12_layRaid_134 : decode cX12_layRaid 134 = .ok (.iload 5, 2) := by decide +kernel
theorem dX12_layRaid_136 : decode cX12_layRaid 136 = .ok (.goto 5, 3) := by decide +kernel
theorem dX12_layRaid_139 : decode cX12_layRaid 139 = .ok (.ldc 110, 2) := by decide +kernel
theorem dX12_layRaid_141 : decode cX12_layRaid 141 = .ok (.iastore, 1) := by decide +kernel
theorem dX12_layRaid_142 : decode cX12_layRaid 142 = .ok (.aload_n 0, 1) := by decide +kernel
theorem dX12_layRaid_143 : decode cX12_layRaid 143 = .ok (.getfield 25, 3) := by decide +kernel
theorem dX12_layRaid_146 : decode cX12_layRaid 146 = .ok (.bipush 53, 2) := by decide +kernel
theorem dX12_layRaid_148 : decode cX12_layRaid 148 = .ok (.iload_n 3, 1) := by decide +kernel
theorem dX12_layRaid_149 : decode cX12_layRaid 149 = .ok (.iadd, 1) := by decide +kernel
theorem dX12_layRaid_150 : decode cX12_layRaid 150 = .ok (.aload_n 0, 1) := by decide +kernel
theorem dX12_layRaid_151 : decode cX12_layRaid 151 = .ok (.iload_n 3, 1) := by decide +kernel
theorem dX12_layRaid_152 : decode cX12_layRaid 152 = .ok (.iload 4, 2) := by decide +kernel
theorem dX12_layRaid_154 : decode cX12_layRaid 154 = .ok (.invokevirtual 240, 3) := by decide +kernel
theorem dX12_layRaid_157 : decode cX12_layRaid 157 = .ok (.ifCond .eq 7, 3) := by decide +kernel
theorem dX12_layRaid_160 : decode cX12_layRaid 160 = .ok (.iconst 2, 1) := by decide +kernel
theorem dX12_layRaid_161 : decode cX12_layRaid 161 = .ok (.goto 15, 3) := by decide +kernel
theorem dX12_layRaid_164 : decode cX12_layRaid 164 = .ok (.iload 4, 2) := by decide +kernel
theorem dX12_layRaid_166 : decode cX12_layRaid 166 = .ok (.ldc 223, 2) := by decide +kernel
theorem dX12_layRaid_168 : decode cX12_layRaid 168 = .ok (.if_icmp .ge 7, 3) := by decide +kernel
theorem dX12_layRaid_171 : decode cX12_layRaid 171 = .ok (.iconst 1, 1) := by decide +kernel
theorem dX12_layRaid_172 : decode cX12_layRaid 172 = .ok (.goto 4, 3) := by decide +kernel
theorem dX12_layRaid_175 : decode cX12_layRaid 175 = .ok (.iconst 0, 1) := by decide +kernel
theorem dX12_layRaid_176 : decode cX12_layRaid 176 = .ok (.iastore, 1) := by decide +kernel
theorem dX12_layRaid_177 : decode cX12_layRaid 177 = .ok (.iload_n 2, 1) := by decide +kernel
theorem dX12_layRaid_178 : decode cX12_layRaid 178 = .ok (.aload_n 0, 1) := by decide +kernel
theorem dX12_layRaid_179 : decode cX12_layRaid 179 = .ok (.iload_n 3, 1) := by decide +kernel
theorem dX12_layRaid_180 : decode cX12_layRaid 180 = .ok (.iload 4, 2) := by decide +kernel
theorem dX12_layRaid_182 : decode cX12_layRaid 182 = .ok (.invokevirtual 240, 3) := by decide +kernel
theorem dX12_layRaid_185 : decode cX12_layRaid 185 = .ok (.ifCond .eq 9, 3) := by decide +kernel
theorem dX12_layRaid_188 : decode cX12_layRaid 188 = .ok (.iconst 1, 1) := by decide +kernel
theorem dX12_layRaid_189 : decode cX12_layRaid 189 = .ok (.iload_n 3, 1) := by decide +kernel
theorem dX12_layRaid_190 : decode cX12_layRaid 190 = .ok (.ishl, 1) := by decide +kernel
theorem dX12_layRaid_191 : decode cX12_layRaid 191 = .ok (.goto 4, 3) := by decide +kernel
theorem dX12_layRaid_194 : decode cX12_layRaid 194 = .ok (.iconst 0, 1) := by decide +kernel
theorem dX12_layRaid_195 : decode cX12_layRaid 195 = .ok (.ior, 1) := by decide +kernel
theorem dX12_layRaid_196 : decode cX12_layRaid 196 = .ok (.istore_n 2, 1) := by decide +kernel
theorem dX12_layRaid_197 : decode cX12_layRaid 197 = .ok (.iconst 0, 1) := by decide +kernel
theorem dX12_layRaid_198 : decode cX12_layRaid 198 = .ok (.istore 6, 2) := by decide +kernel
theorem dX12_layRaid_200 : decode cX12_layRaid 200 = .ok (.iload 6, 2) := by decide +kernel
theorem dX12_layRaid_202 : decode cX12_layRaid 202 = .ok (.aload_n 0, 1) := by decide +kernel
theorem dX12_layRaid_203 : decode cX12_layRaid 203 = .ok (.getfield 19, 3) := by decide +kernel
theorem dX12_layRaid_206 : decode cX12_layRaid 206 = .ok (.iconst 4, 1) := by decide +kernel
theorem dX12_layRaid_207 : decode cX12_layRaid 207 = .ok (.iaload, 1) := by decide +kernel
theorem dX12_layRaid_208 : decode cX12_layRaid 208 = .ok (.if_icmp .ge 43, 3) := by decide +kernel
theorem dX12_layRaid_211 : decode cX12_layRaid 211 = .ok (.aload_n 0, 1) := by decide +kernel
theorem dX12_layRaid_212 : decode cX12_layRaid 212 = .ok (.getfield 25, 3) := by decide +kernel
theorem dX12_layRaid_215 : decode cX12_layRaid 215 = .ok (.bipush 59, 2) := by decide +kernel
theorem dX12_layRaid_217 : decode cX12_layRaid 217 = .ok (.iconst 5, 1) := by decide +kernel
theorem dX12_layRaid_218 : decode cX12_layRaid 218 = .ok (.iload 6, 2) := by decide +kernel
theorem dX12_layRaid_220 : decode cX12_layRaid 220 = .ok (.imul, 1) := by decide +kernel
theorem dX12_layRaid_221 : decode cX12_layRaid 221 = .ok (.iadd, 1) := by decide +kernel
theorem dX12_layRaid_222 : decode cX12_layRaid 222 = .ok (.iload_n 3, 1) := by decide +kernel
theorem dX12_layRaid_223 : decode cX12_layRaid 223 = .ok (.iadd, 1) := by decide +kernel
theorem dX12_layRaid_224 : decode cX12_layRaid 224 = .ok (.aload_n 0, 1) := by decide +kernel
theorem dX12_layRaid_225 : decode cX12_layRaid 225 = .ok (.iload_n 3, 1) := by decide +kernel
theorem dX12_layRaid_226 : decode cX12_layRaid 226 = .ok (.aload_n 0, 1) := by decide +kernel
theorem dX12_layRaid_227 : decode cX12_layRaid 227 = .ok (.iload_n 3, 1) := by decide +kernel
theorem dX12_layRaid_228 : decode cX12_layRaid 228 = .ok (.iload 6, 2) := by decide +kernel
theorem dX12_layRaid_230 : decode cX12_layRaid 230 = .ok (.invokevirtual 244, 3) := by decide +kernel
theorem dX12_layRaid_233 : decode cX12_layRaid 233 = .ok (.invokevirtual 247, 3) := by decide +kernel
theorem dX12_layRaid_236 : decode cX12_layRaid 236 = .ok (.aload_n 0, 1) := by decide +kernel
theorem dX12_layRaid_237 : decode cX12_layRaid 237 = .ok (.iload_n 3, 1) := by decide +kernel
theorem dX12_layRaid_238 : decode cX12_layRaid 238 = .ok (.iload 4, 2) := by decide +kernel
theorem dX12_layRaid_240 : decode cX12_layRaid 240 = .ok (.invokevirtual 247, 3) := by decide +kernel
theorem dX12_layRaid_243 : decode cX12_layRaid 243 = .ok (.isub, 1) := by decide +kernel
theorem dX12_layRaid_244 : decode cX12_layRaid 244 = .ok (.iastore, 1) := by decide +kernel
theorem dX12_layRaid_245 : decode cX12_layRaid 245 = .ok (.iinc 6 1, 3) := by decide +kernel
theorem dX12_layRaid_248 : decode cX12_layRaid 248 = .ok (.goto (-48), 3) := by decide +kernel
theorem dX12_layRaid_251 : decode cX12_layRaid 251 = .ok (.iinc 3 1, 3) := by decide +kernel
theorem dX12_layRaid_254 : decode cX12_layRaid 254 = .ok (.goto (-192), 3) := by decide +kernel
theorem dX12_layRaid_257 : decode cX12_layRaid 257 = .ok (.iload_n 2, 1) := by decide +kernel
theorem dX12_layRaid_258 : decode cX12_layRaid 258 = .ok (.ireturn, 1) := by decide +kernel
def fX12_layRaid_52 (r20 : Int → Int → jw_M → Option (Int × jw_M)) (x2 : Int) (x3 : Int) (xs0 : Int) (xs1 : Int) (xs2 : Int) (M : jw_M) : Option (Int × jw_M) :=
  if 0 ≤ xs2 ∧ xs2 < 104 then Option.bind (some (jw_up M 133 xs2 (jw_ior xs1 xs0))) (fun M7 => Option.bind (some (jw_w (x3 + 1))) (fun v8 => r20 x2 v8 M7)) else none
set_option maxRecDepth 100000 in
theorem pX12_layRaid_52 (G : jw_G) (r20 : Int → Int → jw_M → Option (Int × jw_M)) (hr20 : ∀ (x2 : Int) (x3 : Int) (hx2 : jw_r x2) (hx3 : jw_r x3) (M : jw_M), jw_Rn G YX12_layRaid 4 0 0 true (fun q => q) 20 [(0, jR G 127), (2, jI x2), (3, jI x3)] [] M (r20 x2 x3 M)) : ∀ (x2 : Int) (x3 : Int) (xs0 : Int) (xs1 : Int) (xs2 : Int) (hx2 : jw_r x2) (hx3 : jw_r x3) (hxs0 : jw_r xs0) (hxs1 : jw_r xs1) (hxs2 : jw_r xs2) (M : jw_M), jw_Rn G YX12_layRaid 4 0 0 true (fun q => q) 52 [(0, jR G 127), (2, jI x2), (3, jI x3)] [jI xs0, jI xs1, jI xs2, jR G 133] M (fX12_layRaid_52 r20 x2 x3 xs0 xs1 xs2 M) := by
  intro x2 x3 xs0 xs1 xs2 hx2 hx3 hxs0 hxs1 hxs2 M
  unfold fX12_layRaid_52
  refine jw_iorr (pc := 52) dX12_layRaid_52 ?_
  refine jw_iast (pc := 53) dX12_layRaid_53 jg_133 jl_133 (jw_ho jg_133 (by decide)) hxs2 (jw_rI _) rfl ?_
  refine jw_letM (fun M7 => ?_)
  refine jw_iincL (pc := 54) 2 (lv' := (fun y => [(3, y), (0, jR G 127), (2, jI x2)])) dX12_layRaid_54 rfl (Nat.le_of_ble_eq_true rfl) (fun _ => rfl) (fun v8 hv8 => ?_)
  refine jw_goto (pc := 57) 20 dX12_layRaid_57 (by decide) ?_
  exact jw_few [1, 2, 0] rfl (hr20 x2 v8 hx2 hv8 M7)
def fX12_layRaid_200 (r62 : Int → Int → jw_M → Option (Int × jw_M)) : Nat → Int → Int → Int → Int → jw_M → Option (Int × jw_M)
  | 0, _, _, _, _, _ => none
  | k + 1, x2, x3, x4, x6, M => if 0 ≤ (4 : Int) ∧ (4 : Int) < 104 then if x6 < M 131 4 then (Option.bind (fX12_warnedOf x3 x6 M) (fun v24 => Option.bind (fX12_lostBy x3 v24 M) (fun v25 => Option.bind (fX12_lostBy x3 x4 M) (fun v26 => if 0 ≤ jw_w ((jw_w (59 + (jw_w (5 * x6)))) + x3) ∧ jw_w ((jw_w (59 + (jw_w (5 * x6)))) + x3) < 104 then Option.bind (some (jw_up M 133 (jw_w ((jw_w (59 + (jw_w (5 * x6)))) + x3)) (jw_w (v25 - v26)))) (fun M27 => Option.bind (some (jw_w (x6 + 1))) (fun v28 => fX12_layRaid_200 r62 k x2 x3 x4 v28 M27)) else none)))) else (Option.bind (some (jw_w (x3 + 1))) (fun v29 => r62 x2 v29 M)) else none
set_option maxRecDepth 100000 in
theorem pX12_layRaid_200 (G : jw_G) (r62 : Int → Int → jw_M → Option (Int × jw_M)) (hr62 : ∀ (x2 : Int) (x3 : Int) (hx2 : jw_r x2) (hx3 : jw_r x3) (M : jw_M), jw_Rn G YX12_layRaid 4 0 0 true (fun q => q) 62 [(0, jR G 127), (2, jI x2), (3, jI x3)] [] M (r62 x2 x3 M)) : ∀ (k : Nat) (x2 : Int) (x3 : Int) (x4 : Int) (x6 : Int) (hx2 : jw_r x2) (hx3 : jw_r x3) (hx4 : jw_r x4) (hx6 : jw_r x6) (M : jw_M), jw_Rn G YX12_layRaid 4 0 0 true (fun q => q) 200 [(0, jR G 127), (2, jI x2), (3, jI x3), (4, jI x4), (6, jI x6)] [] M (fX12_layRaid_200 r62 k x2 x3 x4 x6 M) := by
  intro k
  induction k with
  | zero =>
    intro x2 x3 x4 x6 hx2 hx3 hx4 hx6 M
    exact jw_none
  | succ k ih =>
    intro x2 x3 x4 x6 hx2 hx3 hx4 hx6 M
    rw [fX12_layRaid_200]
    refine jw_iload (pc := 200) 4 dX12_layRaid_200 rfl ?_
    refine jw_aloadR (pc := 202) 0 dX12_layRaid_202 rfl ?_
    refine jw_getR (pc := 203) (j := 5) rfl dX12_layRaid_203 jv_12 ji_12 (Or.inl jt_1236) jg_127 jl_127 (by decide) (by decide) rfl jf_12_5 ?_
    refine jw_iconst (pc := 206) dX12_layRaid_206 ?_
    refine jw_iald (pc := 207) dX12_layRaid_207 jg_131 jl_131 (jw_ho jg_131 (by decide)) (jw_rc _ rfl) rfl (fun h23 => ?_)
    refine jw_ic_ge (pc := 208) 251 dX12_layRaid_208 (by decide) hx6 h23 (fun _ => ?_) (fun _ => ?_)
    · refine jw_aloadR (pc := 211) 0 dX12_layRaid_211 rfl ?_
      refine jw_getR (pc := 212) (j := 8) rfl dX12_layRaid_212 jv_12 ji_12 (Or.inl jt_1239) jg_127 jl_127 (by decide) (by decide) rfl jf_12_8 ?_
      refine jw_bipush (pc := 215) dX12_layRaid_215 rfl ?_
      refine jw_iconst (pc := 217) dX12_layRaid_217 ?_
      refine jw_iload (pc := 218) 4 dX12_layRaid_218 rfl ?_
      refine jw_imul (pc := 220) dX12_layRaid_220 ?_
      refine jw_iadd (pc := 221) dX12_layRaid_221 ?_
      refine jw_iload_n (pc := 222) 2 dX12_layRaid_222 rfl ?_
      refine jw_iadd (pc := 223) dX12_layRaid_223 ?_
      refine jw_aloadR (pc := 224) 0 dX12_layRaid_224 rfl ?_
      refine jw_iload_n (pc := 225) 2 dX12_layRaid_225 rfl ?_
      refine jw_aloadR (pc := 226) 0 dX12_layRaid_226 rfl ?_
      refine jw_iload_n (pc := 227) 2 dX12_layRaid_227 rfl ?_
      refine jw_iload (pc := 228) 4 dX12_layRaid_228 rfl ?_
      refine jw_callVi (pc := 230) (As := [jI x3, jI x6]) (st := [jI x3, jR G 127, jI (jw_w ((jw_w (59 + (jw_w (5 * x6)))) + x3)), jR G 133]) dX12_layRaid_230 rfl (Nat.le_of_ble_eq_true rfl) qX12_warnedOf jt_1526 jt_1528 jp_70 rfl rfl (Nat.le_of_ble_eq_true rfl) jv_12 rfl jg_127 jl_127 (by decide) (jw_ho jg_127 (by decide)) (kX12_warnedOf G x3 x6 hx3 hx6 M) (fun v24 hv24 => ?_)
      refine jw_callVi (pc := 233) (As := [jI x3, jI v24]) (st := [jI (jw_w ((jw_w (59 + (jw_w (5 * x6)))) + x3)), jR G 133]) dX12_layRaid_233 rfl (Nat.le_of_ble_eq_true rfl) qX12_lostBy jt_1534 jt_1536 jp_72 rfl rfl (Nat.le_of_ble_eq_true rfl) jv_12 rfl jg_127 jl_127 (by decide) (jw_ho jg_127 (by decide)) (kX12_lostBy G x3 v24 hx3 hv24 M) (fun v25 hv25 => ?_)
      refine jw_aloadR (pc := 236) 0 dX12_layRaid_236 rfl ?_
      refine jw_iload_n (pc := 237) 2 dX12_layRaid_237 rfl ?_
      refine jw_iload (pc := 238) 3 dX12_layRaid_238 rfl ?_
      refine jw_callVi (pc := 240) (As := [jI x3, jI x4]) (st := [jI v25, jI (jw_w ((jw_w (59 + (jw_w (5 * x6)))) + x3)), jR G 133]) dX12_layRaid_240 rfl (Nat.le_of_ble_eq_true rfl) qX12_lostBy jt_1534 jt_1536 jp_72 rfl rfl (Nat.le_of_ble_eq_true rfl) jv_12 rfl jg_127 jl_127 (by decide) (jw_ho jg_127 (by decide)) (kX12_lostBy G x3 x4 hx3 hx4 M) (fun v26 hv26 => ?_)
      refine jw_isub (pc := 243) dX12_layRaid_243 ?_
      refine jw_iast (pc := 244) dX12_layRaid_244 jg_133 jl_133 (jw_ho jg_133 (by decide)) (jw_wr _) (jw_wr _) rfl ?_
      refine jw_letM (fun M27 => ?_)
      refine jw_iincL (pc := 245) 4 (lv' := (fun y => [(6, y), (0, jR G 127), (2, jI x2), (3, jI x3), (4, jI x4)])) dX12_layRaid_245 rfl (Nat.le_of_ble_eq_true rfl) (fun _ => rfl) (fun v28 hv28 => ?_)
      refine jw_goto (pc := 248) 200 dX12_layRaid_248 (by decide) ?_
      exact jw_few [1, 2, 3, 4, 0] rfl (ih x2 x3 x4 v28 hx2 hx3 hx4 hv28 M27)
    · refine jw_iincL (pc := 251) 2 (lv' := (fun y => [(3, y), (0, jR G 127), (2, jI x2), (4, jI x4), (6, jI x6)])) dX12_layRaid_251 rfl (Nat.le_of_ble_eq_true rfl) (fun _ => rfl) (fun v29 hv29 => ?_)
      refine jw_goto (pc := 254) 62 dX12_layRaid_254 (by decide) ?_
      exact jw_few [1, 2, 0] rfl (hr62 x2 v29 hx2 hv29 M)
def fX12_layRaid_195 (r62 : Int → Int → jw_M → Option (Int × jw_M)) (x3 : Int) (x4 : Int) (xs0 : Int) (xs1 : Int) (M : jw_M) : Option (Int × jw_M) :=
  Option.bind (some (jw_ior xs1 xs0)) (fun v21 => Option.bind (some 0) (fun v22 => fX12_layRaid_200 r62 jw_fu v21 x3 x4 v22 M))
set_option maxRecDepth 100000 in
theorem pX12_layRaid_195 (G : jw_G) (r62 : Int → Int → jw_M → Option (Int × jw_M)) (hr62 : ∀ (x2 : Int) (x3 : Int) (hx2 : jw_r x2) (hx3 : jw_r x3) (M : jw_M), jw_Rn G YX12_layRaid 4 0 0 true (fun q => q) 62 [(0, jR G 127), (2, jI x2), (3, jI x3)] [] M (r62 x2 x3 M)) : ∀ (x3 : Int) (x4 : Int) (xs0 : Int) (xs1 : Int) (hx3 : jw_r x3) (hx4 : jw_r x4) (hxs0 : jw_r xs0) (hxs1 : jw_r xs1) (M : jw_M), jw_Rn G YX12_layRaid 4 0 0 true (fun q => q) 195 [(0, jR G 127), (3, jI x3), (4, jI x4)] [jI xs0, jI xs1] M (fX12_layRaid_195 r62 x3 x4 xs0 xs1 M) := by
  intro x3 x4 xs0 xs1 hx3 hx4 hxs0 hxs1 M
  unfold fX12_layRaid_195
  refine jw_iorr (pc := 195) dX12_layRaid_195 ?_
  refine jw_istore_nL (pc := 196) (lv' := (fun y => [(2, y), (0, jR G 127), (3, jI x3), (4, jI x4)])) dX12_layRaid_196 (jw_rI _) (by decide) (fun _ => rfl) (fun v21 hv21 => ?_)
  refine jw_iconst (pc := 197) dX12_layRaid_197 ?_
  refine jw_istoreL (pc := 198) (lv' := (fun y => [(6, y), (2, jI v21), (0, jR G 127), (3, jI x3), (4, jI x4)])) dX12_layRaid_198 (jw_rc _ rfl) (by decide) (fun _ => rfl) (fun v22 hv22 => ?_)
  exact jw_few [2, 1, 3, 4, 0] rfl (pX12_layRaid_200 G r62 hr62 jw_fu v21 x3 x4 v22 hv21 hx3 hx4 hv22 M)
def fX12_layRaid_176 (r62 : Int → Int → jw_M → Option (Int × jw_M)) (x2 : Int) (x3 : Int) (x4 : Int) (xs0 : Int) (xs1 : Int) (M : jw_M) : Option (Int × jw_M) :=
  if 0 ≤ xs1 ∧ xs1 < 104 then Option.bind (some (jw_up M 133 xs1 xs0)) (fun M19 => Option.bind (fX12_isCaught x3 x4 M19) (fun v20 => if v20 = 0 then (fX12_layRaid_195 r62 x3 x4 0 x2 M19) else (fX12_layRaid_195 r62 x3 x4 (jw_ishl 1 x3) x2 M19))) else none
set_option maxRecDepth 100000 in
theorem pX12_layRaid_176 (G : jw_G) (r62 : Int → Int → jw_M → Option (Int × jw_M)) (hr62 : ∀ (x2 : Int) (x3 : Int) (hx2 : jw_r x2) (hx3 : jw_r x3) (M : jw_M), jw_Rn G YX12_layRaid 4 0 0 true (fun q => q) 62 [(0, jR G 127), (2, jI x2), (3, jI x3)] [] M (r62 x2 x3 M)) : ∀ (x2 : Int) (x3 : Int) (x4 : Int) (xs0 : Int) (xs1 : Int) (hx2 : jw_r x2) (hx3 : jw_r x3) (hx4 : jw_r x4) (hxs0 : jw_r xs0) (hxs1 : jw_r xs1) (M : jw_M), jw_Rn G YX12_layRaid 4 0 0 true (fun q => q) 176 [(0, jR G 127), (2, jI x2), (3, jI x3), (4, jI x4)] [jI xs0, jI xs1, jR G 133] M (fX12_layRaid_176 r62 x2 x3 x4 xs0 xs1 M) := by
  intro x2 x3 x4 xs0 xs1 hx2 hx3 hx4 hxs0 hxs1 M
  unfold fX12_layRaid_176
  refine jw_iast (pc := 176) dX12_layRaid_176 jg_133 jl_133 (jw_ho jg_133 (by decide)) hxs1 hxs0 rfl ?_
  refine jw_letM (fun M19 => ?_)
  refine jw_iload_n (pc := 177) 1 dX12_layRaid_177 rfl ?_
  refine jw_aloadR (pc := 178) 0 dX12_layRaid_178 rfl ?_
  refine jw_iload_n (pc := 179) 2 dX12_layRaid_179 rfl ?_
  refine jw_iload (pc := 180) 3 dX12_layRaid_180 rfl ?_
  refine jw_callVz (pc := 182) (As := [jI x3, jI x4]) (st := [jI x2]) dX12_layRaid_182 rfl (Nat.le_of_ble_eq_true rfl) qX12_isCaught jt_1530 jt_1532 jp_71 rfl rfl (Nat.le_of_ble_eq_true rfl) jv_12 rfl jg_127 jl_127 (by decide) (jw_ho jg_127 (by decide)) (kX12_isCaught G x3 x4 hx3 hx4 M19) (fun v20 hv20 => ?_)
  refine jw_if_eq (pc := 185) 194 dX12_layRaid_185 (by decide) (jw_bz hv20) (fun _ => ?_) (fun _ => ?_)
  · refine jw_iconst (pc := 194) dX12_layRaid_194 ?_
    exact jw_few [0, 2, 3] rfl (pX12_layRaid_195 G r62 hr62 x3 x4 0 x2 hx3 hx4 (jw_rc _ rfl) hx2 M19)
  · refine jw_iconst (pc := 188) dX12_layRaid_188 ?_
    refine jw_iload_n (pc := 189) 2 dX12_layRaid_189 rfl ?_
    refine jw_ishlr (pc := 190) dX12_layRaid_190 ?_
    refine jw_goto (pc := 191) 195 dX12_layRaid_191 (by decide) ?_
    exact jw_few [0, 2, 3] rfl (pX12_layRaid_195 G r62 hr62 x3 x4 (jw_ishl 1 x3) x2 hx3 hx4 (jw_rI _) hx2 M19)
def fX12_layRaid_141 (r62 : Int → Int → jw_M → Option (Int × jw_M)) (x2 : Int) (x3 : Int) (x4 : Int) (xs0 : Int) (xs1 : Int) (M : jw_M) : Option (Int × jw_M) :=
  if 0 ≤ xs1 ∧ xs1 < 104 then Option.bind (some (jw_up M 133 xs1 xs0)) (fun M17 => Option.bind (fX12_isCaught x3 x4 M17) (fun v18 => if v18 = 0 then (if x4 < 1000000 then (fX12_layRaid_176 r62 x2 x3 x4 1 (jw_w (53 + x3)) M17) else (fX12_layRaid_176 r62 x2 x3 x4 0 (jw_w (53 + x3)) M17)) else (fX12_layRaid_176 r62 x2 x3 x4 2 (jw_w (53 + x3)) M17))) else none
set_option maxRecDepth 100000 in
theorem pX12_layRaid_141 (G : jw_G) (r62 : Int → Int → jw_M → Option (Int × jw_M)) (hr62 : ∀ (x2 : Int) (x3 : Int) (hx2 : jw_r x2) (hx3 : jw_r x3) (M : jw_M), jw_Rn G YX12_layRaid 4 0 0 true (fun q => q) 62 [(0, jR G 127), (2, jI x2), (3, jI x3)] [] M (r62 x2 x3 M)) : ∀ (x2 : Int) (x3 : Int) (x4 : Int) (xs0 : Int) (xs1 : Int) (hx2 : jw_r x2) (hx3 : jw_r x3) (hx4 : jw_r x4) (hxs0 : jw_r xs0) (hxs1 : jw_r xs1) (M : jw_M), jw_Rn G YX12_layRaid 4 0 0 true (fun q => q) 141 [(0, jR G 127), (2, jI x2), (3, jI x3), (4, jI x4)] [jI xs0, jI xs1, jR G 133] M (fX12_layRaid_141 r62 x2 x3 x4 xs0 xs1 M) := by
  intro x2 x3 x4 xs0 xs1 hx2 hx3 hx4 hxs0 hxs1 M
  unfold fX12_layRaid_141
  refine jw_iast (pc := 141) dX12_layRaid_141 jg_133 jl_133 (jw_ho jg_133 (by decide)) hxs1 hxs0 rfl ?_
  refine jw_letM (fun M17 => ?_)
  refine jw_aloadR (pc := 142) 0 dX12_layRaid_142 rfl ?_
  refine jw_getR (pc := 143) (j := 8) rfl dX12_layRaid_143 jv_12 ji_12 (Or.inl jt_1239) jg_127 jl_127 (by decide) (by decide) rfl jf_12_8 ?_
  refine jw_bipush (pc := 146) dX12_layRaid_146 rfl ?_
  refine jw_iload_n (pc := 148) 2 dX12_layRaid_148 rfl ?_
  refine jw_iadd (pc := 149) dX12_layRaid_149 ?_
  refine jw_aloadR (pc := 150) 0 dX12_layRaid_150 rfl ?_
  refine jw_iload_n (pc := 151) 2 dX12_layRaid_151 rfl ?_
  refine jw_iload (pc := 152) 3 dX12_layRaid_152 rfl ?_
  refine jw_callVz (pc := 154) (As := [jI x3, jI x4]) (st := [jI (jw_w (53 + x3)), jR G 133]) dX12_layRaid_154 rfl (Nat.le_of_ble_eq_true rfl) qX12_isCaught jt_1530 jt_1532 jp_71 rfl rfl (Nat.le_of_ble_eq_true rfl) jv_12 rfl jg_127 jl_127 (by decide) (jw_ho jg_127 (by decide)) (kX12_isCaught G x3 x4 hx3 hx4 M17) (fun v18 hv18 => ?_)
  refine jw_if_eq (pc := 157) 164 dX12_layRaid_157 (by decide) (jw_bz hv18) (fun _ => ?_) (fun _ => ?_)
  · refine jw_iload (pc := 164) 3 dX12_layRaid_164 rfl ?_
    refine jw_ldc (pc := 166) (n := 1000000) dX12_layRaid_166 jt_1469 (by decide) ?_
    refine jw_ic_ge (pc := 168) 175 dX12_layRaid_168 (by decide) hx4 (jw_rc _ rfl) (fun _ => ?_) (fun _ => ?_)
    · refine jw_iconst (pc := 171) dX12_layRaid_171 ?_
      refine jw_goto (pc := 172) 176 dX12_layRaid_172 (by decide) ?_
      exact jw_few [0, 1, 2, 3] rfl (pX12_layRaid_176 G r62 hr62 x2 x3 x4 1 (jw_w (53 + x3)) hx2 hx3 hx4 (jw_rc _ rfl) (jw_wr _) M17)
    · refine jw_iconst (pc := 175) dX12_layRaid_175 ?_
      exact jw_few [0, 1, 2, 3] rfl (pX12_layRaid_176 G r62 hr62 x2 x3 x4 0 (jw_w (53 + x3)) hx2 hx3 hx4 (jw_rc _ rfl) (jw_wr _) M17)
  · refine jw_iconst (pc := 160) dX12_layRaid_160 ?_
    refine jw_goto (pc := 161) 176 dX12_layRaid_161 (by decide) ?_
    exact jw_few [0, 1, 2, 3] rfl (pX12_layRaid_176 G r62 hr62 x2 x3 x4 2 (jw_w (53 + x3)) hx2 hx3 hx4 (jw_rc _ rfl) (jw_wr _) M17)
def fX12_layRaid_118 (r62 : Int → Int → jw_M → Option (Int × jw_M)) (x2 : Int) (x3 : Int) (x4 : Int) (x5 : Int) (xs0 : Int) (xs1 : Int) (M : jw_M) : Option (Int × jw_M) :=
  if 0 ≤ xs1 ∧ xs1 < 104 then Option.bind (some (jw_up M 133 xs1 xs0)) (fun M16 => if x5 < 1000000 then (fX12_layRaid_141 r62 x2 x3 x4 x5 (jw_w (48 + x3)) M16) else (fX12_layRaid_141 r62 x2 x3 x4 (-1000000) (jw_w (48 + x3)) M16)) else none
set_option maxRecDepth 100000 in
theorem pX12_layRaid_118 (G : jw_G) (r62 : Int → Int → jw_M → Option (Int × jw_M)) (hr62 : ∀ (x2 : Int) (x3 : Int) (hx2 : jw_r x2) (hx3 : jw_r x3) (M : jw_M), jw_Rn G YX12_layRaid 4 0 0 true (fun q => q) 62 [(0, jR G 127), (2, jI x2), (3, jI x3)] [] M (r62 x2 x3 M)) : ∀ (x2 : Int) (x3 : Int) (x4 : Int) (x5 : Int) (xs0 : Int) (xs1 : Int) (hx2 : jw_r x2) (hx3 : jw_r x3) (hx4 : jw_r x4) (hx5 : jw_r x5) (hxs0 : jw_r xs0) (hxs1 : jw_r xs1) (M : jw_M), jw_Rn G YX12_layRaid 4 0 0 true (fun q => q) 118 [(0, jR G 127), (2, jI x2), (3, jI x3), (4, jI x4), (5, jI x5)] [jI xs0, jI xs1, jR G 133] M (fX12_layRaid_118 r62 x2 x3 x4 x5 xs0 xs1 M) := by
  intro x2 x3 x4 x5 xs0 xs1 hx2 hx3 hx4 hx5 hxs0 hxs1 M
  unfold fX12_layRaid_118
  refine jw_iast (pc := 118) dX12_layRaid_118 jg_133 jl_133 (jw_ho jg_133 (by decide)) hxs1 hxs0 rfl ?_
  refine jw_letM (fun M16 => ?_)
  refine jw_aloadR (pc := 119) 0 dX12_layRaid_119 rfl ?_
  refine jw_getR (pc := 120) (j := 8) rfl dX12_layRaid_120 jv_12 ji_12 (Or.inl jt_1239) jg_127 jl_127 (by decide) (by decide) rfl jf_12_8 ?_
  refine jw_bipush (pc := 123) dX12_layRaid_123 rfl ?_
  refine jw_iload_n (pc := 125) 2 dX12_layRaid_125 rfl ?_
  refine jw_iadd (pc := 126) dX12_layRaid_126 ?_
  refine jw_iload (pc := 127) 4 dX12_layRaid_127 rfl ?_
  refine jw_ldc (pc := 129) (n := 1000000) dX12_layRaid_129 jt_1469 (by decide) ?_
  refine jw_ic_ge (pc := 131) 139 dX12_layRaid_131 (by decide) hx5 (jw_rc _ rfl) (fun _ => ?_) (fun _ => ?_)
  · refine jw_iload (pc := 134) 4 dX12_layRaid_134 rfl ?_
    refine jw_goto (pc := 136) 141 dX12_layRaid_136 (by decide) ?_
    exact jw_few [0, 1, 2, 3] rfl (pX12_layRaid_141 G r62 hr62 x2 x3 x4 x5 (jw_w (48 + x3)) hx2 hx3 hx4 hx5 (jw_wr _) M16)
  · refine jw_ldc (pc := 139) (n := (-1000000)) dX12_layRaid_139 jt_1386 (by decide) ?_
    exact jw_few [0, 1, 2, 3] rfl (pX12_layRaid_141 G r62 hr62 x2 x3 x4 (-1000000) (jw_w (48 + x3)) hx2 hx3 hx4 (jw_rc _ rfl) (jw_wr _) M16)
def fX12_layRaid_62 : Nat → Int → Int → jw_M → Option (Int × jw_M)
  | 0, _, _, _ => none
  | k + 1, x2, x3, M => if 0 ≤ (3 : Int) ∧ (3 : Int) < 104 then if x3 < M 131 3 then (Option.bind (fX12_warnedOf x3 (-1000000) M) (fun v11 => Option.bind (some v11) (fun v12 => if 0 ≤ jw_w (0 + x3) ∧ jw_w (0 + x3) < 104 then if 0 ≤ M 133 (jw_w (0 + x3)) ∧ M 133 (jw_w (0 + x3)) < 7 then Option.bind (some (M 137 (M 133 (jw_w (0 + x3))))) (fun v15 => if v12 < 1000000 then (fX12_layRaid_118 (fX12_layRaid_62 k) x2 x3 v12 v15 v12 (jw_w (43 + x3)) M) else (fX12_layRaid_118 (fX12_layRaid_62 k) x2 x3 v12 v15 (-1000000) (jw_w (43 + x3)) M)) else none else none))) else (some (x2, M)) else none
set_option maxRecDepth 100000 in
theorem pX12_layRaid_62 (G : jw_G) : ∀ (k : Nat) (x2 : Int) (x3 : Int) (hx2 : jw_r x2) (hx3 : jw_r x3) (M : jw_M), jw_Rn G YX12_layRaid 4 0 0 true (fun q => q) 62 [(0, jR G 127), (2, jI x2), (3, jI x3)] [] M (fX12_layRaid_62 k x2 x3 M) := by
  intro k
  induction k with
  | zero =>
    intro x2 x3 hx2 hx3 M
    exact jw_none
  | succ k ih =>
    intro x2 x3 hx2 hx3 M
    rw [fX12_layRaid_62]
    refine jw_iload_n (pc := 62) 2 dX12_layRaid_62 rfl ?_
    refine jw_aloadR (pc := 63) 0 dX12_layRaid_63 rfl ?_
    refine jw_getR (pc := 64) (j := 5) rfl dX12_layRaid_64 jv_12 ji_12 (Or.inl jt_1236) jg_127 jl_127 (by decide) (by decide) rfl jf_12_5 ?_
    refine jw_iconst (pc := 67) dX12_layRaid_67 ?_
    refine jw_iald (pc := 68) dX12_layRaid_68 jg_131 jl_131 (jw_ho jg_131 (by decide)) (jw_rc _ rfl) rfl (fun h10 => ?_)
    refine jw_ic_ge (pc := 69) 257 dX12_layRaid_69 (by decide) hx3 h10 (fun _ => ?_) (fun _ => ?_)
    · refine jw_aloadR (pc := 72) 0 dX12_layRaid_72 rfl ?_
      refine jw_iload_n (pc := 73) 2 dX12_layRaid_73 rfl ?_
      refine jw_ldc (pc := 74) (n := (-1000000)) dX12_layRaid_74 jt_1386 (by decide) ?_
      refine jw_callVi (pc := 76) (As := [jI x3, jI (-1000000)]) (st := []) dX12_layRaid_76 rfl (Nat.le_of_ble_eq_true rfl) qX12_warnedOf jt_1526 jt_1528 jp_70 rfl rfl (Nat.le_of_ble_eq_true rfl) jv_12 rfl jg_127 jl_127 (by decide) (jw_ho jg_127 (by decide)) (kX12_warnedOf G x3 (-1000000) hx3 (jw_rc _ rfl) M) (fun v11 hv11 => ?_)
      refine jw_istoreL (pc := 79) (lv' := (fun y => [(4, y), (0, jR G 127), (2, jI x2), (3, jI x3)])) dX12_layRaid_79 hv11 (by decide) (fun _ => rfl) (fun v12 hv12 => ?_)
      refine jw_aloadR (pc := 81) 1 dX12_layRaid_81 rfl ?_
      refine jw_getR (pc := 82) (j := 21) rfl dX12_layRaid_82 jv_12 ji_12 (Or.inl jt_1252) jg_127 jl_127 (by decide) (by decide) rfl jf_12_21 ?_
      refine jw_aloadR (pc := 85) 1 dX12_layRaid_85 rfl ?_
      refine jw_getR (pc := 86) (j := 8) rfl dX12_layRaid_86 jv_12 ji_12 (Or.inl jt_1239) jg_127 jl_127 (by decide) (by decide) rfl jf_12_8 ?_
      refine jw_iconst (pc := 89) dX12_layRaid_89 ?_
      refine jw_iload_n (pc := 90) 3 dX12_layRaid_90 rfl ?_
      refine jw_iadd (pc := 91) dX12_layRaid_91 ?_
      refine jw_iald (pc := 92) dX12_layRaid_92 jg_133 jl_133 (jw_ho jg_133 (by decide)) (jw_wr _) rfl (fun h13 => ?_)
      refine jw_iald (pc := 93) dX12_layRaid_93 jg_137 jl_137 (jw_ho jg_137 (by decide)) h13 rfl (fun h14 => ?_)
      refine jw_istoreL (pc := 94) (lv' := (fun y => [(5, y), (4, jI v12), (0, jR G 127), (2, jI x2), (3, jI x3)])) dX12_layRaid_94 h14 (by decide) (fun _ => rfl) (fun v15 hv15 => ?_)
      refine jw_aloadR (pc := 96) 2 dX12_layRaid_96 rfl ?_
      refine jw_getR (pc := 97) (j := 8) rfl dX12_layRaid_97 jv_12 ji_12 (Or.inl jt_1239) jg_127 jl_127 (by decide) (by decide) rfl jf_12_8 ?_
      refine jw_bipush (pc := 100) dX12_layRaid_100 rfl ?_
      refine jw_iload_n (pc := 102) 4 dX12_layRaid_102 rfl ?_
      refine jw_iadd (pc := 103) dX12_layRaid_103 ?_
      refine jw_iload (pc := 104) 1 dX12_layRaid_104 rfl ?_
      refine jw_ldc (pc := 106) (n := 1000000) dX12_layRaid_106 jt_1469 (by decide) ?_
      refine jw_ic_ge (pc := 108) 116 dX12_layRaid_108 (by decide) hv12 (jw_rc _ rfl) (fun _ => ?_) (fun _ => ?_)
      · refine jw_iload (pc := 111) 1 dX12_layRaid_111 rfl ?_
        refine jw_goto (pc := 113) 118 dX12_layRaid_113 (by decide) ?_
        exact jw_few [2, 3, 4, 1, 0] rfl (pX12_layRaid_118 G (fX12_layRaid_62 k) ih x2 x3 v12 v15 v12 (jw_w (43 + x3)) hx2 hx3 hv12 hv15 hv12 (jw_wr _) M)
      · refine jw_ldc (pc := 116) (n := (-1000000)) dX12_layRaid_116 jt_1386 (by decide) ?_
        exact jw_few [2, 3, 4, 1, 0] rfl (pX12_layRaid_118 G (fX12_layRaid_62 k) ih x2 x3 v12 v15 (-1000000) (jw_w (43 + x3)) hx2 hx3 hv12 hv15 (jw_rc _ rfl) (jw_wr _) M)
    · refine jw_iload_n (pc := 257) 1 dX12_layRaid_257 rfl ?_
      exact jw_ret (pc := 258) (v := x2) dX12_layRaid_258 hx2 rfl rfl
def fX12_layRaid_20 : Nat → Int → Int → jw_M → Option (Int × jw_M)
  | 0, _, _, _ => none
  | k + 1, x2, x3, M => if x3 < 7 then (if 0 ≤ (58 : Int) ∧ (58 : Int) < 104 then if 0 ≤ x3 ∧ x3 < 7 then if M 137 x3 < 1000000 then (fX12_layRaid_52 (fX12_layRaid_20 k) x2 x3 (jw_ishl 1 x3) (M 133 58) 58 M) else (fX12_layRaid_52 (fX12_layRaid_20 k) x2 x3 0 (M 133 58) 58 M) else none else none) else (Option.bind (some 0) (fun v9 => fX12_layRaid_62 jw_fu x2 v9 M))
set_option maxRecDepth 100000 in
theorem pX12_layRaid_20 (G : jw_G) : ∀ (k : Nat) (x2 : Int) (x3 : Int) (hx2 : jw_r x2) (hx3 : jw_r x3) (M : jw_M), jw_Rn G YX12_layRaid 4 0 0 true (fun q => q) 20 [(0, jR G 127), (2, jI x2), (3, jI x3)] [] M (fX12_layRaid_20 k x2 x3 M) := by
  intro k
  induction k with
  | zero =>
    intro x2 x3 hx2 hx3 M
    exact jw_none
  | succ k ih =>
    intro x2 x3 hx2 hx3 M
    rw [fX12_layRaid_20]
    refine jw_iload_n (pc := 20) 2 dX12_layRaid_20 rfl ?_
    refine jw_bipush (pc := 21) dX12_layRaid_21 rfl ?_
    refine jw_ic_ge (pc := 23) 60 dX12_layRaid_23 (by decide) hx3 (jw_rc _ rfl) (fun _ => ?_) (fun _ => ?_)
    · refine jw_aloadR (pc := 26) 0 dX12_layRaid_26 rfl ?_
      refine jw_getR (pc := 27) (j := 8) rfl dX12_layRaid_27 jv_12 ji_12 (Or.inl jt_1239) jg_127 jl_127 (by decide) (by decide) rfl jf_12_8 ?_
      refine jw_bipush (pc := 30) dX12_layRaid_30 rfl ?_
      refine jw_dup2 (pc := 32) dX12_layRaid_32 rfl rfl ?_
      refine jw_iald (pc := 33) dX12_layRaid_33 jg_133 jl_133 (jw_ho jg_133 (by decide)) (jw_rc _ rfl) rfl (fun h5 => ?_)
      refine jw_aloadR (pc := 34) 0 dX12_layRaid_34 rfl ?_
      refine jw_getR (pc := 35) (j := 21) rfl dX12_layRaid_35 jv_12 ji_12 (Or.inl jt_1252) jg_127 jl_127 (by decide) (by decide) rfl jf_12_21 ?_
      refine jw_iload_n (pc := 38) 2 dX12_layRaid_38 rfl ?_
      refine jw_iald (pc := 39) dX12_layRaid_39 jg_137 jl_137 (jw_ho jg_137 (by decide)) hx3 rfl (fun h6 => ?_)
      refine jw_ldc (pc := 40) (n := 1000000) dX12_layRaid_40 jt_1469 (by decide) ?_
      refine jw_ic_ge (pc := 42) 51 dX12_layRaid_42 (by decide) h6 (jw_rc _ rfl) (fun _ => ?_) (fun _ => ?_)
      · refine jw_iconst (pc := 45) dX12_layRaid_45 ?_
        refine jw_iload_n (pc := 46) 2 dX12_layRaid_46 rfl ?_
        refine jw_ishlr (pc := 47) dX12_layRaid_47 ?_
        refine jw_goto (pc := 48) 52 dX12_layRaid_48 (by decide) ?_
        exact jw_few [0, 1, 2] rfl (pX12_layRaid_52 G (fX12_layRaid_20 k) ih x2 x3 (jw_ishl 1 x3) (M 133 58) 58 hx2 hx3 (jw_rI _) h5 (jw_rc _ rfl) M)
      · refine jw_iconst (pc := 51) dX12_layRaid_51 ?_
        exact jw_few [0, 1, 2] rfl (pX12_layRaid_52 G (fX12_layRaid_20 k) ih x2 x3 0 (M 133 58) 58 hx2 hx3 (jw_rc _ rfl) h5 (jw_rc _ rfl) M)
    · refine jw_iconst (pc := 60) dX12_layRaid_60 ?_
      refine jw_istore_nL (pc := 61) (lv' := (fun y => [(3, y), (0, jR G 127), (2, jI x2)])) dX12_layRaid_61 (jw_rc _ rfl) (by decide) (fun _ => rfl) (fun v9 hv9 => ?_)
      exact jw_few [1, 2, 0] rfl (pX12_layRaid_62 G jw_fu x2 v9 hx2 hv9 M)
def fX12_layRaid (a1 : Int) (M : jw_M) : Option (Int × jw_M) :=
  Option.bind (some 0) (fun v1 => if 0 ≤ (42 : Int) ∧ (42 : Int) < 104 then Option.bind (some (jw_up M 133 42 a1)) (fun M2 => if 0 ≤ (58 : Int) ∧ (58 : Int) < 104 then Option.bind (some (jw_up M2 133 58 0)) (fun M3 => Option.bind (some 0) (fun v4 => fX12_layRaid_20 jw_fu v1 v4 M3)) else none) else none)
set_option maxRecDepth 100000 in
theorem rX12_layRaid (G : jw_G) (a1 : Int) (ha1 : jw_r a1) (M : jw_M) : jw_Rn G YX12_layRaid 4 0 0 true (fun q => q) 0 [(0, jR G 127), (1, jI a1)] [] M (fX12_layRaid a1 M) := by
  unfold fX12_layRaid
  refine jw_iconst (pc := 0) dX12_layRaid_0 ?_
  refine jw_istore_nL (pc := 1) (lv' := (fun y => [(2, y), (0, jR G 127), (1, jI a1)])) dX12_layRaid_1 (jw_rc _ rfl) (by decide) (fun _ => rfl) (fun v1 hv1 => ?_)
  refine jw_aloadR (pc := 2) 1 dX12_layRaid_2 rfl ?_
  refine jw_getR (pc := 3) (j := 8) rfl dX12_layRaid_3 jv_12 ji_12 (Or.inl jt_1239) jg_127 jl_127 (by decide) (by decide) rfl jf_12_8 ?_
  refine jw_bipush (pc := 6) dX12_layRaid_6 rfl ?_
  refine jw_iload_n (pc := 8) 2 dX12_layRaid_8 rfl ?_
  refine jw_iast (pc := 9) dX12_layRaid_9 jg_133 jl_133 (jw_ho jg_133 (by decide)) (jw_rc _ rfl) ha1 rfl ?_
  refine jw_letM (fun M2 => ?_)
  refine jw_aloadR (pc := 10) 1 dX12_layRaid_10 rfl ?_
  refine jw_getR (pc := 11) (j := 8) rfl dX12_layRaid_11 jv_12 ji_12 (Or.inl jt_1239) jg_127 jl_127 (by decide) (by decide) rfl jf_12_8 ?_
  refine jw_bipush (pc := 14) dX12_layRaid_14 rfl ?_
  refine jw_iconst (pc := 16) dX12_layRaid_16 ?_
  refine jw_iast (pc := 17) dX12_layRaid_17 jg_133 jl_133 (jw_ho jg_133 (by decide)) (jw_rc _ rfl) (jw_rc _ rfl) rfl ?_
  refine jw_letM (fun M3 => ?_)
  refine jw_iconst (pc := 18) dX12_layRaid_18 ?_
  refine jw_istore_nL (pc := 19) (lv' := (fun y => [(3, y), (2, jI v1), (0, jR G 127), (1, jI a1)])) dX12_layRaid_19 (jw_rc _ rfl) (by decide) (fun _ => rfl) (fun v4 hv4 => ?_)
  exact jw_few [2, 1, 0] rfl (pX12_layRaid_20 G jw_fu v1 v4 hv1 hv4 M3)
theorem kX12_layRaid (G : jw_G) (a1 : Int) (ha1 : jw_r a1) (M : jw_M) : jw_Ct G YX12_layRaid (some .int) 4 0 0 true (fun q => q) yX12_layRaid [jR G 127, jI a1] M (fX12_layRaid a1 M) := jw_met (by decide) rfl rfl rfl (Nat.le_of_ble_eq_true rfl) (rX12_layRaid G a1 ha1 M)
abbrev YX12_raid : jw_Y := (RX12, cX12_raid, 4, 2, "raid")
theorem qX12_raid : jw_cy YX12_raid (some .long) yX12_raid 3 := ⟨by decide, jt_1511, jt_14, by decide, by decide +kernel⟩
theorem dX12_raid_0 : decode cX12_raid 0 = .ok (.aload_n 0, 1) := by decide +kernel
theorem dX12_raid_1 : decode cX12_raid 1 = .ok (.iconst 0, 1) := by decide +kernel
theorem dX12_raid_2 : decode cX12_raid 2 = .ok (.putfield 71, 3) := by decide +kernel
theorem dX12_raid_5 : decode cX12_raid 5 = .ok (.iload_n 1, 1) := by decide +kernel
theorem dX12_raid_6 : decode cX12_raid 6 = .ok (.invokestatic 86, 3) := by decide +kernel
theorem dX12_raid_9 : decode cX12_raid 9 = .ok (.ifCond .eq 15, 3) := by decide +kernel
theorem dX12_raid_12 : decode cX12_raid 12 = .ok (.iload_n 3, 1) := by decide +kernel
theorem dX12_raid_13 : decode cX12_raid 13 = .ok (.i2l, 1) := by decide +kernel
theorem dX12_raid_14 : decode cX12_raid 14 = .ok (.lconst 1, 1) := by decide +kernel
theorem dX12_raid_15 : decode cX12_raid 15 = .ok (.ldc2_w 250, 3) := by decide +kernel
theorem dX12_raid_18 : decode cX12_raid 18 = .ok (.invokestatic 82, 3) := by decide +kernel
theorem dX12_raid_21 : decode cX12_raid 21 = .ok (.ifCond .ne 7, 3) := by decide +kernel
theorem dX12_raid_24 : decode cX12_raid 24 = .ok (.ldc2_w 92, 3) := by decide +kernel
theorem dX12_raid_27 : decode cX12_raid 27 = .ok (.lreturn, 1) := by decide +kernel
theorem dX12_raid_28 : decode cX12_raid 28 = .ok (.aload_n 0, 1) := by decide +kernel
theorem dX12_raid_29 : decode cX12_raid 29 = .ok (.getfield 216, 3) := by decide +kernel
theorem dX12_raid_32 : decode cX12_raid 32 = .ok (.ifCond .ne 7, 3) := by decide +kernel
theorem dX12_raid_35 : decode cX12_raid 35 = .ok (.ldc2_w 252, 3) := by decide +kernel
theorem dX12_raid_38 : decode cX12_raid 38 = .ok (.lreturn, 1) := by decide +kernel
theorem dX12_raid_39 : decode cX12_raid 39 = .ok (.aload_n 0, 1) := by decide +kernel
theorem dX12_raid_40 : decode cX12_raid 40 = .ok (.getfield 9, 3) := by decide +kernel
theorem dX12_raid_43 : decode cX12_raid 43 = .ok (.iload_n 1, 1) := by decide +kernel
theorem dX12_raid_44 : decode cX12_raid 44 = .ok (.iaload, 1) := by decide +kernel
theorem dX12_raid_45 : decode cX12_raid 45 = .ok (.ifCond .ge 9, 3) := by decide +kernel
theorem dX12_raid_48 : decode cX12_raid 48 = .ok (.aload_n 0, 1) := by decide +kernel
theorem dX12_raid_49 : decode cX12_raid 49 = .ok (.iconst 1, 1) := by decide +kernel
theorem dX12_raid_50 : decode cX12_raid 50 = .ok (.invokevirtual 94, 3) := by decide +kernel
theorem dX12_raid_53 : decode cX12_raid 53 = .ok (.lreturn, 1) := by decide +kernel
theorem dX12_raid_54 : decode cX12_raid 54 = .ok (.iload_n 2, 1) := by decide +kernel
theorem dX12_raid_55 : decode cX12_raid 55 = .ok (.ifCond .lt 19, 3) := by decide +kernel
theorem dX12_raid_58 : decode cX12_raid 58 = .ok (.iload_n 2, 1) := by decide +kernel
theorem dX12_raid_59 : decode cX12_raid 59 = .ok (.i2l, 1) := by decide +kernel
theorem dX12_raid_60 : decode cX12_raid 60 = .ok (.iload_n 3, 1) := by decide +kernel
theorem dX12_raid_61 : decode cX12_raid 61 = .ok (.i2l, 1) := by decide +kernel
theorem dX12_raid_62 : decode cX12_raid 62 = .ok (.ladd, 1) := by decide +kernel
theorem dX12_raid_63 : decode cX12_raid 63 = .ok (.aload_n 0, 1) := by decide +kernel
theorem dX12_raid_64 : decode cX12_raid 64 = .ok (.getfield 13, 3) := by decide +kernel
theorem dX12_raid_67 : decode cX12_raid 67 = .ok (.iload_n 1, 1) := by decide +kernel
theorem dX12_raid_68 : decode cX12_raid 68 = .ok (.iaload, 1) := by decide +kernel
theorem dX12_raid_69 : decode cX12_raid 69 = .ok (.i2l, 1) := by decide +kernel
theorem dX12_raid_70 : decode cX12_raid 70 = .ok (.lcmp, 1) := by decide +kernel
theorem dX12_raid_71 : decode cX12_raid 71 = .ok (.ifCond .le 9, 3) := by decide +kernel
theorem dX12_raid_74 : decode cX12_raid 74 = .ok (.aload_n 0, 1) := by decide +kernel
theorem dX12_raid_75 : decode cX12_raid 75 = .ok (.iconst 2, 1) := by decide +kernel
theorem dX12_raid_76 : decode cX12_raid 76 = .ok (.invokevirtual 94, 3) := by decide +kernel
theorem dX12_raid_79 : decode cX12_raid 79 = .ok (.lreturn, 1) := by decide +kernel
theorem dX12_raid_80 : decode cX12_raid 80 = .ok (.aload_n 0, 1) := by decide +kernel
theorem dX12_raid_81 : decode cX12_raid 81 = .ok (.invokevirtual 254, 3) := by decide +kernel
theorem dX12_raid_84 : decode cX12_raid 84 = .ok (.aload_n 0, 1) := by decide +kernel
theorem dX12_raid_85 : decode cX12_raid 85 = .ok (.bipush 40, 2) := by decide +kernel
theorem dX12_raid_87 : decode cX12_raid 87 = .ok (.iload_n 1, 1) := by decide +kernel
theorem dX12_raid_88 : decode cX12_raid 88 = .ok (.imul, 1) := by decide +kernel
theorem dX12_raid_89 : decode cX12_raid 89 = .ok (.iload_n 2, 1) := by decide +kernel
theorem dX12_raid_90 : decode cX12_raid 90 = .ok (.iadd, 1) := by decide +kernel
theorem dX12_raid_91 : decode cX12_raid 91 = .ok (.iload_n 3, 1) := by decide +kernel
theorem dX12_raid_92 : decode cX12_raid 92 = .ok (.invokevirtual 257, 3) := by decide +kernel
theorem dX12_raid_95 : decode cX12_raid 95 = .ok (.ifCond .ne 7, 3) := by decide +kernel
theorem dX12_raid_98 : decode cX12_raid 98 = .ok (.ldc2_w 92, 3) := by decide +kernel
theorem dX12_raid_101 : decode cX12_raid 101 = .ok (.lreturn, 1) := by decide +kernel
theorem dX12_raid_102 : decode cX12_raid 102 = .ok (.aload_n 0, 1) := by decide +kernel
theorem dX12_raid_103 : decode cX12_raid 103 = .ok (.iconst 0, 1) := by decide +kernel
theorem dX12_raid_104 : decode cX12_raid 104 = .ok (.putfield 75, 3) := by decide +kernel
theorem dX12_raid_107 : decode cX12_raid 107 = .ok (.aload_n 0, 1) := by decide +kernel
theorem dX12_raid_108 : decode cX12_raid 108 = .ok (.iconst 1, 1) := by decide +kernel
theorem dX12_raid_109 : decode cX12_raid 109 = .ok (.invokevirtual 260, 3) := by decide +kernel
theorem dX12_raid_112 : decode cX12_raid 112 = .ok (.i2l, 1) := by decide +kernel
theorem dX12_raid_113 : decode cX12_raid 113 = .ok (.lreturn, 1) := by decide +kernel
def fX12_raid_74 (M : jw_M) : Option (Int × jw_M) :=
  jw_b2 (fX12_finding 2 M) (fun v8 M9 => some (v8, M9))
set_option maxRecDepth 100000 in
theorem pX12_raid_74 (G : jw_G) : ∀ (M : jw_M), jw_Rn G YX12_raid 5 0 0 true (fun q => q) 74 [(0, jR G 127)] [] M (fX12_raid_74 M) := by
  intro M
  unfold fX12_raid_74
  refine jw_aloadR (pc := 74) 0 dX12_raid_74 rfl ?_
  refine jw_iconst (pc := 75) dX12_raid_75 ?_
  refine jw_callVMl (pc := 76) (As := [jI 2]) (st := []) dX12_raid_76 rfl (Nat.le_of_ble_eq_true rfl) qX12_finding jt_1350 jt_1352 jp_43 rfl rfl (Nat.le_of_ble_eq_true rfl) jv_12 rfl jg_127 jl_127 (by decide) (jw_ho jg_127 (by decide)) (kX12_finding G 2 (jw_rc _ rfl) M) (fun v8 M9 hv8 => ?_)
  exact jw_ret (pc := 79) (v := v8) dX12_raid_79 hv8 rfl rfl
def fX12_raid (a1 : Int) (a2 : Int) (a3 : Int) (M : jw_M) : Option (Int × jw_M) :=
  Option.bind (some (jw_up M 127 0 0)) (fun M1 => Option.bind (fX12_isRow a1 M1) (fun v2 => if v2 = 0 then (some ((-9000000000000000001), M1)) else (Option.bind (fX12_in a3 1 10 M1) (fun v3 => if v3 = 0 then (some ((-9000000000000000001), M1)) else (if M1 127 7 = 0 then (some ((-9000000000000000002), M1)) else (if 0 ≤ a1 ∧ a1 < 8 then if M1 128 a1 < 0 then (jw_b2 (fX12_finding 1 M1) (fun v6 M7 => some (v6, M7))) else (if a2 < 0 then (fX12_raid_74 M1) else (if 0 ≤ a1 ∧ a1 < 8 then if (0 : Int) < jw_cmp (jw_v (a2 + a3)) (M1 129 a1) then (fX12_raid_74 M1) else (Option.bind (fX12_clearComes  M1) (fun M11 => jw_b2 (fX12_goRoute (jw_w ((jw_w (40 * a1)) + a2)) a3 M11) (fun v12 M13 => if v12 = 0 then (some ((-9000000000000000001), M13)) else (Option.bind (some (jw_up M13 127 1 0)) (fun M14 => jw_b2 (fX12_layRaid 1 M14) (fun v15 M16 => some (v15, M16))))))) else none)) else none))))))
set_option maxRecDepth 100000 in
theorem rX12_raid (G : jw_G) (a1 : Int) (a2 : Int) (a3 : Int) (ha1 : jw_r a1) (ha2 : jw_r a2) (ha3 : jw_r a3) (M : jw_M) : jw_Rn G YX12_raid 5 0 0 true (fun q => q) 0 [(0, jR G 127), (1, jI a1), (2, jI a2), (3, jI a3)] [] M (fX12_raid a1 a2 a3 M) := by
  unfold fX12_raid
  refine jw_aloadR (pc := 0) 0 dX12_raid_0 rfl ?_
  refine jw_iconst (pc := 1) dX12_raid_1 ?_
  refine jw_putI (pc := 2) (j := 0) tyX12 rfl dX12_raid_2 jv_12 ji_12 tyX12_ok nmX12 (Or.inl jt_1231) rfl jg_127 jl_127 (by decide) (by decide) (jw_ho jg_127 (by decide)) rfl rfl (jw_rc _ rfl) rfl ?_
  refine jw_letM (fun M1 => ?_)
  refine jw_iload_n (pc := 5) 1 dX12_raid_5 rfl ?_
  refine jw_callSz (pc := 6) (As := [jI a1]) (st := []) dX12_raid_6 rfl (Nat.le_of_ble_eq_true rfl) qX12_isRow jt_1341 jt_1342 rfl rfl (Nat.le_of_ble_eq_true rfl) (kX12_isRow G a1 ha1 M1) (fun v2 hv2 => ?_)
  refine jw_if_eq (pc := 9) 24 dX12_raid_9 (by decide) (jw_bz hv2) (fun _ => ?_) (fun _ => ?_)
  · refine jw_ldc2 (pc := 24) (n := (-9000000000000000001)) dX12_raid_24 jt_1349 (by decide) ?_
    exact jw_ret (pc := 27) (v := (-9000000000000000001)) dX12_raid_27 (jw_qc _ rfl) rfl rfl
  · refine jw_iload_n (pc := 12) 3 dX12_raid_12 rfl ?_
    refine jw_i2lr (pc := 13) dX12_raid_13 ha3 ?_
    refine jw_lconst (pc := 14) (z := 1) dX12_raid_14 rfl ?_
    refine jw_ldc2 (pc := 15) (n := 10) dX12_raid_15 jt_1512 (by decide) ?_
    refine jw_callSz (pc := 18) (As := [jL a3, jL 1, jL 10]) (st := []) dX12_raid_18 rfl (Nat.le_of_ble_eq_true rfl) qX12_in jt_1345 jt_1346 rfl rfl (Nat.le_of_ble_eq_true rfl) (kX12_in G a3 1 10 (jw_rq ha3) (jw_qc _ rfl) (jw_qc _ rfl) M1) (fun v3 hv3 => ?_)
    refine jw_if_ne (pc := 21) 28 dX12_raid_21 (by decide) (jw_bz hv3) (fun _ => ?_) (fun _ => ?_)
    · refine jw_ldc2 (pc := 24) (n := (-9000000000000000001)) dX12_raid_24 jt_1349 (by decide) ?_
      exact jw_ret (pc := 27) (v := (-9000000000000000001)) dX12_raid_27 (jw_qc _ rfl) rfl rfl
    · refine jw_aloadR (pc := 28) 0 dX12_raid_28 rfl ?_
      refine jw_getI (pc := 29) (j := 7) rfl dX12_raid_29 jv_12 ji_12 (Or.inl jt_1238) jg_127 jl_127 (by decide) (by decide) (jw_ho jg_127 (by decide)) (Or.inr rfl) rfl (fun h4 => ?_)
      refine jw_if_ne (pc := 32) 39 dX12_raid_32 (by decide) h4 (fun _ => ?_) (fun _ => ?_)
      · refine jw_ldc2 (pc := 35) (n := (-9000000000000000002)) dX12_raid_35 jt_1513 (by decide) ?_
        exact jw_ret (pc := 38) (v := (-9000000000000000002)) dX12_raid_38 (jw_qc _ rfl) rfl rfl
      · refine jw_aloadR (pc := 39) 0 dX12_raid_39 rfl ?_
        refine jw_getR (pc := 40) (j := 2) rfl dX12_raid_40 jv_12 ji_12 (Or.inl jt_1233) jg_127 jl_127 (by decide) (by decide) rfl jf_12_2 ?_
        refine jw_iload_n (pc := 43) 1 dX12_raid_43 rfl ?_
        refine jw_iald (pc := 44) dX12_raid_44 jg_128 jl_128 (jw_ho jg_128 (by decide)) ha1 rfl (fun h5 => ?_)
        refine jw_if_ge (pc := 45) 54 dX12_raid_45 (by decide) h5 (fun _ => ?_) (fun _ => ?_)
        · refine jw_aloadR (pc := 48) 0 dX12_raid_48 rfl ?_
          refine jw_iconst (pc := 49) dX12_raid_49 ?_
          refine jw_callVMl (pc := 50) (As := [jI 1]) (st := []) dX12_raid_50 rfl (Nat.le_of_ble_eq_true rfl) qX12_finding jt_1350 jt_1352 jp_43 rfl rfl (Nat.le_of_ble_eq_true rfl) jv_12 rfl jg_127 jl_127 (by decide) (jw_ho jg_127 (by decide)) (kX12_finding G 1 (jw_rc _ rfl) M1) (fun v6 M7 hv6 => ?_)
          exact jw_ret (pc := 53) (v := v6) dX12_raid_53 hv6 rfl rfl
        · refine jw_iload_n (pc := 54) 2 dX12_raid_54 rfl ?_
          refine jw_if_lt (pc := 55) 74 dX12_raid_55 (by decide) ha2 (fun _ => ?_) (fun _ => ?_)
          · exact jw_few [0] rfl (pX12_raid_74 G M1)
          · refine jw_iload_n (pc := 58) 2 dX12_raid_58 rfl ?_
            refine jw_i2lr (pc := 59) dX12_raid_59 ha2 ?_
            refine jw_iload_n (pc := 60) 3 dX12_raid_60 rfl ?_
            refine jw_i2lr (pc := 61) dX12_raid_61 ha3 ?_
            refine jw_ladd (pc := 62) dX12_raid_62 ?_
            refine jw_aloadR (pc := 63) 0 dX12_raid_63 rfl ?_
            refine jw_getR (pc := 64) (j := 3) rfl dX12_raid_64 jv_12 ji_12 (Or.inl jt_1234) jg_127 jl_127 (by decide) (by decide) rfl jf_12_3 ?_
            refine jw_iload_n (pc := 67) 1 dX12_raid_67 rfl ?_
            refine jw_iald (pc := 68) dX12_raid_68 jg_129 jl_129 (jw_ho jg_129 (by decide)) ha1 rfl (fun h10 => ?_)
            refine jw_i2lr (pc := 69) dX12_raid_69 h10 ?_
            refine jw_lcmp (pc := 70) dX12_raid_70 (jw_vr _) (jw_rq h10) ?_
            refine jw_if_le (pc := 71) 80 dX12_raid_71 (by decide) (jw_cmpr _ _) (fun _ => ?_) (fun _ => ?_)
            · exact jw_few [0] rfl (pX12_raid_74 G M1)
            · refine jw_aloadR (pc := 80) 0 dX12_raid_80 rfl ?_
              refine jw_callVM (pc := 81) (As := []) (st := []) dX12_raid_81 rfl (Nat.le_of_ble_eq_true rfl) qX12_clearComes jt_1514 jt_1516 jp_67 rfl rfl (Nat.le_of_ble_eq_true rfl) jv_12 rfl jg_127 jl_127 (by decide) (jw_ho jg_127 (by decide)) (kX12_clearComes G  M1) (fun M11 => ?_)
              refine jw_aloadR (pc := 84) 0 dX12_raid_84 rfl ?_
              refine jw_bipush (pc := 85) dX12_raid_85 rfl ?_
              refine jw_iload_n (pc := 87) 1 dX12_raid_87 rfl ?_
              refine jw_imul (pc := 88) dX12_raid_88 ?_
              refine jw_iload_n (pc := 89) 2 dX12_raid_89 rfl ?_
              refine jw_iadd (pc := 90) dX12_raid_90 ?_
              refine jw_iload_n (pc := 91) 3 dX12_raid_91 rfl ?_
              refine jw_callVMz (pc := 92) (As := [jI (jw_w ((jw_w (40 * a1)) + a2)), jI a3]) (st := []) dX12_raid_92 rfl (Nat.le_of_ble_eq_true rfl) qX12_goRoute jt_1518 jt_1520 jp_68 rfl rfl (Nat.le_of_ble_eq_true rfl) jv_12 rfl jg_127 jl_127 (by decide) (jw_ho jg_127 (by decide)) (kX12_goRoute G (jw_w ((jw_w (40 * a1)) + a2)) a3 (jw_wr _) ha3 M11) (fun v12 M13 hv12 => ?_)
              refine jw_if_ne (pc := 95) 102 dX12_raid_95 (by decide) (jw_bz hv12) (fun _ => ?_) (fun _ => ?_)
              · refine jw_ldc2 (pc := 98) (n := (-9000000000000000001)) dX12_raid_98 jt_1349 (by decide) ?_
                exact jw_ret (pc := 101) (v := (-9000000000000000001)) dX12_raid_101 (jw_qc _ rfl) rfl rfl
              · refine jw_aloadR (pc := 102) 0 dX12_raid_102 rfl ?_
                refine jw_iconst (pc := 103) dX12_raid_103 ?_
                refine jw_putI (pc := 104) (j := 1) tyX12 rfl dX12_raid_104 jv_12 ji_12 tyX12_ok nmX12 (Or.inl jt_1232) rfl jg_127 jl_127 (by decide) (by decide) (jw_ho jg_127 (by decide)) rfl rfl (jw_rc _ rfl) rfl ?_
                refine jw_letM (fun M14 => ?_)
                refine jw_aloadR (pc := 107) 0 dX12_raid_107 rfl ?_
                refine jw_iconst (pc := 108) dX12_raid_108 ?_
                refine jw_callVMi (pc := 109) (As := [jI 1]) (st := []) dX12_raid_109 rfl (Nat.le_of_ble_eq_true rfl) qX12_layRaid jt_1522 jt_1524 jp_69 rfl rfl (Nat.le_of_ble_eq_true rfl) jv_12 rfl jg_127 jl_127 (by decide) (jw_ho jg_127 (by decide)) (kX12_layRaid G 1 (jw_rc _ rfl) M14) (fun v15 M16 hv15 => ?_)
                refine jw_i2lr (pc := 112) dX12_raid_112 hv15 ?_
                exact jw_ret (pc := 113) (v := v15) dX12_raid_113 (jw_rq hv15) rfl rfl
theorem kX12_raid (G : jw_G) (a1 : Int) (a2 : Int) (a3 : Int) (ha1 : jw_r a1) (ha2 : jw_r a2) (ha3 : jw_r a3) (M : jw_M) : jw_Ct G YX12_raid (some .long) 5 0 0 true (fun q => q) yX12_raid [jR G 127, jI a1, jI a2, jI a3] M (fX12_raid a1 a2 a3 M) := jw_met (by decide) rfl rfl rfl (Nat.le_of_ble_eq_true rfl) (rX12_raid G a1 a2 a3 ha1 ha2 ha3 M)
abbrev YX12_two : jw_Y := (RX12, cX12_two, 5, 2, "two")
theorem qX12_two : jw_cy YX12_two (some .long) yX12_two 4 := ⟨by decide, jt_1541, jt_14, by decide, by decide +kernel⟩
theorem dX12_two_0 : decode cX12_two 0 = .ok (.aload_n 0, 1) := by decide +kernel
theorem dX12_two_1 : decode cX12_two 1 = .ok (.iconst 0, 1) := by decide +kernel
theorem dX12_two_2 : decode cX12_two 2 = .ok (.putfield 71, 3) := by decide +kernel
theorem dX12_two_5 : decode cX12_two 5 = .ok (.iload_n 1, 1) := by decide +kernel
theorem dX12_two_6 : decode cX12_two 6 = .ok (.invokestatic 86, 3) := by decide +kernel
theorem dX12_two_9 : decode cX12_two 9 = .ok (.ifCond .eq 16, 3) := by decide +kernel
theorem dX12_two_12 : decode cX12_two 12 = .ok (.iload 4, 2) := by decide +kernel
theorem dX12_two_14 : decode cX12_two 14 = .ok (.i2l, 1) := by decide +kernel
theorem dX12_two_15 : decode cX12_two 15 = .ok (.lconst 1, 1) := by decide +kernel
theorem dX12_two_16 : decode cX12_two 16 = .ok (.ldc2_w 250, 3) := by decide +kernel
theorem dX12_two_19 : decode cX12_two 19 = .ok (.invokestatic 82, 3) := by decide +kernel
theorem dX12_two_22 : decode cX12_two 22 = .ok (.ifCond .ne 7, 3) := by decide +kernel
theorem dX12_two_25 : decode cX12_two 25 = .ok (.ldc2_w 92, 3) := by decide +kernel
theorem dX12_two_28 : decode cX12_two 28 = .ok (.lreturn, 1) := by decide +kernel
theorem dX12_two_29 : decode cX12_two 29 = .ok (.aload_n 0, 1) := by decide +kernel
theorem dX12_two_30 : decode cX12_two 30 = .ok (.getfield 216, 3) := by decide +kernel
theorem dX12_two_33 : decode cX12_two 33 = .ok (.ifCond .ne 7, 3) := by decide +kernel
theorem dX12_two_36 : decode cX12_two 36 = .ok (.ldc2_w 252, 3) := by decide +kernel
theorem dX12_two_39 : decode cX12_two 39 = .ok (.lreturn, 1) := by decide +kernel
theorem dX12_two_40 : decode cX12_two 40 = .ok (.aload_n 0, 1) := by decide +kernel
theorem dX12_two_41 : decode cX12_two 41 = .ok (.getfield 9, 3) := by decide +kernel
theorem dX12_two_44 : decode cX12_two 44 = .ok (.iload_n 1, 1) := by decide +kernel
theorem dX12_two_45 : decode cX12_two 45 = .ok (.iaload, 1) := by decide +kernel
theorem dX12_two_46 : decode cX12_two 46 = .ok (.ifCond .ge 9, 3) := by decide +kernel
theorem dX12_two_49 : decode cX12_two 49 = .ok (.aload_n 0, 1) := by decide +kernel
theorem dX12_two_50 : decode cX12_two 50 = .ok (.iconst 1, 1) := by decide +kernel
theorem dX12_two_51 : decode cX12_two 51 = .ok (.invokevirtual 94, 3) := by decide +kernel
theorem dX12_two_54 : decode cX12_two 54 = .ok (.lreturn, 1) := by decide +kernel
theorem dX12_two_55 : decode cX12_two 55 = .ok (.iload_n 2, 1) := by decide +kernel
theorem dX12_two_56 : decode cX12_two 56 = .ok (.ifCond .lt 41, 3) := by decide +kernel
theorem dX12_two_59 : decode cX12_two 59 = .ok (.iload_n 3, 1) := by decide +kernel
theorem dX12_two_60 : decode cX12_two 60 = .ok (.ifCond .lt 37, 3) := by decide +kernel
theorem dX12_two_63 : decode cX12_two 63 = .ok (.iload_n 2, 1) := by decide +kernel
theorem dX12_two_64 : decode cX12_two 64 = .ok (.i2l, 1) := by decide +kernel
theorem dX12_two_65 : decode cX12_two 65 = .ok (.iload 4, 2) := by decide +kernel
theorem dX12_two_67 : decode cX12_two 67 = .ok (.i2l, 1) := by decide +kernel
theorem dX12_two_68 : decode cX12_two 68 = .ok (.ladd, 1) := by decide +kernel
theorem dX12_two_69 : decode cX12_two 69 = .ok (.aload_n 0, 1) := by decide +kernel
theorem dX12_two_70 : decode cX12_two 70 = .ok (.getfield 13, 3) := by decide +kernel
theorem dX12_two_73 : decode cX12_two 73 = .ok (.iload_n 1, 1) := by decide +kernel
theorem dX12_two_74 : decode cX12_two 74 = .ok (.iaload, 1) := by decide +kernel
theorem dX12_two_75 : decode cX12_two 75 = .ok (.i2l, 1) := by decide +kernel
theorem dX12_two_76 : decode cX12_two 76 = .ok (.lcmp, 1) := by decide +kernel
theorem dX12_two_77 : decode cX12_two 77 = .ok (.ifCond .gt 20, 3) := by decide +kernel
theorem dX12_two_80 : decode cX12_two 80 = .ok (.iload_n 3, 1) := by decide +kernel
theorem dX12_two_81 : decode cX12_two 81 = .ok (.i2l, 1) := by decide +kernel
theorem dX12_two_82 : decode cX12_two 82 = .ok (.iload 4, 2) := by decide +kernel
theorem dX12_two_84 : decode cX12_two 84 = .ok (.i2l, 1) := by decide +kernel
theorem dX12_two_85 : decode cX12_two 85 = .ok (.ladd, 1) := by decide +kernel
theorem dX12_two_86 : decode cX12_two 86 = .ok (.aload_n 0, 1) := by decide +kernel
theorem dX12_two_87 : decode cX12_two 87 = .ok (.getfield 13, 3) := by decide +kernel
theorem dX12_two_90 : decode cX12_two 90 = .ok (.iload_n 1, 1) := by decide +kernel
theorem dX12_two_91 : decode cX12_two 91 = .ok (.iaload, 1) := by decide +kernel
theorem dX12_two_92 : decode cX12_two 92 = .ok (.i2l, 1) := by decide +kernel
theorem dX12_two_93 : decode cX12_two 93 = .ok (.lcmp, 1) := by decide +kernel
theorem dX12_two_94 : decode cX12_two 94 = .ok (.ifCond .le 9, 3) := by decide +kernel
theorem dX12_two_97 : decode cX12_two 97 = .ok (.aload_n 0, 1) := by decide +kernel
theorem dX12_two_98 : decode cX12_two 98 = .ok (.iconst 2, 1) := by decide +kernel
theorem dX12_two_99 : decode cX12_two 99 = .ok (.invokevirtual 94, 3) := by decide +kernel
theorem dX12_two_102 : decode cX12_two 102 = .ok (.lreturn, 1) := by decide +kernel
theorem dX12_two_103 : decode cX12_two 103 = .ok (.aload_n 0, 1) := by decide +kernel
theorem dX12_two_104 : decode cX12_two 104 = .ok (.invokevirtual 254, 3) := by decide +kernel
theorem dX12_two_107 : decode cX12_two 107 = .ok (.aload_n 0, 1) := by decide +kernel
theorem dX12_two_108 : decode cX12_two 108 = .ok (.bipush 40, 2) := by decide +kernel
theorem dX12_two_110 : decode cX12_two 110 = .ok (.iload_n 1, 1) := by decide +kernel
theorem dX12_two_111 : decode cX12_two 111 = .ok (.imul, 1) := by decide +kernel
theorem dX12_two_112 : decode cX12_two 112 = .ok (.iload_n 2, 1) := by decide +kernel
theorem dX12_two_113 : decode cX12_two 113 = .ok (.iadd, 1) := by decide +kernel
theorem dX12_two_114 : decode cX12_two 114 = .ok (.iload 4, 2) := by decide +kernel
theorem dX12_two_116 : decode cX12_two 116 = .ok (.invokevirtual 257, 3) := by decide +kernel
theorem dX12_two_119 : decode cX12_two 119 = .ok (.ifCond .eq 18, 3) := by decide +kernel
theorem dX12_two_122 : decode cX12_two 122 = .ok (.aload_n 0, 1) := by decide +kernel
theorem dX12_two_123 : decode cX12_two 123 = .ok (.bipush 40, 2) := by decide +kernel
theorem dX12_two_125 : decode cX12_two 125 = .ok (.iload_n 1, 1) := by decide +kernel
theorem dX12_two_126 : decode cX12_two 126 = .ok (.imul, 1) := by decide +kernel
theorem dX12_two_127 : decode cX12_two 127 = .ok (.iload_n 3, 1) := by decide +kernel
theorem dX12_two_128 : decode cX12_two 128 = .ok (.iadd, 1) := by decide +kernel
theorem dX12_two_129 : decode cX12_two 129 = .ok (.iload 4, 2) := by decide +kernel
theorem dX12_two_131 : decode cX12_two 131 = .ok (.invokevirtual 257, 3) := by decide +kernel
theorem dX12_two_134 : decode cX12_two 134 = .ok (.ifCond .ne 7, 3) := by decide +kernel
theorem dX12_two_137 : decode cX12_two 137 = .ok (.ldc2_w 92, 3) := by decide +kernel
theorem dX12_two_140 : decode cX12_two 140 = .ok (.lreturn, 1) := by decide +kernel
theorem dX12_two_141 : decode cX12_two 141 = .ok (.aload_n 0, 1) := by decide +kernel
theorem dX12_two_142 : decode cX12_two 142 = .ok (.iconst 0, 1) := by decide +kernel
theorem dX12_two_143 : decode cX12_two 143 = .ok (.putfield 75, 3) := by decide +kernel
theorem dX12_two_146 : decode cX12_two 146 = .ok (.aload_n 0, 1) := by decide +kernel
theorem dX12_two_147 : decode cX12_two 147 = .ok (.iconst 2, 1) := by decide +kernel
theorem dX12_two_148 : decode cX12_two 148 = .ok (.invokevirtual 260, 3) := by decide +kernel
theorem dX12_two_151 : decode cX12_two 151 = .ok (.i2l, 1) := by decide +kernel
theorem dX12_two_152 : decode cX12_two 152 = .ok (.lreturn, 1) := by decide +kernel
def fX12_two_97 (M : jw_M) : Option (Int × jw_M) :=
  jw_b2 (fX12_finding 2 M) (fun v8 M9 => some (v8, M9))
set_option maxRecDepth 100000 in
theorem pX12_two_97 (G : jw_G) : ∀ (M : jw_M), jw_Rn G YX12_two 5 0 0 true (fun q => q) 97 [(0, jR G 127)] [] M (fX12_two_97 M) := by
  intro M
  unfold fX12_two_97
  refine jw_aloadR (pc := 97) 0 dX12_two_97 rfl ?_
  refine jw_iconst (pc := 98) dX12_two_98 ?_
  refine jw_callVMl (pc := 99) (As := [jI 2]) (st := []) dX12_two_99 rfl (Nat.le_of_ble_eq_true rfl) qX12_finding jt_1350 jt_1352 jp_43 rfl rfl (Nat.le_of_ble_eq_true rfl) jv_12 rfl jg_127 jl_127 (by decide) (jw_ho jg_127 (by decide)) (kX12_finding G 2 (jw_rc _ rfl) M) (fun v8 M9 hv8 => ?_)
  exact jw_ret (pc := 102) (v := v8) dX12_two_102 hv8 rfl rfl
def fX12_two (a1 : Int) (a2 : Int) (a3 : Int) (a4 : Int) (M : jw_M) : Option (Int × jw_M) :=
  Option.bind (some (jw_up M 127 0 0)) (fun M1 => Option.bind (fX12_isRow a1 M1) (fun v2 => if v2 = 0 then (some ((-9000000000000000001), M1)) else (Option.bind (fX12_in a4 1 10 M1) (fun v3 => if v3 = 0 then (some ((-9000000000000000001), M1)) else (if M1 127 7 = 0 then (some ((-9000000000000000002), M1)) else (if 0 ≤ a1 ∧ a1 < 8 then if M1 128 a1 < 0 then (jw_b2 (fX12_finding 1 M1) (fun v6 M7 => some (v6, M7))) else (if a2 < 0 then (fX12_two_97 M1) else (if a3 < 0 then (fX12_two_97 M1) else (if 0 ≤ a1 ∧ a1 < 8 then if (0 : Int) < jw_cmp (jw_v (a2 + a4)) (M1 129 a1) then (fX12_two_97 M1) else (if 0 ≤ a1 ∧ a1 < 8 then if (0 : Int) < jw_cmp (jw_v (a3 + a4)) (M1 129 a1) then (fX12_two_97 M1) else (Option.bind (fX12_clearComes  M1) (fun M12 => jw_b2 (fX12_goRoute (jw_w ((jw_w (40 * a1)) + a2)) a4 M12) (fun v13 M14 => if v13 = 0 then (some ((-9000000000000000001), M14)) else (jw_b2 (fX12_goRoute (jw_w ((jw_w (40 * a1)) + a3)) a4 M14) (fun v15 M16 => if v15 = 0 then (some ((-9000000000000000001), M16)) else (Option.bind (some (jw_up M16 127 1 0)) (fun M17 => jw_b2 (fX12_layRaid 2 M17) (fun v18 M19 => some (v18, M19))))))))) else none) else none))) else none))))))
set_option maxRecDepth 100000 in
theorem rX12_two (G : jw_G) (a1 : Int) (a2 : Int) (a3 : Int) (a4 : Int) (ha1 : jw_r a1) (ha2 : jw_r a2) (ha3 : jw_r a3) (ha4 : jw_r a4) (M : jw_M) : jw_Rn G YX12_two 5 0 0 true (fun q => q) 0 [(0, jR G 127), (1, jI a1), (2, jI a2), (3, jI a3), (4, jI a4)] [] M (fX12_two a1 a2 a3 a4 M) := by
  unfold fX12_two
  refine jw_aloadR (pc := 0) 0 dX12_two_0 rfl ?_
  refine jw_iconst (pc := 1) dX12_two_1 ?_
  refine jw_putI (pc := 2) (j := 0) tyX12 rfl dX12_two_2 jv_12 ji_12 tyX12_ok nmX12 (Or.inl jt_1231) rfl jg_127 jl_127 (by decide) (by decide) (jw_ho jg_127 (by decide)) rfl rfl (jw_rc _ rfl) rfl ?_
  refine jw_letM (fun M1 => ?_)
  refine jw_iload_n (pc := 5) 1 dX12_two_5 rfl ?_
  refine jw_callSz (pc := 6) (As := [jI a1]) (st := []) dX12_two_6 rfl (Nat.le_of_ble_eq_true rfl) qX12_isRow jt_1341 jt_1342 rfl rfl (Nat.le_of_ble_eq_true rfl) (kX12_isRow G a1 ha1 M1) (fun v2 hv2 => ?_)
  refine jw_if_eq (pc := 9) 25 dX12_two_9 (by decide) (jw_bz hv2) (fun _ => ?_) (fun _ => ?_)
  · refine jw_ldc2 (pc := 25) (n := (-9000000000000000001)) dX12_two_25 jt_1349 (by decide) ?_
    exact jw_ret (pc := 28) (v := (-9000000000000000001)) dX12_two_28 (jw_qc _ rfl) rfl rfl
  · refine jw_iload (pc := 12) 4 dX12_two_12 rfl ?_
    refine jw_i2lr (pc := 14) dX12_two_14 ha4 ?_
    refine jw_lconst (pc := 15) (z := 1) dX12_two_15 rfl ?_
    refine jw_ldc2 (pc := 16) (n := 10) dX12_two_16 jt_1512 (by decide) ?_
    refine jw_callSz (pc := 19) (As := [jL a4, jL 1, jL 10]) (st := []) dX12_two_19 rfl (Nat.le_of_ble_eq_true rfl) qX12_in jt_1345 jt_1346 rfl rfl (Nat.le_of_ble_eq_true rfl) (kX12_in G a4 1 10 (jw_rq ha4) (jw_qc _ rfl) (jw_qc _ rfl) M1) (fun v3 hv3 => ?_)
    refine jw_if_ne (pc := 22) 29 dX12_two_22 (by decide) (jw_bz hv3) (fun _ => ?_) (fun _ => ?_)
    · refine jw_ldc2 (pc := 25) (n := (-9000000000000000001)) dX12_two_25 jt_1349 (by decide) ?_
      exact jw_ret (pc := 28) (v := (-9000000000000000001)) dX12_two_28 (jw_qc _ rfl) rfl rfl
    · refine jw_aloadR (pc := 29) 0 dX12_two_29 rfl ?_
      refine jw_getI (pc := 30) (j := 7) rfl dX12_two_30 jv_12 ji_12 (Or.inl jt_1238) jg_127 jl_127 (by decide) (by decide) (jw_ho jg_127 (by decide)) (Or.inr rfl) rfl (fun h4 => ?_)
      refine jw_if_ne (pc := 33) 40 dX12_two_33 (by decide) h4 (fun _ => ?_) (fun _ => ?_)
      · refine jw_ldc2 (pc := 36) (n := (-9000000000000000002)) dX12_two_36 jt_1513 (by decide) ?_
        exact jw_ret (pc := 39) (v := (-9000000000000000002)) dX12_two_39 (jw_qc _ rfl) rfl rfl
      · refine jw_aloadR (pc := 40) 0 dX12_two_40 rfl ?_
        refine jw_getR (pc := 41) (j := 2) rfl dX12_two_41 jv_12 ji_12 (Or.inl jt_1233) jg_127 jl_127 (by decide) (by decide) rfl jf_12_2 ?_
        refine jw_iload_n (pc := 44) 1 dX12_two_44 rfl ?_
        refine jw_iald (pc := 45) dX12_two_45 jg_128 jl_128 (jw_ho jg_128 (by decide)) ha1 rfl (fun h5 => ?_)
        refine jw_if_ge (pc := 46) 55 dX12_two_46 (by decide) h5 (fun _ => ?_) (fun _ => ?_)
        · refine jw_aloadR (pc := 49) 0 dX12_two_49 rfl ?_
          refine jw_iconst (pc := 50) dX12_two_50 ?_
          refine jw_callVMl (pc := 51) (As := [jI 1]) (st := []) dX12_two_51 rfl (Nat.le_of_ble_eq_true rfl) qX12_finding jt_1350 jt_1352 jp_43 rfl rfl (Nat.le_of_ble_eq_true rfl) jv_12 rfl jg_127 jl_127 (by decide) (jw_ho jg_127 (by decide)) (kX12_finding G 1 (jw_rc _ rfl) M1) (fun v6 M7 hv6 => ?_)
          exact jw_ret (pc := 54) (v := v6) dX12_two_54 hv6 rfl rfl
        · refine jw_iload_n (pc := 55) 2 dX12_two_55 rfl ?_
          refine jw_if_lt (pc := 56) 97 dX12_two_56 (by decide) ha2 (fun _ => ?_) (fun _ => ?_)
          · exact jw_few [0] rfl (pX12_two_97 G M1)
          · refine jw_iload_n (pc := 59) 3 dX12_two_59 rfl ?_
            refine jw_if_lt (pc := 60) 97 dX12_two_60 (by decide) ha3 (fun _ => ?_) (fun _ => ?_)
            · exact jw_few [0] rfl (pX12_two_97 G M1)
            · refine jw_iload_n (pc := 63) 2 dX12_two_63 rfl ?_
              refine jw_i2lr (pc := 64) dX12_two_64 ha2 ?_
              refine jw_iload (pc := 65) 4 dX12_two_65 rfl ?_
              refine jw_i2lr (pc := 67) dX12_two_67 ha4 ?_
              refine jw_ladd (pc := 68) dX12_two_68 ?_
              refine jw_aloadR (pc := 69) 0 dX12_two_69 rfl ?_
              refine jw_getR (pc := 70) (j := 3) rfl dX12_two_70 jv_12 ji_12 (Or.inl jt_1234) jg_127 jl_127 (by decide) (by decide) rfl jf_12_3 ?_
              refine jw_iload_n (pc := 73) 1 dX12_two_73 rfl ?_
              refine jw_iald (pc := 74) dX12_two_74 jg_129 jl_129 (jw_ho jg_129 (by decide)) ha1 rfl (fun h10 => ?_)
              refine jw_i2lr (pc := 75) dX12_two_75 h10 ?_
              refine jw_lcmp (pc := 76) dX12_two_76 (jw_vr _) (jw_rq h10) ?_
              refine jw_if_gt (pc := 77) 97 dX12_two_77 (by decide) (jw_cmpr _ _) (fun _ => ?_) (fun _ => ?_)
              · exact jw_few [0] rfl (pX12_two_97 G M1)
              · refine jw_iload_n (pc := 80) 3 dX12_two_80 rfl ?_
                refine jw_i2lr (pc := 81) dX12_two_81 ha3 ?_
                refine jw_iload (pc := 82) 4 dX12_two_82 rfl ?_
                refine jw_i2lr (pc := 84) dX12_two_84 ha4 ?_
                refine jw_ladd (pc := 85) dX12_two_85 ?_
                refine jw_aloadR (pc := 86) 0 dX12_two_86 rfl ?_
                refine jw_getR (pc := 87) (j := 3) rfl dX12_two_87 jv_12 ji_12 (Or.inl jt_1234) jg_127 jl_127 (by decide) (by decide) rfl jf_12_3 ?_
                refine jw_iload_n (pc := 90) 1 dX12_two_90 rfl ?_
                refine jw_iald (pc := 91) dX12_two_91 jg_129 jl_129 (jw_ho jg_129 (by decide)) ha1 rfl (fun h11 => ?_)
                refine jw_i2lr (pc := 92) dX12_two_92 h11 ?_
                refine jw_lcmp (pc := 93) dX12_two_93 (jw_vr _) (jw_rq h11) ?_
                refine jw_if_le (pc := 94) 103 dX12_two_94 (by decide) (jw_cmpr _ _) (fun _ => ?_) (fun _ => ?_)
                · exact jw_few [0] rfl (pX12_two_97 G M1)
                · refine jw_aloadR (pc := 103) 0 dX12_two_103 rfl ?_
                  refine jw_callVM (pc := 104) (As := []) (st := []) dX12_two_104 rfl (Nat.le_of_ble_eq_true rfl) qX12_clearComes jt_1514 jt_1516 jp_67 rfl rfl (Nat.le_of_ble_eq_true rfl) jv_12 rfl jg_127 jl_127 (by decide) (jw_ho jg_127 (by decide)) (kX12_clearComes G  M1) (fun M12 => ?_)
                  refine jw_aloadR (pc := 107) 0 dX12_two_107 rfl ?_
                  refine jw_bipush (pc := 108) dX12_two_108 rfl ?_
                  refine jw_iload_n (pc := 110) 1 dX12_two_110 rfl ?_
                  refine jw_imul (pc := 111) dX12_two_111 ?_
                  refine jw_iload_n (pc := 112) 2 dX12_two_112 rfl ?_
                  refine jw_iadd (pc := 113) dX12_two_113 ?_
                  refine jw_iload (pc := 114) 4 dX12_two_114 rfl ?_
                  refine jw_callVMz (pc := 116) (As := [jI (jw_w ((jw_w (40 * a1)) + a2)), jI a4]) (st := []) dX12_two_116 rfl (Nat.le_of_ble_eq_true rfl) qX12_goRoute jt_1518 jt_1520 jp_68 rfl rfl (Nat.le_of_ble_eq_true rfl) jv_12 rfl jg_127 jl_127 (by decide) (jw_ho jg_127 (by decide)) (kX12_goRoute G (jw_w ((jw_w (40 * a1)) + a2)) a4 (jw_wr _) ha4 M12) (fun v13 M14 hv13 => ?_)
                  refine jw_if_eq (pc := 119) 137 dX12_two_119 (by decide) (jw_bz hv13) (fun _ => ?_) (fun _ => ?_)
                  · refine jw_ldc2 (pc := 137) (n := (-9000000000000000001)) dX12_two_137 jt_1349 (by decide) ?_
                    exact jw_ret (pc := 140) (v := (-9000000000000000001)) dX12_two_140 (jw_qc _ rfl) rfl rfl
                  · refine jw_aloadR (pc := 122) 0 dX12_two_122 rfl ?_
                    refine jw_bipush (pc := 123) dX12_two_123 rfl ?_
                    refine jw_iload_n (pc := 125) 1 dX12_two_125 rfl ?_
                    refine jw_imul (pc := 126) dX12_two_126 ?_
                    refine jw_iload_n (pc := 127) 3 dX12_two_127 rfl ?_
                    refine jw_iadd (pc := 128) dX12_two_128 ?_
                    refine jw_iload (pc := 129) 4 dX12_two_129 rfl ?_
                    refine jw_callVMz (pc := 131) (As := [jI (jw_w ((jw_w (40 * a1)) + a3)), jI a4]) (st := []) dX12_two_131 rfl (Nat.le_of_ble_eq_true rfl) qX12_goRoute jt_1518 jt_1520 jp_68 rfl rfl (Nat.le_of_ble_eq_true rfl) jv_12 rfl jg_127 jl_127 (by decide) (jw_ho jg_127 (by decide)) (kX12_goRoute G (jw_w ((jw_w (40 * a1)) + a3)) a4 (jw_wr _) ha4 M14) (fun v15 M16 hv15 => ?_)
                    refine jw_if_ne (pc := 134) 141 dX12_two_134 (by decide) (jw_bz hv15) (fun _ => ?_) (fun _ => ?_)
                    · refine jw_ldc2 (pc := 137) (n := (-9000000000000000001)) dX12_two_137 jt_1349 (by decide) ?_
                      exact jw_ret (pc := 140) (v := (-9000000000000000001)) dX12_two_140 (jw_qc _ rfl) rfl rfl
                    · refine jw_aloadR (pc := 141) 0 dX12_two_141 rfl ?_
                      refine jw_iconst (pc := 142) dX12_two_142 ?_
                      refine jw_putI (pc := 143) (j := 1) tyX12 rfl dX12_two_143 jv_12 ji_12 tyX12_ok nmX12 (Or.inl jt_1232) rfl jg_127 jl_127 (by decide) (by decide) (jw_ho jg_127 (by decide)) rfl rfl (jw_rc _ rfl) rfl ?_
                      refine jw_letM (fun M17 => ?_)
                      refine jw_aloadR (pc := 146) 0 dX12_two_146 rfl ?_
                      refine jw_iconst (pc := 147) dX12_two_147 ?_
                      refine jw_callVMi (pc := 148) (As := [jI 2]) (st := []) dX12_two_148 rfl (Nat.le_of_ble_eq_true rfl) qX12_layRaid jt_1522 jt_1524 jp_69 rfl rfl (Nat.le_of_ble_eq_true rfl) jv_12 rfl jg_127 jl_127 (by decide) (jw_ho jg_127 (by decide)) (kX12_layRaid G 2 (jw_rc _ rfl) M17) (fun v18 M19 hv18 => ?_)
                      refine jw_i2lr (pc := 151) dX12_two_151 hv18 ?_
                      exact jw_ret (pc := 152) (v := v18) dX12_two_152 (jw_rq hv18) rfl rfl
theorem kX12_two (G : jw_G) (a1 : Int) (a2 : Int) (a3 : Int) (a4 : Int) (ha1 : jw_r a1) (ha2 : jw_r a2) (ha3 : jw_r a3) (ha4 : jw_r a4) (M : jw_M) : jw_Ct G YX12_two (some .long) 5 0 0 true (fun q => q) yX12_two [jR G 127, jI a1, jI a2, jI a3, jI a4] M (fX12_two a1 a2 a3 a4 M) := jw_met (by decide) rfl rfl rfl (Nat.le_of_ble_eq_true rfl) (rX12_two G a1 a2 a3 a4 ha1 ha2 ha3 ha4 M)
abbrev YX12_goneOf : jw_Y := (RX12, cX12_goneOf, 2, 1, "goneOf")
theorem qX12_goneOf : jw_cy YX12_goneOf (some .int) yX12_goneOf 1 := ⟨by decide, jt_1558, jt_14, by decide, by decide +kernel⟩
theorem dX12_goneOf_0 : decode cX12_goneOf 0 = .ok (.aload_n 0, 1) := by decide +kernel
theorem dX12_goneOf_1 : decode cX12_goneOf 1 = .ok (.iload_n 1, 1) := by decide +kernel
theorem dX12_goneOf_2 : decode cX12_goneOf 2 = .ok (.invokevirtual 263, 3) := by decide +kernel
theorem dX12_goneOf_5 : decode cX12_goneOf 5 = .ok (.iconst 1, 1) := by decide +kernel
theorem dX12_goneOf_6 : decode cX12_goneOf 6 = .ok (.if_icmp .ne 20, 3) := by decide +kernel
theorem dX12_goneOf_9 : decode cX12_goneOf 9 = .ok (.aload_n 0, 1) := by decide +kernel
theorem dX12_goneOf_10 : decode cX12_goneOf 10 = .ok (.iload_n 1, 1) := by decide +kernel
theorem dX12_goneOf_11 : decode cX12_goneOf 11 = .ok (.iconst 0, 1) := by decide +kernel
theorem dX12_goneOf_12 : decode cX12_goneOf 12 = .ok (.invokevirtual 234, 3) := by decide +kernel
theorem dX12_goneOf_15 : decode cX12_goneOf 15 = .ok (.aload_n 0, 1) := by decide +kernel
theorem dX12_goneOf_16 : decode cX12_goneOf 16 = .ok (.getfield 19, 3) := by decide +kernel
theorem dX12_goneOf_19 : decode cX12_goneOf 19 = .ok (.bipush 88, 2) := by decide +kernel
theorem dX12_goneOf_21 : decode cX12_goneOf 21 = .ok (.iaload, 1) := by decide +kernel
theorem dX12_goneOf_22 : decode cX12_goneOf 22 = .ok (.iadd, 1) := by decide +kernel
theorem dX12_goneOf_23 : decode cX12_goneOf 23 = .ok (.goto 4, 3) := by decide +kernel
theorem dX12_goneOf_26 : decode cX12_goneOf 26 = .ok (.iconst 0, 1) := by decide +kernel
theorem dX12_goneOf_27 : decode cX12_goneOf 27 = .ok (.ireturn, 1) := by decide +kernel
def fX12_goneOf (a1 : Int) (M : jw_M) : Option Int :=
  Option.bind (fX12_becameOf a1 M) (fun v1 => if v1 = 1 then (Option.bind (fX12_goodsOf a1 0 M) (fun v2 => if 0 ≤ (88 : Int) ∧ (88 : Int) < 104 then some (jw_w (v2 + (M 131 88))) else none)) else (some 0))
set_option maxRecDepth 100000 in
theorem rX12_goneOf (G : jw_G) (a1 : Int) (ha1 : jw_r a1) (M : jw_M) : jw_Rn G YX12_goneOf 2 0 0 true (fun v => (v, M)) 0 [(0, jR G 127), (1, jI a1)] [] M (fX12_goneOf a1 M) := by
  unfold fX12_goneOf
  refine jw_aloadR (pc := 0) 0 dX12_goneOf_0 rfl ?_
  refine jw_iload_n (pc := 1) 1 dX12_goneOf_1 rfl ?_
  refine jw_callVi (pc := 2) (As := [jI a1]) (st := []) dX12_goneOf_2 rfl (Nat.le_of_ble_eq_true rfl) qX12_becameOf jt_1547 jt_1549 jp_73 rfl rfl (Nat.le_of_ble_eq_true rfl) jv_12 rfl jg_127 jl_127 (by decide) (jw_ho jg_127 (by decide)) (kX12_becameOf G a1 ha1 M) (fun v1 hv1 => ?_)
  refine jw_iconst (pc := 5) dX12_goneOf_5 ?_
  refine jw_ic_ne (pc := 6) 26 dX12_goneOf_6 (by decide) hv1 (jw_rc _ rfl) (fun _ => ?_) (fun _ => ?_)
  · refine jw_aloadR (pc := 9) 0 dX12_goneOf_9 rfl ?_
    refine jw_iload_n (pc := 10) 1 dX12_goneOf_10 rfl ?_
    refine jw_iconst (pc := 11) dX12_goneOf_11 ?_
    refine jw_callVi (pc := 12) (As := [jI a1, jI 0]) (st := []) dX12_goneOf_12 rfl (Nat.le_of_ble_eq_true rfl) qX12_goodsOf jt_1496 jt_1498 jp_65 rfl rfl (Nat.le_of_ble_eq_true rfl) jv_12 rfl jg_127 jl_127 (by decide) (jw_ho jg_127 (by decide)) (kX12_goodsOf G a1 0 ha1 (jw_rc _ rfl) M) (fun v2 hv2 => ?_)
    refine jw_aloadR (pc := 15) 0 dX12_goneOf_15 rfl ?_
    refine jw_getR (pc := 16) (j := 5) rfl dX12_goneOf_16 jv_12 ji_12 (Or.inl jt_1236) jg_127 jl_127 (by decide) (by decide) rfl jf_12_5 ?_
    refine jw_bipush (pc := 19) dX12_goneOf_19 rfl ?_
    refine jw_iald (pc := 21) dX12_goneOf_21 jg_131 jl_131 (jw_ho jg_131 (by decide)) (jw_rc _ rfl) rfl (fun h3 => ?_)
    refine jw_iadd (pc := 22) dX12_goneOf_22 ?_
    refine jw_goto (pc := 23) 27 dX12_goneOf_23 (by decide) ?_
    exact jw_ret (pc := 27) (v := jw_w (v2 + (M 131 88))) dX12_goneOf_27 (jw_wr _) rfl rfl
  · refine jw_iconst (pc := 26) dX12_goneOf_26 ?_
    exact jw_ret (pc := 27) (v := 0) dX12_goneOf_27 (jw_rc _ rfl) rfl rfl
theorem kX12_goneOf (G : jw_G) (a1 : Int) (ha1 : jw_r a1) (M : jw_M) : jw_Ct G YX12_goneOf (some .int) 2 0 0 true (fun v => (v, M)) yX12_goneOf [jR G 127, jI a1] M (fX12_goneOf a1 M) := jw_met (by decide) rfl rfl rfl (Nat.le_of_ble_eq_true rfl) (rX12_goneOf G a1 ha1 M)
abbrev YX12_lostOf : jw_Y := (RX12, cX12_lostOf, 2, 1, "lostOf")
theorem qX12_lostOf : jw_cy YX12_lostOf (some .int) yX12_lostOf 1 := ⟨by decide, jt_1554, jt_14, by decide, by decide +kernel⟩
theorem dX12_lostOf_0 : decode cX12_lostOf 0 = .ok (.aload_n 0, 1) := by decide +kernel
theorem dX12_lostOf_1 : decode cX12_lostOf 1 = .ok (.iload_n 1, 1) := by decide +kernel
theorem dX12_lostOf_2 : decode cX12_lostOf 2 = .ok (.iconst 1, 1) := by decide +kernel
theorem dX12_lostOf_3 : decode cX12_lostOf 3 = .ok (.invokevirtual 234, 3) := by decide +kernel
theorem dX12_lostOf_6 : decode cX12_lostOf 6 = .ok (.aload_n 0, 1) := by decide +kernel
theorem dX12_lostOf_7 : decode cX12_lostOf 7 = .ok (.iload_n 1, 1) := by decide +kernel
theorem dX12_lostOf_8 : decode cX12_lostOf 8 = .ok (.iconst 2, 1) := by decide +kernel
theorem dX12_lostOf_9 : decode cX12_lostOf 9 = .ok (.invokevirtual 234, 3) := by decide +kernel
theorem dX12_lostOf_12 : decode cX12_lostOf 12 = .ok (.iadd, 1) := by decide +kernel
theorem dX12_lostOf_13 : decode cX12_lostOf 13 = .ok (.ireturn, 1) := by decide +kernel
def fX12_lostOf (a1 : Int) (M : jw_M) : Option Int :=
  Option.bind (fX12_goodsOf a1 1 M) (fun v1 => Option.bind (fX12_goodsOf a1 2 M) (fun v2 => some (jw_w (v1 + v2))))
set_option maxRecDepth 100000 in
theorem rX12_lostOf (G : jw_G) (a1 : Int) (ha1 : jw_r a1) (M : jw_M) : jw_Rn G YX12_lostOf 2 0 0 true (fun v => (v, M)) 0 [(0, jR G 127), (1, jI a1)] [] M (fX12_lostOf a1 M) := by
  unfold fX12_lostOf
  refine jw_aloadR (pc := 0) 0 dX12_lostOf_0 rfl ?_
  refine jw_iload_n (pc := 1) 1 dX12_lostOf_1 rfl ?_
  refine jw_iconst (pc := 2) dX12_lostOf_2 ?_
  refine jw_callVi (pc := 3) (As := [jI a1, jI 1]) (st := []) dX12_lostOf_3 rfl (Nat.le_of_ble_eq_true rfl) qX12_goodsOf jt_1496 jt_1498 jp_65 rfl rfl (Nat.le_of_ble_eq_true rfl) jv_12 rfl jg_127 jl_127 (by decide) (jw_ho jg_127 (by decide)) (kX12_goodsOf G a1 1 ha1 (jw_rc _ rfl) M) (fun v1 hv1 => ?_)
  refine jw_aloadR (pc := 6) 0 dX12_lostOf_6 rfl ?_
  refine jw_iload_n (pc := 7) 1 dX12_lostOf_7 rfl ?_
  refine jw_iconst (pc := 8) dX12_lostOf_8 ?_
  refine jw_callVi (pc := 9) (As := [jI a1, jI 2]) (st := [jI v1]) dX12_lostOf_9 rfl (Nat.le_of_ble_eq_true rfl) qX12_goodsOf jt_1496 jt_1498 jp_65 rfl rfl (Nat.le_of_ble_eq_true rfl) jv_12 rfl jg_127 jl_127 (by decide) (jw_ho jg_127 (by decide)) (kX12_goodsOf G a1 2 ha1 (jw_rc _ rfl) M) (fun v2 hv2 => ?_)
  refine jw_iadd (pc := 12) dX12_lostOf_12 ?_
  exact jw_ret (pc := 13) (v := jw_w (v1 + v2)) dX12_lostOf_13 (jw_wr _) rfl rfl
theorem kX12_lostOf (G : jw_G) (a1 : Int) (ha1 : jw_r a1) (M : jw_M) : jw_Ct G YX12_lostOf (some .int) 2 0 0 true (fun v => (v, M)) yX12_lostOf [jR G 127, jI a1] M (fX12_lostOf a1 M) := jw_met (by decide) rfl rfl rfl (Nat.le_of_ble_eq_true rfl) (rX12_lostOf G a1 ha1 M)
abbrev YX12_after : jw_Y := (RX12, cX12_after, 6, 2, "after")
theorem qX12_after : jw_cy YX12_after (some .long) yX12_after 2 := ⟨by decide, jt_1545, jt_14, by decide, by decide +kernel⟩
theorem dX12_after_0 : decode cX12_after 0 = .ok (.aload_n 0, 1) := by decide +kernel
theorem dX12_after_1 : decode cX12_after 1 = .ok (.iconst 0, 1) := by decide +kernel
theorem dX12_after_2 : decode cX12_after 2 = .ok (.putfield 71, 3) := by decide +kernel
theorem dX12_after_5 : decode cX12_after 5 = .ok (.iload_n 1, 1) := by decide +kernel
theorem dX12_after_6 : decode cX12_after 6 = .ok (.iconst (-1), 1) := by decide +kernel
theorem dX12_after_7 : decode cX12_after 7 = .ok (.if_icmp .ne 12, 3) := by decide +kernel
theorem dX12_after_10 : decode cX12_after 10 = .ok (.iload_n 2, 1) := by decide +kernel
theorem dX12_after_11 : decode cX12_after 11 = .ok (.iconst 4, 1) := by decide +kernel
theorem dX12_after_12 : decode cX12_after 12 = .ok (.if_icmp .ne 7, 3) := by decide +kernel
theorem dX12_after_15 : decode cX12_after 15 = .ok (.iconst 1, 1) := by decide +kernel
theorem dX12_after_16 : decode cX12_after 16 = .ok (.goto 4, 3) := by decide +kernel
theorem dX12_after_19 : decode cX12_after 19 = .ok (.iconst 0, 1) := by decide +kernel
theorem dX12_after_20 : decode cX12_after 20 = .ok (.istore_n 3, 1) := by decide +kernel
theorem dX12_after_21 : decode cX12_after 21 = .ok (.iload_n 3, 1) := by decide +kernel
theorem dX12_after_22 : decode cX12_after 22 = .ok (.ifCond .ne 27, 3) := by decide +kernel
theorem dX12_after_25 : decode cX12_after 25 = .ok (.aload_n 0, 1) := by decide +kernel
theorem dX12_after_26 : decode cX12_after 26 = .ok (.iload_n 1, 1) := by decide +kernel
theorem dX12_after_27 : decode cX12_after 27 = .ok (.invokevirtual 229, 3) := by decide +kernel
theorem dX12_after_30 : decode cX12_after 30 = .ok (.ifCond .eq 15, 3) := by decide +kernel
theorem dX12_after_33 : decode cX12_after 33 = .ok (.iload_n 2, 1) := by decide +kernel
theorem dX12_after_34 : decode cX12_after 34 = .ok (.i2l, 1) := by decide +kernel
theorem dX12_after_35 : decode cX12_after 35 = .ok (.lconst 0, 1) := by decide +kernel
theorem dX12_after_36 : decode cX12_after 36 = .ok (.ldc2_w 266, 3) := by decide +kernel
theorem dX12_after_39 : decode cX12_after 39 = .ok (.invokestatic 82, 3) := by decide +kernel
theorem dX12_after_42 : decode cX12_after 42 = .ok (.ifCond .ne 7, 3) := by decide +kernel
theorem dX12_after_45 : decode cX12_after 45 = .ok (.ldc2_w 92, 3) := by decide +kernel
theorem dX12_after_48 : decode cX12_after 48 = .ok (.lreturn, 1) := by decide +kernel
theorem dX12_after_49 : decode cX12_after 49 = .ok (.aload_n 0, 1) := by decide +kernel
theorem dX12_after_50 : decode cX12_after 50 = .ok (.getfield 25, 3) := by decide +kernel
theorem dX12_after_53 : decode cX12_after 53 = .ok (.bipush 42, 2) := by decide +kernel
theorem dX12_after_55 : decode cX12_after 55 = .ok (.iaload, 1) := by decide +kernel
theorem dX12_after_56 : decode cX12_after 56 = .ok (.ifCond .ne 7, 3) := by decide +kernel
theorem dX12_after_59 : decode cX12_after 59 = .ok (.ldc2_w 252, 3) := by decide +kernel
theorem dX12_after_62 : decode cX12_after 62 = .ok (.lreturn, 1) := by decide +kernel
theorem dX12_after_63 : decode cX12_after 63 = .ok (.iconst 0, 1) := by decide +kernel
theorem dX12_after_64 : decode cX12_after 64 = .ok (.istore 4, 2) := by decide +kernel
theorem dX12_after_66 : decode cX12_after 66 = .ok (.iconst 0, 1) := by decide +kernel
theorem dX12_after_67 : decode cX12_after 67 = .ok (.istore 5, 2) := by decide +kernel
theorem dX12_after_69 : decode cX12_after 69 = .ok (.iload 5, 2) := by decide +kernel
theorem dX12_after_71 : decode cX12_after 71 = .ok (.aload_n 0, 1) := by decide +kernel
theorem dX12_after_72 : decode cX12_after 72 = .ok (.getfield 19, 3) := by decide +kernel
theorem dX12_after_75 : decode cX12_after 75 = .ok (.iconst 3, 1) := by decide +kernel
theorem dX12_after_76 : decode cX12_after 76 = .ok (.iaload, 1) := by decide +kernel
theorem dX12_after_77 : decode cX12_after 77 = .ok (.if_icmp .ge 34, 3) := by decide +kernel
theorem dX12_after_80 : decode cX12_after 80 = .ok (.iload 4, 2) := by decide +kernel
theorem dX12_after_82 : decode cX12_after 82 = .ok (.aload_n 0, 1) := by decide +kernel
theorem dX12_after_83 : decode cX12_after 83 = .ok (.iload 5, 2) := by decide +kernel
theorem dX12_after_85 : decode cX12_after 85 = .ok (.invokevirtual 263, 3) := by decide +kernel
theorem dX12_after_88 : decode cX12_after 88 = .ok (.iconst 2, 1) := by decide +kernel
theorem dX12_after_89 : decode cX12_after 89 = .ok (.if_icmp .ne 12, 3) := by decide +kernel
theorem dX12_after_92 : decode cX12_after 92 = .ok (.aload_n 0, 1) := by decide +kernel
theorem dX12_after_93 : decode cX12_after 93 = .ok (.iload 5, 2) := by decide +kernel
theorem dX12_after_95 : decode cX12_after 95 = .ok (.invokevirtual 268, 3) := by decide +kernel
theorem dX12_after_98 : decode cX12_after 98 = .ok (.goto 4, 3) := by decide +kernel
theorem dX12_after_101 : decode cX12_after 101 = .ok (.iconst 0, 1) := by decide +kernel
theorem dX12_after_102 : decode cX12_after 102 = .ok (.iadd, 1) := by decide +kernel
theorem dX12_after_103 : decode cX12_after 103 = .ok (.istore 4, 2) := by decide +kernel
theorem dX12_after_105 : decode cX12_after 105 = .ok (.iinc 5 1, 3) := by decide +kernel
theorem dX12_after_108 : decode cX12_after 108 = .ok (.goto (-39), 3) := by decide +kernel
theorem dX12_after_111 : decode cX12_after 111 = .ok (.iload_n 3, 1) := by decide +kernel
theorem dX12_after_112 : decode cX12_after 112 = .ok (.ifCond .eq 9, 3) := by decide +kernel
theorem dX12_after_115 : decode cX12_after 115 = .ok (.iload 4, 2) := by decide +kernel
theorem dX12_after_117 : decode cX12_after 117 = .ok (.i2l, 1) := by decide +kernel
theorem dX12_after_118 : decode cX12_after 118 = .ok (.goto 58, 3) := by decide +kernel
theorem dX12_after_121 : decode cX12_after 121 = .ok (.iload_n 2, 1) := by decide +kernel
theorem dX12_after_122 : decode cX12_after 122 = .ok (.ifCond .ne 16, 3) := by decide +kernel
theorem dX12_after_125 : decode cX12_after 125 = .ok (.aload_n 0, 1) := by decide +kernel
theorem dX12_after_126 : decode cX12_after 126 = .ok (.getfield 25, 3) := by decide +kernel
theorem dX12_after_129 : decode cX12_after 129 = .ok (.bipush 43, 2) := by decide +kernel
theorem dX12_after_131 : decode cX12_after 131 = .ok (.iload_n 1, 1) := by decide +kernel
theorem dX12_after_132 : decode cX12_after 132 = .ok (.iadd, 1) := by decide +kernel
theorem dX12_after_133 : decode cX12_after 133 = .ok (.iaload, 1) := by decide +kernel
theorem dX12_after_134 : decode cX12_after 134 = .ok (.i2l, 1) := by decide +kernel
theorem dX12_after_135 : decode cX12_after 135 = .ok (.goto 41, 3) := by decide +kernel
theorem dX12_after_138 : decode cX12_after 138 = .ok (.iload_n 2, 1) := by decide +kernel
theorem dX12_after_139 : decode cX12_after 139 = .ok (.iconst 1, 1) := by decide +kernel
theorem dX12_after_140 : decode cX12_after 140 = .ok (.if_icmp .ne 16, 3) := by decide +kernel
theorem dX12_after_143 : decode cX12_after 143 = .ok (.aload_n 0, 1) := by decide +kernel
theorem dX12_after_144 : decode cX12_after 144 = .ok (.getfield 25, 3) := by decide +kernel
theorem dX12_after_147 : decode cX12_after 147 = .ok (.bipush 48, 2) := by decide +kernel
theorem dX12_after_149 : decode cX12_after 149 = .ok (.iload_n 1, 1) := by decide +kernel
theorem dX12_after_150 : decode cX12_after 150 = .ok (.iadd, 1) := by decide +kernel
theorem dX12_after_151 : decode cX12_after 151 = .ok (.iaload, 1) := by decide +kernel
theorem dX12_after_152 : decode cX12_after 152 = .ok (.i2l, 1) := by decide +kernel
theorem dX12_after_153 : decode cX12_after 153 = .ok (.goto 23, 3) := by decide +kernel
theorem dX12_after_156 : decode cX12_after 156 = .ok (.iload_n 2, 1) := by decide +kernel
theorem dX12_after_157 : decode cX12_after 157 = .ok (.iconst 2, 1) := by decide +kernel
theorem dX12_after_158 : decode cX12_after 158 = .ok (.if_icmp .ne 12, 3) := by decide +kernel
theorem dX12_after_161 : decode cX12_after 161 = .ok (.aload_n 0, 1) := by decide +kernel
theorem dX12_after_162 : decode cX12_after 162 = .ok (.iload_n 1, 1) := by decide +kernel
theorem dX12_after_163 : decode cX12_after 163 = .ok (.invokevirtual 263, 3) := by decide +kernel
theorem dX12_after_166 : decode cX12_after 166 = .ok (.i2l, 1) := by decide +kernel
theorem dX12_after_167 : decode cX12_after 167 = .ok (.goto 9, 3) := by decide +kernel
theorem dX12_after_170 : decode cX12_after 170 = .ok (.aload_n 0, 1) := by decide +kernel
theorem dX12_after_171 : decode cX12_after 171 = .ok (.iload_n 1, 1) := by decide +kernel
theorem dX12_after_172 : decode cX12_after 172 = .ok (.invokevirtual 271, 3) := by decide +kernel
theorem dX12_after_175 : decode cX12_after 175 = .ok (.i2l, 1) := by decide +kernel
theorem dX12_after_176 : decode cX12_after 176 = .ok (.lreturn, 1) := by decide +kernel
def fX12_after_102 (r69 : Int → Int → Int → Int → Int → jw_M → Option (Int × jw_M)) (x1 : Int) (x2 : Int) (x3 : Int) (x5 : Int) (xs0 : Int) (xs1 : Int) (M : jw_M) : Option (Int × jw_M) :=
  Option.bind (some (jw_w (xs1 + xs0))) (fun v11 => Option.bind (some (jw_w (x5 + 1))) (fun v12 => r69 x1 x2 x3 v11 v12 M))
set_option maxRecDepth 100000 in
theorem pX12_after_102 (G : jw_G) (r69 : Int → Int → Int → Int → Int → jw_M → Option (Int × jw_M)) (hr69 : ∀ (x1 : Int) (x2 : Int) (x3 : Int) (x4 : Int) (x5 : Int) (hx1 : jw_r x1) (hx2 : jw_r x2) (hx3 : jw_r x3) (hx4 : jw_r x4) (hx5 : jw_r x5) (M : jw_M), jw_Rn G YX12_after 3 0 0 true (fun q => q) 69 [(0, jR G 127), (1, jI x1), (2, jI x2), (3, jI x3), (4, jI x4), (5, jI x5)] [] M (r69 x1 x2 x3 x4 x5 M)) : ∀ (x1 : Int) (x2 : Int) (x3 : Int) (x5 : Int) (xs0 : Int) (xs1 : Int) (hx1 : jw_r x1) (hx2 : jw_r x2) (hx3 : jw_r x3) (hx5 : jw_r x5) (hxs0 : jw_r xs0) (hxs1 : jw_r xs1) (M : jw_M), jw_Rn G YX12_after 3 0 0 true (fun q => q) 102 [(0, jR G 127), (1, jI x1), (2, jI x2), (3, jI x3), (5, jI x5)] [jI xs0, jI xs1] M (fX12_after_102 r69 x1 x2 x3 x5 xs0 xs1 M) := by
  intro x1 x2 x3 x5 xs0 xs1 hx1 hx2 hx3 hx5 hxs0 hxs1 M
  unfold fX12_after_102
  refine jw_iadd (pc := 102) dX12_after_102 ?_
  refine jw_istoreL (pc := 103) (lv' := (fun y => [(4, y), (0, jR G 127), (1, jI x1), (2, jI x2), (3, jI x3), (5, jI x5)])) dX12_after_103 (jw_wr _) (by decide) (fun _ => rfl) (fun v11 hv11 => ?_)
  refine jw_iincL (pc := 105) 5 (lv' := (fun y => [(5, y), (4, jI v11), (0, jR G 127), (1, jI x1), (2, jI x2), (3, jI x3)])) dX12_after_105 rfl (Nat.le_of_ble_eq_true rfl) (fun _ => rfl) (fun v12 hv12 => ?_)
  refine jw_goto (pc := 108) 69 dX12_after_108 (by decide) ?_
  exact jw_few [2, 3, 4, 5, 1, 0] rfl (hr69 x1 x2 x3 v11 v12 hx1 hx2 hx3 hv11 hv12 M)
def fX12_after_69 : Nat → Int → Int → Int → Int → Int → jw_M → Option (Int × jw_M)
  | 0, _, _, _, _, _, _ => none
  | k + 1, x1, x2, x3, x4, x5, M => if 0 ≤ (3 : Int) ∧ (3 : Int) < 104 then if x5 < M 131 3 then (Option.bind (fX12_becameOf x5 M) (fun v9 => if v9 = 2 then (Option.bind (fX12_lostOf x5 M) (fun v10 => fX12_after_102 (fX12_after_69 k) x1 x2 x3 x5 v10 x4 M)) else (fX12_after_102 (fX12_after_69 k) x1 x2 x3 x5 0 x4 M))) else (if x3 = 0 then (if x2 = 0 then (if 0 ≤ jw_w (43 + x1) ∧ jw_w (43 + x1) < 104 then some (M 133 (jw_w (43 + x1)), M) else none) else (if x2 = 1 then (if 0 ≤ jw_w (48 + x1) ∧ jw_w (48 + x1) < 104 then some (M 133 (jw_w (48 + x1)), M) else none) else (if x2 = 2 then (Option.bind (fX12_becameOf x1 M) (fun v15 => some (v15, M))) else (Option.bind (fX12_goneOf x1 M) (fun v16 => some (v16, M)))))) else (some (x4, M))) else none
set_option maxRecDepth 100000 in
theorem pX12_after_69 (G : jw_G) : ∀ (k : Nat) (x1 : Int) (x2 : Int) (x3 : Int) (x4 : Int) (x5 : Int) (hx1 : jw_r x1) (hx2 : jw_r x2) (hx3 : jw_r x3) (hx4 : jw_r x4) (hx5 : jw_r x5) (M : jw_M), jw_Rn G YX12_after 3 0 0 true (fun q => q) 69 [(0, jR G 127), (1, jI x1), (2, jI x2), (3, jI x3), (4, jI x4), (5, jI x5)] [] M (fX12_after_69 k x1 x2 x3 x4 x5 M) := by
  intro k
  induction k with
  | zero =>
    intro x1 x2 x3 x4 x5 hx1 hx2 hx3 hx4 hx5 M
    exact jw_none
  | succ k ih =>
    intro x1 x2 x3 x4 x5 hx1 hx2 hx3 hx4 hx5 M
    rw [fX12_after_69]
    refine jw_iload (pc := 69) 5 dX12_after_69 rfl ?_
    refine jw_aloadR (pc := 71) 0 dX12_after_71 rfl ?_
    refine jw_getR (pc := 72) (j := 5) rfl dX12_after_72 jv_12 ji_12 (Or.inl jt_1236) jg_127 jl_127 (by decide) (by decide) rfl jf_12_5 ?_
    refine jw_iconst (pc := 75) dX12_after_75 ?_
    refine jw_iald (pc := 76) dX12_after_76 jg_131 jl_131 (jw_ho jg_131 (by decide)) (jw_rc _ rfl) rfl (fun h8 => ?_)
    refine jw_ic_ge (pc := 77) 111 dX12_after_77 (by decide) hx5 h8 (fun _ => ?_) (fun _ => ?_)
    · refine jw_iload (pc := 80) 4 dX12_after_80 rfl ?_
      refine jw_aloadR (pc := 82) 0 dX12_after_82 rfl ?_
      refine jw_iload (pc := 83) 5 dX12_after_83 rfl ?_
      refine jw_callVi (pc := 85) (As := [jI x5]) (st := [jI x4]) dX12_after_85 rfl (Nat.le_of_ble_eq_true rfl) qX12_becameOf jt_1547 jt_1549 jp_73 rfl rfl (Nat.le_of_ble_eq_true rfl) jv_12 rfl jg_127 jl_127 (by decide) (jw_ho jg_127 (by decide)) (kX12_becameOf G x5 hx5 M) (fun v9 hv9 => ?_)
      refine jw_iconst (pc := 88) dX12_after_88 ?_
      refine jw_ic_ne (pc := 89) 101 dX12_after_89 (by decide) hv9 (jw_rc _ rfl) (fun _ => ?_) (fun _ => ?_)
      · refine jw_aloadR (pc := 92) 0 dX12_after_92 rfl ?_
        refine jw_iload (pc := 93) 5 dX12_after_93 rfl ?_
        refine jw_callVi (pc := 95) (As := [jI x5]) (st := [jI x4]) dX12_after_95 rfl (Nat.le_of_ble_eq_true rfl) qX12_lostOf jt_1551 jt_1553 jp_74 rfl rfl (Nat.le_of_ble_eq_true rfl) jv_12 rfl jg_127 jl_127 (by decide) (jw_ho jg_127 (by decide)) (kX12_lostOf G x5 hx5 M) (fun v10 hv10 => ?_)
        refine jw_goto (pc := 98) 102 dX12_after_98 (by decide) ?_
        exact jw_few [0, 1, 2, 3, 5] rfl (pX12_after_102 G (fX12_after_69 k) ih x1 x2 x3 x5 v10 x4 hx1 hx2 hx3 hx5 hv10 hx4 M)
      · refine jw_iconst (pc := 101) dX12_after_101 ?_
        exact jw_few [0, 1, 2, 3, 5] rfl (pX12_after_102 G (fX12_after_69 k) ih x1 x2 x3 x5 0 x4 hx1 hx2 hx3 hx5 (jw_rc _ rfl) hx4 M)
    · refine jw_iload_n (pc := 111) 3 dX12_after_111 rfl ?_
      refine jw_if_eq (pc := 112) 121 dX12_after_112 (by decide) hx3 (fun _ => ?_) (fun _ => ?_)
      · refine jw_iload_n (pc := 121) 2 dX12_after_121 rfl ?_
        refine jw_if_ne (pc := 122) 138 dX12_after_122 (by decide) hx2 (fun _ => ?_) (fun _ => ?_)
        · refine jw_aloadR (pc := 125) 0 dX12_after_125 rfl ?_
          refine jw_getR (pc := 126) (j := 8) rfl dX12_after_126 jv_12 ji_12 (Or.inl jt_1239) jg_127 jl_127 (by decide) (by decide) rfl jf_12_8 ?_
          refine jw_bipush (pc := 129) dX12_after_129 rfl ?_
          refine jw_iload_n (pc := 131) 1 dX12_after_131 rfl ?_
          refine jw_iadd (pc := 132) dX12_after_132 ?_
          refine jw_iald (pc := 133) dX12_after_133 jg_133 jl_133 (jw_ho jg_133 (by decide)) (jw_wr _) rfl (fun h13 => ?_)
          refine jw_i2lr (pc := 134) dX12_after_134 h13 ?_
          refine jw_goto (pc := 135) 176 dX12_after_135 (by decide) ?_
          exact jw_ret (pc := 176) (v := M 133 (jw_w (43 + x1))) dX12_after_176 (jw_rq h13) rfl rfl
        · refine jw_iload_n (pc := 138) 2 dX12_after_138 rfl ?_
          refine jw_iconst (pc := 139) dX12_after_139 ?_
          refine jw_ic_ne (pc := 140) 156 dX12_after_140 (by decide) hx2 (jw_rc _ rfl) (fun _ => ?_) (fun _ => ?_)
          · refine jw_aloadR (pc := 143) 0 dX12_after_143 rfl ?_
            refine jw_getR (pc := 144) (j := 8) rfl dX12_after_144 jv_12 ji_12 (Or.inl jt_1239) jg_127 jl_127 (by decide) (by decide) rfl jf_12_8 ?_
            refine jw_bipush (pc := 147) dX12_after_147 rfl ?_
            refine jw_iload_n (pc := 149) 1 dX12_after_149 rfl ?_
            refine jw_iadd (pc := 150) dX12_after_150 ?_
            refine jw_iald (pc := 151) dX12_after_151 jg_133 jl_133 (jw_ho jg_133 (by decide)) (jw_wr _) rfl (fun h14 => ?_)
            refine jw_i2lr (pc := 152) dX12_after_152 h14 ?_
            refine jw_goto (pc := 153) 176 dX12_after_153 (by decide) ?_
            exact jw_ret (pc := 176) (v := M 133 (jw_w (48 + x1))) dX12_after_176 (jw_rq h14) rfl rfl
          · refine jw_iload_n (pc := 156) 2 dX12_after_156 rfl ?_
            refine jw_iconst (pc := 157) dX12_after_157 ?_
            refine jw_ic_ne (pc := 158) 170 dX12_after_158 (by decide) hx2 (jw_rc _ rfl) (fun _ => ?_) (fun _ => ?_)
            · refine jw_aloadR (pc := 161) 0 dX12_after_161 rfl ?_
              refine jw_iload_n (pc := 162) 1 dX12_after_162 rfl ?_
              refine jw_callVi (pc := 163) (As := [jI x1]) (st := []) dX12_after_163 rfl (Nat.le_of_ble_eq_true rfl) qX12_becameOf jt_1547 jt_1549 jp_73 rfl rfl (Nat.le_of_ble_eq_true rfl) jv_12 rfl jg_127 jl_127 (by decide) (jw_ho jg_127 (by decide)) (kX12_becameOf G x1 hx1 M) (fun v15 hv15 => ?_)
              refine jw_i2lr (pc := 166) dX12_after_166 hv15 ?_
              refine jw_goto (pc := 167) 176 dX12_after_167 (by decide) ?_
              exact jw_ret (pc := 176) (v := v15) dX12_after_176 (jw_rq hv15) rfl rfl
            · refine jw_aloadR (pc := 170) 0 dX12_after_170 rfl ?_
              refine jw_iload_n (pc := 171) 1 dX12_after_171 rfl ?_
              refine jw_callVi (pc := 172) (As := [jI x1]) (st := []) dX12_after_172 rfl (Nat.le_of_ble_eq_true rfl) qX12_goneOf jt_1555 jt_1557 jp_75 rfl rfl (Nat.le_of_ble_eq_true rfl) jv_12 rfl jg_127 jl_127 (by decide) (jw_ho jg_127 (by decide)) (kX12_goneOf G x1 hx1 M) (fun v16 hv16 => ?_)
              refine jw_i2lr (pc := 175) dX12_after_175 hv16 ?_
              exact jw_ret (pc := 176) (v := v16) dX12_after_176 (jw_rq hv16) rfl rfl
      · refine jw_iload (pc := 115) 4 dX12_after_115 rfl ?_
        refine jw_i2lr (pc := 117) dX12_after_117 hx4 ?_
        refine jw_goto (pc := 118) 176 dX12_after_118 (by decide) ?_
        exact jw_ret (pc := 176) (v := x4) dX12_after_176 (jw_rq hx4) rfl rfl
def fX12_after_49 (x1 : Int) (x2 : Int) (x3 : Int) (M : jw_M) : Option (Int × jw_M) :=
  if 0 ≤ (42 : Int) ∧ (42 : Int) < 104 then if M 133 42 = 0 then (some ((-9000000000000000002), M)) else (Option.bind (some 0) (fun v6 => Option.bind (some 0) (fun v7 => fX12_after_69 jw_fu x1 x2 x3 v6 v7 M))) else none
set_option maxRecDepth 100000 in
theorem pX12_after_49 (G : jw_G) : ∀ (x1 : Int) (x2 : Int) (x3 : Int) (hx1 : jw_r x1) (hx2 : jw_r x2) (hx3 : jw_r x3) (M : jw_M), jw_Rn G YX12_after 3 0 0 true (fun q => q) 49 [(0, jR G 127), (1, jI x1), (2, jI x2), (3, jI x3)] [] M (fX12_after_49 x1 x2 x3 M) := by
  intro x1 x2 x3 hx1 hx2 hx3 M
  unfold fX12_after_49
  refine jw_aloadR (pc := 49) 0 dX12_after_49 rfl ?_
  refine jw_getR (pc := 50) (j := 8) rfl dX12_after_50 jv_12 ji_12 (Or.inl jt_1239) jg_127 jl_127 (by decide) (by decide) rfl jf_12_8 ?_
  refine jw_bipush (pc := 53) dX12_after_53 rfl ?_
  refine jw_iald (pc := 55) dX12_after_55 jg_133 jl_133 (jw_ho jg_133 (by decide)) (jw_rc _ rfl) rfl (fun h5 => ?_)
  refine jw_if_ne (pc := 56) 63 dX12_after_56 (by decide) h5 (fun _ => ?_) (fun _ => ?_)
  · refine jw_ldc2 (pc := 59) (n := (-9000000000000000002)) dX12_after_59 jt_1513 (by decide) ?_
    exact jw_ret (pc := 62) (v := (-9000000000000000002)) dX12_after_62 (jw_qc _ rfl) rfl rfl
  · refine jw_iconst (pc := 63) dX12_after_63 ?_
    refine jw_istoreL (pc := 64) (lv' := (fun y => [(4, y), (0, jR G 127), (1, jI x1), (2, jI x2), (3, jI x3)])) dX12_after_64 (jw_rc _ rfl) (by decide) (fun _ => rfl) (fun v6 hv6 => ?_)
    refine jw_iconst (pc := 66) dX12_after_66 ?_
    refine jw_istoreL (pc := 67) (lv' := (fun y => [(5, y), (4, jI v6), (0, jR G 127), (1, jI x1), (2, jI x2), (3, jI x3)])) dX12_after_67 (jw_rc _ rfl) (by decide) (fun _ => rfl) (fun v7 hv7 => ?_)
    exact jw_few [2, 3, 4, 5, 1, 0] rfl (pX12_after_69 G jw_fu x1 x2 x3 v6 v7 hx1 hx2 hx3 hv6 hv7 M)
def fX12_after_20 (x1 : Int) (x2 : Int) (xs0 : Int) (M : jw_M) : Option (Int × jw_M) :=
  Option.bind (some xs0) (fun v2 => if v2 = 0 then (Option.bind (fX12_isSeller x1 M) (fun v3 => if v3 = 0 then (some ((-9000000000000000001), M)) else (Option.bind (fX12_in x2 0 3 M) (fun v4 => if v4 = 0 then (some ((-9000000000000000001), M)) else (fX12_after_49 x1 x2 v2 M))))) else (fX12_after_49 x1 x2 v2 M))
set_option maxRecDepth 100000 in
theorem pX12_after_20 (G : jw_G) : ∀ (x1 : Int) (x2 : Int) (xs0 : Int) (hx1 : jw_r x1) (hx2 : jw_r x2) (hxs0 : jw_r xs0) (M : jw_M), jw_Rn G YX12_after 3 0 0 true (fun q => q) 20 [(0, jR G 127), (1, jI x1), (2, jI x2)] [jI xs0] M (fX12_after_20 x1 x2 xs0 M) := by
  intro x1 x2 xs0 hx1 hx2 hxs0 M
  unfold fX12_after_20
  refine jw_istore_nL (pc := 20) (lv' := (fun y => [(3, y), (0, jR G 127), (1, jI x1), (2, jI x2)])) dX12_after_20 hxs0 (by decide) (fun _ => rfl) (fun v2 hv2 => ?_)
  refine jw_iload_n (pc := 21) 0 dX12_after_21 rfl ?_
  refine jw_if_ne (pc := 22) 49 dX12_after_22 (by decide) hv2 (fun _ => ?_) (fun _ => ?_)
  · refine jw_aloadR (pc := 25) 1 dX12_after_25 rfl ?_
    refine jw_iload_n (pc := 26) 2 dX12_after_26 rfl ?_
    refine jw_callVz (pc := 27) (As := [jI x1]) (st := []) dX12_after_27 rfl (Nat.le_of_ble_eq_true rfl) qX12_isSeller jt_1487 jt_1489 jp_64 rfl rfl (Nat.le_of_ble_eq_true rfl) jv_12 rfl jg_127 jl_127 (by decide) (jw_ho jg_127 (by decide)) (kX12_isSeller G x1 hx1 M) (fun v3 hv3 => ?_)
    refine jw_if_eq (pc := 30) 45 dX12_after_30 (by decide) (jw_bz hv3) (fun _ => ?_) (fun _ => ?_)
    · refine jw_ldc2 (pc := 45) (n := (-9000000000000000001)) dX12_after_45 jt_1349 (by decide) ?_
      exact jw_ret (pc := 48) (v := (-9000000000000000001)) dX12_after_48 (jw_qc _ rfl) rfl rfl
    · refine jw_iload_n (pc := 33) 3 dX12_after_33 rfl ?_
      refine jw_i2lr (pc := 34) dX12_after_34 hx2 ?_
      refine jw_lconst (pc := 35) (z := 0) dX12_after_35 rfl ?_
      refine jw_ldc2 (pc := 36) (n := 3) dX12_after_36 jt_1546 (by decide) ?_
      refine jw_callSz (pc := 39) (As := [jL x2, jL 0, jL 3]) (st := []) dX12_after_39 rfl (Nat.le_of_ble_eq_true rfl) qX12_in jt_1345 jt_1346 rfl rfl (Nat.le_of_ble_eq_true rfl) (kX12_in G x2 0 3 (jw_rq hx2) (jw_qc _ rfl) (jw_qc _ rfl) M) (fun v4 hv4 => ?_)
      refine jw_if_ne (pc := 42) 49 dX12_after_42 (by decide) (jw_bz hv4) (fun _ => ?_) (fun _ => ?_)
      · refine jw_ldc2 (pc := 45) (n := (-9000000000000000001)) dX12_after_45 jt_1349 (by decide) ?_
        exact jw_ret (pc := 48) (v := (-9000000000000000001)) dX12_after_48 (jw_qc _ rfl) rfl rfl
      · exact jw_few [1, 2, 3, 0] rfl (pX12_after_49 G x1 x2 v2 hx1 hx2 hv2 M)
  · exact jw_few [1, 2, 3, 0] rfl (pX12_after_49 G x1 x2 v2 hx1 hx2 hv2 M)
def fX12_after_19 (x1 : Int) (x2 : Int) (M : jw_M) : Option (Int × jw_M) :=
  fX12_after_20 x1 x2 0 M
set_option maxRecDepth 100000 in
theorem pX12_after_19 (G : jw_G) : ∀ (x1 : Int) (x2 : Int) (hx1 : jw_r x1) (hx2 : jw_r x2) (M : jw_M), jw_Rn G YX12_after 3 0 0 true (fun q => q) 19 [(0, jR G 127), (1, jI x1), (2, jI x2)] [] M (fX12_after_19 x1 x2 M) := by
  intro x1 x2 hx1 hx2 M
  unfold fX12_after_19
  refine jw_iconst (pc := 19) dX12_after_19 ?_
  exact jw_few [0, 1, 2] rfl (pX12_after_20 G x1 x2 0 hx1 hx2 (jw_rc _ rfl) M)
def fX12_after (a1 : Int) (a2 : Int) (M : jw_M) : Option (Int × jw_M) :=
  Option.bind (some (jw_up M 127 0 0)) (fun M1 => if a1 = (-1) then (if a2 = 4 then (fX12_after_20 a1 a2 1 M1) else (fX12_after_19 a1 a2 M1)) else (fX12_after_19 a1 a2 M1))
set_option maxRecDepth 100000 in
theorem rX12_after (G : jw_G) (a1 : Int) (a2 : Int) (ha1 : jw_r a1) (ha2 : jw_r a2) (M : jw_M) : jw_Rn G YX12_after 3 0 0 true (fun q => q) 0 [(0, jR G 127), (1, jI a1), (2, jI a2)] [] M (fX12_after a1 a2 M) := by
  unfold fX12_after
  refine jw_aloadR (pc := 0) 0 dX12_after_0 rfl ?_
  refine jw_iconst (pc := 1) dX12_after_1 ?_
  refine jw_putI (pc := 2) (j := 0) tyX12 rfl dX12_after_2 jv_12 ji_12 tyX12_ok nmX12 (Or.inl jt_1231) rfl jg_127 jl_127 (by decide) (by decide) (jw_ho jg_127 (by decide)) rfl rfl (jw_rc _ rfl) rfl ?_
  refine jw_letM (fun M1 => ?_)
  refine jw_iload_n (pc := 5) 1 dX12_after_5 rfl ?_
  refine jw_iconst (pc := 6) dX12_after_6 ?_
  refine jw_ic_ne (pc := 7) 19 dX12_after_7 (by decide) ha1 (jw_rc _ rfl) (fun _ => ?_) (fun _ => ?_)
  · refine jw_iload_n (pc := 10) 2 dX12_after_10 rfl ?_
    refine jw_iconst (pc := 11) dX12_after_11 ?_
    refine jw_ic_ne (pc := 12) 19 dX12_after_12 (by decide) ha2 (jw_rc _ rfl) (fun _ => ?_) (fun _ => ?_)
    · refine jw_iconst (pc := 15) dX12_after_15 ?_
      refine jw_goto (pc := 16) 20 dX12_after_16 (by decide) ?_
      exact jw_few [0, 1, 2] rfl (pX12_after_20 G a1 a2 1 ha1 ha2 (jw_rc _ rfl) M1)
    · exact jw_few [0, 1, 2] rfl (pX12_after_19 G a1 a2 ha1 ha2 M1)
  · exact jw_few [0, 1, 2] rfl (pX12_after_19 G a1 a2 ha1 ha2 M1)
theorem kX12_after (G : jw_G) (a1 : Int) (a2 : Int) (ha1 : jw_r a1) (ha2 : jw_r a2) (M : jw_M) : jw_Ct G YX12_after (some .long) 3 0 0 true (fun q => q) yX12_after [jR G 127, jI a1, jI a2] M (fX12_after a1 a2 M) := jw_met (by decide) rfl rfl rfl (Nat.le_of_ble_eq_true rfl) (rX12_after G a1 a2 ha1 ha2 M)
abbrev YX12_nothing : jw_Y := (RX12, cX12_nothing, 4, 2, "nothing")
theorem qX12_nothing : jw_cy YX12_nothing (some .long) yX12_nothing 1 := ⟨by decide, jt_1562, jt_14, by decide, by decide +kernel⟩
theorem dX12_nothing_0 : decode cX12_nothing 0 = .ok (.aload_n 0, 1) := by decide +kernel
theorem dX12_nothing_1 : decode cX12_nothing 1 = .ok (.iconst 0, 1) := by decide +kernel
theorem dX12_nothing_2 : decode cX12_nothing 2 = .ok (.putfield 71, 3) := by decide +kernel
theorem dX12_nothing_5 : decode cX12_nothing 5 = .ok (.aload_n 0, 1) := by decide +kernel
theorem dX12_nothing_6 : decode cX12_nothing 6 = .ok (.iload_n 1, 1) := by decide +kernel
theorem dX12_nothing_7 : decode cX12_nothing 7 = .ok (.invokevirtual 237, 3) := by decide +kernel
theorem dX12_nothing_10 : decode cX12_nothing 10 = .ok (.ifCond .ne 7, 3) := by decide +kernel
theorem dX12_nothing_13 : decode cX12_nothing 13 = .ok (.ldc2_w 92, 3) := by decide +kernel
theorem dX12_nothing_16 : decode cX12_nothing 16 = .ok (.lreturn, 1) := by decide +kernel
theorem dX12_nothing_17 : decode cX12_nothing 17 = .ok (.iconst 0, 1) := by decide +kernel
theorem dX12_nothing_18 : decode cX12_nothing 18 = .ok (.istore_n 2, 1) := by decide +kernel
theorem dX12_nothing_19 : decode cX12_nothing 19 = .ok (.iconst 0, 1) := by decide +kernel
theorem dX12_nothing_20 : decode cX12_nothing 20 = .ok (.istore_n 3, 1) := by decide +kernel
theorem dX12_nothing_21 : decode cX12_nothing 21 = .ok (.iload_n 3, 1) := by decide +kernel
theorem dX12_nothing_22 : decode cX12_nothing 22 = .ok (.aload_n 0, 1) := by decide +kernel
theorem dX12_nothing_23 : decode cX12_nothing 23 = .ok (.getfield 19, 3) := by decide +kernel
theorem dX12_nothing_26 : decode cX12_nothing 26 = .ok (.iconst 3, 1) := by decide +kernel
theorem dX12_nothing_27 : decode cX12_nothing 27 = .ok (.iaload, 1) := by decide +kernel
theorem dX12_nothing_28 : decode cX12_nothing 28 = .ok (.if_icmp .ge 60, 3) := by decide +kernel
theorem dX12_nothing_31 : decode cX12_nothing 31 = .ok (.iload_n 2, 1) := by decide +kernel
theorem dX12_nothing_32 : decode cX12_nothing 32 = .ok (.aload_n 0, 1) := by decide +kernel
theorem dX12_nothing_33 : decode cX12_nothing 33 = .ok (.getfield 34, 3) := by decide +kernel
theorem dX12_nothing_36 : decode cX12_nothing 36 = .ok (.bipush 7, 2) := by decide +kernel
theorem dX12_nothing_38 : decode cX12_nothing 38 = .ok (.aload_n 0, 1) := by decide +kernel
theorem dX12_nothing_39 : decode cX12_nothing 39 = .ok (.getfield 25, 3) := by decide +kernel
theorem dX12_nothing_42 : decode cX12_nothing 42 = .ok (.iconst 5, 1) := by decide +kernel
theorem dX12_nothing_43 : decode cX12_nothing 43 = .ok (.iload_n 1, 1) := by decide +kernel
theorem dX12_nothing_44 : decode cX12_nothing 44 = .ok (.iadd, 1) := by decide +kernel
theorem dX12_nothing_45 : decode cX12_nothing 45 = .ok (.iaload, 1) := by decide +kernel
theorem dX12_nothing_46 : decode cX12_nothing 46 = .ok (.imul, 1) := by decide +kernel
theorem dX12_nothing_47 : decode cX12_nothing 47 = .ok (.aload_n 0, 1) := by decide +kernel
theorem dX12_nothing_48 : decode cX12_nothing 48 = .ok (.getfield 25, 3) := by decide +kernel
theorem dX12_nothing_51 : decode cX12_nothing 51 = .ok (.iconst 0, 1) := by decide +kernel
theorem dX12_nothing_52 : decode cX12_nothing 52 = .ok (.iload_n 3, 1) := by decide +kernel
theorem dX12_nothing_53 : decode cX12_nothing 53 = .ok (.iadd, 1) := by decide +kernel
theorem dX12_nothing_54 : decode cX12_nothing 54 = .ok (.iaload, 1) := by decide +kernel
theorem dX12_nothing_55 : decode cX12_nothing 55 = .ok (.iadd, 1) := by decide +kernel
theorem dX12_nothing_56 : decode cX12_nothing 56 = .ok (.iaload, 1) := by decide +kernel
theorem dX12_nothing_57 : decode cX12_nothing 57 = .ok (.ldc 223, 2) := by decide +kernel
theorem dX12_nothing_59 : decode cX12_nothing 59 = .ok (.if_icmp .ge 20, 3) := by decide +kernel
theorem dX12_nothing_62 : decode cX12_nothing 62 = .ok (.aload_n 0, 1) := by decide +kernel
theorem dX12_nothing_63 : decode cX12_nothing 63 = .ok (.iload_n 3, 1) := by decide +kernel
theorem dX12_nothing_64 : decode cX12_nothing 64 = .ok (.iconst 0, 1) := by decide +kernel
theorem dX12_nothing_65 : decode cX12_nothing 65 = .ok (.invokevirtual 234, 3) := by decide +kernel
theorem dX12_nothing_68 : decode cX12_nothing 68 = .ok (.aload_n 0, 1) := by decide +kernel
theorem dX12_nothing_69 : decode cX12_nothing 69 = .ok (.getfield 19, 3) := by decide +kernel
theorem dX12_nothing_72 : decode cX12_nothing 72 = .ok (.bipush 88, 2) := by decide +kernel
theorem dX12_nothing_74 : decode cX12_nothing 74 = .ok (.iaload, 1) := by decide +kernel
theorem dX12_nothing_75 : decode cX12_nothing 75 = .ok (.iadd, 1) := by decide +kernel
theorem dX12_nothing_76 : decode cX12_nothing 76 = .ok (.goto 4, 3) := by decide +kernel
theorem dX12_nothing_79 : decode cX12_nothing 79 = .ok (.iconst 0, 1) := by decide +kernel
theorem dX12_nothing_80 : decode cX12_nothing 80 = .ok (.iadd, 1) := by decide +kernel
theorem dX12_nothing_81 : decode cX12_nothing 81 = .ok (.istore_n 2, 1) := by decide +kernel
theorem dX12_nothing_82 : decode cX12_nothing 82 = .ok (.iinc 3 1, 3) := by decide +kernel
theorem dX12_nothing_85 : decode cX12_nothing 85 = .ok (.goto (-64), 3) := by decide +kernel
theorem dX12_nothing_88 : decode cX12_nothing 88 = .ok (.iload_n 2, 1) := by decide +kernel
theorem dX12_nothing_89 : decode cX12_nothing 89 = .ok (.i2l, 1) := by decide +kernel
theorem dX12_nothing_90 : decode cX12_nothing 90 = .ok (.lreturn, 1) := by decide +kernel
def fX12_nothing_80 (r21 : Int → Int → Int → jw_M → Option (Int × jw_M)) (x1 : Int) (x3 : Int) (xs0 : Int) (xs1 : Int) (M : jw_M) : Option (Int × jw_M) :=
  Option.bind (some (jw_w (xs1 + xs0))) (fun v11 => Option.bind (some (jw_w (x3 + 1))) (fun v12 => r21 x1 v11 v12 M))
set_option maxRecDepth 100000 in
theorem pX12_nothing_80 (G : jw_G) (r21 : Int → Int → Int → jw_M → Option (Int × jw_M)) (hr21 : ∀ (x1 : Int) (x2 : Int) (x3 : Int) (hx1 : jw_r x1) (hx2 : jw_r x2) (hx3 : jw_r x3) (M : jw_M), jw_Rn G YX12_nothing 3 0 0 true (fun q => q) 21 [(0, jR G 127), (1, jI x1), (2, jI x2), (3, jI x3)] [] M (r21 x1 x2 x3 M)) : ∀ (x1 : Int) (x3 : Int) (xs0 : Int) (xs1 : Int) (hx1 : jw_r x1) (hx3 : jw_r x3) (hxs0 : jw_r xs0) (hxs1 : jw_r xs1) (M : jw_M), jw_Rn G YX12_nothing 3 0 0 true (fun q => q) 80 [(0, jR G 127), (1, jI x1), (3, jI x3)] [jI xs0, jI xs1] M (fX12_nothing_80 r21 x1 x3 xs0 xs1 M) := by
  intro x1 x3 xs0 xs1 hx1 hx3 hxs0 hxs1 M
  unfold fX12_nothing_80
  refine jw_iadd (pc := 80) dX12_nothing_80 ?_
  refine jw_istore_nL (pc := 81) (lv' := (fun y => [(2, y), (0, jR G 127), (1, jI x1), (3, jI x3)])) dX12_nothing_81 (jw_wr _) (by decide) (fun _ => rfl) (fun v11 hv11 => ?_)
  refine jw_iincL (pc := 82) 3 (lv' := (fun y => [(3, y), (2, jI v11), (0, jR G 127), (1, jI x1)])) dX12_nothing_82 rfl (Nat.le_of_ble_eq_true rfl) (fun _ => rfl) (fun v12 hv12 => ?_)
  refine jw_goto (pc := 85) 21 dX12_nothing_85 (by decide) ?_
  exact jw_few [2, 3, 1, 0] rfl (hr21 x1 v11 v12 hx1 hv11 hv12 M)
def fX12_nothing_21 : Nat → Int → Int → Int → jw_M → Option (Int × jw_M)
  | 0, _, _, _, _ => none
  | k + 1, x1, x2, x3, M => if 0 ≤ (3 : Int) ∧ (3 : Int) < 104 then if x3 < M 131 3 then (if 0 ≤ jw_w (5 + x1) ∧ jw_w (5 + x1) < 104 then if 0 ≤ jw_w (0 + x3) ∧ jw_w (0 + x3) < 104 then if 0 ≤ jw_w ((jw_w (7 * (M 133 (jw_w (5 + x1))))) + (M 133 (jw_w (0 + x3)))) ∧ jw_w ((jw_w (7 * (M 133 (jw_w (5 + x1))))) + (M 133 (jw_w (0 + x3)))) < 49 then if M 136 (jw_w ((jw_w (7 * (M 133 (jw_w (5 + x1))))) + (M 133 (jw_w (0 + x3))))) < 1000000 then (Option.bind (fX12_goodsOf x3 0 M) (fun v9 => if 0 ≤ (88 : Int) ∧ (88 : Int) < 104 then fX12_nothing_80 (fX12_nothing_21 k) x1 x3 (jw_w (v9 + (M 131 88))) x2 M else none)) else (fX12_nothing_80 (fX12_nothing_21 k) x1 x3 0 x2 M) else none else none else none) else (some (x2, M)) else none
set_option maxRecDepth 100000 in
theorem pX12_nothing_21 (G : jw_G) : ∀ (k : Nat) (x1 : Int) (x2 : Int) (x3 : Int) (hx1 : jw_r x1) (hx2 : jw_r x2) (hx3 : jw_r x3) (M : jw_M), jw_Rn G YX12_nothing 3 0 0 true (fun q => q) 21 [(0, jR G 127), (1, jI x1), (2, jI x2), (3, jI x3)] [] M (fX12_nothing_21 k x1 x2 x3 M) := by
  intro k
  induction k with
  | zero =>
    intro x1 x2 x3 hx1 hx2 hx3 M
    exact jw_none
  | succ k ih =>
    intro x1 x2 x3 hx1 hx2 hx3 M
    rw [fX12_nothing_21]
    refine jw_iload_n (pc := 21) 3 dX12_nothing_21 rfl ?_
    refine jw_aloadR (pc := 22) 0 dX12_nothing_22 rfl ?_
    refine jw_getR (pc := 23) (j := 5) rfl dX12_nothing_23 jv_12 ji_12 (Or.inl jt_1236) jg_127 jl_127 (by decide) (by decide) rfl jf_12_5 ?_
    refine jw_iconst (pc := 26) dX12_nothing_26 ?_
    refine jw_iald (pc := 27) dX12_nothing_27 jg_131 jl_131 (jw_ho jg_131 (by decide)) (jw_rc _ rfl) rfl (fun h5 => ?_)
    refine jw_ic_ge (pc := 28) 88 dX12_nothing_28 (by decide) hx3 h5 (fun _ => ?_) (fun _ => ?_)
    · refine jw_iload_n (pc := 31) 2 dX12_nothing_31 rfl ?_
      refine jw_aloadR (pc := 32) 0 dX12_nothing_32 rfl ?_
      refine jw_getR (pc := 33) (j := 20) rfl dX12_nothing_33 jv_12 ji_12 (Or.inl jt_1251) jg_127 jl_127 (by decide) (by decide) rfl jf_12_20 ?_
      refine jw_bipush (pc := 36) dX12_nothing_36 rfl ?_
      refine jw_aloadR (pc := 38) 0 dX12_nothing_38 rfl ?_
      refine jw_getR (pc := 39) (j := 8) rfl dX12_nothing_39 jv_12 ji_12 (Or.inl jt_1239) jg_127 jl_127 (by decide) (by decide) rfl jf_12_8 ?_
      refine jw_iconst (pc := 42) dX12_nothing_42 ?_
      refine jw_iload_n (pc := 43) 1 dX12_nothing_43 rfl ?_
      refine jw_iadd (pc := 44) dX12_nothing_44 ?_
      refine jw_iald (pc := 45) dX12_nothing_45 jg_133 jl_133 (jw_ho jg_133 (by decide)) (jw_wr _) rfl (fun h6 => ?_)
      refine jw_imul (pc := 46) dX12_nothing_46 ?_
      refine jw_aloadR (pc := 47) 0 dX12_nothing_47 rfl ?_
      refine jw_getR (pc := 48) (j := 8) rfl dX12_nothing_48 jv_12 ji_12 (Or.inl jt_1239) jg_127 jl_127 (by decide) (by decide) rfl jf_12_8 ?_
      refine jw_iconst (pc := 51) dX12_nothing_51 ?_
      refine jw_iload_n (pc := 52) 3 dX12_nothing_52 rfl ?_
      refine jw_iadd (pc := 53) dX12_nothing_53 ?_
      refine jw_iald (pc := 54) dX12_nothing_54 jg_133 jl_133 (jw_ho jg_133 (by decide)) (jw_wr _) rfl (fun h7 => ?_)
      refine jw_iadd (pc := 55) dX12_nothing_55 ?_
      refine jw_iald (pc := 56) dX12_nothing_56 jg_136 jl_136 (jw_ho jg_136 (by decide)) (jw_wr _) rfl (fun h8 => ?_)
      refine jw_ldc (pc := 57) (n := 1000000) dX12_nothing_57 jt_1469 (by decide) ?_
      refine jw_ic_ge (pc := 59) 79 dX12_nothing_59 (by decide) h8 (jw_rc _ rfl) (fun _ => ?_) (fun _ => ?_)
      · refine jw_aloadR (pc := 62) 0 dX12_nothing_62 rfl ?_
        refine jw_iload_n (pc := 63) 3 dX12_nothing_63 rfl ?_
        refine jw_iconst (pc := 64) dX12_nothing_64 ?_
        refine jw_callVi (pc := 65) (As := [jI x3, jI 0]) (st := [jI x2]) dX12_nothing_65 rfl (Nat.le_of_ble_eq_true rfl) qX12_goodsOf jt_1496 jt_1498 jp_65 rfl rfl (Nat.le_of_ble_eq_true rfl) jv_12 rfl jg_127 jl_127 (by decide) (jw_ho jg_127 (by decide)) (kX12_goodsOf G x3 0 hx3 (jw_rc _ rfl) M) (fun v9 hv9 => ?_)
        refine jw_aloadR (pc := 68) 0 dX12_nothing_68 rfl ?_
        refine jw_getR (pc := 69) (j := 5) rfl dX12_nothing_69 jv_12 ji_12 (Or.inl jt_1236) jg_127 jl_127 (by decide) (by decide) rfl jf_12_5 ?_
        refine jw_bipush (pc := 72) dX12_nothing_72 rfl ?_
        refine jw_iald (pc := 74) dX12_nothing_74 jg_131 jl_131 (jw_ho jg_131 (by decide)) (jw_rc _ rfl) rfl (fun h10 => ?_)
        refine jw_iadd (pc := 75) dX12_nothing_75 ?_
        refine jw_goto (pc := 76) 80 dX12_nothing_76 (by decide) ?_
        exact jw_few [0, 1, 3] rfl (pX12_nothing_80 G (fX12_nothing_21 k) ih x1 x3 (jw_w (v9 + (M 131 88))) x2 hx1 hx3 (jw_wr _) hx2 M)
      · refine jw_iconst (pc := 79) dX12_nothing_79 ?_
        exact jw_few [0, 1, 3] rfl (pX12_nothing_80 G (fX12_nothing_21 k) ih x1 x3 0 x2 hx1 hx3 (jw_rc _ rfl) hx2 M)
    · refine jw_iload_n (pc := 88) 2 dX12_nothing_88 rfl ?_
      refine jw_i2lr (pc := 89) dX12_nothing_89 hx2 ?_
      exact jw_ret (pc := 90) (v := x2) dX12_nothing_90 (jw_rq hx2) rfl rfl
def fX12_nothing (a1 : Int) (M : jw_M) : Option (Int × jw_M) :=
  Option.bind (some (jw_up M 127 0 0)) (fun M1 => Option.bind (fX12_isWatcher a1 M1) (fun v2 => if v2 = 0 then (some ((-9000000000000000001), M1)) else (Option.bind (some 0) (fun v3 => Option.bind (some 0) (fun v4 => fX12_nothing_21 jw_fu a1 v3 v4 M1)))))
set_option maxRecDepth 100000 in
theorem rX12_nothing (G : jw_G) (a1 : Int) (ha1 : jw_r a1) (M : jw_M) : jw_Rn G YX12_nothing 3 0 0 true (fun q => q) 0 [(0, jR G 127), (1, jI a1)] [] M (fX12_nothing a1 M) := by
  unfold fX12_nothing
  refine jw_aloadR (pc := 0) 0 dX12_nothing_0 rfl ?_
  refine jw_iconst (pc := 1) dX12_nothing_1 ?_
  refine jw_putI (pc := 2) (j := 0) tyX12 rfl dX12_nothing_2 jv_12 ji_12 tyX12_ok nmX12 (Or.inl jt_1231) rfl jg_127 jl_127 (by decide) (by decide) (jw_ho jg_127 (by decide)) rfl rfl (jw_rc _ rfl) rfl ?_
  refine jw_letM (fun M1 => ?_)
  refine jw_aloadR (pc := 5) 0 dX12_nothing_5 rfl ?_
  refine jw_iload_n (pc := 6) 1 dX12_nothing_6 rfl ?_
  refine jw_callVz (pc := 7) (As := [jI a1]) (st := []) dX12_nothing_7 rfl (Nat.le_of_ble_eq_true rfl) qX12_isWatcher jt_1504 jt_1506 jp_66 rfl rfl (Nat.le_of_ble_eq_true rfl) jv_12 rfl jg_127 jl_127 (by decide) (jw_ho jg_127 (by decide)) (kX12_isWatcher G a1 ha1 M1) (fun v2 hv2 => ?_)
  refine jw_if_ne (pc := 10) 17 dX12_nothing_10 (by decide) (jw_bz hv2) (fun _ => ?_) (fun _ => ?_)
  · refine jw_ldc2 (pc := 13) (n := (-9000000000000000001)) dX12_nothing_13 jt_1349 (by decide) ?_
    exact jw_ret (pc := 16) (v := (-9000000000000000001)) dX12_nothing_16 (jw_qc _ rfl) rfl rfl
  · refine jw_iconst (pc := 17) dX12_nothing_17 ?_
    refine jw_istore_nL (pc := 18) (lv' := (fun y => [(2, y), (0, jR G 127), (1, jI a1)])) dX12_nothing_18 (jw_rc _ rfl) (by decide) (fun _ => rfl) (fun v3 hv3 => ?_)
    refine jw_iconst (pc := 19) dX12_nothing_19 ?_
    refine jw_istore_nL (pc := 20) (lv' := (fun y => [(3, y), (2, jI v3), (0, jR G 127), (1, jI a1)])) dX12_nothing_20 (jw_rc _ rfl) (by decide) (fun _ => rfl) (fun v4 hv4 => ?_)
    exact jw_few [2, 3, 1, 0] rfl (pX12_nothing_21 G jw_fu a1 v3 v4 ha1 hv3 hv4 M1)
theorem kX12_nothing (G : jw_G) (a1 : Int) (ha1 : jw_r a1) (M : jw_M) : jw_Ct G YX12_nothing (some .long) 3 0 0 true (fun q => q) yX12_nothing [jR G 127, jI a1] M (fX12_nothing a1 M) := jw_met (by decide) rfl rfl rfl (Nat.le_of_ble_eq_true rfl) (rX12_nothing G a1 ha1 M)
abbrev YX12_keep : jw_Y := (RX12, cX12_keep, 2, 2, "keep")
theorem qX12_keep : jw_cy YX12_keep (some .long) yX12_keep 0 := ⟨by decide, jt_1566, jt_14, by decide, by decide +kernel⟩
theorem dX12_keep_0 : decode cX12_keep 0 = .ok (.aload_n 0, 1) := by decide +kernel
theorem dX12_keep_1 : decode cX12_keep 1 = .ok (.iconst 0, 1) := by decide +kernel
theorem dX12_keep_2 : decode cX12_keep 2 = .ok (.putfield 71, 3) := by decide +kernel
theorem dX12_keep_5 : decode cX12_keep 5 = .ok (.aload_n 0, 1) := by decide +kernel
theorem dX12_keep_6 : decode cX12_keep 6 = .ok (.getfield 25, 3) := by decide +kernel
theorem dX12_keep_9 : decode cX12_keep 9 = .ok (.bipush 42, 2) := by decide +kernel
theorem dX12_keep_11 : decode cX12_keep 11 = .ok (.iaload, 1) := by decide +kernel
theorem dX12_keep_12 : decode cX12_keep 12 = .ok (.iconst 1, 1) := by decide +kernel
theorem dX12_keep_13 : decode cX12_keep 13 = .ok (.if_icmp .eq 7, 3) := by decide +kernel
theorem dX12_keep_16 : decode cX12_keep 16 = .ok (.ldc2_w 252, 3) := by decide +kernel
theorem dX12_keep_19 : decode cX12_keep 19 = .ok (.lreturn, 1) := by decide +kernel
theorem dX12_keep_20 : decode cX12_keep 20 = .ok (.aload_n 0, 1) := by decide +kernel
theorem dX12_keep_21 : decode cX12_keep 21 = .ok (.getfield 25, 3) := by decide +kernel
theorem dX12_keep_24 : decode cX12_keep 24 = .ok (.bipush 9, 2) := by decide +kernel
theorem dX12_keep_26 : decode cX12_keep 26 = .ok (.iaload, 1) := by decide +kernel
theorem dX12_keep_27 : decode cX12_keep 27 = .ok (.bipush 12, 2) := by decide +kernel
theorem dX12_keep_29 : decode cX12_keep 29 = .ok (.if_icmp .ne 7, 3) := by decide +kernel
theorem dX12_keep_32 : decode cX12_keep 32 = .ok (.ldc2_w 103, 3) := by decide +kernel
theorem dX12_keep_35 : decode cX12_keep 35 = .ok (.lreturn, 1) := by decide +kernel
theorem dX12_keep_36 : decode cX12_keep 36 = .ok (.aload_n 0, 1) := by decide +kernel
theorem dX12_keep_37 : decode cX12_keep 37 = .ok (.getfield 25, 3) := by decide +kernel
theorem dX12_keep_40 : decode cX12_keep 40 = .ok (.bipush 10, 2) := by decide +kernel
theorem dX12_keep_42 : decode cX12_keep 42 = .ok (.aload_n 0, 1) := by decide +kernel
theorem dX12_keep_43 : decode cX12_keep 43 = .ok (.getfield 25, 3) := by decide +kernel
theorem dX12_keep_46 : decode cX12_keep 46 = .ok (.bipush 9, 2) := by decide +kernel
theorem dX12_keep_48 : decode cX12_keep 48 = .ok (.iaload, 1) := by decide +kernel
theorem dX12_keep_49 : decode cX12_keep 49 = .ok (.iadd, 1) := by decide +kernel
theorem dX12_keep_50 : decode cX12_keep 50 = .ok (.aload_n 0, 1) := by decide +kernel
theorem dX12_keep_51 : decode cX12_keep 51 = .ok (.getfield 25, 3) := by decide +kernel
theorem dX12_keep_54 : decode cX12_keep 54 = .ok (.bipush 58, 2) := by decide +kernel
theorem dX12_keep_56 : decode cX12_keep 56 = .ok (.iaload, 1) := by decide +kernel
theorem dX12_keep_57 : decode cX12_keep 57 = .ok (.iastore, 1) := by decide +kernel
theorem dX12_keep_58 : decode cX12_keep 58 = .ok (.aload_n 0, 1) := by decide +kernel
theorem dX12_keep_59 : decode cX12_keep 59 = .ok (.getfield 25, 3) := by decide +kernel
theorem dX12_keep_62 : decode cX12_keep 62 = .ok (.bipush 9, 2) := by decide +kernel
theorem dX12_keep_64 : decode cX12_keep 64 = .ok (.dup2, 1) := by decide +kernel
theorem dX12_keep_65 : decode cX12_keep 65 = .ok (.iaload, 1) := by decide +kernel
theorem dX12_keep_66 : decode cX12_keep 66 = .ok (.iconst 1, 1) := by decide +kernel
theorem dX12_keep_67 : decode cX12_keep 67 = .ok (.iadd, 1) := by decide +kernel
theorem dX12_keep_68 : decode cX12_keep 68 = .ok (.iastore, 1) := by decide +kernel
theorem dX12_keep_69 : decode cX12_keep 69 = .ok (.iconst 0, 1) := by decide +kernel
theorem dX12_keep_70 : decode cX12_keep 70 = .ok (.istore_n 1, 1) := by decide +kernel
theorem dX12_keep_71 : decode cX12_keep 71 = .ok (.iload_n 1, 1) := by decide +kernel
theorem dX12_keep_72 : decode cX12_keep 72 = .ok (.bipush 20, 2) := by decide +kernel
theorem dX12_keep_74 : decode cX12_keep 74 = .ok (.if_icmp .ge 30, 3) := by decide +kernel
theorem dX12_keep_77 : decode cX12_keep 77 = .ok (.aload_n 0, 1) := by decide +kernel
theorem dX12_keep_78 : decode cX12_keep 78 = .ok (.getfield 25, 3) := by decide +kernel
theorem dX12_keep_81 : decode cX12_keep 81 = .ok (.bipush 22, 2) := by decide +kernel
theorem dX12_keep_83 : decode cX12_keep 83 = .ok (.iload_n 1, 1) := by decide +kernel
theorem dX12_keep_84 : decode cX12_keep 84 = .ok (.iadd, 1) := by decide +kernel
theorem dX12_keep_85 : decode cX12_keep 85 = .ok (.dup2, 1) := by decide +kernel
theorem dX12_keep_86 : decode cX12_keep 86 = .ok (.iaload, 1) := by decide +kernel
theorem dX12_keep_87 : decode cX12_keep 87 = .ok (.aload_n 0, 1) := by decide +kernel
theorem dX12_keep_88 : decode cX12_keep 88 = .ok (.getfield 25, 3) := by decide +kernel
theorem dX12_keep_91 : decode cX12_keep 91 = .ok (.bipush 59, 2) := by decide +kernel
theorem dX12_keep_93 : decode cX12_keep 93 = .ok (.iload_n 1, 1) := by decide +kernel
theorem dX12_keep_94 : decode cX12_keep 94 = .ok (.iadd, 1) := by decide +kernel
theorem dX12_keep_95 : decode cX12_keep 95 = .ok (.iaload, 1) := by decide +kernel
theorem dX12_keep_96 : decode cX12_keep 96 = .ok (.iadd, 1) := by decide +kernel
theorem dX12_keep_97 : decode cX12_keep 97 = .ok (.iastore, 1) := by decide +kernel
theorem dX12_keep_98 : decode cX12_keep 98 = .ok (.iinc 1 1, 3) := by decide +kernel
theorem dX12_keep_101 : decode cX12_keep 101 = .ok (.goto (-30), 3) := by decide +kernel
theorem dX12_keep_104 : decode cX12_keep 104 = .ok (.aload_n 0, 1) := by decide +kernel
theorem dX12_keep_105 : decode cX12_keep 105 = .ok (.getfield 25, 3) := by decide +kernel
theorem dX12_keep_108 : decode cX12_keep 108 = .ok (.bipush 42, 2) := by decide +kernel
theorem dX12_keep_110 : decode cX12_keep 110 = .ok (.iconst 3, 1) := by decide +kernel
theorem dX12_keep_111 : decode cX12_keep 111 = .ok (.iastore, 1) := by decide +kernel
theorem dX12_keep_112 : decode cX12_keep 112 = .ok (.aload_n 0, 1) := by decide +kernel
theorem dX12_keep_113 : decode cX12_keep 113 = .ok (.getfield 25, 3) := by decide +kernel
theorem dX12_keep_116 : decode cX12_keep 116 = .ok (.bipush 9, 2) := by decide +kernel
theorem dX12_keep_118 : decode cX12_keep 118 = .ok (.iaload, 1) := by decide +kernel
theorem dX12_keep_119 : decode cX12_keep 119 = .ok (.i2l, 1) := by decide +kernel
theorem dX12_keep_120 : decode cX12_keep 120 = .ok (.lreturn, 1) := by decide +kernel
def fX12_keep_71 : Nat → Int → jw_M → Option (Int × jw_M)
  | 0, _, _ => none
  | k + 1, x1, M => if x1 < 20 then (if 0 ≤ jw_w (22 + x1) ∧ jw_w (22 + x1) < 104 then if 0 ≤ jw_w (59 + x1) ∧ jw_w (59 + x1) < 104 then if 0 ≤ jw_w (22 + x1) ∧ jw_w (22 + x1) < 104 then Option.bind (some (jw_up M 133 (jw_w (22 + x1)) (jw_w ((M 133 (jw_w (22 + x1))) + (M 133 (jw_w (59 + x1))))))) (fun M12 => Option.bind (some (jw_w (x1 + 1))) (fun v13 => fX12_keep_71 k v13 M12)) else none else none else none) else (if 0 ≤ (42 : Int) ∧ (42 : Int) < 104 then Option.bind (some (jw_up M 133 42 3)) (fun M14 => if 0 ≤ (9 : Int) ∧ (9 : Int) < 104 then some (M14 133 9, M14) else none) else none)
set_option maxRecDepth 100000 in
theorem pX12_keep_71 (G : jw_G) : ∀ (k : Nat) (x1 : Int) (hx1 : jw_r x1) (M : jw_M), jw_Rn G YX12_keep 1 0 0 true (fun q => q) 71 [(0, jR G 127), (1, jI x1)] [] M (fX12_keep_71 k x1 M) := by
  intro k
  induction k with
  | zero =>
    intro x1 hx1 M
    exact jw_none
  | succ k ih =>
    intro x1 hx1 M
    rw [fX12_keep_71]
    refine jw_iload_n (pc := 71) 1 dX12_keep_71 rfl ?_
    refine jw_bipush (pc := 72) dX12_keep_72 rfl ?_
    refine jw_ic_ge (pc := 74) 104 dX12_keep_74 (by decide) hx1 (jw_rc _ rfl) (fun _ => ?_) (fun _ => ?_)
    · refine jw_aloadR (pc := 77) 0 dX12_keep_77 rfl ?_
      refine jw_getR (pc := 78) (j := 8) rfl dX12_keep_78 jv_12 ji_12 (Or.inl jt_1239) jg_127 jl_127 (by decide) (by decide) rfl jf_12_8 ?_
      refine jw_bipush (pc := 81) dX12_keep_81 rfl ?_
      refine jw_iload_n (pc := 83) 1 dX12_keep_83 rfl ?_
      refine jw_iadd (pc := 84) dX12_keep_84 ?_
      refine jw_dup2 (pc := 85) dX12_keep_85 rfl rfl ?_
      refine jw_iald (pc := 86) dX12_keep_86 jg_133 jl_133 (jw_ho jg_133 (by decide)) (jw_wr _) rfl (fun h10 => ?_)
      refine jw_aloadR (pc := 87) 0 dX12_keep_87 rfl ?_
      refine jw_getR (pc := 88) (j := 8) rfl dX12_keep_88 jv_12 ji_12 (Or.inl jt_1239) jg_127 jl_127 (by decide) (by decide) rfl jf_12_8 ?_
      refine jw_bipush (pc := 91) dX12_keep_91 rfl ?_
      refine jw_iload_n (pc := 93) 1 dX12_keep_93 rfl ?_
      refine jw_iadd (pc := 94) dX12_keep_94 ?_
      refine jw_iald (pc := 95) dX12_keep_95 jg_133 jl_133 (jw_ho jg_133 (by decide)) (jw_wr _) rfl (fun h11 => ?_)
      refine jw_iadd (pc := 96) dX12_keep_96 ?_
      refine jw_iast (pc := 97) dX12_keep_97 jg_133 jl_133 (jw_ho jg_133 (by decide)) (jw_wr _) (jw_wr _) rfl ?_
      refine jw_letM (fun M12 => ?_)
      refine jw_iincL (pc := 98) 1 (lv' := (fun y => [(1, y), (0, jR G 127)])) dX12_keep_98 rfl (Nat.le_of_ble_eq_true rfl) (fun _ => rfl) (fun v13 hv13 => ?_)
      refine jw_goto (pc := 101) 71 dX12_keep_101 (by decide) ?_
      exact jw_few [1, 0] rfl (ih v13 hv13 M12)
    · refine jw_aloadR (pc := 104) 0 dX12_keep_104 rfl ?_
      refine jw_getR (pc := 105) (j := 8) rfl dX12_keep_105 jv_12 ji_12 (Or.inl jt_1239) jg_127 jl_127 (by decide) (by decide) rfl jf_12_8 ?_
      refine jw_bipush (pc := 108) dX12_keep_108 rfl ?_
      refine jw_iconst (pc := 110) dX12_keep_110 ?_
      refine jw_iast (pc := 111) dX12_keep_111 jg_133 jl_133 (jw_ho jg_133 (by decide)) (jw_rc _ rfl) (jw_rc _ rfl) rfl ?_
      refine jw_letM (fun M14 => ?_)
      refine jw_aloadR (pc := 112) 0 dX12_keep_112 rfl ?_
      refine jw_getR (pc := 113) (j := 8) rfl dX12_keep_113 jv_12 ji_12 (Or.inl jt_1239) jg_127 jl_127 (by decide) (by decide) rfl jf_12_8 ?_
      refine jw_bipush (pc := 116) dX12_keep_116 rfl ?_
      refine jw_iald (pc := 118) dX12_keep_118 jg_133 jl_133 (jw_ho jg_133 (by decide)) (jw_rc _ rfl) rfl (fun h15 => ?_)
      refine jw_i2lr (pc := 119) dX12_keep_119 h15 ?_
      exact jw_ret (pc := 120) (v := M14 133 9) dX12_keep_120 (jw_rq h15) rfl rfl
def fX12_keep (M : jw_M) : Option (Int × jw_M) :=
  Option.bind (some (jw_up M 127 0 0)) (fun M1 => if 0 ≤ (42 : Int) ∧ (42 : Int) < 104 then if M1 133 42 = 1 then (if 0 ≤ (9 : Int) ∧ (9 : Int) < 104 then if M1 133 9 = 12 then (some ((-9000000000000000003), M1)) else (if 0 ≤ (9 : Int) ∧ (9 : Int) < 104 then if 0 ≤ (58 : Int) ∧ (58 : Int) < 104 then if 0 ≤ jw_w (10 + (M1 133 9)) ∧ jw_w (10 + (M1 133 9)) < 104 then Option.bind (some (jw_up M1 133 (jw_w (10 + (M1 133 9))) (M1 133 58))) (fun M6 => if 0 ≤ (9 : Int) ∧ (9 : Int) < 104 then if 0 ≤ (9 : Int) ∧ (9 : Int) < 104 then Option.bind (some (jw_up M6 133 9 (jw_w ((M6 133 9) + 1)))) (fun M8 => Option.bind (some 0) (fun v9 => fX12_keep_71 jw_fu v9 M8)) else none else none) else none else none else none) else none) else (some ((-9000000000000000002), M1)) else none)
set_option maxRecDepth 100000 in
theorem rX12_keep (G : jw_G) (M : jw_M) : jw_Rn G YX12_keep 1 0 0 true (fun q => q) 0 [(0, jR G 127)] [] M (fX12_keep M) := by
  unfold fX12_keep
  refine jw_aloadR (pc := 0) 0 dX12_keep_0 rfl ?_
  refine jw_iconst (pc := 1) dX12_keep_1 ?_
  refine jw_putI (pc := 2) (j := 0) tyX12 rfl dX12_keep_2 jv_12 ji_12 tyX12_ok nmX12 (Or.inl jt_1231) rfl jg_127 jl_127 (by decide) (by decide) (jw_ho jg_127 (by decide)) rfl rfl (jw_rc _ rfl) rfl ?_
  refine jw_letM (fun M1 => ?_)
  refine jw_aloadR (pc := 5) 0 dX12_keep_5 rfl ?_
  refine jw_getR (pc := 6) (j := 8) rfl dX12_keep_6 jv_12 ji_12 (Or.inl jt_1239) jg_127 jl_127 (by decide) (by decide) rfl jf_12_8 ?_
  refine jw_bipush (pc := 9) dX12_keep_9 rfl ?_
  refine jw_iald (pc := 11) dX12_keep_11 jg_133 jl_133 (jw_ho jg_133 (by decide)) (jw_rc _ rfl) rfl (fun h2 => ?_)
  refine jw_iconst (pc := 12) dX12_keep_12 ?_
  refine jw_ic_eq (pc := 13) 20 dX12_keep_13 (by decide) h2 (jw_rc _ rfl) (fun _ => ?_) (fun _ => ?_)
  · refine jw_aloadR (pc := 20) 0 dX12_keep_20 rfl ?_
    refine jw_getR (pc := 21) (j := 8) rfl dX12_keep_21 jv_12 ji_12 (Or.inl jt_1239) jg_127 jl_127 (by decide) (by decide) rfl jf_12_8 ?_
    refine jw_bipush (pc := 24) dX12_keep_24 rfl ?_
    refine jw_iald (pc := 26) dX12_keep_26 jg_133 jl_133 (jw_ho jg_133 (by decide)) (jw_rc _ rfl) rfl (fun h3 => ?_)
    refine jw_bipush (pc := 27) dX12_keep_27 rfl ?_
    refine jw_ic_ne (pc := 29) 36 dX12_keep_29 (by decide) h3 (jw_rc _ rfl) (fun _ => ?_) (fun _ => ?_)
    · refine jw_ldc2 (pc := 32) (n := (-9000000000000000003)) dX12_keep_32 jt_1372 (by decide) ?_
      exact jw_ret (pc := 35) (v := (-9000000000000000003)) dX12_keep_35 (jw_qc _ rfl) rfl rfl
    · refine jw_aloadR (pc := 36) 0 dX12_keep_36 rfl ?_
      refine jw_getR (pc := 37) (j := 8) rfl dX12_keep_37 jv_12 ji_12 (Or.inl jt_1239) jg_127 jl_127 (by decide) (by decide) rfl jf_12_8 ?_
      refine jw_bipush (pc := 40) dX12_keep_40 rfl ?_
      refine jw_aloadR (pc := 42) 0 dX12_keep_42 rfl ?_
      refine jw_getR (pc := 43) (j := 8) rfl dX12_keep_43 jv_12 ji_12 (Or.inl jt_1239) jg_127 jl_127 (by decide) (by decide) rfl jf_12_8 ?_
      refine jw_bipush (pc := 46) dX12_keep_46 rfl ?_
      refine jw_iald (pc := 48) dX12_keep_48 jg_133 jl_133 (jw_ho jg_133 (by decide)) (jw_rc _ rfl) rfl (fun h4 => ?_)
      refine jw_iadd (pc := 49) dX12_keep_49 ?_
      refine jw_aloadR (pc := 50) 0 dX12_keep_50 rfl ?_
      refine jw_getR (pc := 51) (j := 8) rfl dX12_keep_51 jv_12 ji_12 (Or.inl jt_1239) jg_127 jl_127 (by decide) (by decide) rfl jf_12_8 ?_
      refine jw_bipush (pc := 54) dX12_keep_54 rfl ?_
      refine jw_iald (pc := 56) dX12_keep_56 jg_133 jl_133 (jw_ho jg_133 (by decide)) (jw_rc _ rfl) rfl (fun h5 => ?_)
      refine jw_iast (pc := 57) dX12_keep_57 jg_133 jl_133 (jw_ho jg_133 (by decide)) (jw_wr _) h5 rfl ?_
      refine jw_letM (fun M6 => ?_)
      refine jw_aloadR (pc := 58) 0 dX12_keep_58 rfl ?_
      refine jw_getR (pc := 59) (j := 8) rfl dX12_keep_59 jv_12 ji_12 (Or.inl jt_1239) jg_127 jl_127 (by decide) (by decide) rfl jf_12_8 ?_
      refine jw_bipush (pc := 62) dX12_keep_62 rfl ?_
      refine jw_dup2 (pc := 64) dX12_keep_64 rfl rfl ?_
      refine jw_iald (pc := 65) dX12_keep_65 jg_133 jl_133 (jw_ho jg_133 (by decide)) (jw_rc _ rfl) rfl (fun h7 => ?_)
      refine jw_iconst (pc := 66) dX12_keep_66 ?_
      refine jw_iadd (pc := 67) dX12_keep_67 ?_
      refine jw_iast (pc := 68) dX12_keep_68 jg_133 jl_133 (jw_ho jg_133 (by decide)) (jw_rc _ rfl) (jw_wr _) rfl ?_
      refine jw_letM (fun M8 => ?_)
      refine jw_iconst (pc := 69) dX12_keep_69 ?_
      refine jw_istore_nL (pc := 70) (lv' := (fun y => [(1, y), (0, jR G 127)])) dX12_keep_70 (jw_rc _ rfl) (by decide) (fun _ => rfl) (fun v9 hv9 => ?_)
      exact jw_few [1, 0] rfl (pX12_keep_71 G jw_fu v9 hv9 M8)
  · refine jw_ldc2 (pc := 16) (n := (-9000000000000000002)) dX12_keep_16 jt_1513 (by decide) ?_
    exact jw_ret (pc := 19) (v := (-9000000000000000002)) dX12_keep_19 (jw_qc _ rfl) rfl rfl
theorem kX12_keep (G : jw_G) (M : jw_M) : jw_Ct G YX12_keep (some .long) 1 0 0 true (fun q => q) yX12_keep [jR G 127] M (fX12_keep M) := jw_met (by decide) rfl rfl rfl (Nat.le_of_ble_eq_true rfl) (rX12_keep G M)
abbrev YX12_timesAt : jw_Y := (RX12, cX12_timesAt, 4, 1, "timesAt")
theorem qX12_timesAt : jw_cy YX12_timesAt (some .int) yX12_timesAt 1 := ⟨by decide, jt_1574, jt_14, by decide, by decide +kernel⟩
theorem dX12_timesAt_0 : decode cX12_timesAt 0 = .ok (.iconst 0, 1) := by decide +kernel
theorem dX12_timesAt_1 : decode cX12_timesAt 1 = .ok (.istore_n 2, 1) := by decide +kernel
theorem dX12_timesAt_2 : decode cX12_timesAt 2 = .ok (.iconst 0, 1) := by decide +kernel
theorem dX12_timesAt_3 : decode cX12_timesAt 3 = .ok (.istore_n 3, 1) := by decide +kernel
theorem dX12_timesAt_4 : decode cX12_timesAt 4 = .ok (.iload_n 3, 1) := by decide +kernel
theorem dX12_timesAt_5 : decode cX12_timesAt 5 = .ok (.aload_n 0, 1) := by decide +kernel
theorem dX12_timesAt_6 : decode cX12_timesAt 6 = .ok (.getfield 25, 3) := by decide +kernel
theorem dX12_timesAt_9 : decode cX12_timesAt 9 = .ok (.bipush 9, 2) := by decide +kernel
theorem dX12_timesAt_11 : decode cX12_timesAt 11 = .ok (.iaload, 1) := by decide +kernel
theorem dX12_timesAt_12 : decode cX12_timesAt 12 = .ok (.if_icmp .ge 25, 3) := by decide +kernel
theorem dX12_timesAt_15 : decode cX12_timesAt 15 = .ok (.iload_n 2, 1) := by decide +kernel
theorem dX12_timesAt_16 : decode cX12_timesAt 16 = .ok (.aload_n 0, 1) := by decide +kernel
theorem dX12_timesAt_17 : decode cX12_timesAt 17 = .ok (.getfield 25, 3) := by decide +kernel
theorem dX12_timesAt_20 : decode cX12_timesAt 20 = .ok (.bipush 10, 2) := by decide +kernel
theorem dX12_timesAt_22 : decode cX12_timesAt 22 = .ok (.iload_n 3, 1) := by decide +kernel
theorem dX12_timesAt_23 : decode cX12_timesAt 23 = .ok (.iadd, 1) := by decide +kernel
theorem dX12_timesAt_24 : decode cX12_timesAt 24 = .ok (.iaload, 1) := by decide +kernel
theorem dX12_timesAt_25 : decode cX12_timesAt 25 = .ok (.iload_n 1, 1) := by decide +kernel
theorem dX12_timesAt_26 : decode cX12_timesAt 26 = .ok (.ishr, 1) := by decide +kernel
theorem dX12_timesAt_27 : decode cX12_timesAt 27 = .ok (.iconst 1, 1) := by decide +kernel
theorem dX12_timesAt_28 : decode cX12_timesAt 28 = .ok (.iand, 1) := by decide +kernel
theorem dX12_timesAt_29 : decode cX12_timesAt 29 = .ok (.iadd, 1) := by decide +kernel
theorem dX12_timesAt_30 : decode cX12_timesAt 30 = .ok (.istore_n 2, 1) := by decide +kernel
theorem dX12_timesAt_31 : decode cX12_timesAt 31 = .ok (.iinc 3 1, 3) := by decide +kernel
theorem dX12_timesAt_34 : decode cX12_timesAt 34 = .ok (.goto (-30), 3) := by decide +kernel
theorem dX12_timesAt_37 : decode cX12_timesAt 37 = .ok (.iload_n 2, 1) := by decide +kernel
theorem dX12_timesAt_38 : decode cX12_timesAt 38 = .ok (.ireturn, 1) := by decide +kernel
def fX12_timesAt_4 (M : jw_M) : Nat → Int → Int → Int → Option Int
  | 0, _, _, _ => none
  | k + 1, x1, x2, x3 => if 0 ≤ (9 : Int) ∧ (9 : Int) < 104 then if x3 < M 133 9 then (if 0 ≤ jw_w (10 + x3) ∧ jw_w (10 + x3) < 104 then Option.bind (some (jw_w (x2 + (jw_iand (jw_ishr (M 133 (jw_w (10 + x3))) x1) 1)))) (fun v5 => Option.bind (some (jw_w (x3 + 1))) (fun v6 => fX12_timesAt_4 M k x1 v5 v6)) else none) else (some x2) else none
set_option maxRecDepth 100000 in
theorem pX12_timesAt_4 (G : jw_G) (M : jw_M) : ∀ (k : Nat) (x1 : Int) (x2 : Int) (x3 : Int) (hx1 : jw_r x1) (hx2 : jw_r x2) (hx3 : jw_r x3), jw_Rn G YX12_timesAt 1 0 0 true (fun v => (v, M)) 4 [(0, jR G 127), (1, jI x1), (2, jI x2), (3, jI x3)] [] M (fX12_timesAt_4 M k x1 x2 x3) := by
  intro k
  induction k with
  | zero =>
    intro x1 x2 x3 hx1 hx2 hx3
    exact jw_none
  | succ k ih =>
    intro x1 x2 x3 hx1 hx2 hx3
    rw [fX12_timesAt_4]
    refine jw_iload_n (pc := 4) 3 dX12_timesAt_4 rfl ?_
    refine jw_aloadR (pc := 5) 0 dX12_timesAt_5 rfl ?_
    refine jw_getR (pc := 6) (j := 8) rfl dX12_timesAt_6 jv_12 ji_12 (Or.inl jt_1239) jg_127 jl_127 (by decide) (by decide) rfl jf_12_8 ?_
    refine jw_bipush (pc := 9) dX12_timesAt_9 rfl ?_
    refine jw_iald (pc := 11) dX12_timesAt_11 jg_133 jl_133 (jw_ho jg_133 (by decide)) (jw_rc _ rfl) rfl (fun h3 => ?_)
    refine jw_ic_ge (pc := 12) 37 dX12_timesAt_12 (by decide) hx3 h3 (fun _ => ?_) (fun _ => ?_)
    · refine jw_iload_n (pc := 15) 2 dX12_timesAt_15 rfl ?_
      refine jw_aloadR (pc := 16) 0 dX12_timesAt_16 rfl ?_
      refine jw_getR (pc := 17) (j := 8) rfl dX12_timesAt_17 jv_12 ji_12 (Or.inl jt_1239) jg_127 jl_127 (by decide) (by decide) rfl jf_12_8 ?_
      refine jw_bipush (pc := 20) dX12_timesAt_20 rfl ?_
      refine jw_iload_n (pc := 22) 3 dX12_timesAt_22 rfl ?_
      refine jw_iadd (pc := 23) dX12_timesAt_23 ?_
      refine jw_iald (pc := 24) dX12_timesAt_24 jg_133 jl_133 (jw_ho jg_133 (by decide)) (jw_wr _) rfl (fun h4 => ?_)
      refine jw_iload_n (pc := 25) 1 dX12_timesAt_25 rfl ?_
      refine jw_ishrr (pc := 26) dX12_timesAt_26 ?_
      refine jw_iconst (pc := 27) dX12_timesAt_27 ?_
      refine jw_iandr (pc := 28) dX12_timesAt_28 ?_
      refine jw_iadd (pc := 29) dX12_timesAt_29 ?_
      refine jw_istore_nL (pc := 30) (lv' := (fun y => [(2, y), (0, jR G 127), (1, jI x1), (3, jI x3)])) dX12_timesAt_30 (jw_wr _) (by decide) (fun _ => rfl) (fun v5 hv5 => ?_)
      refine jw_iincL (pc := 31) 3 (lv' := (fun y => [(3, y), (2, jI v5), (0, jR G 127), (1, jI x1)])) dX12_timesAt_31 rfl (Nat.le_of_ble_eq_true rfl) (fun _ => rfl) (fun v6 hv6 => ?_)
      refine jw_goto (pc := 34) 4 dX12_timesAt_34 (by decide) ?_
      exact jw_few [2, 3, 1, 0] rfl (ih x1 v5 v6 hx1 hv5 hv6)
    · refine jw_iload_n (pc := 37) 2 dX12_timesAt_37 rfl ?_
      exact jw_ret (pc := 38) (v := x2) dX12_timesAt_38 hx2 rfl rfl
def fX12_timesAt (a1 : Int) (M : jw_M) : Option Int :=
  Option.bind (some 0) (fun v1 => Option.bind (some 0) (fun v2 => fX12_timesAt_4 M jw_fu a1 v1 v2))
set_option maxRecDepth 100000 in
theorem rX12_timesAt (G : jw_G) (a1 : Int) (ha1 : jw_r a1) (M : jw_M) : jw_Rn G YX12_timesAt 1 0 0 true (fun v => (v, M)) 0 [(0, jR G 127), (1, jI a1)] [] M (fX12_timesAt a1 M) := by
  unfold fX12_timesAt
  refine jw_iconst (pc := 0) dX12_timesAt_0 ?_
  refine jw_istore_nL (pc := 1) (lv' := (fun y => [(2, y), (0, jR G 127), (1, jI a1)])) dX12_timesAt_1 (jw_rc _ rfl) (by decide) (fun _ => rfl) (fun v1 hv1 => ?_)
  refine jw_iconst (pc := 2) dX12_timesAt_2 ?_
  refine jw_istore_nL (pc := 3) (lv' := (fun y => [(3, y), (2, jI v1), (0, jR G 127), (1, jI a1)])) dX12_timesAt_3 (jw_rc _ rfl) (by decide) (fun _ => rfl) (fun v2 hv2 => ?_)
  exact jw_few [2, 3, 1, 0] rfl (pX12_timesAt_4 G M jw_fu a1 v1 v2 ha1 hv1 hv2)
theorem kX12_timesAt (G : jw_G) (a1 : Int) (ha1 : jw_r a1) (M : jw_M) : jw_Ct G YX12_timesAt (some .int) 1 0 0 true (fun v => (v, M)) yX12_timesAt [jR G 127, jI a1] M (fX12_timesAt a1 M) := jw_met (by decide) rfl rfl rfl (Nat.le_of_ble_eq_true rfl) (rX12_timesAt G a1 ha1 M)
abbrev YX12_partOf : jw_Y := (RX12, cX12_partOf, 11, 2, "partOf")
theorem qX12_partOf : jw_cy YX12_partOf (some .long) yX12_partOf 3 := ⟨by decide, jt_1577, jt_14, by decide, by decide +kernel⟩
theorem dX12_partOf_0 : decode cX12_partOf 0 = .ok (.lload_n 0, 1) := by decide +kernel
theorem dX12_partOf_1 : decode cX12_partOf 1 = .ok (.lconst 0, 1) := by decide +kernel
theorem dX12_partOf_2 : decode cX12_partOf 2 = .ok (.lcmp, 1) := by decide +kernel
theorem dX12_partOf_3 : decode cX12_partOf 3 = .ok (.ifCond .ge 8, 3) := by decide +kernel
theorem dX12_partOf_6 : decode cX12_partOf 6 = .ok (.lload_n 0, 1) := by decide +kernel
theorem dX12_partOf_7 : decode cX12_partOf 7 = .ok (.lneg, 1) := by decide +kernel
theorem dX12_partOf_8 : decode cX12_partOf 8 = .ok (.goto 4, 3) := by decide +kernel
theorem dX12_partOf_11 : decode cX12_partOf 11 = .ok (.lload_n 0, 1) := by decide +kernel
theorem dX12_partOf_12 : decode cX12_partOf 12 = .ok (.lstore 5, 2) := by decide +kernel
theorem dX12_partOf_14 : decode cX12_partOf 14 = .ok (.lload_n 2, 1) := by decide +kernel
theorem dX12_partOf_15 : decode cX12_partOf 15 = .ok (.lstore 7, 2) := by decide +kernel
theorem dX12_partOf_17 : decode cX12_partOf 17 = .ok (.lload 7, 2) := by decide +kernel
theorem dX12_partOf_19 : decode cX12_partOf 19 = .ok (.lconst 0, 1) := by decide +kernel
theorem dX12_partOf_20 : decode cX12_partOf 20 = .ok (.lcmp, 1) := by decide +kernel
theorem dX12_partOf_21 : decode cX12_partOf 21 = .ok (.ifCond .eq 21, 3) := by decide +kernel
theorem dX12_partOf_24 : decode cX12_partOf 24 = .ok (.lload 5, 2) := by decide +kernel
theorem dX12_partOf_26 : decode cX12_partOf 26 = .ok (.lload 7, 2) := by decide +kernel
theorem dX12_partOf_28 : decode cX12_partOf 28 = .ok (.lrem, 1) := by decide +kernel
theorem dX12_partOf_29 : decode cX12_partOf 29 = .ok (.lstore 9, 2) := by decide +kernel
theorem dX12_partOf_31 : decode cX12_partOf 31 = .ok (.lload 7, 2) := by decide +kernel
theorem dX12_partOf_33 : decode cX12_partOf 33 = .ok (.lstore 5, 2) := by decide +kernel
theorem dX12_partOf_35 : decode cX12_partOf 35 = .ok (.lload 9, 2) := by decide +kernel
theorem dX12_partOf_37 : decode cX12_partOf 37 = .ok (.lstore 7, 2) := by decide +kernel
theorem dX12_partOf_39 : decode cX12_partOf 39 = .ok (.goto (-22), 3) := by decide +kernel
theorem dX12_partOf_42 : decode cX12_partOf 42 = .ok (.iload 4, 2) := by decide +kernel
theorem dX12_partOf_44 : decode cX12_partOf 44 = .ok (.ifCond .ne 7, 3) := by decide +kernel
theorem dX12_partOf_47 : decode cX12_partOf 47 = .ok (.lload_n 0, 1) := by decide +kernel
theorem dX12_partOf_48 : decode cX12_partOf 48 = .ok (.goto 4, 3) := by decide +kernel
theorem dX12_partOf_51 : decode cX12_partOf 51 = .ok (.lload_n 2, 1) := by decide +kernel
theorem dX12_partOf_52 : decode cX12_partOf 52 = .ok (.lload 5, 2) := by decide +kernel
theorem dX12_partOf_54 : decode cX12_partOf 54 = .ok (.ldiv, 1) := by decide +kernel
theorem dX12_partOf_55 : decode cX12_partOf 55 = .ok (.lreturn, 1) := by decide +kernel
def fX12_partOf_52 (M : jw_M) (x5 : Int) (xs0 : Int) : Option Int :=
  if x5 ≠ 0 then some (jw_v (Int.tdiv xs0 x5)) else none
set_option maxRecDepth 100000 in
theorem pX12_partOf_52 (G : jw_G) (M : jw_M) : ∀ (x5 : Int) (xs0 : Int) (hx5 : jw_q x5) (hxs0 : jw_q xs0), jw_Rn G YX12_partOf 1 0 0 true (fun v => (v, M)) 52 [(5, jL x5)] [jL xs0] M (fX12_partOf_52 M x5 xs0) := by
  intro x5 xs0 hx5 hxs0
  unfold fX12_partOf_52
  refine jw_lload (pc := 52) 0 dX12_partOf_52 rfl ?_
  refine jw_ldiv (pc := 54) dX12_partOf_54 hxs0 hx5 ?_
  exact jw_ret (pc := 55) (v := jw_v (Int.tdiv xs0 x5)) dX12_partOf_55 (jw_vr _) rfl rfl
def fX12_partOf_17 (M : jw_M) : Nat → Int → Int → Int → Int → Int → Option Int
  | 0, _, _, _, _, _ => none
  | k + 1, x0, x2, x4, x5, x7 => if jw_cmp x7 0 = 0 then (if x4 = 0 then (fX12_partOf_52 M x5 x0) else (fX12_partOf_52 M x5 x2)) else (if x7 ≠ 0 then Option.bind (some (jw_v (Int.tmod x5 x7))) (fun v3 => Option.bind (some x7) (fun v4 => Option.bind (some v3) (fun v5 => fX12_partOf_17 M k x0 x2 x4 v4 v5))) else none)
set_option maxRecDepth 100000 in
theorem pX12_partOf_17 (G : jw_G) (M : jw_M) : ∀ (k : Nat) (x0 : Int) (x2 : Int) (x4 : Int) (x5 : Int) (x7 : Int) (hx0 : jw_q x0) (hx2 : jw_q x2) (hx4 : jw_r x4) (hx5 : jw_q x5) (hx7 : jw_q x7), jw_Rn G YX12_partOf 1 0 0 true (fun v => (v, M)) 17 [(0, jL x0), (2, jL x2), (4, jI x4), (5, jL x5), (7, jL x7)] [] M (fX12_partOf_17 M k x0 x2 x4 x5 x7) := by
  intro k
  induction k with
  | zero =>
    intro x0 x2 x4 x5 x7 hx0 hx2 hx4 hx5 hx7
    exact jw_none
  | succ k ih =>
    intro x0 x2 x4 x5 x7 hx0 hx2 hx4 hx5 hx7
    rw [fX12_partOf_17]
    refine jw_lload (pc := 17) 4 dX12_partOf_17 rfl ?_
    refine jw_lconst (pc := 19) (z := 0) dX12_partOf_19 rfl ?_
    refine jw_lcmp (pc := 20) dX12_partOf_20 hx7 (jw_qc _ rfl) ?_
    refine jw_if_eq (pc := 21) 42 dX12_partOf_21 (by decide) (jw_cmpr _ _) (fun _ => ?_) (fun _ => ?_)
    · refine jw_iload (pc := 42) 2 dX12_partOf_42 rfl ?_
      refine jw_if_ne (pc := 44) 51 dX12_partOf_44 (by decide) hx4 (fun _ => ?_) (fun _ => ?_)
      · refine jw_lload_n (pc := 47) 0 dX12_partOf_47 rfl ?_
        refine jw_goto (pc := 48) 52 dX12_partOf_48 (by decide) ?_
        exact jw_few [3] rfl (pX12_partOf_52 G M x5 x0 hx5 hx0)
      · refine jw_lload_n (pc := 51) 1 dX12_partOf_51 rfl ?_
        exact jw_few [3] rfl (pX12_partOf_52 G M x5 x2 hx5 hx2)
    · refine jw_lload (pc := 24) 3 dX12_partOf_24 rfl ?_
      refine jw_lload (pc := 26) 4 dX12_partOf_26 rfl ?_
      refine jw_lrem (pc := 28) dX12_partOf_28 hx5 hx7 ?_
      refine jw_lstoreL (pc := 29) (lv' := (fun y => [(9, y), (0, jL x0), (2, jL x2), (4, jI x4), (5, jL x5), (7, jL x7)])) dX12_partOf_29 (jw_vr _) (by decide) (fun _ => rfl) (fun v3 hv3 => ?_)
      refine jw_lload (pc := 31) 5 dX12_partOf_31 rfl ?_
      refine jw_lstoreL (pc := 33) (lv' := (fun y => [(5, y), (9, jL v3), (0, jL x0), (2, jL x2), (4, jI x4), (7, jL x7)])) dX12_partOf_33 hx7 (by decide) (fun _ => rfl) (fun v4 hv4 => ?_)
      refine jw_lload (pc := 35) 1 dX12_partOf_35 rfl ?_
      refine jw_lstoreL (pc := 37) (lv' := (fun y => [(7, y), (5, jL v4), (9, jL v3), (0, jL x0), (2, jL x2), (4, jI x4)])) dX12_partOf_37 hv3 (by decide) (fun _ => rfl) (fun v5 hv5 => ?_)
      refine jw_goto (pc := 39) 17 dX12_partOf_39 (by decide) ?_
      exact jw_few [3, 4, 5, 1, 0] rfl (ih x0 x2 x4 v4 v5 hx0 hx2 hx4 hv4 hv5)
def fX12_partOf_12 (M : jw_M) (x0 : Int) (x2 : Int) (x4 : Int) (xs0 : Int) : Option Int :=
  Option.bind (some xs0) (fun v1 => Option.bind (some x2) (fun v2 => fX12_partOf_17 M jw_fu x0 x2 x4 v1 v2))
set_option maxRecDepth 100000 in
theorem pX12_partOf_12 (G : jw_G) (M : jw_M) : ∀ (x0 : Int) (x2 : Int) (x4 : Int) (xs0 : Int) (hx0 : jw_q x0) (hx2 : jw_q x2) (hx4 : jw_r x4) (hxs0 : jw_q xs0), jw_Rn G YX12_partOf 1 0 0 true (fun v => (v, M)) 12 [(0, jL x0), (2, jL x2), (4, jI x4)] [jL xs0] M (fX12_partOf_12 M x0 x2 x4 xs0) := by
  intro x0 x2 x4 xs0 hx0 hx2 hx4 hxs0
  unfold fX12_partOf_12
  refine jw_lstoreL (pc := 12) (lv' := (fun y => [(5, y), (0, jL x0), (2, jL x2), (4, jI x4)])) dX12_partOf_12 hxs0 (by decide) (fun _ => rfl) (fun v1 hv1 => ?_)
  refine jw_lload_n (pc := 14) 2 dX12_partOf_14 rfl ?_
  refine jw_lstoreL (pc := 15) (lv' := (fun y => [(7, y), (5, jL v1), (0, jL x0), (2, jL x2), (4, jI x4)])) dX12_partOf_15 hx2 (by decide) (fun _ => rfl) (fun v2 hv2 => ?_)
  exact jw_few [2, 3, 4, 1, 0] rfl (pX12_partOf_17 G M jw_fu x0 x2 x4 v1 v2 hx0 hx2 hx4 hv1 hv2)
def fX12_partOf (a1 : Int) (a2 : Int) (a3 : Int) (M : jw_M) : Option Int :=
  if jw_cmp a1 0 < 0 then (fX12_partOf_12 M a1 a2 a3 (jw_v (-a1))) else (fX12_partOf_12 M a1 a2 a3 a1)
set_option maxRecDepth 100000 in
theorem rX12_partOf (G : jw_G) (a1 : Int) (a2 : Int) (a3 : Int) (ha1 : jw_q a1) (ha2 : jw_q a2) (ha3 : jw_r a3) (M : jw_M) : jw_Rn G YX12_partOf 1 0 0 true (fun v => (v, M)) 0 [(0, jL a1), (2, jL a2), (4, jI a3)] [] M (fX12_partOf a1 a2 a3 M) := by
  unfold fX12_partOf
  refine jw_lload_n (pc := 0) 0 dX12_partOf_0 rfl ?_
  refine jw_lconst (pc := 1) (z := 0) dX12_partOf_1 rfl ?_
  refine jw_lcmp (pc := 2) dX12_partOf_2 ha1 (jw_qc _ rfl) ?_
  refine jw_if_ge (pc := 3) 11 dX12_partOf_3 (by decide) (jw_cmpr _ _) (fun _ => ?_) (fun _ => ?_)
  · refine jw_lload_n (pc := 6) 0 dX12_partOf_6 rfl ?_
    refine jw_lneg (pc := 7) dX12_partOf_7 ?_
    refine jw_goto (pc := 8) 12 dX12_partOf_8 (by decide) ?_
    exact jw_few [0, 1, 2] rfl (pX12_partOf_12 G M a1 a2 a3 (jw_v (-a1)) ha1 ha2 ha3 (jw_vr _))
  · refine jw_lload_n (pc := 11) 0 dX12_partOf_11 rfl ?_
    exact jw_few [0, 1, 2] rfl (pX12_partOf_12 G M a1 a2 a3 a1 ha1 ha2 ha3 ha1)
theorem kX12_partOf (G : jw_G) (a1 : Int) (a2 : Int) (a3 : Int) (ha1 : jw_q a1) (ha2 : jw_q a2) (ha3 : jw_r a3) (M : jw_M) : jw_Ct G YX12_partOf (some .long) 1 0 0 true (fun v => (v, M)) yX12_partOf [jL a1, jL a2, jI a3] M (fX12_partOf a1 a2 a3 M) := jw_met (by decide) rfl rfl rfl (Nat.le_of_ble_eq_true rfl) (rX12_partOf G a1 a2 a3 ha1 ha2 ha3 M)
abbrev YX12_feared : jw_Y := (RX12, cX12_feared, 3, 2, "feared")
theorem qX12_feared : jw_cy YX12_feared (some .long) yX12_feared 2 := ⟨by decide, jt_1570, jt_14, by decide, by decide +kernel⟩
theorem dX12_feared_0 : decode cX12_feared 0 = .ok (.aload_n 0, 1) := by decide +kernel
theorem dX12_feared_1 : decode cX12_feared 1 = .ok (.iconst 0, 1) := by decide +kernel
theorem dX12_feared_2 : decode cX12_feared 2 = .ok (.putfield 71, 3) := by decide +kernel
theorem dX12_feared_5 : decode cX12_feared 5 = .ok (.aload_n 0, 1) := by decide +kernel
theorem dX12_feared_6 : decode cX12_feared 6 = .ok (.iload_n 1, 1) := by decide +kernel
theorem dX12_feared_7 : decode cX12_feared 7 = .ok (.invokevirtual 224, 3) := by decide +kernel
theorem dX12_feared_10 : decode cX12_feared 10 = .ok (.ifCond .eq 38, 3) := by decide +kernel
theorem dX12_feared_13 : decode cX12_feared 13 = .ok (.iload_n 2, 1) := by decide +kernel
theorem dX12_feared_14 : decode cX12_feared 14 = .ok (.i2l, 1) := by decide +kernel
theorem dX12_feared_15 : decode cX12_feared 15 = .ok (.lconst 0, 1) := by decide +kernel
theorem dX12_feared_16 : decode cX12_feared 16 = .ok (.lconst 1, 1) := by decide +kernel
theorem dX12_feared_17 : decode cX12_feared 17 = .ok (.invokestatic 82, 3) := by decide +kernel
theorem dX12_feared_20 : decode cX12_feared 20 = .ok (.ifCond .eq 28, 3) := by decide +kernel
theorem dX12_feared_23 : decode cX12_feared 23 = .ok (.aload_n 0, 1) := by decide +kernel
theorem dX12_feared_24 : decode cX12_feared 24 = .ok (.iload_n 1, 1) := by decide +kernel
theorem dX12_feared_25 : decode cX12_feared 25 = .ok (.invokevirtual 274, 3) := by decide +kernel
theorem dX12_feared_28 : decode cX12_feared 28 = .ok (.iconst 1, 1) := by decide +kernel
theorem dX12_feared_29 : decode cX12_feared 29 = .ok (.iadd, 1) := by decide +kernel
theorem dX12_feared_30 : decode cX12_feared 30 = .ok (.i2l, 1) := by decide +kernel
theorem dX12_feared_31 : decode cX12_feared 31 = .ok (.aload_n 0, 1) := by decide +kernel
theorem dX12_feared_32 : decode cX12_feared 32 = .ok (.getfield 25, 3) := by decide +kernel
theorem dX12_feared_35 : decode cX12_feared 35 = .ok (.bipush 9, 2) := by decide +kernel
theorem dX12_feared_37 : decode cX12_feared 37 = .ok (.iaload, 1) := by decide +kernel
theorem dX12_feared_38 : decode cX12_feared 38 = .ok (.iconst 2, 1) := by decide +kernel
theorem dX12_feared_39 : decode cX12_feared 39 = .ok (.iadd, 1) := by decide +kernel
theorem dX12_feared_40 : decode cX12_feared 40 = .ok (.i2l, 1) := by decide +kernel
theorem dX12_feared_41 : decode cX12_feared 41 = .ok (.iload_n 2, 1) := by decide +kernel
theorem dX12_feared_42 : decode cX12_feared 42 = .ok (.invokestatic 277, 3) := by decide +kernel
theorem dX12_feared_45 : decode cX12_feared 45 = .ok (.goto 6, 3) := by decide +kernel
theorem dX12_feared_48 : decode cX12_feared 48 = .ok (.ldc2_w 92, 3) := by decide +kernel
theorem dX12_feared_51 : decode cX12_feared 51 = .ok (.lreturn, 1) := by decide +kernel
def fX12_feared (a1 : Int) (a2 : Int) (M : jw_M) : Option (Int × jw_M) :=
  Option.bind (some (jw_up M 127 0 0)) (fun M1 => Option.bind (fX12_isCorner a1 M1) (fun v2 => if v2 = 0 then (some ((-9000000000000000001), M1)) else (Option.bind (fX12_in a2 0 1 M1) (fun v3 => if v3 = 0 then (some ((-9000000000000000001), M1)) else (Option.bind (fX12_timesAt a1 M1) (fun v4 => if 0 ≤ (9 : Int) ∧ (9 : Int) < 104 then Option.bind (fX12_partOf (jw_w (v4 + 1)) (jw_w ((M1 133 9) + 2)) a2 M1) (fun v6 => some (v6, M1)) else none))))))
set_option maxRecDepth 100000 in
theorem rX12_feared (G : jw_G) (a1 : Int) (a2 : Int) (ha1 : jw_r a1) (ha2 : jw_r a2) (M : jw_M) : jw_Rn G YX12_feared 3 0 0 true (fun q => q) 0 [(0, jR G 127), (1, jI a1), (2, jI a2)] [] M (fX12_feared a1 a2 M) := by
  unfold fX12_feared
  refine jw_aloadR (pc := 0) 0 dX12_feared_0 rfl ?_
  refine jw_iconst (pc := 1) dX12_feared_1 ?_
  refine jw_putI (pc := 2) (j := 0) tyX12 rfl dX12_feared_2 jv_12 ji_12 tyX12_ok nmX12 (Or.inl jt_1231) rfl jg_127 jl_127 (by decide) (by decide) (jw_ho jg_127 (by decide)) rfl rfl (jw_rc _ rfl) rfl ?_
  refine jw_letM (fun M1 => ?_)
  refine jw_aloadR (pc := 5) 0 dX12_feared_5 rfl ?_
  refine jw_iload_n (pc := 6) 1 dX12_feared_6 rfl ?_
  refine jw_callVz (pc := 7) (As := [jI a1]) (st := []) dX12_feared_7 rfl (Nat.le_of_ble_eq_true rfl) qX12_isCorner jt_1478 jt_1480 jp_63 rfl rfl (Nat.le_of_ble_eq_true rfl) jv_12 rfl jg_127 jl_127 (by decide) (jw_ho jg_127 (by decide)) (kX12_isCorner G a1 ha1 M1) (fun v2 hv2 => ?_)
  refine jw_if_eq (pc := 10) 48 dX12_feared_10 (by decide) (jw_bz hv2) (fun _ => ?_) (fun _ => ?_)
  · refine jw_ldc2 (pc := 48) (n := (-9000000000000000001)) dX12_feared_48 jt_1349 (by decide) ?_
    exact jw_ret (pc := 51) (v := (-9000000000000000001)) dX12_feared_51 (jw_qc _ rfl) rfl rfl
  · refine jw_iload_n (pc := 13) 2 dX12_feared_13 rfl ?_
    refine jw_i2lr (pc := 14) dX12_feared_14 ha2 ?_
    refine jw_lconst (pc := 15) (z := 0) dX12_feared_15 rfl ?_
    refine jw_lconst (pc := 16) (z := 1) dX12_feared_16 rfl ?_
    refine jw_callSz (pc := 17) (As := [jL a2, jL 0, jL 1]) (st := []) dX12_feared_17 rfl (Nat.le_of_ble_eq_true rfl) qX12_in jt_1345 jt_1346 rfl rfl (Nat.le_of_ble_eq_true rfl) (kX12_in G a2 0 1 (jw_rq ha2) (jw_qc _ rfl) (jw_qc _ rfl) M1) (fun v3 hv3 => ?_)
    refine jw_if_eq (pc := 20) 48 dX12_feared_20 (by decide) (jw_bz hv3) (fun _ => ?_) (fun _ => ?_)
    · refine jw_ldc2 (pc := 48) (n := (-9000000000000000001)) dX12_feared_48 jt_1349 (by decide) ?_
      exact jw_ret (pc := 51) (v := (-9000000000000000001)) dX12_feared_51 (jw_qc _ rfl) rfl rfl
    · refine jw_aloadR (pc := 23) 0 dX12_feared_23 rfl ?_
      refine jw_iload_n (pc := 24) 1 dX12_feared_24 rfl ?_
      refine jw_callVi (pc := 25) (As := [jI a1]) (st := []) dX12_feared_25 rfl (Nat.le_of_ble_eq_true rfl) qX12_timesAt jt_1571 jt_1573 jp_76 rfl rfl (Nat.le_of_ble_eq_true rfl) jv_12 rfl jg_127 jl_127 (by decide) (jw_ho jg_127 (by decide)) (kX12_timesAt G a1 ha1 M1) (fun v4 hv4 => ?_)
      refine jw_iconst (pc := 28) dX12_feared_28 ?_
      refine jw_iadd (pc := 29) dX12_feared_29 ?_
      refine jw_i2lr (pc := 30) dX12_feared_30 (jw_wr _) ?_
      refine jw_aloadR (pc := 31) 0 dX12_feared_31 rfl ?_
      refine jw_getR (pc := 32) (j := 8) rfl dX12_feared_32 jv_12 ji_12 (Or.inl jt_1239) jg_127 jl_127 (by decide) (by decide) rfl jf_12_8 ?_
      refine jw_bipush (pc := 35) dX12_feared_35 rfl ?_
      refine jw_iald (pc := 37) dX12_feared_37 jg_133 jl_133 (jw_ho jg_133 (by decide)) (jw_rc _ rfl) rfl (fun h5 => ?_)
      refine jw_iconst (pc := 38) dX12_feared_38 ?_
      refine jw_iadd (pc := 39) dX12_feared_39 ?_
      refine jw_i2lr (pc := 40) dX12_feared_40 (jw_wr _) ?_
      refine jw_iload_n (pc := 41) 2 dX12_feared_41 rfl ?_
      refine jw_callSl (pc := 42) (As := [jL (jw_w (v4 + 1)), jL (jw_w ((M1 133 9) + 2)), jI a2]) (st := []) dX12_feared_42 rfl (Nat.le_of_ble_eq_true rfl) qX12_partOf jt_1575 jt_1576 rfl rfl (Nat.le_of_ble_eq_true rfl) (kX12_partOf G (jw_w (v4 + 1)) (jw_w ((M1 133 9) + 2)) a2 (jw_rq (jw_wr _)) (jw_rq (jw_wr _)) ha2 M1) (fun v6 hv6 => ?_)
      refine jw_goto (pc := 45) 51 dX12_feared_45 (by decide) ?_
      exact jw_ret (pc := 51) (v := v6) dX12_feared_51 hv6 rfl rfl
theorem kX12_feared (G : jw_G) (a1 : Int) (a2 : Int) (ha1 : jw_r a1) (ha2 : jw_r a2) (M : jw_M) : jw_Ct G YX12_feared (some .long) 3 0 0 true (fun q => q) yX12_feared [jR G 127, jI a1, jI a2] M (fX12_feared a1 a2 M) := jw_met (by decide) rfl rfl rfl (Nat.le_of_ble_eq_true rfl) (rX12_feared G a1 a2 ha1 ha2 M)
abbrev YX12_scoreOf : jw_Y := (RX12, cX12_scoreOf, 5, 1, "scoreOf")
theorem qX12_scoreOf : jw_cy YX12_scoreOf (some .int) yX12_scoreOf 2 := ⟨by decide, jt_1585, jt_14, by decide, by decide +kernel⟩
theorem dX12_scoreOf_0 : decode cX12_scoreOf 0 = .ok (.iconst 1, 1) := by decide +kernel
theorem dX12_scoreOf_1 : decode cX12_scoreOf 1 = .ok (.istore_n 3, 1) := by decide +kernel
theorem dX12_scoreOf_2 : decode cX12_scoreOf 2 = .ok (.iconst 0, 1) := by decide +kernel
theorem dX12_scoreOf_3 : decode cX12_scoreOf 3 = .ok (.istore 4, 2) := by decide +kernel
theorem dX12_scoreOf_5 : decode cX12_scoreOf 5 = .ok (.iload 4, 2) := by decide +kernel
theorem dX12_scoreOf_7 : decode cX12_scoreOf 7 = .ok (.aload_n 0, 1) := by decide +kernel
theorem dX12_scoreOf_8 : decode cX12_scoreOf 8 = .ok (.getfield 19, 3) := by decide +kernel
theorem dX12_scoreOf_11 : decode cX12_scoreOf 11 = .ok (.iconst 3, 1) := by decide +kernel
theorem dX12_scoreOf_12 : decode cX12_scoreOf 12 = .ok (.iaload, 1) := by decide +kernel
theorem dX12_scoreOf_13 : decode cX12_scoreOf 13 = .ok (.if_icmp .ge 58, 3) := by decide +kernel
theorem dX12_scoreOf_16 : decode cX12_scoreOf 16 = .ok (.iload_n 3, 1) := by decide +kernel
theorem dX12_scoreOf_17 : decode cX12_scoreOf 17 = .ok (.iload 4, 2) := by decide +kernel
theorem dX12_scoreOf_19 : decode cX12_scoreOf 19 = .ok (.iload_n 1, 1) := by decide +kernel
theorem dX12_scoreOf_20 : decode cX12_scoreOf 20 = .ok (.if_icmp .eq 42, 3) := by decide +kernel
theorem dX12_scoreOf_23 : decode cX12_scoreOf 23 = .ok (.aload_n 0, 1) := by decide +kernel
theorem dX12_scoreOf_24 : decode cX12_scoreOf 24 = .ok (.getfield 19, 3) := by decide +kernel
theorem dX12_scoreOf_27 : decode cX12_scoreOf 27 = .ok (.bipush 90, 2) := by decide +kernel
theorem dX12_scoreOf_29 : decode cX12_scoreOf 29 = .ok (.iload 4, 2) := by decide +kernel
theorem dX12_scoreOf_31 : decode cX12_scoreOf 31 = .ok (.iadd, 1) := by decide +kernel
theorem dX12_scoreOf_32 : decode cX12_scoreOf 32 = .ok (.iaload, 1) := by decide +kernel
theorem dX12_scoreOf_33 : decode cX12_scoreOf 33 = .ok (.aload_n 0, 1) := by decide +kernel
theorem dX12_scoreOf_34 : decode cX12_scoreOf 34 = .ok (.getfield 19, 3) := by decide +kernel
theorem dX12_scoreOf_37 : decode cX12_scoreOf 37 = .ok (.bipush 90, 2) := by decide +kernel
theorem dX12_scoreOf_39 : decode cX12_scoreOf 39 = .ok (.iload_n 1, 1) := by decide +kernel
theorem dX12_scoreOf_40 : decode cX12_scoreOf 40 = .ok (.iadd, 1) := by decide +kernel
theorem dX12_scoreOf_41 : decode cX12_scoreOf 41 = .ok (.iaload, 1) := by decide +kernel
theorem dX12_scoreOf_42 : decode cX12_scoreOf 42 = .ok (.if_icmp .ne 20, 3) := by decide +kernel
theorem dX12_scoreOf_45 : decode cX12_scoreOf 45 = .ok (.aload_n 0, 1) := by decide +kernel
theorem dX12_scoreOf_46 : decode cX12_scoreOf 46 = .ok (.getfield 25, 3) := by decide +kernel
theorem dX12_scoreOf_49 : decode cX12_scoreOf 49 = .ok (.iconst 0, 1) := by decide +kernel
theorem dX12_scoreOf_50 : decode cX12_scoreOf 50 = .ok (.iload 4, 2) := by decide +kernel
theorem dX12_scoreOf_52 : decode cX12_scoreOf 52 = .ok (.iadd, 1) := by decide +kernel
theorem dX12_scoreOf_53 : decode cX12_scoreOf 53 = .ok (.iaload, 1) := by decide +kernel
theorem dX12_scoreOf_54 : decode cX12_scoreOf 54 = .ok (.iload_n 2, 1) := by decide +kernel
theorem dX12_scoreOf_55 : decode cX12_scoreOf 55 = .ok (.if_icmp .ne 7, 3) := by decide +kernel
theorem dX12_scoreOf_58 : decode cX12_scoreOf 58 = .ok (.iconst 1, 1) := by decide +kernel
theorem dX12_scoreOf_59 : decode cX12_scoreOf 59 = .ok (.goto 4, 3) := by decide +kernel
theorem dX12_scoreOf_62 : decode cX12_scoreOf 62 = .ok (.iconst 0, 1) := by decide +kernel
theorem dX12_scoreOf_63 : decode cX12_scoreOf 63 = .ok (.iadd, 1) := by decide +kernel
theorem dX12_scoreOf_64 : decode cX12_scoreOf 64 = .ok (.istore_n 3, 1) := by decide +kernel
theorem dX12_scoreOf_65 : decode cX12_scoreOf 65 = .ok (.iinc 4 1, 3) := by decide +kernel
theorem dX12_scoreOf_68 : decode cX12_scoreOf 68 = .ok (.goto (-63), 3) := by decide +kernel
theorem dX12_scoreOf_71 : decode cX12_scoreOf 71 = .ok (.bipush 60, 2) := by decide +kernel
theorem dX12_scoreOf_73 : decode cX12_scoreOf 73 = .ok (.aload_n 0, 1) := by decide +kernel
theorem dX12_scoreOf_74 : decode cX12_scoreOf 74 = .ok (.getfield 19, 3) := by decide +kernel
theorem dX12_scoreOf_77 : decode cX12_scoreOf 77 = .ok (.bipush 7, 2) := by decide +kernel
theorem dX12_scoreOf_79 : decode cX12_scoreOf 79 = .ok (.iload_n 2, 1) := by decide +kernel
theorem dX12_scoreOf_80 : decode cX12_scoreOf 80 = .ok (.iadd, 1) := by decide +kernel
theorem dX12_scoreOf_81 : decode cX12_scoreOf 81 = .ok (.iaload, 1) := by decide +kernel
theorem dX12_scoreOf_82 : decode cX12_scoreOf 82 = .ok (.imul, 1) := by decide +kernel
theorem dX12_scoreOf_83 : decode cX12_scoreOf 83 = .ok (.iload_n 3, 1) := by decide +kernel
theorem dX12_scoreOf_84 : decode cX12_scoreOf 84 = .ok (.idiv, 1) := by decide +kernel
theorem dX12_scoreOf_85 : decode cX12_scoreOf 85 = .ok (.bipush 10, 2) := by decide +kernel
theorem dX12_scoreOf_87 : decode cX12_scoreOf 87 = .ok (.aload_n 0, 1) := by decide +kernel
theorem dX12_scoreOf_88 : decode cX12_scoreOf 88 = .ok (.iload_n 1, 1) := by decide +kernel
theorem dX12_scoreOf_89 : decode cX12_scoreOf 89 = .ok (.invokevirtual 268, 3) := by decide +kernel
theorem dX12_scoreOf_92 : decode cX12_scoreOf 92 = .ok (.imul, 1) := by decide +kernel
theorem dX12_scoreOf_93 : decode cX12_scoreOf 93 = .ok (.aload_n 0, 1) := by decide +kernel
theorem dX12_scoreOf_94 : decode cX12_scoreOf 94 = .ok (.iload_n 2, 1) := by decide +kernel
theorem dX12_scoreOf_95 : decode cX12_scoreOf 95 = .ok (.invokevirtual 274, 3) := by decide +kernel
theorem dX12_scoreOf_98 : decode cX12_scoreOf 98 = .ok (.iconst 1, 1) := by decide +kernel
theorem dX12_scoreOf_99 : decode cX12_scoreOf 99 = .ok (.iadd, 1) := by decide +kernel
theorem dX12_scoreOf_100 : decode cX12_scoreOf 100 = .ok (.imul, 1) := by decide +kernel
theorem dX12_scoreOf_101 : decode cX12_scoreOf 101 = .ok (.aload_n 0, 1) := by decide +kernel
theorem dX12_scoreOf_102 : decode cX12_scoreOf 102 = .ok (.getfield 25, 3) := by decide +kernel
theorem dX12_scoreOf_105 : decode cX12_scoreOf 105 = .ok (.bipush 9, 2) := by decide +kernel
theorem dX12_scoreOf_107 : decode cX12_scoreOf 107 = .ok (.iaload, 1) := by decide +kernel
theorem dX12_scoreOf_108 : decode cX12_scoreOf 108 = .ok (.iconst 2, 1) := by decide +kernel
theorem dX12_scoreOf_109 : decode cX12_scoreOf 109 = .ok (.iadd, 1) := by decide +kernel
theorem dX12_scoreOf_110 : decode cX12_scoreOf 110 = .ok (.idiv, 1) := by decide +kernel
theorem dX12_scoreOf_111 : decode cX12_scoreOf 111 = .ok (.isub, 1) := by decide +kernel
theorem dX12_scoreOf_112 : decode cX12_scoreOf 112 = .ok (.ireturn, 1) := by decide +kernel
def fX12_scoreOf_63 (M : jw_M) (r5 : Int → Int → Int → Int → Option Int) (x1 : Int) (x2 : Int) (x4 : Int) (xs0 : Int) (xs1 : Int) : Option Int :=
  Option.bind (some (jw_w (xs1 + xs0))) (fun v4 => Option.bind (some (jw_w (x4 + 1))) (fun v5 => r5 x1 x2 v4 v5))
set_option maxRecDepth 100000 in
theorem pX12_scoreOf_63 (G : jw_G) (M : jw_M) (r5 : Int → Int → Int → Int → Option Int) (hr5 : ∀ (x1 : Int) (x2 : Int) (x3 : Int) (x4 : Int) (hx1 : jw_r x1) (hx2 : jw_r x2) (hx3 : jw_r x3) (hx4 : jw_r x4), jw_Rn G YX12_scoreOf 3 0 0 true (fun v => (v, M)) 5 [(0, jR G 127), (1, jI x1), (2, jI x2), (3, jI x3), (4, jI x4)] [] M (r5 x1 x2 x3 x4)) : ∀ (x1 : Int) (x2 : Int) (x4 : Int) (xs0 : Int) (xs1 : Int) (hx1 : jw_r x1) (hx2 : jw_r x2) (hx4 : jw_r x4) (hxs0 : jw_r xs0) (hxs1 : jw_r xs1), jw_Rn G YX12_scoreOf 3 0 0 true (fun v => (v, M)) 63 [(0, jR G 127), (1, jI x1), (2, jI x2), (4, jI x4)] [jI xs0, jI xs1] M (fX12_scoreOf_63 M r5 x1 x2 x4 xs0 xs1) := by
  intro x1 x2 x4 xs0 xs1 hx1 hx2 hx4 hxs0 hxs1
  unfold fX12_scoreOf_63
  refine jw_iadd (pc := 63) dX12_scoreOf_63 ?_
  refine jw_istore_nL (pc := 64) (lv' := (fun y => [(3, y), (0, jR G 127), (1, jI x1), (2, jI x2), (4, jI x4)])) dX12_scoreOf_64 (jw_wr _) (by decide) (fun _ => rfl) (fun v4 hv4 => ?_)
  refine jw_iincL (pc := 65) 4 (lv' := (fun y => [(4, y), (3, jI v4), (0, jR G 127), (1, jI x1), (2, jI x2)])) dX12_scoreOf_65 rfl (Nat.le_of_ble_eq_true rfl) (fun _ => rfl) (fun v5 hv5 => ?_)
  refine jw_goto (pc := 68) 5 dX12_scoreOf_68 (by decide) ?_
  exact jw_few [2, 3, 4, 1, 0] rfl (hr5 x1 x2 v4 v5 hx1 hx2 hv4 hv5)
def fX12_scoreOf_62 (M : jw_M) (r5 : Int → Int → Int → Int → Option Int) (x1 : Int) (x2 : Int) (x4 : Int) (xs0 : Int) : Option Int :=
  fX12_scoreOf_63 M r5 x1 x2 x4 0 xs0
set_option maxRecDepth 100000 in
theorem pX12_scoreOf_62 (G : jw_G) (M : jw_M) (r5 : Int → Int → Int → Int → Option Int) (hr5 : ∀ (x1 : Int) (x2 : Int) (x3 : Int) (x4 : Int) (hx1 : jw_r x1) (hx2 : jw_r x2) (hx3 : jw_r x3) (hx4 : jw_r x4), jw_Rn G YX12_scoreOf 3 0 0 true (fun v => (v, M)) 5 [(0, jR G 127), (1, jI x1), (2, jI x2), (3, jI x3), (4, jI x4)] [] M (r5 x1 x2 x3 x4)) : ∀ (x1 : Int) (x2 : Int) (x4 : Int) (xs0 : Int) (hx1 : jw_r x1) (hx2 : jw_r x2) (hx4 : jw_r x4) (hxs0 : jw_r xs0), jw_Rn G YX12_scoreOf 3 0 0 true (fun v => (v, M)) 62 [(0, jR G 127), (1, jI x1), (2, jI x2), (4, jI x4)] [jI xs0] M (fX12_scoreOf_62 M r5 x1 x2 x4 xs0) := by
  intro x1 x2 x4 xs0 hx1 hx2 hx4 hxs0
  unfold fX12_scoreOf_62
  refine jw_iconst (pc := 62) dX12_scoreOf_62 ?_
  exact jw_few [0, 1, 2, 3] rfl (pX12_scoreOf_63 G M r5 hr5 x1 x2 x4 0 xs0 hx1 hx2 hx4 (jw_rc _ rfl) hxs0)
def fX12_scoreOf_5 (M : jw_M) : Nat → Int → Int → Int → Int → Option Int
  | 0, _, _, _, _ => none
  | k + 1, x1, x2, x3, x4 => if 0 ≤ (3 : Int) ∧ (3 : Int) < 104 then if x4 < M 131 3 then (if x4 = x1 then (fX12_scoreOf_62 M (fX12_scoreOf_5 M k) x1 x2 x4 x3) else (if 0 ≤ jw_w (90 + x4) ∧ jw_w (90 + x4) < 104 then if 0 ≤ jw_w (90 + x1) ∧ jw_w (90 + x1) < 104 then if M 131 (jw_w (90 + x4)) = M 131 (jw_w (90 + x1)) then (if 0 ≤ jw_w (0 + x4) ∧ jw_w (0 + x4) < 104 then if M 133 (jw_w (0 + x4)) = x2 then (fX12_scoreOf_63 M (fX12_scoreOf_5 M k) x1 x2 x4 1 x3) else (fX12_scoreOf_62 M (fX12_scoreOf_5 M k) x1 x2 x4 x3) else none) else (fX12_scoreOf_62 M (fX12_scoreOf_5 M k) x1 x2 x4 x3) else none else none)) else (if 0 ≤ jw_w (7 + x2) ∧ jw_w (7 + x2) < 104 then if x3 ≠ 0 then Option.bind (fX12_lostOf x1 M) (fun v10 => Option.bind (fX12_timesAt x2 M) (fun v11 => if 0 ≤ (9 : Int) ∧ (9 : Int) < 104 then if jw_w ((M 133 9) + 2) ≠ 0 then some (jw_w ((jw_w (Int.tdiv (jw_w (60 * (M 131 (jw_w (7 + x2))))) x3)) - (jw_w (Int.tdiv (jw_w ((jw_w (10 * v10)) * (jw_w (v11 + 1)))) (jw_w ((M 133 9) + 2)))))) else none else none)) else none else none) else none
set_option maxRecDepth 100000 in
theorem pX12_scoreOf_5 (G : jw_G) (M : jw_M) : ∀ (k : Nat) (x1 : Int) (x2 : Int) (x3 : Int) (x4 : Int) (hx1 : jw_r x1) (hx2 : jw_r x2) (hx3 : jw_r x3) (hx4 : jw_r x4), jw_Rn G YX12_scoreOf 3 0 0 true (fun v => (v, M)) 5 [(0, jR G 127), (1, jI x1), (2, jI x2), (3, jI x3), (4, jI x4)] [] M (fX12_scoreOf_5 M k x1 x2 x3 x4) := by
  intro k
  induction k with
  | zero =>
    intro x1 x2 x3 x4 hx1 hx2 hx3 hx4
    exact jw_none
  | succ k ih =>
    intro x1 x2 x3 x4 hx1 hx2 hx3 hx4
    rw [fX12_scoreOf_5]
    refine jw_iload (pc := 5) 4 dX12_scoreOf_5 rfl ?_
    refine jw_aloadR (pc := 7) 0 dX12_scoreOf_7 rfl ?_
    refine jw_getR (pc := 8) (j := 5) rfl dX12_scoreOf_8 jv_12 ji_12 (Or.inl jt_1236) jg_127 jl_127 (by decide) (by decide) rfl jf_12_5 ?_
    refine jw_iconst (pc := 11) dX12_scoreOf_11 ?_
    refine jw_iald (pc := 12) dX12_scoreOf_12 jg_131 jl_131 (jw_ho jg_131 (by decide)) (jw_rc _ rfl) rfl (fun h3 => ?_)
    refine jw_ic_ge (pc := 13) 71 dX12_scoreOf_13 (by decide) hx4 h3 (fun _ => ?_) (fun _ => ?_)
    · refine jw_iload_n (pc := 16) 3 dX12_scoreOf_16 rfl ?_
      refine jw_iload (pc := 17) 4 dX12_scoreOf_17 rfl ?_
      refine jw_iload_n (pc := 19) 1 dX12_scoreOf_19 rfl ?_
      refine jw_ic_eq (pc := 20) 62 dX12_scoreOf_20 (by decide) hx4 hx1 (fun _ => ?_) (fun _ => ?_)
      · exact jw_few [0, 1, 2, 4] rfl (pX12_scoreOf_62 G M (fX12_scoreOf_5 M k) ih x1 x2 x4 x3 hx1 hx2 hx4 hx3)
      · refine jw_aloadR (pc := 23) 0 dX12_scoreOf_23 rfl ?_
        refine jw_getR (pc := 24) (j := 5) rfl dX12_scoreOf_24 jv_12 ji_12 (Or.inl jt_1236) jg_127 jl_127 (by decide) (by decide) rfl jf_12_5 ?_
        refine jw_bipush (pc := 27) dX12_scoreOf_27 rfl ?_
        refine jw_iload (pc := 29) 4 dX12_scoreOf_29 rfl ?_
        refine jw_iadd (pc := 31) dX12_scoreOf_31 ?_
        refine jw_iald (pc := 32) dX12_scoreOf_32 jg_131 jl_131 (jw_ho jg_131 (by decide)) (jw_wr _) rfl (fun h6 => ?_)
        refine jw_aloadR (pc := 33) 0 dX12_scoreOf_33 rfl ?_
        refine jw_getR (pc := 34) (j := 5) rfl dX12_scoreOf_34 jv_12 ji_12 (Or.inl jt_1236) jg_127 jl_127 (by decide) (by decide) rfl jf_12_5 ?_
        refine jw_bipush (pc := 37) dX12_scoreOf_37 rfl ?_
        refine jw_iload_n (pc := 39) 1 dX12_scoreOf_39 rfl ?_
        refine jw_iadd (pc := 40) dX12_scoreOf_40 ?_
        refine jw_iald (pc := 41) dX12_scoreOf_41 jg_131 jl_131 (jw_ho jg_131 (by decide)) (jw_wr _) rfl (fun h7 => ?_)
        refine jw_ic_ne (pc := 42) 62 dX12_scoreOf_42 (by decide) h6 h7 (fun _ => ?_) (fun _ => ?_)
        · refine jw_aloadR (pc := 45) 0 dX12_scoreOf_45 rfl ?_
          refine jw_getR (pc := 46) (j := 8) rfl dX12_scoreOf_46 jv_12 ji_12 (Or.inl jt_1239) jg_127 jl_127 (by decide) (by decide) rfl jf_12_8 ?_
          refine jw_iconst (pc := 49) dX12_scoreOf_49 ?_
          refine jw_iload (pc := 50) 4 dX12_scoreOf_50 rfl ?_
          refine jw_iadd (pc := 52) dX12_scoreOf_52 ?_
          refine jw_iald (pc := 53) dX12_scoreOf_53 jg_133 jl_133 (jw_ho jg_133 (by decide)) (jw_wr _) rfl (fun h8 => ?_)
          refine jw_iload_n (pc := 54) 2 dX12_scoreOf_54 rfl ?_
          refine jw_ic_ne (pc := 55) 62 dX12_scoreOf_55 (by decide) h8 hx2 (fun _ => ?_) (fun _ => ?_)
          · refine jw_iconst (pc := 58) dX12_scoreOf_58 ?_
            refine jw_goto (pc := 59) 63 dX12_scoreOf_59 (by decide) ?_
            exact jw_few [0, 1, 2, 4] rfl (pX12_scoreOf_63 G M (fX12_scoreOf_5 M k) ih x1 x2 x4 1 x3 hx1 hx2 hx4 (jw_rc _ rfl) hx3)
          · exact jw_few [0, 1, 2, 4] rfl (pX12_scoreOf_62 G M (fX12_scoreOf_5 M k) ih x1 x2 x4 x3 hx1 hx2 hx4 hx3)
        · exact jw_few [0, 1, 2, 4] rfl (pX12_scoreOf_62 G M (fX12_scoreOf_5 M k) ih x1 x2 x4 x3 hx1 hx2 hx4 hx3)
    · refine jw_bipush (pc := 71) dX12_scoreOf_71 rfl ?_
      refine jw_aloadR (pc := 73) 0 dX12_scoreOf_73 rfl ?_
      refine jw_getR (pc := 74) (j := 5) rfl dX12_scoreOf_74 jv_12 ji_12 (Or.inl jt_1236) jg_127 jl_127 (by decide) (by decide) rfl jf_12_5 ?_
      refine jw_bipush (pc := 77) dX12_scoreOf_77 rfl ?_
      refine jw_iload_n (pc := 79) 2 dX12_scoreOf_79 rfl ?_
      refine jw_iadd (pc := 80) dX12_scoreOf_80 ?_
      refine jw_iald (pc := 81) dX12_scoreOf_81 jg_131 jl_131 (jw_ho jg_131 (by decide)) (jw_wr _) rfl (fun h9 => ?_)
      refine jw_imul (pc := 82) dX12_scoreOf_82 ?_
      refine jw_iload_n (pc := 83) 3 dX12_scoreOf_83 rfl ?_
      refine jw_idiv (pc := 84) dX12_scoreOf_84 (jw_wr _) hx3 ?_
      refine jw_bipush (pc := 85) dX12_scoreOf_85 rfl ?_
      refine jw_aloadR (pc := 87) 0 dX12_scoreOf_87 rfl ?_
      refine jw_iload_n (pc := 88) 1 dX12_scoreOf_88 rfl ?_
      refine jw_callVi (pc := 89) (As := [jI x1]) (st := [jI 10, jI (jw_w (Int.tdiv (jw_w (60 * (M 131 (jw_w (7 + x2))))) x3))]) dX12_scoreOf_89 rfl (Nat.le_of_ble_eq_true rfl) qX12_lostOf jt_1551 jt_1553 jp_74 rfl rfl (Nat.le_of_ble_eq_true rfl) jv_12 rfl jg_127 jl_127 (by decide) (jw_ho jg_127 (by decide)) (kX12_lostOf G x1 hx1 M) (fun v10 hv10 => ?_)
      refine jw_imul (pc := 92) dX12_scoreOf_92 ?_
      refine jw_aloadR (pc := 93) 0 dX12_scoreOf_93 rfl ?_
      refine jw_iload_n (pc := 94) 2 dX12_scoreOf_94 rfl ?_
      refine jw_callVi (pc := 95) (As := [jI x2]) (st := [jI (jw_w (10 * v10)), jI (jw_w (Int.tdiv (jw_w (60 * (M 131 (jw_w (7 + x2))))) x3))]) dX12_scoreOf_95 rfl (Nat.le_of_ble_eq_true rfl) qX12_timesAt jt_1571 jt_1573 jp_76 rfl rfl (Nat.le_of_ble_eq_true rfl) jv_12 rfl jg_127 jl_127 (by decide) (jw_ho jg_127 (by decide)) (kX12_timesAt G x2 hx2 M) (fun v11 hv11 => ?_)
      refine jw_iconst (pc := 98) dX12_scoreOf_98 ?_
      refine jw_iadd (pc := 99) dX12_scoreOf_99 ?_
      refine jw_imul (pc := 100) dX12_scoreOf_100 ?_
      refine jw_aloadR (pc := 101) 0 dX12_scoreOf_101 rfl ?_
      refine jw_getR (pc := 102) (j := 8) rfl dX12_scoreOf_102 jv_12 ji_12 (Or.inl jt_1239) jg_127 jl_127 (by decide) (by decide) rfl jf_12_8 ?_
      refine jw_bipush (pc := 105) dX12_scoreOf_105 rfl ?_
      refine jw_iald (pc := 107) dX12_scoreOf_107 jg_133 jl_133 (jw_ho jg_133 (by decide)) (jw_rc _ rfl) rfl (fun h12 => ?_)
      refine jw_iconst (pc := 108) dX12_scoreOf_108 ?_
      refine jw_iadd (pc := 109) dX12_scoreOf_109 ?_
      refine jw_idiv (pc := 110) dX12_scoreOf_110 (jw_wr _) (jw_wr _) ?_
      refine jw_isub (pc := 111) dX12_scoreOf_111 ?_
      exact jw_ret (pc := 112) (v := jw_w ((jw_w (Int.tdiv (jw_w (60 * (M 131 (jw_w (7 + x2))))) x3)) - (jw_w (Int.tdiv (jw_w ((jw_w (10 * v10)) * (jw_w (v11 + 1)))) (jw_w ((M 133 9) + 2)))))) dX12_scoreOf_112 (jw_wr _) rfl rfl
def fX12_scoreOf (a1 : Int) (a2 : Int) (M : jw_M) : Option Int :=
  Option.bind (some 1) (fun v1 => Option.bind (some 0) (fun v2 => fX12_scoreOf_5 M jw_fu a1 a2 v1 v2))
set_option maxRecDepth 100000 in
theorem rX12_scoreOf (G : jw_G) (a1 : Int) (a2 : Int) (ha1 : jw_r a1) (ha2 : jw_r a2) (M : jw_M) : jw_Rn G YX12_scoreOf 3 0 0 true (fun v => (v, M)) 0 [(0, jR G 127), (1, jI a1), (2, jI a2)] [] M (fX12_scoreOf a1 a2 M) := by
  unfold fX12_scoreOf
  refine jw_iconst (pc := 0) dX12_scoreOf_0 ?_
  refine jw_istore_nL (pc := 1) (lv' := (fun y => [(3, y), (0, jR G 127), (1, jI a1), (2, jI a2)])) dX12_scoreOf_1 (jw_rc _ rfl) (by decide) (fun _ => rfl) (fun v1 hv1 => ?_)
  refine jw_iconst (pc := 2) dX12_scoreOf_2 ?_
  refine jw_istoreL (pc := 3) (lv' := (fun y => [(4, y), (3, jI v1), (0, jR G 127), (1, jI a1), (2, jI a2)])) dX12_scoreOf_3 (jw_rc _ rfl) (by decide) (fun _ => rfl) (fun v2 hv2 => ?_)
  exact jw_few [2, 3, 4, 1, 0] rfl (pX12_scoreOf_5 G M jw_fu a1 a2 v1 v2 ha1 ha2 hv1 hv2)
theorem kX12_scoreOf (G : jw_G) (a1 : Int) (a2 : Int) (ha1 : jw_r a1) (ha2 : jw_r a2) (M : jw_M) : jw_Ct G YX12_scoreOf (some .int) 3 0 0 true (fun v => (v, M)) yX12_scoreOf [jR G 127, jI a1, jI a2] M (fX12_scoreOf a1 a2 M) := jw_met (by decide) rfl rfl rfl (Nat.le_of_ble_eq_true rfl) (rX12_scoreOf G a1 a2 ha1 ha2 M)
abbrev YX12_mayStand : jw_Y := (RX12, cX12_mayStand, 6, 4, "mayStand")
theorem qX12_mayStand : jw_cy YX12_mayStand (some .boolean) yX12_mayStand 3 := ⟨by decide, jt_1597, jt_14, by decide, by decide +kernel⟩
theorem dX12_mayStand_0 : decode cX12_mayStand 0 = .ok (.iconst 1, 1) := by decide +kernel
theorem dX12_mayStand_1 : decode cX12_mayStand 1 = .ok (.istore 4, 2) := by decide +kernel
theorem dX12_mayStand_3 : decode cX12_mayStand 3 = .ok (.iconst 0, 1) := by decide +kernel
theorem dX12_mayStand_4 : decode cX12_mayStand 4 = .ok (.istore 5, 2) := by decide +kernel
theorem dX12_mayStand_6 : decode cX12_mayStand 6 = .ok (.iload 5, 2) := by decide +kernel
theorem dX12_mayStand_8 : decode cX12_mayStand 8 = .ok (.aload_n 0, 1) := by decide +kernel
theorem dX12_mayStand_9 : decode cX12_mayStand 9 = .ok (.getfield 19, 3) := by decide +kernel
theorem dX12_mayStand_12 : decode cX12_mayStand 12 = .ok (.iconst 3, 1) := by decide +kernel
theorem dX12_mayStand_13 : decode cX12_mayStand 13 = .ok (.iaload, 1) := by decide +kernel
theorem dX12_mayStand_14 : decode cX12_mayStand 14 = .ok (.if_icmp .ge 70, 3) := by decide +kernel
theorem dX12_mayStand_17 : decode cX12_mayStand 17 = .ok (.iload 4, 2) := by decide +kernel
theorem dX12_mayStand_19 : decode cX12_mayStand 19 = .ok (.ifCond .eq 56, 3) := by decide +kernel
theorem dX12_mayStand_22 : decode cX12_mayStand 22 = .ok (.iload 5, 2) := by decide +kernel
theorem dX12_mayStand_24 : decode cX12_mayStand 24 = .ok (.iload_n 2, 1) := by decide +kernel
theorem dX12_mayStand_25 : decode cX12_mayStand 25 = .ok (.if_icmp .eq 46, 3) := by decide +kernel
theorem dX12_mayStand_28 : decode cX12_mayStand 28 = .ok (.aload_n 0, 1) := by decide +kernel
theorem dX12_mayStand_29 : decode cX12_mayStand 29 = .ok (.getfield 19, 3) := by decide +kernel
theorem dX12_mayStand_32 : decode cX12_mayStand 32 = .ok (.bipush 90, 2) := by decide +kernel
theorem dX12_mayStand_34 : decode cX12_mayStand 34 = .ok (.iload 5, 2) := by decide +kernel
theorem dX12_mayStand_36 : decode cX12_mayStand 36 = .ok (.iadd, 1) := by decide +kernel
theorem dX12_mayStand_37 : decode cX12_mayStand 37 = .ok (.iaload, 1) := by decide +kernel
theorem dX12_mayStand_38 : decode cX12_mayStand 38 = .ok (.iload_n 1, 1) := by decide +kernel
theorem dX12_mayStand_39 : decode cX12_mayStand 39 = .ok (.if_icmp .ne 32, 3) := by decide +kernel
theorem dX12_mayStand_42 : decode cX12_mayStand 42 = .ok (.aload_n 0, 1) := by decide +kernel
theorem dX12_mayStand_43 : decode cX12_mayStand 43 = .ok (.getfield 31, 3) := by decide +kernel
theorem dX12_mayStand_46 : decode cX12_mayStand 46 = .ok (.bipush 7, 2) := by decide +kernel
theorem dX12_mayStand_48 : decode cX12_mayStand 48 = .ok (.iload_n 3, 1) := by decide +kernel
theorem dX12_mayStand_49 : decode cX12_mayStand 49 = .ok (.imul, 1) := by decide +kernel
theorem dX12_mayStand_50 : decode cX12_mayStand 50 = .ok (.aload_n 0, 1) := by decide +kernel
theorem dX12_mayStand_51 : decode cX12_mayStand 51 = .ok (.getfield 25, 3) := by decide +kernel
theorem dX12_mayStand_54 : decode cX12_mayStand 54 = .ok (.iconst 0, 1) := by decide +kernel
theorem dX12_mayStand_55 : decode cX12_mayStand 55 = .ok (.iload 5, 2) := by decide +kernel
theorem dX12_mayStand_57 : decode cX12_mayStand 57 = .ok (.iadd, 1) := by decide +kernel
theorem dX12_mayStand_58 : decode cX12_mayStand 58 = .ok (.iaload, 1) := by decide +kernel
theorem dX12_mayStand_59 : decode cX12_mayStand 59 = .ok (.iadd, 1) := by decide +kernel
theorem dX12_mayStand_60 : decode cX12_mayStand 60 = .ok (.iaload, 1) := by decide +kernel
theorem dX12_mayStand_61 : decode cX12_mayStand 61 = .ok (.aload_n 0, 1) := by decide +kernel
theorem dX12_mayStand_62 : decode cX12_mayStand 62 = .ok (.getfield 19, 3) := by decide +kernel
theorem dX12_mayStand_65 : decode cX12_mayStand 65 = .ok (.bipush 87, 2) := by decide +kernel
theorem dX12_mayStand_67 : decode cX12_mayStand 67 = .ok (.iaload, 1) := by decide +kernel
theorem dX12_mayStand_68 : decode cX12_mayStand 68 = .ok (.if_icmp .lt 7, 3) := by decide +kernel
theorem dX12_mayStand_71 : decode cX12_mayStand 71 = .ok (.iconst 1, 1) := by decide +kernel
theorem dX12_mayStand_72 : decode cX12_mayStand 72 = .ok (.goto 4, 3) := by decide +kernel
theorem dX12_mayStand_75 : decode cX12_mayStand 75 = .ok (.iconst 0, 1) := by decide +kernel
theorem dX12_mayStand_76 : decode cX12_mayStand 76 = .ok (.istore 4, 2) := by decide +kernel
theorem dX12_mayStand_78 : decode cX12_mayStand 78 = .ok (.iinc 5 1, 3) := by decide +kernel
theorem dX12_mayStand_81 : decode cX12_mayStand 81 = .ok (.goto (-75), 3) := by decide +kernel
theorem dX12_mayStand_84 : decode cX12_mayStand 84 = .ok (.iload 4, 2) := by decide +kernel
theorem dX12_mayStand_86 : decode cX12_mayStand 86 = .ok (.ireturn, 1) := by decide +kernel
def fX12_mayStand_76 (M : jw_M) (r6 : Int → Int → Int → Int → Int → Option Int) (x1 : Int) (x2 : Int) (x3 : Int) (x5 : Int) (xs0 : Int) : Option Int :=
  Option.bind (some xs0) (fun v4 => Option.bind (some (jw_w (x5 + 1))) (fun v5 => r6 x1 x2 x3 v4 v5))
set_option maxRecDepth 100000 in
theorem pX12_mayStand_76 (G : jw_G) (M : jw_M) (r6 : Int → Int → Int → Int → Int → Option Int) (hr6 : ∀ (x1 : Int) (x2 : Int) (x3 : Int) (x4 : Int) (x5 : Int) (hx1 : jw_r x1) (hx2 : jw_r x2) (hx3 : jw_r x3) (hx4 : jw_r x4) (hx5 : jw_r x5), jw_Rn G YX12_mayStand 1 0 0 true (fun v => (v, M)) 6 [(0, jR G 127), (1, jI x1), (2, jI x2), (3, jI x3), (4, jI x4), (5, jI x5)] [] M (r6 x1 x2 x3 x4 x5)) : ∀ (x1 : Int) (x2 : Int) (x3 : Int) (x5 : Int) (xs0 : Int) (hx1 : jw_r x1) (hx2 : jw_r x2) (hx3 : jw_r x3) (hx5 : jw_r x5) (hxs0 : jw_r xs0), jw_Rn G YX12_mayStand 1 0 0 true (fun v => (v, M)) 76 [(0, jR G 127), (1, jI x1), (2, jI x2), (3, jI x3), (5, jI x5)] [jI xs0] M (fX12_mayStand_76 M r6 x1 x2 x3 x5 xs0) := by
  intro x1 x2 x3 x5 xs0 hx1 hx2 hx3 hx5 hxs0
  unfold fX12_mayStand_76
  refine jw_istoreL (pc := 76) (lv' := (fun y => [(4, y), (0, jR G 127), (1, jI x1), (2, jI x2), (3, jI x3), (5, jI x5)])) dX12_mayStand_76 hxs0 (by decide) (fun _ => rfl) (fun v4 hv4 => ?_)
  refine jw_iincL (pc := 78) 5 (lv' := (fun y => [(5, y), (4, jI v4), (0, jR G 127), (1, jI x1), (2, jI x2), (3, jI x3)])) dX12_mayStand_78 rfl (Nat.le_of_ble_eq_true rfl) (fun _ => rfl) (fun v5 hv5 => ?_)
  refine jw_goto (pc := 81) 6 dX12_mayStand_81 (by decide) ?_
  exact jw_few [2, 3, 4, 5, 1, 0] rfl (hr6 x1 x2 x3 v4 v5 hx1 hx2 hx3 hv4 hv5)
def fX12_mayStand_75 (M : jw_M) (r6 : Int → Int → Int → Int → Int → Option Int) (x1 : Int) (x2 : Int) (x3 : Int) (x5 : Int) : Option Int :=
  fX12_mayStand_76 M r6 x1 x2 x3 x5 0
set_option maxRecDepth 100000 in
theorem pX12_mayStand_75 (G : jw_G) (M : jw_M) (r6 : Int → Int → Int → Int → Int → Option Int) (hr6 : ∀ (x1 : Int) (x2 : Int) (x3 : Int) (x4 : Int) (x5 : Int) (hx1 : jw_r x1) (hx2 : jw_r x2) (hx3 : jw_r x3) (hx4 : jw_r x4) (hx5 : jw_r x5), jw_Rn G YX12_mayStand 1 0 0 true (fun v => (v, M)) 6 [(0, jR G 127), (1, jI x1), (2, jI x2), (3, jI x3), (4, jI x4), (5, jI x5)] [] M (r6 x1 x2 x3 x4 x5)) : ∀ (x1 : Int) (x2 : Int) (x3 : Int) (x5 : Int) (hx1 : jw_r x1) (hx2 : jw_r x2) (hx3 : jw_r x3) (hx5 : jw_r x5), jw_Rn G YX12_mayStand 1 0 0 true (fun v => (v, M)) 75 [(0, jR G 127), (1, jI x1), (2, jI x2), (3, jI x3), (5, jI x5)] [] M (fX12_mayStand_75 M r6 x1 x2 x3 x5) := by
  intro x1 x2 x3 x5 hx1 hx2 hx3 hx5
  unfold fX12_mayStand_75
  refine jw_iconst (pc := 75) dX12_mayStand_75 ?_
  exact jw_few [0, 1, 2, 3, 4] rfl (pX12_mayStand_76 G M r6 hr6 x1 x2 x3 x5 0 hx1 hx2 hx3 hx5 (jw_rc _ rfl))
def fX12_mayStand_71 (M : jw_M) (r6 : Int → Int → Int → Int → Int → Option Int) (x1 : Int) (x2 : Int) (x3 : Int) (x5 : Int) : Option Int :=
  fX12_mayStand_76 M r6 x1 x2 x3 x5 1
set_option maxRecDepth 100000 in
theorem pX12_mayStand_71 (G : jw_G) (M : jw_M) (r6 : Int → Int → Int → Int → Int → Option Int) (hr6 : ∀ (x1 : Int) (x2 : Int) (x3 : Int) (x4 : Int) (x5 : Int) (hx1 : jw_r x1) (hx2 : jw_r x2) (hx3 : jw_r x3) (hx4 : jw_r x4) (hx5 : jw_r x5), jw_Rn G YX12_mayStand 1 0 0 true (fun v => (v, M)) 6 [(0, jR G 127), (1, jI x1), (2, jI x2), (3, jI x3), (4, jI x4), (5, jI x5)] [] M (r6 x1 x2 x3 x4 x5)) : ∀ (x1 : Int) (x2 : Int) (x3 : Int) (x5 : Int) (hx1 : jw_r x1) (hx2 : jw_r x2) (hx3 : jw_r x3) (hx5 : jw_r x5), jw_Rn G YX12_mayStand 1 0 0 true (fun v => (v, M)) 71 [(0, jR G 127), (1, jI x1), (2, jI x2), (3, jI x3), (5, jI x5)] [] M (fX12_mayStand_71 M r6 x1 x2 x3 x5) := by
  intro x1 x2 x3 x5 hx1 hx2 hx3 hx5
  unfold fX12_mayStand_71
  refine jw_iconst (pc := 71) dX12_mayStand_71 ?_
  refine jw_goto (pc := 72) 76 dX12_mayStand_72 (by decide) ?_
  exact jw_few [0, 1, 2, 3, 4] rfl (pX12_mayStand_76 G M r6 hr6 x1 x2 x3 x5 1 hx1 hx2 hx3 hx5 (jw_rc _ rfl))
def fX12_mayStand_6 (M : jw_M) : Nat → Int → Int → Int → Int → Int → Option Int
  | 0, _, _, _, _, _ => none
  | k + 1, x1, x2, x3, x4, x5 => if 0 ≤ (3 : Int) ∧ (3 : Int) < 104 then if x5 < M 131 3 then (if x4 = 0 then (fX12_mayStand_75 M (fX12_mayStand_6 M k) x1 x2 x3 x5) else (if x5 = x2 then (fX12_mayStand_71 M (fX12_mayStand_6 M k) x1 x2 x3 x5) else (if 0 ≤ jw_w (90 + x5) ∧ jw_w (90 + x5) < 104 then if M 131 (jw_w (90 + x5)) = x1 then (if 0 ≤ jw_w (0 + x5) ∧ jw_w (0 + x5) < 104 then if 0 ≤ jw_w ((jw_w (7 * x3)) + (M 133 (jw_w (0 + x5)))) ∧ jw_w ((jw_w (7 * x3)) + (M 133 (jw_w (0 + x5)))) < 49 then if 0 ≤ (87 : Int) ∧ (87 : Int) < 104 then if M 135 (jw_w ((jw_w (7 * x3)) + (M 133 (jw_w (0 + x5))))) < M 131 87 then (fX12_mayStand_75 M (fX12_mayStand_6 M k) x1 x2 x3 x5) else (fX12_mayStand_71 M (fX12_mayStand_6 M k) x1 x2 x3 x5) else none else none else none) else (fX12_mayStand_71 M (fX12_mayStand_6 M k) x1 x2 x3 x5) else none))) else (if x4 = 0 ∨ x4 = 1 then some x4 else none) else none
set_option maxRecDepth 100000 in
theorem pX12_mayStand_6 (G : jw_G) (M : jw_M) : ∀ (k : Nat) (x1 : Int) (x2 : Int) (x3 : Int) (x4 : Int) (x5 : Int) (hx1 : jw_r x1) (hx2 : jw_r x2) (hx3 : jw_r x3) (hx4 : jw_r x4) (hx5 : jw_r x5), jw_Rn G YX12_mayStand 1 0 0 true (fun v => (v, M)) 6 [(0, jR G 127), (1, jI x1), (2, jI x2), (3, jI x3), (4, jI x4), (5, jI x5)] [] M (fX12_mayStand_6 M k x1 x2 x3 x4 x5) := by
  intro k
  induction k with
  | zero =>
    intro x1 x2 x3 x4 x5 hx1 hx2 hx3 hx4 hx5
    exact jw_none
  | succ k ih =>
    intro x1 x2 x3 x4 x5 hx1 hx2 hx3 hx4 hx5
    rw [fX12_mayStand_6]
    refine jw_iload (pc := 6) 5 dX12_mayStand_6 rfl ?_
    refine jw_aloadR (pc := 8) 0 dX12_mayStand_8 rfl ?_
    refine jw_getR (pc := 9) (j := 5) rfl dX12_mayStand_9 jv_12 ji_12 (Or.inl jt_1236) jg_127 jl_127 (by decide) (by decide) rfl jf_12_5 ?_
    refine jw_iconst (pc := 12) dX12_mayStand_12 ?_
    refine jw_iald (pc := 13) dX12_mayStand_13 jg_131 jl_131 (jw_ho jg_131 (by decide)) (jw_rc _ rfl) rfl (fun h3 => ?_)
    refine jw_ic_ge (pc := 14) 84 dX12_mayStand_14 (by decide) hx5 h3 (fun _ => ?_) (fun _ => ?_)
    · refine jw_iload (pc := 17) 4 dX12_mayStand_17 rfl ?_
      refine jw_if_eq (pc := 19) 75 dX12_mayStand_19 (by decide) hx4 (fun _ => ?_) (fun _ => ?_)
      · exact jw_few [0, 1, 2, 3, 5] rfl (pX12_mayStand_75 G M (fX12_mayStand_6 M k) ih x1 x2 x3 x5 hx1 hx2 hx3 hx5)
      · refine jw_iload (pc := 22) 5 dX12_mayStand_22 rfl ?_
        refine jw_iload_n (pc := 24) 2 dX12_mayStand_24 rfl ?_
        refine jw_ic_eq (pc := 25) 71 dX12_mayStand_25 (by decide) hx5 hx2 (fun _ => ?_) (fun _ => ?_)
        · exact jw_few [0, 1, 2, 3, 5] rfl (pX12_mayStand_71 G M (fX12_mayStand_6 M k) ih x1 x2 x3 x5 hx1 hx2 hx3 hx5)
        · refine jw_aloadR (pc := 28) 0 dX12_mayStand_28 rfl ?_
          refine jw_getR (pc := 29) (j := 5) rfl dX12_mayStand_29 jv_12 ji_12 (Or.inl jt_1236) jg_127 jl_127 (by decide) (by decide) rfl jf_12_5 ?_
          refine jw_bipush (pc := 32) dX12_mayStand_32 rfl ?_
          refine jw_iload (pc := 34) 5 dX12_mayStand_34 rfl ?_
          refine jw_iadd (pc := 36) dX12_mayStand_36 ?_
          refine jw_iald (pc := 37) dX12_mayStand_37 jg_131 jl_131 (jw_ho jg_131 (by decide)) (jw_wr _) rfl (fun h6 => ?_)
          refine jw_iload_n (pc := 38) 1 dX12_mayStand_38 rfl ?_
          refine jw_ic_ne (pc := 39) 71 dX12_mayStand_39 (by decide) h6 hx1 (fun _ => ?_) (fun _ => ?_)
          · refine jw_aloadR (pc := 42) 0 dX12_mayStand_42 rfl ?_
            refine jw_getR (pc := 43) (j := 19) rfl dX12_mayStand_43 jv_12 ji_12 (Or.inl jt_1250) jg_127 jl_127 (by decide) (by decide) rfl jf_12_19 ?_
            refine jw_bipush (pc := 46) dX12_mayStand_46 rfl ?_
            refine jw_iload_n (pc := 48) 3 dX12_mayStand_48 rfl ?_
            refine jw_imul (pc := 49) dX12_mayStand_49 ?_
            refine jw_aloadR (pc := 50) 0 dX12_mayStand_50 rfl ?_
            refine jw_getR (pc := 51) (j := 8) rfl dX12_mayStand_51 jv_12 ji_12 (Or.inl jt_1239) jg_127 jl_127 (by decide) (by decide) rfl jf_12_8 ?_
            refine jw_iconst (pc := 54) dX12_mayStand_54 ?_
            refine jw_iload (pc := 55) 5 dX12_mayStand_55 rfl ?_
            refine jw_iadd (pc := 57) dX12_mayStand_57 ?_
            refine jw_iald (pc := 58) dX12_mayStand_58 jg_133 jl_133 (jw_ho jg_133 (by decide)) (jw_wr _) rfl (fun h7 => ?_)
            refine jw_iadd (pc := 59) dX12_mayStand_59 ?_
            refine jw_iald (pc := 60) dX12_mayStand_60 jg_135 jl_135 (jw_ho jg_135 (by decide)) (jw_wr _) rfl (fun h8 => ?_)
            refine jw_aloadR (pc := 61) 0 dX12_mayStand_61 rfl ?_
            refine jw_getR (pc := 62) (j := 5) rfl dX12_mayStand_62 jv_12 ji_12 (Or.inl jt_1236) jg_127 jl_127 (by decide) (by decide) rfl jf_12_5 ?_
            refine jw_bipush (pc := 65) dX12_mayStand_65 rfl ?_
            refine jw_iald (pc := 67) dX12_mayStand_67 jg_131 jl_131 (jw_ho jg_131 (by decide)) (jw_rc _ rfl) rfl (fun h9 => ?_)
            refine jw_ic_lt (pc := 68) 75 dX12_mayStand_68 (by decide) h8 h9 (fun _ => ?_) (fun _ => ?_)
            · exact jw_few [0, 1, 2, 3, 5] rfl (pX12_mayStand_75 G M (fX12_mayStand_6 M k) ih x1 x2 x3 x5 hx1 hx2 hx3 hx5)
            · exact jw_few [0, 1, 2, 3, 5] rfl (pX12_mayStand_71 G M (fX12_mayStand_6 M k) ih x1 x2 x3 x5 hx1 hx2 hx3 hx5)
          · exact jw_few [0, 1, 2, 3, 5] rfl (pX12_mayStand_71 G M (fX12_mayStand_6 M k) ih x1 x2 x3 x5 hx1 hx2 hx3 hx5)
    · refine jw_iload (pc := 84) 4 dX12_mayStand_84 rfl ?_
      refine jw_ck (fun h10 => ?_)
      exact jw_ret (pc := 86) (v := x4) dX12_mayStand_86 h10 rfl rfl
def fX12_mayStand (a1 : Int) (a2 : Int) (a3 : Int) (M : jw_M) : Option Int :=
  Option.bind (some 1) (fun v1 => Option.bind (some 0) (fun v2 => fX12_mayStand_6 M jw_fu a1 a2 a3 v1 v2))
set_option maxRecDepth 100000 in
theorem rX12_mayStand (G : jw_G) (a1 : Int) (a2 : Int) (a3 : Int) (ha1 : jw_r a1) (ha2 : jw_r a2) (ha3 : jw_r a3) (M : jw_M) : jw_Rn G YX12_mayStand 1 0 0 true (fun v => (v, M)) 0 [(0, jR G 127), (1, jI a1), (2, jI a2), (3, jI a3)] [] M (fX12_mayStand a1 a2 a3 M) := by
  unfold fX12_mayStand
  refine jw_iconst (pc := 0) dX12_mayStand_0 ?_
  refine jw_istoreL (pc := 1) (lv' := (fun y => [(4, y), (0, jR G 127), (1, jI a1), (2, jI a2), (3, jI a3)])) dX12_mayStand_1 (jw_rc _ rfl) (by decide) (fun _ => rfl) (fun v1 hv1 => ?_)
  refine jw_iconst (pc := 3) dX12_mayStand_3 ?_
  refine jw_istoreL (pc := 4) (lv' := (fun y => [(5, y), (4, jI v1), (0, jR G 127), (1, jI a1), (2, jI a2), (3, jI a3)])) dX12_mayStand_4 (jw_rc _ rfl) (by decide) (fun _ => rfl) (fun v2 hv2 => ?_)
  exact jw_few [2, 3, 4, 5, 1, 0] rfl (pX12_mayStand_6 G M jw_fu a1 a2 a3 v1 v2 ha1 ha2 ha3 hv1 hv2)
theorem kX12_mayStand (G : jw_G) (a1 : Int) (a2 : Int) (a3 : Int) (ha1 : jw_r a1) (ha2 : jw_r a2) (ha3 : jw_r a3) (M : jw_M) : jw_Ct G YX12_mayStand (some .boolean) 1 0 0 true (fun v => (v, M)) yX12_mayStand [jR G 127, jI a1, jI a2, jI a3] M (fX12_mayStand a1 a2 a3 M) := jw_met (by decide) rfl rfl rfl (Nat.le_of_ble_eq_true rfl) (rX12_mayStand G a1 a2 a3 ha1 ha2 ha3 M)
abbrev YX12_mayOf : jw_Y := (RX12, cX12_mayOf, 5, 1, "mayOf")
theorem qX12_mayOf : jw_cy YX12_mayOf (some .int) yX12_mayOf 2 := ⟨by decide, jt_1593, jt_14, by decide, by decide +kernel⟩
theorem dX12_mayOf_0 : decode cX12_mayOf 0 = .ok (.iconst 0, 1) := by decide +kernel
theorem dX12_mayOf_1 : decode cX12_mayOf 1 = .ok (.istore_n 3, 1) := by decide +kernel
theorem dX12_mayOf_2 : decode cX12_mayOf 2 = .ok (.iconst 0, 1) := by decide +kernel
theorem dX12_mayOf_3 : decode cX12_mayOf 3 = .ok (.istore 4, 2) := by decide +kernel
theorem dX12_mayOf_5 : decode cX12_mayOf 5 = .ok (.iload 4, 2) := by decide +kernel
theorem dX12_mayOf_7 : decode cX12_mayOf 7 = .ok (.aload_n 0, 1) := by decide +kernel
theorem dX12_mayOf_8 : decode cX12_mayOf 8 = .ok (.getfield 19, 3) := by decide +kernel
theorem dX12_mayOf_11 : decode cX12_mayOf 11 = .ok (.iconst 0, 1) := by decide +kernel
theorem dX12_mayOf_12 : decode cX12_mayOf 12 = .ok (.iaload, 1) := by decide +kernel
theorem dX12_mayOf_13 : decode cX12_mayOf 13 = .ok (.if_icmp .ge 31, 3) := by decide +kernel
theorem dX12_mayOf_16 : decode cX12_mayOf 16 = .ok (.iload_n 3, 1) := by decide +kernel
theorem dX12_mayOf_17 : decode cX12_mayOf 17 = .ok (.aload_n 0, 1) := by decide +kernel
theorem dX12_mayOf_18 : decode cX12_mayOf 18 = .ok (.iload_n 1, 1) := by decide +kernel
theorem dX12_mayOf_19 : decode cX12_mayOf 19 = .ok (.iload_n 2, 1) := by decide +kernel
theorem dX12_mayOf_20 : decode cX12_mayOf 20 = .ok (.iload 4, 2) := by decide +kernel
theorem dX12_mayOf_22 : decode cX12_mayOf 22 = .ok (.invokevirtual 281, 3) := by decide +kernel
theorem dX12_mayOf_25 : decode cX12_mayOf 25 = .ok (.ifCond .eq 10, 3) := by decide +kernel
theorem dX12_mayOf_28 : decode cX12_mayOf 28 = .ok (.iconst 1, 1) := by decide +kernel
theorem dX12_mayOf_29 : decode cX12_mayOf 29 = .ok (.iload 4, 2) := by decide +kernel
theorem dX12_mayOf_31 : decode cX12_mayOf 31 = .ok (.ishl, 1) := by decide +kernel
theorem dX12_mayOf_32 : decode cX12_mayOf 32 = .ok (.goto 4, 3) := by decide +kernel
theorem dX12_mayOf_35 : decode cX12_mayOf 35 = .ok (.iconst 0, 1) := by decide +kernel
theorem dX12_mayOf_36 : decode cX12_mayOf 36 = .ok (.ior, 1) := by decide +kernel
theorem dX12_mayOf_37 : decode cX12_mayOf 37 = .ok (.istore_n 3, 1) := by decide +kernel
theorem dX12_mayOf_38 : decode cX12_mayOf 38 = .ok (.iinc 4 1, 3) := by decide +kernel
theorem dX12_mayOf_41 : decode cX12_mayOf 41 = .ok (.goto (-36), 3) := by decide +kernel
theorem dX12_mayOf_44 : decode cX12_mayOf 44 = .ok (.iload_n 3, 1) := by decide +kernel
theorem dX12_mayOf_45 : decode cX12_mayOf 45 = .ok (.ireturn, 1) := by decide +kernel
def fX12_mayOf_36 (M : jw_M) (r5 : Int → Int → Int → Int → Option Int) (x1 : Int) (x2 : Int) (x4 : Int) (xs0 : Int) (xs1 : Int) : Option Int :=
  Option.bind (some (jw_ior xs1 xs0)) (fun v5 => Option.bind (some (jw_w (x4 + 1))) (fun v6 => r5 x1 x2 v5 v6))
set_option maxRecDepth 100000 in
theorem pX12_mayOf_36 (G : jw_G) (M : jw_M) (r5 : Int → Int → Int → Int → Option Int) (hr5 : ∀ (x1 : Int) (x2 : Int) (x3 : Int) (x4 : Int) (hx1 : jw_r x1) (hx2 : jw_r x2) (hx3 : jw_r x3) (hx4 : jw_r x4), jw_Rn G YX12_mayOf 2 0 0 true (fun v => (v, M)) 5 [(0, jR G 127), (1, jI x1), (2, jI x2), (3, jI x3), (4, jI x4)] [] M (r5 x1 x2 x3 x4)) : ∀ (x1 : Int) (x2 : Int) (x4 : Int) (xs0 : Int) (xs1 : Int) (hx1 : jw_r x1) (hx2 : jw_r x2) (hx4 : jw_r x4) (hxs0 : jw_r xs0) (hxs1 : jw_r xs1), jw_Rn G YX12_mayOf 2 0 0 true (fun v => (v, M)) 36 [(0, jR G 127), (1, jI x1), (2, jI x2), (4, jI x4)] [jI xs0, jI xs1] M (fX12_mayOf_36 M r5 x1 x2 x4 xs0 xs1) := by
  intro x1 x2 x4 xs0 xs1 hx1 hx2 hx4 hxs0 hxs1
  unfold fX12_mayOf_36
  refine jw_iorr (pc := 36) dX12_mayOf_36 ?_
  refine jw_istore_nL (pc := 37) (lv' := (fun y => [(3, y), (0, jR G 127), (1, jI x1), (2, jI x2), (4, jI x4)])) dX12_mayOf_37 (jw_rI _) (by decide) (fun _ => rfl) (fun v5 hv5 => ?_)
  refine jw_iincL (pc := 38) 4 (lv' := (fun y => [(4, y), (3, jI v5), (0, jR G 127), (1, jI x1), (2, jI x2)])) dX12_mayOf_38 rfl (Nat.le_of_ble_eq_true rfl) (fun _ => rfl) (fun v6 hv6 => ?_)
  refine jw_goto (pc := 41) 5 dX12_mayOf_41 (by decide) ?_
  exact jw_few [2, 3, 4, 1, 0] rfl (hr5 x1 x2 v5 v6 hx1 hx2 hv5 hv6)
def fX12_mayOf_5 (M : jw_M) : Nat → Int → Int → Int → Int → Option Int
  | 0, _, _, _, _ => none
  | k + 1, x1, x2, x3, x4 => if 0 ≤ (0 : Int) ∧ (0 : Int) < 104 then if x4 < M 131 0 then (Option.bind (fX12_mayStand x1 x2 x4 M) (fun v4 => if v4 = 0 then (fX12_mayOf_36 M (fX12_mayOf_5 M k) x1 x2 x4 0 x3) else (fX12_mayOf_36 M (fX12_mayOf_5 M k) x1 x2 x4 (jw_ishl 1 x4) x3))) else (some x3) else none
set_option maxRecDepth 100000 in
theorem pX12_mayOf_5 (G : jw_G) (M : jw_M) : ∀ (k : Nat) (x1 : Int) (x2 : Int) (x3 : Int) (x4 : Int) (hx1 : jw_r x1) (hx2 : jw_r x2) (hx3 : jw_r x3) (hx4 : jw_r x4), jw_Rn G YX12_mayOf 2 0 0 true (fun v => (v, M)) 5 [(0, jR G 127), (1, jI x1), (2, jI x2), (3, jI x3), (4, jI x4)] [] M (fX12_mayOf_5 M k x1 x2 x3 x4) := by
  intro k
  induction k with
  | zero =>
    intro x1 x2 x3 x4 hx1 hx2 hx3 hx4
    exact jw_none
  | succ k ih =>
    intro x1 x2 x3 x4 hx1 hx2 hx3 hx4
    rw [fX12_mayOf_5]
    refine jw_iload (pc := 5) 4 dX12_mayOf_5 rfl ?_
    refine jw_aloadR (pc := 7) 0 dX12_mayOf_7 rfl ?_
    refine jw_getR (pc := 8) (j := 5) rfl dX12_mayOf_8 jv_12 ji_12 (Or.inl jt_1236) jg_127 jl_127 (by decide) (by decide) rfl jf_12_5 ?_
    refine jw_iconst (pc := 11) dX12_mayOf_11 ?_
    refine jw_iald (pc := 12) dX12_mayOf_12 jg_131 jl_131 (jw_ho jg_131 (by decide)) (jw_rc _ rfl) rfl (fun h3 => ?_)
    refine jw_ic_ge (pc := 13) 44 dX12_mayOf_13 (by decide) hx4 h3 (fun _ => ?_) (fun _ => ?_)
    · refine jw_iload_n (pc := 16) 3 dX12_mayOf_16 rfl ?_
      refine jw_aloadR (pc := 17) 0 dX12_mayOf_17 rfl ?_
      refine jw_iload_n (pc := 18) 1 dX12_mayOf_18 rfl ?_
      refine jw_iload_n (pc := 19) 2 dX12_mayOf_19 rfl ?_
      refine jw_iload (pc := 20) 4 dX12_mayOf_20 rfl ?_
      refine jw_callVz (pc := 22) (As := [jI x1, jI x2, jI x4]) (st := [jI x3]) dX12_mayOf_22 rfl (Nat.le_of_ble_eq_true rfl) qX12_mayStand jt_1594 jt_1596 jp_79 rfl rfl (Nat.le_of_ble_eq_true rfl) jv_12 rfl jg_127 jl_127 (by decide) (jw_ho jg_127 (by decide)) (kX12_mayStand G x1 x2 x4 hx1 hx2 hx4 M) (fun v4 hv4 => ?_)
      refine jw_if_eq (pc := 25) 35 dX12_mayOf_25 (by decide) (jw_bz hv4) (fun _ => ?_) (fun _ => ?_)
      · refine jw_iconst (pc := 35) dX12_mayOf_35 ?_
        exact jw_few [0, 1, 2, 4] rfl (pX12_mayOf_36 G M (fX12_mayOf_5 M k) ih x1 x2 x4 0 x3 hx1 hx2 hx4 (jw_rc _ rfl) hx3)
      · refine jw_iconst (pc := 28) dX12_mayOf_28 ?_
        refine jw_iload (pc := 29) 4 dX12_mayOf_29 rfl ?_
        refine jw_ishlr (pc := 31) dX12_mayOf_31 ?_
        refine jw_goto (pc := 32) 36 dX12_mayOf_32 (by decide) ?_
        exact jw_few [0, 1, 2, 4] rfl (pX12_mayOf_36 G M (fX12_mayOf_5 M k) ih x1 x2 x4 (jw_ishl 1 x4) x3 hx1 hx2 hx4 (jw_rI _) hx3)
    · refine jw_iload_n (pc := 44) 3 dX12_mayOf_44 rfl ?_
      exact jw_ret (pc := 45) (v := x3) dX12_mayOf_45 hx3 rfl rfl
def fX12_mayOf (a1 : Int) (a2 : Int) (M : jw_M) : Option Int :=
  Option.bind (some 0) (fun v1 => Option.bind (some 0) (fun v2 => fX12_mayOf_5 M jw_fu a1 a2 v1 v2))
set_option maxRecDepth 100000 in
theorem rX12_mayOf (G : jw_G) (a1 : Int) (a2 : Int) (ha1 : jw_r a1) (ha2 : jw_r a2) (M : jw_M) : jw_Rn G YX12_mayOf 2 0 0 true (fun v => (v, M)) 0 [(0, jR G 127), (1, jI a1), (2, jI a2)] [] M (fX12_mayOf a1 a2 M) := by
  unfold fX12_mayOf
  refine jw_iconst (pc := 0) dX12_mayOf_0 ?_
  refine jw_istore_nL (pc := 1) (lv' := (fun y => [(3, y), (0, jR G 127), (1, jI a1), (2, jI a2)])) dX12_mayOf_1 (jw_rc _ rfl) (by decide) (fun _ => rfl) (fun v1 hv1 => ?_)
  refine jw_iconst (pc := 2) dX12_mayOf_2 ?_
  refine jw_istoreL (pc := 3) (lv' := (fun y => [(4, y), (3, jI v1), (0, jR G 127), (1, jI a1), (2, jI a2)])) dX12_mayOf_3 (jw_rc _ rfl) (by decide) (fun _ => rfl) (fun v2 hv2 => ?_)
  exact jw_few [2, 3, 4, 1, 0] rfl (pX12_mayOf_5 G M jw_fu a1 a2 v1 v2 ha1 ha2 hv1 hv2)
theorem kX12_mayOf (G : jw_G) (a1 : Int) (a2 : Int) (ha1 : jw_r a1) (ha2 : jw_r a2) (M : jw_M) : jw_Ct G YX12_mayOf (some .int) 2 0 0 true (fun v => (v, M)) yX12_mayOf [jR G 127, jI a1, jI a2] M (fX12_mayOf a1 a2 M) := jw_met (by decide) rfl rfl rfl (Nat.le_of_ble_eq_true rfl) (rX12_mayOf G a1 a2 ha1 ha2 M)
abbrev YX12_score : jw_Y := (RX12, cX12_score, 3, 2, "score")
theorem qX12_score : jw_cy YX12_score (some .long) yX12_score 2 := ⟨by decide, jt_1581, jt_14, by decide, by decide +kernel⟩
theorem dX12_score_0 : decode cX12_score 0 = .ok (.aload_n 0, 1) := by decide +kernel
theorem dX12_score_1 : decode cX12_score 1 = .ok (.iconst 0, 1) := by decide +kernel
theorem dX12_score_2 : decode cX12_score 2 = .ok (.putfield 71, 3) := by decide +kernel
theorem dX12_score_5 : decode cX12_score 5 = .ok (.aload_n 0, 1) := by decide +kernel
theorem dX12_score_6 : decode cX12_score 6 = .ok (.iload_n 1, 1) := by decide +kernel
theorem dX12_score_7 : decode cX12_score 7 = .ok (.invokevirtual 229, 3) := by decide +kernel
theorem dX12_score_10 : decode cX12_score 10 = .ok (.ifCond .eq 21, 3) := by decide +kernel
theorem dX12_score_13 : decode cX12_score 13 = .ok (.aload_n 0, 1) := by decide +kernel
theorem dX12_score_14 : decode cX12_score 14 = .ok (.iload_n 2, 1) := by decide +kernel
theorem dX12_score_15 : decode cX12_score 15 = .ok (.invokevirtual 224, 3) := by decide +kernel
theorem dX12_score_18 : decode cX12_score 18 = .ok (.ifCond .eq 13, 3) := by decide +kernel
theorem dX12_score_21 : decode cX12_score 21 = .ok (.aload_n 0, 1) := by decide +kernel
theorem dX12_score_22 : decode cX12_score 22 = .ok (.iload_n 1, 1) := by decide +kernel
theorem dX12_score_23 : decode cX12_score 23 = .ok (.iload_n 2, 1) := by decide +kernel
theorem dX12_score_24 : decode cX12_score 24 = .ok (.invokevirtual 285, 3) := by decide +kernel
theorem dX12_score_27 : decode cX12_score 27 = .ok (.i2l, 1) := by decide +kernel
theorem dX12_score_28 : decode cX12_score 28 = .ok (.goto 6, 3) := by decide +kernel
theorem dX12_score_31 : decode cX12_score 31 = .ok (.ldc2_w 92, 3) := by decide +kernel
theorem dX12_score_34 : decode cX12_score 34 = .ok (.lreturn, 1) := by decide +kernel
def fX12_score (a1 : Int) (a2 : Int) (M : jw_M) : Option (Int × jw_M) :=
  Option.bind (some (jw_up M 127 0 0)) (fun M1 => Option.bind (fX12_isSeller a1 M1) (fun v2 => if v2 = 0 then (some ((-9000000000000000001), M1)) else (Option.bind (fX12_isCorner a2 M1) (fun v3 => if v3 = 0 then (some ((-9000000000000000001), M1)) else (Option.bind (fX12_scoreOf a1 a2 M1) (fun v4 => some (v4, M1)))))))
set_option maxRecDepth 100000 in
theorem rX12_score (G : jw_G) (a1 : Int) (a2 : Int) (ha1 : jw_r a1) (ha2 : jw_r a2) (M : jw_M) : jw_Rn G YX12_score 4 0 0 true (fun q => q) 0 [(0, jR G 127), (1, jI a1), (2, jI a2)] [] M (fX12_score a1 a2 M) := by
  unfold fX12_score
  refine jw_aloadR (pc := 0) 0 dX12_score_0 rfl ?_
  refine jw_iconst (pc := 1) dX12_score_1 ?_
  refine jw_putI (pc := 2) (j := 0) tyX12 rfl dX12_score_2 jv_12 ji_12 tyX12_ok nmX12 (Or.inl jt_1231) rfl jg_127 jl_127 (by decide) (by decide) (jw_ho jg_127 (by decide)) rfl rfl (jw_rc _ rfl) rfl ?_
  refine jw_letM (fun M1 => ?_)
  refine jw_aloadR (pc := 5) 0 dX12_score_5 rfl ?_
  refine jw_iload_n (pc := 6) 1 dX12_score_6 rfl ?_
  refine jw_callVz (pc := 7) (As := [jI a1]) (st := []) dX12_score_7 rfl (Nat.le_of_ble_eq_true rfl) qX12_isSeller jt_1487 jt_1489 jp_64 rfl rfl (Nat.le_of_ble_eq_true rfl) jv_12 rfl jg_127 jl_127 (by decide) (jw_ho jg_127 (by decide)) (kX12_isSeller G a1 ha1 M1) (fun v2 hv2 => ?_)
  refine jw_if_eq (pc := 10) 31 dX12_score_10 (by decide) (jw_bz hv2) (fun _ => ?_) (fun _ => ?_)
  · refine jw_ldc2 (pc := 31) (n := (-9000000000000000001)) dX12_score_31 jt_1349 (by decide) ?_
    exact jw_ret (pc := 34) (v := (-9000000000000000001)) dX12_score_34 (jw_qc _ rfl) rfl rfl
  · refine jw_aloadR (pc := 13) 0 dX12_score_13 rfl ?_
    refine jw_iload_n (pc := 14) 2 dX12_score_14 rfl ?_
    refine jw_callVz (pc := 15) (As := [jI a2]) (st := []) dX12_score_15 rfl (Nat.le_of_ble_eq_true rfl) qX12_isCorner jt_1478 jt_1480 jp_63 rfl rfl (Nat.le_of_ble_eq_true rfl) jv_12 rfl jg_127 jl_127 (by decide) (jw_ho jg_127 (by decide)) (kX12_isCorner G a2 ha2 M1) (fun v3 hv3 => ?_)
    refine jw_if_eq (pc := 18) 31 dX12_score_18 (by decide) (jw_bz hv3) (fun _ => ?_) (fun _ => ?_)
    · refine jw_ldc2 (pc := 31) (n := (-9000000000000000001)) dX12_score_31 jt_1349 (by decide) ?_
      exact jw_ret (pc := 34) (v := (-9000000000000000001)) dX12_score_34 (jw_qc _ rfl) rfl rfl
    · refine jw_aloadR (pc := 21) 0 dX12_score_21 rfl ?_
      refine jw_iload_n (pc := 22) 1 dX12_score_22 rfl ?_
      refine jw_iload_n (pc := 23) 2 dX12_score_23 rfl ?_
      refine jw_callVi (pc := 24) (As := [jI a1, jI a2]) (st := []) dX12_score_24 rfl (Nat.le_of_ble_eq_true rfl) qX12_scoreOf jt_1582 jt_1584 jp_77 rfl rfl (Nat.le_of_ble_eq_true rfl) jv_12 rfl jg_127 jl_127 (by decide) (jw_ho jg_127 (by decide)) (kX12_scoreOf G a1 a2 ha1 ha2 M1) (fun v4 hv4 => ?_)
      refine jw_i2lr (pc := 27) dX12_score_27 hv4 ?_
      refine jw_goto (pc := 28) 34 dX12_score_28 (by decide) ?_
      exact jw_ret (pc := 34) (v := v4) dX12_score_34 (jw_rq hv4) rfl rfl
theorem kX12_score (G : jw_G) (a1 : Int) (a2 : Int) (ha1 : jw_r a1) (ha2 : jw_r a2) (M : jw_M) : jw_Ct G YX12_score (some .long) 4 0 0 true (fun q => q) yX12_score [jR G 127, jI a1, jI a2] M (fX12_score a1 a2 M) := jw_met (by decide) rfl rfl rfl (Nat.le_of_ble_eq_true rfl) (rX12_score G a1 a2 ha1 ha2 M)
abbrev YX12_may : jw_Y := (RX12, cX12_may, 2, 2, "may")
theorem qX12_may : jw_cy YX12_may (some .long) yX12_may 1 := ⟨by decide, jt_1589, jt_14, by decide, by decide +kernel⟩
theorem dX12_may_0 : decode cX12_may 0 = .ok (.aload_n 0, 1) := by decide +kernel
theorem dX12_may_1 : decode cX12_may 1 = .ok (.iconst 0, 1) := by decide +kernel
theorem dX12_may_2 : decode cX12_may 2 = .ok (.putfield 71, 3) := by decide +kernel
theorem dX12_may_5 : decode cX12_may 5 = .ok (.aload_n 0, 1) := by decide +kernel
theorem dX12_may_6 : decode cX12_may 6 = .ok (.iload_n 1, 1) := by decide +kernel
theorem dX12_may_7 : decode cX12_may 7 = .ok (.invokevirtual 229, 3) := by decide +kernel
theorem dX12_may_10 : decode cX12_may 10 = .ok (.ifCond .eq 21, 3) := by decide +kernel
theorem dX12_may_13 : decode cX12_may 13 = .ok (.aload_n 0, 1) := by decide +kernel
theorem dX12_may_14 : decode cX12_may 14 = .ok (.aload_n 0, 1) := by decide +kernel
theorem dX12_may_15 : decode cX12_may 15 = .ok (.getfield 19, 3) := by decide +kernel
theorem dX12_may_18 : decode cX12_may 18 = .ok (.bipush 90, 2) := by decide +kernel
theorem dX12_may_20 : decode cX12_may 20 = .ok (.iload_n 1, 1) := by decide +kernel
theorem dX12_may_21 : decode cX12_may 21 = .ok (.iadd, 1) := by decide +kernel
theorem dX12_may_22 : decode cX12_may 22 = .ok (.iaload, 1) := by decide +kernel
theorem dX12_may_23 : decode cX12_may 23 = .ok (.iload_n 1, 1) := by decide +kernel
theorem dX12_may_24 : decode cX12_may 24 = .ok (.invokevirtual 288, 3) := by decide +kernel
theorem dX12_may_27 : decode cX12_may 27 = .ok (.i2l, 1) := by decide +kernel
theorem dX12_may_28 : decode cX12_may 28 = .ok (.goto 6, 3) := by decide +kernel
theorem dX12_may_31 : decode cX12_may 31 = .ok (.ldc2_w 92, 3) := by decide +kernel
theorem dX12_may_34 : decode cX12_may 34 = .ok (.lreturn, 1) := by decide +kernel
def fX12_may (a1 : Int) (M : jw_M) : Option (Int × jw_M) :=
  Option.bind (some (jw_up M 127 0 0)) (fun M1 => Option.bind (fX12_isSeller a1 M1) (fun v2 => if v2 = 0 then (some ((-9000000000000000001), M1)) else (if 0 ≤ jw_w (90 + a1) ∧ jw_w (90 + a1) < 104 then Option.bind (fX12_mayOf (M1 131 (jw_w (90 + a1))) a1 M1) (fun v4 => some (v4, M1)) else none)))
set_option maxRecDepth 100000 in
theorem rX12_may (G : jw_G) (a1 : Int) (ha1 : jw_r a1) (M : jw_M) : jw_Rn G YX12_may 3 0 0 true (fun q => q) 0 [(0, jR G 127), (1, jI a1)] [] M (fX12_may a1 M) := by
  unfold fX12_may
  refine jw_aloadR (pc := 0) 0 dX12_may_0 rfl ?_
  refine jw_iconst (pc := 1) dX12_may_1 ?_
  refine jw_putI (pc := 2) (j := 0) tyX12 rfl dX12_may_2 jv_12 ji_12 tyX12_ok nmX12 (Or.inl jt_1231) rfl jg_127 jl_127 (by decide) (by decide) (jw_ho jg_127 (by decide)) rfl rfl (jw_rc _ rfl) rfl ?_
  refine jw_letM (fun M1 => ?_)
  refine jw_aloadR (pc := 5) 0 dX12_may_5 rfl ?_
  refine jw_iload_n (pc := 6) 1 dX12_may_6 rfl ?_
  refine jw_callVz (pc := 7) (As := [jI a1]) (st := []) dX12_may_7 rfl (Nat.le_of_ble_eq_true rfl) qX12_isSeller jt_1487 jt_1489 jp_64 rfl rfl (Nat.le_of_ble_eq_true rfl) jv_12 rfl jg_127 jl_127 (by decide) (jw_ho jg_127 (by decide)) (kX12_isSeller G a1 ha1 M1) (fun v2 hv2 => ?_)
  refine jw_if_eq (pc := 10) 31 dX12_may_10 (by decide) (jw_bz hv2) (fun _ => ?_) (fun _ => ?_)
  · refine jw_ldc2 (pc := 31) (n := (-9000000000000000001)) dX12_may_31 jt_1349 (by decide) ?_
    exact jw_ret (pc := 34) (v := (-9000000000000000001)) dX12_may_34 (jw_qc _ rfl) rfl rfl
  · refine jw_aloadR (pc := 13) 0 dX12_may_13 rfl ?_
    refine jw_aloadR (pc := 14) 0 dX12_may_14 rfl ?_
    refine jw_getR (pc := 15) (j := 5) rfl dX12_may_15 jv_12 ji_12 (Or.inl jt_1236) jg_127 jl_127 (by decide) (by decide) rfl jf_12_5 ?_
    refine jw_bipush (pc := 18) dX12_may_18 rfl ?_
    refine jw_iload_n (pc := 20) 1 dX12_may_20 rfl ?_
    refine jw_iadd (pc := 21) dX12_may_21 ?_
    refine jw_iald (pc := 22) dX12_may_22 jg_131 jl_131 (jw_ho jg_131 (by decide)) (jw_wr _) rfl (fun h3 => ?_)
    refine jw_iload_n (pc := 23) 1 dX12_may_23 rfl ?_
    refine jw_callVi (pc := 24) (As := [jI (M1 131 (jw_w (90 + a1))), jI a1]) (st := []) dX12_may_24 rfl (Nat.le_of_ble_eq_true rfl) qX12_mayOf jt_1590 jt_1592 jp_78 rfl rfl (Nat.le_of_ble_eq_true rfl) jv_12 rfl jg_127 jl_127 (by decide) (jw_ho jg_127 (by decide)) (kX12_mayOf G (M1 131 (jw_w (90 + a1))) a1 h3 ha1 M1) (fun v4 hv4 => ?_)
    refine jw_i2lr (pc := 27) dX12_may_27 hv4 ?_
    refine jw_goto (pc := 28) 34 dX12_may_28 (by decide) ?_
    exact jw_ret (pc := 34) (v := v4) dX12_may_34 (jw_rq hv4) rfl rfl
theorem kX12_may (G : jw_G) (a1 : Int) (ha1 : jw_r a1) (M : jw_M) : jw_Ct G YX12_may (some .long) 3 0 0 true (fun q => q) yX12_may [jR G 127, jI a1] M (fX12_may a1 M) := jw_met (by decide) rfl rfl rfl (Nat.le_of_ble_eq_true rfl) (rX12_may G a1 ha1 M)
abbrev YX12_newcomer : jw_Y := (RX12, cX12_newcomer, 2, 2, "newcomer")
theorem qX12_newcomer : jw_cy YX12_newcomer (some .long) yX12_newcomer 1 := ⟨by decide, jt_1601, jt_14, by decide, by decide +kernel⟩
theorem dX12_newcomer_0 : decode cX12_newcomer 0 = .ok (.aload_n 0, 1) := by decide +kernel
theorem dX12_newcomer_1 : decode cX12_newcomer 1 = .ok (.iconst 0, 1) := by decide +kernel
theorem dX12_newcomer_2 : decode cX12_newcomer 2 = .ok (.putfield 71, 3) := by decide +kernel
theorem dX12_newcomer_5 : decode cX12_newcomer 5 = .ok (.iload_n 1, 1) := by decide +kernel
theorem dX12_newcomer_6 : decode cX12_newcomer 6 = .ok (.i2l, 1) := by decide +kernel
theorem dX12_newcomer_7 : decode cX12_newcomer 7 = .ok (.lconst 0, 1) := by decide +kernel
theorem dX12_newcomer_8 : decode cX12_newcomer 8 = .ok (.aload_n 0, 1) := by decide +kernel
theorem dX12_newcomer_9 : decode cX12_newcomer 9 = .ok (.getfield 19, 3) := by decide +kernel
theorem dX12_newcomer_12 : decode cX12_newcomer 12 = .ok (.iconst 2, 1) := by decide +kernel
theorem dX12_newcomer_13 : decode cX12_newcomer 13 = .ok (.iaload, 1) := by decide +kernel
theorem dX12_newcomer_14 : decode cX12_newcomer 14 = .ok (.iconst 1, 1) := by decide +kernel
theorem dX12_newcomer_15 : decode cX12_newcomer 15 = .ok (.isub, 1) := by decide +kernel
theorem dX12_newcomer_16 : decode cX12_newcomer 16 = .ok (.i2l, 1) := by decide +kernel
theorem dX12_newcomer_17 : decode cX12_newcomer 17 = .ok (.invokestatic 82, 3) := by decide +kernel
theorem dX12_newcomer_20 : decode cX12_newcomer 20 = .ok (.ifCond .eq 14, 3) := by decide +kernel
theorem dX12_newcomer_23 : decode cX12_newcomer 23 = .ok (.aload_n 0, 1) := by decide +kernel
theorem dX12_newcomer_24 : decode cX12_newcomer 24 = .ok (.iload_n 1, 1) := by decide +kernel
theorem dX12_newcomer_25 : decode cX12_newcomer 25 = .ok (.ldc 110, 2) := by decide +kernel
theorem dX12_newcomer_27 : decode cX12_newcomer 27 = .ok (.invokevirtual 288, 3) := by decide +kernel
theorem dX12_newcomer_30 : decode cX12_newcomer 30 = .ok (.i2l, 1) := by decide +kernel
theorem dX12_newcomer_31 : decode cX12_newcomer 31 = .ok (.goto 6, 3) := by decide +kernel
theorem dX12_newcomer_34 : decode cX12_newcomer 34 = .ok (.ldc2_w 92, 3) := by decide +kernel
theorem dX12_newcomer_37 : decode cX12_newcomer 37 = .ok (.lreturn, 1) := by decide +kernel
def fX12_newcomer (a1 : Int) (M : jw_M) : Option (Int × jw_M) :=
  Option.bind (some (jw_up M 127 0 0)) (fun M1 => if 0 ≤ (2 : Int) ∧ (2 : Int) < 104 then Option.bind (fX12_in a1 0 (jw_w ((M1 131 2) - 1)) M1) (fun v3 => if v3 = 0 then (some ((-9000000000000000001), M1)) else (Option.bind (fX12_mayOf a1 (-1000000) M1) (fun v4 => some (v4, M1)))) else none)
set_option maxRecDepth 100000 in
theorem rX12_newcomer (G : jw_G) (a1 : Int) (ha1 : jw_r a1) (M : jw_M) : jw_Rn G YX12_newcomer 3 0 0 true (fun q => q) 0 [(0, jR G 127), (1, jI a1)] [] M (fX12_newcomer a1 M) := by
  unfold fX12_newcomer
  refine jw_aloadR (pc := 0) 0 dX12_newcomer_0 rfl ?_
  refine jw_iconst (pc := 1) dX12_newcomer_1 ?_
  refine jw_putI (pc := 2) (j := 0) tyX12 rfl dX12_newcomer_2 jv_12 ji_12 tyX12_ok nmX12 (Or.inl jt_1231) rfl jg_127 jl_127 (by decide) (by decide) (jw_ho jg_127 (by decide)) rfl rfl (jw_rc _ rfl) rfl ?_
  refine jw_letM (fun M1 => ?_)
  refine jw_iload_n (pc := 5) 1 dX12_newcomer_5 rfl ?_
  refine jw_i2lr (pc := 6) dX12_newcomer_6 ha1 ?_
  refine jw_lconst (pc := 7) (z := 0) dX12_newcomer_7 rfl ?_
  refine jw_aloadR (pc := 8) 0 dX12_newcomer_8 rfl ?_
  refine jw_getR (pc := 9) (j := 5) rfl dX12_newcomer_9 jv_12 ji_12 (Or.inl jt_1236) jg_127 jl_127 (by decide) (by decide) rfl jf_12_5 ?_
  refine jw_iconst (pc := 12) dX12_newcomer_12 ?_
  refine jw_iald (pc := 13) dX12_newcomer_13 jg_131 jl_131 (jw_ho jg_131 (by decide)) (jw_rc _ rfl) rfl (fun h2 => ?_)
  refine jw_iconst (pc := 14) dX12_newcomer_14 ?_
  refine jw_isub (pc := 15) dX12_newcomer_15 ?_
  refine jw_i2lr (pc := 16) dX12_newcomer_16 (jw_wr _) ?_
  refine jw_callSz (pc := 17) (As := [jL a1, jL 0, jL (jw_w ((M1 131 2) - 1))]) (st := []) dX12_newcomer_17 rfl (Nat.le_of_ble_eq_true rfl) qX12_in jt_1345 jt_1346 rfl rfl (Nat.le_of_ble_eq_true rfl) (kX12_in G a1 0 (jw_w ((M1 131 2) - 1)) (jw_rq ha1) (jw_qc _ rfl) (jw_rq (jw_wr _)) M1) (fun v3 hv3 => ?_)
  refine jw_if_eq (pc := 20) 34 dX12_newcomer_20 (by decide) (jw_bz hv3) (fun _ => ?_) (fun _ => ?_)
  · refine jw_ldc2 (pc := 34) (n := (-9000000000000000001)) dX12_newcomer_34 jt_1349 (by decide) ?_
    exact jw_ret (pc := 37) (v := (-9000000000000000001)) dX12_newcomer_37 (jw_qc _ rfl) rfl rfl
  · refine jw_aloadR (pc := 23) 0 dX12_newcomer_23 rfl ?_
    refine jw_iload_n (pc := 24) 1 dX12_newcomer_24 rfl ?_
    refine jw_ldc (pc := 25) (n := (-1000000)) dX12_newcomer_25 jt_1386 (by decide) ?_
    refine jw_callVi (pc := 27) (As := [jI a1, jI (-1000000)]) (st := []) dX12_newcomer_27 rfl (Nat.le_of_ble_eq_true rfl) qX12_mayOf jt_1590 jt_1592 jp_78 rfl rfl (Nat.le_of_ble_eq_true rfl) jv_12 rfl jg_127 jl_127 (by decide) (jw_ho jg_127 (by decide)) (kX12_mayOf G a1 (-1000000) ha1 (jw_rc _ rfl) M1) (fun v4 hv4 => ?_)
    refine jw_i2lr (pc := 30) dX12_newcomer_30 hv4 ?_
    refine jw_goto (pc := 31) 37 dX12_newcomer_31 (by decide) ?_
    exact jw_ret (pc := 37) (v := v4) dX12_newcomer_37 (jw_rq hv4) rfl rfl
theorem kX12_newcomer (G : jw_G) (a1 : Int) (ha1 : jw_r a1) (M : jw_M) : jw_Ct G YX12_newcomer (some .long) 3 0 0 true (fun q => q) yX12_newcomer [jR G 127, jI a1] M (fX12_newcomer a1 M) := jw_met (by decide) rfl rfl rfl (Nat.le_of_ble_eq_true rfl) (rX12_newcomer G a1 ha1 M)
abbrev YX12_bestOf : jw_Y := (RX12, cX12_bestOf, 7, 1, "bestOf")
theorem qX12_bestOf : jw_cy YX12_bestOf (some .int) yX12_bestOf 1 := ⟨by decide, jt_1613, jt_14, by decide, by decide +kernel⟩
theorem dX12_bestOf_0 : decode cX12_bestOf 0 = .ok (.aload_n 0, 1) := by decide +kernel
theorem dX12_bestOf_1 : decode cX12_bestOf 1 = .ok (.aload_n 0, 1) := by decide +kernel
theorem dX12_bestOf_2 : decode cX12_bestOf 2 = .ok (.getfield 19, 3) := by decide +kernel
theorem dX12_bestOf_5 : decode cX12_bestOf 5 = .ok (.bipush 90, 2) := by decide +kernel
theorem dX12_bestOf_7 : decode cX12_bestOf 7 = .ok (.iload_n 1, 1) := by decide +kernel
theorem dX12_bestOf_8 : decode cX12_bestOf 8 = .ok (.iadd, 1) := by decide +kernel
theorem dX12_bestOf_9 : decode cX12_bestOf 9 = .ok (.iaload, 1) := by decide +kernel
theorem dX12_bestOf_10 : decode cX12_bestOf 10 = .ok (.iload_n 1, 1) := by decide +kernel
theorem dX12_bestOf_11 : decode cX12_bestOf 11 = .ok (.invokevirtual 288, 3) := by decide +kernel
theorem dX12_bestOf_14 : decode cX12_bestOf 14 = .ok (.istore_n 2, 1) := by decide +kernel
theorem dX12_bestOf_15 : decode cX12_bestOf 15 = .ok (.aload_n 0, 1) := by decide +kernel
theorem dX12_bestOf_16 : decode cX12_bestOf 16 = .ok (.getfield 25, 3) := by decide +kernel
theorem dX12_bestOf_19 : decode cX12_bestOf 19 = .ok (.iconst 0, 1) := by decide +kernel
theorem dX12_bestOf_20 : decode cX12_bestOf 20 = .ok (.iload_n 1, 1) := by decide +kernel
theorem dX12_bestOf_21 : decode cX12_bestOf 21 = .ok (.iadd, 1) := by decide +kernel
theorem dX12_bestOf_22 : decode cX12_bestOf 22 = .ok (.iaload, 1) := by decide +kernel
theorem dX12_bestOf_23 : decode cX12_bestOf 23 = .ok (.istore_n 3, 1) := by decide +kernel
theorem dX12_bestOf_24 : decode cX12_bestOf 24 = .ok (.aload_n 0, 1) := by decide +kernel
theorem dX12_bestOf_25 : decode cX12_bestOf 25 = .ok (.iload_n 1, 1) := by decide +kernel
theorem dX12_bestOf_26 : decode cX12_bestOf 26 = .ok (.iload_n 3, 1) := by decide +kernel
theorem dX12_bestOf_27 : decode cX12_bestOf 27 = .ok (.invokevirtual 285, 3) := by decide +kernel
theorem dX12_bestOf_30 : decode cX12_bestOf 30 = .ok (.istore 4, 2) := by decide +kernel
theorem dX12_bestOf_32 : decode cX12_bestOf 32 = .ok (.iconst 0, 1) := by decide +kernel
theorem dX12_bestOf_33 : decode cX12_bestOf 33 = .ok (.istore 5, 2) := by decide +kernel
theorem dX12_bestOf_35 : decode cX12_bestOf 35 = .ok (.iload 5, 2) := by decide +kernel
theorem dX12_bestOf_37 : decode cX12_bestOf 37 = .ok (.aload_n 0, 1) := by decide +kernel
theorem dX12_bestOf_38 : decode cX12_bestOf 38 = .ok (.getfield 19, 3) := by decide +kernel
theorem dX12_bestOf_41 : decode cX12_bestOf 41 = .ok (.iconst 0, 1) := by decide +kernel
theorem dX12_bestOf_42 : decode cX12_bestOf 42 = .ok (.iaload, 1) := by decide +kernel
theorem dX12_bestOf_43 : decode cX12_bestOf 43 = .ok (.if_icmp .ge 42, 3) := by decide +kernel
theorem dX12_bestOf_46 : decode cX12_bestOf 46 = .ok (.aload_n 0, 1) := by decide +kernel
theorem dX12_bestOf_47 : decode cX12_bestOf 47 = .ok (.iload_n 1, 1) := by decide +kernel
theorem dX12_bestOf_48 : decode cX12_bestOf 48 = .ok (.iload 5, 2) := by decide +kernel
theorem dX12_bestOf_50 : decode cX12_bestOf 50 = .ok (.invokevirtual 285, 3) := by decide +kernel
theorem dX12_bestOf_53 : decode cX12_bestOf 53 = .ok (.istore 6, 2) := by decide +kernel
theorem dX12_bestOf_55 : decode cX12_bestOf 55 = .ok (.iload_n 2, 1) := by decide +kernel
theorem dX12_bestOf_56 : decode cX12_bestOf 56 = .ok (.iload 5, 2) := by decide +kernel
theorem dX12_bestOf_58 : decode cX12_bestOf 58 = .ok (.ishr, 1) := by decide +kernel
theorem dX12_bestOf_59 : decode cX12_bestOf 59 = .ok (.iconst 1, 1) := by decide +kernel
theorem dX12_bestOf_60 : decode cX12_bestOf 60 = .ok (.iand, 1) := by decide +kernel
theorem dX12_bestOf_61 : decode cX12_bestOf 61 = .ok (.iconst 1, 1) := by decide +kernel
theorem dX12_bestOf_62 : decode cX12_bestOf 62 = .ok (.if_icmp .ne 17, 3) := by decide +kernel
theorem dX12_bestOf_65 : decode cX12_bestOf 65 = .ok (.iload 6, 2) := by decide +kernel
theorem dX12_bestOf_67 : decode cX12_bestOf 67 = .ok (.iload 4, 2) := by decide +kernel
theorem dX12_bestOf_69 : decode cX12_bestOf 69 = .ok (.if_icmp .le 10, 3) := by decide +kernel
theorem dX12_bestOf_72 : decode cX12_bestOf 72 = .ok (.iload 5, 2) := by decide +kernel
theorem dX12_bestOf_74 : decode cX12_bestOf 74 = .ok (.istore_n 3, 1) := by decide +kernel
theorem dX12_bestOf_75 : decode cX12_bestOf 75 = .ok (.iload 6, 2) := by decide +kernel
theorem dX12_bestOf_77 : decode cX12_bestOf 77 = .ok (.istore 4, 2) := by decide +kernel
theorem dX12_bestOf_79 : decode cX12_bestOf 79 = .ok (.iinc 5 1, 3) := by decide +kernel
theorem dX12_bestOf_82 : decode cX12_bestOf 82 = .ok (.goto (-47), 3) := by decide +kernel
theorem dX12_bestOf_85 : decode cX12_bestOf 85 = .ok (.iload_n 3, 1) := by decide +kernel
theorem dX12_bestOf_86 : decode cX12_bestOf 86 = .ok (.ireturn, 1) := by decide +kernel
def fX12_bestOf_79 (M : jw_M) (r35 : Int → Int → Int → Int → Int → Option Int) (x1 : Int) (x2 : Int) (x3 : Int) (x4 : Int) (x5 : Int) : Option Int :=
  Option.bind (some (jw_w (x5 + 1))) (fun v14 => r35 x1 x2 x3 x4 v14)
set_option maxRecDepth 100000 in
theorem pX12_bestOf_79 (G : jw_G) (M : jw_M) (r35 : Int → Int → Int → Int → Int → Option Int) (hr35 : ∀ (x1 : Int) (x2 : Int) (x3 : Int) (x4 : Int) (x5 : Int) (hx1 : jw_r x1) (hx2 : jw_r x2) (hx3 : jw_r x3) (hx4 : jw_r x4) (hx5 : jw_r x5), jw_Rn G YX12_bestOf 4 0 0 true (fun v => (v, M)) 35 [(0, jR G 127), (1, jI x1), (2, jI x2), (3, jI x3), (4, jI x4), (5, jI x5)] [] M (r35 x1 x2 x3 x4 x5)) : ∀ (x1 : Int) (x2 : Int) (x3 : Int) (x4 : Int) (x5 : Int) (hx1 : jw_r x1) (hx2 : jw_r x2) (hx3 : jw_r x3) (hx4 : jw_r x4) (hx5 : jw_r x5), jw_Rn G YX12_bestOf 4 0 0 true (fun v => (v, M)) 79 [(0, jR G 127), (1, jI x1), (2, jI x2), (3, jI x3), (4, jI x4), (5, jI x5)] [] M (fX12_bestOf_79 M r35 x1 x2 x3 x4 x5) := by
  intro x1 x2 x3 x4 x5 hx1 hx2 hx3 hx4 hx5
  unfold fX12_bestOf_79
  refine jw_iincL (pc := 79) 5 (lv' := (fun y => [(5, y), (0, jR G 127), (1, jI x1), (2, jI x2), (3, jI x3), (4, jI x4)])) dX12_bestOf_79 rfl (Nat.le_of_ble_eq_true rfl) (fun _ => rfl) (fun v14 hv14 => ?_)
  refine jw_goto (pc := 82) 35 dX12_bestOf_82 (by decide) ?_
  exact jw_few [1, 2, 3, 4, 5, 0] rfl (hr35 x1 x2 x3 x4 v14 hx1 hx2 hx3 hx4 hv14)
def fX12_bestOf_35 (M : jw_M) : Nat → Int → Int → Int → Int → Int → Option Int
  | 0, _, _, _, _, _ => none
  | k + 1, x1, x2, x3, x4, x5 => if 0 ≤ (0 : Int) ∧ (0 : Int) < 104 then if x5 < M 131 0 then (Option.bind (fX12_scoreOf x1 x5 M) (fun v10 => Option.bind (some v10) (fun v11 => if jw_iand (jw_ishr x2 x5) 1 = 1 then (if x4 < v11 then (Option.bind (some x5) (fun v12 => Option.bind (some v11) (fun v13 => fX12_bestOf_79 M (fX12_bestOf_35 M k) x1 x2 v12 v13 x5))) else (fX12_bestOf_79 M (fX12_bestOf_35 M k) x1 x2 x3 x4 x5)) else (fX12_bestOf_79 M (fX12_bestOf_35 M k) x1 x2 x3 x4 x5)))) else (some x3) else none
set_option maxRecDepth 100000 in
theorem pX12_bestOf_35 (G : jw_G) (M : jw_M) : ∀ (k : Nat) (x1 : Int) (x2 : Int) (x3 : Int) (x4 : Int) (x5 : Int) (hx1 : jw_r x1) (hx2 : jw_r x2) (hx3 : jw_r x3) (hx4 : jw_r x4) (hx5 : jw_r x5), jw_Rn G YX12_bestOf 4 0 0 true (fun v => (v, M)) 35 [(0, jR G 127), (1, jI x1), (2, jI x2), (3, jI x3), (4, jI x4), (5, jI x5)] [] M (fX12_bestOf_35 M k x1 x2 x3 x4 x5) := by
  intro k
  induction k with
  | zero =>
    intro x1 x2 x3 x4 x5 hx1 hx2 hx3 hx4 hx5
    exact jw_none
  | succ k ih =>
    intro x1 x2 x3 x4 x5 hx1 hx2 hx3 hx4 hx5
    rw [fX12_bestOf_35]
    refine jw_iload (pc := 35) 5 dX12_bestOf_35 rfl ?_
    refine jw_aloadR (pc := 37) 0 dX12_bestOf_37 rfl ?_
    refine jw_getR (pc := 38) (j := 5) rfl dX12_bestOf_38 jv_12 ji_12 (Or.inl jt_1236) jg_127 jl_127 (by decide) (by decide) rfl jf_12_5 ?_
    refine jw_iconst (pc := 41) dX12_bestOf_41 ?_
    refine jw_iald (pc := 42) dX12_bestOf_42 jg_131 jl_131 (jw_ho jg_131 (by decide)) (jw_rc _ rfl) rfl (fun h9 => ?_)
    refine jw_ic_ge (pc := 43) 85 dX12_bestOf_43 (by decide) hx5 h9 (fun _ => ?_) (fun _ => ?_)
    · refine jw_aloadR (pc := 46) 0 dX12_bestOf_46 rfl ?_
      refine jw_iload_n (pc := 47) 1 dX12_bestOf_47 rfl ?_
      refine jw_iload (pc := 48) 5 dX12_bestOf_48 rfl ?_
      refine jw_callVi (pc := 50) (As := [jI x1, jI x5]) (st := []) dX12_bestOf_50 rfl (Nat.le_of_ble_eq_true rfl) qX12_scoreOf jt_1582 jt_1584 jp_77 rfl rfl (Nat.le_of_ble_eq_true rfl) jv_12 rfl jg_127 jl_127 (by decide) (jw_ho jg_127 (by decide)) (kX12_scoreOf G x1 x5 hx1 hx5 M) (fun v10 hv10 => ?_)
      refine jw_istoreL (pc := 53) (lv' := (fun y => [(6, y), (0, jR G 127), (1, jI x1), (2, jI x2), (3, jI x3), (4, jI x4), (5, jI x5)])) dX12_bestOf_53 hv10 (by decide) (fun _ => rfl) (fun v11 hv11 => ?_)
      refine jw_iload_n (pc := 55) 3 dX12_bestOf_55 rfl ?_
      refine jw_iload (pc := 56) 6 dX12_bestOf_56 rfl ?_
      refine jw_ishrr (pc := 58) dX12_bestOf_58 ?_
      refine jw_iconst (pc := 59) dX12_bestOf_59 ?_
      refine jw_iandr (pc := 60) dX12_bestOf_60 ?_
      refine jw_iconst (pc := 61) dX12_bestOf_61 ?_
      refine jw_ic_ne (pc := 62) 79 dX12_bestOf_62 (by decide) (jw_rI _) (jw_rc _ rfl) (fun _ => ?_) (fun _ => ?_)
      · refine jw_iload (pc := 65) 0 dX12_bestOf_65 rfl ?_
        refine jw_iload (pc := 67) 5 dX12_bestOf_67 rfl ?_
        refine jw_ic_le (pc := 69) 79 dX12_bestOf_69 (by decide) hv11 hx4 (fun _ => ?_) (fun _ => ?_)
        · refine jw_iload (pc := 72) 6 dX12_bestOf_72 rfl ?_
          refine jw_istore_nL (pc := 74) (lv' := (fun y => [(3, y), (6, jI v11), (0, jR G 127), (1, jI x1), (2, jI x2), (4, jI x4), (5, jI x5)])) dX12_bestOf_74 hx5 (by decide) (fun _ => rfl) (fun v12 hv12 => ?_)
          refine jw_iload (pc := 75) 1 dX12_bestOf_75 rfl ?_
          refine jw_istoreL (pc := 77) (lv' := (fun y => [(4, y), (3, jI v12), (6, jI v11), (0, jR G 127), (1, jI x1), (2, jI x2), (5, jI x5)])) dX12_bestOf_77 hv11 (by decide) (fun _ => rfl) (fun v13 hv13 => ?_)
          exact jw_few [3, 4, 5, 1, 0, 6] rfl (pX12_bestOf_79 G M (fX12_bestOf_35 M k) ih x1 x2 v12 v13 x5 hx1 hx2 hv12 hv13 hx5)
        · exact jw_few [1, 2, 3, 4, 5, 6] rfl (pX12_bestOf_79 G M (fX12_bestOf_35 M k) ih x1 x2 x3 x4 x5 hx1 hx2 hx3 hx4 hx5)
      · exact jw_few [1, 2, 3, 4, 5, 6] rfl (pX12_bestOf_79 G M (fX12_bestOf_35 M k) ih x1 x2 x3 x4 x5 hx1 hx2 hx3 hx4 hx5)
    · refine jw_iload_n (pc := 85) 3 dX12_bestOf_85 rfl ?_
      exact jw_ret (pc := 86) (v := x3) dX12_bestOf_86 hx3 rfl rfl
def fX12_bestOf (a1 : Int) (M : jw_M) : Option Int :=
  if 0 ≤ jw_w (90 + a1) ∧ jw_w (90 + a1) < 104 then Option.bind (fX12_mayOf (M 131 (jw_w (90 + a1))) a1 M) (fun v2 => Option.bind (some v2) (fun v3 => if 0 ≤ jw_w (0 + a1) ∧ jw_w (0 + a1) < 104 then Option.bind (some (M 133 (jw_w (0 + a1)))) (fun v5 => Option.bind (fX12_scoreOf a1 v5 M) (fun v6 => Option.bind (some v6) (fun v7 => Option.bind (some 0) (fun v8 => fX12_bestOf_35 M jw_fu a1 v3 v5 v7 v8)))) else none)) else none
set_option maxRecDepth 100000 in
theorem rX12_bestOf (G : jw_G) (a1 : Int) (ha1 : jw_r a1) (M : jw_M) : jw_Rn G YX12_bestOf 4 0 0 true (fun v => (v, M)) 0 [(0, jR G 127), (1, jI a1)] [] M (fX12_bestOf a1 M) := by
  unfold fX12_bestOf
  refine jw_aloadR (pc := 0) 0 dX12_bestOf_0 rfl ?_
  refine jw_aloadR (pc := 1) 0 dX12_bestOf_1 rfl ?_
  refine jw_getR (pc := 2) (j := 5) rfl dX12_bestOf_2 jv_12 ji_12 (Or.inl jt_1236) jg_127 jl_127 (by decide) (by decide) rfl jf_12_5 ?_
  refine jw_bipush (pc := 5) dX12_bestOf_5 rfl ?_
  refine jw_iload_n (pc := 7) 1 dX12_bestOf_7 rfl ?_
  refine jw_iadd (pc := 8) dX12_bestOf_8 ?_
  refine jw_iald (pc := 9) dX12_bestOf_9 jg_131 jl_131 (jw_ho jg_131 (by decide)) (jw_wr _) rfl (fun h1 => ?_)
  refine jw_iload_n (pc := 10) 1 dX12_bestOf_10 rfl ?_
  refine jw_callVi (pc := 11) (As := [jI (M 131 (jw_w (90 + a1))), jI a1]) (st := []) dX12_bestOf_11 rfl (Nat.le_of_ble_eq_true rfl) qX12_mayOf jt_1590 jt_1592 jp_78 rfl rfl (Nat.le_of_ble_eq_true rfl) jv_12 rfl jg_127 jl_127 (by decide) (jw_ho jg_127 (by decide)) (kX12_mayOf G (M 131 (jw_w (90 + a1))) a1 h1 ha1 M) (fun v2 hv2 => ?_)
  refine jw_istore_nL (pc := 14) (lv' := (fun y => [(2, y), (0, jR G 127), (1, jI a1)])) dX12_bestOf_14 hv2 (by decide) (fun _ => rfl) (fun v3 hv3 => ?_)
  refine jw_aloadR (pc := 15) 1 dX12_bestOf_15 rfl ?_
  refine jw_getR (pc := 16) (j := 8) rfl dX12_bestOf_16 jv_12 ji_12 (Or.inl jt_1239) jg_127 jl_127 (by decide) (by decide) rfl jf_12_8 ?_
  refine jw_iconst (pc := 19) dX12_bestOf_19 ?_
  refine jw_iload_n (pc := 20) 2 dX12_bestOf_20 rfl ?_
  refine jw_iadd (pc := 21) dX12_bestOf_21 ?_
  refine jw_iald (pc := 22) dX12_bestOf_22 jg_133 jl_133 (jw_ho jg_133 (by decide)) (jw_wr _) rfl (fun h4 => ?_)
  refine jw_istore_nL (pc := 23) (lv' := (fun y => [(3, y), (2, jI v3), (0, jR G 127), (1, jI a1)])) dX12_bestOf_23 h4 (by decide) (fun _ => rfl) (fun v5 hv5 => ?_)
  refine jw_aloadR (pc := 24) 2 dX12_bestOf_24 rfl ?_
  refine jw_iload_n (pc := 25) 3 dX12_bestOf_25 rfl ?_
  refine jw_iload_n (pc := 26) 0 dX12_bestOf_26 rfl ?_
  refine jw_callVi (pc := 27) (As := [jI a1, jI v5]) (st := []) dX12_bestOf_27 rfl (Nat.le_of_ble_eq_true rfl) qX12_scoreOf jt_1582 jt_1584 jp_77 rfl rfl (Nat.le_of_ble_eq_true rfl) jv_12 rfl jg_127 jl_127 (by decide) (jw_ho jg_127 (by decide)) (kX12_scoreOf G a1 v5 ha1 hv5 M) (fun v6 hv6 => ?_)
  refine jw_istoreL (pc := 30) (lv' := (fun y => [(4, y), (3, jI v5), (2, jI v3), (0, jR G 127), (1, jI a1)])) dX12_bestOf_30 hv6 (by decide) (fun _ => rfl) (fun v7 hv7 => ?_)
  refine jw_iconst (pc := 32) dX12_bestOf_32 ?_
  refine jw_istoreL (pc := 33) (lv' := (fun y => [(5, y), (4, jI v7), (3, jI v5), (2, jI v3), (0, jR G 127), (1, jI a1)])) dX12_bestOf_33 (jw_rc _ rfl) (by decide) (fun _ => rfl) (fun v8 hv8 => ?_)
  exact jw_few [4, 5, 3, 2, 1, 0] rfl (pX12_bestOf_35 G M jw_fu a1 v3 v5 v7 v8 ha1 hv3 hv5 hv7 hv8)
theorem kX12_bestOf (G : jw_G) (a1 : Int) (ha1 : jw_r a1) (M : jw_M) : jw_Ct G YX12_bestOf (some .int) 4 0 0 true (fun v => (v, M)) yX12_bestOf [jR G 127, jI a1] M (fX12_bestOf a1 M) := jw_met (by decide) rfl rfl rfl (Nat.le_of_ble_eq_true rfl) (rX12_bestOf G a1 ha1 M)
