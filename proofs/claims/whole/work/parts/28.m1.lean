abbrev YX12_in : jw_Y := (RX12, cX12_in, 6, 4, "in")
theorem qX12_in : jw_cy YX12_in (some .boolean) yX12_in 3 := ⟨by decide, jt_1347, jt_14, by decide, by decide +kernel⟩
theorem dX12_in_0 : decode cX12_in 0 = .ok (.lload_n 0, 1) := by decide +kernel
theorem dX12_in_1 : decode cX12_in 1 = .ok (.lload_n 2, 1) := by decide +kernel
theorem dX12_in_2 : decode cX12_in 2 = .ok (.lcmp, 1) := by decide +kernel
theorem dX12_in_3 : decode cX12_in 3 = .ok (.ifCond .lt 14, 3) := by decide +kernel
theorem dX12_in_6 : decode cX12_in 6 = .ok (.lload_n 0, 1) := by decide +kernel
theorem dX12_in_7 : decode cX12_in 7 = .ok (.lload 4, 2) := by decide +kernel
theorem dX12_in_9 : decode cX12_in 9 = .ok (.lcmp, 1) := by decide +kernel
theorem dX12_in_10 : decode cX12_in 10 = .ok (.ifCond .gt 7, 3) := by decide +kernel
theorem dX12_in_13 : decode cX12_in 13 = .ok (.iconst 1, 1) := by decide +kernel
theorem dX12_in_14 : decode cX12_in 14 = .ok (.goto 4, 3) := by decide +kernel
theorem dX12_in_17 : decode cX12_in 17 = .ok (.iconst 0, 1) := by decide +kernel
theorem dX12_in_18 : decode cX12_in 18 = .ok (.ireturn, 1) := by decide +kernel
def fX12_in (a1 : Int) (a2 : Int) (a3 : Int) (M : jw_M) : Option Int :=
  if jw_cmp a1 a2 < 0 then (some 0) else (if (0 : Int) < jw_cmp a1 a3 then (some 0) else (some 1))
set_option maxRecDepth 100000 in
theorem rX12_in (G : jw_G) (a1 : Int) (a2 : Int) (a3 : Int) (ha1 : jw_q a1) (ha2 : jw_q a2) (ha3 : jw_q a3) (M : jw_M) : jw_Rn G YX12_in 1 0 0 true (fun v => (v, M)) 0 [(0, jL a1), (2, jL a2), (4, jL a3)] [] M (fX12_in a1 a2 a3 M) := by
  unfold fX12_in
  refine jw_lload_n (pc := 0) 0 dX12_in_0 rfl ?_
  refine jw_lload_n (pc := 1) 1 dX12_in_1 rfl ?_
  refine jw_lcmp (pc := 2) dX12_in_2 ha1 ha2 ?_
  refine jw_if_lt (pc := 3) 17 dX12_in_3 (by decide) (jw_cmpr _ _) (fun _ => ?_) (fun _ => ?_)
  · refine jw_iconst (pc := 17) dX12_in_17 ?_
    exact jw_ret (pc := 18) (v := 0) dX12_in_18 (Or.inl rfl) rfl rfl
  · refine jw_lload_n (pc := 6) 0 dX12_in_6 rfl ?_
    refine jw_lload (pc := 7) 2 dX12_in_7 rfl ?_
    refine jw_lcmp (pc := 9) dX12_in_9 ha1 ha3 ?_
    refine jw_if_gt (pc := 10) 17 dX12_in_10 (by decide) (jw_cmpr _ _) (fun _ => ?_) (fun _ => ?_)
    · refine jw_iconst (pc := 17) dX12_in_17 ?_
      exact jw_ret (pc := 18) (v := 0) dX12_in_18 (Or.inl rfl) rfl rfl
    · refine jw_iconst (pc := 13) dX12_in_13 ?_
      refine jw_goto (pc := 14) 18 dX12_in_14 (by decide) ?_
      exact jw_ret (pc := 18) (v := 1) dX12_in_18 (Or.inr rfl) rfl rfl
theorem kX12_in (G : jw_G) (a1 : Int) (a2 : Int) (a3 : Int) (ha1 : jw_q a1) (ha2 : jw_q a2) (ha3 : jw_q a3) (M : jw_M) : jw_Ct G YX12_in (some .boolean) 1 0 0 true (fun v => (v, M)) yX12_in [jL a1, jL a2, jL a3] M (fX12_in a1 a2 a3 M) := jw_met (by decide) rfl rfl rfl (Nat.le_of_ble_eq_true rfl) (rX12_in G a1 a2 a3 ha1 ha2 ha3 M)
abbrev YX12_finding : jw_Y := (RX12, cX12_finding, 2, 2, "finding")
theorem qX12_finding : jw_cy YX12_finding (some .long) yX12_finding 1 := ⟨by decide, jt_1353, jt_14, by decide, by decide +kernel⟩
theorem dX12_finding_0 : decode cX12_finding 0 = .ok (.aload_n 0, 1) := by decide +kernel
theorem dX12_finding_1 : decode cX12_finding 1 = .ok (.iload_n 1, 1) := by decide +kernel
theorem dX12_finding_2 : decode cX12_finding 2 = .ok (.putfield 75, 3) := by decide +kernel
theorem dX12_finding_5 : decode cX12_finding 5 = .ok (.ldc2_w 78, 3) := by decide +kernel
theorem dX12_finding_8 : decode cX12_finding 8 = .ok (.iload_n 1, 1) := by decide +kernel
theorem dX12_finding_9 : decode cX12_finding 9 = .ok (.i2l, 1) := by decide +kernel
theorem dX12_finding_10 : decode cX12_finding 10 = .ok (.lsub, 1) := by decide +kernel
theorem dX12_finding_11 : decode cX12_finding 11 = .ok (.lreturn, 1) := by decide +kernel
def fX12_finding (a1 : Int) (M : jw_M) : Option (Int × jw_M) :=
  Option.bind (some (jw_up M 127 1 a1)) (fun M1 => some (jw_v ((-9000000000000000010) - a1), M1))
set_option maxRecDepth 100000 in
theorem rX12_finding (G : jw_G) (a1 : Int) (ha1 : jw_r a1) (M : jw_M) : jw_Rn G YX12_finding 1 0 0 true (fun q => q) 0 [(0, jR G 127), (1, jI a1)] [] M (fX12_finding a1 M) := by
  unfold fX12_finding
  refine jw_aloadR (pc := 0) 0 dX12_finding_0 rfl ?_
  refine jw_iload_n (pc := 1) 1 dX12_finding_1 rfl ?_
  refine jw_putI (pc := 2) (j := 1) tyX12 rfl dX12_finding_2 jv_12 ji_12 tyX12_ok nmX12 (Or.inl jt_1232) rfl jg_127 jl_127 (by decide) (by decide) (jw_ho jg_127 (by decide)) rfl rfl ha1 rfl ?_
  refine jw_letM (fun M1 => ?_)
  refine jw_ldc2 (pc := 5) (n := (-9000000000000000010)) dX12_finding_5 jt_1354 (by decide) ?_
  refine jw_iload_n (pc := 8) 1 dX12_finding_8 rfl ?_
  refine jw_i2lr (pc := 9) dX12_finding_9 ha1 ?_
  refine jw_lsub (pc := 10) dX12_finding_10 ?_
  exact jw_ret (pc := 11) (v := jw_v ((-9000000000000000010) - a1)) dX12_finding_11 (jw_vr _) rfl rfl
theorem kX12_finding (G : jw_G) (a1 : Int) (ha1 : jw_r a1) (M : jw_M) : jw_Ct G YX12_finding (some .long) 1 0 0 true (fun q => q) yX12_finding [jR G 127, jI a1] M (fX12_finding a1 M) := jw_met (by decide) rfl rfl rfl (Nat.le_of_ble_eq_true rfl) (rX12_finding G a1 ha1 M)
abbrev YX12_isRow : jw_Y := (RX12, cX12_isRow, 1, 4, "isRow")
theorem qX12_isRow : jw_cy YX12_isRow (some .boolean) yX12_isRow 1 := ⟨by decide, jt_1343, jt_14, by decide, by decide +kernel⟩
theorem dX12_isRow_0 : decode cX12_isRow 0 = .ok (.iload_n 0, 1) := by decide +kernel
theorem dX12_isRow_1 : decode cX12_isRow 1 = .ok (.i2l, 1) := by decide +kernel
theorem dX12_isRow_2 : decode cX12_isRow 2 = .ok (.lconst 0, 1) := by decide +kernel
theorem dX12_isRow_3 : decode cX12_isRow 3 = .ok (.ldc2_w 80, 3) := by decide +kernel
theorem dX12_isRow_6 : decode cX12_isRow 6 = .ok (.invokestatic 82, 3) := by decide +kernel
theorem dX12_isRow_9 : decode cX12_isRow 9 = .ok (.ireturn, 1) := by decide +kernel
def fX12_isRow (a1 : Int) (M : jw_M) : Option Int :=
  Option.bind (fX12_in a1 0 7 M) (fun v1 => some v1)
set_option maxRecDepth 100000 in
theorem rX12_isRow (G : jw_G) (a1 : Int) (ha1 : jw_r a1) (M : jw_M) : jw_Rn G YX12_isRow 2 0 0 true (fun v => (v, M)) 0 [(0, jI a1)] [] M (fX12_isRow a1 M) := by
  unfold fX12_isRow
  refine jw_iload_n (pc := 0) 0 dX12_isRow_0 rfl ?_
  refine jw_i2lr (pc := 1) dX12_isRow_1 ha1 ?_
  refine jw_lconst (pc := 2) (z := 0) dX12_isRow_2 rfl ?_
  refine jw_ldc2 (pc := 3) (n := 7) dX12_isRow_3 jt_1344 (by decide) ?_
  refine jw_callSz (pc := 6) (As := [jL a1, jL 0, jL 7]) (st := []) dX12_isRow_6 rfl (Nat.le_of_ble_eq_true rfl) qX12_in jt_1345 jt_1346 rfl rfl (Nat.le_of_ble_eq_true rfl) (kX12_in G a1 0 7 (jw_rq ha1) (jw_qc _ rfl) (jw_qc _ rfl) M) (fun v1 hv1 => ?_)
  exact jw_ret (pc := 9) (v := v1) dX12_isRow_9 hv1 rfl rfl
theorem kX12_isRow (G : jw_G) (a1 : Int) (ha1 : jw_r a1) (M : jw_M) : jw_Ct G YX12_isRow (some .boolean) 2 0 0 true (fun v => (v, M)) yX12_isRow [jI a1] M (fX12_isRow a1 M) := jw_met (by decide) rfl rfl rfl (Nat.le_of_ble_eq_true rfl) (rX12_isRow G a1 ha1 M)
abbrev YX12_row : jw_Y := (RX12, cX12_row, 5, 2, "row")
theorem qX12_row : jw_cy YX12_row (some .long) yX12_row 3 := ⟨by decide, jt_1340, jt_14, by decide, by decide +kernel⟩
theorem dX12_row_0 : decode cX12_row 0 = .ok (.aload_n 0, 1) := by decide +kernel
theorem dX12_row_1 : decode cX12_row 1 = .ok (.iconst 0, 1) := by decide +kernel
theorem dX12_row_2 : decode cX12_row 2 = .ok (.putfield 71, 3) := by decide +kernel
theorem dX12_row_5 : decode cX12_row 5 = .ok (.iload_n 1, 1) := by decide +kernel
theorem dX12_row_6 : decode cX12_row 6 = .ok (.invokestatic 86, 3) := by decide +kernel
theorem dX12_row_9 : decode cX12_row 9 = .ok (.ifCond .eq 21, 3) := by decide +kernel
theorem dX12_row_12 : decode cX12_row 12 = .ok (.iload_n 2, 1) := by decide +kernel
theorem dX12_row_13 : decode cX12_row 13 = .ok (.i2l, 1) := by decide +kernel
theorem dX12_row_14 : decode cX12_row 14 = .ok (.lconst 0, 1) := by decide +kernel
theorem dX12_row_15 : decode cX12_row 15 = .ok (.ldc2_w 90, 3) := by decide +kernel
theorem dX12_row_18 : decode cX12_row 18 = .ok (.invokestatic 82, 3) := by decide +kernel
theorem dX12_row_21 : decode cX12_row 21 = .ok (.ifCond .eq 9, 3) := by decide +kernel
theorem dX12_row_24 : decode cX12_row 24 = .ok (.iload_n 3, 1) := by decide +kernel
theorem dX12_row_25 : decode cX12_row 25 = .ok (.bipush 40, 2) := by decide +kernel
theorem dX12_row_27 : decode cX12_row 27 = .ok (.if_icmp .le 7, 3) := by decide +kernel
theorem dX12_row_30 : decode cX12_row 30 = .ok (.ldc2_w 92, 3) := by decide +kernel
theorem dX12_row_33 : decode cX12_row 33 = .ok (.lreturn, 1) := by decide +kernel
theorem dX12_row_34 : decode cX12_row 34 = .ok (.aload_n 0, 1) := by decide +kernel
theorem dX12_row_35 : decode cX12_row 35 = .ok (.iconst 0, 1) := by decide +kernel
theorem dX12_row_36 : decode cX12_row 36 = .ok (.putfield 75, 3) := by decide +kernel
theorem dX12_row_39 : decode cX12_row 39 = .ok (.iload_n 3, 1) := by decide +kernel
theorem dX12_row_40 : decode cX12_row 40 = .ok (.ifCond .ge 9, 3) := by decide +kernel
theorem dX12_row_43 : decode cX12_row 43 = .ok (.aload_n 0, 1) := by decide +kernel
theorem dX12_row_44 : decode cX12_row 44 = .ok (.iconst 4, 1) := by decide +kernel
theorem dX12_row_45 : decode cX12_row 45 = .ok (.invokevirtual 94, 3) := by decide +kernel
theorem dX12_row_48 : decode cX12_row 48 = .ok (.lreturn, 1) := by decide +kernel
theorem dX12_row_49 : decode cX12_row 49 = .ok (.aload_n 0, 1) := by decide +kernel
theorem dX12_row_50 : decode cX12_row 50 = .ok (.getfield 9, 3) := by decide +kernel
theorem dX12_row_53 : decode cX12_row 53 = .ok (.iload_n 1, 1) := by decide +kernel
theorem dX12_row_54 : decode cX12_row 54 = .ok (.iload_n 2, 1) := by decide +kernel
theorem dX12_row_55 : decode cX12_row 55 = .ok (.iastore, 1) := by decide +kernel
theorem dX12_row_56 : decode cX12_row 56 = .ok (.aload_n 0, 1) := by decide +kernel
theorem dX12_row_57 : decode cX12_row 57 = .ok (.getfield 13, 3) := by decide +kernel
theorem dX12_row_60 : decode cX12_row 60 = .ok (.iload_n 1, 1) := by decide +kernel
theorem dX12_row_61 : decode cX12_row 61 = .ok (.iload_n 3, 1) := by decide +kernel
theorem dX12_row_62 : decode cX12_row 62 = .ok (.iastore, 1) := by decide +kernel
theorem dX12_row_63 : decode cX12_row 63 = .ok (.iconst 0, 1) := by decide +kernel
theorem dX12_row_64 : decode cX12_row 64 = .ok (.istore 4, 2) := by decide +kernel
theorem dX12_row_66 : decode cX12_row 66 = .ok (.iload 4, 2) := by decide +kernel
theorem dX12_row_68 : decode cX12_row 68 = .ok (.bipush 40, 2) := by decide +kernel
theorem dX12_row_70 : decode cX12_row 70 = .ok (.if_icmp .ge 22, 3) := by decide +kernel
theorem dX12_row_73 : decode cX12_row 73 = .ok (.aload_n 0, 1) := by decide +kernel
theorem dX12_row_74 : decode cX12_row 74 = .ok (.getfield 16, 3) := by decide +kernel
theorem dX12_row_77 : decode cX12_row 77 = .ok (.bipush 40, 2) := by decide +kernel
theorem dX12_row_79 : decode cX12_row 79 = .ok (.iload_n 1, 1) := by decide +kernel
theorem dX12_row_80 : decode cX12_row 80 = .ok (.imul, 1) := by decide +kernel
theorem dX12_row_81 : decode cX12_row 81 = .ok (.iload 4, 2) := by decide +kernel
theorem dX12_row_83 : decode cX12_row 83 = .ok (.iadd, 1) := by decide +kernel
theorem dX12_row_84 : decode cX12_row 84 = .ok (.iconst 0, 1) := by decide +kernel
theorem dX12_row_85 : decode cX12_row 85 = .ok (.iastore, 1) := by decide +kernel
theorem dX12_row_86 : decode cX12_row 86 = .ok (.iinc 4 1, 3) := by decide +kernel
theorem dX12_row_89 : decode cX12_row 89 = .ok (.goto (-23), 3) := by decide +kernel
theorem dX12_row_92 : decode cX12_row 92 = .ok (.iload_n 3, 1) := by decide +kernel
theorem dX12_row_93 : decode cX12_row 93 = .ok (.i2l, 1) := by decide +kernel
theorem dX12_row_94 : decode cX12_row 94 = .ok (.lreturn, 1) := by decide +kernel
def fX12_row_66 : Nat → Int → Int → Int → jw_M → Option (Int × jw_M)
  | 0, _, _, _, _ => none
  | k + 1, x1, x3, x4, M => if x4 < 40 then (if 0 ≤ jw_w ((jw_w (40 * x1)) + x4) ∧ jw_w ((jw_w (40 * x1)) + x4) < 320 then Option.bind (some (jw_up M 130 (jw_w ((jw_w (40 * x1)) + x4)) 0)) (fun M10 => Option.bind (some (jw_w (x4 + 1))) (fun v11 => fX12_row_66 k x1 x3 v11 M10)) else none) else (some (x3, M))
set_option maxRecDepth 100000 in
theorem pX12_row_66 (G : jw_G) : ∀ (k : Nat) (x1 : Int) (x3 : Int) (x4 : Int) (hx1 : jw_r x1) (hx3 : jw_r x3) (hx4 : jw_r x4) (M : jw_M), jw_Rn G YX12_row 3 0 0 true (fun q => q) 66 [(0, jR G 127), (1, jI x1), (3, jI x3), (4, jI x4)] [] M (fX12_row_66 k x1 x3 x4 M) := by
  intro k
  induction k with
  | zero =>
    intro x1 x3 x4 hx1 hx3 hx4 M
    exact jw_none
  | succ k ih =>
    intro x1 x3 x4 hx1 hx3 hx4 M
    rw [fX12_row_66]
    refine jw_iload (pc := 66) 3 dX12_row_66 rfl ?_
    refine jw_bipush (pc := 68) dX12_row_68 rfl ?_
    refine jw_ic_ge (pc := 70) 92 dX12_row_70 (by decide) hx4 (jw_rc _ rfl) (fun _ => ?_) (fun _ => ?_)
    · refine jw_aloadR (pc := 73) 0 dX12_row_73 rfl ?_
      refine jw_getR (pc := 74) (j := 4) rfl dX12_row_74 jv_12 ji_12 (Or.inl jt_1235) jg_127 jl_127 (by decide) (by decide) rfl jf_12_4 ?_
      refine jw_bipush (pc := 77) dX12_row_77 rfl ?_
      refine jw_iload_n (pc := 79) 1 dX12_row_79 rfl ?_
      refine jw_imul (pc := 80) dX12_row_80 ?_
      refine jw_iload (pc := 81) 3 dX12_row_81 rfl ?_
      refine jw_iadd (pc := 83) dX12_row_83 ?_
      refine jw_iconst (pc := 84) dX12_row_84 ?_
      refine jw_iast (pc := 85) dX12_row_85 jg_130 jl_130 (jw_ho jg_130 (by decide)) (jw_wr _) (jw_rc _ rfl) rfl ?_
      refine jw_letM (fun M10 => ?_)
      refine jw_iincL (pc := 86) 3 (lv' := (fun y => [(4, y), (0, jR G 127), (1, jI x1), (3, jI x3)])) dX12_row_86 rfl (Nat.le_of_ble_eq_true rfl) (fun _ => rfl) (fun v11 hv11 => ?_)
      refine jw_goto (pc := 89) 66 dX12_row_89 (by decide) ?_
      exact jw_few [1, 2, 3, 0] rfl (ih x1 x3 v11 hx1 hx3 hv11 M10)
    · refine jw_iload_n (pc := 92) 2 dX12_row_92 rfl ?_
      refine jw_i2lr (pc := 93) dX12_row_93 hx3 ?_
      exact jw_ret (pc := 94) (v := x3) dX12_row_94 (jw_rq hx3) rfl rfl
def fX12_row (a1 : Int) (a2 : Int) (a3 : Int) (M : jw_M) : Option (Int × jw_M) :=
  Option.bind (some (jw_up M 127 0 0)) (fun M1 => Option.bind (fX12_isRow a1 M1) (fun v2 => if v2 = 0 then (some ((-9000000000000000001), M1)) else (Option.bind (fX12_in a2 0 2 M1) (fun v3 => if v3 = 0 then (some ((-9000000000000000001), M1)) else (if (40 : Int) < a3 then (some ((-9000000000000000001), M1)) else (Option.bind (some (jw_up M1 127 1 0)) (fun M4 => if a3 < 0 then (jw_b2 (fX12_finding 4 M4) (fun v5 M6 => some (v5, M6))) else (if 0 ≤ a1 ∧ a1 < 8 then Option.bind (some (jw_up M4 128 a1 a2)) (fun M7 => if 0 ≤ a1 ∧ a1 < 8 then Option.bind (some (jw_up M7 129 a1 a3)) (fun M8 => Option.bind (some 0) (fun v9 => fX12_row_66 jw_fu a1 a3 v9 M8)) else none) else none))))))))
set_option maxRecDepth 100000 in
theorem rX12_row (G : jw_G) (a1 : Int) (a2 : Int) (a3 : Int) (ha1 : jw_r a1) (ha2 : jw_r a2) (ha3 : jw_r a3) (M : jw_M) : jw_Rn G YX12_row 3 0 0 true (fun q => q) 0 [(0, jR G 127), (1, jI a1), (2, jI a2), (3, jI a3)] [] M (fX12_row a1 a2 a3 M) := by
  unfold fX12_row
  refine jw_aloadR (pc := 0) 0 dX12_row_0 rfl ?_
  refine jw_iconst (pc := 1) dX12_row_1 ?_
  refine jw_putI (pc := 2) (j := 0) tyX12 rfl dX12_row_2 jv_12 ji_12 tyX12_ok nmX12 (Or.inl jt_1231) rfl jg_127 jl_127 (by decide) (by decide) (jw_ho jg_127 (by decide)) rfl rfl (jw_rc _ rfl) rfl ?_
  refine jw_letM (fun M1 => ?_)
  refine jw_iload_n (pc := 5) 1 dX12_row_5 rfl ?_
  refine jw_callSz (pc := 6) (As := [jI a1]) (st := []) dX12_row_6 rfl (Nat.le_of_ble_eq_true rfl) qX12_isRow jt_1341 jt_1342 rfl rfl (Nat.le_of_ble_eq_true rfl) (kX12_isRow G a1 ha1 M1) (fun v2 hv2 => ?_)
  refine jw_if_eq (pc := 9) 30 dX12_row_9 (by decide) (jw_bz hv2) (fun _ => ?_) (fun _ => ?_)
  · refine jw_ldc2 (pc := 30) (n := (-9000000000000000001)) dX12_row_30 jt_1349 (by decide) ?_
    exact jw_ret (pc := 33) (v := (-9000000000000000001)) dX12_row_33 (jw_qc _ rfl) rfl rfl
  · refine jw_iload_n (pc := 12) 2 dX12_row_12 rfl ?_
    refine jw_i2lr (pc := 13) dX12_row_13 ha2 ?_
    refine jw_lconst (pc := 14) (z := 0) dX12_row_14 rfl ?_
    refine jw_ldc2 (pc := 15) (n := 2) dX12_row_15 jt_1348 (by decide) ?_
    refine jw_callSz (pc := 18) (As := [jL a2, jL 0, jL 2]) (st := []) dX12_row_18 rfl (Nat.le_of_ble_eq_true rfl) qX12_in jt_1345 jt_1346 rfl rfl (Nat.le_of_ble_eq_true rfl) (kX12_in G a2 0 2 (jw_rq ha2) (jw_qc _ rfl) (jw_qc _ rfl) M1) (fun v3 hv3 => ?_)
    refine jw_if_eq (pc := 21) 30 dX12_row_21 (by decide) (jw_bz hv3) (fun _ => ?_) (fun _ => ?_)
    · refine jw_ldc2 (pc := 30) (n := (-9000000000000000001)) dX12_row_30 jt_1349 (by decide) ?_
      exact jw_ret (pc := 33) (v := (-9000000000000000001)) dX12_row_33 (jw_qc _ rfl) rfl rfl
    · refine jw_iload_n (pc := 24) 3 dX12_row_24 rfl ?_
      refine jw_bipush (pc := 25) dX12_row_25 rfl ?_
      refine jw_ic_le (pc := 27) 34 dX12_row_27 (by decide) ha3 (jw_rc _ rfl) (fun _ => ?_) (fun _ => ?_)
      · refine jw_ldc2 (pc := 30) (n := (-9000000000000000001)) dX12_row_30 jt_1349 (by decide) ?_
        exact jw_ret (pc := 33) (v := (-9000000000000000001)) dX12_row_33 (jw_qc _ rfl) rfl rfl
      · refine jw_aloadR (pc := 34) 0 dX12_row_34 rfl ?_
        refine jw_iconst (pc := 35) dX12_row_35 ?_
        refine jw_putI (pc := 36) (j := 1) tyX12 rfl dX12_row_36 jv_12 ji_12 tyX12_ok nmX12 (Or.inl jt_1232) rfl jg_127 jl_127 (by decide) (by decide) (jw_ho jg_127 (by decide)) rfl rfl (jw_rc _ rfl) rfl ?_
        refine jw_letM (fun M4 => ?_)
        refine jw_iload_n (pc := 39) 3 dX12_row_39 rfl ?_
        refine jw_if_ge (pc := 40) 49 dX12_row_40 (by decide) ha3 (fun _ => ?_) (fun _ => ?_)
        · refine jw_aloadR (pc := 43) 0 dX12_row_43 rfl ?_
          refine jw_iconst (pc := 44) dX12_row_44 ?_
          refine jw_callVMl (pc := 45) (As := [jI 4]) (st := []) dX12_row_45 rfl (Nat.le_of_ble_eq_true rfl) qX12_finding jt_1350 jt_1352 jp_43 rfl rfl (Nat.le_of_ble_eq_true rfl) jv_12 rfl jg_127 jl_127 (by decide) (jw_ho jg_127 (by decide)) (kX12_finding G 4 (jw_rc _ rfl) M4) (fun v5 M6 hv5 => ?_)
          exact jw_ret (pc := 48) (v := v5) dX12_row_48 hv5 rfl rfl
        · refine jw_aloadR (pc := 49) 0 dX12_row_49 rfl ?_
          refine jw_getR (pc := 50) (j := 2) rfl dX12_row_50 jv_12 ji_12 (Or.inl jt_1233) jg_127 jl_127 (by decide) (by decide) rfl jf_12_2 ?_
          refine jw_iload_n (pc := 53) 1 dX12_row_53 rfl ?_
          refine jw_iload_n (pc := 54) 2 dX12_row_54 rfl ?_
          refine jw_iast (pc := 55) dX12_row_55 jg_128 jl_128 (jw_ho jg_128 (by decide)) ha1 ha2 rfl ?_
          refine jw_letM (fun M7 => ?_)
          refine jw_aloadR (pc := 56) 0 dX12_row_56 rfl ?_
          refine jw_getR (pc := 57) (j := 3) rfl dX12_row_57 jv_12 ji_12 (Or.inl jt_1234) jg_127 jl_127 (by decide) (by decide) rfl jf_12_3 ?_
          refine jw_iload_n (pc := 60) 1 dX12_row_60 rfl ?_
          refine jw_iload_n (pc := 61) 3 dX12_row_61 rfl ?_
          refine jw_iast (pc := 62) dX12_row_62 jg_129 jl_129 (jw_ho jg_129 (by decide)) ha1 ha3 rfl ?_
          refine jw_letM (fun M8 => ?_)
          refine jw_iconst (pc := 63) dX12_row_63 ?_
          refine jw_istoreL (pc := 64) (lv' := (fun y => [(4, y), (0, jR G 127), (1, jI a1), (2, jI a2), (3, jI a3)])) dX12_row_64 (jw_rc _ rfl) (by decide) (fun _ => rfl) (fun v9 hv9 => ?_)
          exact jw_few [1, 2, 4, 0] rfl (pX12_row_66 G jw_fu a1 a3 v9 ha1 ha3 hv9 M8)
theorem kX12_row (G : jw_G) (a1 : Int) (a2 : Int) (a3 : Int) (ha1 : jw_r a1) (ha2 : jw_r a2) (ha3 : jw_r a3) (M : jw_M) : jw_Ct G YX12_row (some .long) 3 0 0 true (fun q => q) yX12_row [jR G 127, jI a1, jI a2, jI a3] M (fX12_row a1 a2 a3 M) := jw_met (by decide) rfl rfl rfl (Nat.le_of_ble_eq_true rfl) (rX12_row G a1 a2 a3 ha1 ha2 ha3 M)
abbrev YX12_set : jw_Y := (RX12, cX12_set, 4, 2, "set")
theorem qX12_set : jw_cy YX12_set (some .long) yX12_set 3 := ⟨by decide, jt_1358, jt_14, by decide, by decide +kernel⟩
theorem dX12_set_0 : decode cX12_set 0 = .ok (.aload_n 0, 1) := by decide +kernel
theorem dX12_set_1 : decode cX12_set 1 = .ok (.iconst 0, 1) := by decide +kernel
theorem dX12_set_2 : decode cX12_set 2 = .ok (.putfield 71, 3) := by decide +kernel
theorem dX12_set_5 : decode cX12_set 5 = .ok (.iload_n 1, 1) := by decide +kernel
theorem dX12_set_6 : decode cX12_set 6 = .ok (.invokestatic 86, 3) := by decide +kernel
theorem dX12_set_9 : decode cX12_set 9 = .ok (.ifCond .ne 7, 3) := by decide +kernel
theorem dX12_set_12 : decode cX12_set 12 = .ok (.ldc2_w 92, 3) := by decide +kernel
theorem dX12_set_15 : decode cX12_set 15 = .ok (.lreturn, 1) := by decide +kernel
theorem dX12_set_16 : decode cX12_set 16 = .ok (.aload_n 0, 1) := by decide +kernel
theorem dX12_set_17 : decode cX12_set 17 = .ok (.iconst 0, 1) := by decide +kernel
theorem dX12_set_18 : decode cX12_set 18 = .ok (.putfield 75, 3) := by decide +kernel
theorem dX12_set_21 : decode cX12_set 21 = .ok (.aload_n 0, 1) := by decide +kernel
theorem dX12_set_22 : decode cX12_set 22 = .ok (.getfield 9, 3) := by decide +kernel
theorem dX12_set_25 : decode cX12_set 25 = .ok (.iload_n 1, 1) := by decide +kernel
theorem dX12_set_26 : decode cX12_set 26 = .ok (.iaload, 1) := by decide +kernel
theorem dX12_set_27 : decode cX12_set 27 = .ok (.ifCond .ge 9, 3) := by decide +kernel
theorem dX12_set_30 : decode cX12_set 30 = .ok (.aload_n 0, 1) := by decide +kernel
theorem dX12_set_31 : decode cX12_set 31 = .ok (.iconst 1, 1) := by decide +kernel
theorem dX12_set_32 : decode cX12_set 32 = .ok (.invokevirtual 94, 3) := by decide +kernel
theorem dX12_set_35 : decode cX12_set 35 = .ok (.lreturn, 1) := by decide +kernel
theorem dX12_set_36 : decode cX12_set 36 = .ok (.iload_n 2, 1) := by decide +kernel
theorem dX12_set_37 : decode cX12_set 37 = .ok (.i2l, 1) := by decide +kernel
theorem dX12_set_38 : decode cX12_set 38 = .ok (.lconst 0, 1) := by decide +kernel
theorem dX12_set_39 : decode cX12_set 39 = .ok (.aload_n 0, 1) := by decide +kernel
theorem dX12_set_40 : decode cX12_set 40 = .ok (.getfield 13, 3) := by decide +kernel
theorem dX12_set_43 : decode cX12_set 43 = .ok (.iload_n 1, 1) := by decide +kernel
theorem dX12_set_44 : decode cX12_set 44 = .ok (.iaload, 1) := by decide +kernel
theorem dX12_set_45 : decode cX12_set 45 = .ok (.iconst 1, 1) := by decide +kernel
theorem dX12_set_46 : decode cX12_set 46 = .ok (.isub, 1) := by decide +kernel
theorem dX12_set_47 : decode cX12_set 47 = .ok (.i2l, 1) := by decide +kernel
theorem dX12_set_48 : decode cX12_set 48 = .ok (.invokestatic 82, 3) := by decide +kernel
theorem dX12_set_51 : decode cX12_set 51 = .ok (.ifCond .ne 9, 3) := by decide +kernel
theorem dX12_set_54 : decode cX12_set 54 = .ok (.aload_n 0, 1) := by decide +kernel
theorem dX12_set_55 : decode cX12_set 55 = .ok (.iconst 2, 1) := by decide +kernel
theorem dX12_set_56 : decode cX12_set 56 = .ok (.invokevirtual 94, 3) := by decide +kernel
theorem dX12_set_59 : decode cX12_set 59 = .ok (.lreturn, 1) := by decide +kernel
theorem dX12_set_60 : decode cX12_set 60 = .ok (.aload_n 0, 1) := by decide +kernel
theorem dX12_set_61 : decode cX12_set 61 = .ok (.getfield 16, 3) := by decide +kernel
theorem dX12_set_64 : decode cX12_set 64 = .ok (.bipush 40, 2) := by decide +kernel
theorem dX12_set_66 : decode cX12_set 66 = .ok (.iload_n 1, 1) := by decide +kernel
theorem dX12_set_67 : decode cX12_set 67 = .ok (.imul, 1) := by decide +kernel
theorem dX12_set_68 : decode cX12_set 68 = .ok (.iload_n 2, 1) := by decide +kernel
theorem dX12_set_69 : decode cX12_set 69 = .ok (.iadd, 1) := by decide +kernel
theorem dX12_set_70 : decode cX12_set 70 = .ok (.aload_n 0, 1) := by decide +kernel
theorem dX12_set_71 : decode cX12_set 71 = .ok (.getfield 9, 3) := by decide +kernel
theorem dX12_set_74 : decode cX12_set 74 = .ok (.iload_n 1, 1) := by decide +kernel
theorem dX12_set_75 : decode cX12_set 75 = .ok (.iaload, 1) := by decide +kernel
theorem dX12_set_76 : decode cX12_set 76 = .ok (.ifCond .ne 8, 3) := by decide +kernel
theorem dX12_set_79 : decode cX12_set 79 = .ok (.iload_n 3, 1) := by decide +kernel
theorem dX12_set_80 : decode cX12_set 80 = .ok (.i2b, 1) := by decide +kernel
theorem dX12_set_81 : decode cX12_set 81 = .ok (.goto 19, 3) := by decide +kernel
theorem dX12_set_84 : decode cX12_set 84 = .ok (.aload_n 0, 1) := by decide +kernel
theorem dX12_set_85 : decode cX12_set 85 = .ok (.getfield 9, 3) := by decide +kernel
theorem dX12_set_88 : decode cX12_set 88 = .ok (.iload_n 1, 1) := by decide +kernel
theorem dX12_set_89 : decode cX12_set 89 = .ok (.iaload, 1) := by decide +kernel
theorem dX12_set_90 : decode cX12_set 90 = .ok (.iconst 1, 1) := by decide +kernel
theorem dX12_set_91 : decode cX12_set 91 = .ok (.if_icmp .ne 8, 3) := by decide +kernel
theorem dX12_set_94 : decode cX12_set 94 = .ok (.iload_n 3, 1) := by decide +kernel
theorem dX12_set_95 : decode cX12_set 95 = .ok (.i2s, 1) := by decide +kernel
theorem dX12_set_96 : decode cX12_set 96 = .ok (.goto 4, 3) := by decide +kernel
theorem dX12_set_99 : decode cX12_set 99 = .ok (.iload_n 3, 1) := by decide +kernel
theorem dX12_set_100 : decode cX12_set 100 = .ok (.iastore, 1) := by decide +kernel
theorem dX12_set_101 : decode cX12_set 101 = .ok (.aload_n 0, 1) := by decide +kernel
theorem dX12_set_102 : decode cX12_set 102 = .ok (.getfield 16, 3) := by decide +kernel
theorem dX12_set_105 : decode cX12_set 105 = .ok (.bipush 40, 2) := by decide +kernel
theorem dX12_set_107 : decode cX12_set 107 = .ok (.iload_n 1, 1) := by decide +kernel
theorem dX12_set_108 : decode cX12_set 108 = .ok (.imul, 1) := by decide +kernel
theorem dX12_set_109 : decode cX12_set 109 = .ok (.iload_n 2, 1) := by decide +kernel
theorem dX12_set_110 : decode cX12_set 110 = .ok (.iadd, 1) := by decide +kernel
theorem dX12_set_111 : decode cX12_set 111 = .ok (.iaload, 1) := by decide +kernel
theorem dX12_set_112 : decode cX12_set 112 = .ok (.i2l, 1) := by decide +kernel
theorem dX12_set_113 : decode cX12_set 113 = .ok (.lreturn, 1) := by decide +kernel
def fX12_set_100 (x1 : Int) (x2 : Int) (xs0 : Int) (xs1 : Int) (M : jw_M) : Option (Int × jw_M) :=
  if 0 ≤ xs1 ∧ xs1 < 320 then Option.bind (some (jw_up M 130 xs1 xs0)) (fun M12 => if 0 ≤ jw_w ((jw_w (40 * x1)) + x2) ∧ jw_w ((jw_w (40 * x1)) + x2) < 320 then some (M12 130 (jw_w ((jw_w (40 * x1)) + x2)), M12) else none) else none
set_option maxRecDepth 100000 in
theorem pX12_set_100 (G : jw_G) : ∀ (x1 : Int) (x2 : Int) (xs0 : Int) (xs1 : Int) (hx1 : jw_r x1) (hx2 : jw_r x2) (hxs0 : jw_r xs0) (hxs1 : jw_r xs1) (M : jw_M), jw_Rn G YX12_set 3 0 0 true (fun q => q) 100 [(0, jR G 127), (1, jI x1), (2, jI x2)] [jI xs0, jI xs1, jR G 130] M (fX12_set_100 x1 x2 xs0 xs1 M) := by
  intro x1 x2 xs0 xs1 hx1 hx2 hxs0 hxs1 M
  unfold fX12_set_100
  refine jw_iast (pc := 100) dX12_set_100 jg_130 jl_130 (jw_ho jg_130 (by decide)) hxs1 hxs0 rfl ?_
  refine jw_letM (fun M12 => ?_)
  refine jw_aloadR (pc := 101) 0 dX12_set_101 rfl ?_
  refine jw_getR (pc := 102) (j := 4) rfl dX12_set_102 jv_12 ji_12 (Or.inl jt_1235) jg_127 jl_127 (by decide) (by decide) rfl jf_12_4 ?_
  refine jw_bipush (pc := 105) dX12_set_105 rfl ?_
  refine jw_iload_n (pc := 107) 1 dX12_set_107 rfl ?_
  refine jw_imul (pc := 108) dX12_set_108 ?_
  refine jw_iload_n (pc := 109) 2 dX12_set_109 rfl ?_
  refine jw_iadd (pc := 110) dX12_set_110 ?_
  refine jw_iald (pc := 111) dX12_set_111 jg_130 jl_130 (jw_ho jg_130 (by decide)) (jw_wr _) rfl (fun h13 => ?_)
  refine jw_i2lr (pc := 112) dX12_set_112 h13 ?_
  exact jw_ret (pc := 113) (v := M12 130 (jw_w ((jw_w (40 * x1)) + x2))) dX12_set_113 (jw_rq h13) rfl rfl
def fX12_set (a1 : Int) (a2 : Int) (a3 : Int) (M : jw_M) : Option (Int × jw_M) :=
  Option.bind (some (jw_up M 127 0 0)) (fun M1 => Option.bind (fX12_isRow a1 M1) (fun v2 => if v2 = 0 then (some ((-9000000000000000001), M1)) else (Option.bind (some (jw_up M1 127 1 0)) (fun M3 => if 0 ≤ a1 ∧ a1 < 8 then if M3 128 a1 < 0 then (jw_b2 (fX12_finding 1 M3) (fun v5 M6 => some (v5, M6))) else (if 0 ≤ a1 ∧ a1 < 8 then Option.bind (fX12_in a2 0 (jw_w ((M3 129 a1) - 1)) M3) (fun v8 => if v8 = 0 then (jw_b2 (fX12_finding 2 M3) (fun v9 M10 => some (v9, M10))) else (if 0 ≤ a1 ∧ a1 < 8 then if M3 128 a1 = 0 then (fX12_set_100 a1 a2 (jw_b a3) (jw_w ((jw_w (40 * a1)) + a2)) M3) else (if 0 ≤ a1 ∧ a1 < 8 then if M3 128 a1 = 1 then (fX12_set_100 a1 a2 (jw_s a3) (jw_w ((jw_w (40 * a1)) + a2)) M3) else (fX12_set_100 a1 a2 a3 (jw_w ((jw_w (40 * a1)) + a2)) M3) else none) else none)) else none) else none))))
set_option maxRecDepth 100000 in
theorem rX12_set (G : jw_G) (a1 : Int) (a2 : Int) (a3 : Int) (ha1 : jw_r a1) (ha2 : jw_r a2) (ha3 : jw_r a3) (M : jw_M) : jw_Rn G YX12_set 3 0 0 true (fun q => q) 0 [(0, jR G 127), (1, jI a1), (2, jI a2), (3, jI a3)] [] M (fX12_set a1 a2 a3 M) := by
  unfold fX12_set
  refine jw_aloadR (pc := 0) 0 dX12_set_0 rfl ?_
  refine jw_iconst (pc := 1) dX12_set_1 ?_
  refine jw_putI (pc := 2) (j := 0) tyX12 rfl dX12_set_2 jv_12 ji_12 tyX12_ok nmX12 (Or.inl jt_1231) rfl jg_127 jl_127 (by decide) (by decide) (jw_ho jg_127 (by decide)) rfl rfl (jw_rc _ rfl) rfl ?_
  refine jw_letM (fun M1 => ?_)
  refine jw_iload_n (pc := 5) 1 dX12_set_5 rfl ?_
  refine jw_callSz (pc := 6) (As := [jI a1]) (st := []) dX12_set_6 rfl (Nat.le_of_ble_eq_true rfl) qX12_isRow jt_1341 jt_1342 rfl rfl (Nat.le_of_ble_eq_true rfl) (kX12_isRow G a1 ha1 M1) (fun v2 hv2 => ?_)
  refine jw_if_ne (pc := 9) 16 dX12_set_9 (by decide) (jw_bz hv2) (fun _ => ?_) (fun _ => ?_)
  · refine jw_ldc2 (pc := 12) (n := (-9000000000000000001)) dX12_set_12 jt_1349 (by decide) ?_
    exact jw_ret (pc := 15) (v := (-9000000000000000001)) dX12_set_15 (jw_qc _ rfl) rfl rfl
  · refine jw_aloadR (pc := 16) 0 dX12_set_16 rfl ?_
    refine jw_iconst (pc := 17) dX12_set_17 ?_
    refine jw_putI (pc := 18) (j := 1) tyX12 rfl dX12_set_18 jv_12 ji_12 tyX12_ok nmX12 (Or.inl jt_1232) rfl jg_127 jl_127 (by decide) (by decide) (jw_ho jg_127 (by decide)) rfl rfl (jw_rc _ rfl) rfl ?_
    refine jw_letM (fun M3 => ?_)
    refine jw_aloadR (pc := 21) 0 dX12_set_21 rfl ?_
    refine jw_getR (pc := 22) (j := 2) rfl dX12_set_22 jv_12 ji_12 (Or.inl jt_1233) jg_127 jl_127 (by decide) (by decide) rfl jf_12_2 ?_
    refine jw_iload_n (pc := 25) 1 dX12_set_25 rfl ?_
    refine jw_iald (pc := 26) dX12_set_26 jg_128 jl_128 (jw_ho jg_128 (by decide)) ha1 rfl (fun h4 => ?_)
    refine jw_if_ge (pc := 27) 36 dX12_set_27 (by decide) h4 (fun _ => ?_) (fun _ => ?_)
    · refine jw_aloadR (pc := 30) 0 dX12_set_30 rfl ?_
      refine jw_iconst (pc := 31) dX12_set_31 ?_
      refine jw_callVMl (pc := 32) (As := [jI 1]) (st := []) dX12_set_32 rfl (Nat.le_of_ble_eq_true rfl) qX12_finding jt_1350 jt_1352 jp_43 rfl rfl (Nat.le_of_ble_eq_true rfl) jv_12 rfl jg_127 jl_127 (by decide) (jw_ho jg_127 (by decide)) (kX12_finding G 1 (jw_rc _ rfl) M3) (fun v5 M6 hv5 => ?_)
      exact jw_ret (pc := 35) (v := v5) dX12_set_35 hv5 rfl rfl
    · refine jw_iload_n (pc := 36) 2 dX12_set_36 rfl ?_
      refine jw_i2lr (pc := 37) dX12_set_37 ha2 ?_
      refine jw_lconst (pc := 38) (z := 0) dX12_set_38 rfl ?_
      refine jw_aloadR (pc := 39) 0 dX12_set_39 rfl ?_
      refine jw_getR (pc := 40) (j := 3) rfl dX12_set_40 jv_12 ji_12 (Or.inl jt_1234) jg_127 jl_127 (by decide) (by decide) rfl jf_12_3 ?_
      refine jw_iload_n (pc := 43) 1 dX12_set_43 rfl ?_
      refine jw_iald (pc := 44) dX12_set_44 jg_129 jl_129 (jw_ho jg_129 (by decide)) ha1 rfl (fun h7 => ?_)
      refine jw_iconst (pc := 45) dX12_set_45 ?_
      refine jw_isub (pc := 46) dX12_set_46 ?_
      refine jw_i2lr (pc := 47) dX12_set_47 (jw_wr _) ?_
      refine jw_callSz (pc := 48) (As := [jL a2, jL 0, jL (jw_w ((M3 129 a1) - 1))]) (st := []) dX12_set_48 rfl (Nat.le_of_ble_eq_true rfl) qX12_in jt_1345 jt_1346 rfl rfl (Nat.le_of_ble_eq_true rfl) (kX12_in G a2 0 (jw_w ((M3 129 a1) - 1)) (jw_rq ha2) (jw_qc _ rfl) (jw_rq (jw_wr _)) M3) (fun v8 hv8 => ?_)
      refine jw_if_ne (pc := 51) 60 dX12_set_51 (by decide) (jw_bz hv8) (fun _ => ?_) (fun _ => ?_)
      · refine jw_aloadR (pc := 54) 0 dX12_set_54 rfl ?_
        refine jw_iconst (pc := 55) dX12_set_55 ?_
        refine jw_callVMl (pc := 56) (As := [jI 2]) (st := []) dX12_set_56 rfl (Nat.le_of_ble_eq_true rfl) qX12_finding jt_1350 jt_1352 jp_43 rfl rfl (Nat.le_of_ble_eq_true rfl) jv_12 rfl jg_127 jl_127 (by decide) (jw_ho jg_127 (by decide)) (kX12_finding G 2 (jw_rc _ rfl) M3) (fun v9 M10 hv9 => ?_)
        exact jw_ret (pc := 59) (v := v9) dX12_set_59 hv9 rfl rfl
      · refine jw_aloadR (pc := 60) 0 dX12_set_60 rfl ?_
        refine jw_getR (pc := 61) (j := 4) rfl dX12_set_61 jv_12 ji_12 (Or.inl jt_1235) jg_127 jl_127 (by decide) (by decide) rfl jf_12_4 ?_
        refine jw_bipush (pc := 64) dX12_set_64 rfl ?_
        refine jw_iload_n (pc := 66) 1 dX12_set_66 rfl ?_
        refine jw_imul (pc := 67) dX12_set_67 ?_
        refine jw_iload_n (pc := 68) 2 dX12_set_68 rfl ?_
        refine jw_iadd (pc := 69) dX12_set_69 ?_
        refine jw_aloadR (pc := 70) 0 dX12_set_70 rfl ?_
        refine jw_getR (pc := 71) (j := 2) rfl dX12_set_71 jv_12 ji_12 (Or.inl jt_1233) jg_127 jl_127 (by decide) (by decide) rfl jf_12_2 ?_
        refine jw_iload_n (pc := 74) 1 dX12_set_74 rfl ?_
        refine jw_iald (pc := 75) dX12_set_75 jg_128 jl_128 (jw_ho jg_128 (by decide)) ha1 rfl (fun h11 => ?_)
        refine jw_if_ne (pc := 76) 84 dX12_set_76 (by decide) h11 (fun _ => ?_) (fun _ => ?_)
        · refine jw_iload_n (pc := 79) 3 dX12_set_79 rfl ?_
          refine jw_i2br (pc := 80) dX12_set_80 ?_
          refine jw_goto (pc := 81) 100 dX12_set_81 (by decide) ?_
          exact jw_few [0, 1, 2] rfl (pX12_set_100 G a1 a2 (jw_b a3) (jw_w ((jw_w (40 * a1)) + a2)) ha1 ha2 (jw_br _) (jw_wr _) M3)
        · refine jw_aloadR (pc := 84) 0 dX12_set_84 rfl ?_
          refine jw_getR (pc := 85) (j := 2) rfl dX12_set_85 jv_12 ji_12 (Or.inl jt_1233) jg_127 jl_127 (by decide) (by decide) rfl jf_12_2 ?_
          refine jw_iload_n (pc := 88) 1 dX12_set_88 rfl ?_
          refine jw_iald (pc := 89) dX12_set_89 jg_128 jl_128 (jw_ho jg_128 (by decide)) ha1 rfl (fun h14 => ?_)
          refine jw_iconst (pc := 90) dX12_set_90 ?_
          refine jw_ic_ne (pc := 91) 99 dX12_set_91 (by decide) h14 (jw_rc _ rfl) (fun _ => ?_) (fun _ => ?_)
          · refine jw_iload_n (pc := 94) 3 dX12_set_94 rfl ?_
            refine jw_i2sr (pc := 95) dX12_set_95 ?_
            refine jw_goto (pc := 96) 100 dX12_set_96 (by decide) ?_
            exact jw_few [0, 1, 2] rfl (pX12_set_100 G a1 a2 (jw_s a3) (jw_w ((jw_w (40 * a1)) + a2)) ha1 ha2 (jw_sr _) (jw_wr _) M3)
          · refine jw_iload_n (pc := 99) 3 dX12_set_99 rfl ?_
            exact jw_few [0, 1, 2] rfl (pX12_set_100 G a1 a2 a3 (jw_w ((jw_w (40 * a1)) + a2)) ha1 ha2 ha3 (jw_wr _) M3)
theorem kX12_set (G : jw_G) (a1 : Int) (a2 : Int) (a3 : Int) (ha1 : jw_r a1) (ha2 : jw_r a2) (ha3 : jw_r a3) (M : jw_M) : jw_Ct G YX12_set (some .long) 3 0 0 true (fun q => q) yX12_set [jR G 127, jI a1, jI a2, jI a3] M (fX12_set a1 a2 a3 M) := jw_met (by decide) rfl rfl rfl (Nat.le_of_ble_eq_true rfl) (rX12_set G a1 a2 a3 ha1 ha2 ha3 M)
abbrev YX12_copy : jw_Y := (RX12, cX12_copy, 9, 2, "copy")
theorem qX12_copy : jw_cy YX12_copy (some .long) yX12_copy 5 := ⟨by decide, jt_1362, jt_14, by decide, by decide +kernel⟩
theorem dX12_copy_0 : decode cX12_copy 0 = .ok (.aload_n 0, 1) := by decide +kernel
theorem dX12_copy_1 : decode cX12_copy 1 = .ok (.iconst 0, 1) := by decide +kernel
theorem dX12_copy_2 : decode cX12_copy 2 = .ok (.putfield 71, 3) := by decide +kernel
theorem dX12_copy_5 : decode cX12_copy 5 = .ok (.iload_n 1, 1) := by decide +kernel
theorem dX12_copy_6 : decode cX12_copy 6 = .ok (.invokestatic 86, 3) := by decide +kernel
theorem dX12_copy_9 : decode cX12_copy 9 = .ok (.ifCond .eq 10, 3) := by decide +kernel
theorem dX12_copy_12 : decode cX12_copy 12 = .ok (.iload_n 3, 1) := by decide +kernel
theorem dX12_copy_13 : decode cX12_copy 13 = .ok (.invokestatic 86, 3) := by decide +kernel
theorem dX12_copy_16 : decode cX12_copy 16 = .ok (.ifCond .ne 7, 3) := by decide +kernel
theorem dX12_copy_19 : decode cX12_copy 19 = .ok (.ldc2_w 92, 3) := by decide +kernel
theorem dX12_copy_22 : decode cX12_copy 22 = .ok (.lreturn, 1) := by decide +kernel
theorem dX12_copy_23 : decode cX12_copy 23 = .ok (.aload_n 0, 1) := by decide +kernel
theorem dX12_copy_24 : decode cX12_copy 24 = .ok (.iconst 0, 1) := by decide +kernel
theorem dX12_copy_25 : decode cX12_copy 25 = .ok (.putfield 75, 3) := by decide +kernel
theorem dX12_copy_28 : decode cX12_copy 28 = .ok (.aload_n 0, 1) := by decide +kernel
theorem dX12_copy_29 : decode cX12_copy 29 = .ok (.getfield 9, 3) := by decide +kernel
theorem dX12_copy_32 : decode cX12_copy 32 = .ok (.iload_n 1, 1) := by decide +kernel
theorem dX12_copy_33 : decode cX12_copy 33 = .ok (.iaload, 1) := by decide +kernel
theorem dX12_copy_34 : decode cX12_copy 34 = .ok (.ifCond .lt 12, 3) := by decide +kernel
theorem dX12_copy_37 : decode cX12_copy 37 = .ok (.aload_n 0, 1) := by decide +kernel
theorem dX12_copy_38 : decode cX12_copy 38 = .ok (.getfield 9, 3) := by decide +kernel
theorem dX12_copy_41 : decode cX12_copy 41 = .ok (.iload_n 3, 1) := by decide +kernel
theorem dX12_copy_42 : decode cX12_copy 42 = .ok (.iaload, 1) := by decide +kernel
theorem dX12_copy_43 : decode cX12_copy 43 = .ok (.ifCond .ge 9, 3) := by decide +kernel
theorem dX12_copy_46 : decode cX12_copy 46 = .ok (.aload_n 0, 1) := by decide +kernel
theorem dX12_copy_47 : decode cX12_copy 47 = .ok (.iconst 1, 1) := by decide +kernel
theorem dX12_copy_48 : decode cX12_copy 48 = .ok (.invokevirtual 94, 3) := by decide +kernel
theorem dX12_copy_51 : decode cX12_copy 51 = .ok (.lreturn, 1) := by decide +kernel
theorem dX12_copy_52 : decode cX12_copy 52 = .ok (.aload_n 0, 1) := by decide +kernel
theorem dX12_copy_53 : decode cX12_copy 53 = .ok (.getfield 9, 3) := by decide +kernel
theorem dX12_copy_56 : decode cX12_copy 56 = .ok (.iload_n 1, 1) := by decide +kernel
theorem dX12_copy_57 : decode cX12_copy 57 = .ok (.iaload, 1) := by decide +kernel
theorem dX12_copy_58 : decode cX12_copy 58 = .ok (.aload_n 0, 1) := by decide +kernel
theorem dX12_copy_59 : decode cX12_copy 59 = .ok (.getfield 9, 3) := by decide +kernel
theorem dX12_copy_62 : decode cX12_copy 62 = .ok (.iload_n 3, 1) := by decide +kernel
theorem dX12_copy_63 : decode cX12_copy 63 = .ok (.iaload, 1) := by decide +kernel
theorem dX12_copy_64 : decode cX12_copy 64 = .ok (.if_icmp .eq 9, 3) := by decide +kernel
theorem dX12_copy_67 : decode cX12_copy 67 = .ok (.aload_n 0, 1) := by decide +kernel
theorem dX12_copy_68 : decode cX12_copy 68 = .ok (.iconst 5, 1) := by decide +kernel
theorem dX12_copy_69 : decode cX12_copy 69 = .ok (.invokevirtual 94, 3) := by decide +kernel
theorem dX12_copy_72 : decode cX12_copy 72 = .ok (.lreturn, 1) := by decide +kernel
theorem dX12_copy_73 : decode cX12_copy 73 = .ok (.iload_n 2, 1) := by decide +kernel
theorem dX12_copy_74 : decode cX12_copy 74 = .ok (.ifCond .lt 48, 3) := by decide +kernel
theorem dX12_copy_77 : decode cX12_copy 77 = .ok (.iload 4, 2) := by decide +kernel
theorem dX12_copy_79 : decode cX12_copy 79 = .ok (.ifCond .lt 43, 3) := by decide +kernel
theorem dX12_copy_82 : decode cX12_copy 82 = .ok (.iload 5, 2) := by decide +kernel
theorem dX12_copy_84 : decode cX12_copy 84 = .ok (.ifCond .lt 38, 3) := by decide +kernel
theorem dX12_copy_87 : decode cX12_copy 87 = .ok (.iload_n 2, 1) := by decide +kernel
theorem dX12_copy_88 : decode cX12_copy 88 = .ok (.i2l, 1) := by decide +kernel
theorem dX12_copy_89 : decode cX12_copy 89 = .ok (.iload 5, 2) := by decide +kernel
theorem dX12_copy_91 : decode cX12_copy 91 = .ok (.i2l, 1) := by decide +kernel
theorem dX12_copy_92 : decode cX12_copy 92 = .ok (.ladd, 1) := by decide +kernel
theorem dX12_copy_93 : decode cX12_copy 93 = .ok (.aload_n 0, 1) := by decide +kernel
theorem dX12_copy_94 : decode cX12_copy 94 = .ok (.getfield 13, 3) := by decide +kernel
theorem dX12_copy_97 : decode cX12_copy 97 = .ok (.iload_n 1, 1) := by decide +kernel
theorem dX12_copy_98 : decode cX12_copy 98 = .ok (.iaload, 1) := by decide +kernel
theorem dX12_copy_99 : decode cX12_copy 99 = .ok (.i2l, 1) := by decide +kernel
theorem dX12_copy_100 : decode cX12_copy 100 = .ok (.lcmp, 1) := by decide +kernel
theorem dX12_copy_101 : decode cX12_copy 101 = .ok (.ifCond .gt 21, 3) := by decide +kernel
theorem dX12_copy_104 : decode cX12_copy 104 = .ok (.iload 4, 2) := by decide +kernel
theorem dX12_copy_106 : decode cX12_copy 106 = .ok (.i2l, 1) := by decide +kernel
theorem dX12_copy_107 : decode cX12_copy 107 = .ok (.iload 5, 2) := by decide +kernel
theorem dX12_copy_109 : decode cX12_copy 109 = .ok (.i2l, 1) := by decide +kernel
theorem dX12_copy_110 : decode cX12_copy 110 = .ok (.ladd, 1) := by decide +kernel
theorem dX12_copy_111 : decode cX12_copy 111 = .ok (.aload_n 0, 1) := by decide +kernel
theorem dX12_copy_112 : decode cX12_copy 112 = .ok (.getfield 13, 3) := by decide +kernel
theorem dX12_copy_115 : decode cX12_copy 115 = .ok (.iload_n 3, 1) := by decide +kernel
theorem dX12_copy_116 : decode cX12_copy 116 = .ok (.iaload, 1) := by decide +kernel
theorem dX12_copy_117 : decode cX12_copy 117 = .ok (.i2l, 1) := by decide +kernel
theorem dX12_copy_118 : decode cX12_copy 118 = .ok (.lcmp, 1) := by decide +kernel
theorem dX12_copy_119 : decode cX12_copy 119 = .ok (.ifCond .le 9, 3) := by decide +kernel
theorem dX12_copy_122 : decode cX12_copy 122 = .ok (.aload_n 0, 1) := by decide +kernel
theorem dX12_copy_123 : decode cX12_copy 123 = .ok (.iconst 2, 1) := by decide +kernel
theorem dX12_copy_124 : decode cX12_copy 124 = .ok (.invokevirtual 94, 3) := by decide +kernel
theorem dX12_copy_127 : decode cX12_copy 127 = .ok (.lreturn, 1) := by decide +kernel
theorem dX12_copy_128 : decode cX12_copy 128 = .ok (.iload_n 2, 1) := by decide +kernel
theorem dX12_copy_129 : decode cX12_copy 129 = .ok (.iload 4, 2) := by decide +kernel
theorem dX12_copy_131 : decode cX12_copy 131 = .ok (.if_icmp .lt 7, 3) := by decide +kernel
theorem dX12_copy_134 : decode cX12_copy 134 = .ok (.iconst 1, 1) := by decide +kernel
theorem dX12_copy_135 : decode cX12_copy 135 = .ok (.goto 4, 3) := by decide +kernel
theorem dX12_copy_138 : decode cX12_copy 138 = .ok (.iconst 0, 1) := by decide +kernel
theorem dX12_copy_139 : decode cX12_copy 139 = .ok (.istore 6, 2) := by decide +kernel
theorem dX12_copy_141 : decode cX12_copy 141 = .ok (.iconst 0, 1) := by decide +kernel
theorem dX12_copy_142 : decode cX12_copy 142 = .ok (.istore 7, 2) := by decide +kernel
theorem dX12_copy_144 : decode cX12_copy 144 = .ok (.iload 7, 2) := by decide +kernel
theorem dX12_copy_146 : decode cX12_copy 146 = .ok (.iload 5, 2) := by decide +kernel
theorem dX12_copy_148 : decode cX12_copy 148 = .ok (.if_icmp .ge 57, 3) := by decide +kernel
theorem dX12_copy_151 : decode cX12_copy 151 = .ok (.iload 6, 2) := by decide +kernel
theorem dX12_copy_153 : decode cX12_copy 153 = .ok (.ifCond .eq 8, 3) := by decide +kernel
theorem dX12_copy_156 : decode cX12_copy 156 = .ok (.iload 7, 2) := by decide +kernel
theorem dX12_copy_158 : decode cX12_copy 158 = .ok (.goto 10, 3) := by decide +kernel
theorem dX12_copy_161 : decode cX12_copy 161 = .ok (.iload 5, 2) := by decide +kernel
theorem dX12_copy_163 : decode cX12_copy 163 = .ok (.iconst 1, 1) := by decide +kernel
theorem dX12_copy_164 : decode cX12_copy 164 = .ok (.isub, 1) := by decide +kernel
theorem dX12_copy_165 : decode cX12_copy 165 = .ok (.iload 7, 2) := by decide +kernel
theorem dX12_copy_167 : decode cX12_copy 167 = .ok (.isub, 1) := by decide +kernel
theorem dX12_copy_168 : decode cX12_copy 168 = .ok (.istore 8, 2) := by decide +kernel
theorem dX12_copy_170 : decode cX12_copy 170 = .ok (.aload_n 0, 1) := by decide +kernel
theorem dX12_copy_171 : decode cX12_copy 171 = .ok (.getfield 16, 3) := by decide +kernel
theorem dX12_copy_174 : decode cX12_copy 174 = .ok (.bipush 40, 2) := by decide +kernel
theorem dX12_copy_176 : decode cX12_copy 176 = .ok (.iload_n 3, 1) := by decide +kernel
theorem dX12_copy_177 : decode cX12_copy 177 = .ok (.imul, 1) := by decide +kernel
theorem dX12_copy_178 : decode cX12_copy 178 = .ok (.iload 4, 2) := by decide +kernel
theorem dX12_copy_180 : decode cX12_copy 180 = .ok (.iadd, 1) := by decide +kernel
theorem dX12_copy_181 : decode cX12_copy 181 = .ok (.iload 8, 2) := by decide +kernel
theorem dX12_copy_183 : decode cX12_copy 183 = .ok (.iadd, 1) := by decide +kernel
theorem dX12_copy_184 : decode cX12_copy 184 = .ok (.aload_n 0, 1) := by decide +kernel
theorem dX12_copy_185 : decode cX12_copy 185 = .ok (.getfield 16, 3) := by decide +kernel
theorem dX12_copy_188 : decode cX12_copy 188 = .ok (.bipush 40, 2) := by decide +kernel
theorem dX12_copy_190 : decode cX12_copy 190 = .ok (.iload_n 1, 1) := by decide +kernel
theorem dX12_copy_191 : decode cX12_copy 191 = .ok (.imul, 1) := by decide +kernel
theorem dX12_copy_192 : decode cX12_copy 192 = .ok (.iload_n 2, 1) := by decide +kernel
theorem dX12_copy_193 : decode cX12_copy 193 = .ok (.iadd, 1) := by decide +kernel
theorem dX12_copy_194 : decode cX12_copy 194 = .ok (.iload 8, 2) := by decide +kernel
theorem dX12_copy_196 : decode cX12_copy 196 = .ok (.iadd, 1) := by decide +kernel
theorem dX12_copy_197 : decode cX12_copy 197 = .ok (.iaload, 1) := by decide +kernel
theorem dX12_copy_198 : decode cX12_copy 198 = .ok (.iastore, 1) := by decide +kernel
theorem dX12_copy_199 : decode cX12_copy 199 = .ok (.iinc 7 1, 3) := by decide +kernel
theorem dX12_copy_202 : decode cX12_copy 202 = .ok (.goto (-58), 3) := by decide +kernel
theorem dX12_copy_205 : decode cX12_copy 205 = .ok (.iload 5, 2) := by decide +kernel
theorem dX12_copy_207 : decode cX12_copy 207 = .ok (.i2l, 1) := by decide +kernel
theorem dX12_copy_208 : decode cX12_copy 208 = .ok (.lreturn, 1) := by decide +kernel
def fX12_copy_46 (M : jw_M) : Option (Int × jw_M) :=
  jw_b2 (fX12_finding 1 M) (fun v6 M7 => some (v6, M7))
set_option maxRecDepth 100000 in
theorem pX12_copy_46 (G : jw_G) : ∀ (M : jw_M), jw_Rn G YX12_copy 3 0 0 true (fun q => q) 46 [(0, jR G 127)] [] M (fX12_copy_46 M) := by
  intro M
  unfold fX12_copy_46
  refine jw_aloadR (pc := 46) 0 dX12_copy_46 rfl ?_
  refine jw_iconst (pc := 47) dX12_copy_47 ?_
  refine jw_callVMl (pc := 48) (As := [jI 1]) (st := []) dX12_copy_48 rfl (Nat.le_of_ble_eq_true rfl) qX12_finding jt_1350 jt_1352 jp_43 rfl rfl (Nat.le_of_ble_eq_true rfl) jv_12 rfl jg_127 jl_127 (by decide) (jw_ho jg_127 (by decide)) (kX12_finding G 1 (jw_rc _ rfl) M) (fun v6 M7 hv6 => ?_)
  exact jw_ret (pc := 51) (v := v6) dX12_copy_51 hv6 rfl rfl
def fX12_copy_122 (M : jw_M) : Option (Int × jw_M) :=
  jw_b2 (fX12_finding 2 M) (fun v11 M12 => some (v11, M12))
set_option maxRecDepth 100000 in
theorem pX12_copy_122 (G : jw_G) : ∀ (M : jw_M), jw_Rn G YX12_copy 3 0 0 true (fun q => q) 122 [(0, jR G 127)] [] M (fX12_copy_122 M) := by
  intro M
  unfold fX12_copy_122
  refine jw_aloadR (pc := 122) 0 dX12_copy_122 rfl ?_
  refine jw_iconst (pc := 123) dX12_copy_123 ?_
  refine jw_callVMl (pc := 124) (As := [jI 2]) (st := []) dX12_copy_124 rfl (Nat.le_of_ble_eq_true rfl) qX12_finding jt_1350 jt_1352 jp_43 rfl rfl (Nat.le_of_ble_eq_true rfl) jv_12 rfl jg_127 jl_127 (by decide) (jw_ho jg_127 (by decide)) (kX12_finding G 2 (jw_rc _ rfl) M) (fun v11 M12 hv11 => ?_)
  exact jw_ret (pc := 127) (v := v11) dX12_copy_127 hv11 rfl rfl
def fX12_copy_168 (r144 : Int → Int → Int → Int → Int → Int → Int → jw_M → Option (Int × jw_M)) (x1 : Int) (x2 : Int) (x3 : Int) (x4 : Int) (x5 : Int) (x6 : Int) (x7 : Int) (xs0 : Int) (M : jw_M) : Option (Int × jw_M) :=
  Option.bind (some xs0) (fun v17 => if 0 ≤ jw_w ((jw_w ((jw_w (40 * x1)) + x2)) + v17) ∧ jw_w ((jw_w ((jw_w (40 * x1)) + x2)) + v17) < 320 then if 0 ≤ jw_w ((jw_w ((jw_w (40 * x3)) + x4)) + v17) ∧ jw_w ((jw_w ((jw_w (40 * x3)) + x4)) + v17) < 320 then Option.bind (some (jw_up M 130 (jw_w ((jw_w ((jw_w (40 * x3)) + x4)) + v17)) (M 130 (jw_w ((jw_w ((jw_w (40 * x1)) + x2)) + v17))))) (fun M19 => Option.bind (some (jw_w (x7 + 1))) (fun v20 => r144 x1 x2 x3 x4 x5 x6 v20 M19)) else none else none)
set_option maxRecDepth 100000 in
theorem pX12_copy_168 (G : jw_G) (r144 : Int → Int → Int → Int → Int → Int → Int → jw_M → Option (Int × jw_M)) (hr144 : ∀ (x1 : Int) (x2 : Int) (x3 : Int) (x4 : Int) (x5 : Int) (x6 : Int) (x7 : Int) (hx1 : jw_r x1) (hx2 : jw_r x2) (hx3 : jw_r x3) (hx4 : jw_r x4) (hx5 : jw_r x5) (hx6 : jw_r x6) (hx7 : jw_r x7) (M : jw_M), jw_Rn G YX12_copy 3 0 0 true (fun q => q) 144 [(0, jR G 127), (1, jI x1), (2, jI x2), (3, jI x3), (4, jI x4), (5, jI x5), (6, jI x6), (7, jI x7)] [] M (r144 x1 x2 x3 x4 x5 x6 x7 M)) : ∀ (x1 : Int) (x2 : Int) (x3 : Int) (x4 : Int) (x5 : Int) (x6 : Int) (x7 : Int) (xs0 : Int) (hx1 : jw_r x1) (hx2 : jw_r x2) (hx3 : jw_r x3) (hx4 : jw_r x4) (hx5 : jw_r x5) (hx6 : jw_r x6) (hx7 : jw_r x7) (hxs0 : jw_r xs0) (M : jw_M), jw_Rn G YX12_copy 3 0 0 true (fun q => q) 168 [(0, jR G 127), (1, jI x1), (2, jI x2), (3, jI x3), (4, jI x4), (5, jI x5), (6, jI x6), (7, jI x7)] [jI xs0] M (fX12_copy_168 r144 x1 x2 x3 x4 x5 x6 x7 xs0 M) := by
  intro x1 x2 x3 x4 x5 x6 x7 xs0 hx1 hx2 hx3 hx4 hx5 hx6 hx7 hxs0 M
  unfold fX12_copy_168
  refine jw_istoreL (pc := 168) (lv' := (fun y => [(8, y), (0, jR G 127), (1, jI x1), (2, jI x2), (3, jI x3), (4, jI x4), (5, jI x5), (6, jI x6), (7, jI x7)])) dX12_copy_168 hxs0 (by decide) (fun _ => rfl) (fun v17 hv17 => ?_)
  refine jw_aloadR (pc := 170) 1 dX12_copy_170 rfl ?_
  refine jw_getR (pc := 171) (j := 4) rfl dX12_copy_171 jv_12 ji_12 (Or.inl jt_1235) jg_127 jl_127 (by decide) (by decide) rfl jf_12_4 ?_
  refine jw_bipush (pc := 174) dX12_copy_174 rfl ?_
  refine jw_iload_n (pc := 176) 4 dX12_copy_176 rfl ?_
  refine jw_imul (pc := 177) dX12_copy_177 ?_
  refine jw_iload (pc := 178) 5 dX12_copy_178 rfl ?_
  refine jw_iadd (pc := 180) dX12_copy_180 ?_
  refine jw_iload (pc := 181) 0 dX12_copy_181 rfl ?_
  refine jw_iadd (pc := 183) dX12_copy_183 ?_
  refine jw_aloadR (pc := 184) 1 dX12_copy_184 rfl ?_
  refine jw_getR (pc := 185) (j := 4) rfl dX12_copy_185 jv_12 ji_12 (Or.inl jt_1235) jg_127 jl_127 (by decide) (by decide) rfl jf_12_4 ?_
  refine jw_bipush (pc := 188) dX12_copy_188 rfl ?_
  refine jw_iload_n (pc := 190) 2 dX12_copy_190 rfl ?_
  refine jw_imul (pc := 191) dX12_copy_191 ?_
  refine jw_iload_n (pc := 192) 3 dX12_copy_192 rfl ?_
  refine jw_iadd (pc := 193) dX12_copy_193 ?_
  refine jw_iload (pc := 194) 0 dX12_copy_194 rfl ?_
  refine jw_iadd (pc := 196) dX12_copy_196 ?_
  refine jw_iald (pc := 197) dX12_copy_197 jg_130 jl_130 (jw_ho jg_130 (by decide)) (jw_wr _) rfl (fun h18 => ?_)
  refine jw_iast (pc := 198) dX12_copy_198 jg_130 jl_130 (jw_ho jg_130 (by decide)) (jw_wr _) h18 rfl ?_
  refine jw_letM (fun M19 => ?_)
  refine jw_iincL (pc := 199) 8 (lv' := (fun y => [(7, y), (8, jI v17), (0, jR G 127), (1, jI x1), (2, jI x2), (3, jI x3), (4, jI x4), (5, jI x5), (6, jI x6)])) dX12_copy_199 rfl (Nat.le_of_ble_eq_true rfl) (fun _ => rfl) (fun v20 hv20 => ?_)
  refine jw_goto (pc := 202) 144 dX12_copy_202 (by decide) ?_
  exact jw_few [2, 3, 4, 5, 6, 7, 8, 0] rfl (hr144 x1 x2 x3 x4 x5 x6 v20 hx1 hx2 hx3 hx4 hx5 hx6 hv20 M19)
def fX12_copy_144 : Nat → Int → Int → Int → Int → Int → Int → Int → jw_M → Option (Int × jw_M)
  | 0, _, _, _, _, _, _, _, _ => none
  | k + 1, x1, x2, x3, x4, x5, x6, x7, M => if x7 < x5 then (if x6 = 0 then (fX12_copy_168 (fX12_copy_144 k) x1 x2 x3 x4 x5 x6 x7 (jw_w ((jw_w (x5 - 1)) - x7)) M) else (fX12_copy_168 (fX12_copy_144 k) x1 x2 x3 x4 x5 x6 x7 x7 M)) else (some (x5, M))
set_option maxRecDepth 100000 in
theorem pX12_copy_144 (G : jw_G) : ∀ (k : Nat) (x1 : Int) (x2 : Int) (x3 : Int) (x4 : Int) (x5 : Int) (x6 : Int) (x7 : Int) (hx1 : jw_r x1) (hx2 : jw_r x2) (hx3 : jw_r x3) (hx4 : jw_r x4) (hx5 : jw_r x5) (hx6 : jw_r x6) (hx7 : jw_r x7) (M : jw_M), jw_Rn G YX12_copy 3 0 0 true (fun q => q) 144 [(0, jR G 127), (1, jI x1), (2, jI x2), (3, jI x3), (4, jI x4), (5, jI x5), (6, jI x6), (7, jI x7)] [] M (fX12_copy_144 k x1 x2 x3 x4 x5 x6 x7 M) := by
  intro k
  induction k with
  | zero =>
    intro x1 x2 x3 x4 x5 x6 x7 hx1 hx2 hx3 hx4 hx5 hx6 hx7 M
    exact jw_none
  | succ k ih =>
    intro x1 x2 x3 x4 x5 x6 x7 hx1 hx2 hx3 hx4 hx5 hx6 hx7 M
    rw [fX12_copy_144]
    refine jw_iload (pc := 144) 7 dX12_copy_144 rfl ?_
    refine jw_iload (pc := 146) 5 dX12_copy_146 rfl ?_
    refine jw_ic_ge (pc := 148) 205 dX12_copy_148 (by decide) hx7 hx5 (fun _ => ?_) (fun _ => ?_)
    · refine jw_iload (pc := 151) 6 dX12_copy_151 rfl ?_
      refine jw_if_eq (pc := 153) 161 dX12_copy_153 (by decide) hx6 (fun _ => ?_) (fun _ => ?_)
      · refine jw_iload (pc := 161) 5 dX12_copy_161 rfl ?_
        refine jw_iconst (pc := 163) dX12_copy_163 ?_
        refine jw_isub (pc := 164) dX12_copy_164 ?_
        refine jw_iload (pc := 165) 7 dX12_copy_165 rfl ?_
        refine jw_isub (pc := 167) dX12_copy_167 ?_
        exact jw_few [0, 1, 2, 3, 4, 5, 6, 7] rfl (pX12_copy_168 G (fX12_copy_144 k) ih x1 x2 x3 x4 x5 x6 x7 (jw_w ((jw_w (x5 - 1)) - x7)) hx1 hx2 hx3 hx4 hx5 hx6 hx7 (jw_wr _) M)
      · refine jw_iload (pc := 156) 7 dX12_copy_156 rfl ?_
        refine jw_goto (pc := 158) 168 dX12_copy_158 (by decide) ?_
        exact jw_few [0, 1, 2, 3, 4, 5, 6, 7] rfl (pX12_copy_168 G (fX12_copy_144 k) ih x1 x2 x3 x4 x5 x6 x7 x7 hx1 hx2 hx3 hx4 hx5 hx6 hx7 hx7 M)
    · refine jw_iload (pc := 205) 5 dX12_copy_205 rfl ?_
      refine jw_i2lr (pc := 207) dX12_copy_207 hx5 ?_
      exact jw_ret (pc := 208) (v := x5) dX12_copy_208 (jw_rq hx5) rfl rfl
def fX12_copy_139 (x1 : Int) (x2 : Int) (x3 : Int) (x4 : Int) (x5 : Int) (xs0 : Int) (M : jw_M) : Option (Int × jw_M) :=
  Option.bind (some xs0) (fun v15 => Option.bind (some 0) (fun v16 => fX12_copy_144 jw_fu x1 x2 x3 x4 x5 v15 v16 M))
set_option maxRecDepth 100000 in
theorem pX12_copy_139 (G : jw_G) : ∀ (x1 : Int) (x2 : Int) (x3 : Int) (x4 : Int) (x5 : Int) (xs0 : Int) (hx1 : jw_r x1) (hx2 : jw_r x2) (hx3 : jw_r x3) (hx4 : jw_r x4) (hx5 : jw_r x5) (hxs0 : jw_r xs0) (M : jw_M), jw_Rn G YX12_copy 3 0 0 true (fun q => q) 139 [(0, jR G 127), (1, jI x1), (2, jI x2), (3, jI x3), (4, jI x4), (5, jI x5)] [jI xs0] M (fX12_copy_139 x1 x2 x3 x4 x5 xs0 M) := by
  intro x1 x2 x3 x4 x5 xs0 hx1 hx2 hx3 hx4 hx5 hxs0 M
  unfold fX12_copy_139
  refine jw_istoreL (pc := 139) (lv' := (fun y => [(6, y), (0, jR G 127), (1, jI x1), (2, jI x2), (3, jI x3), (4, jI x4), (5, jI x5)])) dX12_copy_139 hxs0 (by decide) (fun _ => rfl) (fun v15 hv15 => ?_)
  refine jw_iconst (pc := 141) dX12_copy_141 ?_
  refine jw_istoreL (pc := 142) (lv' := (fun y => [(7, y), (6, jI v15), (0, jR G 127), (1, jI x1), (2, jI x2), (3, jI x3), (4, jI x4), (5, jI x5)])) dX12_copy_142 (jw_rc _ rfl) (by decide) (fun _ => rfl) (fun v16 hv16 => ?_)
  exact jw_few [2, 3, 4, 5, 6, 7, 1, 0] rfl (pX12_copy_144 G jw_fu x1 x2 x3 x4 x5 v15 v16 hx1 hx2 hx3 hx4 hx5 hv15 hv16 M)
def fX12_copy (a1 : Int) (a2 : Int) (a3 : Int) (a4 : Int) (a5 : Int) (M : jw_M) : Option (Int × jw_M) :=
  Option.bind (some (jw_up M 127 0 0)) (fun M1 => Option.bind (fX12_isRow a1 M1) (fun v2 => if v2 = 0 then (some ((-9000000000000000001), M1)) else (Option.bind (fX12_isRow a3 M1) (fun v3 => if v3 = 0 then (some ((-9000000000000000001), M1)) else (Option.bind (some (jw_up M1 127 1 0)) (fun M4 => if 0 ≤ a1 ∧ a1 < 8 then if M4 128 a1 < 0 then (fX12_copy_46 M4) else (if 0 ≤ a3 ∧ a3 < 8 then if M4 128 a3 < 0 then (fX12_copy_46 M4) else (if 0 ≤ a1 ∧ a1 < 8 then if 0 ≤ a3 ∧ a3 < 8 then if M4 128 a1 = M4 128 a3 then (if a2 < 0 then (fX12_copy_122 M4) else (if a4 < 0 then (fX12_copy_122 M4) else (if a5 < 0 then (fX12_copy_122 M4) else (if 0 ≤ a1 ∧ a1 < 8 then if (0 : Int) < jw_cmp (jw_v (a2 + a5)) (M4 129 a1) then (fX12_copy_122 M4) else (if 0 ≤ a3 ∧ a3 < 8 then if (0 : Int) < jw_cmp (jw_v (a4 + a5)) (M4 129 a3) then (fX12_copy_122 M4) else (if a2 < a4 then (fX12_copy_139 a1 a2 a3 a4 a5 0 M4) else (fX12_copy_139 a1 a2 a3 a4 a5 1 M4)) else none) else none)))) else (jw_b2 (fX12_finding 5 M4) (fun v21 M22 => some (v21, M22))) else none else none) else none) else none))))))
set_option maxRecDepth 100000 in
theorem rX12_copy (G : jw_G) (a1 : Int) (a2 : Int) (a3 : Int) (a4 : Int) (a5 : Int) (ha1 : jw_r a1) (ha2 : jw_r a2) (ha3 : jw_r a3) (ha4 : jw_r a4) (ha5 : jw_r a5) (M : jw_M) : jw_Rn G YX12_copy 3 0 0 true (fun q => q) 0 [(0, jR G 127), (1, jI a1), (2, jI a2), (3, jI a3), (4, jI a4), (5, jI a5)] [] M (fX12_copy a1 a2 a3 a4 a5 M) := by
  unfold fX12_copy
  refine jw_aloadR (pc := 0) 0 dX12_copy_0 rfl ?_
  refine jw_iconst (pc := 1) dX12_copy_1 ?_
  refine jw_putI (pc := 2) (j := 0) tyX12 rfl dX12_copy_2 jv_12 ji_12 tyX12_ok nmX12 (Or.inl jt_1231) rfl jg_127 jl_127 (by decide) (by decide) (jw_ho jg_127 (by decide)) rfl rfl (jw_rc _ rfl) rfl ?_
  refine jw_letM (fun M1 => ?_)
  refine jw_iload_n (pc := 5) 1 dX12_copy_5 rfl ?_
  refine jw_callSz (pc := 6) (As := [jI a1]) (st := []) dX12_copy_6 rfl (Nat.le_of_ble_eq_true rfl) qX12_isRow jt_1341 jt_1342 rfl rfl (Nat.le_of_ble_eq_true rfl) (kX12_isRow G a1 ha1 M1) (fun v2 hv2 => ?_)
  refine jw_if_eq (pc := 9) 19 dX12_copy_9 (by decide) (jw_bz hv2) (fun _ => ?_) (fun _ => ?_)
  · refine jw_ldc2 (pc := 19) (n := (-9000000000000000001)) dX12_copy_19 jt_1349 (by decide) ?_
    exact jw_ret (pc := 22) (v := (-9000000000000000001)) dX12_copy_22 (jw_qc _ rfl) rfl rfl
  · refine jw_iload_n (pc := 12) 3 dX12_copy_12 rfl ?_
    refine jw_callSz (pc := 13) (As := [jI a3]) (st := []) dX12_copy_13 rfl (Nat.le_of_ble_eq_true rfl) qX12_isRow jt_1341 jt_1342 rfl rfl (Nat.le_of_ble_eq_true rfl) (kX12_isRow G a3 ha3 M1) (fun v3 hv3 => ?_)
    refine jw_if_ne (pc := 16) 23 dX12_copy_16 (by decide) (jw_bz hv3) (fun _ => ?_) (fun _ => ?_)
    · refine jw_ldc2 (pc := 19) (n := (-9000000000000000001)) dX12_copy_19 jt_1349 (by decide) ?_
      exact jw_ret (pc := 22) (v := (-9000000000000000001)) dX12_copy_22 (jw_qc _ rfl) rfl rfl
    · refine jw_aloadR (pc := 23) 0 dX12_copy_23 rfl ?_
      refine jw_iconst (pc := 24) dX12_copy_24 ?_
      refine jw_putI (pc := 25) (j := 1) tyX12 rfl dX12_copy_25 jv_12 ji_12 tyX12_ok nmX12 (Or.inl jt_1232) rfl jg_127 jl_127 (by decide) (by decide) (jw_ho jg_127 (by decide)) rfl rfl (jw_rc _ rfl) rfl ?_
      refine jw_letM (fun M4 => ?_)
      refine jw_aloadR (pc := 28) 0 dX12_copy_28 rfl ?_
      refine jw_getR (pc := 29) (j := 2) rfl dX12_copy_29 jv_12 ji_12 (Or.inl jt_1233) jg_127 jl_127 (by decide) (by decide) rfl jf_12_2 ?_
      refine jw_iload_n (pc := 32) 1 dX12_copy_32 rfl ?_
      refine jw_iald (pc := 33) dX12_copy_33 jg_128 jl_128 (jw_ho jg_128 (by decide)) ha1 rfl (fun h5 => ?_)
      refine jw_if_lt (pc := 34) 46 dX12_copy_34 (by decide) h5 (fun _ => ?_) (fun _ => ?_)
      · exact jw_few [0] rfl (pX12_copy_46 G M4)
      · refine jw_aloadR (pc := 37) 0 dX12_copy_37 rfl ?_
        refine jw_getR (pc := 38) (j := 2) rfl dX12_copy_38 jv_12 ji_12 (Or.inl jt_1233) jg_127 jl_127 (by decide) (by decide) rfl jf_12_2 ?_
        refine jw_iload_n (pc := 41) 3 dX12_copy_41 rfl ?_
        refine jw_iald (pc := 42) dX12_copy_42 jg_128 jl_128 (jw_ho jg_128 (by decide)) ha3 rfl (fun h8 => ?_)
        refine jw_if_ge (pc := 43) 52 dX12_copy_43 (by decide) h8 (fun _ => ?_) (fun _ => ?_)
        · exact jw_few [0] rfl (pX12_copy_46 G M4)
        · refine jw_aloadR (pc := 52) 0 dX12_copy_52 rfl ?_
          refine jw_getR (pc := 53) (j := 2) rfl dX12_copy_53 jv_12 ji_12 (Or.inl jt_1233) jg_127 jl_127 (by decide) (by decide) rfl jf_12_2 ?_
          refine jw_iload_n (pc := 56) 1 dX12_copy_56 rfl ?_
          refine jw_iald (pc := 57) dX12_copy_57 jg_128 jl_128 (jw_ho jg_128 (by decide)) ha1 rfl (fun h9 => ?_)
          refine jw_aloadR (pc := 58) 0 dX12_copy_58 rfl ?_
          refine jw_getR (pc := 59) (j := 2) rfl dX12_copy_59 jv_12 ji_12 (Or.inl jt_1233) jg_127 jl_127 (by decide) (by decide) rfl jf_12_2 ?_
          refine jw_iload_n (pc := 62) 3 dX12_copy_62 rfl ?_
          refine jw_iald (pc := 63) dX12_copy_63 jg_128 jl_128 (jw_ho jg_128 (by decide)) ha3 rfl (fun h10 => ?_)
          refine jw_ic_eq (pc := 64) 73 dX12_copy_64 (by decide) h9 h10 (fun _ => ?_) (fun _ => ?_)
          · refine jw_iload_n (pc := 73) 2 dX12_copy_73 rfl ?_
            refine jw_if_lt (pc := 74) 122 dX12_copy_74 (by decide) ha2 (fun _ => ?_) (fun _ => ?_)
            · exact jw_few [0] rfl (pX12_copy_122 G M4)
            · refine jw_iload (pc := 77) 4 dX12_copy_77 rfl ?_
              refine jw_if_lt (pc := 79) 122 dX12_copy_79 (by decide) ha4 (fun _ => ?_) (fun _ => ?_)
              · exact jw_few [0] rfl (pX12_copy_122 G M4)
              · refine jw_iload (pc := 82) 5 dX12_copy_82 rfl ?_
                refine jw_if_lt (pc := 84) 122 dX12_copy_84 (by decide) ha5 (fun _ => ?_) (fun _ => ?_)
                · exact jw_few [0] rfl (pX12_copy_122 G M4)
                · refine jw_iload_n (pc := 87) 2 dX12_copy_87 rfl ?_
                  refine jw_i2lr (pc := 88) dX12_copy_88 ha2 ?_
                  refine jw_iload (pc := 89) 5 dX12_copy_89 rfl ?_
                  refine jw_i2lr (pc := 91) dX12_copy_91 ha5 ?_
                  refine jw_ladd (pc := 92) dX12_copy_92 ?_
                  refine jw_aloadR (pc := 93) 0 dX12_copy_93 rfl ?_
                  refine jw_getR (pc := 94) (j := 3) rfl dX12_copy_94 jv_12 ji_12 (Or.inl jt_1234) jg_127 jl_127 (by decide) (by decide) rfl jf_12_3 ?_
                  refine jw_iload_n (pc := 97) 1 dX12_copy_97 rfl ?_
                  refine jw_iald (pc := 98) dX12_copy_98 jg_129 jl_129 (jw_ho jg_129 (by decide)) ha1 rfl (fun h13 => ?_)
                  refine jw_i2lr (pc := 99) dX12_copy_99 h13 ?_
                  refine jw_lcmp (pc := 100) dX12_copy_100 (jw_vr _) (jw_rq h13) ?_
                  refine jw_if_gt (pc := 101) 122 dX12_copy_101 (by decide) (jw_cmpr _ _) (fun _ => ?_) (fun _ => ?_)
                  · exact jw_few [0] rfl (pX12_copy_122 G M4)
                  · refine jw_iload (pc := 104) 4 dX12_copy_104 rfl ?_
                    refine jw_i2lr (pc := 106) dX12_copy_106 ha4 ?_
                    refine jw_iload (pc := 107) 5 dX12_copy_107 rfl ?_
                    refine jw_i2lr (pc := 109) dX12_copy_109 ha5 ?_
                    refine jw_ladd (pc := 110) dX12_copy_110 ?_
                    refine jw_aloadR (pc := 111) 0 dX12_copy_111 rfl ?_
                    refine jw_getR (pc := 112) (j := 3) rfl dX12_copy_112 jv_12 ji_12 (Or.inl jt_1234) jg_127 jl_127 (by decide) (by decide) rfl jf_12_3 ?_
                    refine jw_iload_n (pc := 115) 3 dX12_copy_115 rfl ?_
                    refine jw_iald (pc := 116) dX12_copy_116 jg_129 jl_129 (jw_ho jg_129 (by decide)) ha3 rfl (fun h14 => ?_)
                    refine jw_i2lr (pc := 117) dX12_copy_117 h14 ?_
                    refine jw_lcmp (pc := 118) dX12_copy_118 (jw_vr _) (jw_rq h14) ?_
                    refine jw_if_le (pc := 119) 128 dX12_copy_119 (by decide) (jw_cmpr _ _) (fun _ => ?_) (fun _ => ?_)
                    · exact jw_few [0] rfl (pX12_copy_122 G M4)
                    · refine jw_iload_n (pc := 128) 2 dX12_copy_128 rfl ?_
                      refine jw_iload (pc := 129) 4 dX12_copy_129 rfl ?_
                      refine jw_ic_lt (pc := 131) 138 dX12_copy_131 (by decide) ha2 ha4 (fun _ => ?_) (fun _ => ?_)
                      · refine jw_iconst (pc := 138) dX12_copy_138 ?_
                        exact jw_few [0, 1, 2, 3, 4, 5] rfl (pX12_copy_139 G a1 a2 a3 a4 a5 0 ha1 ha2 ha3 ha4 ha5 (jw_rc _ rfl) M4)
                      · refine jw_iconst (pc := 134) dX12_copy_134 ?_
                        refine jw_goto (pc := 135) 139 dX12_copy_135 (by decide) ?_
                        exact jw_few [0, 1, 2, 3, 4, 5] rfl (pX12_copy_139 G a1 a2 a3 a4 a5 1 ha1 ha2 ha3 ha4 ha5 (jw_rc _ rfl) M4)
          · refine jw_aloadR (pc := 67) 0 dX12_copy_67 rfl ?_
            refine jw_iconst (pc := 68) dX12_copy_68 ?_
            refine jw_callVMl (pc := 69) (As := [jI 5]) (st := []) dX12_copy_69 rfl (Nat.le_of_ble_eq_true rfl) qX12_finding jt_1350 jt_1352 jp_43 rfl rfl (Nat.le_of_ble_eq_true rfl) jv_12 rfl jg_127 jl_127 (by decide) (jw_ho jg_127 (by decide)) (kX12_finding G 5 (jw_rc _ rfl) M4) (fun v21 M22 hv21 => ?_)
            exact jw_ret (pc := 72) (v := v21) dX12_copy_72 hv21 rfl rfl
theorem kX12_copy (G : jw_G) (a1 : Int) (a2 : Int) (a3 : Int) (a4 : Int) (a5 : Int) (ha1 : jw_r a1) (ha2 : jw_r a2) (ha3 : jw_r a3) (ha4 : jw_r a4) (ha5 : jw_r a5) (M : jw_M) : jw_Ct G YX12_copy (some .long) 3 0 0 true (fun q => q) yX12_copy [jR G 127, jI a1, jI a2, jI a3, jI a4, jI a5] M (fX12_copy a1 a2 a3 a4 a5 M) := jw_met (by decide) rfl rfl rfl (Nat.le_of_ble_eq_true rfl) (rX12_copy G a1 a2 a3 a4 a5 ha1 ha2 ha3 ha4 ha5 M)
abbrev YX12_drop : jw_Y := (RX12, cX12_drop, 2, 2, "drop")
theorem qX12_drop : jw_cy YX12_drop (some .long) yX12_drop 1 := ⟨by decide, jt_1366, jt_14, by decide, by decide +kernel⟩
theorem dX12_drop_0 : decode cX12_drop 0 = .ok (.aload_n 0, 1) := by decide +kernel
theorem dX12_drop_1 : decode cX12_drop 1 = .ok (.iconst 0, 1) := by decide +kernel
theorem dX12_drop_2 : decode cX12_drop 2 = .ok (.putfield 71, 3) := by decide +kernel
theorem dX12_drop_5 : decode cX12_drop 5 = .ok (.iload_n 1, 1) := by decide +kernel
theorem dX12_drop_6 : decode cX12_drop 6 = .ok (.invokestatic 86, 3) := by decide +kernel
theorem dX12_drop_9 : decode cX12_drop 9 = .ok (.ifCond .ne 7, 3) := by decide +kernel
theorem dX12_drop_12 : decode cX12_drop 12 = .ok (.ldc2_w 92, 3) := by decide +kernel
theorem dX12_drop_15 : decode cX12_drop 15 = .ok (.lreturn, 1) := by decide +kernel
theorem dX12_drop_16 : decode cX12_drop 16 = .ok (.aload_n 0, 1) := by decide +kernel
theorem dX12_drop_17 : decode cX12_drop 17 = .ok (.iconst 0, 1) := by decide +kernel
theorem dX12_drop_18 : decode cX12_drop 18 = .ok (.putfield 75, 3) := by decide +kernel
theorem dX12_drop_21 : decode cX12_drop 21 = .ok (.aload_n 0, 1) := by decide +kernel
theorem dX12_drop_22 : decode cX12_drop 22 = .ok (.getfield 9, 3) := by decide +kernel
theorem dX12_drop_25 : decode cX12_drop 25 = .ok (.iload_n 1, 1) := by decide +kernel
theorem dX12_drop_26 : decode cX12_drop 26 = .ok (.iaload, 1) := by decide +kernel
theorem dX12_drop_27 : decode cX12_drop 27 = .ok (.ifCond .ge 9, 3) := by decide +kernel
theorem dX12_drop_30 : decode cX12_drop 30 = .ok (.aload_n 0, 1) := by decide +kernel
theorem dX12_drop_31 : decode cX12_drop 31 = .ok (.iconst 1, 1) := by decide +kernel
theorem dX12_drop_32 : decode cX12_drop 32 = .ok (.invokevirtual 94, 3) := by decide +kernel
theorem dX12_drop_35 : decode cX12_drop 35 = .ok (.lreturn, 1) := by decide +kernel
theorem dX12_drop_36 : decode cX12_drop 36 = .ok (.aload_n 0, 1) := by decide +kernel
theorem dX12_drop_37 : decode cX12_drop 37 = .ok (.getfield 9, 3) := by decide +kernel
theorem dX12_drop_40 : decode cX12_drop 40 = .ok (.iload_n 1, 1) := by decide +kernel
theorem dX12_drop_41 : decode cX12_drop 41 = .ok (.iconst (-1), 1) := by decide +kernel
theorem dX12_drop_42 : decode cX12_drop 42 = .ok (.iastore, 1) := by decide +kernel
theorem dX12_drop_43 : decode cX12_drop 43 = .ok (.aload_n 0, 1) := by decide +kernel
theorem dX12_drop_44 : decode cX12_drop 44 = .ok (.getfield 13, 3) := by decide +kernel
theorem dX12_drop_47 : decode cX12_drop 47 = .ok (.iload_n 1, 1) := by decide +kernel
theorem dX12_drop_48 : decode cX12_drop 48 = .ok (.iaload, 1) := by decide +kernel
theorem dX12_drop_49 : decode cX12_drop 49 = .ok (.i2l, 1) := by decide +kernel
theorem dX12_drop_50 : decode cX12_drop 50 = .ok (.lreturn, 1) := by decide +kernel
def fX12_drop (a1 : Int) (M : jw_M) : Option (Int × jw_M) :=
  Option.bind (some (jw_up M 127 0 0)) (fun M1 => Option.bind (fX12_isRow a1 M1) (fun v2 => if v2 = 0 then (some ((-9000000000000000001), M1)) else (Option.bind (some (jw_up M1 127 1 0)) (fun M3 => if 0 ≤ a1 ∧ a1 < 8 then if M3 128 a1 < 0 then (jw_b2 (fX12_finding 1 M3) (fun v5 M6 => some (v5, M6))) else (if 0 ≤ a1 ∧ a1 < 8 then Option.bind (some (jw_up M3 128 a1 (-1))) (fun M7 => if 0 ≤ a1 ∧ a1 < 8 then some (M7 129 a1, M7) else none) else none) else none))))
set_option maxRecDepth 100000 in
theorem rX12_drop (G : jw_G) (a1 : Int) (ha1 : jw_r a1) (M : jw_M) : jw_Rn G YX12_drop 3 0 0 true (fun q => q) 0 [(0, jR G 127), (1, jI a1)] [] M (fX12_drop a1 M) := by
  unfold fX12_drop
  refine jw_aloadR (pc := 0) 0 dX12_drop_0 rfl ?_
  refine jw_iconst (pc := 1) dX12_drop_1 ?_
  refine jw_putI (pc := 2) (j := 0) tyX12 rfl dX12_drop_2 jv_12 ji_12 tyX12_ok nmX12 (Or.inl jt_1231) rfl jg_127 jl_127 (by decide) (by decide) (jw_ho jg_127 (by decide)) rfl rfl (jw_rc _ rfl) rfl ?_
  refine jw_letM (fun M1 => ?_)
  refine jw_iload_n (pc := 5) 1 dX12_drop_5 rfl ?_
  refine jw_callSz (pc := 6) (As := [jI a1]) (st := []) dX12_drop_6 rfl (Nat.le_of_ble_eq_true rfl) qX12_isRow jt_1341 jt_1342 rfl rfl (Nat.le_of_ble_eq_true rfl) (kX12_isRow G a1 ha1 M1) (fun v2 hv2 => ?_)
  refine jw_if_ne (pc := 9) 16 dX12_drop_9 (by decide) (jw_bz hv2) (fun _ => ?_) (fun _ => ?_)
  · refine jw_ldc2 (pc := 12) (n := (-9000000000000000001)) dX12_drop_12 jt_1349 (by decide) ?_
    exact jw_ret (pc := 15) (v := (-9000000000000000001)) dX12_drop_15 (jw_qc _ rfl) rfl rfl
  · refine jw_aloadR (pc := 16) 0 dX12_drop_16 rfl ?_
    refine jw_iconst (pc := 17) dX12_drop_17 ?_
    refine jw_putI (pc := 18) (j := 1) tyX12 rfl dX12_drop_18 jv_12 ji_12 tyX12_ok nmX12 (Or.inl jt_1232) rfl jg_127 jl_127 (by decide) (by decide) (jw_ho jg_127 (by decide)) rfl rfl (jw_rc _ rfl) rfl ?_
    refine jw_letM (fun M3 => ?_)
    refine jw_aloadR (pc := 21) 0 dX12_drop_21 rfl ?_
    refine jw_getR (pc := 22) (j := 2) rfl dX12_drop_22 jv_12 ji_12 (Or.inl jt_1233) jg_127 jl_127 (by decide) (by decide) rfl jf_12_2 ?_
    refine jw_iload_n (pc := 25) 1 dX12_drop_25 rfl ?_
    refine jw_iald (pc := 26) dX12_drop_26 jg_128 jl_128 (jw_ho jg_128 (by decide)) ha1 rfl (fun h4 => ?_)
    refine jw_if_ge (pc := 27) 36 dX12_drop_27 (by decide) h4 (fun _ => ?_) (fun _ => ?_)
    · refine jw_aloadR (pc := 30) 0 dX12_drop_30 rfl ?_
      refine jw_iconst (pc := 31) dX12_drop_31 ?_
      refine jw_callVMl (pc := 32) (As := [jI 1]) (st := []) dX12_drop_32 rfl (Nat.le_of_ble_eq_true rfl) qX12_finding jt_1350 jt_1352 jp_43 rfl rfl (Nat.le_of_ble_eq_true rfl) jv_12 rfl jg_127 jl_127 (by decide) (jw_ho jg_127 (by decide)) (kX12_finding G 1 (jw_rc _ rfl) M3) (fun v5 M6 hv5 => ?_)
      exact jw_ret (pc := 35) (v := v5) dX12_drop_35 hv5 rfl rfl
    · refine jw_aloadR (pc := 36) 0 dX12_drop_36 rfl ?_
      refine jw_getR (pc := 37) (j := 2) rfl dX12_drop_37 jv_12 ji_12 (Or.inl jt_1233) jg_127 jl_127 (by decide) (by decide) rfl jf_12_2 ?_
      refine jw_iload_n (pc := 40) 1 dX12_drop_40 rfl ?_
      refine jw_iconst (pc := 41) dX12_drop_41 ?_
      refine jw_iast (pc := 42) dX12_drop_42 jg_128 jl_128 (jw_ho jg_128 (by decide)) ha1 (jw_rc _ rfl) rfl ?_
      refine jw_letM (fun M7 => ?_)
      refine jw_aloadR (pc := 43) 0 dX12_drop_43 rfl ?_
      refine jw_getR (pc := 44) (j := 3) rfl dX12_drop_44 jv_12 ji_12 (Or.inl jt_1234) jg_127 jl_127 (by decide) (by decide) rfl jf_12_3 ?_
      refine jw_iload_n (pc := 47) 1 dX12_drop_47 rfl ?_
      refine jw_iald (pc := 48) dX12_drop_48 jg_129 jl_129 (jw_ho jg_129 (by decide)) ha1 rfl (fun h8 => ?_)
      refine jw_i2lr (pc := 49) dX12_drop_49 h8 ?_
      exact jw_ret (pc := 50) (v := M7 129 a1) dX12_drop_50 (jw_rq h8) rfl rfl
theorem kX12_drop (G : jw_G) (a1 : Int) (ha1 : jw_r a1) (M : jw_M) : jw_Ct G YX12_drop (some .long) 3 0 0 true (fun q => q) yX12_drop [jR G 127, jI a1] M (fX12_drop a1 M) := jw_met (by decide) rfl rfl rfl (Nat.le_of_ble_eq_true rfl) (rX12_drop G a1 ha1 M)
abbrev YX12_feed : jw_Y := (RX12, cX12_feed, 5, 2, "feed")
theorem qX12_feed : jw_cy YX12_feed (some .long) yX12_feed 2 := ⟨by decide, jt_1370, jt_14, by decide, by decide +kernel⟩
theorem dX12_feed_0 : decode cX12_feed 0 = .ok (.aload_n 0, 1) := by decide +kernel
theorem dX12_feed_1 : decode cX12_feed 1 = .ok (.iconst 0, 1) := by decide +kernel
theorem dX12_feed_2 : decode cX12_feed 2 = .ok (.putfield 71, 3) := by decide +kernel
theorem dX12_feed_5 : decode cX12_feed 5 = .ok (.iload_n 3, 1) := by decide +kernel
theorem dX12_feed_6 : decode cX12_feed 6 = .ok (.i2l, 1) := by decide +kernel
theorem dX12_feed_7 : decode cX12_feed 7 = .ok (.lconst 1, 1) := by decide +kernel
theorem dX12_feed_8 : decode cX12_feed 8 = .ok (.ldc2_w 98, 3) := by decide +kernel
theorem dX12_feed_11 : decode cX12_feed 11 = .ok (.invokestatic 82, 3) := by decide +kernel
theorem dX12_feed_14 : decode cX12_feed 14 = .ok (.ifCond .ne 7, 3) := by decide +kernel
theorem dX12_feed_17 : decode cX12_feed 17 = .ok (.ldc2_w 92, 3) := by decide +kernel
theorem dX12_feed_20 : decode cX12_feed 20 = .ok (.lreturn, 1) := by decide +kernel
theorem dX12_feed_21 : decode cX12_feed 21 = .ok (.aload_n 0, 1) := by decide +kernel
theorem dX12_feed_22 : decode cX12_feed 22 = .ok (.getfield 100, 3) := by decide +kernel
theorem dX12_feed_25 : decode cX12_feed 25 = .ok (.iload_n 3, 1) := by decide +kernel
theorem dX12_feed_26 : decode cX12_feed 26 = .ok (.iadd, 1) := by decide +kernel
theorem dX12_feed_27 : decode cX12_feed 27 = .ok (.sipush 600, 3) := by decide +kernel
theorem dX12_feed_30 : decode cX12_feed 30 = .ok (.if_icmp .le 7, 3) := by decide +kernel
theorem dX12_feed_33 : decode cX12_feed 33 = .ok (.ldc2_w 103, 3) := by decide +kernel
theorem dX12_feed_36 : decode cX12_feed 36 = .ok (.lreturn, 1) := by decide +kernel
theorem dX12_feed_37 : decode cX12_feed 37 = .ok (.iload_n 3, 1) := by decide +kernel
theorem dX12_feed_38 : decode cX12_feed 38 = .ok (.iconst 1, 1) := by decide +kernel
theorem dX12_feed_39 : decode cX12_feed 39 = .ok (.isub, 1) := by decide +kernel
theorem dX12_feed_40 : decode cX12_feed 40 = .ok (.istore 4, 2) := by decide +kernel
theorem dX12_feed_42 : decode cX12_feed 42 = .ok (.iload 4, 2) := by decide +kernel
theorem dX12_feed_44 : decode cX12_feed 44 = .ok (.ifCond .lt 40, 3) := by decide +kernel
theorem dX12_feed_47 : decode cX12_feed 47 = .ok (.aload_n 0, 1) := by decide +kernel
theorem dX12_feed_48 : decode cX12_feed 48 = .ok (.getfield 28, 3) := by decide +kernel
theorem dX12_feed_51 : decode cX12_feed 51 = .ok (.aload_n 0, 1) := by decide +kernel
theorem dX12_feed_52 : decode cX12_feed 52 = .ok (.getfield 100, 3) := by decide +kernel
theorem dX12_feed_55 : decode cX12_feed 55 = .ok (.lload_n 1, 1) := by decide +kernel
theorem dX12_feed_56 : decode cX12_feed 56 = .ok (.bipush 8, 2) := by decide +kernel
theorem dX12_feed_58 : decode cX12_feed 58 = .ok (.iload 4, 2) := by decide +kernel
theorem dX12_feed_60 : decode cX12_feed 60 = .ok (.imul, 1) := by decide +kernel
theorem dX12_feed_61 : decode cX12_feed 61 = .ok (.lshr, 1) := by decide +kernel
theorem dX12_feed_62 : decode cX12_feed 62 = .ok (.ldc2_w 105, 3) := by decide +kernel
theorem dX12_feed_65 : decode cX12_feed 65 = .ok (.land, 1) := by decide +kernel
theorem dX12_feed_66 : decode cX12_feed 66 = .ok (.l2i, 1) := by decide +kernel
theorem dX12_feed_67 : decode cX12_feed 67 = .ok (.iastore, 1) := by decide +kernel
theorem dX12_feed_68 : decode cX12_feed 68 = .ok (.aload_n 0, 1) := by decide +kernel
theorem dX12_feed_69 : decode cX12_feed 69 = .ok (.dup, 1) := by decide +kernel
theorem dX12_feed_70 : decode cX12_feed 70 = .ok (.getfield 100, 3) := by decide +kernel
theorem dX12_feed_73 : decode cX12_feed 73 = .ok (.iconst 1, 1) := by decide +kernel
theorem dX12_feed_74 : decode cX12_feed 74 = .ok (.iadd, 1) := by decide +kernel
theorem dX12_feed_75 : decode cX12_feed 75 = .ok (.putfield 100, 3) := by decide +kernel
theorem dX12_feed_78 : decode cX12_feed 78 = .ok (.iinc 4 (-1), 3) := by decide +kernel
theorem dX12_feed_81 : decode cX12_feed 81 = .ok (.goto (-39), 3) := by decide +kernel
theorem dX12_feed_84 : decode cX12_feed 84 = .ok (.aload_n 0, 1) := by decide +kernel
theorem dX12_feed_85 : decode cX12_feed 85 = .ok (.getfield 100, 3) := by decide +kernel
theorem dX12_feed_88 : decode cX12_feed 88 = .ok (.i2l, 1) := by decide +kernel
theorem dX12_feed_89 : decode cX12_feed 89 = .ok (.lreturn, 1) := by decide +kernel
def fX12_feed_42 : Nat → Int → Int → jw_M → Option (Int × jw_M)
  | 0, _, _, _ => none
  | k + 1, x1, x4, M => if x4 < 0 then (some (M 127 10, M)) else (if 0 ≤ M 127 10 ∧ M 127 10 < 600 then Option.bind (some (jw_up M 134 (M 127 10) (jw_w (jw_land (jw_lshr x1 (jw_w (8 * x4))) 255)))) (fun M7 => Option.bind (some (jw_up M7 127 10 (jw_w ((M7 127 10) + 1)))) (fun M9 => Option.bind (some (jw_w (x4 + (-1)))) (fun v10 => fX12_feed_42 k x1 v10 M9))) else none)
set_option maxRecDepth 100000 in
theorem pX12_feed_42 (G : jw_G) : ∀ (k : Nat) (x1 : Int) (x4 : Int) (hx1 : jw_q x1) (hx4 : jw_r x4) (M : jw_M), jw_Rn G YX12_feed 2 0 0 true (fun q => q) 42 [(0, jR G 127), (1, jL x1), (4, jI x4)] [] M (fX12_feed_42 k x1 x4 M) := by
  intro k
  induction k with
  | zero =>
    intro x1 x4 hx1 hx4 M
    exact jw_none
  | succ k ih =>
    intro x1 x4 hx1 hx4 M
    rw [fX12_feed_42]
    refine jw_iload (pc := 42) 2 dX12_feed_42 rfl ?_
    refine jw_if_lt (pc := 44) 84 dX12_feed_44 (by decide) hx4 (fun _ => ?_) (fun _ => ?_)
    · refine jw_aloadR (pc := 84) 0 dX12_feed_84 rfl ?_
      refine jw_getI (pc := 85) (j := 10) rfl dX12_feed_85 jv_12 ji_12 (Or.inl jt_1241) jg_127 jl_127 (by decide) (by decide) (jw_ho jg_127 (by decide)) (Or.inl rfl) rfl (fun h5 => ?_)
      refine jw_i2lr (pc := 88) dX12_feed_88 h5 ?_
      exact jw_ret (pc := 89) (v := M 127 10) dX12_feed_89 (jw_rq h5) rfl rfl
    · refine jw_aloadR (pc := 47) 0 dX12_feed_47 rfl ?_
      refine jw_getR (pc := 48) (j := 9) rfl dX12_feed_48 jv_12 ji_12 (Or.inl jt_1240) jg_127 jl_127 (by decide) (by decide) rfl jf_12_9 ?_
      refine jw_aloadR (pc := 51) 0 dX12_feed_51 rfl ?_
      refine jw_getI (pc := 52) (j := 10) rfl dX12_feed_52 jv_12 ji_12 (Or.inl jt_1241) jg_127 jl_127 (by decide) (by decide) (jw_ho jg_127 (by decide)) (Or.inl rfl) rfl (fun h6 => ?_)
      refine jw_lload_n (pc := 55) 1 dX12_feed_55 rfl ?_
      refine jw_bipush (pc := 56) dX12_feed_56 rfl ?_
      refine jw_iload (pc := 58) 2 dX12_feed_58 rfl ?_
      refine jw_imul (pc := 60) dX12_feed_60 ?_
      refine jw_lshrr (pc := 61) dX12_feed_61 ?_
      refine jw_ldc2 (pc := 62) (n := 255) dX12_feed_62 jt_1373 (by decide) ?_
      refine jw_landr (pc := 65) dX12_feed_65 ?_
      refine jw_l2ir (pc := 66) dX12_feed_66 ?_
      refine jw_iast (pc := 67) dX12_feed_67 jg_134 jl_134 (jw_ho jg_134 (by decide)) h6 (jw_wr _) rfl ?_
      refine jw_letM (fun M7 => ?_)
      refine jw_aloadR (pc := 68) 0 dX12_feed_68 rfl ?_
      refine jw_dup (pc := 69) dX12_feed_69 rfl ?_
      refine jw_getI (pc := 70) (j := 10) rfl dX12_feed_70 jv_12 ji_12 (Or.inl jt_1241) jg_127 jl_127 (by decide) (by decide) (jw_ho jg_127 (by decide)) (Or.inl rfl) rfl (fun h8 => ?_)
      refine jw_iconst (pc := 73) dX12_feed_73 ?_
      refine jw_iadd (pc := 74) dX12_feed_74 ?_
      refine jw_putI (pc := 75) (j := 10) tyX12 rfl dX12_feed_75 jv_12 ji_12 tyX12_ok nmX12 (Or.inl jt_1241) rfl jg_127 jl_127 (by decide) (by decide) (jw_ho jg_127 (by decide)) rfl rfl (jw_wr _) rfl ?_
      refine jw_letM (fun M9 => ?_)
      refine jw_iincL (pc := 78) 2 (lv' := (fun y => [(4, y), (0, jR G 127), (1, jL x1)])) dX12_feed_78 rfl (Nat.le_of_ble_eq_true rfl) (fun _ => rfl) (fun v10 hv10 => ?_)
      refine jw_goto (pc := 81) 42 dX12_feed_81 (by decide) ?_
      exact jw_few [1, 2, 0] rfl (ih x1 v10 hx1 hv10 M9)
def fX12_feed (a1 : Int) (a2 : Int) (M : jw_M) : Option (Int × jw_M) :=
  Option.bind (some (jw_up M 127 0 0)) (fun M1 => Option.bind (fX12_in a2 1 8 M1) (fun v2 => if v2 = 0 then (some ((-9000000000000000001), M1)) else (if (600 : Int) < jw_w ((M1 127 10) + a2) then (some ((-9000000000000000003), M1)) else (Option.bind (some (jw_w (a2 - 1))) (fun v4 => fX12_feed_42 jw_fu a1 v4 M1)))))
set_option maxRecDepth 100000 in
theorem rX12_feed (G : jw_G) (a1 : Int) (a2 : Int) (ha1 : jw_q a1) (ha2 : jw_r a2) (M : jw_M) : jw_Rn G YX12_feed 2 0 0 true (fun q => q) 0 [(0, jR G 127), (1, jL a1), (3, jI a2)] [] M (fX12_feed a1 a2 M) := by
  unfold fX12_feed
  refine jw_aloadR (pc := 0) 0 dX12_feed_0 rfl ?_
  refine jw_iconst (pc := 1) dX12_feed_1 ?_
  refine jw_putI (pc := 2) (j := 0) tyX12 rfl dX12_feed_2 jv_12 ji_12 tyX12_ok nmX12 (Or.inl jt_1231) rfl jg_127 jl_127 (by decide) (by decide) (jw_ho jg_127 (by decide)) rfl rfl (jw_rc _ rfl) rfl ?_
  refine jw_letM (fun M1 => ?_)
  refine jw_iload_n (pc := 5) 2 dX12_feed_5 rfl ?_
  refine jw_i2lr (pc := 6) dX12_feed_6 ha2 ?_
  refine jw_lconst (pc := 7) (z := 1) dX12_feed_7 rfl ?_
  refine jw_ldc2 (pc := 8) (n := 8) dX12_feed_8 jt_1371 (by decide) ?_
  refine jw_callSz (pc := 11) (As := [jL a2, jL 1, jL 8]) (st := []) dX12_feed_11 rfl (Nat.le_of_ble_eq_true rfl) qX12_in jt_1345 jt_1346 rfl rfl (Nat.le_of_ble_eq_true rfl) (kX12_in G a2 1 8 (jw_rq ha2) (jw_qc _ rfl) (jw_qc _ rfl) M1) (fun v2 hv2 => ?_)
  refine jw_if_ne (pc := 14) 21 dX12_feed_14 (by decide) (jw_bz hv2) (fun _ => ?_) (fun _ => ?_)
  · refine jw_ldc2 (pc := 17) (n := (-9000000000000000001)) dX12_feed_17 jt_1349 (by decide) ?_
    exact jw_ret (pc := 20) (v := (-9000000000000000001)) dX12_feed_20 (jw_qc _ rfl) rfl rfl
  · refine jw_aloadR (pc := 21) 0 dX12_feed_21 rfl ?_
    refine jw_getI (pc := 22) (j := 10) rfl dX12_feed_22 jv_12 ji_12 (Or.inl jt_1241) jg_127 jl_127 (by decide) (by decide) (jw_ho jg_127 (by decide)) (Or.inl rfl) rfl (fun h3 => ?_)
    refine jw_iload_n (pc := 25) 2 dX12_feed_25 rfl ?_
    refine jw_iadd (pc := 26) dX12_feed_26 ?_
    refine jw_sipush (pc := 27) dX12_feed_27 rfl ?_
    refine jw_ic_le (pc := 30) 37 dX12_feed_30 (by decide) (jw_wr _) (jw_rc _ rfl) (fun _ => ?_) (fun _ => ?_)
    · refine jw_ldc2 (pc := 33) (n := (-9000000000000000003)) dX12_feed_33 jt_1372 (by decide) ?_
      exact jw_ret (pc := 36) (v := (-9000000000000000003)) dX12_feed_36 (jw_qc _ rfl) rfl rfl
    · refine jw_iload_n (pc := 37) 2 dX12_feed_37 rfl ?_
      refine jw_iconst (pc := 38) dX12_feed_38 ?_
      refine jw_isub (pc := 39) dX12_feed_39 ?_
      refine jw_istoreL (pc := 40) (lv' := (fun y => [(4, y), (0, jR G 127), (1, jL a1), (3, jI a2)])) dX12_feed_40 (jw_wr _) (by decide) (fun _ => rfl) (fun v4 hv4 => ?_)
      exact jw_few [1, 2, 0] rfl (pX12_feed_42 G jw_fu a1 v4 ha1 hv4 M1)
theorem kX12_feed (G : jw_G) (a1 : Int) (a2 : Int) (ha1 : jw_q a1) (ha2 : jw_r a2) (M : jw_M) : jw_Ct G YX12_feed (some .long) 2 0 0 true (fun q => q) yX12_feed [jR G 127, jL a1, jI a2] M (fX12_feed a1 a2 M) := jw_met (by decide) rfl rfl rfl (Nat.le_of_ble_eq_true rfl) (rX12_feed G a1 a2 ha1 ha2 M)
abbrev YX12_byteAt : jw_Y := (RX12, cX12_byteAt, 2, 1, "byteAt")
theorem qX12_byteAt : jw_cy YX12_byteAt (some .int) yX12_byteAt 1 := ⟨by decide, jt_1385, jt_14, by decide, by decide +kernel⟩
theorem dX12_byteAt_0 : decode cX12_byteAt 0 = .ok (.iload_n 1, 1) := by decide +kernel
theorem dX12_byteAt_1 : decode cX12_byteAt 1 = .ok (.aload_n 0, 1) := by decide +kernel
theorem dX12_byteAt_2 : decode cX12_byteAt 2 = .ok (.getfield 107, 3) := by decide +kernel
theorem dX12_byteAt_5 : decode cX12_byteAt 5 = .ok (.if_icmp .ge 12, 3) := by decide +kernel
theorem dX12_byteAt_8 : decode cX12_byteAt 8 = .ok (.aload_n 0, 1) := by decide +kernel
theorem dX12_byteAt_9 : decode cX12_byteAt 9 = .ok (.getfield 28, 3) := by decide +kernel
theorem dX12_byteAt_12 : decode cX12_byteAt 12 = .ok (.iload_n 1, 1) := by decide +kernel
theorem dX12_byteAt_13 : decode cX12_byteAt 13 = .ok (.iaload, 1) := by decide +kernel
theorem dX12_byteAt_14 : decode cX12_byteAt 14 = .ok (.goto 5, 3) := by decide +kernel
theorem dX12_byteAt_17 : decode cX12_byteAt 17 = .ok (.ldc 110, 2) := by decide +kernel
theorem dX12_byteAt_19 : decode cX12_byteAt 19 = .ok (.ireturn, 1) := by decide +kernel
def fX12_byteAt (a1 : Int) (M : jw_M) : Option Int :=
  if a1 < M 127 12 then (if 0 ≤ a1 ∧ a1 < 600 then some (M 134 a1) else none) else (some (-1000000))
set_option maxRecDepth 100000 in
theorem rX12_byteAt (G : jw_G) (a1 : Int) (ha1 : jw_r a1) (M : jw_M) : jw_Rn G YX12_byteAt 1 0 0 true (fun v => (v, M)) 0 [(0, jR G 127), (1, jI a1)] [] M (fX12_byteAt a1 M) := by
  unfold fX12_byteAt
  refine jw_iload_n (pc := 0) 1 dX12_byteAt_0 rfl ?_
  refine jw_aloadR (pc := 1) 0 dX12_byteAt_1 rfl ?_
  refine jw_getI (pc := 2) (j := 12) rfl dX12_byteAt_2 jv_12 ji_12 (Or.inl jt_1243) jg_127 jl_127 (by decide) (by decide) (jw_ho jg_127 (by decide)) (Or.inl rfl) rfl (fun h1 => ?_)
  refine jw_ic_ge (pc := 5) 17 dX12_byteAt_5 (by decide) ha1 h1 (fun _ => ?_) (fun _ => ?_)
  · refine jw_aloadR (pc := 8) 0 dX12_byteAt_8 rfl ?_
    refine jw_getR (pc := 9) (j := 9) rfl dX12_byteAt_9 jv_12 ji_12 (Or.inl jt_1240) jg_127 jl_127 (by decide) (by decide) rfl jf_12_9 ?_
    refine jw_iload_n (pc := 12) 1 dX12_byteAt_12 rfl ?_
    refine jw_iald (pc := 13) dX12_byteAt_13 jg_134 jl_134 (jw_ho jg_134 (by decide)) ha1 rfl (fun h2 => ?_)
    refine jw_goto (pc := 14) 19 dX12_byteAt_14 (by decide) ?_
    exact jw_ret (pc := 19) (v := M 134 a1) dX12_byteAt_19 h2 rfl rfl
  · refine jw_ldc (pc := 17) (n := (-1000000)) dX12_byteAt_17 jt_1386 (by decide) ?_
    exact jw_ret (pc := 19) (v := (-1000000)) dX12_byteAt_19 (jw_rc _ rfl) rfl rfl
theorem kX12_byteAt (G : jw_G) (a1 : Int) (ha1 : jw_r a1) (M : jw_M) : jw_Ct G YX12_byteAt (some .int) 1 0 0 true (fun v => (v, M)) yX12_byteAt [jR G 127, jI a1] M (fX12_byteAt a1 M) := jw_met (by decide) rfl rfl rfl (Nat.le_of_ble_eq_true rfl) (rX12_byteAt G a1 ha1 M)
abbrev YX12_isLetter : jw_Y := (RX12, cX12_isLetter, 1, 4, "isLetter")
theorem qX12_isLetter : jw_cy YX12_isLetter (some .boolean) yX12_isLetter 1 := ⟨by decide, jt_1389, jt_14, by decide, by decide +kernel⟩
theorem dX12_isLetter_0 : decode cX12_isLetter 0 = .ok (.iload_n 0, 1) := by decide +kernel
theorem dX12_isLetter_1 : decode cX12_isLetter 1 = .ok (.bipush 97, 2) := by decide +kernel
theorem dX12_isLetter_3 : decode cX12_isLetter 3 = .ok (.if_icmp .lt 13, 3) := by decide +kernel
theorem dX12_isLetter_6 : decode cX12_isLetter 6 = .ok (.iload_n 0, 1) := by decide +kernel
theorem dX12_isLetter_7 : decode cX12_isLetter 7 = .ok (.bipush 122, 2) := by decide +kernel
theorem dX12_isLetter_9 : decode cX12_isLetter 9 = .ok (.if_icmp .gt 7, 3) := by decide +kernel
theorem dX12_isLetter_12 : decode cX12_isLetter 12 = .ok (.iconst 1, 1) := by decide +kernel
theorem dX12_isLetter_13 : decode cX12_isLetter 13 = .ok (.goto 4, 3) := by decide +kernel
theorem dX12_isLetter_16 : decode cX12_isLetter 16 = .ok (.iconst 0, 1) := by decide +kernel
theorem dX12_isLetter_17 : decode cX12_isLetter 17 = .ok (.ireturn, 1) := by decide +kernel
def fX12_isLetter (a1 : Int) (M : jw_M) : Option Int :=
  if a1 < 97 then (some 0) else (if (122 : Int) < a1 then (some 0) else (some 1))
set_option maxRecDepth 100000 in
theorem rX12_isLetter (G : jw_G) (a1 : Int) (ha1 : jw_r a1) (M : jw_M) : jw_Rn G YX12_isLetter 1 0 0 true (fun v => (v, M)) 0 [(0, jI a1)] [] M (fX12_isLetter a1 M) := by
  unfold fX12_isLetter
  refine jw_iload_n (pc := 0) 0 dX12_isLetter_0 rfl ?_
  refine jw_bipush (pc := 1) dX12_isLetter_1 rfl ?_
  refine jw_ic_lt (pc := 3) 16 dX12_isLetter_3 (by decide) ha1 (jw_rc _ rfl) (fun _ => ?_) (fun _ => ?_)
  · refine jw_iconst (pc := 16) dX12_isLetter_16 ?_
    exact jw_ret (pc := 17) (v := 0) dX12_isLetter_17 (Or.inl rfl) rfl rfl
  · refine jw_iload_n (pc := 6) 0 dX12_isLetter_6 rfl ?_
    refine jw_bipush (pc := 7) dX12_isLetter_7 rfl ?_
    refine jw_ic_gt (pc := 9) 16 dX12_isLetter_9 (by decide) ha1 (jw_rc _ rfl) (fun _ => ?_) (fun _ => ?_)
    · refine jw_iconst (pc := 16) dX12_isLetter_16 ?_
      exact jw_ret (pc := 17) (v := 0) dX12_isLetter_17 (Or.inl rfl) rfl rfl
    · refine jw_iconst (pc := 12) dX12_isLetter_12 ?_
      refine jw_goto (pc := 13) 17 dX12_isLetter_13 (by decide) ?_
      exact jw_ret (pc := 17) (v := 1) dX12_isLetter_17 (Or.inr rfl) rfl rfl
theorem kX12_isLetter (G : jw_G) (a1 : Int) (ha1 : jw_r a1) (M : jw_M) : jw_Ct G YX12_isLetter (some .boolean) 1 0 0 true (fun v => (v, M)) yX12_isLetter [jI a1] M (fX12_isLetter a1 M) := jw_met (by decide) rfl rfl rfl (Nat.le_of_ble_eq_true rfl) (rX12_isLetter G a1 ha1 M)
abbrev YX12_isFigure : jw_Y := (RX12, cX12_isFigure, 1, 4, "isFigure")
theorem qX12_isFigure : jw_cy YX12_isFigure (some .boolean) yX12_isFigure 1 := ⟨by decide, jt_1392, jt_14, by decide, by decide +kernel⟩
theorem dX12_isFigure_0 : decode cX12_isFigure 0 = .ok (.iload_n 0, 1) := by decide +kernel
theorem dX12_isFigure_1 : decode cX12_isFigure 1 = .ok (.bipush 48, 2) := by decide +kernel
theorem dX12_isFigure_3 : decode cX12_isFigure 3 = .ok (.if_icmp .lt 13, 3) := by decide +kernel
theorem dX12_isFigure_6 : decode cX12_isFigure 6 = .ok (.iload_n 0, 1) := by decide +kernel
theorem dX12_isFigure_7 : decode cX12_isFigure 7 = .ok (.bipush 57, 2) := by decide +kernel
theorem dX12_isFigure_9 : decode cX12_isFigure 9 = .ok (.if_icmp .gt 7, 3) := by decide +kernel
theorem dX12_isFigure_12 : decode cX12_isFigure 12 = .ok (.iconst 1, 1) := by decide +kernel
theorem dX12_isFigure_13 : decode cX12_isFigure 13 = .ok (.goto 4, 3) := by decide +kernel
theorem dX12_isFigure_16 : decode cX12_isFigure 16 = .ok (.iconst 0, 1) := by decide +kernel
theorem dX12_isFigure_17 : decode cX12_isFigure 17 = .ok (.ireturn, 1) := by decide +kernel
def fX12_isFigure (a1 : Int) (M : jw_M) : Option Int :=
  if a1 < 48 then (some 0) else (if (57 : Int) < a1 then (some 0) else (some 1))
set_option maxRecDepth 100000 in
theorem rX12_isFigure (G : jw_G) (a1 : Int) (ha1 : jw_r a1) (M : jw_M) : jw_Rn G YX12_isFigure 1 0 0 true (fun v => (v, M)) 0 [(0, jI a1)] [] M (fX12_isFigure a1 M) := by
  unfold fX12_isFigure
  refine jw_iload_n (pc := 0) 0 dX12_isFigure_0 rfl ?_
  refine jw_bipush (pc := 1) dX12_isFigure_1 rfl ?_
  refine jw_ic_lt (pc := 3) 16 dX12_isFigure_3 (by decide) ha1 (jw_rc _ rfl) (fun _ => ?_) (fun _ => ?_)
  · refine jw_iconst (pc := 16) dX12_isFigure_16 ?_
    exact jw_ret (pc := 17) (v := 0) dX12_isFigure_17 (Or.inl rfl) rfl rfl
  · refine jw_iload_n (pc := 6) 0 dX12_isFigure_6 rfl ?_
    refine jw_bipush (pc := 7) dX12_isFigure_7 rfl ?_
    refine jw_ic_gt (pc := 9) 16 dX12_isFigure_9 (by decide) ha1 (jw_rc _ rfl) (fun _ => ?_) (fun _ => ?_)
    · refine jw_iconst (pc := 16) dX12_isFigure_16 ?_
      exact jw_ret (pc := 17) (v := 0) dX12_isFigure_17 (Or.inl rfl) rfl rfl
    · refine jw_iconst (pc := 12) dX12_isFigure_12 ?_
      refine jw_goto (pc := 13) 17 dX12_isFigure_13 (by decide) ?_
      exact jw_ret (pc := 17) (v := 1) dX12_isFigure_17 (Or.inr rfl) rfl rfl
theorem kX12_isFigure (G : jw_G) (a1 : Int) (ha1 : jw_r a1) (M : jw_M) : jw_Ct G YX12_isFigure (some .boolean) 1 0 0 true (fun v => (v, M)) yX12_isFigure [jI a1] M (fX12_isFigure a1 M) := jw_met (by decide) rfl rfl rfl (Nat.le_of_ble_eq_true rfl) (rX12_isFigure G a1 ha1 M)
abbrev YX12_next : jw_Y := (RX12, cX12_next, 2, 0, "next")
theorem qX12_next : jw_cy YX12_next none yX12_next 0 := ⟨by decide, jt_1381, jt_14, by decide, by decide +kernel⟩
theorem dX12_next_0 : decode cX12_next 0 = .ok (.aload_n 0, 1) := by decide +kernel
theorem dX12_next_1 : decode cX12_next 1 = .ok (.aload_n 0, 1) := by decide +kernel
theorem dX12_next_2 : decode cX12_next 2 = .ok (.getfield 111, 3) := by decide +kernel
theorem dX12_next_5 : decode cX12_next 5 = .ok (.invokevirtual 114, 3) := by decide +kernel
theorem dX12_next_8 : decode cX12_next 8 = .ok (.bipush 32, 2) := by decide +kernel
theorem dX12_next_10 : decode cX12_next 10 = .ok (.if_icmp .eq 16, 3) := by decide +kernel
theorem dX12_next_13 : decode cX12_next 13 = .ok (.aload_n 0, 1) := by decide +kernel
theorem dX12_next_14 : decode cX12_next 14 = .ok (.aload_n 0, 1) := by decide +kernel
theorem dX12_next_15 : decode cX12_next 15 = .ok (.getfield 111, 3) := by decide +kernel
theorem dX12_next_18 : decode cX12_next 18 = .ok (.invokevirtual 114, 3) := by decide +kernel
theorem dX12_next_21 : decode cX12_next 21 = .ok (.bipush 10, 2) := by decide +kernel
theorem dX12_next_23 : decode cX12_next 23 = .ok (.if_icmp .ne 16, 3) := by decide +kernel
theorem dX12_next_26 : decode cX12_next 26 = .ok (.aload_n 0, 1) := by decide +kernel
theorem dX12_next_27 : decode cX12_next 27 = .ok (.dup, 1) := by decide +kernel
theorem dX12_next_28 : decode cX12_next 28 = .ok (.getfield 111, 3) := by decide +kernel
theorem dX12_next_31 : decode cX12_next 31 = .ok (.iconst 1, 1) := by decide +kernel
theorem dX12_next_32 : decode cX12_next 32 = .ok (.iadd, 1) := by decide +kernel
theorem dX12_next_33 : decode cX12_next 33 = .ok (.putfield 111, 3) := by decide +kernel
theorem dX12_next_36 : decode cX12_next 36 = .ok (.goto (-36), 3) := by decide +kernel
theorem dX12_next_39 : decode cX12_next 39 = .ok (.aload_n 0, 1) := by decide +kernel
theorem dX12_next_40 : decode cX12_next 40 = .ok (.aload_n 0, 1) := by decide +kernel
theorem dX12_next_41 : decode cX12_next 41 = .ok (.getfield 111, 3) := by decide +kernel
theorem dX12_next_44 : decode cX12_next 44 = .ok (.putfield 118, 3) := by decide +kernel
theorem dX12_next_47 : decode cX12_next 47 = .ok (.aload_n 0, 1) := by decide +kernel
theorem dX12_next_48 : decode cX12_next 48 = .ok (.aload_n 0, 1) := by decide +kernel
theorem dX12_next_49 : decode cX12_next 49 = .ok (.getfield 111, 3) := by decide +kernel
theorem dX12_next_52 : decode cX12_next 52 = .ok (.invokevirtual 114, 3) := by decide +kernel
theorem dX12_next_55 : decode cX12_next 55 = .ok (.istore_n 1, 1) := by decide +kernel
theorem dX12_next_56 : decode cX12_next 56 = .ok (.iload_n 1, 1) := by decide +kernel
theorem dX12_next_57 : decode cX12_next 57 = .ok (.ldc 110, 2) := by decide +kernel
theorem dX12_next_59 : decode cX12_next 59 = .ok (.if_icmp .ne 11, 3) := by decide +kernel
theorem dX12_next_62 : decode cX12_next 62 = .ok (.aload_n 0, 1) := by decide +kernel
theorem dX12_next_63 : decode cX12_next 63 = .ok (.iconst 1, 1) := by decide +kernel
theorem dX12_next_64 : decode cX12_next 64 = .ok (.putfield 121, 3) := by decide +kernel
theorem dX12_next_67 : decode cX12_next 67 = .ok (.goto 129, 3) := by decide +kernel
theorem dX12_next_70 : decode cX12_next 70 = .ok (.iload_n 1, 1) := by decide +kernel
theorem dX12_next_71 : decode cX12_next 71 = .ok (.invokestatic 124, 3) := by decide +kernel
theorem dX12_next_74 : decode cX12_next 74 = .ok (.ifCond .eq 38, 3) := by decide +kernel
theorem dX12_next_77 : decode cX12_next 77 = .ok (.aload_n 0, 1) := by decide +kernel
theorem dX12_next_78 : decode cX12_next 78 = .ok (.aload_n 0, 1) := by decide +kernel
theorem dX12_next_79 : decode cX12_next 79 = .ok (.getfield 111, 3) := by decide +kernel
theorem dX12_next_82 : decode cX12_next 82 = .ok (.invokevirtual 114, 3) := by decide +kernel
theorem dX12_next_85 : decode cX12_next 85 = .ok (.invokestatic 124, 3) := by decide +kernel
theorem dX12_next_88 : decode cX12_next 88 = .ok (.ifCond .eq 16, 3) := by decide +kernel
theorem dX12_next_91 : decode cX12_next 91 = .ok (.aload_n 0, 1) := by decide +kernel
theorem dX12_next_92 : decode cX12_next 92 = .ok (.dup, 1) := by decide +kernel
theorem dX12_next_93 : decode cX12_next 93 = .ok (.getfield 111, 3) := by decide +kernel
theorem dX12_next_96 : decode cX12_next 96 = .ok (.iconst 1, 1) := by decide +kernel
theorem dX12_next_97 : decode cX12_next 97 = .ok (.iadd, 1) := by decide +kernel
theorem dX12_next_98 : decode cX12_next 98 = .ok (.putfield 111, 3) := by decide +kernel
theorem dX12_next_101 : decode cX12_next 101 = .ok (.goto (-24), 3) := by decide +kernel
theorem dX12_next_104 : decode cX12_next 104 = .ok (.aload_n 0, 1) := by decide +kernel
theorem dX12_next_105 : decode cX12_next 105 = .ok (.iconst 2, 1) := by decide +kernel
theorem dX12_next_106 : decode cX12_next 106 = .ok (.putfield 121, 3) := by decide +kernel
theorem dX12_next_109 : decode cX12_next 109 = .ok (.goto 87, 3) := by decide +kernel
theorem dX12_next_112 : decode cX12_next 112 = .ok (.iload_n 1, 1) := by decide +kernel
theorem dX12_next_113 : decode cX12_next 113 = .ok (.invokestatic 127, 3) := by decide +kernel
theorem dX12_next_116 : decode cX12_next 116 = .ok (.ifCond .eq 55, 3) := by decide +kernel
theorem dX12_next_119 : decode cX12_next 119 = .ok (.aload_n 0, 1) := by decide +kernel
theorem dX12_next_120 : decode cX12_next 120 = .ok (.aload_n 0, 1) := by decide +kernel
theorem dX12_next_121 : decode cX12_next 121 = .ok (.getfield 111, 3) := by decide +kernel
theorem dX12_next_124 : decode cX12_next 124 = .ok (.invokevirtual 114, 3) := by decide +kernel
theorem dX12_next_127 : decode cX12_next 127 = .ok (.invokestatic 127, 3) := by decide +kernel
theorem dX12_next_130 : decode cX12_next 130 = .ok (.ifCond .eq 16, 3) := by decide +kernel
theorem dX12_next_133 : decode cX12_next 133 = .ok (.aload_n 0, 1) := by decide +kernel
theorem dX12_next_134 : decode cX12_next 134 = .ok (.dup, 1) := by decide +kernel
theorem dX12_next_135 : decode cX12_next 135 = .ok (.getfield 111, 3) := by decide +kernel
theorem dX12_next_138 : decode cX12_next 138 = .ok (.iconst 1, 1) := by decide +kernel
theorem dX12_next_139 : decode cX12_next 139 = .ok (.iadd, 1) := by decide +kernel
theorem dX12_next_140 : decode cX12_next 140 = .ok (.putfield 111, 3) := by decide +kernel
theorem dX12_next_143 : decode cX12_next 143 = .ok (.goto (-24), 3) := by decide +kernel
theorem dX12_next_146 : decode cX12_next 146 = .ok (.aload_n 0, 1) := by decide +kernel
theorem dX12_next_147 : decode cX12_next 147 = .ok (.aload_n 0, 1) := by decide +kernel
theorem dX12_next_148 : decode cX12_next 148 = .ok (.getfield 111, 3) := by decide +kernel
theorem dX12_next_151 : decode cX12_next 151 = .ok (.aload_n 0, 1) := by decide +kernel
theorem dX12_next_152 : decode cX12_next 152 = .ok (.getfield 118, 3) := by decide +kernel
theorem dX12_next_155 : decode cX12_next 155 = .ok (.isub, 1) := by decide +kernel
theorem dX12_next_156 : decode cX12_next 156 = .ok (.iconst 3, 1) := by decide +kernel
theorem dX12_next_157 : decode cX12_next 157 = .ok (.if_icmp .le 7, 3) := by decide +kernel
theorem dX12_next_160 : decode cX12_next 160 = .ok (.iconst 0, 1) := by decide +kernel
theorem dX12_next_161 : decode cX12_next 161 = .ok (.goto 4, 3) := by decide +kernel
theorem dX12_next_164 : decode cX12_next 164 = .ok (.iconst 3, 1) := by decide +kernel
theorem dX12_next_165 : decode cX12_next 165 = .ok (.putfield 121, 3) := by decide +kernel
theorem dX12_next_168 : decode cX12_next 168 = .ok (.goto 28, 3) := by decide +kernel
theorem dX12_next_171 : decode cX12_next 171 = .ok (.aload_n 0, 1) := by decide +kernel
theorem dX12_next_172 : decode cX12_next 172 = .ok (.dup, 1) := by decide +kernel
theorem dX12_next_173 : decode cX12_next 173 = .ok (.getfield 111, 3) := by decide +kernel
theorem dX12_next_176 : decode cX12_next 176 = .ok (.iconst 1, 1) := by decide +kernel
theorem dX12_next_177 : decode cX12_next 177 = .ok (.iadd, 1) := by decide +kernel
theorem dX12_next_178 : decode cX12_next 178 = .ok (.putfield 111, 3) := by decide +kernel
theorem dX12_next_181 : decode cX12_next 181 = .ok (.aload_n 0, 1) := by decide +kernel
theorem dX12_next_182 : decode cX12_next 182 = .ok (.iload_n 1, 1) := by decide +kernel
theorem dX12_next_183 : decode cX12_next 183 = .ok (.bipush 59, 2) := by decide +kernel
theorem dX12_next_185 : decode cX12_next 185 = .ok (.if_icmp .ne 7, 3) := by decide +kernel
theorem dX12_next_188 : decode cX12_next 188 = .ok (.iconst 4, 1) := by decide +kernel
theorem dX12_next_189 : decode cX12_next 189 = .ok (.goto 4, 3) := by decide +kernel
theorem dX12_next_192 : decode cX12_next 192 = .ok (.iconst 0, 1) := by decide +kernel
theorem dX12_next_193 : decode cX12_next 193 = .ok (.putfield 121, 3) := by decide +kernel
theorem dX12_next_196 : decode cX12_next 196 = .ok (.aload_n 0, 1) := by decide +kernel
theorem dX12_next_197 : decode cX12_next 197 = .ok (.aload_n 0, 1) := by decide +kernel
theorem dX12_next_198 : decode cX12_next 198 = .ok (.getfield 111, 3) := by decide +kernel
theorem dX12_next_201 : decode cX12_next 201 = .ok (.putfield 130, 3) := by decide +kernel
theorem dX12_next_204 : decode cX12_next 204 = .ok (.return_, 1) := by decide +kernel
def fX12_next_26 (r0 : jw_M → Option jw_M) (M : jw_M) : Option jw_M :=
  Option.bind (some (jw_up M 127 13 (jw_w ((M 127 13) + 1)))) (fun M4 => r0 M4)
set_option maxRecDepth 100000 in
theorem pX12_next_26 (G : jw_G) (r0 : jw_M → Option jw_M) (hr0 : ∀ (M : jw_M), jw_Rn G YX12_next 2 0 0 true (fun M1 => (0, M1)) 0 [(0, jR G 127)] [] M (r0 M)) : ∀ (M : jw_M), jw_Rn G YX12_next 2 0 0 true (fun M1 => (0, M1)) 26 [(0, jR G 127)] [] M (fX12_next_26 r0 M) := by
  intro M
  unfold fX12_next_26
  refine jw_aloadR (pc := 26) 0 dX12_next_26 rfl ?_
  refine jw_dup (pc := 27) dX12_next_27 rfl ?_
  refine jw_getI (pc := 28) (j := 13) rfl dX12_next_28 jv_12 ji_12 (Or.inl jt_1244) jg_127 jl_127 (by decide) (by decide) (jw_ho jg_127 (by decide)) (Or.inl rfl) rfl (fun h3 => ?_)
  refine jw_iconst (pc := 31) dX12_next_31 ?_
  refine jw_iadd (pc := 32) dX12_next_32 ?_
  refine jw_putI (pc := 33) (j := 13) tyX12 rfl dX12_next_33 jv_12 ji_12 tyX12_ok nmX12 (Or.inl jt_1244) rfl jg_127 jl_127 (by decide) (by decide) (jw_ho jg_127 (by decide)) rfl rfl (jw_wr _) rfl ?_
  refine jw_letM (fun M4 => ?_)
  refine jw_goto (pc := 36) 0 dX12_next_36 (by decide) ?_
  exact jw_few [0] rfl (hr0 M4)
def fX12_next_196 (M : jw_M) : Option jw_M :=
  Option.bind (some (jw_up M 127 16 (M 127 13))) (fun M14 => some M14)
set_option maxRecDepth 100000 in
theorem pX12_next_196 (G : jw_G) : ∀ (M : jw_M), jw_Rn G YX12_next 2 0 0 true (fun M1 => (0, M1)) 196 [(0, jR G 127)] [] M (fX12_next_196 M) := by
  intro M
  unfold fX12_next_196
  refine jw_aloadR (pc := 196) 0 dX12_next_196 rfl ?_
  refine jw_aloadR (pc := 197) 0 dX12_next_197 rfl ?_
  refine jw_getI (pc := 198) (j := 13) rfl dX12_next_198 jv_12 ji_12 (Or.inl jt_1244) jg_127 jl_127 (by decide) (by decide) (jw_ho jg_127 (by decide)) (Or.inl rfl) rfl (fun h13 => ?_)
  refine jw_putI (pc := 201) (j := 16) tyX12 rfl dX12_next_201 jv_12 ji_12 tyX12_ok nmX12 (Or.inl jt_1247) rfl jg_127 jl_127 (by decide) (by decide) (jw_ho jg_127 (by decide)) rfl rfl h13 rfl ?_
  refine jw_letM (fun M14 => ?_)
  exact jw_ret (pc := 204) (v := 0) dX12_next_204 trivial rfl rfl
def fX12_next_193 (xs0 : Int) (M : jw_M) : Option jw_M :=
  Option.bind (some (jw_up M 127 14 xs0)) (fun M19 => fX12_next_196 M19)
set_option maxRecDepth 100000 in
theorem pX12_next_193 (G : jw_G) : ∀ (xs0 : Int) (hxs0 : jw_r xs0) (M : jw_M), jw_Rn G YX12_next 2 0 0 true (fun M1 => (0, M1)) 193 [(0, jR G 127)] [jI xs0, jR G 127] M (fX12_next_193 xs0 M) := by
  intro xs0 hxs0 M
  unfold fX12_next_193
  refine jw_putI (pc := 193) (j := 14) tyX12 rfl dX12_next_193 jv_12 ji_12 tyX12_ok nmX12 (Or.inl jt_1245) rfl jg_127 jl_127 (by decide) (by decide) (jw_ho jg_127 (by decide)) rfl rfl hxs0 rfl ?_
  refine jw_letM (fun M19 => ?_)
  exact jw_few [0] rfl (pX12_next_196 G M19)
def fX12_next_165 (xs0 : Int) (M : jw_M) : Option jw_M :=
  Option.bind (some (jw_up M 127 14 xs0)) (fun M25 => fX12_next_196 M25)
set_option maxRecDepth 100000 in
theorem pX12_next_165 (G : jw_G) : ∀ (xs0 : Int) (hxs0 : jw_r xs0) (M : jw_M), jw_Rn G YX12_next 2 0 0 true (fun M1 => (0, M1)) 165 [(0, jR G 127)] [jI xs0, jR G 127] M (fX12_next_165 xs0 M) := by
  intro xs0 hxs0 M
  unfold fX12_next_165
  refine jw_putI (pc := 165) (j := 14) tyX12 rfl dX12_next_165 jv_12 ji_12 tyX12_ok nmX12 (Or.inl jt_1245) rfl jg_127 jl_127 (by decide) (by decide) (jw_ho jg_127 (by decide)) rfl rfl hxs0 rfl ?_
  refine jw_letM (fun M25 => ?_)
  refine jw_goto (pc := 168) 196 dX12_next_168 (by decide) ?_
  exact jw_few [0] rfl (pX12_next_196 G M25)
def fX12_next_119 : Nat → jw_M → Option jw_M
  | 0, _ => none
  | k + 1, M => Option.bind (fX12_byteAt (M 127 13) M) (fun v21 => Option.bind (fX12_isFigure v21 M) (fun v22 => if v22 = 0 then (if (3 : Int) < jw_w ((M 127 13) - (M 127 15)) then (fX12_next_165 0 M) else (fX12_next_165 3 M)) else (Option.bind (some (jw_up M 127 13 (jw_w ((M 127 13) + 1)))) (fun M27 => fX12_next_119 k M27))))
set_option maxRecDepth 100000 in
theorem pX12_next_119 (G : jw_G) : ∀ (k : Nat) (M : jw_M), jw_Rn G YX12_next 2 0 0 true (fun M1 => (0, M1)) 119 [(0, jR G 127)] [] M (fX12_next_119 k M) := by
  intro k
  induction k with
  | zero =>
    intro M
    exact jw_none
  | succ k ih =>
    intro M
    rw [fX12_next_119]
    refine jw_aloadR (pc := 119) 0 dX12_next_119 rfl ?_
    refine jw_aloadR (pc := 120) 0 dX12_next_120 rfl ?_
    refine jw_getI (pc := 121) (j := 13) rfl dX12_next_121 jv_12 ji_12 (Or.inl jt_1244) jg_127 jl_127 (by decide) (by decide) (jw_ho jg_127 (by decide)) (Or.inl rfl) rfl (fun h20 => ?_)
    refine jw_callVi (pc := 124) (As := [jI (M 127 13)]) (st := []) dX12_next_124 rfl (Nat.le_of_ble_eq_true rfl) qX12_byteAt jt_1382 jt_1384 jp_45 rfl rfl (Nat.le_of_ble_eq_true rfl) jv_12 rfl jg_127 jl_127 (by decide) (jw_ho jg_127 (by decide)) (kX12_byteAt G (M 127 13) h20 M) (fun v21 hv21 => ?_)
    refine jw_callSz (pc := 127) (As := [jI v21]) (st := []) dX12_next_127 rfl (Nat.le_of_ble_eq_true rfl) qX12_isFigure jt_1390 jt_1391 rfl rfl (Nat.le_of_ble_eq_true rfl) (kX12_isFigure G v21 hv21 M) (fun v22 hv22 => ?_)
    refine jw_if_eq (pc := 130) 146 dX12_next_130 (by decide) (jw_bz hv22) (fun _ => ?_) (fun _ => ?_)
    · refine jw_aloadR (pc := 146) 0 dX12_next_146 rfl ?_
      refine jw_aloadR (pc := 147) 0 dX12_next_147 rfl ?_
      refine jw_getI (pc := 148) (j := 13) rfl dX12_next_148 jv_12 ji_12 (Or.inl jt_1244) jg_127 jl_127 (by decide) (by decide) (jw_ho jg_127 (by decide)) (Or.inl rfl) rfl (fun h23 => ?_)
      refine jw_aloadR (pc := 151) 0 dX12_next_151 rfl ?_
      refine jw_getI (pc := 152) (j := 15) rfl dX12_next_152 jv_12 ji_12 (Or.inl jt_1246) jg_127 jl_127 (by decide) (by decide) (jw_ho jg_127 (by decide)) (Or.inl rfl) rfl (fun h24 => ?_)
      refine jw_isub (pc := 155) dX12_next_155 ?_
      refine jw_iconst (pc := 156) dX12_next_156 ?_
      refine jw_ic_le (pc := 157) 164 dX12_next_157 (by decide) (jw_wr _) (jw_rc _ rfl) (fun _ => ?_) (fun _ => ?_)
      · refine jw_iconst (pc := 160) dX12_next_160 ?_
        refine jw_goto (pc := 161) 165 dX12_next_161 (by decide) ?_
        exact jw_few [0] rfl (pX12_next_165 G 0 (jw_rc _ rfl) M)
      · refine jw_iconst (pc := 164) dX12_next_164 ?_
        exact jw_few [0] rfl (pX12_next_165 G 3 (jw_rc _ rfl) M)
    · refine jw_aloadR (pc := 133) 0 dX12_next_133 rfl ?_
      refine jw_dup (pc := 134) dX12_next_134 rfl ?_
      refine jw_getI (pc := 135) (j := 13) rfl dX12_next_135 jv_12 ji_12 (Or.inl jt_1244) jg_127 jl_127 (by decide) (by decide) (jw_ho jg_127 (by decide)) (Or.inl rfl) rfl (fun h26 => ?_)
      refine jw_iconst (pc := 138) dX12_next_138 ?_
      refine jw_iadd (pc := 139) dX12_next_139 ?_
      refine jw_putI (pc := 140) (j := 13) tyX12 rfl dX12_next_140 jv_12 ji_12 tyX12_ok nmX12 (Or.inl jt_1244) rfl jg_127 jl_127 (by decide) (by decide) (jw_ho jg_127 (by decide)) rfl rfl (jw_wr _) rfl ?_
      refine jw_letM (fun M27 => ?_)
      refine jw_goto (pc := 143) 119 dX12_next_143 (by decide) ?_
      exact jw_few [0] rfl (ih M27)
def fX12_next_77 : Nat → jw_M → Option jw_M
  | 0, _ => none
  | k + 1, M => Option.bind (fX12_byteAt (M 127 13) M) (fun v29 => Option.bind (fX12_isLetter v29 M) (fun v30 => if v30 = 0 then (Option.bind (some (jw_up M 127 14 2)) (fun M31 => fX12_next_196 M31)) else (Option.bind (some (jw_up M 127 13 (jw_w ((M 127 13) + 1)))) (fun M33 => fX12_next_77 k M33))))
set_option maxRecDepth 100000 in
theorem pX12_next_77 (G : jw_G) : ∀ (k : Nat) (M : jw_M), jw_Rn G YX12_next 2 0 0 true (fun M1 => (0, M1)) 77 [(0, jR G 127)] [] M (fX12_next_77 k M) := by
  intro k
  induction k with
  | zero =>
    intro M
    exact jw_none
  | succ k ih =>
    intro M
    rw [fX12_next_77]
    refine jw_aloadR (pc := 77) 0 dX12_next_77 rfl ?_
    refine jw_aloadR (pc := 78) 0 dX12_next_78 rfl ?_
    refine jw_getI (pc := 79) (j := 13) rfl dX12_next_79 jv_12 ji_12 (Or.inl jt_1244) jg_127 jl_127 (by decide) (by decide) (jw_ho jg_127 (by decide)) (Or.inl rfl) rfl (fun h28 => ?_)
    refine jw_callVi (pc := 82) (As := [jI (M 127 13)]) (st := []) dX12_next_82 rfl (Nat.le_of_ble_eq_true rfl) qX12_byteAt jt_1382 jt_1384 jp_45 rfl rfl (Nat.le_of_ble_eq_true rfl) jv_12 rfl jg_127 jl_127 (by decide) (jw_ho jg_127 (by decide)) (kX12_byteAt G (M 127 13) h28 M) (fun v29 hv29 => ?_)
    refine jw_callSz (pc := 85) (As := [jI v29]) (st := []) dX12_next_85 rfl (Nat.le_of_ble_eq_true rfl) qX12_isLetter jt_1387 jt_1388 rfl rfl (Nat.le_of_ble_eq_true rfl) (kX12_isLetter G v29 hv29 M) (fun v30 hv30 => ?_)
    refine jw_if_eq (pc := 88) 104 dX12_next_88 (by decide) (jw_bz hv30) (fun _ => ?_) (fun _ => ?_)
    · refine jw_aloadR (pc := 104) 0 dX12_next_104 rfl ?_
      refine jw_iconst (pc := 105) dX12_next_105 ?_
      refine jw_putI (pc := 106) (j := 14) tyX12 rfl dX12_next_106 jv_12 ji_12 tyX12_ok nmX12 (Or.inl jt_1245) rfl jg_127 jl_127 (by decide) (by decide) (jw_ho jg_127 (by decide)) rfl rfl (jw_rc _ rfl) rfl ?_
      refine jw_letM (fun M31 => ?_)
      refine jw_goto (pc := 109) 196 dX12_next_109 (by decide) ?_
      exact jw_few [0] rfl (pX12_next_196 G M31)
    · refine jw_aloadR (pc := 91) 0 dX12_next_91 rfl ?_
      refine jw_dup (pc := 92) dX12_next_92 rfl ?_
      refine jw_getI (pc := 93) (j := 13) rfl dX12_next_93 jv_12 ji_12 (Or.inl jt_1244) jg_127 jl_127 (by decide) (by decide) (jw_ho jg_127 (by decide)) (Or.inl rfl) rfl (fun h32 => ?_)
      refine jw_iconst (pc := 96) dX12_next_96 ?_
      refine jw_iadd (pc := 97) dX12_next_97 ?_
      refine jw_putI (pc := 98) (j := 13) tyX12 rfl dX12_next_98 jv_12 ji_12 tyX12_ok nmX12 (Or.inl jt_1244) rfl jg_127 jl_127 (by decide) (by decide) (jw_ho jg_127 (by decide)) rfl rfl (jw_wr _) rfl ?_
      refine jw_letM (fun M33 => ?_)
      refine jw_goto (pc := 101) 77 dX12_next_101 (by decide) ?_
      exact jw_few [0] rfl (ih M33)
def fX12_next_0 : Nat → jw_M → Option jw_M
  | 0, _ => none
  | k + 1, M => Option.bind (fX12_byteAt (M 127 13) M) (fun v2 => if v2 = 32 then (fX12_next_26 (fX12_next_0 k) M) else (Option.bind (fX12_byteAt (M 127 13) M) (fun v6 => if v6 = 10 then (fX12_next_26 (fX12_next_0 k) M) else (Option.bind (some (jw_up M 127 15 (M 127 13))) (fun M8 => Option.bind (fX12_byteAt (M8 127 13) M8) (fun v10 => Option.bind (some v10) (fun v11 => if v11 = (-1000000) then (Option.bind (some (jw_up M8 127 14 1)) (fun M12 => fX12_next_196 M12)) else (Option.bind (fX12_isLetter v11 M8) (fun v15 => if v15 = 0 then (Option.bind (fX12_isFigure v11 M8) (fun v16 => if v16 = 0 then (Option.bind (some (jw_up M8 127 13 (jw_w ((M8 127 13) + 1)))) (fun M18 => if v11 = 59 then (fX12_next_193 4 M18) else (fX12_next_193 0 M18))) else (fX12_next_119 jw_fu M8))) else (fX12_next_77 jw_fu M8))))))))))
set_option maxRecDepth 100000 in
theorem pX12_next_0 (G : jw_G) : ∀ (k : Nat) (M : jw_M), jw_Rn G YX12_next 2 0 0 true (fun M1 => (0, M1)) 0 [(0, jR G 127)] [] M (fX12_next_0 k M) := by
  intro k
  induction k with
  | zero =>
    intro M
    exact jw_none
  | succ k ih =>
    intro M
    rw [fX12_next_0]
    refine jw_aloadR (pc := 0) 0 dX12_next_0 rfl ?_
    refine jw_aloadR (pc := 1) 0 dX12_next_1 rfl ?_
    refine jw_getI (pc := 2) (j := 13) rfl dX12_next_2 jv_12 ji_12 (Or.inl jt_1244) jg_127 jl_127 (by decide) (by decide) (jw_ho jg_127 (by decide)) (Or.inl rfl) rfl (fun h1 => ?_)
    refine jw_callVi (pc := 5) (As := [jI (M 127 13)]) (st := []) dX12_next_5 rfl (Nat.le_of_ble_eq_true rfl) qX12_byteAt jt_1382 jt_1384 jp_45 rfl rfl (Nat.le_of_ble_eq_true rfl) jv_12 rfl jg_127 jl_127 (by decide) (jw_ho jg_127 (by decide)) (kX12_byteAt G (M 127 13) h1 M) (fun v2 hv2 => ?_)
    refine jw_bipush (pc := 8) dX12_next_8 rfl ?_
    refine jw_ic_eq (pc := 10) 26 dX12_next_10 (by decide) hv2 (jw_rc _ rfl) (fun _ => ?_) (fun _ => ?_)
    · exact jw_few [0] rfl (pX12_next_26 G (fX12_next_0 k) ih M)
    · refine jw_aloadR (pc := 13) 0 dX12_next_13 rfl ?_
      refine jw_aloadR (pc := 14) 0 dX12_next_14 rfl ?_
      refine jw_getI (pc := 15) (j := 13) rfl dX12_next_15 jv_12 ji_12 (Or.inl jt_1244) jg_127 jl_127 (by decide) (by decide) (jw_ho jg_127 (by decide)) (Or.inl rfl) rfl (fun h5 => ?_)
      refine jw_callVi (pc := 18) (As := [jI (M 127 13)]) (st := []) dX12_next_18 rfl (Nat.le_of_ble_eq_true rfl) qX12_byteAt jt_1382 jt_1384 jp_45 rfl rfl (Nat.le_of_ble_eq_true rfl) jv_12 rfl jg_127 jl_127 (by decide) (jw_ho jg_127 (by decide)) (kX12_byteAt G (M 127 13) h5 M) (fun v6 hv6 => ?_)
      refine jw_bipush (pc := 21) dX12_next_21 rfl ?_
      refine jw_ic_ne (pc := 23) 39 dX12_next_23 (by decide) hv6 (jw_rc _ rfl) (fun _ => ?_) (fun _ => ?_)
      · exact jw_few [0] rfl (pX12_next_26 G (fX12_next_0 k) ih M)
      · refine jw_aloadR (pc := 39) 0 dX12_next_39 rfl ?_
        refine jw_aloadR (pc := 40) 0 dX12_next_40 rfl ?_
        refine jw_getI (pc := 41) (j := 13) rfl dX12_next_41 jv_12 ji_12 (Or.inl jt_1244) jg_127 jl_127 (by decide) (by decide) (jw_ho jg_127 (by decide)) (Or.inl rfl) rfl (fun h7 => ?_)
        refine jw_putI (pc := 44) (j := 15) tyX12 rfl dX12_next_44 jv_12 ji_12 tyX12_ok nmX12 (Or.inl jt_1246) rfl jg_127 jl_127 (by decide) (by decide) (jw_ho jg_127 (by decide)) rfl rfl h7 rfl ?_
        refine jw_letM (fun M8 => ?_)
        refine jw_aloadR (pc := 47) 0 dX12_next_47 rfl ?_
        refine jw_aloadR (pc := 48) 0 dX12_next_48 rfl ?_
        refine jw_getI (pc := 49) (j := 13) rfl dX12_next_49 jv_12 ji_12 (Or.inl jt_1244) jg_127 jl_127 (by decide) (by decide) (jw_ho jg_127 (by decide)) (Or.inl rfl) rfl (fun h9 => ?_)
        refine jw_callVi (pc := 52) (As := [jI (M8 127 13)]) (st := []) dX12_next_52 rfl (Nat.le_of_ble_eq_true rfl) qX12_byteAt jt_1382 jt_1384 jp_45 rfl rfl (Nat.le_of_ble_eq_true rfl) jv_12 rfl jg_127 jl_127 (by decide) (jw_ho jg_127 (by decide)) (kX12_byteAt G (M8 127 13) h9 M8) (fun v10 hv10 => ?_)
        refine jw_istore_nL (pc := 55) (lv' := (fun y => [(1, y), (0, jR G 127)])) dX12_next_55 hv10 (by decide) (fun _ => rfl) (fun v11 hv11 => ?_)
        refine jw_iload_n (pc := 56) 0 dX12_next_56 rfl ?_
        refine jw_ldc (pc := 57) (n := (-1000000)) dX12_next_57 jt_1386 (by decide) ?_
        refine jw_ic_ne (pc := 59) 70 dX12_next_59 (by decide) hv11 (jw_rc _ rfl) (fun _ => ?_) (fun _ => ?_)
        · refine jw_aloadR (pc := 62) 1 dX12_next_62 rfl ?_
          refine jw_iconst (pc := 63) dX12_next_63 ?_
          refine jw_putI (pc := 64) (j := 14) tyX12 rfl dX12_next_64 jv_12 ji_12 tyX12_ok nmX12 (Or.inl jt_1245) rfl jg_127 jl_127 (by decide) (by decide) (jw_ho jg_127 (by decide)) rfl rfl (jw_rc _ rfl) rfl ?_
          refine jw_letM (fun M12 => ?_)
          refine jw_goto (pc := 67) 196 dX12_next_67 (by decide) ?_
          exact jw_few [1] rfl (pX12_next_196 G M12)
        · refine jw_iload_n (pc := 70) 0 dX12_next_70 rfl ?_
          refine jw_callSz (pc := 71) (As := [jI v11]) (st := []) dX12_next_71 rfl (Nat.le_of_ble_eq_true rfl) qX12_isLetter jt_1387 jt_1388 rfl rfl (Nat.le_of_ble_eq_true rfl) (kX12_isLetter G v11 hv11 M8) (fun v15 hv15 => ?_)
          refine jw_if_eq (pc := 74) 112 dX12_next_74 (by decide) (jw_bz hv15) (fun _ => ?_) (fun _ => ?_)
          · refine jw_iload_n (pc := 112) 0 dX12_next_112 rfl ?_
            refine jw_callSz (pc := 113) (As := [jI v11]) (st := []) dX12_next_113 rfl (Nat.le_of_ble_eq_true rfl) qX12_isFigure jt_1390 jt_1391 rfl rfl (Nat.le_of_ble_eq_true rfl) (kX12_isFigure G v11 hv11 M8) (fun v16 hv16 => ?_)
            refine jw_if_eq (pc := 116) 171 dX12_next_116 (by decide) (jw_bz hv16) (fun _ => ?_) (fun _ => ?_)
            · refine jw_aloadR (pc := 171) 1 dX12_next_171 rfl ?_
              refine jw_dup (pc := 172) dX12_next_172 rfl ?_
              refine jw_getI (pc := 173) (j := 13) rfl dX12_next_173 jv_12 ji_12 (Or.inl jt_1244) jg_127 jl_127 (by decide) (by decide) (jw_ho jg_127 (by decide)) (Or.inl rfl) rfl (fun h17 => ?_)
              refine jw_iconst (pc := 176) dX12_next_176 ?_
              refine jw_iadd (pc := 177) dX12_next_177 ?_
              refine jw_putI (pc := 178) (j := 13) tyX12 rfl dX12_next_178 jv_12 ji_12 tyX12_ok nmX12 (Or.inl jt_1244) rfl jg_127 jl_127 (by decide) (by decide) (jw_ho jg_127 (by decide)) rfl rfl (jw_wr _) rfl ?_
              refine jw_letM (fun M18 => ?_)
              refine jw_aloadR (pc := 181) 1 dX12_next_181 rfl ?_
              refine jw_iload_n (pc := 182) 0 dX12_next_182 rfl ?_
              refine jw_bipush (pc := 183) dX12_next_183 rfl ?_
              refine jw_ic_ne (pc := 185) 192 dX12_next_185 (by decide) hv11 (jw_rc _ rfl) (fun _ => ?_) (fun _ => ?_)
              · refine jw_iconst (pc := 188) dX12_next_188 ?_
                refine jw_goto (pc := 189) 193 dX12_next_189 (by decide) ?_
                exact jw_few [1] rfl (pX12_next_193 G 4 (jw_rc _ rfl) M18)
              · refine jw_iconst (pc := 192) dX12_next_192 ?_
                exact jw_few [1] rfl (pX12_next_193 G 0 (jw_rc _ rfl) M18)
            · exact jw_few [1] rfl (pX12_next_119 G jw_fu M8)
          · exact jw_few [1] rfl (pX12_next_77 G jw_fu M8)
def fX12_next (M : jw_M) : Option jw_M :=
  fX12_next_0 jw_fu M
set_option maxRecDepth 100000 in
theorem rX12_next (G : jw_G) (M : jw_M) : jw_Rn G YX12_next 2 0 0 true (fun M1 => (0, M1)) 0 [(0, jR G 127)] [] M (fX12_next M) := by
  unfold fX12_next
  exact jw_few [0] rfl (pX12_next_0 G jw_fu M)
theorem kX12_next (G : jw_G) (M : jw_M) : jw_Ct G YX12_next none 2 0 0 true (fun M1 => (0, M1)) yX12_next [jR G 127] M (fX12_next M) := jw_met (by decide) rfl rfl rfl (Nat.le_of_ble_eq_true rfl) (rX12_next G M)
abbrev YX12_bad : jw_Y := (RX12, cX12_bad, 2, 0, "bad")
theorem qX12_bad : jw_cy YX12_bad none yX12_bad 1 := ⟨by decide, jt_1401, jt_14, by decide, by decide +kernel⟩
theorem dX12_bad_0 : decode cX12_bad 0 = .ok (.aload_n 0, 1) := by decide +kernel
theorem dX12_bad_1 : decode cX12_bad 1 = .ok (.getfield 133, 3) := by decide +kernel
theorem dX12_bad_4 : decode cX12_bad 4 = .ok (.ifCond .ne 16, 3) := by decide +kernel
theorem dX12_bad_7 : decode cX12_bad 7 = .ok (.aload_n 0, 1) := by decide +kernel
theorem dX12_bad_8 : decode cX12_bad 8 = .ok (.iload_n 1, 1) := by decide +kernel
theorem dX12_bad_9 : decode cX12_bad 9 = .ok (.putfield 133, 3) := by decide +kernel
theorem dX12_bad_12 : decode cX12_bad 12 = .ok (.aload_n 0, 1) := by decide +kernel
theorem dX12_bad_13 : decode cX12_bad 13 = .ok (.aload_n 0, 1) := by decide +kernel
theorem dX12_bad_14 : decode cX12_bad 14 = .ok (.getfield 118, 3) := by decide +kernel
theorem dX12_bad_17 : decode cX12_bad 17 = .ok (.putfield 136, 3) := by decide +kernel
theorem dX12_bad_20 : decode cX12_bad 20 = .ok (.return_, 1) := by decide +kernel
def fX12_bad (a1 : Int) (M : jw_M) : Option jw_M :=
  if M 127 17 = 0 then (Option.bind (some (jw_up M 127 17 a1)) (fun M2 => Option.bind (some (jw_up M2 127 18 (M2 127 15))) (fun M4 => some M4))) else (some M)
set_option maxRecDepth 100000 in
theorem rX12_bad (G : jw_G) (a1 : Int) (ha1 : jw_r a1) (M : jw_M) : jw_Rn G YX12_bad 1 0 0 true (fun M1 => (0, M1)) 0 [(0, jR G 127), (1, jI a1)] [] M (fX12_bad a1 M) := by
  unfold fX12_bad
  refine jw_aloadR (pc := 0) 0 dX12_bad_0 rfl ?_
  refine jw_getI (pc := 1) (j := 17) rfl dX12_bad_1 jv_12 ji_12 (Or.inl jt_1248) jg_127 jl_127 (by decide) (by decide) (jw_ho jg_127 (by decide)) (Or.inl rfl) rfl (fun h1 => ?_)
  refine jw_if_ne (pc := 4) 20 dX12_bad_4 (by decide) h1 (fun _ => ?_) (fun _ => ?_)
  · refine jw_aloadR (pc := 7) 0 dX12_bad_7 rfl ?_
    refine jw_iload_n (pc := 8) 1 dX12_bad_8 rfl ?_
    refine jw_putI (pc := 9) (j := 17) tyX12 rfl dX12_bad_9 jv_12 ji_12 tyX12_ok nmX12 (Or.inl jt_1248) rfl jg_127 jl_127 (by decide) (by decide) (jw_ho jg_127 (by decide)) rfl rfl ha1 rfl ?_
    refine jw_letM (fun M2 => ?_)
    refine jw_aloadR (pc := 12) 0 dX12_bad_12 rfl ?_
    refine jw_aloadR (pc := 13) 0 dX12_bad_13 rfl ?_
    refine jw_getI (pc := 14) (j := 15) rfl dX12_bad_14 jv_12 ji_12 (Or.inl jt_1246) jg_127 jl_127 (by decide) (by decide) (jw_ho jg_127 (by decide)) (Or.inl rfl) rfl (fun h3 => ?_)
    refine jw_putI (pc := 17) (j := 18) tyX12 rfl dX12_bad_17 jv_12 ji_12 tyX12_ok nmX12 (Or.inl jt_1249) rfl jg_127 jl_127 (by decide) (by decide) (jw_ho jg_127 (by decide)) rfl rfl h3 rfl ?_
    refine jw_letM (fun M4 => ?_)
    exact jw_ret (pc := 20) (v := 0) dX12_bad_20 trivial rfl rfl
  · exact jw_ret (pc := 20) (v := 0) dX12_bad_20 trivial rfl rfl
theorem kX12_bad (G : jw_G) (a1 : Int) (ha1 : jw_r a1) (M : jw_M) : jw_Ct G YX12_bad none 1 0 0 true (fun M1 => (0, M1)) yX12_bad [jR G 127, jI a1] M (fX12_bad a1 M) := jw_met (by decide) rfl rfl rfl (Nat.le_of_ble_eq_true rfl) (rX12_bad G a1 ha1 M)
abbrev YX12_must : jw_Y := (RX12, cX12_must, 2, 0, "must")
theorem qX12_must : jw_cy YX12_must none yX12_must 1 := ⟨by decide, jt_1413, jt_14, by decide, by decide +kernel⟩
theorem dX12_must_0 : decode cX12_must 0 = .ok (.iload_n 1, 1) := by decide +kernel
theorem dX12_must_1 : decode cX12_must 1 = .ok (.ifCond .ne 8, 3) := by decide +kernel
theorem dX12_must_4 : decode cX12_must 4 = .ok (.aload_n 0, 1) := by decide +kernel
theorem dX12_must_5 : decode cX12_must 5 = .ok (.iconst 1, 1) := by decide +kernel
theorem dX12_must_6 : decode cX12_must 6 = .ok (.invokevirtual 139, 3) := by decide +kernel
theorem dX12_must_9 : decode cX12_must 9 = .ok (.aload_n 0, 1) := by decide +kernel
theorem dX12_must_10 : decode cX12_must 10 = .ok (.getfield 133, 3) := by decide +kernel
theorem dX12_must_13 : decode cX12_must 13 = .ok (.ifCond .ne 7, 3) := by decide +kernel
theorem dX12_must_16 : decode cX12_must 16 = .ok (.aload_n 0, 1) := by decide +kernel
theorem dX12_must_17 : decode cX12_must 17 = .ok (.invokevirtual 143, 3) := by decide +kernel
theorem dX12_must_20 : decode cX12_must 20 = .ok (.return_, 1) := by decide +kernel
def fX12_must_9 (M : jw_M) : Option jw_M :=
  if M 127 17 = 0 then (Option.bind (fX12_next  M) (fun M3 => some M3)) else (some M)
set_option maxRecDepth 100000 in
theorem pX12_must_9 (G : jw_G) : ∀ (M : jw_M), jw_Rn G YX12_must 3 0 0 true (fun M1 => (0, M1)) 9 [(0, jR G 127)] [] M (fX12_must_9 M) := by
  intro M
  unfold fX12_must_9
  refine jw_aloadR (pc := 9) 0 dX12_must_9 rfl ?_
  refine jw_getI (pc := 10) (j := 17) rfl dX12_must_10 jv_12 ji_12 (Or.inl jt_1248) jg_127 jl_127 (by decide) (by decide) (jw_ho jg_127 (by decide)) (Or.inl rfl) rfl (fun h2 => ?_)
  refine jw_if_ne (pc := 13) 20 dX12_must_13 (by decide) h2 (fun _ => ?_) (fun _ => ?_)
  · refine jw_aloadR (pc := 16) 0 dX12_must_16 rfl ?_
    refine jw_callVM (pc := 17) (As := []) (st := []) dX12_must_17 rfl (Nat.le_of_ble_eq_true rfl) qX12_next jt_1378 jt_1380 jp_44 rfl rfl (Nat.le_of_ble_eq_true rfl) jv_12 rfl jg_127 jl_127 (by decide) (jw_ho jg_127 (by decide)) (kX12_next G  M) (fun M3 => ?_)
    exact jw_ret (pc := 20) (v := 0) dX12_must_20 trivial rfl rfl
  · exact jw_ret (pc := 20) (v := 0) dX12_must_20 trivial rfl rfl
def fX12_must (a1 : Int) (M : jw_M) : Option jw_M :=
  if a1 = 0 then (Option.bind (fX12_bad 1 M) (fun M1 => fX12_must_9 M1)) else (fX12_must_9 M)
set_option maxRecDepth 100000 in
theorem rX12_must (G : jw_G) (a1 : Int) (ha1 : jw_r a1) (M : jw_M) : jw_Rn G YX12_must 3 0 0 true (fun M1 => (0, M1)) 0 [(0, jR G 127), (1, jI a1)] [] M (fX12_must a1 M) := by
  unfold fX12_must
  refine jw_iload_n (pc := 0) 1 dX12_must_0 rfl ?_
  refine jw_if_ne (pc := 1) 9 dX12_must_1 (by decide) ha1 (fun _ => ?_) (fun _ => ?_)
  · refine jw_aloadR (pc := 4) 0 dX12_must_4 rfl ?_
    refine jw_iconst (pc := 5) dX12_must_5 ?_
    refine jw_callVM (pc := 6) (As := [jI 1]) (st := []) dX12_must_6 rfl (Nat.le_of_ble_eq_true rfl) qX12_bad jt_1398 jt_1400 jp_47 rfl rfl (Nat.le_of_ble_eq_true rfl) jv_12 rfl jg_127 jl_127 (by decide) (jw_ho jg_127 (by decide)) (kX12_bad G 1 (jw_rc _ rfl) M) (fun M1 => ?_)
    exact jw_few [0] rfl (pX12_must_9 G M1)
  · exact jw_few [0] rfl (pX12_must_9 G M)
theorem kX12_must (G : jw_G) (a1 : Int) (ha1 : jw_r a1) (M : jw_M) : jw_Ct G YX12_must none 3 0 0 true (fun M1 => (0, M1)) yX12_must [jR G 127, jI a1] M (fX12_must a1 M) := jw_met (by decide) rfl rfl rfl (Nat.le_of_ble_eq_true rfl) (rX12_must G a1 ha1 M)
abbrev YX12_word : jw_Y := (RX12, cX12_word, 4, 2, "word")
theorem qX12_word : jw_cy YX12_word (some .long) yX12_word 0 := ⟨by decide, jt_1396, jt_14, by decide, by decide +kernel⟩
theorem dX12_word_0 : decode cX12_word 0 = .ok (.lconst 0, 1) := by decide +kernel
theorem dX12_word_1 : decode cX12_word 1 = .ok (.lstore_n 1, 1) := by decide +kernel
theorem dX12_word_2 : decode cX12_word 2 = .ok (.aload_n 0, 1) := by decide +kernel
theorem dX12_word_3 : decode cX12_word 3 = .ok (.getfield 118, 3) := by decide +kernel
theorem dX12_word_6 : decode cX12_word 6 = .ok (.istore_n 3, 1) := by decide +kernel
theorem dX12_word_7 : decode cX12_word 7 = .ok (.iload_n 3, 1) := by decide +kernel
theorem dX12_word_8 : decode cX12_word 8 = .ok (.aload_n 0, 1) := by decide +kernel
theorem dX12_word_9 : decode cX12_word 9 = .ok (.getfield 130, 3) := by decide +kernel
theorem dX12_word_12 : decode cX12_word 12 = .ok (.if_icmp .ge 44, 3) := by decide +kernel
theorem dX12_word_15 : decode cX12_word 15 = .ok (.aload_n 0, 1) := by decide +kernel
theorem dX12_word_16 : decode cX12_word 16 = .ok (.getfield 121, 3) := by decide +kernel
theorem dX12_word_19 : decode cX12_word 19 = .ok (.iconst 2, 1) := by decide +kernel
theorem dX12_word_20 : decode cX12_word 20 = .ok (.if_icmp .ne 36, 3) := by decide +kernel
theorem dX12_word_23 : decode cX12_word 23 = .ok (.aload_n 0, 1) := by decide +kernel
theorem dX12_word_24 : decode cX12_word 24 = .ok (.getfield 130, 3) := by decide +kernel
theorem dX12_word_27 : decode cX12_word 27 = .ok (.aload_n 0, 1) := by decide +kernel
theorem dX12_word_28 : decode cX12_word 28 = .ok (.getfield 118, 3) := by decide +kernel
theorem dX12_word_31 : decode cX12_word 31 = .ok (.isub, 1) := by decide +kernel
theorem dX12_word_32 : decode cX12_word 32 = .ok (.bipush 8, 2) := by decide +kernel
theorem dX12_word_34 : decode cX12_word 34 = .ok (.if_icmp .ge 22, 3) := by decide +kernel
theorem dX12_word_37 : decode cX12_word 37 = .ok (.lload_n 1, 1) := by decide +kernel
theorem dX12_word_38 : decode cX12_word 38 = .ok (.bipush 8, 2) := by decide +kernel
theorem dX12_word_40 : decode cX12_word 40 = .ok (.lshl, 1) := by decide +kernel
theorem dX12_word_41 : decode cX12_word 41 = .ok (.aload_n 0, 1) := by decide +kernel
theorem dX12_word_42 : decode cX12_word 42 = .ok (.getfield 28, 3) := by decide +kernel
theorem dX12_word_45 : decode cX12_word 45 = .ok (.iload_n 3, 1) := by decide +kernel
theorem dX12_word_46 : decode cX12_word 46 = .ok (.iaload, 1) := by decide +kernel
theorem dX12_word_47 : decode cX12_word 47 = .ok (.i2l, 1) := by decide +kernel
theorem dX12_word_48 : decode cX12_word 48 = .ok (.lor, 1) := by decide +kernel
theorem dX12_word_49 : decode cX12_word 49 = .ok (.lstore_n 1, 1) := by decide +kernel
theorem dX12_word_50 : decode cX12_word 50 = .ok (.iinc 3 1, 3) := by decide +kernel
theorem dX12_word_53 : decode cX12_word 53 = .ok (.goto (-46), 3) := by decide +kernel
theorem dX12_word_56 : decode cX12_word 56 = .ok (.aload_n 0, 1) := by decide +kernel
theorem dX12_word_57 : decode cX12_word 57 = .ok (.getfield 133, 3) := by decide +kernel
theorem dX12_word_60 : decode cX12_word 60 = .ok (.ifCond .ne 7, 3) := by decide +kernel
theorem dX12_word_63 : decode cX12_word 63 = .ok (.lload_n 1, 1) := by decide +kernel
theorem dX12_word_64 : decode cX12_word 64 = .ok (.goto 4, 3) := by decide +kernel
theorem dX12_word_67 : decode cX12_word 67 = .ok (.lconst 0, 1) := by decide +kernel
theorem dX12_word_68 : decode cX12_word 68 = .ok (.lreturn, 1) := by decide +kernel
def fX12_word_56 (M : jw_M) (x1 : Int) : Option Int :=
  if M 127 17 = 0 then (some x1) else (some 0)
set_option maxRecDepth 100000 in
theorem pX12_word_56 (G : jw_G) (M : jw_M) : ∀ (x1 : Int) (hx1 : jw_q x1), jw_Rn G YX12_word 1 0 0 true (fun v => (v, M)) 56 [(0, jR G 127), (1, jL x1)] [] M (fX12_word_56 M x1) := by
  intro x1 hx1
  unfold fX12_word_56
  refine jw_aloadR (pc := 56) 0 dX12_word_56 rfl ?_
  refine jw_getI (pc := 57) (j := 17) rfl dX12_word_57 jv_12 ji_12 (Or.inl jt_1248) jg_127 jl_127 (by decide) (by decide) (jw_ho jg_127 (by decide)) (Or.inl rfl) rfl (fun h11 => ?_)
  refine jw_if_ne (pc := 60) 67 dX12_word_60 (by decide) h11 (fun _ => ?_) (fun _ => ?_)
  · refine jw_lload_n (pc := 63) 1 dX12_word_63 rfl ?_
    refine jw_goto (pc := 64) 68 dX12_word_64 (by decide) ?_
    exact jw_ret (pc := 68) (v := x1) dX12_word_68 hx1 rfl rfl
  · refine jw_lconst (pc := 67) (z := 0) dX12_word_67 rfl ?_
    exact jw_ret (pc := 68) (v := 0) dX12_word_68 (jw_qc _ rfl) rfl rfl
def fX12_word_7 (M : jw_M) : Nat → Int → Int → Option Int
  | 0, _, _ => none
  | k + 1, x1, x3 => if x3 < M 127 16 then (if M 127 14 = 2 then (if jw_w ((M 127 16) - (M 127 15)) < 8 then (if 0 ≤ x3 ∧ x3 < 600 then Option.bind (some (jw_lor (jw_lshl x1 8) (M 134 x3))) (fun v9 => Option.bind (some (jw_w (x3 + 1))) (fun v10 => fX12_word_7 M k v9 v10)) else none) else (fX12_word_56 M x1)) else (fX12_word_56 M x1)) else (fX12_word_56 M x1)
set_option maxRecDepth 100000 in
theorem pX12_word_7 (G : jw_G) (M : jw_M) : ∀ (k : Nat) (x1 : Int) (x3 : Int) (hx1 : jw_q x1) (hx3 : jw_r x3), jw_Rn G YX12_word 1 0 0 true (fun v => (v, M)) 7 [(0, jR G 127), (1, jL x1), (3, jI x3)] [] M (fX12_word_7 M k x1 x3) := by
  intro k
  induction k with
  | zero =>
    intro x1 x3 hx1 hx3
    exact jw_none
  | succ k ih =>
    intro x1 x3 hx1 hx3
    rw [fX12_word_7]
    refine jw_iload_n (pc := 7) 2 dX12_word_7 rfl ?_
    refine jw_aloadR (pc := 8) 0 dX12_word_8 rfl ?_
    refine jw_getI (pc := 9) (j := 16) rfl dX12_word_9 jv_12 ji_12 (Or.inl jt_1247) jg_127 jl_127 (by decide) (by decide) (jw_ho jg_127 (by decide)) (Or.inl rfl) rfl (fun h4 => ?_)
    refine jw_ic_ge (pc := 12) 56 dX12_word_12 (by decide) hx3 h4 (fun _ => ?_) (fun _ => ?_)
    · refine jw_aloadR (pc := 15) 0 dX12_word_15 rfl ?_
      refine jw_getI (pc := 16) (j := 14) rfl dX12_word_16 jv_12 ji_12 (Or.inl jt_1245) jg_127 jl_127 (by decide) (by decide) (jw_ho jg_127 (by decide)) (Or.inl rfl) rfl (fun h5 => ?_)
      refine jw_iconst (pc := 19) dX12_word_19 ?_
      refine jw_ic_ne (pc := 20) 56 dX12_word_20 (by decide) h5 (jw_rc _ rfl) (fun _ => ?_) (fun _ => ?_)
      · refine jw_aloadR (pc := 23) 0 dX12_word_23 rfl ?_
        refine jw_getI (pc := 24) (j := 16) rfl dX12_word_24 jv_12 ji_12 (Or.inl jt_1247) jg_127 jl_127 (by decide) (by decide) (jw_ho jg_127 (by decide)) (Or.inl rfl) rfl (fun h6 => ?_)
        refine jw_aloadR (pc := 27) 0 dX12_word_27 rfl ?_
        refine jw_getI (pc := 28) (j := 15) rfl dX12_word_28 jv_12 ji_12 (Or.inl jt_1246) jg_127 jl_127 (by decide) (by decide) (jw_ho jg_127 (by decide)) (Or.inl rfl) rfl (fun h7 => ?_)
        refine jw_isub (pc := 31) dX12_word_31 ?_
        refine jw_bipush (pc := 32) dX12_word_32 rfl ?_
        refine jw_ic_ge (pc := 34) 56 dX12_word_34 (by decide) (jw_wr _) (jw_rc _ rfl) (fun _ => ?_) (fun _ => ?_)
        · refine jw_lload_n (pc := 37) 1 dX12_word_37 rfl ?_
          refine jw_bipush (pc := 38) dX12_word_38 rfl ?_
          refine jw_lshlr (pc := 40) dX12_word_40 ?_
          refine jw_aloadR (pc := 41) 0 dX12_word_41 rfl ?_
          refine jw_getR (pc := 42) (j := 9) rfl dX12_word_42 jv_12 ji_12 (Or.inl jt_1240) jg_127 jl_127 (by decide) (by decide) rfl jf_12_9 ?_
          refine jw_iload_n (pc := 45) 2 dX12_word_45 rfl ?_
          refine jw_iald (pc := 46) dX12_word_46 jg_134 jl_134 (jw_ho jg_134 (by decide)) hx3 rfl (fun h8 => ?_)
          refine jw_i2lr (pc := 47) dX12_word_47 h8 ?_
          refine jw_lorr (pc := 48) dX12_word_48 ?_
          refine jw_lstore_nL (pc := 49) (lv' := (fun y => [(1, y), (0, jR G 127), (3, jI x3)])) dX12_word_49 (jw_rL _) (by decide) (fun _ => rfl) (fun v9 hv9 => ?_)
          refine jw_iincL (pc := 50) 2 (lv' := (fun y => [(3, y), (1, jL v9), (0, jR G 127)])) dX12_word_50 rfl (Nat.le_of_ble_eq_true rfl) (fun _ => rfl) (fun v10 hv10 => ?_)
          refine jw_goto (pc := 53) 7 dX12_word_53 (by decide) ?_
          exact jw_few [2, 1, 0] rfl (ih v9 v10 hv9 hv10)
        · exact jw_few [0, 1] rfl (pX12_word_56 G M x1 hx1)
      · exact jw_few [0, 1] rfl (pX12_word_56 G M x1 hx1)
    · exact jw_few [0, 1] rfl (pX12_word_56 G M x1 hx1)
def fX12_word (M : jw_M) : Option Int :=
  Option.bind (some 0) (fun v1 => Option.bind (some (M 127 15)) (fun v3 => fX12_word_7 M jw_fu v1 v3))
set_option maxRecDepth 100000 in
theorem rX12_word (G : jw_G) (M : jw_M) : jw_Rn G YX12_word 1 0 0 true (fun v => (v, M)) 0 [(0, jR G 127)] [] M (fX12_word M) := by
  unfold fX12_word
  refine jw_lconst (pc := 0) (z := 0) dX12_word_0 rfl ?_
  refine jw_lstore_nL (pc := 1) (lv' := (fun y => [(1, y), (0, jR G 127)])) dX12_word_1 (jw_qc _ rfl) (by decide) (fun _ => rfl) (fun v1 hv1 => ?_)
  refine jw_aloadR (pc := 2) 1 dX12_word_2 rfl ?_
  refine jw_getI (pc := 3) (j := 15) rfl dX12_word_3 jv_12 ji_12 (Or.inl jt_1246) jg_127 jl_127 (by decide) (by decide) (jw_ho jg_127 (by decide)) (Or.inl rfl) rfl (fun h2 => ?_)
  refine jw_istore_nL (pc := 6) (lv' := (fun y => [(3, y), (1, jL v1), (0, jR G 127)])) dX12_word_6 h2 (by decide) (fun _ => rfl) (fun v3 hv3 => ?_)
  exact jw_few [2, 1, 0] rfl (pX12_word_7 G M jw_fu v1 v3 hv1 hv3)
theorem kX12_word (G : jw_G) (M : jw_M) : jw_Ct G YX12_word (some .long) 1 0 0 true (fun v => (v, M)) yX12_word [jR G 127] M (fX12_word M) := jw_met (by decide) rfl rfl rfl (Nat.le_of_ble_eq_true rfl) (rX12_word G M)
abbrev YX12_numberBut : jw_Y := (RX12, cX12_numberBut, 6, 1, "numberBut")
theorem qX12_numberBut : jw_cy YX12_numberBut (some .int) yX12_numberBut 3 := ⟨by decide, jt_1421, jt_14, by decide, by decide +kernel⟩
theorem dX12_numberBut_0 : decode cX12_numberBut 0 = .ok (.aload_n 0, 1) := by decide +kernel
theorem dX12_numberBut_1 : decode cX12_numberBut 1 = .ok (.getfield 133, 3) := by decide +kernel
theorem dX12_numberBut_4 : decode cX12_numberBut 4 = .ok (.ifCond .le 5, 3) := by decide +kernel
theorem dX12_numberBut_7 : decode cX12_numberBut 7 = .ok (.iconst 0, 1) := by decide +kernel
theorem dX12_numberBut_8 : decode cX12_numberBut 8 = .ok (.ireturn, 1) := by decide +kernel
theorem dX12_numberBut_9 : decode cX12_numberBut 9 = .ok (.iconst 0, 1) := by decide +kernel
theorem dX12_numberBut_10 : decode cX12_numberBut 10 = .ok (.istore 4, 2) := by decide +kernel
theorem dX12_numberBut_12 : decode cX12_numberBut 12 = .ok (.aload_n 0, 1) := by decide +kernel
theorem dX12_numberBut_13 : decode cX12_numberBut 13 = .ok (.getfield 118, 3) := by decide +kernel
theorem dX12_numberBut_16 : decode cX12_numberBut 16 = .ok (.istore 5, 2) := by decide +kernel
theorem dX12_numberBut_18 : decode cX12_numberBut 18 = .ok (.iload 5, 2) := by decide +kernel
theorem dX12_numberBut_20 : decode cX12_numberBut 20 = .ok (.aload_n 0, 1) := by decide +kernel
theorem dX12_numberBut_21 : decode cX12_numberBut 21 = .ok (.getfield 130, 3) := by decide +kernel
theorem dX12_numberBut_24 : decode cX12_numberBut 24 = .ok (.if_icmp .ge 35, 3) := by decide +kernel
theorem dX12_numberBut_27 : decode cX12_numberBut 27 = .ok (.aload_n 0, 1) := by decide +kernel
theorem dX12_numberBut_28 : decode cX12_numberBut 28 = .ok (.getfield 121, 3) := by decide +kernel
theorem dX12_numberBut_31 : decode cX12_numberBut 31 = .ok (.iconst 3, 1) := by decide +kernel
theorem dX12_numberBut_32 : decode cX12_numberBut 32 = .ok (.if_icmp .ne 27, 3) := by decide +kernel
theorem dX12_numberBut_35 : decode cX12_numberBut 35 = .ok (.bipush 10, 2) := by decide +kernel
theorem dX12_numberBut_37 : decode cX12_numberBut 37 = .ok (.iload 4, 2) := by decide +kernel
theorem dX12_numberBut_39 : decode cX12_numberBut 39 = .ok (.imul, 1) := by decide +kernel
theorem dX12_numberBut_40 : decode cX12_numberBut 40 = .ok (.aload_n 0, 1) := by decide +kernel
theorem dX12_numberBut_41 : decode cX12_numberBut 41 = .ok (.getfield 28, 3) := by decide +kernel
theorem dX12_numberBut_44 : decode cX12_numberBut 44 = .ok (.iload 5, 2) := by decide +kernel
theorem dX12_numberBut_46 : decode cX12_numberBut 46 = .ok (.iaload, 1) := by decide +kernel
theorem dX12_numberBut_47 : decode cX12_numberBut 47 = .ok (.iadd, 1) := by decide +kernel
theorem dX12_numberBut_48 : decode cX12_numberBut 48 = .ok (.bipush 48, 2) := by decide +kernel
theorem dX12_numberBut_50 : decode cX12_numberBut 50 = .ok (.isub, 1) := by decide +kernel
theorem dX12_numberBut_51 : decode cX12_numberBut 51 = .ok (.istore 4, 2) := by decide +kernel
theorem dX12_numberBut_53 : decode cX12_numberBut 53 = .ok (.iinc 5 1, 3) := by decide +kernel
theorem dX12_numberBut_56 : decode cX12_numberBut 56 = .ok (.goto (-38), 3) := by decide +kernel
theorem dX12_numberBut_59 : decode cX12_numberBut 59 = .ok (.aload_n 0, 1) := by decide +kernel
theorem dX12_numberBut_60 : decode cX12_numberBut 60 = .ok (.getfield 121, 3) := by decide +kernel
theorem dX12_numberBut_63 : decode cX12_numberBut 63 = .ok (.iconst 3, 1) := by decide +kernel
theorem dX12_numberBut_64 : decode cX12_numberBut 64 = .ok (.if_icmp .ne 27, 3) := by decide +kernel
theorem dX12_numberBut_67 : decode cX12_numberBut 67 = .ok (.iload 4, 2) := by decide +kernel
theorem dX12_numberBut_69 : decode cX12_numberBut 69 = .ok (.i2l, 1) := by decide +kernel
theorem dX12_numberBut_70 : decode cX12_numberBut 70 = .ok (.iload_n 1, 1) := by decide +kernel
theorem dX12_numberBut_71 : decode cX12_numberBut 71 = .ok (.i2l, 1) := by decide +kernel
theorem dX12_numberBut_72 : decode cX12_numberBut 72 = .ok (.iload_n 2, 1) := by decide +kernel
theorem dX12_numberBut_73 : decode cX12_numberBut 73 = .ok (.i2l, 1) := by decide +kernel
theorem dX12_numberBut_74 : decode cX12_numberBut 74 = .ok (.invokestatic 82, 3) := by decide +kernel
theorem dX12_numberBut_77 : decode cX12_numberBut 77 = .ok (.ifCond .eq 9, 3) := by decide +kernel
theorem dX12_numberBut_80 : decode cX12_numberBut 80 = .ok (.iload 4, 2) := by decide +kernel
theorem dX12_numberBut_82 : decode cX12_numberBut 82 = .ok (.iload_n 3, 1) := by decide +kernel
theorem dX12_numberBut_83 : decode cX12_numberBut 83 = .ok (.if_icmp .ne 8, 3) := by decide +kernel
theorem dX12_numberBut_86 : decode cX12_numberBut 86 = .ok (.aload_n 0, 1) := by decide +kernel
theorem dX12_numberBut_87 : decode cX12_numberBut 87 = .ok (.iconst 2, 1) := by decide +kernel
theorem dX12_numberBut_88 : decode cX12_numberBut 88 = .ok (.invokevirtual 139, 3) := by decide +kernel
theorem dX12_numberBut_91 : decode cX12_numberBut 91 = .ok (.aload_n 0, 1) := by decide +kernel
theorem dX12_numberBut_92 : decode cX12_numberBut 92 = .ok (.aload_n 0, 1) := by decide +kernel
theorem dX12_numberBut_93 : decode cX12_numberBut 93 = .ok (.getfield 121, 3) := by decide +kernel
theorem dX12_numberBut_96 : decode cX12_numberBut 96 = .ok (.iconst 3, 1) := by decide +kernel
theorem dX12_numberBut_97 : decode cX12_numberBut 97 = .ok (.if_icmp .ne 7, 3) := by decide +kernel
theorem dX12_numberBut_100 : decode cX12_numberBut 100 = .ok (.iconst 1, 1) := by decide +kernel
theorem dX12_numberBut_101 : decode cX12_numberBut 101 = .ok (.goto 4, 3) := by decide +kernel
theorem dX12_numberBut_104 : decode cX12_numberBut 104 = .ok (.iconst 0, 1) := by decide +kernel
theorem dX12_numberBut_105 : decode cX12_numberBut 105 = .ok (.invokevirtual 146, 3) := by decide +kernel
theorem dX12_numberBut_108 : decode cX12_numberBut 108 = .ok (.iload 4, 2) := by decide +kernel
theorem dX12_numberBut_110 : decode cX12_numberBut 110 = .ok (.ireturn, 1) := by decide +kernel
def fX12_numberBut_105 (x4 : Int) (xs0 : Int) (M : jw_M) : Option (Int × jw_M) :=
  Option.bind (fX12_must xs0 M) (fun M14 => some (x4, M14))
set_option maxRecDepth 100000 in
theorem pX12_numberBut_105 (G : jw_G) : ∀ (x4 : Int) (xs0 : Int) (hx4 : jw_r x4) (hxs0 : jw_r xs0) (M : jw_M), jw_Rn G YX12_numberBut 4 0 0 true (fun q => q) 105 [(4, jI x4)] [jI xs0, jR G 127] M (fX12_numberBut_105 x4 xs0 M) := by
  intro x4 xs0 hx4 hxs0 M
  unfold fX12_numberBut_105
  refine jw_callVM (pc := 105) (As := [jI xs0]) (st := []) dX12_numberBut_105 rfl (Nat.le_of_ble_eq_true rfl) qX12_must jt_1410 jt_1412 jp_50 rfl rfl (Nat.le_of_ble_eq_true rfl) jv_12 rfl jg_127 jl_127 (by decide) (jw_ho jg_127 (by decide)) (kX12_must G xs0 hxs0 M) (fun M14 => ?_)
  refine jw_iload (pc := 108) 0 dX12_numberBut_108 rfl ?_
  exact jw_ret (pc := 110) (v := x4) dX12_numberBut_110 hx4 rfl rfl
def fX12_numberBut_91 (x4 : Int) (M : jw_M) : Option (Int × jw_M) :=
  if M 127 14 = 3 then (fX12_numberBut_105 x4 1 M) else (fX12_numberBut_105 x4 0 M)
set_option maxRecDepth 100000 in
theorem pX12_numberBut_91 (G : jw_G) : ∀ (x4 : Int) (hx4 : jw_r x4) (M : jw_M), jw_Rn G YX12_numberBut 4 0 0 true (fun q => q) 91 [(0, jR G 127), (4, jI x4)] [] M (fX12_numberBut_91 x4 M) := by
  intro x4 hx4 M
  unfold fX12_numberBut_91
  refine jw_aloadR (pc := 91) 0 dX12_numberBut_91 rfl ?_
  refine jw_aloadR (pc := 92) 0 dX12_numberBut_92 rfl ?_
  refine jw_getI (pc := 93) (j := 14) rfl dX12_numberBut_93 jv_12 ji_12 (Or.inl jt_1245) jg_127 jl_127 (by decide) (by decide) (jw_ho jg_127 (by decide)) (Or.inl rfl) rfl (fun h13 => ?_)
  refine jw_iconst (pc := 96) dX12_numberBut_96 ?_
  refine jw_ic_ne (pc := 97) 104 dX12_numberBut_97 (by decide) h13 (jw_rc _ rfl) (fun _ => ?_) (fun _ => ?_)
  · refine jw_iconst (pc := 100) dX12_numberBut_100 ?_
    refine jw_goto (pc := 101) 105 dX12_numberBut_101 (by decide) ?_
    exact jw_few [1] rfl (pX12_numberBut_105 G x4 1 hx4 (jw_rc _ rfl) M)
  · refine jw_iconst (pc := 104) dX12_numberBut_104 ?_
    exact jw_few [1] rfl (pX12_numberBut_105 G x4 0 hx4 (jw_rc _ rfl) M)
def fX12_numberBut_86 (x4 : Int) (M : jw_M) : Option (Int × jw_M) :=
  Option.bind (fX12_bad 2 M) (fun M12 => fX12_numberBut_91 x4 M12)
set_option maxRecDepth 100000 in
theorem pX12_numberBut_86 (G : jw_G) : ∀ (x4 : Int) (hx4 : jw_r x4) (M : jw_M), jw_Rn G YX12_numberBut 4 0 0 true (fun q => q) 86 [(0, jR G 127), (4, jI x4)] [] M (fX12_numberBut_86 x4 M) := by
  intro x4 hx4 M
  unfold fX12_numberBut_86
  refine jw_aloadR (pc := 86) 0 dX12_numberBut_86 rfl ?_
  refine jw_iconst (pc := 87) dX12_numberBut_87 ?_
  refine jw_callVM (pc := 88) (As := [jI 2]) (st := []) dX12_numberBut_88 rfl (Nat.le_of_ble_eq_true rfl) qX12_bad jt_1398 jt_1400 jp_47 rfl rfl (Nat.le_of_ble_eq_true rfl) jv_12 rfl jg_127 jl_127 (by decide) (jw_ho jg_127 (by decide)) (kX12_bad G 2 (jw_rc _ rfl) M) (fun M12 => ?_)
  exact jw_few [0, 1] rfl (pX12_numberBut_91 G x4 hx4 M12)
def fX12_numberBut_59 (x1 : Int) (x2 : Int) (x3 : Int) (x4 : Int) (M : jw_M) : Option (Int × jw_M) :=
  if M 127 14 = 3 then (Option.bind (fX12_in x4 x1 x2 M) (fun v11 => if v11 = 0 then (fX12_numberBut_86 x4 M) else (if x4 = x3 then (fX12_numberBut_86 x4 M) else (fX12_numberBut_91 x4 M)))) else (fX12_numberBut_91 x4 M)
set_option maxRecDepth 100000 in
theorem pX12_numberBut_59 (G : jw_G) : ∀ (x1 : Int) (x2 : Int) (x3 : Int) (x4 : Int) (hx1 : jw_r x1) (hx2 : jw_r x2) (hx3 : jw_r x3) (hx4 : jw_r x4) (M : jw_M), jw_Rn G YX12_numberBut 4 0 0 true (fun q => q) 59 [(0, jR G 127), (1, jI x1), (2, jI x2), (3, jI x3), (4, jI x4)] [] M (fX12_numberBut_59 x1 x2 x3 x4 M) := by
  intro x1 x2 x3 x4 hx1 hx2 hx3 hx4 M
  unfold fX12_numberBut_59
  refine jw_aloadR (pc := 59) 0 dX12_numberBut_59 rfl ?_
  refine jw_getI (pc := 60) (j := 14) rfl dX12_numberBut_60 jv_12 ji_12 (Or.inl jt_1245) jg_127 jl_127 (by decide) (by decide) (jw_ho jg_127 (by decide)) (Or.inl rfl) rfl (fun h10 => ?_)
  refine jw_iconst (pc := 63) dX12_numberBut_63 ?_
  refine jw_ic_ne (pc := 64) 91 dX12_numberBut_64 (by decide) h10 (jw_rc _ rfl) (fun _ => ?_) (fun _ => ?_)
  · refine jw_iload (pc := 67) 4 dX12_numberBut_67 rfl ?_
    refine jw_i2lr (pc := 69) dX12_numberBut_69 hx4 ?_
    refine jw_iload_n (pc := 70) 1 dX12_numberBut_70 rfl ?_
    refine jw_i2lr (pc := 71) dX12_numberBut_71 hx1 ?_
    refine jw_iload_n (pc := 72) 2 dX12_numberBut_72 rfl ?_
    refine jw_i2lr (pc := 73) dX12_numberBut_73 hx2 ?_
    refine jw_callSz (pc := 74) (As := [jL x4, jL x1, jL x2]) (st := []) dX12_numberBut_74 rfl (Nat.le_of_ble_eq_true rfl) qX12_in jt_1345 jt_1346 rfl rfl (Nat.le_of_ble_eq_true rfl) (kX12_in G x4 x1 x2 (jw_rq hx4) (jw_rq hx1) (jw_rq hx2) M) (fun v11 hv11 => ?_)
    refine jw_if_eq (pc := 77) 86 dX12_numberBut_77 (by decide) (jw_bz hv11) (fun _ => ?_) (fun _ => ?_)
    · exact jw_few [0, 4] rfl (pX12_numberBut_86 G x4 hx4 M)
    · refine jw_iload (pc := 80) 4 dX12_numberBut_80 rfl ?_
      refine jw_iload_n (pc := 82) 3 dX12_numberBut_82 rfl ?_
      refine jw_ic_ne (pc := 83) 91 dX12_numberBut_83 (by decide) hx4 hx3 (fun _ => ?_) (fun _ => ?_)
      · exact jw_few [0, 4] rfl (pX12_numberBut_86 G x4 hx4 M)
      · exact jw_few [0, 4] rfl (pX12_numberBut_91 G x4 hx4 M)
  · exact jw_few [0, 4] rfl (pX12_numberBut_91 G x4 hx4 M)
def fX12_numberBut_18 : Nat → Int → Int → Int → Int → Int → jw_M → Option (Int × jw_M)
  | 0, _, _, _, _, _, _ => none
  | k + 1, x1, x2, x3, x4, x5, M => if x5 < M 127 16 then (if M 127 14 = 3 then (if 0 ≤ x5 ∧ x5 < 600 then Option.bind (some (jw_w ((jw_w ((jw_w (10 * x4)) + (M 134 x5))) - 48))) (fun v8 => Option.bind (some (jw_w (x5 + 1))) (fun v9 => fX12_numberBut_18 k x1 x2 x3 v8 v9 M)) else none) else (fX12_numberBut_59 x1 x2 x3 x4 M)) else (fX12_numberBut_59 x1 x2 x3 x4 M)
set_option maxRecDepth 100000 in
theorem pX12_numberBut_18 (G : jw_G) : ∀ (k : Nat) (x1 : Int) (x2 : Int) (x3 : Int) (x4 : Int) (x5 : Int) (hx1 : jw_r x1) (hx2 : jw_r x2) (hx3 : jw_r x3) (hx4 : jw_r x4) (hx5 : jw_r x5) (M : jw_M), jw_Rn G YX12_numberBut 4 0 0 true (fun q => q) 18 [(0, jR G 127), (1, jI x1), (2, jI x2), (3, jI x3), (4, jI x4), (5, jI x5)] [] M (fX12_numberBut_18 k x1 x2 x3 x4 x5 M) := by
  intro k
  induction k with
  | zero =>
    intro x1 x2 x3 x4 x5 hx1 hx2 hx3 hx4 hx5 M
    exact jw_none
  | succ k ih =>
    intro x1 x2 x3 x4 x5 hx1 hx2 hx3 hx4 hx5 M
    rw [fX12_numberBut_18]
    refine jw_iload (pc := 18) 5 dX12_numberBut_18 rfl ?_
    refine jw_aloadR (pc := 20) 0 dX12_numberBut_20 rfl ?_
    refine jw_getI (pc := 21) (j := 16) rfl dX12_numberBut_21 jv_12 ji_12 (Or.inl jt_1247) jg_127 jl_127 (by decide) (by decide) (jw_ho jg_127 (by decide)) (Or.inl rfl) rfl (fun h5 => ?_)
    refine jw_ic_ge (pc := 24) 59 dX12_numberBut_24 (by decide) hx5 h5 (fun _ => ?_) (fun _ => ?_)
    · refine jw_aloadR (pc := 27) 0 dX12_numberBut_27 rfl ?_
      refine jw_getI (pc := 28) (j := 14) rfl dX12_numberBut_28 jv_12 ji_12 (Or.inl jt_1245) jg_127 jl_127 (by decide) (by decide) (jw_ho jg_127 (by decide)) (Or.inl rfl) rfl (fun h6 => ?_)
      refine jw_iconst (pc := 31) dX12_numberBut_31 ?_
      refine jw_ic_ne (pc := 32) 59 dX12_numberBut_32 (by decide) h6 (jw_rc _ rfl) (fun _ => ?_) (fun _ => ?_)
      · refine jw_bipush (pc := 35) dX12_numberBut_35 rfl ?_
        refine jw_iload (pc := 37) 4 dX12_numberBut_37 rfl ?_
        refine jw_imul (pc := 39) dX12_numberBut_39 ?_
        refine jw_aloadR (pc := 40) 0 dX12_numberBut_40 rfl ?_
        refine jw_getR (pc := 41) (j := 9) rfl dX12_numberBut_41 jv_12 ji_12 (Or.inl jt_1240) jg_127 jl_127 (by decide) (by decide) rfl jf_12_9 ?_
        refine jw_iload (pc := 44) 5 dX12_numberBut_44 rfl ?_
        refine jw_iald (pc := 46) dX12_numberBut_46 jg_134 jl_134 (jw_ho jg_134 (by decide)) hx5 rfl (fun h7 => ?_)
        refine jw_iadd (pc := 47) dX12_numberBut_47 ?_
        refine jw_bipush (pc := 48) dX12_numberBut_48 rfl ?_
        refine jw_isub (pc := 50) dX12_numberBut_50 ?_
        refine jw_istoreL (pc := 51) (lv' := (fun y => [(4, y), (0, jR G 127), (1, jI x1), (2, jI x2), (3, jI x3), (5, jI x5)])) dX12_numberBut_51 (jw_wr _) (by decide) (fun _ => rfl) (fun v8 hv8 => ?_)
        refine jw_iincL (pc := 53) 5 (lv' := (fun y => [(5, y), (4, jI v8), (0, jR G 127), (1, jI x1), (2, jI x2), (3, jI x3)])) dX12_numberBut_53 rfl (Nat.le_of_ble_eq_true rfl) (fun _ => rfl) (fun v9 hv9 => ?_)
        refine jw_goto (pc := 56) 18 dX12_numberBut_56 (by decide) ?_
        exact jw_few [2, 3, 4, 5, 1, 0] rfl (ih x1 x2 x3 v8 v9 hx1 hx2 hx3 hv8 hv9 M)
      · exact jw_few [0, 1, 2, 3, 4] rfl (pX12_numberBut_59 G x1 x2 x3 x4 hx1 hx2 hx3 hx4 M)
    · exact jw_few [0, 1, 2, 3, 4] rfl (pX12_numberBut_59 G x1 x2 x3 x4 hx1 hx2 hx3 hx4 M)
def fX12_numberBut (a1 : Int) (a2 : Int) (a3 : Int) (M : jw_M) : Option (Int × jw_M) :=
  if (0 : Int) < M 127 17 then (some (0, M)) else (Option.bind (some 0) (fun v2 => Option.bind (some (M 127 15)) (fun v4 => fX12_numberBut_18 jw_fu a1 a2 a3 v2 v4 M)))
set_option maxRecDepth 100000 in
theorem rX12_numberBut (G : jw_G) (a1 : Int) (a2 : Int) (a3 : Int) (ha1 : jw_r a1) (ha2 : jw_r a2) (ha3 : jw_r a3) (M : jw_M) : jw_Rn G YX12_numberBut 4 0 0 true (fun q => q) 0 [(0, jR G 127), (1, jI a1), (2, jI a2), (3, jI a3)] [] M (fX12_numberBut a1 a2 a3 M) := by
  unfold fX12_numberBut
  refine jw_aloadR (pc := 0) 0 dX12_numberBut_0 rfl ?_
  refine jw_getI (pc := 1) (j := 17) rfl dX12_numberBut_1 jv_12 ji_12 (Or.inl jt_1248) jg_127 jl_127 (by decide) (by decide) (jw_ho jg_127 (by decide)) (Or.inl rfl) rfl (fun h1 => ?_)
  refine jw_if_le (pc := 4) 9 dX12_numberBut_4 (by decide) h1 (fun _ => ?_) (fun _ => ?_)
  · refine jw_iconst (pc := 7) dX12_numberBut_7 ?_
    exact jw_ret (pc := 8) (v := 0) dX12_numberBut_8 (jw_rc _ rfl) rfl rfl
  · refine jw_iconst (pc := 9) dX12_numberBut_9 ?_
    refine jw_istoreL (pc := 10) (lv' := (fun y => [(4, y), (0, jR G 127), (1, jI a1), (2, jI a2), (3, jI a3)])) dX12_numberBut_10 (jw_rc _ rfl) (by decide) (fun _ => rfl) (fun v2 hv2 => ?_)
    refine jw_aloadR (pc := 12) 1 dX12_numberBut_12 rfl ?_
    refine jw_getI (pc := 13) (j := 15) rfl dX12_numberBut_13 jv_12 ji_12 (Or.inl jt_1246) jg_127 jl_127 (by decide) (by decide) (jw_ho jg_127 (by decide)) (Or.inl rfl) rfl (fun h3 => ?_)
    refine jw_istoreL (pc := 16) (lv' := (fun y => [(5, y), (4, jI v2), (0, jR G 127), (1, jI a1), (2, jI a2), (3, jI a3)])) dX12_numberBut_16 h3 (by decide) (fun _ => rfl) (fun v4 hv4 => ?_)
    exact jw_few [2, 3, 4, 5, 1, 0] rfl (pX12_numberBut_18 G jw_fu a1 a2 a3 v2 v4 ha1 ha2 ha3 hv2 hv4 M)
theorem kX12_numberBut (G : jw_G) (a1 : Int) (a2 : Int) (a3 : Int) (ha1 : jw_r a1) (ha2 : jw_r a2) (ha3 : jw_r a3) (M : jw_M) : jw_Ct G YX12_numberBut (some .int) 4 0 0 true (fun q => q) yX12_numberBut [jR G 127, jI a1, jI a2, jI a3] M (fX12_numberBut a1 a2 a3 M) := jw_met (by decide) rfl rfl rfl (Nat.le_of_ble_eq_true rfl) (rX12_numberBut G a1 a2 a3 ha1 ha2 ha3 M)
abbrev YX12_number : jw_Y := (RX12, cX12_number, 3, 1, "number")
theorem qX12_number : jw_cy YX12_number (some .int) yX12_number 2 := ⟨by decide, jt_1417, jt_14, by decide, by decide +kernel⟩
theorem dX12_number_0 : decode cX12_number 0 = .ok (.aload_n 0, 1) := by decide +kernel
theorem dX12_number_1 : decode cX12_number 1 = .ok (.iload_n 1, 1) := by decide +kernel
theorem dX12_number_2 : decode cX12_number 2 = .ok (.iload_n 2, 1) := by decide +kernel
theorem dX12_number_3 : decode cX12_number 3 = .ok (.ldc 110, 2) := by decide +kernel
theorem dX12_number_5 : decode cX12_number 5 = .ok (.invokevirtual 150, 3) := by decide +kernel
theorem dX12_number_8 : decode cX12_number 8 = .ok (.ireturn, 1) := by decide +kernel
def fX12_number (a1 : Int) (a2 : Int) (M : jw_M) : Option (Int × jw_M) :=
  jw_b2 (fX12_numberBut a1 a2 (-1000000) M) (fun v1 M2 => some (v1, M2))
set_option maxRecDepth 100000 in
theorem rX12_number (G : jw_G) (a1 : Int) (a2 : Int) (ha1 : jw_r a1) (ha2 : jw_r a2) (M : jw_M) : jw_Rn G YX12_number 5 0 0 true (fun q => q) 0 [(0, jR G 127), (1, jI a1), (2, jI a2)] [] M (fX12_number a1 a2 M) := by
  unfold fX12_number
  refine jw_aloadR (pc := 0) 0 dX12_number_0 rfl ?_
  refine jw_iload_n (pc := 1) 1 dX12_number_1 rfl ?_
  refine jw_iload_n (pc := 2) 2 dX12_number_2 rfl ?_
  refine jw_ldc (pc := 3) (n := (-1000000)) dX12_number_3 jt_1386 (by decide) ?_
  refine jw_callVMi (pc := 5) (As := [jI a1, jI a2, jI (-1000000)]) (st := []) dX12_number_5 rfl (Nat.le_of_ble_eq_true rfl) qX12_numberBut jt_1418 jt_1420 jp_52 rfl rfl (Nat.le_of_ble_eq_true rfl) jv_12 rfl jg_127 jl_127 (by decide) (jw_ho jg_127 (by decide)) (kX12_numberBut G a1 a2 (-1000000) ha1 ha2 (jw_rc _ rfl) M) (fun v1 M2 hv1 => ?_)
  exact jw_ret (pc := 8) (v := v1) dX12_number_8 hv1 rfl rfl
theorem kX12_number (G : jw_G) (a1 : Int) (a2 : Int) (ha1 : jw_r a1) (ha2 : jw_r a2) (M : jw_M) : jw_Ct G YX12_number (some .int) 5 0 0 true (fun q => q) yX12_number [jR G 127, jI a1, jI a2] M (fX12_number a1 a2 M) := jw_met (by decide) rfl rfl rfl (Nat.le_of_ble_eq_true rfl) (rX12_number G a1 a2 ha1 ha2 M)
abbrev YX12_corner : jw_Y := (RX12, cX12_corner, 1, 1, "corner")
theorem qX12_corner : jw_cy YX12_corner (some .int) yX12_corner 0 := ⟨by decide, jt_1434, jt_14, by decide, by decide +kernel⟩
theorem dX12_corner_0 : decode cX12_corner 0 = .ok (.aload_n 0, 1) := by decide +kernel
theorem dX12_corner_1 : decode cX12_corner 1 = .ok (.iconst 0, 1) := by decide +kernel
theorem dX12_corner_2 : decode cX12_corner 2 = .ok (.aload_n 0, 1) := by decide +kernel
theorem dX12_corner_3 : decode cX12_corner 3 = .ok (.getfield 22, 3) := by decide +kernel
theorem dX12_corner_6 : decode cX12_corner 6 = .ok (.iconst 0, 1) := by decide +kernel
theorem dX12_corner_7 : decode cX12_corner 7 = .ok (.iaload, 1) := by decide +kernel
theorem dX12_corner_8 : decode cX12_corner 8 = .ok (.iconst 1, 1) := by decide +kernel
theorem dX12_corner_9 : decode cX12_corner 9 = .ok (.isub, 1) := by decide +kernel
theorem dX12_corner_10 : decode cX12_corner 10 = .ok (.invokevirtual 154, 3) := by decide +kernel
theorem dX12_corner_13 : decode cX12_corner 13 = .ok (.ireturn, 1) := by decide +kernel
def fX12_corner (M : jw_M) : Option (Int × jw_M) :=
  if 0 ≤ (0 : Int) ∧ (0 : Int) < 104 then jw_b2 (fX12_number 0 (jw_w ((M 132 0) - 1)) M) (fun v2 M3 => some (v2, M3)) else none
set_option maxRecDepth 100000 in
theorem rX12_corner (G : jw_G) (M : jw_M) : jw_Rn G YX12_corner 6 0 0 true (fun q => q) 0 [(0, jR G 127)] [] M (fX12_corner M) := by
  unfold fX12_corner
  refine jw_aloadR (pc := 0) 0 dX12_corner_0 rfl ?_
  refine jw_iconst (pc := 1) dX12_corner_1 ?_
  refine jw_aloadR (pc := 2) 0 dX12_corner_2 rfl ?_
  refine jw_getR (pc := 3) (j := 6) rfl dX12_corner_3 jv_12 ji_12 (Or.inl jt_1237) jg_127 jl_127 (by decide) (by decide) rfl jf_12_6 ?_
  refine jw_iconst (pc := 6) dX12_corner_6 ?_
  refine jw_iald (pc := 7) dX12_corner_7 jg_132 jl_132 (jw_ho jg_132 (by decide)) (jw_rc _ rfl) rfl (fun h1 => ?_)
  refine jw_iconst (pc := 8) dX12_corner_8 ?_
  refine jw_isub (pc := 9) dX12_corner_9 ?_
  refine jw_callVMi (pc := 10) (As := [jI 0, jI (jw_w ((M 132 0) - 1))]) (st := []) dX12_corner_10 rfl (Nat.le_of_ble_eq_true rfl) qX12_number jt_1414 jt_1416 jp_51 rfl rfl (Nat.le_of_ble_eq_true rfl) jv_12 rfl jg_127 jl_127 (by decide) (jw_ho jg_127 (by decide)) (kX12_number G 0 (jw_w ((M 132 0) - 1)) (jw_rc _ rfl) (jw_wr _) M) (fun v2 M3 hv2 => ?_)
  exact jw_ret (pc := 13) (v := v2) dX12_corner_13 hv2 rfl rfl
theorem kX12_corner (G : jw_G) (M : jw_M) : jw_Ct G YX12_corner (some .int) 6 0 0 true (fun q => q) yX12_corner [jR G 127] M (fX12_corner M) := jw_met (by decide) rfl rfl rfl (Nat.le_of_ble_eq_true rfl) (rX12_corner G M)
abbrev YX12_begins : jw_Y := (RX12, cX12_begins, 3, 0, "begins")
theorem qX12_begins : jw_cy YX12_begins none yX12_begins 2 := ⟨by decide, jt_1409, jt_14, by decide, by decide +kernel⟩
theorem dX12_begins_0 : decode cX12_begins 0 = .ok (.aload_n 0, 1) := by decide +kernel
theorem dX12_begins_1 : decode cX12_begins 1 = .ok (.getfield 22, 3) := by decide +kernel
theorem dX12_begins_4 : decode cX12_begins 4 = .ok (.iload_n 1, 1) := by decide +kernel
theorem dX12_begins_5 : decode cX12_begins 5 = .ok (.iaload, 1) := by decide +kernel
theorem dX12_begins_6 : decode cX12_begins 6 = .ok (.iload_n 2, 1) := by decide +kernel
theorem dX12_begins_7 : decode cX12_begins 7 = .ok (.if_icmp .ne 8, 3) := by decide +kernel
theorem dX12_begins_10 : decode cX12_begins 10 = .ok (.aload_n 0, 1) := by decide +kernel
theorem dX12_begins_11 : decode cX12_begins 11 = .ok (.iconst 3, 1) := by decide +kernel
theorem dX12_begins_12 : decode cX12_begins 12 = .ok (.invokevirtual 139, 3) := by decide +kernel
theorem dX12_begins_15 : decode cX12_begins 15 = .ok (.aload_n 0, 1) := by decide +kernel
theorem dX12_begins_16 : decode cX12_begins 16 = .ok (.iconst 1, 1) := by decide +kernel
theorem dX12_begins_17 : decode cX12_begins 17 = .ok (.invokevirtual 146, 3) := by decide +kernel
theorem dX12_begins_20 : decode cX12_begins 20 = .ok (.return_, 1) := by decide +kernel
def fX12_begins_15 (M : jw_M) : Option jw_M :=
  Option.bind (fX12_must 1 M) (fun M3 => some M3)
set_option maxRecDepth 100000 in
theorem pX12_begins_15 (G : jw_G) : ∀ (M : jw_M), jw_Rn G YX12_begins 4 0 0 true (fun M1 => (0, M1)) 15 [(0, jR G 127)] [] M (fX12_begins_15 M) := by
  intro M
  unfold fX12_begins_15
  refine jw_aloadR (pc := 15) 0 dX12_begins_15 rfl ?_
  refine jw_iconst (pc := 16) dX12_begins_16 ?_
  refine jw_callVM (pc := 17) (As := [jI 1]) (st := []) dX12_begins_17 rfl (Nat.le_of_ble_eq_true rfl) qX12_must jt_1410 jt_1412 jp_50 rfl rfl (Nat.le_of_ble_eq_true rfl) jv_12 rfl jg_127 jl_127 (by decide) (jw_ho jg_127 (by decide)) (kX12_must G 1 (jw_rc _ rfl) M) (fun M3 => ?_)
  exact jw_ret (pc := 20) (v := 0) dX12_begins_20 trivial rfl rfl
def fX12_begins (a1 : Int) (a2 : Int) (M : jw_M) : Option jw_M :=
  if 0 ≤ a1 ∧ a1 < 104 then if M 132 a1 = a2 then (Option.bind (fX12_bad 3 M) (fun M2 => fX12_begins_15 M2)) else (fX12_begins_15 M) else none
set_option maxRecDepth 100000 in
theorem rX12_begins (G : jw_G) (a1 : Int) (a2 : Int) (ha1 : jw_r a1) (ha2 : jw_r a2) (M : jw_M) : jw_Rn G YX12_begins 4 0 0 true (fun M1 => (0, M1)) 0 [(0, jR G 127), (1, jI a1), (2, jI a2)] [] M (fX12_begins a1 a2 M) := by
  unfold fX12_begins
  refine jw_aloadR (pc := 0) 0 dX12_begins_0 rfl ?_
  refine jw_getR (pc := 1) (j := 6) rfl dX12_begins_1 jv_12 ji_12 (Or.inl jt_1237) jg_127 jl_127 (by decide) (by decide) rfl jf_12_6 ?_
  refine jw_iload_n (pc := 4) 1 dX12_begins_4 rfl ?_
  refine jw_iald (pc := 5) dX12_begins_5 jg_132 jl_132 (jw_ho jg_132 (by decide)) ha1 rfl (fun h1 => ?_)
  refine jw_iload_n (pc := 6) 2 dX12_begins_6 rfl ?_
  refine jw_ic_ne (pc := 7) 15 dX12_begins_7 (by decide) h1 ha2 (fun _ => ?_) (fun _ => ?_)
  · refine jw_aloadR (pc := 10) 0 dX12_begins_10 rfl ?_
    refine jw_iconst (pc := 11) dX12_begins_11 ?_
    refine jw_callVM (pc := 12) (As := [jI 3]) (st := []) dX12_begins_12 rfl (Nat.le_of_ble_eq_true rfl) qX12_bad jt_1398 jt_1400 jp_47 rfl rfl (Nat.le_of_ble_eq_true rfl) jv_12 rfl jg_127 jl_127 (by decide) (jw_ho jg_127 (by decide)) (kX12_bad G 3 (jw_rc _ rfl) M) (fun M2 => ?_)
    exact jw_few [0] rfl (pX12_begins_15 G M2)
  · exact jw_few [0] rfl (pX12_begins_15 G M)
theorem kX12_begins (G : jw_G) (a1 : Int) (a2 : Int) (ha1 : jw_r a1) (ha2 : jw_r a2) (M : jw_M) : jw_Ct G YX12_begins none 4 0 0 true (fun M1 => (0, M1)) yX12_begins [jR G 127, jI a1, jI a2] M (fX12_begins a1 a2 M) := jw_met (by decide) rfl rfl rfl (Nat.le_of_ble_eq_true rfl) (rX12_begins G a1 a2 ha1 ha2 M)
abbrev YX12_ends : jw_Y := (RX12, cX12_ends, 2, 4, "ends")
theorem qX12_ends : jw_cy YX12_ends (some .boolean) yX12_ends 1 := ⟨by decide, jt_1425, jt_14, by decide, by decide +kernel⟩
theorem dX12_ends_0 : decode cX12_ends 0 = .ok (.aload_n 0, 1) := by decide +kernel
theorem dX12_ends_1 : decode cX12_ends 1 = .ok (.getfield 133, 3) := by decide +kernel
theorem dX12_ends_4 : decode cX12_ends 4 = .ok (.ifCond .ne 20, 3) := by decide +kernel
theorem dX12_ends_7 : decode cX12_ends 7 = .ok (.aload_n 0, 1) := by decide +kernel
theorem dX12_ends_8 : decode cX12_ends 8 = .ok (.aload_n 0, 1) := by decide +kernel
theorem dX12_ends_9 : decode cX12_ends 9 = .ok (.getfield 121, 3) := by decide +kernel
theorem dX12_ends_12 : decode cX12_ends 12 = .ok (.iconst 4, 1) := by decide +kernel
theorem dX12_ends_13 : decode cX12_ends 13 = .ok (.if_icmp .ne 7, 3) := by decide +kernel
theorem dX12_ends_16 : decode cX12_ends 16 = .ok (.iconst 1, 1) := by decide +kernel
theorem dX12_ends_17 : decode cX12_ends 17 = .ok (.goto 4, 3) := by decide +kernel
theorem dX12_ends_20 : decode cX12_ends 20 = .ok (.iconst 0, 1) := by decide +kernel
theorem dX12_ends_21 : decode cX12_ends 21 = .ok (.invokevirtual 146, 3) := by decide +kernel
theorem dX12_ends_24 : decode cX12_ends 24 = .ok (.aload_n 0, 1) := by decide +kernel
theorem dX12_ends_25 : decode cX12_ends 25 = .ok (.getfield 22, 3) := by decide +kernel
theorem dX12_ends_28 : decode cX12_ends 28 = .ok (.iload_n 1, 1) := by decide +kernel
theorem dX12_ends_29 : decode cX12_ends 29 = .ok (.dup2, 1) := by decide +kernel
theorem dX12_ends_30 : decode cX12_ends 30 = .ok (.iaload, 1) := by decide +kernel
theorem dX12_ends_31 : decode cX12_ends 31 = .ok (.aload_n 0, 1) := by decide +kernel
theorem dX12_ends_32 : decode cX12_ends 32 = .ok (.getfield 133, 3) := by decide +kernel
theorem dX12_ends_35 : decode cX12_ends 35 = .ok (.ifCond .ne 7, 3) := by decide +kernel
theorem dX12_ends_38 : decode cX12_ends 38 = .ok (.iconst 1, 1) := by decide +kernel
theorem dX12_ends_39 : decode cX12_ends 39 = .ok (.goto 4, 3) := by decide +kernel
theorem dX12_ends_42 : decode cX12_ends 42 = .ok (.iconst 0, 1) := by decide +kernel
theorem dX12_ends_43 : decode cX12_ends 43 = .ok (.iadd, 1) := by decide +kernel
theorem dX12_ends_44 : decode cX12_ends 44 = .ok (.iastore, 1) := by decide +kernel
theorem dX12_ends_45 : decode cX12_ends 45 = .ok (.aload_n 0, 1) := by decide +kernel
theorem dX12_ends_46 : decode cX12_ends 46 = .ok (.getfield 133, 3) := by decide +kernel
theorem dX12_ends_49 : decode cX12_ends 49 = .ok (.ifCond .ne 7, 3) := by decide +kernel
theorem dX12_ends_52 : decode cX12_ends 52 = .ok (.iconst 1, 1) := by decide +kernel
theorem dX12_ends_53 : decode cX12_ends 53 = .ok (.goto 4, 3) := by decide +kernel
theorem dX12_ends_56 : decode cX12_ends 56 = .ok (.iconst 0, 1) := by decide +kernel
theorem dX12_ends_57 : decode cX12_ends 57 = .ok (.ireturn, 1) := by decide +kernel
def fX12_ends_43 (xs0 : Int) (xs1 : Int) (xs2 : Int) (M : jw_M) : Option (Int × jw_M) :=
  if 0 ≤ xs2 ∧ xs2 < 104 then Option.bind (some (jw_up M 132 xs2 (jw_w (xs1 + xs0)))) (fun M6 => if M6 127 17 = 0 then (some (1, M6)) else (some (0, M6))) else none
set_option maxRecDepth 100000 in
theorem pX12_ends_43 (G : jw_G) : ∀ (xs0 : Int) (xs1 : Int) (xs2 : Int) (hxs0 : jw_r xs0) (hxs1 : jw_r xs1) (hxs2 : jw_r xs2) (M : jw_M), jw_Rn G YX12_ends 4 0 0 true (fun q => q) 43 [(0, jR G 127)] [jI xs0, jI xs1, jI xs2, jR G 132] M (fX12_ends_43 xs0 xs1 xs2 M) := by
  intro xs0 xs1 xs2 hxs0 hxs1 hxs2 M
  unfold fX12_ends_43
  refine jw_iadd (pc := 43) dX12_ends_43 ?_
  refine jw_iast (pc := 44) dX12_ends_44 jg_132 jl_132 (jw_ho jg_132 (by decide)) hxs2 (jw_wr _) rfl ?_
  refine jw_letM (fun M6 => ?_)
  refine jw_aloadR (pc := 45) 0 dX12_ends_45 rfl ?_
  refine jw_getI (pc := 46) (j := 17) rfl dX12_ends_46 jv_12 ji_12 (Or.inl jt_1248) jg_127 jl_127 (by decide) (by decide) (jw_ho jg_127 (by decide)) (Or.inl rfl) rfl (fun h7 => ?_)
  refine jw_if_ne (pc := 49) 56 dX12_ends_49 (by decide) h7 (fun _ => ?_) (fun _ => ?_)
  · refine jw_iconst (pc := 52) dX12_ends_52 ?_
    refine jw_goto (pc := 53) 57 dX12_ends_53 (by decide) ?_
    exact jw_ret (pc := 57) (v := 1) dX12_ends_57 (Or.inr rfl) rfl rfl
  · refine jw_iconst (pc := 56) dX12_ends_56 ?_
    exact jw_ret (pc := 57) (v := 0) dX12_ends_57 (Or.inl rfl) rfl rfl
def fX12_ends_24 (x1 : Int) (M : jw_M) : Option (Int × jw_M) :=
  if 0 ≤ x1 ∧ x1 < 104 then if M 127 17 = 0 then (fX12_ends_43 1 (M 132 x1) x1 M) else (fX12_ends_43 0 (M 132 x1) x1 M) else none
set_option maxRecDepth 100000 in
theorem pX12_ends_24 (G : jw_G) : ∀ (x1 : Int) (hx1 : jw_r x1) (M : jw_M), jw_Rn G YX12_ends 4 0 0 true (fun q => q) 24 [(0, jR G 127), (1, jI x1)] [] M (fX12_ends_24 x1 M) := by
  intro x1 hx1 M
  unfold fX12_ends_24
  refine jw_aloadR (pc := 24) 0 dX12_ends_24 rfl ?_
  refine jw_getR (pc := 25) (j := 6) rfl dX12_ends_25 jv_12 ji_12 (Or.inl jt_1237) jg_127 jl_127 (by decide) (by decide) rfl jf_12_6 ?_
  refine jw_iload_n (pc := 28) 1 dX12_ends_28 rfl ?_
  refine jw_dup2 (pc := 29) dX12_ends_29 rfl rfl ?_
  refine jw_iald (pc := 30) dX12_ends_30 jg_132 jl_132 (jw_ho jg_132 (by decide)) hx1 rfl (fun h4 => ?_)
  refine jw_aloadR (pc := 31) 0 dX12_ends_31 rfl ?_
  refine jw_getI (pc := 32) (j := 17) rfl dX12_ends_32 jv_12 ji_12 (Or.inl jt_1248) jg_127 jl_127 (by decide) (by decide) (jw_ho jg_127 (by decide)) (Or.inl rfl) rfl (fun h5 => ?_)
  refine jw_if_ne (pc := 35) 42 dX12_ends_35 (by decide) h5 (fun _ => ?_) (fun _ => ?_)
  · refine jw_iconst (pc := 38) dX12_ends_38 ?_
    refine jw_goto (pc := 39) 43 dX12_ends_39 (by decide) ?_
    exact jw_few [0] rfl (pX12_ends_43 G 1 (M 132 x1) x1 (jw_rc _ rfl) h4 hx1 M)
  · refine jw_iconst (pc := 42) dX12_ends_42 ?_
    exact jw_few [0] rfl (pX12_ends_43 G 0 (M 132 x1) x1 (jw_rc _ rfl) h4 hx1 M)
def fX12_ends_21 (x1 : Int) (xs0 : Int) (M : jw_M) : Option (Int × jw_M) :=
  Option.bind (fX12_must xs0 M) (fun M3 => fX12_ends_24 x1 M3)
set_option maxRecDepth 100000 in
theorem pX12_ends_21 (G : jw_G) : ∀ (x1 : Int) (xs0 : Int) (hx1 : jw_r x1) (hxs0 : jw_r xs0) (M : jw_M), jw_Rn G YX12_ends 4 0 0 true (fun q => q) 21 [(0, jR G 127), (1, jI x1)] [jI xs0, jR G 127] M (fX12_ends_21 x1 xs0 M) := by
  intro x1 xs0 hx1 hxs0 M
  unfold fX12_ends_21
  refine jw_callVM (pc := 21) (As := [jI xs0]) (st := []) dX12_ends_21 rfl (Nat.le_of_ble_eq_true rfl) qX12_must jt_1410 jt_1412 jp_50 rfl rfl (Nat.le_of_ble_eq_true rfl) jv_12 rfl jg_127 jl_127 (by decide) (jw_ho jg_127 (by decide)) (kX12_must G xs0 hxs0 M) (fun M3 => ?_)
  exact jw_few [0, 1] rfl (pX12_ends_24 G x1 hx1 M3)
def fX12_ends (a1 : Int) (M : jw_M) : Option (Int × jw_M) :=
  if M 127 17 = 0 then (if M 127 14 = 4 then (fX12_ends_21 a1 1 M) else (fX12_ends_21 a1 0 M)) else (fX12_ends_24 a1 M)
set_option maxRecDepth 100000 in
theorem rX12_ends (G : jw_G) (a1 : Int) (ha1 : jw_r a1) (M : jw_M) : jw_Rn G YX12_ends 4 0 0 true (fun q => q) 0 [(0, jR G 127), (1, jI a1)] [] M (fX12_ends a1 M) := by
  unfold fX12_ends
  refine jw_aloadR (pc := 0) 0 dX12_ends_0 rfl ?_
  refine jw_getI (pc := 1) (j := 17) rfl dX12_ends_1 jv_12 ji_12 (Or.inl jt_1248) jg_127 jl_127 (by decide) (by decide) (jw_ho jg_127 (by decide)) (Or.inl rfl) rfl (fun h1 => ?_)
  refine jw_if_ne (pc := 4) 24 dX12_ends_4 (by decide) h1 (fun _ => ?_) (fun _ => ?_)
  · refine jw_aloadR (pc := 7) 0 dX12_ends_7 rfl ?_
    refine jw_aloadR (pc := 8) 0 dX12_ends_8 rfl ?_
    refine jw_getI (pc := 9) (j := 14) rfl dX12_ends_9 jv_12 ji_12 (Or.inl jt_1245) jg_127 jl_127 (by decide) (by decide) (jw_ho jg_127 (by decide)) (Or.inl rfl) rfl (fun h2 => ?_)
    refine jw_iconst (pc := 12) dX12_ends_12 ?_
    refine jw_ic_ne (pc := 13) 20 dX12_ends_13 (by decide) h2 (jw_rc _ rfl) (fun _ => ?_) (fun _ => ?_)
    · refine jw_iconst (pc := 16) dX12_ends_16 ?_
      refine jw_goto (pc := 17) 21 dX12_ends_17 (by decide) ?_
      exact jw_few [0, 1] rfl (pX12_ends_21 G a1 1 ha1 (jw_rc _ rfl) M)
    · refine jw_iconst (pc := 20) dX12_ends_20 ?_
      exact jw_few [0, 1] rfl (pX12_ends_21 G a1 0 ha1 (jw_rc _ rfl) M)
  · exact jw_few [0, 1] rfl (pX12_ends_24 G a1 ha1 M)
theorem kX12_ends (G : jw_G) (a1 : Int) (ha1 : jw_r a1) (M : jw_M) : jw_Ct G YX12_ends (some .boolean) 4 0 0 true (fun q => q) yX12_ends [jR G 127, jI a1] M (fX12_ends a1 M) := jw_met (by decide) rfl rfl rfl (Nat.le_of_ble_eq_true rfl) (rX12_ends G a1 ha1 M)
abbrev YX12_readCorner : jw_Y := (RX12, cX12_readCorner, 3, 0, "readCorner")
theorem qX12_readCorner : jw_cy YX12_readCorner none yX12_readCorner 0 := ⟨by decide, jt_1405, jt_14, by decide, by decide +kernel⟩
theorem dX12_readCorner_0 : decode cX12_readCorner 0 = .ok (.aload_n 0, 1) := by decide +kernel
theorem dX12_readCorner_1 : decode cX12_readCorner 1 = .ok (.iconst 0, 1) := by decide +kernel
theorem dX12_readCorner_2 : decode cX12_readCorner 2 = .ok (.bipush 7, 2) := by decide +kernel
theorem dX12_readCorner_4 : decode cX12_readCorner 4 = .ok (.invokevirtual 158, 3) := by decide +kernel
theorem dX12_readCorner_7 : decode cX12_readCorner 7 = .ok (.aload_n 0, 1) := by decide +kernel
theorem dX12_readCorner_8 : decode cX12_readCorner 8 = .ok (.iconst 0, 1) := by decide +kernel
theorem dX12_readCorner_9 : decode cX12_readCorner 9 = .ok (.bipush 99, 2) := by decide +kernel
theorem dX12_readCorner_11 : decode cX12_readCorner 11 = .ok (.invokevirtual 154, 3) := by decide +kernel
theorem dX12_readCorner_14 : decode cX12_readCorner 14 = .ok (.istore_n 1, 1) := by decide +kernel
theorem dX12_readCorner_15 : decode cX12_readCorner 15 = .ok (.bipush 7, 2) := by decide +kernel
theorem dX12_readCorner_17 : decode cX12_readCorner 17 = .ok (.aload_n 0, 1) := by decide +kernel
theorem dX12_readCorner_18 : decode cX12_readCorner 18 = .ok (.getfield 22, 3) := by decide +kernel
theorem dX12_readCorner_21 : decode cX12_readCorner 21 = .ok (.iconst 0, 1) := by decide +kernel
theorem dX12_readCorner_22 : decode cX12_readCorner 22 = .ok (.iaload, 1) := by decide +kernel
theorem dX12_readCorner_23 : decode cX12_readCorner 23 = .ok (.iadd, 1) := by decide +kernel
theorem dX12_readCorner_24 : decode cX12_readCorner 24 = .ok (.istore_n 2, 1) := by decide +kernel
theorem dX12_readCorner_25 : decode cX12_readCorner 25 = .ok (.aload_n 0, 1) := by decide +kernel
theorem dX12_readCorner_26 : decode cX12_readCorner 26 = .ok (.iconst 0, 1) := by decide +kernel
theorem dX12_readCorner_27 : decode cX12_readCorner 27 = .ok (.invokevirtual 162, 3) := by decide +kernel
theorem dX12_readCorner_30 : decode cX12_readCorner 30 = .ok (.ifCond .eq 10, 3) := by decide +kernel
theorem dX12_readCorner_33 : decode cX12_readCorner 33 = .ok (.aload_n 0, 1) := by decide +kernel
theorem dX12_readCorner_34 : decode cX12_readCorner 34 = .ok (.getfield 22, 3) := by decide +kernel
theorem dX12_readCorner_37 : decode cX12_readCorner 37 = .ok (.iload_n 2, 1) := by decide +kernel
theorem dX12_readCorner_38 : decode cX12_readCorner 38 = .ok (.iload_n 1, 1) := by decide +kernel
theorem dX12_readCorner_39 : decode cX12_readCorner 39 = .ok (.iastore, 1) := by decide +kernel
theorem dX12_readCorner_40 : decode cX12_readCorner 40 = .ok (.return_, 1) := by decide +kernel
def fX12_readCorner (M : jw_M) : Option jw_M :=
  Option.bind (fX12_begins 0 7 M) (fun M1 => jw_b2 (fX12_number 0 99 M1) (fun v2 M3 => Option.bind (some v2) (fun v4 => if 0 ≤ (0 : Int) ∧ (0 : Int) < 104 then Option.bind (some (jw_w (7 + (M3 132 0)))) (fun v6 => jw_b2 (fX12_ends 0 M3) (fun v7 M8 => if v7 = 0 then (some M8) else (if 0 ≤ v6 ∧ v6 < 104 then Option.bind (some (jw_up M8 132 v6 v4)) (fun M9 => some M9) else none))) else none)))
set_option maxRecDepth 100000 in
theorem rX12_readCorner (G : jw_G) (M : jw_M) : jw_Rn G YX12_readCorner 6 0 0 true (fun M1 => (0, M1)) 0 [(0, jR G 127)] [] M (fX12_readCorner M) := by
  unfold fX12_readCorner
  refine jw_aloadR (pc := 0) 0 dX12_readCorner_0 rfl ?_
  refine jw_iconst (pc := 1) dX12_readCorner_1 ?_
  refine jw_bipush (pc := 2) dX12_readCorner_2 rfl ?_
  refine jw_callVM (pc := 4) (As := [jI 0, jI 7]) (st := []) dX12_readCorner_4 rfl (Nat.le_of_ble_eq_true rfl) qX12_begins jt_1406 jt_1408 jp_49 rfl rfl (Nat.le_of_ble_eq_true rfl) jv_12 rfl jg_127 jl_127 (by decide) (jw_ho jg_127 (by decide)) (kX12_begins G 0 7 (jw_rc _ rfl) (jw_rc _ rfl) M) (fun M1 => ?_)
  refine jw_aloadR (pc := 7) 0 dX12_readCorner_7 rfl ?_
  refine jw_iconst (pc := 8) dX12_readCorner_8 ?_
  refine jw_bipush (pc := 9) dX12_readCorner_9 rfl ?_
  refine jw_callVMi (pc := 11) (As := [jI 0, jI 99]) (st := []) dX12_readCorner_11 rfl (Nat.le_of_ble_eq_true rfl) qX12_number jt_1414 jt_1416 jp_51 rfl rfl (Nat.le_of_ble_eq_true rfl) jv_12 rfl jg_127 jl_127 (by decide) (jw_ho jg_127 (by decide)) (kX12_number G 0 99 (jw_rc _ rfl) (jw_rc _ rfl) M1) (fun v2 M3 hv2 => ?_)
  refine jw_istore_nL (pc := 14) (lv' := (fun y => [(1, y), (0, jR G 127)])) dX12_readCorner_14 hv2 (by decide) (fun _ => rfl) (fun v4 hv4 => ?_)
  refine jw_bipush (pc := 15) dX12_readCorner_15 rfl ?_
  refine jw_aloadR (pc := 17) 1 dX12_readCorner_17 rfl ?_
  refine jw_getR (pc := 18) (j := 6) rfl dX12_readCorner_18 jv_12 ji_12 (Or.inl jt_1237) jg_127 jl_127 (by decide) (by decide) rfl jf_12_6 ?_
  refine jw_iconst (pc := 21) dX12_readCorner_21 ?_
  refine jw_iald (pc := 22) dX12_readCorner_22 jg_132 jl_132 (jw_ho jg_132 (by decide)) (jw_rc _ rfl) rfl (fun h5 => ?_)
  refine jw_iadd (pc := 23) dX12_readCorner_23 ?_
  refine jw_istore_nL (pc := 24) (lv' := (fun y => [(2, y), (1, jI v4), (0, jR G 127)])) dX12_readCorner_24 (jw_wr _) (by decide) (fun _ => rfl) (fun v6 hv6 => ?_)
  refine jw_aloadR (pc := 25) 2 dX12_readCorner_25 rfl ?_
  refine jw_iconst (pc := 26) dX12_readCorner_26 ?_
  refine jw_callVMz (pc := 27) (As := [jI 0]) (st := []) dX12_readCorner_27 rfl (Nat.le_of_ble_eq_true rfl) qX12_ends jt_1422 jt_1424 jp_53 rfl rfl (Nat.le_of_ble_eq_true rfl) jv_12 rfl jg_127 jl_127 (by decide) (jw_ho jg_127 (by decide)) (kX12_ends G 0 (jw_rc _ rfl) M3) (fun v7 M8 hv7 => ?_)
  refine jw_if_eq (pc := 30) 40 dX12_readCorner_30 (by decide) (jw_bz hv7) (fun _ => ?_) (fun _ => ?_)
  · exact jw_ret (pc := 40) (v := 0) dX12_readCorner_40 trivial rfl rfl
  · refine jw_aloadR (pc := 33) 2 dX12_readCorner_33 rfl ?_
    refine jw_getR (pc := 34) (j := 6) rfl dX12_readCorner_34 jv_12 ji_12 (Or.inl jt_1237) jg_127 jl_127 (by decide) (by decide) rfl jf_12_6 ?_
    refine jw_iload_n (pc := 37) 0 dX12_readCorner_37 rfl ?_
    refine jw_iload_n (pc := 38) 1 dX12_readCorner_38 rfl ?_
    refine jw_iast (pc := 39) dX12_readCorner_39 jg_132 jl_132 (jw_ho jg_132 (by decide)) hv6 hv4 rfl ?_
    refine jw_letM (fun M9 => ?_)
    exact jw_ret (pc := 40) (v := 0) dX12_readCorner_40 trivial rfl rfl
theorem kX12_readCorner (G : jw_G) (M : jw_M) : jw_Ct G YX12_readCorner none 6 0 0 true (fun M1 => (0, M1)) yX12_readCorner [jR G 127] M (fX12_readCorner M) := jw_met (by decide) rfl rfl rfl (Nat.le_of_ble_eq_true rfl) (rX12_readCorner G M)
abbrev YX12_readStreet : jw_Y := (RX12, cX12_readStreet, 6, 0, "readStreet")
theorem qX12_readStreet : jw_cy YX12_readStreet none yX12_readStreet 0 := ⟨by decide, jt_1430, jt_14, by decide, by decide +kernel⟩
theorem dX12_readStreet_0 : decode cX12_readStreet 0 = .ok (.aload_n 0, 1) := by decide +kernel
theorem dX12_readStreet_1 : decode cX12_readStreet 1 = .ok (.iconst 1, 1) := by decide +kernel
theorem dX12_readStreet_2 : decode cX12_readStreet 2 = .ok (.bipush 16, 2) := by decide +kernel
theorem dX12_readStreet_4 : decode cX12_readStreet 4 = .ok (.invokevirtual 158, 3) := by decide +kernel
theorem dX12_readStreet_7 : decode cX12_readStreet 7 = .ok (.aload_n 0, 1) := by decide +kernel
theorem dX12_readStreet_8 : decode cX12_readStreet 8 = .ok (.invokevirtual 165, 3) := by decide +kernel
theorem dX12_readStreet_11 : decode cX12_readStreet 11 = .ok (.istore_n 1, 1) := by decide +kernel
theorem dX12_readStreet_12 : decode cX12_readStreet 12 = .ok (.aload_n 0, 1) := by decide +kernel
theorem dX12_readStreet_13 : decode cX12_readStreet 13 = .ok (.iconst 0, 1) := by decide +kernel
theorem dX12_readStreet_14 : decode cX12_readStreet 14 = .ok (.aload_n 0, 1) := by decide +kernel
theorem dX12_readStreet_15 : decode cX12_readStreet 15 = .ok (.getfield 22, 3) := by decide +kernel
theorem dX12_readStreet_18 : decode cX12_readStreet 18 = .ok (.iconst 0, 1) := by decide +kernel
theorem dX12_readStreet_19 : decode cX12_readStreet 19 = .ok (.iaload, 1) := by decide +kernel
theorem dX12_readStreet_20 : decode cX12_readStreet 20 = .ok (.iconst 1, 1) := by decide +kernel
theorem dX12_readStreet_21 : decode cX12_readStreet 21 = .ok (.isub, 1) := by decide +kernel
theorem dX12_readStreet_22 : decode cX12_readStreet 22 = .ok (.iload_n 1, 1) := by decide +kernel
theorem dX12_readStreet_23 : decode cX12_readStreet 23 = .ok (.invokevirtual 150, 3) := by decide +kernel
theorem dX12_readStreet_26 : decode cX12_readStreet 26 = .ok (.istore_n 2, 1) := by decide +kernel
theorem dX12_readStreet_27 : decode cX12_readStreet 27 = .ok (.aload_n 0, 1) := by decide +kernel
theorem dX12_readStreet_28 : decode cX12_readStreet 28 = .ok (.iconst 1, 1) := by decide +kernel
theorem dX12_readStreet_29 : decode cX12_readStreet 29 = .ok (.bipush 20, 2) := by decide +kernel
theorem dX12_readStreet_31 : decode cX12_readStreet 31 = .ok (.invokevirtual 154, 3) := by decide +kernel
theorem dX12_readStreet_34 : decode cX12_readStreet 34 = .ok (.istore_n 3, 1) := by decide +kernel
theorem dX12_readStreet_35 : decode cX12_readStreet 35 = .ok (.aload_n 0, 1) := by decide +kernel
theorem dX12_readStreet_36 : decode cX12_readStreet 36 = .ok (.iconst 1, 1) := by decide +kernel
theorem dX12_readStreet_37 : decode cX12_readStreet 37 = .ok (.invokevirtual 162, 3) := by decide +kernel
theorem dX12_readStreet_40 : decode cX12_readStreet 40 = .ok (.ifCond .eq 70, 3) := by decide +kernel
theorem dX12_readStreet_43 : decode cX12_readStreet 43 = .ok (.aload_n 0, 1) := by decide +kernel
theorem dX12_readStreet_44 : decode cX12_readStreet 44 = .ok (.getfield 22, 3) := by decide +kernel
theorem dX12_readStreet_47 : decode cX12_readStreet 47 = .ok (.bipush 14, 2) := by decide +kernel
theorem dX12_readStreet_49 : decode cX12_readStreet 49 = .ok (.bipush 7, 2) := by decide +kernel
theorem dX12_readStreet_51 : decode cX12_readStreet 51 = .ok (.iload_n 1, 1) := by decide +kernel
theorem dX12_readStreet_52 : decode cX12_readStreet 52 = .ok (.imul, 1) := by decide +kernel
theorem dX12_readStreet_53 : decode cX12_readStreet 53 = .ok (.iadd, 1) := by decide +kernel
theorem dX12_readStreet_54 : decode cX12_readStreet 54 = .ok (.iload_n 2, 1) := by decide +kernel
theorem dX12_readStreet_55 : decode cX12_readStreet 55 = .ok (.iadd, 1) := by decide +kernel
theorem dX12_readStreet_56 : decode cX12_readStreet 56 = .ok (.iaload, 1) := by decide +kernel
theorem dX12_readStreet_57 : decode cX12_readStreet 57 = .ok (.istore 4, 2) := by decide +kernel
theorem dX12_readStreet_59 : decode cX12_readStreet 59 = .ok (.iload 4, 2) := by decide +kernel
theorem dX12_readStreet_61 : decode cX12_readStreet 61 = .ok (.ifCond .eq 9, 3) := by decide +kernel
theorem dX12_readStreet_64 : decode cX12_readStreet 64 = .ok (.iload_n 3, 1) := by decide +kernel
theorem dX12_readStreet_65 : decode cX12_readStreet 65 = .ok (.iload 4, 2) := by decide +kernel
theorem dX12_readStreet_67 : decode cX12_readStreet 67 = .ok (.if_icmp .ge 7, 3) := by decide +kernel
theorem dX12_readStreet_70 : decode cX12_readStreet 70 = .ok (.iload_n 3, 1) := by decide +kernel
theorem dX12_readStreet_71 : decode cX12_readStreet 71 = .ok (.goto 5, 3) := by decide +kernel
theorem dX12_readStreet_74 : decode cX12_readStreet 74 = .ok (.iload 4, 2) := by decide +kernel
theorem dX12_readStreet_76 : decode cX12_readStreet 76 = .ok (.istore 5, 2) := by decide +kernel
theorem dX12_readStreet_78 : decode cX12_readStreet 78 = .ok (.aload_n 0, 1) := by decide +kernel
theorem dX12_readStreet_79 : decode cX12_readStreet 79 = .ok (.getfield 22, 3) := by decide +kernel
theorem dX12_readStreet_82 : decode cX12_readStreet 82 = .ok (.bipush 14, 2) := by decide +kernel
theorem dX12_readStreet_84 : decode cX12_readStreet 84 = .ok (.bipush 7, 2) := by decide +kernel
theorem dX12_readStreet_86 : decode cX12_readStreet 86 = .ok (.iload_n 1, 1) := by decide +kernel
theorem dX12_readStreet_87 : decode cX12_readStreet 87 = .ok (.imul, 1) := by decide +kernel
theorem dX12_readStreet_88 : decode cX12_readStreet 88 = .ok (.iadd, 1) := by decide +kernel
theorem dX12_readStreet_89 : decode cX12_readStreet 89 = .ok (.iload_n 2, 1) := by decide +kernel
theorem dX12_readStreet_90 : decode cX12_readStreet 90 = .ok (.iadd, 1) := by decide +kernel
theorem dX12_readStreet_91 : decode cX12_readStreet 91 = .ok (.iload 5, 2) := by decide +kernel
theorem dX12_readStreet_93 : decode cX12_readStreet 93 = .ok (.iastore, 1) := by decide +kernel
theorem dX12_readStreet_94 : decode cX12_readStreet 94 = .ok (.aload_n 0, 1) := by decide +kernel
theorem dX12_readStreet_95 : decode cX12_readStreet 95 = .ok (.getfield 22, 3) := by decide +kernel
theorem dX12_readStreet_98 : decode cX12_readStreet 98 = .ok (.bipush 14, 2) := by decide +kernel
theorem dX12_readStreet_100 : decode cX12_readStreet 100 = .ok (.bipush 7, 2) := by decide +kernel
theorem dX12_readStreet_102 : decode cX12_readStreet 102 = .ok (.iload_n 2, 1) := by decide +kernel
theorem dX12_readStreet_103 : decode cX12_readStreet 103 = .ok (.imul, 1) := by decide +kernel
theorem dX12_readStreet_104 : decode cX12_readStreet 104 = .ok (.iadd, 1) := by decide +kernel
theorem dX12_readStreet_105 : decode cX12_readStreet 105 = .ok (.iload_n 1, 1) := by decide +kernel
theorem dX12_readStreet_106 : decode cX12_readStreet 106 = .ok (.iadd, 1) := by decide +kernel
theorem dX12_readStreet_107 : decode cX12_readStreet 107 = .ok (.iload 5, 2) := by decide +kernel
theorem dX12_readStreet_109 : decode cX12_readStreet 109 = .ok (.iastore, 1) := by decide +kernel
theorem dX12_readStreet_110 : decode cX12_readStreet 110 = .ok (.return_, 1) := by decide +kernel
def fX12_readStreet_76 (x1 : Int) (x2 : Int) (xs0 : Int) (M : jw_M) : Option jw_M :=
  Option.bind (some xs0) (fun v16 => if 0 ≤ jw_w ((jw_w (14 + (jw_w (7 * x1)))) + x2) ∧ jw_w ((jw_w (14 + (jw_w (7 * x1)))) + x2) < 104 then Option.bind (some (jw_up M 132 (jw_w ((jw_w (14 + (jw_w (7 * x1)))) + x2)) v16)) (fun M17 => if 0 ≤ jw_w ((jw_w (14 + (jw_w (7 * x2)))) + x1) ∧ jw_w ((jw_w (14 + (jw_w (7 * x2)))) + x1) < 104 then Option.bind (some (jw_up M17 132 (jw_w ((jw_w (14 + (jw_w (7 * x2)))) + x1)) v16)) (fun M18 => some M18) else none) else none)
set_option maxRecDepth 100000 in
theorem pX12_readStreet_76 (G : jw_G) : ∀ (x1 : Int) (x2 : Int) (xs0 : Int) (hx1 : jw_r x1) (hx2 : jw_r x2) (hxs0 : jw_r xs0) (M : jw_M), jw_Rn G YX12_readStreet 7 0 0 true (fun M1 => (0, M1)) 76 [(0, jR G 127), (1, jI x1), (2, jI x2)] [jI xs0] M (fX12_readStreet_76 x1 x2 xs0 M) := by
  intro x1 x2 xs0 hx1 hx2 hxs0 M
  unfold fX12_readStreet_76
  refine jw_istoreL (pc := 76) (lv' := (fun y => [(5, y), (0, jR G 127), (1, jI x1), (2, jI x2)])) dX12_readStreet_76 hxs0 (by decide) (fun _ => rfl) (fun v16 hv16 => ?_)
  refine jw_aloadR (pc := 78) 1 dX12_readStreet_78 rfl ?_
  refine jw_getR (pc := 79) (j := 6) rfl dX12_readStreet_79 jv_12 ji_12 (Or.inl jt_1237) jg_127 jl_127 (by decide) (by decide) rfl jf_12_6 ?_
  refine jw_bipush (pc := 82) dX12_readStreet_82 rfl ?_
  refine jw_bipush (pc := 84) dX12_readStreet_84 rfl ?_
  refine jw_iload_n (pc := 86) 2 dX12_readStreet_86 rfl ?_
  refine jw_imul (pc := 87) dX12_readStreet_87 ?_
  refine jw_iadd (pc := 88) dX12_readStreet_88 ?_
  refine jw_iload_n (pc := 89) 3 dX12_readStreet_89 rfl ?_
  refine jw_iadd (pc := 90) dX12_readStreet_90 ?_
  refine jw_iload (pc := 91) 0 dX12_readStreet_91 rfl ?_
  refine jw_iast (pc := 93) dX12_readStreet_93 jg_132 jl_132 (jw_ho jg_132 (by decide)) (jw_wr _) hv16 rfl ?_
  refine jw_letM (fun M17 => ?_)
  refine jw_aloadR (pc := 94) 1 dX12_readStreet_94 rfl ?_
  refine jw_getR (pc := 95) (j := 6) rfl dX12_readStreet_95 jv_12 ji_12 (Or.inl jt_1237) jg_127 jl_127 (by decide) (by decide) rfl jf_12_6 ?_
  refine jw_bipush (pc := 98) dX12_readStreet_98 rfl ?_
  refine jw_bipush (pc := 100) dX12_readStreet_100 rfl ?_
  refine jw_iload_n (pc := 102) 3 dX12_readStreet_102 rfl ?_
  refine jw_imul (pc := 103) dX12_readStreet_103 ?_
  refine jw_iadd (pc := 104) dX12_readStreet_104 ?_
  refine jw_iload_n (pc := 105) 2 dX12_readStreet_105 rfl ?_
  refine jw_iadd (pc := 106) dX12_readStreet_106 ?_
  refine jw_iload (pc := 107) 0 dX12_readStreet_107 rfl ?_
  refine jw_iast (pc := 109) dX12_readStreet_109 jg_132 jl_132 (jw_ho jg_132 (by decide)) (jw_wr _) hv16 rfl ?_
  refine jw_letM (fun M18 => ?_)
  exact jw_ret (pc := 110) (v := 0) dX12_readStreet_110 trivial rfl rfl
def fX12_readStreet_70 (x1 : Int) (x2 : Int) (x3 : Int) (M : jw_M) : Option jw_M :=
  fX12_readStreet_76 x1 x2 x3 M
set_option maxRecDepth 100000 in
theorem pX12_readStreet_70 (G : jw_G) : ∀ (x1 : Int) (x2 : Int) (x3 : Int) (hx1 : jw_r x1) (hx2 : jw_r x2) (hx3 : jw_r x3) (M : jw_M), jw_Rn G YX12_readStreet 7 0 0 true (fun M1 => (0, M1)) 70 [(0, jR G 127), (1, jI x1), (2, jI x2), (3, jI x3)] [] M (fX12_readStreet_70 x1 x2 x3 M) := by
  intro x1 x2 x3 hx1 hx2 hx3 M
  unfold fX12_readStreet_70
  refine jw_iload_n (pc := 70) 3 dX12_readStreet_70 rfl ?_
  refine jw_goto (pc := 71) 76 dX12_readStreet_71 (by decide) ?_
  exact jw_few [0, 1, 2] rfl (pX12_readStreet_76 G x1 x2 x3 hx1 hx2 hx3 M)
def fX12_readStreet (M : jw_M) : Option jw_M :=
  Option.bind (fX12_begins 1 16 M) (fun M1 => jw_b2 (fX12_corner  M1) (fun v2 M3 => Option.bind (some v2) (fun v4 => if 0 ≤ (0 : Int) ∧ (0 : Int) < 104 then jw_b2 (fX12_numberBut 0 (jw_w ((M3 132 0) - 1)) v4 M3) (fun v6 M7 => Option.bind (some v6) (fun v8 => jw_b2 (fX12_number 1 20 M7) (fun v9 M10 => Option.bind (some v9) (fun v11 => jw_b2 (fX12_ends 1 M10) (fun v12 M13 => if v12 = 0 then (some M13) else (if 0 ≤ jw_w ((jw_w (14 + (jw_w (7 * v4)))) + v8) ∧ jw_w ((jw_w (14 + (jw_w (7 * v4)))) + v8) < 104 then Option.bind (some (M13 132 (jw_w ((jw_w (14 + (jw_w (7 * v4)))) + v8)))) (fun v15 => if v15 = 0 then (fX12_readStreet_70 v4 v8 v11 M13) else (if v11 < v15 then (fX12_readStreet_70 v4 v8 v11 M13) else (fX12_readStreet_76 v4 v8 v15 M13))) else none)))))) else none)))
set_option maxRecDepth 100000 in
theorem rX12_readStreet (G : jw_G) (M : jw_M) : jw_Rn G YX12_readStreet 7 0 0 true (fun M1 => (0, M1)) 0 [(0, jR G 127)] [] M (fX12_readStreet M) := by
  unfold fX12_readStreet
  refine jw_aloadR (pc := 0) 0 dX12_readStreet_0 rfl ?_
  refine jw_iconst (pc := 1) dX12_readStreet_1 ?_
  refine jw_bipush (pc := 2) dX12_readStreet_2 rfl ?_
  refine jw_callVM (pc := 4) (As := [jI 1, jI 16]) (st := []) dX12_readStreet_4 rfl (Nat.le_of_ble_eq_true rfl) qX12_begins jt_1406 jt_1408 jp_49 rfl rfl (Nat.le_of_ble_eq_true rfl) jv_12 rfl jg_127 jl_127 (by decide) (jw_ho jg_127 (by decide)) (kX12_begins G 1 16 (jw_rc _ rfl) (jw_rc _ rfl) M) (fun M1 => ?_)
  refine jw_aloadR (pc := 7) 0 dX12_readStreet_7 rfl ?_
  refine jw_callVMi (pc := 8) (As := []) (st := []) dX12_readStreet_8 rfl (Nat.le_of_ble_eq_true rfl) qX12_corner jt_1431 jt_1433 jp_55 rfl rfl (Nat.le_of_ble_eq_true rfl) jv_12 rfl jg_127 jl_127 (by decide) (jw_ho jg_127 (by decide)) (kX12_corner G  M1) (fun v2 M3 hv2 => ?_)
  refine jw_istore_nL (pc := 11) (lv' := (fun y => [(1, y), (0, jR G 127)])) dX12_readStreet_11 hv2 (by decide) (fun _ => rfl) (fun v4 hv4 => ?_)
  refine jw_aloadR (pc := 12) 1 dX12_readStreet_12 rfl ?_
  refine jw_iconst (pc := 13) dX12_readStreet_13 ?_
  refine jw_aloadR (pc := 14) 1 dX12_readStreet_14 rfl ?_
  refine jw_getR (pc := 15) (j := 6) rfl dX12_readStreet_15 jv_12 ji_12 (Or.inl jt_1237) jg_127 jl_127 (by decide) (by decide) rfl jf_12_6 ?_
  refine jw_iconst (pc := 18) dX12_readStreet_18 ?_
  refine jw_iald (pc := 19) dX12_readStreet_19 jg_132 jl_132 (jw_ho jg_132 (by decide)) (jw_rc _ rfl) rfl (fun h5 => ?_)
  refine jw_iconst (pc := 20) dX12_readStreet_20 ?_
  refine jw_isub (pc := 21) dX12_readStreet_21 ?_
  refine jw_iload_n (pc := 22) 0 dX12_readStreet_22 rfl ?_
  refine jw_callVMi (pc := 23) (As := [jI 0, jI (jw_w ((M3 132 0) - 1)), jI v4]) (st := []) dX12_readStreet_23 rfl (Nat.le_of_ble_eq_true rfl) qX12_numberBut jt_1418 jt_1420 jp_52 rfl rfl (Nat.le_of_ble_eq_true rfl) jv_12 rfl jg_127 jl_127 (by decide) (jw_ho jg_127 (by decide)) (kX12_numberBut G 0 (jw_w ((M3 132 0) - 1)) v4 (jw_rc _ rfl) (jw_wr _) hv4 M3) (fun v6 M7 hv6 => ?_)
  refine jw_istore_nL (pc := 26) (lv' := (fun y => [(2, y), (1, jI v4), (0, jR G 127)])) dX12_readStreet_26 hv6 (by decide) (fun _ => rfl) (fun v8 hv8 => ?_)
  refine jw_aloadR (pc := 27) 2 dX12_readStreet_27 rfl ?_
  refine jw_iconst (pc := 28) dX12_readStreet_28 ?_
  refine jw_bipush (pc := 29) dX12_readStreet_29 rfl ?_
  refine jw_callVMi (pc := 31) (As := [jI 1, jI 20]) (st := []) dX12_readStreet_31 rfl (Nat.le_of_ble_eq_true rfl) qX12_number jt_1414 jt_1416 jp_51 rfl rfl (Nat.le_of_ble_eq_true rfl) jv_12 rfl jg_127 jl_127 (by decide) (jw_ho jg_127 (by decide)) (kX12_number G 1 20 (jw_rc _ rfl) (jw_rc _ rfl) M7) (fun v9 M10 hv9 => ?_)
  refine jw_istore_nL (pc := 34) (lv' := (fun y => [(3, y), (2, jI v8), (1, jI v4), (0, jR G 127)])) dX12_readStreet_34 hv9 (by decide) (fun _ => rfl) (fun v11 hv11 => ?_)
  refine jw_aloadR (pc := 35) 3 dX12_readStreet_35 rfl ?_
  refine jw_iconst (pc := 36) dX12_readStreet_36 ?_
  refine jw_callVMz (pc := 37) (As := [jI 1]) (st := []) dX12_readStreet_37 rfl (Nat.le_of_ble_eq_true rfl) qX12_ends jt_1422 jt_1424 jp_53 rfl rfl (Nat.le_of_ble_eq_true rfl) jv_12 rfl jg_127 jl_127 (by decide) (jw_ho jg_127 (by decide)) (kX12_ends G 1 (jw_rc _ rfl) M10) (fun v12 M13 hv12 => ?_)
  refine jw_if_eq (pc := 40) 110 dX12_readStreet_40 (by decide) (jw_bz hv12) (fun _ => ?_) (fun _ => ?_)
  · exact jw_ret (pc := 110) (v := 0) dX12_readStreet_110 trivial rfl rfl
  · refine jw_aloadR (pc := 43) 3 dX12_readStreet_43 rfl ?_
    refine jw_getR (pc := 44) (j := 6) rfl dX12_readStreet_44 jv_12 ji_12 (Or.inl jt_1237) jg_127 jl_127 (by decide) (by decide) rfl jf_12_6 ?_
    refine jw_bipush (pc := 47) dX12_readStreet_47 rfl ?_
    refine jw_bipush (pc := 49) dX12_readStreet_49 rfl ?_
    refine jw_iload_n (pc := 51) 2 dX12_readStreet_51 rfl ?_
    refine jw_imul (pc := 52) dX12_readStreet_52 ?_
    refine jw_iadd (pc := 53) dX12_readStreet_53 ?_
    refine jw_iload_n (pc := 54) 1 dX12_readStreet_54 rfl ?_
    refine jw_iadd (pc := 55) dX12_readStreet_55 ?_
    refine jw_iald (pc := 56) dX12_readStreet_56 jg_132 jl_132 (jw_ho jg_132 (by decide)) (jw_wr _) rfl (fun h14 => ?_)
    refine jw_istoreL (pc := 57) (lv' := (fun y => [(4, y), (3, jI v11), (2, jI v8), (1, jI v4), (0, jR G 127)])) dX12_readStreet_57 h14 (by decide) (fun _ => rfl) (fun v15 hv15 => ?_)
    refine jw_iload (pc := 59) 0 dX12_readStreet_59 rfl ?_
    refine jw_if_eq (pc := 61) 70 dX12_readStreet_61 (by decide) hv15 (fun _ => ?_) (fun _ => ?_)
    · exact jw_few [4, 3, 2, 1] rfl (pX12_readStreet_70 G v4 v8 v11 hv4 hv8 hv11 M13)
    · refine jw_iload_n (pc := 64) 1 dX12_readStreet_64 rfl ?_
      refine jw_iload (pc := 65) 0 dX12_readStreet_65 rfl ?_
      refine jw_ic_ge (pc := 67) 74 dX12_readStreet_67 (by decide) hv11 hv15 (fun _ => ?_) (fun _ => ?_)
      · exact jw_few [4, 3, 2, 1] rfl (pX12_readStreet_70 G v4 v8 v11 hv4 hv8 hv11 M13)
      · refine jw_iload (pc := 74) 0 dX12_readStreet_74 rfl ?_
        exact jw_few [4, 3, 2] rfl (pX12_readStreet_76 G v4 v8 v15 hv4 hv8 hv15 M13)
theorem kX12_readStreet (G : jw_G) (M : jw_M) : jw_Ct G YX12_readStreet none 7 0 0 true (fun M1 => (0, M1)) yX12_readStreet [jR G 127] M (fX12_readStreet M) := jw_met (by decide) rfl rfl rfl (Nat.le_of_ble_eq_true rfl) (rX12_readStreet G M)
abbrev YX12_readGoods : jw_Y := (RX12, cX12_readGoods, 5, 0, "readGoods")
theorem qX12_readGoods : jw_cy YX12_readGoods none yX12_readGoods 0 := ⟨by decide, jt_1439, jt_14, by decide, by decide +kernel⟩
theorem dX12_readGoods_0 : decode cX12_readGoods 0 = .ok (.aload_n 0, 1) := by decide +kernel
theorem dX12_readGoods_1 : decode cX12_readGoods 1 = .ok (.iconst 2, 1) := by decide +kernel
theorem dX12_readGoods_2 : decode cX12_readGoods 2 = .ok (.iconst 4, 1) := by decide +kernel
theorem dX12_readGoods_3 : decode cX12_readGoods 3 = .ok (.invokevirtual 158, 3) := by decide +kernel
theorem dX12_readGoods_6 : decode cX12_readGoods 6 = .ok (.bipush 63, 2) := by decide +kernel
theorem dX12_readGoods_8 : decode cX12_readGoods 8 = .ok (.iconst 3, 1) := by decide +kernel
theorem dX12_readGoods_9 : decode cX12_readGoods 9 = .ok (.aload_n 0, 1) := by decide +kernel
theorem dX12_readGoods_10 : decode cX12_readGoods 10 = .ok (.getfield 22, 3) := by decide +kernel
theorem dX12_readGoods_13 : decode cX12_readGoods 13 = .ok (.iconst 2, 1) := by decide +kernel
theorem dX12_readGoods_14 : decode cX12_readGoods 14 = .ok (.iaload, 1) := by decide +kernel
theorem dX12_readGoods_15 : decode cX12_readGoods 15 = .ok (.imul, 1) := by decide +kernel
theorem dX12_readGoods_16 : decode cX12_readGoods 16 = .ok (.iadd, 1) := by decide +kernel
theorem dX12_readGoods_17 : decode cX12_readGoods 17 = .ok (.istore_n 1, 1) := by decide +kernel
theorem dX12_readGoods_18 : decode cX12_readGoods 18 = .ok (.aload_n 0, 1) := by decide +kernel
theorem dX12_readGoods_19 : decode cX12_readGoods 19 = .ok (.iconst 1, 1) := by decide +kernel
theorem dX12_readGoods_20 : decode cX12_readGoods 20 = .ok (.bipush 9, 2) := by decide +kernel
theorem dX12_readGoods_22 : decode cX12_readGoods 22 = .ok (.invokevirtual 154, 3) := by decide +kernel
theorem dX12_readGoods_25 : decode cX12_readGoods 25 = .ok (.istore_n 2, 1) := by decide +kernel
theorem dX12_readGoods_26 : decode cX12_readGoods 26 = .ok (.aload_n 0, 1) := by decide +kernel
theorem dX12_readGoods_27 : decode cX12_readGoods 27 = .ok (.iconst 1, 1) := by decide +kernel
theorem dX12_readGoods_28 : decode cX12_readGoods 28 = .ok (.bipush 99, 2) := by decide +kernel
theorem dX12_readGoods_30 : decode cX12_readGoods 30 = .ok (.invokevirtual 154, 3) := by decide +kernel
theorem dX12_readGoods_33 : decode cX12_readGoods 33 = .ok (.istore_n 3, 1) := by decide +kernel
theorem dX12_readGoods_34 : decode cX12_readGoods 34 = .ok (.aload_n 0, 1) := by decide +kernel
theorem dX12_readGoods_35 : decode cX12_readGoods 35 = .ok (.iconst 0, 1) := by decide +kernel
theorem dX12_readGoods_36 : decode cX12_readGoods 36 = .ok (.bipush 99, 2) := by decide +kernel
theorem dX12_readGoods_38 : decode cX12_readGoods 38 = .ok (.invokevirtual 154, 3) := by decide +kernel
theorem dX12_readGoods_41 : decode cX12_readGoods 41 = .ok (.istore 4, 2) := by decide +kernel
theorem dX12_readGoods_43 : decode cX12_readGoods 43 = .ok (.aload_n 0, 1) := by decide +kernel
theorem dX12_readGoods_44 : decode cX12_readGoods 44 = .ok (.iconst 2, 1) := by decide +kernel
theorem dX12_readGoods_45 : decode cX12_readGoods 45 = .ok (.invokevirtual 162, 3) := by decide +kernel
theorem dX12_readGoods_48 : decode cX12_readGoods 48 = .ok (.ifCond .eq 31, 3) := by decide +kernel
theorem dX12_readGoods_51 : decode cX12_readGoods 51 = .ok (.aload_n 0, 1) := by decide +kernel
theorem dX12_readGoods_52 : decode cX12_readGoods 52 = .ok (.getfield 22, 3) := by decide +kernel
theorem dX12_readGoods_55 : decode cX12_readGoods 55 = .ok (.iload_n 1, 1) := by decide +kernel
theorem dX12_readGoods_56 : decode cX12_readGoods 56 = .ok (.iconst 0, 1) := by decide +kernel
theorem dX12_readGoods_57 : decode cX12_readGoods 57 = .ok (.iadd, 1) := by decide +kernel
theorem dX12_readGoods_58 : decode cX12_readGoods 58 = .ok (.iload_n 2, 1) := by decide +kernel
theorem dX12_readGoods_59 : decode cX12_readGoods 59 = .ok (.iastore, 1) := by decide +kernel
theorem dX12_readGoods_60 : decode cX12_readGoods 60 = .ok (.aload_n 0, 1) := by decide +kernel
theorem dX12_readGoods_61 : decode cX12_readGoods 61 = .ok (.getfield 22, 3) := by decide +kernel
theorem dX12_readGoods_64 : decode cX12_readGoods 64 = .ok (.iload_n 1, 1) := by decide +kernel
theorem dX12_readGoods_65 : decode cX12_readGoods 65 = .ok (.iconst 1, 1) := by decide +kernel
theorem dX12_readGoods_66 : decode cX12_readGoods 66 = .ok (.iadd, 1) := by decide +kernel
theorem dX12_readGoods_67 : decode cX12_readGoods 67 = .ok (.iload_n 3, 1) := by decide +kernel
theorem dX12_readGoods_68 : decode cX12_readGoods 68 = .ok (.iastore, 1) := by decide +kernel
theorem dX12_readGoods_69 : decode cX12_readGoods 69 = .ok (.aload_n 0, 1) := by decide +kernel
theorem dX12_readGoods_70 : decode cX12_readGoods 70 = .ok (.getfield 22, 3) := by decide +kernel
theorem dX12_readGoods_73 : decode cX12_readGoods 73 = .ok (.iload_n 1, 1) := by decide +kernel
theorem dX12_readGoods_74 : decode cX12_readGoods 74 = .ok (.iconst 2, 1) := by decide +kernel
theorem dX12_readGoods_75 : decode cX12_readGoods 75 = .ok (.iadd, 1) := by decide +kernel
theorem dX12_readGoods_76 : decode cX12_readGoods 76 = .ok (.iload 4, 2) := by decide +kernel
theorem dX12_readGoods_78 : decode cX12_readGoods 78 = .ok (.iastore, 1) := by decide +kernel
theorem dX12_readGoods_79 : decode cX12_readGoods 79 = .ok (.return_, 1) := by decide +kernel
def fX12_readGoods (M : jw_M) : Option jw_M :=
  Option.bind (fX12_begins 2 4 M) (fun M1 => if 0 ≤ (2 : Int) ∧ (2 : Int) < 104 then Option.bind (some (jw_w (63 + (jw_w (3 * (M1 132 2)))))) (fun v3 => jw_b2 (fX12_number 1 9 M1) (fun v4 M5 => Option.bind (some v4) (fun v6 => jw_b2 (fX12_number 1 99 M5) (fun v7 M8 => Option.bind (some v7) (fun v9 => jw_b2 (fX12_number 0 99 M8) (fun v10 M11 => Option.bind (some v10) (fun v12 => jw_b2 (fX12_ends 2 M11) (fun v13 M14 => if v13 = 0 then (some M14) else (if 0 ≤ jw_w (v3 + 0) ∧ jw_w (v3 + 0) < 104 then Option.bind (some (jw_up M14 132 (jw_w (v3 + 0)) v6)) (fun M15 => if 0 ≤ jw_w (v3 + 1) ∧ jw_w (v3 + 1) < 104 then Option.bind (some (jw_up M15 132 (jw_w (v3 + 1)) v9)) (fun M16 => if 0 ≤ jw_w (v3 + 2) ∧ jw_w (v3 + 2) < 104 then Option.bind (some (jw_up M16 132 (jw_w (v3 + 2)) v12)) (fun M17 => some M17) else none) else none) else none))))))))) else none)
set_option maxRecDepth 100000 in
theorem rX12_readGoods (G : jw_G) (M : jw_M) : jw_Rn G YX12_readGoods 6 0 0 true (fun M1 => (0, M1)) 0 [(0, jR G 127)] [] M (fX12_readGoods M) := by
  unfold fX12_readGoods
  refine jw_aloadR (pc := 0) 0 dX12_readGoods_0 rfl ?_
  refine jw_iconst (pc := 1) dX12_readGoods_1 ?_
  refine jw_iconst (pc := 2) dX12_readGoods_2 ?_
  refine jw_callVM (pc := 3) (As := [jI 2, jI 4]) (st := []) dX12_readGoods_3 rfl (Nat.le_of_ble_eq_true rfl) qX12_begins jt_1406 jt_1408 jp_49 rfl rfl (Nat.le_of_ble_eq_true rfl) jv_12 rfl jg_127 jl_127 (by decide) (jw_ho jg_127 (by decide)) (kX12_begins G 2 4 (jw_rc _ rfl) (jw_rc _ rfl) M) (fun M1 => ?_)
  refine jw_bipush (pc := 6) dX12_readGoods_6 rfl ?_
  refine jw_iconst (pc := 8) dX12_readGoods_8 ?_
  refine jw_aloadR (pc := 9) 0 dX12_readGoods_9 rfl ?_
  refine jw_getR (pc := 10) (j := 6) rfl dX12_readGoods_10 jv_12 ji_12 (Or.inl jt_1237) jg_127 jl_127 (by decide) (by decide) rfl jf_12_6 ?_
  refine jw_iconst (pc := 13) dX12_readGoods_13 ?_
  refine jw_iald (pc := 14) dX12_readGoods_14 jg_132 jl_132 (jw_ho jg_132 (by decide)) (jw_rc _ rfl) rfl (fun h2 => ?_)
  refine jw_imul (pc := 15) dX12_readGoods_15 ?_
  refine jw_iadd (pc := 16) dX12_readGoods_16 ?_
  refine jw_istore_nL (pc := 17) (lv' := (fun y => [(1, y), (0, jR G 127)])) dX12_readGoods_17 (jw_wr _) (by decide) (fun _ => rfl) (fun v3 hv3 => ?_)
  refine jw_aloadR (pc := 18) 1 dX12_readGoods_18 rfl ?_
  refine jw_iconst (pc := 19) dX12_readGoods_19 ?_
  refine jw_bipush (pc := 20) dX12_readGoods_20 rfl ?_
  refine jw_callVMi (pc := 22) (As := [jI 1, jI 9]) (st := []) dX12_readGoods_22 rfl (Nat.le_of_ble_eq_true rfl) qX12_number jt_1414 jt_1416 jp_51 rfl rfl (Nat.le_of_ble_eq_true rfl) jv_12 rfl jg_127 jl_127 (by decide) (jw_ho jg_127 (by decide)) (kX12_number G 1 9 (jw_rc _ rfl) (jw_rc _ rfl) M1) (fun v4 M5 hv4 => ?_)
  refine jw_istore_nL (pc := 25) (lv' := (fun y => [(2, y), (1, jI v3), (0, jR G 127)])) dX12_readGoods_25 hv4 (by decide) (fun _ => rfl) (fun v6 hv6 => ?_)
  refine jw_aloadR (pc := 26) 2 dX12_readGoods_26 rfl ?_
  refine jw_iconst (pc := 27) dX12_readGoods_27 ?_
  refine jw_bipush (pc := 28) dX12_readGoods_28 rfl ?_
  refine jw_callVMi (pc := 30) (As := [jI 1, jI 99]) (st := []) dX12_readGoods_30 rfl (Nat.le_of_ble_eq_true rfl) qX12_number jt_1414 jt_1416 jp_51 rfl rfl (Nat.le_of_ble_eq_true rfl) jv_12 rfl jg_127 jl_127 (by decide) (jw_ho jg_127 (by decide)) (kX12_number G 1 99 (jw_rc _ rfl) (jw_rc _ rfl) M5) (fun v7 M8 hv7 => ?_)
  refine jw_istore_nL (pc := 33) (lv' := (fun y => [(3, y), (2, jI v6), (1, jI v3), (0, jR G 127)])) dX12_readGoods_33 hv7 (by decide) (fun _ => rfl) (fun v9 hv9 => ?_)
  refine jw_aloadR (pc := 34) 3 dX12_readGoods_34 rfl ?_
  refine jw_iconst (pc := 35) dX12_readGoods_35 ?_
  refine jw_bipush (pc := 36) dX12_readGoods_36 rfl ?_
  refine jw_callVMi (pc := 38) (As := [jI 0, jI 99]) (st := []) dX12_readGoods_38 rfl (Nat.le_of_ble_eq_true rfl) qX12_number jt_1414 jt_1416 jp_51 rfl rfl (Nat.le_of_ble_eq_true rfl) jv_12 rfl jg_127 jl_127 (by decide) (jw_ho jg_127 (by decide)) (kX12_number G 0 99 (jw_rc _ rfl) (jw_rc _ rfl) M8) (fun v10 M11 hv10 => ?_)
  refine jw_istoreL (pc := 41) (lv' := (fun y => [(4, y), (3, jI v9), (2, jI v6), (1, jI v3), (0, jR G 127)])) dX12_readGoods_41 hv10 (by decide) (fun _ => rfl) (fun v12 hv12 => ?_)
  refine jw_aloadR (pc := 43) 4 dX12_readGoods_43 rfl ?_
  refine jw_iconst (pc := 44) dX12_readGoods_44 ?_
  refine jw_callVMz (pc := 45) (As := [jI 2]) (st := []) dX12_readGoods_45 rfl (Nat.le_of_ble_eq_true rfl) qX12_ends jt_1422 jt_1424 jp_53 rfl rfl (Nat.le_of_ble_eq_true rfl) jv_12 rfl jg_127 jl_127 (by decide) (jw_ho jg_127 (by decide)) (kX12_ends G 2 (jw_rc _ rfl) M11) (fun v13 M14 hv13 => ?_)
  refine jw_if_eq (pc := 48) 79 dX12_readGoods_48 (by decide) (jw_bz hv13) (fun _ => ?_) (fun _ => ?_)
  · exact jw_ret (pc := 79) (v := 0) dX12_readGoods_79 trivial rfl rfl
  · refine jw_aloadR (pc := 51) 4 dX12_readGoods_51 rfl ?_
    refine jw_getR (pc := 52) (j := 6) rfl dX12_readGoods_52 jv_12 ji_12 (Or.inl jt_1237) jg_127 jl_127 (by decide) (by decide) rfl jf_12_6 ?_
    refine jw_iload_n (pc := 55) 3 dX12_readGoods_55 rfl ?_
    refine jw_iconst (pc := 56) dX12_readGoods_56 ?_
    refine jw_iadd (pc := 57) dX12_readGoods_57 ?_
    refine jw_iload_n (pc := 58) 2 dX12_readGoods_58 rfl ?_
    refine jw_iast (pc := 59) dX12_readGoods_59 jg_132 jl_132 (jw_ho jg_132 (by decide)) (jw_wr _) hv6 rfl ?_
    refine jw_letM (fun M15 => ?_)
    refine jw_aloadR (pc := 60) 4 dX12_readGoods_60 rfl ?_
    refine jw_getR (pc := 61) (j := 6) rfl dX12_readGoods_61 jv_12 ji_12 (Or.inl jt_1237) jg_127 jl_127 (by decide) (by decide) rfl jf_12_6 ?_
    refine jw_iload_n (pc := 64) 3 dX12_readGoods_64 rfl ?_
    refine jw_iconst (pc := 65) dX12_readGoods_65 ?_
    refine jw_iadd (pc := 66) dX12_readGoods_66 ?_
    refine jw_iload_n (pc := 67) 1 dX12_readGoods_67 rfl ?_
    refine jw_iast (pc := 68) dX12_readGoods_68 jg_132 jl_132 (jw_ho jg_132 (by decide)) (jw_wr _) hv9 rfl ?_
    refine jw_letM (fun M16 => ?_)
    refine jw_aloadR (pc := 69) 4 dX12_readGoods_69 rfl ?_
    refine jw_getR (pc := 70) (j := 6) rfl dX12_readGoods_70 jv_12 ji_12 (Or.inl jt_1237) jg_127 jl_127 (by decide) (by decide) rfl jf_12_6 ?_
    refine jw_iload_n (pc := 73) 3 dX12_readGoods_73 rfl ?_
    refine jw_iconst (pc := 74) dX12_readGoods_74 ?_
    refine jw_iadd (pc := 75) dX12_readGoods_75 ?_
    refine jw_iload (pc := 76) 0 dX12_readGoods_76 rfl ?_
    refine jw_iast (pc := 78) dX12_readGoods_78 jg_132 jl_132 (jw_ho jg_132 (by decide)) (jw_wr _) hv12 rfl ?_
    refine jw_letM (fun M17 => ?_)
    exact jw_ret (pc := 79) (v := 0) dX12_readGoods_79 trivial rfl rfl
theorem kX12_readGoods (G : jw_G) (M : jw_M) : jw_Ct G YX12_readGoods none 6 0 0 true (fun M1 => (0, M1)) yX12_readGoods [jR G 127] M (fX12_readGoods M) := jw_met (by decide) rfl rfl rfl (Nat.le_of_ble_eq_true rfl) (rX12_readGoods G M)
abbrev YX12_readSeller : jw_Y := (RX12, cX12_readSeller, 4, 0, "readSeller")
theorem qX12_readSeller : jw_cy YX12_readSeller none yX12_readSeller 0 := ⟨by decide, jt_1448, jt_14, by decide, by decide +kernel⟩
theorem dX12_readSeller_0 : decode cX12_readSeller 0 = .ok (.aload_n 0, 1) := by decide +kernel
theorem dX12_readSeller_1 : decode cX12_readSeller 1 = .ok (.iconst 3, 1) := by decide +kernel
theorem dX12_readSeller_2 : decode cX12_readSeller 2 = .ok (.iconst 5, 1) := by decide +kernel
theorem dX12_readSeller_3 : decode cX12_readSeller 3 = .ok (.invokevirtual 158, 3) := by decide +kernel
theorem dX12_readSeller_6 : decode cX12_readSeller 6 = .ok (.aload_n 0, 1) := by decide +kernel
theorem dX12_readSeller_7 : decode cX12_readSeller 7 = .ok (.getfield 22, 3) := by decide +kernel
theorem dX12_readSeller_10 : decode cX12_readSeller 10 = .ok (.iconst 3, 1) := by decide +kernel
theorem dX12_readSeller_11 : decode cX12_readSeller 11 = .ok (.iaload, 1) := by decide +kernel
theorem dX12_readSeller_12 : decode cX12_readSeller 12 = .ok (.istore_n 1, 1) := by decide +kernel
theorem dX12_readSeller_13 : decode cX12_readSeller 13 = .ok (.aload_n 0, 1) := by decide +kernel
theorem dX12_readSeller_14 : decode cX12_readSeller 14 = .ok (.iconst 0, 1) := by decide +kernel
theorem dX12_readSeller_15 : decode cX12_readSeller 15 = .ok (.aload_n 0, 1) := by decide +kernel
theorem dX12_readSeller_16 : decode cX12_readSeller 16 = .ok (.getfield 22, 3) := by decide +kernel
theorem dX12_readSeller_19 : decode cX12_readSeller 19 = .ok (.iconst 2, 1) := by decide +kernel
theorem dX12_readSeller_20 : decode cX12_readSeller 20 = .ok (.iaload, 1) := by decide +kernel
theorem dX12_readSeller_21 : decode cX12_readSeller 21 = .ok (.iconst 1, 1) := by decide +kernel
theorem dX12_readSeller_22 : decode cX12_readSeller 22 = .ok (.isub, 1) := by decide +kernel
theorem dX12_readSeller_23 : decode cX12_readSeller 23 = .ok (.invokevirtual 154, 3) := by decide +kernel
theorem dX12_readSeller_26 : decode cX12_readSeller 26 = .ok (.istore_n 2, 1) := by decide +kernel
theorem dX12_readSeller_27 : decode cX12_readSeller 27 = .ok (.aload_n 0, 1) := by decide +kernel
theorem dX12_readSeller_28 : decode cX12_readSeller 28 = .ok (.invokevirtual 165, 3) := by decide +kernel
theorem dX12_readSeller_31 : decode cX12_readSeller 31 = .ok (.istore_n 3, 1) := by decide +kernel
theorem dX12_readSeller_32 : decode cX12_readSeller 32 = .ok (.aload_n 0, 1) := by decide +kernel
theorem dX12_readSeller_33 : decode cX12_readSeller 33 = .ok (.iconst 3, 1) := by decide +kernel
theorem dX12_readSeller_34 : decode cX12_readSeller 34 = .ok (.invokevirtual 162, 3) := by decide +kernel
theorem dX12_readSeller_37 : decode cX12_readSeller 37 = .ok (.ifCond .eq 23, 3) := by decide +kernel
theorem dX12_readSeller_40 : decode cX12_readSeller 40 = .ok (.aload_n 0, 1) := by decide +kernel
theorem dX12_readSeller_41 : decode cX12_readSeller 41 = .ok (.getfield 22, 3) := by decide +kernel
theorem dX12_readSeller_44 : decode cX12_readSeller 44 = .ok (.bipush 90, 2) := by decide +kernel
theorem dX12_readSeller_46 : decode cX12_readSeller 46 = .ok (.iload_n 1, 1) := by decide +kernel
theorem dX12_readSeller_47 : decode cX12_readSeller 47 = .ok (.iadd, 1) := by decide +kernel
theorem dX12_readSeller_48 : decode cX12_readSeller 48 = .ok (.iload_n 2, 1) := by decide +kernel
theorem dX12_readSeller_49 : decode cX12_readSeller 49 = .ok (.iastore, 1) := by decide +kernel
theorem dX12_readSeller_50 : decode cX12_readSeller 50 = .ok (.aload_n 0, 1) := by decide +kernel
theorem dX12_readSeller_51 : decode cX12_readSeller 51 = .ok (.getfield 22, 3) := by decide +kernel
theorem dX12_readSeller_54 : decode cX12_readSeller 54 = .ok (.bipush 95, 2) := by decide +kernel
theorem dX12_readSeller_56 : decode cX12_readSeller 56 = .ok (.iload_n 1, 1) := by decide +kernel
theorem dX12_readSeller_57 : decode cX12_readSeller 57 = .ok (.iadd, 1) := by decide +kernel
theorem dX12_readSeller_58 : decode cX12_readSeller 58 = .ok (.iload_n 3, 1) := by decide +kernel
theorem dX12_readSeller_59 : decode cX12_readSeller 59 = .ok (.iastore, 1) := by decide +kernel
theorem dX12_readSeller_60 : decode cX12_readSeller 60 = .ok (.return_, 1) := by decide +kernel
def fX12_readSeller (M : jw_M) : Option jw_M :=
  Option.bind (fX12_begins 3 5 M) (fun M1 => if 0 ≤ (3 : Int) ∧ (3 : Int) < 104 then Option.bind (some (M1 132 3)) (fun v3 => if 0 ≤ (2 : Int) ∧ (2 : Int) < 104 then jw_b2 (fX12_number 0 (jw_w ((M1 132 2) - 1)) M1) (fun v5 M6 => Option.bind (some v5) (fun v7 => jw_b2 (fX12_corner  M6) (fun v8 M9 => Option.bind (some v8) (fun v10 => jw_b2 (fX12_ends 3 M9) (fun v11 M12 => if v11 = 0 then (some M12) else (if 0 ≤ jw_w (90 + v3) ∧ jw_w (90 + v3) < 104 then Option.bind (some (jw_up M12 132 (jw_w (90 + v3)) v7)) (fun M13 => if 0 ≤ jw_w (95 + v3) ∧ jw_w (95 + v3) < 104 then Option.bind (some (jw_up M13 132 (jw_w (95 + v3)) v10)) (fun M14 => some M14) else none) else none)))))) else none) else none)
set_option maxRecDepth 100000 in
theorem rX12_readSeller (G : jw_G) (M : jw_M) : jw_Rn G YX12_readSeller 7 0 0 true (fun M1 => (0, M1)) 0 [(0, jR G 127)] [] M (fX12_readSeller M) := by
  unfold fX12_readSeller
  refine jw_aloadR (pc := 0) 0 dX12_readSeller_0 rfl ?_
  refine jw_iconst (pc := 1) dX12_readSeller_1 ?_
  refine jw_iconst (pc := 2) dX12_readSeller_2 ?_
  refine jw_callVM (pc := 3) (As := [jI 3, jI 5]) (st := []) dX12_readSeller_3 rfl (Nat.le_of_ble_eq_true rfl) qX12_begins jt_1406 jt_1408 jp_49 rfl rfl (Nat.le_of_ble_eq_true rfl) jv_12 rfl jg_127 jl_127 (by decide) (jw_ho jg_127 (by decide)) (kX12_begins G 3 5 (jw_rc _ rfl) (jw_rc _ rfl) M) (fun M1 => ?_)
  refine jw_aloadR (pc := 6) 0 dX12_readSeller_6 rfl ?_
  refine jw_getR (pc := 7) (j := 6) rfl dX12_readSeller_7 jv_12 ji_12 (Or.inl jt_1237) jg_127 jl_127 (by decide) (by decide) rfl jf_12_6 ?_
  refine jw_iconst (pc := 10) dX12_readSeller_10 ?_
  refine jw_iald (pc := 11) dX12_readSeller_11 jg_132 jl_132 (jw_ho jg_132 (by decide)) (jw_rc _ rfl) rfl (fun h2 => ?_)
  refine jw_istore_nL (pc := 12) (lv' := (fun y => [(1, y), (0, jR G 127)])) dX12_readSeller_12 h2 (by decide) (fun _ => rfl) (fun v3 hv3 => ?_)
  refine jw_aloadR (pc := 13) 1 dX12_readSeller_13 rfl ?_
  refine jw_iconst (pc := 14) dX12_readSeller_14 ?_
  refine jw_aloadR (pc := 15) 1 dX12_readSeller_15 rfl ?_
  refine jw_getR (pc := 16) (j := 6) rfl dX12_readSeller_16 jv_12 ji_12 (Or.inl jt_1237) jg_127 jl_127 (by decide) (by decide) rfl jf_12_6 ?_
  refine jw_iconst (pc := 19) dX12_readSeller_19 ?_
  refine jw_iald (pc := 20) dX12_readSeller_20 jg_132 jl_132 (jw_ho jg_132 (by decide)) (jw_rc _ rfl) rfl (fun h4 => ?_)
  refine jw_iconst (pc := 21) dX12_readSeller_21 ?_
  refine jw_isub (pc := 22) dX12_readSeller_22 ?_
  refine jw_callVMi (pc := 23) (As := [jI 0, jI (jw_w ((M1 132 2) - 1))]) (st := []) dX12_readSeller_23 rfl (Nat.le_of_ble_eq_true rfl) qX12_number jt_1414 jt_1416 jp_51 rfl rfl (Nat.le_of_ble_eq_true rfl) jv_12 rfl jg_127 jl_127 (by decide) (jw_ho jg_127 (by decide)) (kX12_number G 0 (jw_w ((M1 132 2) - 1)) (jw_rc _ rfl) (jw_wr _) M1) (fun v5 M6 hv5 => ?_)
  refine jw_istore_nL (pc := 26) (lv' := (fun y => [(2, y), (1, jI v3), (0, jR G 127)])) dX12_readSeller_26 hv5 (by decide) (fun _ => rfl) (fun v7 hv7 => ?_)
  refine jw_aloadR (pc := 27) 2 dX12_readSeller_27 rfl ?_
  refine jw_callVMi (pc := 28) (As := []) (st := []) dX12_readSeller_28 rfl (Nat.le_of_ble_eq_true rfl) qX12_corner jt_1431 jt_1433 jp_55 rfl rfl (Nat.le_of_ble_eq_true rfl) jv_12 rfl jg_127 jl_127 (by decide) (jw_ho jg_127 (by decide)) (kX12_corner G  M6) (fun v8 M9 hv8 => ?_)
  refine jw_istore_nL (pc := 31) (lv' := (fun y => [(3, y), (2, jI v7), (1, jI v3), (0, jR G 127)])) dX12_readSeller_31 hv8 (by decide) (fun _ => rfl) (fun v10 hv10 => ?_)
  refine jw_aloadR (pc := 32) 3 dX12_readSeller_32 rfl ?_
  refine jw_iconst (pc := 33) dX12_readSeller_33 ?_
  refine jw_callVMz (pc := 34) (As := [jI 3]) (st := []) dX12_readSeller_34 rfl (Nat.le_of_ble_eq_true rfl) qX12_ends jt_1422 jt_1424 jp_53 rfl rfl (Nat.le_of_ble_eq_true rfl) jv_12 rfl jg_127 jl_127 (by decide) (jw_ho jg_127 (by decide)) (kX12_ends G 3 (jw_rc _ rfl) M9) (fun v11 M12 hv11 => ?_)
  refine jw_if_eq (pc := 37) 60 dX12_readSeller_37 (by decide) (jw_bz hv11) (fun _ => ?_) (fun _ => ?_)
  · exact jw_ret (pc := 60) (v := 0) dX12_readSeller_60 trivial rfl rfl
  · refine jw_aloadR (pc := 40) 3 dX12_readSeller_40 rfl ?_
    refine jw_getR (pc := 41) (j := 6) rfl dX12_readSeller_41 jv_12 ji_12 (Or.inl jt_1237) jg_127 jl_127 (by decide) (by decide) rfl jf_12_6 ?_
    refine jw_bipush (pc := 44) dX12_readSeller_44 rfl ?_
    refine jw_iload_n (pc := 46) 2 dX12_readSeller_46 rfl ?_
    refine jw_iadd (pc := 47) dX12_readSeller_47 ?_
    refine jw_iload_n (pc := 48) 1 dX12_readSeller_48 rfl ?_
    refine jw_iast (pc := 49) dX12_readSeller_49 jg_132 jl_132 (jw_ho jg_132 (by decide)) (jw_wr _) hv7 rfl ?_
    refine jw_letM (fun M13 => ?_)
    refine jw_aloadR (pc := 50) 3 dX12_readSeller_50 rfl ?_
    refine jw_getR (pc := 51) (j := 6) rfl dX12_readSeller_51 jv_12 ji_12 (Or.inl jt_1237) jg_127 jl_127 (by decide) (by decide) rfl jf_12_6 ?_
    refine jw_bipush (pc := 54) dX12_readSeller_54 rfl ?_
    refine jw_iload_n (pc := 56) 2 dX12_readSeller_56 rfl ?_
    refine jw_iadd (pc := 57) dX12_readSeller_57 ?_
    refine jw_iload_n (pc := 58) 0 dX12_readSeller_58 rfl ?_
    refine jw_iast (pc := 59) dX12_readSeller_59 jg_132 jl_132 (jw_ho jg_132 (by decide)) (jw_wr _) hv10 rfl ?_
    refine jw_letM (fun M14 => ?_)
    exact jw_ret (pc := 60) (v := 0) dX12_readSeller_60 trivial rfl rfl
theorem kX12_readSeller (G : jw_G) (M : jw_M) : jw_Ct G YX12_readSeller none 7 0 0 true (fun M1 => (0, M1)) yX12_readSeller [jR G 127] M (fX12_readSeller M) := jw_met (by decide) rfl rfl rfl (Nat.le_of_ble_eq_true rfl) (rX12_readSeller G M)
abbrev YX12_readWatcher : jw_Y := (RX12, cX12_readWatcher, 3, 0, "readWatcher")
theorem qX12_readWatcher : jw_cy YX12_readWatcher none yX12_readWatcher 0 := ⟨by decide, jt_1453, jt_14, by decide, by decide +kernel⟩
theorem dX12_readWatcher_0 : decode cX12_readWatcher 0 = .ok (.aload_n 0, 1) := by decide +kernel
theorem dX12_readWatcher_1 : decode cX12_readWatcher 1 = .ok (.iconst 4, 1) := by decide +kernel
theorem dX12_readWatcher_2 : decode cX12_readWatcher 2 = .ok (.iconst 4, 1) := by decide +kernel
theorem dX12_readWatcher_3 : decode cX12_readWatcher 3 = .ok (.invokevirtual 158, 3) := by decide +kernel
theorem dX12_readWatcher_6 : decode cX12_readWatcher 6 = .ok (.bipush 100, 2) := by decide +kernel
theorem dX12_readWatcher_8 : decode cX12_readWatcher 8 = .ok (.aload_n 0, 1) := by decide +kernel
theorem dX12_readWatcher_9 : decode cX12_readWatcher 9 = .ok (.getfield 22, 3) := by decide +kernel
theorem dX12_readWatcher_12 : decode cX12_readWatcher 12 = .ok (.iconst 4, 1) := by decide +kernel
theorem dX12_readWatcher_13 : decode cX12_readWatcher 13 = .ok (.iaload, 1) := by decide +kernel
theorem dX12_readWatcher_14 : decode cX12_readWatcher 14 = .ok (.iadd, 1) := by decide +kernel
theorem dX12_readWatcher_15 : decode cX12_readWatcher 15 = .ok (.istore_n 1, 1) := by decide +kernel
theorem dX12_readWatcher_16 : decode cX12_readWatcher 16 = .ok (.aload_n 0, 1) := by decide +kernel
theorem dX12_readWatcher_17 : decode cX12_readWatcher 17 = .ok (.invokevirtual 165, 3) := by decide +kernel
theorem dX12_readWatcher_20 : decode cX12_readWatcher 20 = .ok (.istore_n 2, 1) := by decide +kernel
theorem dX12_readWatcher_21 : decode cX12_readWatcher 21 = .ok (.aload_n 0, 1) := by decide +kernel
theorem dX12_readWatcher_22 : decode cX12_readWatcher 22 = .ok (.iconst 4, 1) := by decide +kernel
theorem dX12_readWatcher_23 : decode cX12_readWatcher 23 = .ok (.invokevirtual 162, 3) := by decide +kernel
theorem dX12_readWatcher_26 : decode cX12_readWatcher 26 = .ok (.ifCond .eq 10, 3) := by decide +kernel
theorem dX12_readWatcher_29 : decode cX12_readWatcher 29 = .ok (.aload_n 0, 1) := by decide +kernel
theorem dX12_readWatcher_30 : decode cX12_readWatcher 30 = .ok (.getfield 22, 3) := by decide +kernel
theorem dX12_readWatcher_33 : decode cX12_readWatcher 33 = .ok (.iload_n 1, 1) := by decide +kernel
theorem dX12_readWatcher_34 : decode cX12_readWatcher 34 = .ok (.iload_n 2, 1) := by decide +kernel
theorem dX12_readWatcher_35 : decode cX12_readWatcher 35 = .ok (.iastore, 1) := by decide +kernel
theorem dX12_readWatcher_36 : decode cX12_readWatcher 36 = .ok (.return_, 1) := by decide +kernel
def fX12_readWatcher (M : jw_M) : Option jw_M :=
  Option.bind (fX12_begins 4 4 M) (fun M1 => if 0 ≤ (4 : Int) ∧ (4 : Int) < 104 then Option.bind (some (jw_w (100 + (M1 132 4)))) (fun v3 => jw_b2 (fX12_corner  M1) (fun v4 M5 => Option.bind (some v4) (fun v6 => jw_b2 (fX12_ends 4 M5) (fun v7 M8 => if v7 = 0 then (some M8) else (if 0 ≤ v3 ∧ v3 < 104 then Option.bind (some (jw_up M8 132 v3 v6)) (fun M9 => some M9) else none))))) else none)
set_option maxRecDepth 100000 in
theorem rX12_readWatcher (G : jw_G) (M : jw_M) : jw_Rn G YX12_readWatcher 7 0 0 true (fun M1 => (0, M1)) 0 [(0, jR G 127)] [] M (fX12_readWatcher M) := by
  unfold fX12_readWatcher
  refine jw_aloadR (pc := 0) 0 dX12_readWatcher_0 rfl ?_
  refine jw_iconst (pc := 1) dX12_readWatcher_1 ?_
  refine jw_iconst (pc := 2) dX12_readWatcher_2 ?_
  refine jw_callVM (pc := 3) (As := [jI 4, jI 4]) (st := []) dX12_readWatcher_3 rfl (Nat.le_of_ble_eq_true rfl) qX12_begins jt_1406 jt_1408 jp_49 rfl rfl (Nat.le_of_ble_eq_true rfl) jv_12 rfl jg_127 jl_127 (by decide) (jw_ho jg_127 (by decide)) (kX12_begins G 4 4 (jw_rc _ rfl) (jw_rc _ rfl) M) (fun M1 => ?_)
  refine jw_bipush (pc := 6) dX12_readWatcher_6 rfl ?_
  refine jw_aloadR (pc := 8) 0 dX12_readWatcher_8 rfl ?_
  refine jw_getR (pc := 9) (j := 6) rfl dX12_readWatcher_9 jv_12 ji_12 (Or.inl jt_1237) jg_127 jl_127 (by decide) (by decide) rfl jf_12_6 ?_
  refine jw_iconst (pc := 12) dX12_readWatcher_12 ?_
  refine jw_iald (pc := 13) dX12_readWatcher_13 jg_132 jl_132 (jw_ho jg_132 (by decide)) (jw_rc _ rfl) rfl (fun h2 => ?_)
  refine jw_iadd (pc := 14) dX12_readWatcher_14 ?_
  refine jw_istore_nL (pc := 15) (lv' := (fun y => [(1, y), (0, jR G 127)])) dX12_readWatcher_15 (jw_wr _) (by decide) (fun _ => rfl) (fun v3 hv3 => ?_)
  refine jw_aloadR (pc := 16) 1 dX12_readWatcher_16 rfl ?_
  refine jw_callVMi (pc := 17) (As := []) (st := []) dX12_readWatcher_17 rfl (Nat.le_of_ble_eq_true rfl) qX12_corner jt_1431 jt_1433 jp_55 rfl rfl (Nat.le_of_ble_eq_true rfl) jv_12 rfl jg_127 jl_127 (by decide) (jw_ho jg_127 (by decide)) (kX12_corner G  M1) (fun v4 M5 hv4 => ?_)
  refine jw_istore_nL (pc := 20) (lv' := (fun y => [(2, y), (1, jI v3), (0, jR G 127)])) dX12_readWatcher_20 hv4 (by decide) (fun _ => rfl) (fun v6 hv6 => ?_)
  refine jw_aloadR (pc := 21) 2 dX12_readWatcher_21 rfl ?_
  refine jw_iconst (pc := 22) dX12_readWatcher_22 ?_
  refine jw_callVMz (pc := 23) (As := [jI 4]) (st := []) dX12_readWatcher_23 rfl (Nat.le_of_ble_eq_true rfl) qX12_ends jt_1422 jt_1424 jp_53 rfl rfl (Nat.le_of_ble_eq_true rfl) jv_12 rfl jg_127 jl_127 (by decide) (jw_ho jg_127 (by decide)) (kX12_ends G 4 (jw_rc _ rfl) M5) (fun v7 M8 hv7 => ?_)
  refine jw_if_eq (pc := 26) 36 dX12_readWatcher_26 (by decide) (jw_bz hv7) (fun _ => ?_) (fun _ => ?_)
  · exact jw_ret (pc := 36) (v := 0) dX12_readWatcher_36 trivial rfl rfl
  · refine jw_aloadR (pc := 29) 2 dX12_readWatcher_29 rfl ?_
    refine jw_getR (pc := 30) (j := 6) rfl dX12_readWatcher_30 jv_12 ji_12 (Or.inl jt_1237) jg_127 jl_127 (by decide) (by decide) rfl jf_12_6 ?_
    refine jw_iload_n (pc := 33) 1 dX12_readWatcher_33 rfl ?_
    refine jw_iload_n (pc := 34) 0 dX12_readWatcher_34 rfl ?_
    refine jw_iast (pc := 35) dX12_readWatcher_35 jg_132 jl_132 (jw_ho jg_132 (by decide)) hv3 hv6 rfl ?_
    refine jw_letM (fun M9 => ?_)
    exact jw_ret (pc := 36) (v := 0) dX12_readWatcher_36 trivial rfl rfl
theorem kX12_readWatcher (G : jw_G) (M : jw_M) : jw_Ct G YX12_readWatcher none 7 0 0 true (fun M1 => (0, M1)) yX12_readWatcher [jR G 127] M (fX12_readWatcher M) := jw_met (by decide) rfl rfl rfl (Nat.le_of_ble_eq_true rfl) (rX12_readWatcher G M)
abbrev YX12_readCellar : jw_Y := (RX12, cX12_readCellar, 4, 0, "readCellar")
theorem qX12_readCellar : jw_cy YX12_readCellar none yX12_readCellar 0 := ⟨by decide, jt_1458, jt_14, by decide, by decide +kernel⟩
theorem dX12_readCellar_0 : decode cX12_readCellar 0 = .ok (.aload_n 0, 1) := by decide +kernel
theorem dX12_readCellar_1 : decode cX12_readCellar 1 = .ok (.iconst 5, 1) := by decide +kernel
theorem dX12_readCellar_2 : decode cX12_readCellar 2 = .ok (.bipush 6, 2) := by decide +kernel
theorem dX12_readCellar_4 : decode cX12_readCellar 4 = .ok (.invokevirtual 158, 3) := by decide +kernel
theorem dX12_readCellar_7 : decode cX12_readCellar 7 = .ok (.bipush 75, 2) := by decide +kernel
theorem dX12_readCellar_9 : decode cX12_readCellar 9 = .ok (.iconst 2, 1) := by decide +kernel
theorem dX12_readCellar_10 : decode cX12_readCellar 10 = .ok (.aload_n 0, 1) := by decide +kernel
theorem dX12_readCellar_11 : decode cX12_readCellar 11 = .ok (.getfield 22, 3) := by decide +kernel
theorem dX12_readCellar_14 : decode cX12_readCellar 14 = .ok (.iconst 5, 1) := by decide +kernel
theorem dX12_readCellar_15 : decode cX12_readCellar 15 = .ok (.iaload, 1) := by decide +kernel
theorem dX12_readCellar_16 : decode cX12_readCellar 16 = .ok (.imul, 1) := by decide +kernel
theorem dX12_readCellar_17 : decode cX12_readCellar 17 = .ok (.iadd, 1) := by decide +kernel
theorem dX12_readCellar_18 : decode cX12_readCellar 18 = .ok (.istore_n 1, 1) := by decide +kernel
theorem dX12_readCellar_19 : decode cX12_readCellar 19 = .ok (.aload_n 0, 1) := by decide +kernel
theorem dX12_readCellar_20 : decode cX12_readCellar 20 = .ok (.invokevirtual 165, 3) := by decide +kernel
theorem dX12_readCellar_23 : decode cX12_readCellar 23 = .ok (.istore_n 2, 1) := by decide +kernel
theorem dX12_readCellar_24 : decode cX12_readCellar 24 = .ok (.aload_n 0, 1) := by decide +kernel
theorem dX12_readCellar_25 : decode cX12_readCellar 25 = .ok (.iconst 0, 1) := by decide +kernel
theorem dX12_readCellar_26 : decode cX12_readCellar 26 = .ok (.bipush 99, 2) := by decide +kernel
theorem dX12_readCellar_28 : decode cX12_readCellar 28 = .ok (.invokevirtual 154, 3) := by decide +kernel
theorem dX12_readCellar_31 : decode cX12_readCellar 31 = .ok (.istore_n 3, 1) := by decide +kernel
theorem dX12_readCellar_32 : decode cX12_readCellar 32 = .ok (.aload_n 0, 1) := by decide +kernel
theorem dX12_readCellar_33 : decode cX12_readCellar 33 = .ok (.iconst 5, 1) := by decide +kernel
theorem dX12_readCellar_34 : decode cX12_readCellar 34 = .ok (.invokevirtual 162, 3) := by decide +kernel
theorem dX12_readCellar_37 : decode cX12_readCellar 37 = .ok (.ifCond .eq 19, 3) := by decide +kernel
theorem dX12_readCellar_40 : decode cX12_readCellar 40 = .ok (.aload_n 0, 1) := by decide +kernel
theorem dX12_readCellar_41 : decode cX12_readCellar 41 = .ok (.getfield 22, 3) := by decide +kernel
theorem dX12_readCellar_44 : decode cX12_readCellar 44 = .ok (.iload_n 1, 1) := by decide +kernel
theorem dX12_readCellar_45 : decode cX12_readCellar 45 = .ok (.iload_n 2, 1) := by decide +kernel
theorem dX12_readCellar_46 : decode cX12_readCellar 46 = .ok (.iastore, 1) := by decide +kernel
theorem dX12_readCellar_47 : decode cX12_readCellar 47 = .ok (.aload_n 0, 1) := by decide +kernel
theorem dX12_readCellar_48 : decode cX12_readCellar 48 = .ok (.getfield 22, 3) := by decide +kernel
theorem dX12_readCellar_51 : decode cX12_readCellar 51 = .ok (.iload_n 1, 1) := by decide +kernel
theorem dX12_readCellar_52 : decode cX12_readCellar 52 = .ok (.iconst 1, 1) := by decide +kernel
theorem dX12_readCellar_53 : decode cX12_readCellar 53 = .ok (.iadd, 1) := by decide +kernel
theorem dX12_readCellar_54 : decode cX12_readCellar 54 = .ok (.iload_n 3, 1) := by decide +kernel
theorem dX12_readCellar_55 : decode cX12_readCellar 55 = .ok (.iastore, 1) := by decide +kernel
theorem dX12_readCellar_56 : decode cX12_readCellar 56 = .ok (.return_, 1) := by decide +kernel
def fX12_readCellar (M : jw_M) : Option jw_M :=
  Option.bind (fX12_begins 5 6 M) (fun M1 => if 0 ≤ (5 : Int) ∧ (5 : Int) < 104 then Option.bind (some (jw_w (75 + (jw_w (2 * (M1 132 5)))))) (fun v3 => jw_b2 (fX12_corner  M1) (fun v4 M5 => Option.bind (some v4) (fun v6 => jw_b2 (fX12_number 0 99 M5) (fun v7 M8 => Option.bind (some v7) (fun v9 => jw_b2 (fX12_ends 5 M8) (fun v10 M11 => if v10 = 0 then (some M11) else (if 0 ≤ v3 ∧ v3 < 104 then Option.bind (some (jw_up M11 132 v3 v6)) (fun M12 => if 0 ≤ jw_w (v3 + 1) ∧ jw_w (v3 + 1) < 104 then Option.bind (some (jw_up M12 132 (jw_w (v3 + 1)) v9)) (fun M13 => some M13) else none) else none))))))) else none)
set_option maxRecDepth 100000 in
theorem rX12_readCellar (G : jw_G) (M : jw_M) : jw_Rn G YX12_readCellar 7 0 0 true (fun M1 => (0, M1)) 0 [(0, jR G 127)] [] M (fX12_readCellar M) := by
  unfold fX12_readCellar
  refine jw_aloadR (pc := 0) 0 dX12_readCellar_0 rfl ?_
  refine jw_iconst (pc := 1) dX12_readCellar_1 ?_
  refine jw_bipush (pc := 2) dX12_readCellar_2 rfl ?_
  refine jw_callVM (pc := 4) (As := [jI 5, jI 6]) (st := []) dX12_readCellar_4 rfl (Nat.le_of_ble_eq_true rfl) qX12_begins jt_1406 jt_1408 jp_49 rfl rfl (Nat.le_of_ble_eq_true rfl) jv_12 rfl jg_127 jl_127 (by decide) (jw_ho jg_127 (by decide)) (kX12_begins G 5 6 (jw_rc _ rfl) (jw_rc _ rfl) M) (fun M1 => ?_)
  refine jw_bipush (pc := 7) dX12_readCellar_7 rfl ?_
  refine jw_iconst (pc := 9) dX12_readCellar_9 ?_
  refine jw_aloadR (pc := 10) 0 dX12_readCellar_10 rfl ?_
  refine jw_getR (pc := 11) (j := 6) rfl dX12_readCellar_11 jv_12 ji_12 (Or.inl jt_1237) jg_127 jl_127 (by decide) (by decide) rfl jf_12_6 ?_
  refine jw_iconst (pc := 14) dX12_readCellar_14 ?_
  refine jw_iald (pc := 15) dX12_readCellar_15 jg_132 jl_132 (jw_ho jg_132 (by decide)) (jw_rc _ rfl) rfl (fun h2 => ?_)
  refine jw_imul (pc := 16) dX12_readCellar_16 ?_
  refine jw_iadd (pc := 17) dX12_readCellar_17 ?_
  refine jw_istore_nL (pc := 18) (lv' := (fun y => [(1, y), (0, jR G 127)])) dX12_readCellar_18 (jw_wr _) (by decide) (fun _ => rfl) (fun v3 hv3 => ?_)
  refine jw_aloadR (pc := 19) 1 dX12_readCellar_19 rfl ?_
  refine jw_callVMi (pc := 20) (As := []) (st := []) dX12_readCellar_20 rfl (Nat.le_of_ble_eq_true rfl) qX12_corner jt_1431 jt_1433 jp_55 rfl rfl (Nat.le_of_ble_eq_true rfl) jv_12 rfl jg_127 jl_127 (by decide) (jw_ho jg_127 (by decide)) (kX12_corner G  M1) (fun v4 M5 hv4 => ?_)
  refine jw_istore_nL (pc := 23) (lv' := (fun y => [(2, y), (1, jI v3), (0, jR G 127)])) dX12_readCellar_23 hv4 (by decide) (fun _ => rfl) (fun v6 hv6 => ?_)
  refine jw_aloadR (pc := 24) 2 dX12_readCellar_24 rfl ?_
  refine jw_iconst (pc := 25) dX12_readCellar_25 ?_
  refine jw_bipush (pc := 26) dX12_readCellar_26 rfl ?_
  refine jw_callVMi (pc := 28) (As := [jI 0, jI 99]) (st := []) dX12_readCellar_28 rfl (Nat.le_of_ble_eq_true rfl) qX12_number jt_1414 jt_1416 jp_51 rfl rfl (Nat.le_of_ble_eq_true rfl) jv_12 rfl jg_127 jl_127 (by decide) (jw_ho jg_127 (by decide)) (kX12_number G 0 99 (jw_rc _ rfl) (jw_rc _ rfl) M5) (fun v7 M8 hv7 => ?_)
  refine jw_istore_nL (pc := 31) (lv' := (fun y => [(3, y), (2, jI v6), (1, jI v3), (0, jR G 127)])) dX12_readCellar_31 hv7 (by decide) (fun _ => rfl) (fun v9 hv9 => ?_)
  refine jw_aloadR (pc := 32) 3 dX12_readCellar_32 rfl ?_
  refine jw_iconst (pc := 33) dX12_readCellar_33 ?_
  refine jw_callVMz (pc := 34) (As := [jI 5]) (st := []) dX12_readCellar_34 rfl (Nat.le_of_ble_eq_true rfl) qX12_ends jt_1422 jt_1424 jp_53 rfl rfl (Nat.le_of_ble_eq_true rfl) jv_12 rfl jg_127 jl_127 (by decide) (jw_ho jg_127 (by decide)) (kX12_ends G 5 (jw_rc _ rfl) M8) (fun v10 M11 hv10 => ?_)
  refine jw_if_eq (pc := 37) 56 dX12_readCellar_37 (by decide) (jw_bz hv10) (fun _ => ?_) (fun _ => ?_)
  · exact jw_ret (pc := 56) (v := 0) dX12_readCellar_56 trivial rfl rfl
  · refine jw_aloadR (pc := 40) 3 dX12_readCellar_40 rfl ?_
    refine jw_getR (pc := 41) (j := 6) rfl dX12_readCellar_41 jv_12 ji_12 (Or.inl jt_1237) jg_127 jl_127 (by decide) (by decide) rfl jf_12_6 ?_
    refine jw_iload_n (pc := 44) 2 dX12_readCellar_44 rfl ?_
    refine jw_iload_n (pc := 45) 1 dX12_readCellar_45 rfl ?_
    refine jw_iast (pc := 46) dX12_readCellar_46 jg_132 jl_132 (jw_ho jg_132 (by decide)) hv3 hv6 rfl ?_
    refine jw_letM (fun M12 => ?_)
    refine jw_aloadR (pc := 47) 3 dX12_readCellar_47 rfl ?_
    refine jw_getR (pc := 48) (j := 6) rfl dX12_readCellar_48 jv_12 ji_12 (Or.inl jt_1237) jg_127 jl_127 (by decide) (by decide) rfl jf_12_6 ?_
    refine jw_iload_n (pc := 51) 2 dX12_readCellar_51 rfl ?_
    refine jw_iconst (pc := 52) dX12_readCellar_52 ?_
    refine jw_iadd (pc := 53) dX12_readCellar_53 ?_
    refine jw_iload_n (pc := 54) 0 dX12_readCellar_54 rfl ?_
    refine jw_iast (pc := 55) dX12_readCellar_55 jg_132 jl_132 (jw_ho jg_132 (by decide)) (jw_wr _) hv9 rfl ?_
    refine jw_letM (fun M13 => ?_)
    exact jw_ret (pc := 56) (v := 0) dX12_readCellar_56 trivial rfl rfl
theorem kX12_readCellar (G : jw_G) (M : jw_M) : jw_Ct G YX12_readCellar none 7 0 0 true (fun M1 => (0, M1)) yX12_readCellar [jR G 127] M (fX12_readCellar M) := jw_met (by decide) rfl rfl rfl (Nat.le_of_ble_eq_true rfl) (rX12_readCellar G M)
abbrev YX12_readLaw : jw_Y := (RX12, cX12_readLaw, 4, 0, "readLaw")
theorem qX12_readLaw : jw_cy YX12_readLaw none yX12_readLaw 0 := ⟨by decide, jt_1463, jt_14, by decide, by decide +kernel⟩
theorem dX12_readLaw_0 : decode cX12_readLaw 0 = .ok (.aload_n 0, 1) := by decide +kernel
theorem dX12_readLaw_1 : decode cX12_readLaw 1 = .ok (.iconst 1, 1) := by decide +kernel
theorem dX12_readLaw_2 : decode cX12_readLaw 2 = .ok (.invokevirtual 146, 3) := by decide +kernel
theorem dX12_readLaw_5 : decode cX12_readLaw 5 = .ok (.aload_n 0, 1) := by decide +kernel
theorem dX12_readLaw_6 : decode cX12_readLaw 6 = .ok (.iconst 0, 1) := by decide +kernel
theorem dX12_readLaw_7 : decode cX12_readLaw 7 = .ok (.bipush 20, 2) := by decide +kernel
theorem dX12_readLaw_9 : decode cX12_readLaw 9 = .ok (.invokevirtual 154, 3) := by decide +kernel
theorem dX12_readLaw_12 : decode cX12_readLaw 12 = .ok (.istore_n 1, 1) := by decide +kernel
theorem dX12_readLaw_13 : decode cX12_readLaw 13 = .ok (.aload_n 0, 1) := by decide +kernel
theorem dX12_readLaw_14 : decode cX12_readLaw 14 = .ok (.iconst 0, 1) := by decide +kernel
theorem dX12_readLaw_15 : decode cX12_readLaw 15 = .ok (.bipush 30, 2) := by decide +kernel
theorem dX12_readLaw_17 : decode cX12_readLaw 17 = .ok (.invokevirtual 154, 3) := by decide +kernel
theorem dX12_readLaw_20 : decode cX12_readLaw 20 = .ok (.istore_n 2, 1) := by decide +kernel
theorem dX12_readLaw_21 : decode cX12_readLaw 21 = .ok (.aload_n 0, 1) := by decide +kernel
theorem dX12_readLaw_22 : decode cX12_readLaw 22 = .ok (.iconst 1, 1) := by decide +kernel
theorem dX12_readLaw_23 : decode cX12_readLaw 23 = .ok (.bipush 9, 2) := by decide +kernel
theorem dX12_readLaw_25 : decode cX12_readLaw 25 = .ok (.invokevirtual 154, 3) := by decide +kernel
theorem dX12_readLaw_28 : decode cX12_readLaw 28 = .ok (.istore_n 3, 1) := by decide +kernel
theorem dX12_readLaw_29 : decode cX12_readLaw 29 = .ok (.aload_n 0, 1) := by decide +kernel
theorem dX12_readLaw_30 : decode cX12_readLaw 30 = .ok (.bipush 6, 2) := by decide +kernel
theorem dX12_readLaw_32 : decode cX12_readLaw 32 = .ok (.invokevirtual 162, 3) := by decide +kernel
theorem dX12_readLaw_35 : decode cX12_readLaw 35 = .ok (.ifCond .eq 27, 3) := by decide +kernel
theorem dX12_readLaw_38 : decode cX12_readLaw 38 = .ok (.aload_n 0, 1) := by decide +kernel
theorem dX12_readLaw_39 : decode cX12_readLaw 39 = .ok (.getfield 22, 3) := by decide +kernel
theorem dX12_readLaw_42 : decode cX12_readLaw 42 = .ok (.bipush 87, 2) := by decide +kernel
theorem dX12_readLaw_44 : decode cX12_readLaw 44 = .ok (.iload_n 1, 1) := by decide +kernel
theorem dX12_readLaw_45 : decode cX12_readLaw 45 = .ok (.iastore, 1) := by decide +kernel
theorem dX12_readLaw_46 : decode cX12_readLaw 46 = .ok (.aload_n 0, 1) := by decide +kernel
theorem dX12_readLaw_47 : decode cX12_readLaw 47 = .ok (.getfield 22, 3) := by decide +kernel
theorem dX12_readLaw_50 : decode cX12_readLaw 50 = .ok (.bipush 88, 2) := by decide +kernel
theorem dX12_readLaw_52 : decode cX12_readLaw 52 = .ok (.iload_n 2, 1) := by decide +kernel
theorem dX12_readLaw_53 : decode cX12_readLaw 53 = .ok (.iastore, 1) := by decide +kernel
theorem dX12_readLaw_54 : decode cX12_readLaw 54 = .ok (.aload_n 0, 1) := by decide +kernel
theorem dX12_readLaw_55 : decode cX12_readLaw 55 = .ok (.getfield 22, 3) := by decide +kernel
theorem dX12_readLaw_58 : decode cX12_readLaw 58 = .ok (.bipush 89, 2) := by decide +kernel
theorem dX12_readLaw_60 : decode cX12_readLaw 60 = .ok (.iload_n 3, 1) := by decide +kernel
theorem dX12_readLaw_61 : decode cX12_readLaw 61 = .ok (.iastore, 1) := by decide +kernel
theorem dX12_readLaw_62 : decode cX12_readLaw 62 = .ok (.return_, 1) := by decide +kernel
def fX12_readLaw (M : jw_M) : Option jw_M :=
  Option.bind (fX12_must 1 M) (fun M1 => jw_b2 (fX12_number 0 20 M1) (fun v2 M3 => Option.bind (some v2) (fun v4 => jw_b2 (fX12_number 0 30 M3) (fun v5 M6 => Option.bind (some v5) (fun v7 => jw_b2 (fX12_number 1 9 M6) (fun v8 M9 => Option.bind (some v8) (fun v10 => jw_b2 (fX12_ends 6 M9) (fun v11 M12 => if v11 = 0 then (some M12) else (if 0 ≤ (87 : Int) ∧ (87 : Int) < 104 then Option.bind (some (jw_up M12 132 87 v4)) (fun M13 => if 0 ≤ (88 : Int) ∧ (88 : Int) < 104 then Option.bind (some (jw_up M13 132 88 v7)) (fun M14 => if 0 ≤ (89 : Int) ∧ (89 : Int) < 104 then Option.bind (some (jw_up M14 132 89 v10)) (fun M15 => some M15) else none) else none) else none)))))))))
set_option maxRecDepth 100000 in
theorem rX12_readLaw (G : jw_G) (M : jw_M) : jw_Rn G YX12_readLaw 6 0 0 true (fun M1 => (0, M1)) 0 [(0, jR G 127)] [] M (fX12_readLaw M) := by
  unfold fX12_readLaw
  refine jw_aloadR (pc := 0) 0 dX12_readLaw_0 rfl ?_
  refine jw_iconst (pc := 1) dX12_readLaw_1 ?_
  refine jw_callVM (pc := 2) (As := [jI 1]) (st := []) dX12_readLaw_2 rfl (Nat.le_of_ble_eq_true rfl) qX12_must jt_1410 jt_1412 jp_50 rfl rfl (Nat.le_of_ble_eq_true rfl) jv_12 rfl jg_127 jl_127 (by decide) (jw_ho jg_127 (by decide)) (kX12_must G 1 (jw_rc _ rfl) M) (fun M1 => ?_)
  refine jw_aloadR (pc := 5) 0 dX12_readLaw_5 rfl ?_
  refine jw_iconst (pc := 6) dX12_readLaw_6 ?_
  refine jw_bipush (pc := 7) dX12_readLaw_7 rfl ?_
  refine jw_callVMi (pc := 9) (As := [jI 0, jI 20]) (st := []) dX12_readLaw_9 rfl (Nat.le_of_ble_eq_true rfl) qX12_number jt_1414 jt_1416 jp_51 rfl rfl (Nat.le_of_ble_eq_true rfl) jv_12 rfl jg_127 jl_127 (by decide) (jw_ho jg_127 (by decide)) (kX12_number G 0 20 (jw_rc _ rfl) (jw_rc _ rfl) M1) (fun v2 M3 hv2 => ?_)
  refine jw_istore_nL (pc := 12) (lv' := (fun y => [(1, y), (0, jR G 127)])) dX12_readLaw_12 hv2 (by decide) (fun _ => rfl) (fun v4 hv4 => ?_)
  refine jw_aloadR (pc := 13) 1 dX12_readLaw_13 rfl ?_
  refine jw_iconst (pc := 14) dX12_readLaw_14 ?_
  refine jw_bipush (pc := 15) dX12_readLaw_15 rfl ?_
  refine jw_callVMi (pc := 17) (As := [jI 0, jI 30]) (st := []) dX12_readLaw_17 rfl (Nat.le_of_ble_eq_true rfl) qX12_number jt_1414 jt_1416 jp_51 rfl rfl (Nat.le_of_ble_eq_true rfl) jv_12 rfl jg_127 jl_127 (by decide) (jw_ho jg_127 (by decide)) (kX12_number G 0 30 (jw_rc _ rfl) (jw_rc _ rfl) M3) (fun v5 M6 hv5 => ?_)
  refine jw_istore_nL (pc := 20) (lv' := (fun y => [(2, y), (1, jI v4), (0, jR G 127)])) dX12_readLaw_20 hv5 (by decide) (fun _ => rfl) (fun v7 hv7 => ?_)
  refine jw_aloadR (pc := 21) 2 dX12_readLaw_21 rfl ?_
  refine jw_iconst (pc := 22) dX12_readLaw_22 ?_
  refine jw_bipush (pc := 23) dX12_readLaw_23 rfl ?_
  refine jw_callVMi (pc := 25) (As := [jI 1, jI 9]) (st := []) dX12_readLaw_25 rfl (Nat.le_of_ble_eq_true rfl) qX12_number jt_1414 jt_1416 jp_51 rfl rfl (Nat.le_of_ble_eq_true rfl) jv_12 rfl jg_127 jl_127 (by decide) (jw_ho jg_127 (by decide)) (kX12_number G 1 9 (jw_rc _ rfl) (jw_rc _ rfl) M6) (fun v8 M9 hv8 => ?_)
  refine jw_istore_nL (pc := 28) (lv' := (fun y => [(3, y), (2, jI v7), (1, jI v4), (0, jR G 127)])) dX12_readLaw_28 hv8 (by decide) (fun _ => rfl) (fun v10 hv10 => ?_)
  refine jw_aloadR (pc := 29) 3 dX12_readLaw_29 rfl ?_
  refine jw_bipush (pc := 30) dX12_readLaw_30 rfl ?_
  refine jw_callVMz (pc := 32) (As := [jI 6]) (st := []) dX12_readLaw_32 rfl (Nat.le_of_ble_eq_true rfl) qX12_ends jt_1422 jt_1424 jp_53 rfl rfl (Nat.le_of_ble_eq_true rfl) jv_12 rfl jg_127 jl_127 (by decide) (jw_ho jg_127 (by decide)) (kX12_ends G 6 (jw_rc _ rfl) M9) (fun v11 M12 hv11 => ?_)
  refine jw_if_eq (pc := 35) 62 dX12_readLaw_35 (by decide) (jw_bz hv11) (fun _ => ?_) (fun _ => ?_)
  · exact jw_ret (pc := 62) (v := 0) dX12_readLaw_62 trivial rfl rfl
  · refine jw_aloadR (pc := 38) 3 dX12_readLaw_38 rfl ?_
    refine jw_getR (pc := 39) (j := 6) rfl dX12_readLaw_39 jv_12 ji_12 (Or.inl jt_1237) jg_127 jl_127 (by decide) (by decide) rfl jf_12_6 ?_
    refine jw_bipush (pc := 42) dX12_readLaw_42 rfl ?_
    refine jw_iload_n (pc := 44) 2 dX12_readLaw_44 rfl ?_
    refine jw_iast (pc := 45) dX12_readLaw_45 jg_132 jl_132 (jw_ho jg_132 (by decide)) (jw_rc _ rfl) hv4 rfl ?_
    refine jw_letM (fun M13 => ?_)
    refine jw_aloadR (pc := 46) 3 dX12_readLaw_46 rfl ?_
    refine jw_getR (pc := 47) (j := 6) rfl dX12_readLaw_47 jv_12 ji_12 (Or.inl jt_1237) jg_127 jl_127 (by decide) (by decide) rfl jf_12_6 ?_
    refine jw_bipush (pc := 50) dX12_readLaw_50 rfl ?_
    refine jw_iload_n (pc := 52) 1 dX12_readLaw_52 rfl ?_
    refine jw_iast (pc := 53) dX12_readLaw_53 jg_132 jl_132 (jw_ho jg_132 (by decide)) (jw_rc _ rfl) hv7 rfl ?_
    refine jw_letM (fun M14 => ?_)
    refine jw_aloadR (pc := 54) 3 dX12_readLaw_54 rfl ?_
    refine jw_getR (pc := 55) (j := 6) rfl dX12_readLaw_55 jv_12 ji_12 (Or.inl jt_1237) jg_127 jl_127 (by decide) (by decide) rfl jf_12_6 ?_
    refine jw_bipush (pc := 58) dX12_readLaw_58 rfl ?_
    refine jw_iload_n (pc := 60) 0 dX12_readLaw_60 rfl ?_
    refine jw_iast (pc := 61) dX12_readLaw_61 jg_132 jl_132 (jw_ho jg_132 (by decide)) (jw_rc _ rfl) hv10 rfl ?_
    refine jw_letM (fun M15 => ?_)
    exact jw_ret (pc := 62) (v := 0) dX12_readLaw_62 trivial rfl rfl
theorem kX12_readLaw (G : jw_G) (M : jw_M) : jw_Ct G YX12_readLaw none 6 0 0 true (fun M1 => (0, M1)) yX12_readLaw [jR G 127] M (fX12_readLaw M) := jw_met (by decide) rfl rfl rfl (Nat.le_of_ble_eq_true rfl) (rX12_readLaw G M)
abbrev YX12_readPeople : jw_Y := (RX12, cX12_readPeople, 1, 0, "readPeople")
theorem qX12_readPeople : jw_cy YX12_readPeople none yX12_readPeople 0 := ⟨by decide, jt_1443, jt_14, by decide, by decide +kernel⟩
theorem dX12_readPeople_0 : decode cX12_readPeople 0 = .ok (.aload_n 0, 1) := by decide +kernel
theorem dX12_readPeople_1 : decode cX12_readPeople 1 = .ok (.invokevirtual 169, 3) := by decide +kernel
theorem dX12_readPeople_4 : decode cX12_readPeople 4 = .ok (.ldc2_w 173, 3) := by decide +kernel
theorem dX12_readPeople_7 : decode cX12_readPeople 7 = .ok (.lcmp, 1) := by decide +kernel
theorem dX12_readPeople_8 : decode cX12_readPeople 8 = .ok (.ifCond .ne 10, 3) := by decide +kernel
theorem dX12_readPeople_11 : decode cX12_readPeople 11 = .ok (.aload_n 0, 1) := by decide +kernel
theorem dX12_readPeople_12 : decode cX12_readPeople 12 = .ok (.invokevirtual 175, 3) := by decide +kernel
theorem dX12_readPeople_15 : decode cX12_readPeople 15 = .ok (.goto (-15), 3) := by decide +kernel
theorem dX12_readPeople_18 : decode cX12_readPeople 18 = .ok (.aload_n 0, 1) := by decide +kernel
theorem dX12_readPeople_19 : decode cX12_readPeople 19 = .ok (.invokevirtual 169, 3) := by decide +kernel
theorem dX12_readPeople_22 : decode cX12_readPeople 22 = .ok (.ldc2_w 178, 3) := by decide +kernel
theorem dX12_readPeople_25 : decode cX12_readPeople 25 = .ok (.lcmp, 1) := by decide +kernel
theorem dX12_readPeople_26 : decode cX12_readPeople 26 = .ok (.ifCond .ne 10, 3) := by decide +kernel
theorem dX12_readPeople_29 : decode cX12_readPeople 29 = .ok (.aload_n 0, 1) := by decide +kernel
theorem dX12_readPeople_30 : decode cX12_readPeople 30 = .ok (.invokevirtual 180, 3) := by decide +kernel
theorem dX12_readPeople_33 : decode cX12_readPeople 33 = .ok (.goto (-15), 3) := by decide +kernel
theorem dX12_readPeople_36 : decode cX12_readPeople 36 = .ok (.aload_n 0, 1) := by decide +kernel
theorem dX12_readPeople_37 : decode cX12_readPeople 37 = .ok (.invokevirtual 169, 3) := by decide +kernel
theorem dX12_readPeople_40 : decode cX12_readPeople 40 = .ok (.ldc2_w 183, 3) := by decide +kernel
theorem dX12_readPeople_43 : decode cX12_readPeople 43 = .ok (.lcmp, 1) := by decide +kernel
theorem dX12_readPeople_44 : decode cX12_readPeople 44 = .ok (.ifCond .ne 10, 3) := by decide +kernel
theorem dX12_readPeople_47 : decode cX12_readPeople 47 = .ok (.aload_n 0, 1) := by decide +kernel
theorem dX12_readPeople_48 : decode cX12_readPeople 48 = .ok (.invokevirtual 185, 3) := by decide +kernel
theorem dX12_readPeople_51 : decode cX12_readPeople 51 = .ok (.goto (-15), 3) := by decide +kernel
theorem dX12_readPeople_54 : decode cX12_readPeople 54 = .ok (.aload_n 0, 1) := by decide +kernel
theorem dX12_readPeople_55 : decode cX12_readPeople 55 = .ok (.invokevirtual 169, 3) := by decide +kernel
theorem dX12_readPeople_58 : decode cX12_readPeople 58 = .ok (.ldc2_w 188, 3) := by decide +kernel
theorem dX12_readPeople_61 : decode cX12_readPeople 61 = .ok (.lcmp, 1) := by decide +kernel
theorem dX12_readPeople_62 : decode cX12_readPeople 62 = .ok (.ifCond .ne 7, 3) := by decide +kernel
theorem dX12_readPeople_65 : decode cX12_readPeople 65 = .ok (.aload_n 0, 1) := by decide +kernel
theorem dX12_readPeople_66 : decode cX12_readPeople 66 = .ok (.invokevirtual 190, 3) := by decide +kernel
theorem dX12_readPeople_69 : decode cX12_readPeople 69 = .ok (.aload_n 0, 1) := by decide +kernel
theorem dX12_readPeople_70 : decode cX12_readPeople 70 = .ok (.getfield 133, 3) := by decide +kernel
theorem dX12_readPeople_73 : decode cX12_readPeople 73 = .ok (.ifCond .ne 16, 3) := by decide +kernel
theorem dX12_readPeople_76 : decode cX12_readPeople 76 = .ok (.aload_n 0, 1) := by decide +kernel
theorem dX12_readPeople_77 : decode cX12_readPeople 77 = .ok (.getfield 121, 3) := by decide +kernel
theorem dX12_readPeople_80 : decode cX12_readPeople 80 = .ok (.iconst 1, 1) := by decide +kernel
theorem dX12_readPeople_81 : decode cX12_readPeople 81 = .ok (.if_icmp .eq 8, 3) := by decide +kernel
theorem dX12_readPeople_84 : decode cX12_readPeople 84 = .ok (.aload_n 0, 1) := by decide +kernel
theorem dX12_readPeople_85 : decode cX12_readPeople 85 = .ok (.iconst 1, 1) := by decide +kernel
theorem dX12_readPeople_86 : decode cX12_readPeople 86 = .ok (.invokevirtual 139, 3) := by decide +kernel
theorem dX12_readPeople_89 : decode cX12_readPeople 89 = .ok (.return_, 1) := by decide +kernel
def fX12_readPeople_69 (M : jw_M) : Option jw_M :=
  if M 127 17 = 0 then (if M 127 14 = 1 then (some M) else (Option.bind (fX12_bad 1 M) (fun M11 => some M11))) else (some M)
set_option maxRecDepth 100000 in
theorem pX12_readPeople_69 (G : jw_G) : ∀ (M : jw_M), jw_Rn G YX12_readPeople 8 0 0 true (fun M1 => (0, M1)) 69 [(0, jR G 127)] [] M (fX12_readPeople_69 M) := by
  intro M
  unfold fX12_readPeople_69
  refine jw_aloadR (pc := 69) 0 dX12_readPeople_69 rfl ?_
  refine jw_getI (pc := 70) (j := 17) rfl dX12_readPeople_70 jv_12 ji_12 (Or.inl jt_1248) jg_127 jl_127 (by decide) (by decide) (jw_ho jg_127 (by decide)) (Or.inl rfl) rfl (fun h9 => ?_)
  refine jw_if_ne (pc := 73) 89 dX12_readPeople_73 (by decide) h9 (fun _ => ?_) (fun _ => ?_)
  · refine jw_aloadR (pc := 76) 0 dX12_readPeople_76 rfl ?_
    refine jw_getI (pc := 77) (j := 14) rfl dX12_readPeople_77 jv_12 ji_12 (Or.inl jt_1245) jg_127 jl_127 (by decide) (by decide) (jw_ho jg_127 (by decide)) (Or.inl rfl) rfl (fun h10 => ?_)
    refine jw_iconst (pc := 80) dX12_readPeople_80 ?_
    refine jw_ic_eq (pc := 81) 89 dX12_readPeople_81 (by decide) h10 (jw_rc _ rfl) (fun _ => ?_) (fun _ => ?_)
    · exact jw_ret (pc := 89) (v := 0) dX12_readPeople_89 trivial rfl rfl
    · refine jw_aloadR (pc := 84) 0 dX12_readPeople_84 rfl ?_
      refine jw_iconst (pc := 85) dX12_readPeople_85 ?_
      refine jw_callVM (pc := 86) (As := [jI 1]) (st := []) dX12_readPeople_86 rfl (Nat.le_of_ble_eq_true rfl) qX12_bad jt_1398 jt_1400 jp_47 rfl rfl (Nat.le_of_ble_eq_true rfl) jv_12 rfl jg_127 jl_127 (by decide) (jw_ho jg_127 (by decide)) (kX12_bad G 1 (jw_rc _ rfl) M) (fun M11 => ?_)
      exact jw_ret (pc := 89) (v := 0) dX12_readPeople_89 trivial rfl rfl
  · exact jw_ret (pc := 89) (v := 0) dX12_readPeople_89 trivial rfl rfl
def fX12_readPeople_36 : Nat → jw_M → Option jw_M
  | 0, _ => none
  | k + 1, M => Option.bind (fX12_word  M) (fun v5 => if jw_cmp v5 109287261888882 = 0 then (Option.bind (fX12_readCellar  M) (fun M6 => fX12_readPeople_36 k M6)) else (Option.bind (fX12_word  M) (fun v7 => if jw_cmp v7 7102839 = 0 then (Option.bind (fX12_readLaw  M) (fun M8 => fX12_readPeople_69 M8)) else (fX12_readPeople_69 M))))
set_option maxRecDepth 100000 in
theorem pX12_readPeople_36 (G : jw_G) : ∀ (k : Nat) (M : jw_M), jw_Rn G YX12_readPeople 8 0 0 true (fun M1 => (0, M1)) 36 [(0, jR G 127)] [] M (fX12_readPeople_36 k M) := by
  intro k
  induction k with
  | zero =>
    intro M
    exact jw_none
  | succ k ih =>
    intro M
    rw [fX12_readPeople_36]
    refine jw_aloadR (pc := 36) 0 dX12_readPeople_36 rfl ?_
    refine jw_callVl (pc := 37) (As := []) (st := []) dX12_readPeople_37 rfl (Nat.le_of_ble_eq_true rfl) qX12_word jt_1393 jt_1395 jp_46 rfl rfl (Nat.le_of_ble_eq_true rfl) jv_12 rfl jg_127 jl_127 (by decide) (jw_ho jg_127 (by decide)) (kX12_word G  M) (fun v5 hv5 => ?_)
    refine jw_ldc2 (pc := 40) (n := 109287261888882) dX12_readPeople_40 jt_1454 (by decide) ?_
    refine jw_lcmp (pc := 43) dX12_readPeople_43 hv5 (jw_qc _ rfl) ?_
    refine jw_if_ne (pc := 44) 54 dX12_readPeople_44 (by decide) (jw_cmpr _ _) (fun _ => ?_) (fun _ => ?_)
    · refine jw_aloadR (pc := 47) 0 dX12_readPeople_47 rfl ?_
      refine jw_callVM (pc := 48) (As := []) (st := []) dX12_readPeople_48 rfl (Nat.le_of_ble_eq_true rfl) qX12_readCellar jt_1455 jt_1457 jp_60 rfl rfl (Nat.le_of_ble_eq_true rfl) jv_12 rfl jg_127 jl_127 (by decide) (jw_ho jg_127 (by decide)) (kX12_readCellar G  M) (fun M6 => ?_)
      refine jw_goto (pc := 51) 36 dX12_readPeople_51 (by decide) ?_
      exact jw_few [0] rfl (ih M6)
    · refine jw_aloadR (pc := 54) 0 dX12_readPeople_54 rfl ?_
      refine jw_callVl (pc := 55) (As := []) (st := []) dX12_readPeople_55 rfl (Nat.le_of_ble_eq_true rfl) qX12_word jt_1393 jt_1395 jp_46 rfl rfl (Nat.le_of_ble_eq_true rfl) jv_12 rfl jg_127 jl_127 (by decide) (jw_ho jg_127 (by decide)) (kX12_word G  M) (fun v7 hv7 => ?_)
      refine jw_ldc2 (pc := 58) (n := 7102839) dX12_readPeople_58 jt_1459 (by decide) ?_
      refine jw_lcmp (pc := 61) dX12_readPeople_61 hv7 (jw_qc _ rfl) ?_
      refine jw_if_ne (pc := 62) 69 dX12_readPeople_62 (by decide) (jw_cmpr _ _) (fun _ => ?_) (fun _ => ?_)
      · refine jw_aloadR (pc := 65) 0 dX12_readPeople_65 rfl ?_
        refine jw_callVM (pc := 66) (As := []) (st := []) dX12_readPeople_66 rfl (Nat.le_of_ble_eq_true rfl) qX12_readLaw jt_1460 jt_1462 jp_61 rfl rfl (Nat.le_of_ble_eq_true rfl) jv_12 rfl jg_127 jl_127 (by decide) (jw_ho jg_127 (by decide)) (kX12_readLaw G  M) (fun M8 => ?_)
        exact jw_few [0] rfl (pX12_readPeople_69 G M8)
      · exact jw_few [0] rfl (pX12_readPeople_69 G M)
def fX12_readPeople_18 : Nat → jw_M → Option jw_M
  | 0, _ => none
  | k + 1, M => Option.bind (fX12_word  M) (fun v3 => if jw_cmp v3 33602674740454770 = 0 then (Option.bind (fX12_readWatcher  M) (fun M4 => fX12_readPeople_18 k M4)) else (fX12_readPeople_36 jw_fu M))
set_option maxRecDepth 100000 in
theorem pX12_readPeople_18 (G : jw_G) : ∀ (k : Nat) (M : jw_M), jw_Rn G YX12_readPeople 8 0 0 true (fun M1 => (0, M1)) 18 [(0, jR G 127)] [] M (fX12_readPeople_18 k M) := by
  intro k
  induction k with
  | zero =>
    intro M
    exact jw_none
  | succ k ih =>
    intro M
    rw [fX12_readPeople_18]
    refine jw_aloadR (pc := 18) 0 dX12_readPeople_18 rfl ?_
    refine jw_callVl (pc := 19) (As := []) (st := []) dX12_readPeople_19 rfl (Nat.le_of_ble_eq_true rfl) qX12_word jt_1393 jt_1395 jp_46 rfl rfl (Nat.le_of_ble_eq_true rfl) jv_12 rfl jg_127 jl_127 (by decide) (jw_ho jg_127 (by decide)) (kX12_word G  M) (fun v3 hv3 => ?_)
    refine jw_ldc2 (pc := 22) (n := 33602674740454770) dX12_readPeople_22 jt_1449 (by decide) ?_
    refine jw_lcmp (pc := 25) dX12_readPeople_25 hv3 (jw_qc _ rfl) ?_
    refine jw_if_ne (pc := 26) 36 dX12_readPeople_26 (by decide) (jw_cmpr _ _) (fun _ => ?_) (fun _ => ?_)
    · refine jw_aloadR (pc := 29) 0 dX12_readPeople_29 rfl ?_
      refine jw_callVM (pc := 30) (As := []) (st := []) dX12_readPeople_30 rfl (Nat.le_of_ble_eq_true rfl) qX12_readWatcher jt_1450 jt_1452 jp_59 rfl rfl (Nat.le_of_ble_eq_true rfl) jv_12 rfl jg_127 jl_127 (by decide) (jw_ho jg_127 (by decide)) (kX12_readWatcher G  M) (fun M4 => ?_)
      refine jw_goto (pc := 33) 18 dX12_readPeople_33 (by decide) ?_
      exact jw_few [0] rfl (ih M4)
    · exact jw_few [0] rfl (pX12_readPeople_36 G jw_fu M)
def fX12_readPeople_0 : Nat → jw_M → Option jw_M
  | 0, _ => none
  | k + 1, M => Option.bind (fX12_word  M) (fun v1 => if jw_cmp v1 126879447934322 = 0 then (Option.bind (fX12_readSeller  M) (fun M2 => fX12_readPeople_0 k M2)) else (fX12_readPeople_18 jw_fu M))
set_option maxRecDepth 100000 in
theorem pX12_readPeople_0 (G : jw_G) : ∀ (k : Nat) (M : jw_M), jw_Rn G YX12_readPeople 8 0 0 true (fun M1 => (0, M1)) 0 [(0, jR G 127)] [] M (fX12_readPeople_0 k M) := by
  intro k
  induction k with
  | zero =>
    intro M
    exact jw_none
  | succ k ih =>
    intro M
    rw [fX12_readPeople_0]
    refine jw_aloadR (pc := 0) 0 dX12_readPeople_0 rfl ?_
    refine jw_callVl (pc := 1) (As := []) (st := []) dX12_readPeople_1 rfl (Nat.le_of_ble_eq_true rfl) qX12_word jt_1393 jt_1395 jp_46 rfl rfl (Nat.le_of_ble_eq_true rfl) jv_12 rfl jg_127 jl_127 (by decide) (jw_ho jg_127 (by decide)) (kX12_word G  M) (fun v1 hv1 => ?_)
    refine jw_ldc2 (pc := 4) (n := 126879447934322) dX12_readPeople_4 jt_1444 (by decide) ?_
    refine jw_lcmp (pc := 7) dX12_readPeople_7 hv1 (jw_qc _ rfl) ?_
    refine jw_if_ne (pc := 8) 18 dX12_readPeople_8 (by decide) (jw_cmpr _ _) (fun _ => ?_) (fun _ => ?_)
    · refine jw_aloadR (pc := 11) 0 dX12_readPeople_11 rfl ?_
      refine jw_callVM (pc := 12) (As := []) (st := []) dX12_readPeople_12 rfl (Nat.le_of_ble_eq_true rfl) qX12_readSeller jt_1445 jt_1447 jp_58 rfl rfl (Nat.le_of_ble_eq_true rfl) jv_12 rfl jg_127 jl_127 (by decide) (jw_ho jg_127 (by decide)) (kX12_readSeller G  M) (fun M2 => ?_)
      refine jw_goto (pc := 15) 0 dX12_readPeople_15 (by decide) ?_
      exact jw_few [0] rfl (ih M2)
    · exact jw_few [0] rfl (pX12_readPeople_18 G jw_fu M)
def fX12_readPeople (M : jw_M) : Option jw_M :=
  fX12_readPeople_0 jw_fu M
set_option maxRecDepth 100000 in
theorem rX12_readPeople (G : jw_G) (M : jw_M) : jw_Rn G YX12_readPeople 8 0 0 true (fun M1 => (0, M1)) 0 [(0, jR G 127)] [] M (fX12_readPeople M) := by
  unfold fX12_readPeople
  exact jw_few [0] rfl (pX12_readPeople_0 G jw_fu M)
theorem kX12_readPeople (G : jw_G) (M : jw_M) : jw_Ct G YX12_readPeople none 8 0 0 true (fun M1 => (0, M1)) yX12_readPeople [jR G 127] M (fX12_readPeople M) := jw_met (by decide) rfl rfl rfl (Nat.le_of_ble_eq_true rfl) (rX12_readPeople G M)
abbrev YX12_layWays : jw_Y := (RX12, cX12_layWays, 5, 0, "layWays")
theorem qX12_layWays : jw_cy YX12_layWays none yX12_layWays 0 := ⟨by decide, jt_1468, jt_14, by decide, by decide +kernel⟩
theorem dX12_layWays_0 : decode cX12_layWays 0 = .ok (.iconst 0, 1) := by decide +kernel
theorem dX12_layWays_1 : decode cX12_layWays 1 = .ok (.istore_n 1, 1) := by decide +kernel
theorem dX12_layWays_2 : decode cX12_layWays 2 = .ok (.iload_n 1, 1) := by decide +kernel
theorem dX12_layWays_3 : decode cX12_layWays 3 = .ok (.bipush 49, 2) := by decide +kernel
theorem dX12_layWays_5 : decode cX12_layWays 5 = .ok (.if_icmp .ge 99, 3) := by decide +kernel
theorem dX12_layWays_8 : decode cX12_layWays 8 = .ok (.aload_n 0, 1) := by decide +kernel
theorem dX12_layWays_9 : decode cX12_layWays 9 = .ok (.getfield 19, 3) := by decide +kernel
theorem dX12_layWays_12 : decode cX12_layWays 12 = .ok (.bipush 14, 2) := by decide +kernel
theorem dX12_layWays_14 : decode cX12_layWays 14 = .ok (.iload_n 1, 1) := by decide +kernel
theorem dX12_layWays_15 : decode cX12_layWays 15 = .ok (.iadd, 1) := by decide +kernel
theorem dX12_layWays_16 : decode cX12_layWays 16 = .ok (.iaload, 1) := by decide +kernel
theorem dX12_layWays_17 : decode cX12_layWays 17 = .ok (.istore_n 2, 1) := by decide +kernel
theorem dX12_layWays_18 : decode cX12_layWays 18 = .ok (.aload_n 0, 1) := by decide +kernel
theorem dX12_layWays_19 : decode cX12_layWays 19 = .ok (.getfield 31, 3) := by decide +kernel
theorem dX12_layWays_22 : decode cX12_layWays 22 = .ok (.iload_n 1, 1) := by decide +kernel
theorem dX12_layWays_23 : decode cX12_layWays 23 = .ok (.iload_n 1, 1) := by decide +kernel
theorem dX12_layWays_24 : decode cX12_layWays 24 = .ok (.bipush 7, 2) := by decide +kernel
theorem dX12_layWays_26 : decode cX12_layWays 26 = .ok (.idiv, 1) := by decide +kernel
theorem dX12_layWays_27 : decode cX12_layWays 27 = .ok (.iload_n 1, 1) := by decide +kernel
theorem dX12_layWays_28 : decode cX12_layWays 28 = .ok (.bipush 7, 2) := by decide +kernel
theorem dX12_layWays_30 : decode cX12_layWays 30 = .ok (.irem, 1) := by decide +kernel
theorem dX12_layWays_31 : decode cX12_layWays 31 = .ok (.if_icmp .ne 7, 3) := by decide +kernel
theorem dX12_layWays_34 : decode cX12_layWays 34 = .ok (.iconst 0, 1) := by decide +kernel
theorem dX12_layWays_35 : decode cX12_layWays 35 = .ok (.goto 13, 3) := by decide +kernel
theorem dX12_layWays_38 : decode cX12_layWays 38 = .ok (.iload_n 2, 1) := by decide +kernel
theorem dX12_layWays_39 : decode cX12_layWays 39 = .ok (.ifCond .ne 8, 3) := by decide +kernel
theorem dX12_layWays_42 : decode cX12_layWays 42 = .ok (.ldc 223, 2) := by decide +kernel
theorem dX12_layWays_44 : decode cX12_layWays 44 = .ok (.goto 4, 3) := by decide +kernel
theorem dX12_layWays_47 : decode cX12_layWays 47 = .ok (.iload_n 2, 1) := by decide +kernel
theorem dX12_layWays_48 : decode cX12_layWays 48 = .ok (.iastore, 1) := by decide +kernel
theorem dX12_layWays_49 : decode cX12_layWays 49 = .ok (.aload_n 0, 1) := by decide +kernel
theorem dX12_layWays_50 : decode cX12_layWays 50 = .ok (.getfield 34, 3) := by decide +kernel
theorem dX12_layWays_53 : decode cX12_layWays 53 = .ok (.iload_n 1, 1) := by decide +kernel
theorem dX12_layWays_54 : decode cX12_layWays 54 = .ok (.iload_n 1, 1) := by decide +kernel
theorem dX12_layWays_55 : decode cX12_layWays 55 = .ok (.bipush 7, 2) := by decide +kernel
theorem dX12_layWays_57 : decode cX12_layWays 57 = .ok (.idiv, 1) := by decide +kernel
theorem dX12_layWays_58 : decode cX12_layWays 58 = .ok (.iload_n 1, 1) := by decide +kernel
theorem dX12_layWays_59 : decode cX12_layWays 59 = .ok (.bipush 7, 2) := by decide +kernel
theorem dX12_layWays_61 : decode cX12_layWays 61 = .ok (.irem, 1) := by decide +kernel
theorem dX12_layWays_62 : decode cX12_layWays 62 = .ok (.if_icmp .ne 7, 3) := by decide +kernel
theorem dX12_layWays_65 : decode cX12_layWays 65 = .ok (.iconst 0, 1) := by decide +kernel
theorem dX12_layWays_66 : decode cX12_layWays 66 = .ok (.goto 31, 3) := by decide +kernel
theorem dX12_layWays_69 : decode cX12_layWays 69 = .ok (.iload_n 2, 1) := by decide +kernel
theorem dX12_layWays_70 : decode cX12_layWays 70 = .ok (.ifCond .ne 8, 3) := by decide +kernel
theorem dX12_layWays_73 : decode cX12_layWays 73 = .ok (.ldc 223, 2) := by decide +kernel
theorem dX12_layWays_75 : decode cX12_layWays 75 = .ok (.goto 22, 3) := by decide +kernel
theorem dX12_layWays_78 : decode cX12_layWays 78 = .ok (.iload_n 2, 1) := by decide +kernel
theorem dX12_layWays_79 : decode cX12_layWays 79 = .ok (.aload_n 0, 1) := by decide +kernel
theorem dX12_layWays_80 : decode cX12_layWays 80 = .ok (.getfield 19, 3) := by decide +kernel
theorem dX12_layWays_83 : decode cX12_layWays 83 = .ok (.bipush 89, 2) := by decide +kernel
theorem dX12_layWays_85 : decode cX12_layWays 85 = .ok (.iaload, 1) := by decide +kernel
theorem dX12_layWays_86 : decode cX12_layWays 86 = .ok (.iadd, 1) := by decide +kernel
theorem dX12_layWays_87 : decode cX12_layWays 87 = .ok (.iconst 1, 1) := by decide +kernel
theorem dX12_layWays_88 : decode cX12_layWays 88 = .ok (.isub, 1) := by decide +kernel
theorem dX12_layWays_89 : decode cX12_layWays 89 = .ok (.aload_n 0, 1) := by decide +kernel
theorem dX12_layWays_90 : decode cX12_layWays 90 = .ok (.getfield 19, 3) := by decide +kernel
theorem dX12_layWays_93 : decode cX12_layWays 93 = .ok (.bipush 89, 2) := by decide +kernel
theorem dX12_layWays_95 : decode cX12_layWays 95 = .ok (.iaload, 1) := by decide +kernel
theorem dX12_layWays_96 : decode cX12_layWays 96 = .ok (.idiv, 1) := by decide +kernel
theorem dX12_layWays_97 : decode cX12_layWays 97 = .ok (.iastore, 1) := by decide +kernel
theorem dX12_layWays_98 : decode cX12_layWays 98 = .ok (.iinc 1 1, 3) := by decide +kernel
theorem dX12_layWays_101 : decode cX12_layWays 101 = .ok (.goto (-99), 3) := by decide +kernel
theorem dX12_layWays_104 : decode cX12_layWays 104 = .ok (.iconst 0, 1) := by decide +kernel
theorem dX12_layWays_105 : decode cX12_layWays 105 = .ok (.istore_n 1, 1) := by decide +kernel
theorem dX12_layWays_106 : decode cX12_layWays 106 = .ok (.iload_n 1, 1) := by decide +kernel
theorem dX12_layWays_107 : decode cX12_layWays 107 = .ok (.bipush 7, 2) := by decide +kernel
theorem dX12_layWays_109 : decode cX12_layWays 109 = .ok (.if_icmp .ge 148, 3) := by decide +kernel
theorem dX12_layWays_112 : decode cX12_layWays 112 = .ok (.iconst 0, 1) := by decide +kernel
theorem dX12_layWays_113 : decode cX12_layWays 113 = .ok (.istore_n 2, 1) := by decide +kernel
theorem dX12_layWays_114 : decode cX12_layWays 114 = .ok (.iload_n 2, 1) := by decide +kernel
theorem dX12_layWays_115 : decode cX12_layWays 115 = .ok (.bipush 49, 2) := by decide +kernel
theorem dX12_layWays_117 : decode cX12_layWays 117 = .ok (.if_icmp .ge 134, 3) := by decide +kernel
theorem dX12_layWays_120 : decode cX12_layWays 120 = .ok (.bipush 7, 2) := by decide +kernel
theorem dX12_layWays_122 : decode cX12_layWays 122 = .ok (.iload_n 2, 1) := by decide +kernel
theorem dX12_layWays_123 : decode cX12_layWays 123 = .ok (.bipush 7, 2) := by decide +kernel
theorem dX12_layWays_125 : decode cX12_layWays 125 = .ok (.idiv, 1) := by decide +kernel
theorem dX12_layWays_126 : decode cX12_layWays 126 = .ok (.imul, 1) := by decide +kernel
theorem dX12_layWays_127 : decode cX12_layWays 127 = .ok (.iload_n 1, 1) := by decide +kernel
theorem dX12_layWays_128 : decode cX12_layWays 128 = .ok (.iadd, 1) := by decide +kernel
theorem dX12_layWays_129 : decode cX12_layWays 129 = .ok (.istore_n 3, 1) := by decide +kernel
theorem dX12_layWays_130 : decode cX12_layWays 130 = .ok (.bipush 7, 2) := by decide +kernel
theorem dX12_layWays_132 : decode cX12_layWays 132 = .ok (.iload_n 1, 1) := by decide +kernel
theorem dX12_layWays_133 : decode cX12_layWays 133 = .ok (.imul, 1) := by decide +kernel
theorem dX12_layWays_134 : decode cX12_layWays 134 = .ok (.iload_n 2, 1) := by decide +kernel
theorem dX12_layWays_135 : decode cX12_layWays 135 = .ok (.bipush 7, 2) := by decide +kernel
theorem dX12_layWays_137 : decode cX12_layWays 137 = .ok (.irem, 1) := by decide +kernel
theorem dX12_layWays_138 : decode cX12_layWays 138 = .ok (.iadd, 1) := by decide +kernel
theorem dX12_layWays_139 : decode cX12_layWays 139 = .ok (.istore 4, 2) := by decide +kernel
theorem dX12_layWays_141 : decode cX12_layWays 141 = .ok (.aload_n 0, 1) := by decide +kernel
theorem dX12_layWays_142 : decode cX12_layWays 142 = .ok (.getfield 31, 3) := by decide +kernel
theorem dX12_layWays_145 : decode cX12_layWays 145 = .ok (.iload_n 2, 1) := by decide +kernel
theorem dX12_layWays_146 : decode cX12_layWays 146 = .ok (.aload_n 0, 1) := by decide +kernel
theorem dX12_layWays_147 : decode cX12_layWays 147 = .ok (.getfield 31, 3) := by decide +kernel
theorem dX12_layWays_150 : decode cX12_layWays 150 = .ok (.iload_n 3, 1) := by decide +kernel
theorem dX12_layWays_151 : decode cX12_layWays 151 = .ok (.iaload, 1) := by decide +kernel
theorem dX12_layWays_152 : decode cX12_layWays 152 = .ok (.aload_n 0, 1) := by decide +kernel
theorem dX12_layWays_153 : decode cX12_layWays 153 = .ok (.getfield 31, 3) := by decide +kernel
theorem dX12_layWays_156 : decode cX12_layWays 156 = .ok (.iload 4, 2) := by decide +kernel
theorem dX12_layWays_158 : decode cX12_layWays 158 = .ok (.iaload, 1) := by decide +kernel
theorem dX12_layWays_159 : decode cX12_layWays 159 = .ok (.iadd, 1) := by decide +kernel
theorem dX12_layWays_160 : decode cX12_layWays 160 = .ok (.aload_n 0, 1) := by decide +kernel
theorem dX12_layWays_161 : decode cX12_layWays 161 = .ok (.getfield 31, 3) := by decide +kernel
theorem dX12_layWays_164 : decode cX12_layWays 164 = .ok (.iload_n 2, 1) := by decide +kernel
theorem dX12_layWays_165 : decode cX12_layWays 165 = .ok (.iaload, 1) := by decide +kernel
theorem dX12_layWays_166 : decode cX12_layWays 166 = .ok (.if_icmp .ge 20, 3) := by decide +kernel
theorem dX12_layWays_169 : decode cX12_layWays 169 = .ok (.aload_n 0, 1) := by decide +kernel
theorem dX12_layWays_170 : decode cX12_layWays 170 = .ok (.getfield 31, 3) := by decide +kernel
theorem dX12_layWays_173 : decode cX12_layWays 173 = .ok (.iload_n 3, 1) := by decide +kernel
theorem dX12_layWays_174 : decode cX12_layWays 174 = .ok (.iaload, 1) := by decide +kernel
theorem dX12_layWays_175 : decode cX12_layWays 175 = .ok (.aload_n 0, 1) := by decide +kernel
theorem dX12_layWays_176 : decode cX12_layWays 176 = .ok (.getfield 31, 3) := by decide +kernel
theorem dX12_layWays_179 : decode cX12_layWays 179 = .ok (.iload 4, 2) := by decide +kernel
theorem dX12_layWays_181 : decode cX12_layWays 181 = .ok (.iaload, 1) := by decide +kernel
theorem dX12_layWays_182 : decode cX12_layWays 182 = .ok (.iadd, 1) := by decide +kernel
theorem dX12_layWays_183 : decode cX12_layWays 183 = .ok (.goto 9, 3) := by decide +kernel
theorem dX12_layWays_186 : decode cX12_layWays 186 = .ok (.aload_n 0, 1) := by decide +kernel
theorem dX12_layWays_187 : decode cX12_layWays 187 = .ok (.getfield 31, 3) := by decide +kernel
theorem dX12_layWays_190 : decode cX12_layWays 190 = .ok (.iload_n 2, 1) := by decide +kernel
theorem dX12_layWays_191 : decode cX12_layWays 191 = .ok (.iaload, 1) := by decide +kernel
theorem dX12_layWays_192 : decode cX12_layWays 192 = .ok (.iastore, 1) := by decide +kernel
theorem dX12_layWays_193 : decode cX12_layWays 193 = .ok (.aload_n 0, 1) := by decide +kernel
theorem dX12_layWays_194 : decode cX12_layWays 194 = .ok (.getfield 34, 3) := by decide +kernel
theorem dX12_layWays_197 : decode cX12_layWays 197 = .ok (.iload_n 2, 1) := by decide +kernel
theorem dX12_layWays_198 : decode cX12_layWays 198 = .ok (.aload_n 0, 1) := by decide +kernel
theorem dX12_layWays_199 : decode cX12_layWays 199 = .ok (.getfield 34, 3) := by decide +kernel
theorem dX12_layWays_202 : decode cX12_layWays 202 = .ok (.iload_n 3, 1) := by decide +kernel
theorem dX12_layWays_203 : decode cX12_layWays 203 = .ok (.iaload, 1) := by decide +kernel
theorem dX12_layWays_204 : decode cX12_layWays 204 = .ok (.aload_n 0, 1) := by decide +kernel
theorem dX12_layWays_205 : decode cX12_layWays 205 = .ok (.getfield 34, 3) := by decide +kernel
theorem dX12_layWays_208 : decode cX12_layWays 208 = .ok (.iload 4, 2) := by decide +kernel
theorem dX12_layWays_210 : decode cX12_layWays 210 = .ok (.iaload, 1) := by decide +kernel
theorem dX12_layWays_211 : decode cX12_layWays 211 = .ok (.iadd, 1) := by decide +kernel
theorem dX12_layWays_212 : decode cX12_layWays 212 = .ok (.aload_n 0, 1) := by decide +kernel
theorem dX12_layWays_213 : decode cX12_layWays 213 = .ok (.getfield 34, 3) := by decide +kernel
theorem dX12_layWays_216 : decode cX12_layWays 216 = .ok (.iload_n 2, 1) := by decide +kernel
theorem dX12_layWays_217 : decode cX12_layWays 217 = .ok (.iaload, 1) := by decide +kernel
theorem dX12_layWays_218 : decode cX12_layWays 218 = .ok (.if_icmp .ge 20, 3) := by decide +kernel
theorem dX12_layWays_221 : decode cX12_layWays 221 = .ok (.aload_n 0, 1) := by decide +kernel
theorem dX12_layWays_222 : decode cX12_layWays 222 = .ok (.getfield 34, 3) := by decide +kernel
theorem dX12_layWays_225 : decode cX12_layWays 225 = .ok (.iload_n 3, 1) := by decide +kernel
theorem dX12_layWays_226 : decode cX12_layWays 226 = .ok (.iaload, 1) := by decide +kernel
theorem dX12_layWays_227 : decode cX12_layWays 227 = .ok (.aload_n 0, 1) := by decide +kernel
theorem dX12_layWays_228 : decode cX12_layWays 228 = .ok (.getfield 34, 3) := by decide +kernel
theorem dX12_layWays_231 : decode cX12_layWays 231 = .ok (.iload 4, 2) := by decide +kernel
theorem dX12_layWays_233 : decode cX12_layWays 233 = .ok (.iaload, 1) := by decide +kernel
theorem dX12_layWays_234 : decode cX12_layWays 234 = .ok (.iadd, 1) := by decide +kernel
theorem dX12_layWays_235 : decode cX12_layWays 235 = .ok (.goto 9, 3) := by decide +kernel
theorem dX12_layWays_238 : decode cX12_layWays 238 = .ok (.aload_n 0, 1) := by decide +kernel
theorem dX12_layWays_239 : decode cX12_layWays 239 = .ok (.getfield 34, 3) := by decide +kernel
theorem dX12_layWays_242 : decode cX12_layWays 242 = .ok (.iload_n 2, 1) := by decide +kernel
theorem dX12_layWays_243 : decode cX12_layWays 243 = .ok (.iaload, 1) := by decide +kernel
theorem dX12_layWays_244 : decode cX12_layWays 244 = .ok (.iastore, 1) := by decide +kernel
theorem dX12_layWays_245 : decode cX12_layWays 245 = .ok (.iinc 2 1, 3) := by decide +kernel
theorem dX12_layWays_248 : decode cX12_layWays 248 = .ok (.goto (-134), 3) := by decide +kernel
theorem dX12_layWays_251 : decode cX12_layWays 251 = .ok (.iinc 1 1, 3) := by decide +kernel
theorem dX12_layWays_254 : decode cX12_layWays 254 = .ok (.goto (-148), 3) := by decide +kernel
theorem dX12_layWays_257 : decode cX12_layWays 257 = .ok (.return_, 1) := by decide +kernel
def fX12_layWays_97 (r2 : Int → jw_M → Option jw_M) (x1 : Int) (xs0 : Int) (xs1 : Int) (M : jw_M) : Option jw_M :=
  if 0 ≤ xs1 ∧ xs1 < 49 then Option.bind (some (jw_up M 136 xs1 xs0)) (fun M5 => Option.bind (some (jw_w (x1 + 1))) (fun v6 => r2 v6 M5)) else none
set_option maxRecDepth 100000 in
theorem pX12_layWays_97 (G : jw_G) (r2 : Int → jw_M → Option jw_M) (hr2 : ∀ (x1 : Int) (hx1 : jw_r x1) (M : jw_M), jw_Rn G YX12_layWays 1 0 0 true (fun M1 => (0, M1)) 2 [(0, jR G 127), (1, jI x1)] [] M (r2 x1 M)) : ∀ (x1 : Int) (xs0 : Int) (xs1 : Int) (hx1 : jw_r x1) (hxs0 : jw_r xs0) (hxs1 : jw_r xs1) (M : jw_M), jw_Rn G YX12_layWays 1 0 0 true (fun M1 => (0, M1)) 97 [(0, jR G 127), (1, jI x1)] [jI xs0, jI xs1, jR G 136] M (fX12_layWays_97 r2 x1 xs0 xs1 M) := by
  intro x1 xs0 xs1 hx1 hxs0 hxs1 M
  unfold fX12_layWays_97
  refine jw_iast (pc := 97) dX12_layWays_97 jg_136 jl_136 (jw_ho jg_136 (by decide)) hxs1 hxs0 rfl ?_
  refine jw_letM (fun M5 => ?_)
  refine jw_iincL (pc := 98) 1 (lv' := (fun y => [(1, y), (0, jR G 127)])) dX12_layWays_98 rfl (Nat.le_of_ble_eq_true rfl) (fun _ => rfl) (fun v6 hv6 => ?_)
  refine jw_goto (pc := 101) 2 dX12_layWays_101 (by decide) ?_
  exact jw_few [1, 0] rfl (hr2 v6 hv6 M5)
def fX12_layWays_48 (r2 : Int → jw_M → Option jw_M) (x1 : Int) (x2 : Int) (xs0 : Int) (xs1 : Int) (M : jw_M) : Option jw_M :=
  if 0 ≤ xs1 ∧ xs1 < 49 then Option.bind (some (jw_up M 135 xs1 xs0)) (fun M4 => if (7 : Int) ≠ 0 then if (7 : Int) ≠ 0 then if jw_w (Int.tdiv x1 7) = jw_w (Int.tmod x1 7) then (fX12_layWays_97 r2 x1 0 x1 M4) else (if x2 = 0 then (fX12_layWays_97 r2 x1 1000000 x1 M4) else (if 0 ≤ (89 : Int) ∧ (89 : Int) < 104 then if 0 ≤ (89 : Int) ∧ (89 : Int) < 104 then if M4 131 89 ≠ 0 then fX12_layWays_97 r2 x1 (jw_w (Int.tdiv (jw_w ((jw_w (x2 + (M4 131 89))) - 1)) (M4 131 89))) x1 M4 else none else none else none)) else none else none) else none
set_option maxRecDepth 100000 in
theorem pX12_layWays_48 (G : jw_G) (r2 : Int → jw_M → Option jw_M) (hr2 : ∀ (x1 : Int) (hx1 : jw_r x1) (M : jw_M), jw_Rn G YX12_layWays 1 0 0 true (fun M1 => (0, M1)) 2 [(0, jR G 127), (1, jI x1)] [] M (r2 x1 M)) : ∀ (x1 : Int) (x2 : Int) (xs0 : Int) (xs1 : Int) (hx1 : jw_r x1) (hx2 : jw_r x2) (hxs0 : jw_r xs0) (hxs1 : jw_r xs1) (M : jw_M), jw_Rn G YX12_layWays 1 0 0 true (fun M1 => (0, M1)) 48 [(0, jR G 127), (1, jI x1), (2, jI x2)] [jI xs0, jI xs1, jR G 135] M (fX12_layWays_48 r2 x1 x2 xs0 xs1 M) := by
  intro x1 x2 xs0 xs1 hx1 hx2 hxs0 hxs1 M
  unfold fX12_layWays_48
  refine jw_iast (pc := 48) dX12_layWays_48 jg_135 jl_135 (jw_ho jg_135 (by decide)) hxs1 hxs0 rfl ?_
  refine jw_letM (fun M4 => ?_)
  refine jw_aloadR (pc := 49) 0 dX12_layWays_49 rfl ?_
  refine jw_getR (pc := 50) (j := 20) rfl dX12_layWays_50 jv_12 ji_12 (Or.inl jt_1251) jg_127 jl_127 (by decide) (by decide) rfl jf_12_20 ?_
  refine jw_iload_n (pc := 53) 1 dX12_layWays_53 rfl ?_
  refine jw_iload_n (pc := 54) 1 dX12_layWays_54 rfl ?_
  refine jw_bipush (pc := 55) dX12_layWays_55 rfl ?_
  refine jw_idiv (pc := 57) dX12_layWays_57 hx1 (jw_rc _ rfl) ?_
  refine jw_iload_n (pc := 58) 1 dX12_layWays_58 rfl ?_
  refine jw_bipush (pc := 59) dX12_layWays_59 rfl ?_
  refine jw_irem (pc := 61) dX12_layWays_61 hx1 (jw_rc _ rfl) ?_
  refine jw_ic_ne (pc := 62) 69 dX12_layWays_62 (by decide) (jw_wr _) (jw_wr _) (fun _ => ?_) (fun _ => ?_)
  · refine jw_iconst (pc := 65) dX12_layWays_65 ?_
    refine jw_goto (pc := 66) 97 dX12_layWays_66 (by decide) ?_
    exact jw_few [0, 1] rfl (pX12_layWays_97 G r2 hr2 x1 0 x1 hx1 (jw_rc _ rfl) hx1 M4)
  · refine jw_iload_n (pc := 69) 2 dX12_layWays_69 rfl ?_
    refine jw_if_ne (pc := 70) 78 dX12_layWays_70 (by decide) hx2 (fun _ => ?_) (fun _ => ?_)
    · refine jw_ldc (pc := 73) (n := 1000000) dX12_layWays_73 jt_1469 (by decide) ?_
      refine jw_goto (pc := 75) 97 dX12_layWays_75 (by decide) ?_
      exact jw_few [0, 1] rfl (pX12_layWays_97 G r2 hr2 x1 1000000 x1 hx1 (jw_rc _ rfl) hx1 M4)
    · refine jw_iload_n (pc := 78) 2 dX12_layWays_78 rfl ?_
      refine jw_aloadR (pc := 79) 0 dX12_layWays_79 rfl ?_
      refine jw_getR (pc := 80) (j := 5) rfl dX12_layWays_80 jv_12 ji_12 (Or.inl jt_1236) jg_127 jl_127 (by decide) (by decide) rfl jf_12_5 ?_
      refine jw_bipush (pc := 83) dX12_layWays_83 rfl ?_
      refine jw_iald (pc := 85) dX12_layWays_85 jg_131 jl_131 (jw_ho jg_131 (by decide)) (jw_rc _ rfl) rfl (fun h7 => ?_)
      refine jw_iadd (pc := 86) dX12_layWays_86 ?_
      refine jw_iconst (pc := 87) dX12_layWays_87 ?_
      refine jw_isub (pc := 88) dX12_layWays_88 ?_
      refine jw_aloadR (pc := 89) 0 dX12_layWays_89 rfl ?_
      refine jw_getR (pc := 90) (j := 5) rfl dX12_layWays_90 jv_12 ji_12 (Or.inl jt_1236) jg_127 jl_127 (by decide) (by decide) rfl jf_12_5 ?_
      refine jw_bipush (pc := 93) dX12_layWays_93 rfl ?_
      refine jw_iald (pc := 95) dX12_layWays_95 jg_131 jl_131 (jw_ho jg_131 (by decide)) (jw_rc _ rfl) rfl (fun h8 => ?_)
      refine jw_idiv (pc := 96) dX12_layWays_96 (jw_wr _) h8 ?_
      exact jw_few [0, 1] rfl (pX12_layWays_97 G r2 hr2 x1 (jw_w (Int.tdiv (jw_w ((jw_w (x2 + (M4 131 89))) - 1)) (M4 131 89))) x1 hx1 (jw_wr _) hx1 M4)
def fX12_layWays_244 (r106 : Int → jw_M → Option jw_M) (r114 : Int → Int → jw_M → Option jw_M) (x1 : Int) (x2 : Int) (xs0 : Int) (xs1 : Int) (M : jw_M) : Option jw_M :=
  if 0 ≤ xs1 ∧ xs1 < 49 then Option.bind (some (jw_up M 136 xs1 xs0)) (fun M24 => Option.bind (some (jw_w (x2 + 1))) (fun v25 => r114 x1 v25 M24)) else none
set_option maxRecDepth 100000 in
theorem pX12_layWays_244 (G : jw_G) (r106 : Int → jw_M → Option jw_M) (r114 : Int → Int → jw_M → Option jw_M) (hr106 : ∀ (x1 : Int) (hx1 : jw_r x1) (M : jw_M), jw_Rn G YX12_layWays 1 0 0 true (fun M1 => (0, M1)) 106 [(0, jR G 127), (1, jI x1)] [] M (r106 x1 M)) (hr114 : ∀ (x1 : Int) (x2 : Int) (hx1 : jw_r x1) (hx2 : jw_r x2) (M : jw_M), jw_Rn G YX12_layWays 1 0 0 true (fun M1 => (0, M1)) 114 [(0, jR G 127), (1, jI x1), (2, jI x2)] [] M (r114 x1 x2 M)) : ∀ (x1 : Int) (x2 : Int) (xs0 : Int) (xs1 : Int) (hx1 : jw_r x1) (hx2 : jw_r x2) (hxs0 : jw_r xs0) (hxs1 : jw_r xs1) (M : jw_M), jw_Rn G YX12_layWays 1 0 0 true (fun M1 => (0, M1)) 244 [(0, jR G 127), (1, jI x1), (2, jI x2)] [jI xs0, jI xs1, jR G 136] M (fX12_layWays_244 r106 r114 x1 x2 xs0 xs1 M) := by
  intro x1 x2 xs0 xs1 hx1 hx2 hxs0 hxs1 M
  unfold fX12_layWays_244
  refine jw_iast (pc := 244) dX12_layWays_244 jg_136 jl_136 (jw_ho jg_136 (by decide)) hxs1 hxs0 rfl ?_
  refine jw_letM (fun M24 => ?_)
  refine jw_iincL (pc := 245) 2 (lv' := (fun y => [(2, y), (0, jR G 127), (1, jI x1)])) dX12_layWays_245 rfl (Nat.le_of_ble_eq_true rfl) (fun _ => rfl) (fun v25 hv25 => ?_)
  refine jw_goto (pc := 248) 114 dX12_layWays_248 (by decide) ?_
  exact jw_few [1, 2, 0] rfl (hr114 x1 v25 hx1 hv25 M24)
def fX12_layWays_192 (r106 : Int → jw_M → Option jw_M) (r114 : Int → Int → jw_M → Option jw_M) (x1 : Int) (x2 : Int) (x3 : Int) (x4 : Int) (xs0 : Int) (xs1 : Int) (M : jw_M) : Option jw_M :=
  if 0 ≤ xs1 ∧ xs1 < 49 then Option.bind (some (jw_up M 135 xs1 xs0)) (fun M18 => if 0 ≤ x3 ∧ x3 < 49 then if 0 ≤ x4 ∧ x4 < 49 then if 0 ≤ x2 ∧ x2 < 49 then if jw_w ((M18 136 x3) + (M18 136 x4)) < M18 136 x2 then (if 0 ≤ x3 ∧ x3 < 49 then if 0 ≤ x4 ∧ x4 < 49 then fX12_layWays_244 r106 r114 x1 x2 (jw_w ((M18 136 x3) + (M18 136 x4))) x2 M18 else none else none) else (if 0 ≤ x2 ∧ x2 < 49 then fX12_layWays_244 r106 r114 x1 x2 (M18 136 x2) x2 M18 else none) else none else none else none) else none
set_option maxRecDepth 100000 in
theorem pX12_layWays_192 (G : jw_G) (r106 : Int → jw_M → Option jw_M) (r114 : Int → Int → jw_M → Option jw_M) (hr106 : ∀ (x1 : Int) (hx1 : jw_r x1) (M : jw_M), jw_Rn G YX12_layWays 1 0 0 true (fun M1 => (0, M1)) 106 [(0, jR G 127), (1, jI x1)] [] M (r106 x1 M)) (hr114 : ∀ (x1 : Int) (x2 : Int) (hx1 : jw_r x1) (hx2 : jw_r x2) (M : jw_M), jw_Rn G YX12_layWays 1 0 0 true (fun M1 => (0, M1)) 114 [(0, jR G 127), (1, jI x1), (2, jI x2)] [] M (r114 x1 x2 M)) : ∀ (x1 : Int) (x2 : Int) (x3 : Int) (x4 : Int) (xs0 : Int) (xs1 : Int) (hx1 : jw_r x1) (hx2 : jw_r x2) (hx3 : jw_r x3) (hx4 : jw_r x4) (hxs0 : jw_r xs0) (hxs1 : jw_r xs1) (M : jw_M), jw_Rn G YX12_layWays 1 0 0 true (fun M1 => (0, M1)) 192 [(0, jR G 127), (1, jI x1), (2, jI x2), (3, jI x3), (4, jI x4)] [jI xs0, jI xs1, jR G 135] M (fX12_layWays_192 r106 r114 x1 x2 x3 x4 xs0 xs1 M) := by
  intro x1 x2 x3 x4 xs0 xs1 hx1 hx2 hx3 hx4 hxs0 hxs1 M
  unfold fX12_layWays_192
  refine jw_iast (pc := 192) dX12_layWays_192 jg_135 jl_135 (jw_ho jg_135 (by decide)) hxs1 hxs0 rfl ?_
  refine jw_letM (fun M18 => ?_)
  refine jw_aloadR (pc := 193) 0 dX12_layWays_193 rfl ?_
  refine jw_getR (pc := 194) (j := 20) rfl dX12_layWays_194 jv_12 ji_12 (Or.inl jt_1251) jg_127 jl_127 (by decide) (by decide) rfl jf_12_20 ?_
  refine jw_iload_n (pc := 197) 2 dX12_layWays_197 rfl ?_
  refine jw_aloadR (pc := 198) 0 dX12_layWays_198 rfl ?_
  refine jw_getR (pc := 199) (j := 20) rfl dX12_layWays_199 jv_12 ji_12 (Or.inl jt_1251) jg_127 jl_127 (by decide) (by decide) rfl jf_12_20 ?_
  refine jw_iload_n (pc := 202) 3 dX12_layWays_202 rfl ?_
  refine jw_iald (pc := 203) dX12_layWays_203 jg_136 jl_136 (jw_ho jg_136 (by decide)) hx3 rfl (fun h19 => ?_)
  refine jw_aloadR (pc := 204) 0 dX12_layWays_204 rfl ?_
  refine jw_getR (pc := 205) (j := 20) rfl dX12_layWays_205 jv_12 ji_12 (Or.inl jt_1251) jg_127 jl_127 (by decide) (by decide) rfl jf_12_20 ?_
  refine jw_iload (pc := 208) 4 dX12_layWays_208 rfl ?_
  refine jw_iald (pc := 210) dX12_layWays_210 jg_136 jl_136 (jw_ho jg_136 (by decide)) hx4 rfl (fun h20 => ?_)
  refine jw_iadd (pc := 211) dX12_layWays_211 ?_
  refine jw_aloadR (pc := 212) 0 dX12_layWays_212 rfl ?_
  refine jw_getR (pc := 213) (j := 20) rfl dX12_layWays_213 jv_12 ji_12 (Or.inl jt_1251) jg_127 jl_127 (by decide) (by decide) rfl jf_12_20 ?_
  refine jw_iload_n (pc := 216) 2 dX12_layWays_216 rfl ?_
  refine jw_iald (pc := 217) dX12_layWays_217 jg_136 jl_136 (jw_ho jg_136 (by decide)) hx2 rfl (fun h21 => ?_)
  refine jw_ic_ge (pc := 218) 238 dX12_layWays_218 (by decide) (jw_wr _) h21 (fun _ => ?_) (fun _ => ?_)
  · refine jw_aloadR (pc := 221) 0 dX12_layWays_221 rfl ?_
    refine jw_getR (pc := 222) (j := 20) rfl dX12_layWays_222 jv_12 ji_12 (Or.inl jt_1251) jg_127 jl_127 (by decide) (by decide) rfl jf_12_20 ?_
    refine jw_iload_n (pc := 225) 3 dX12_layWays_225 rfl ?_
    refine jw_iald (pc := 226) dX12_layWays_226 jg_136 jl_136 (jw_ho jg_136 (by decide)) hx3 rfl (fun h22 => ?_)
    refine jw_aloadR (pc := 227) 0 dX12_layWays_227 rfl ?_
    refine jw_getR (pc := 228) (j := 20) rfl dX12_layWays_228 jv_12 ji_12 (Or.inl jt_1251) jg_127 jl_127 (by decide) (by decide) rfl jf_12_20 ?_
    refine jw_iload (pc := 231) 4 dX12_layWays_231 rfl ?_
    refine jw_iald (pc := 233) dX12_layWays_233 jg_136 jl_136 (jw_ho jg_136 (by decide)) hx4 rfl (fun h23 => ?_)
    refine jw_iadd (pc := 234) dX12_layWays_234 ?_
    refine jw_goto (pc := 235) 244 dX12_layWays_235 (by decide) ?_
    exact jw_few [0, 1, 2] rfl (pX12_layWays_244 G r106 r114 hr106 hr114 x1 x2 (jw_w ((M18 136 x3) + (M18 136 x4))) x2 hx1 hx2 (jw_wr _) hx2 M18)
  · refine jw_aloadR (pc := 238) 0 dX12_layWays_238 rfl ?_
    refine jw_getR (pc := 239) (j := 20) rfl dX12_layWays_239 jv_12 ji_12 (Or.inl jt_1251) jg_127 jl_127 (by decide) (by decide) rfl jf_12_20 ?_
    refine jw_iload_n (pc := 242) 2 dX12_layWays_242 rfl ?_
    refine jw_iald (pc := 243) dX12_layWays_243 jg_136 jl_136 (jw_ho jg_136 (by decide)) hx2 rfl (fun h26 => ?_)
    exact jw_few [0, 1, 2] rfl (pX12_layWays_244 G r106 r114 hr106 hr114 x1 x2 (M18 136 x2) x2 hx1 hx2 h26 hx2 M18)
def fX12_layWays_114 (r106 : Int → jw_M → Option jw_M) : Nat → Int → Int → jw_M → Option jw_M
  | 0, _, _, _ => none
  | k + 1, x1, x2, M => if x2 < 49 then (if (7 : Int) ≠ 0 then Option.bind (some (jw_w ((jw_w (7 * (jw_w (Int.tdiv x2 7)))) + x1))) (fun v11 => if (7 : Int) ≠ 0 then Option.bind (some (jw_w ((jw_w (7 * x1)) + (jw_w (Int.tmod x2 7))))) (fun v12 => if 0 ≤ v11 ∧ v11 < 49 then if 0 ≤ v12 ∧ v12 < 49 then if 0 ≤ x2 ∧ x2 < 49 then if jw_w ((M 135 v11) + (M 135 v12)) < M 135 x2 then (if 0 ≤ v11 ∧ v11 < 49 then if 0 ≤ v12 ∧ v12 < 49 then fX12_layWays_192 r106 (fX12_layWays_114 r106 k) x1 x2 v11 v12 (jw_w ((M 135 v11) + (M 135 v12))) x2 M else none else none) else (if 0 ≤ x2 ∧ x2 < 49 then fX12_layWays_192 r106 (fX12_layWays_114 r106 k) x1 x2 v11 v12 (M 135 x2) x2 M else none) else none else none else none) else none) else none) else (Option.bind (some (jw_w (x1 + 1))) (fun v28 => r106 v28 M))
set_option maxRecDepth 100000 in
theorem pX12_layWays_114 (G : jw_G) (r106 : Int → jw_M → Option jw_M) (hr106 : ∀ (x1 : Int) (hx1 : jw_r x1) (M : jw_M), jw_Rn G YX12_layWays 1 0 0 true (fun M1 => (0, M1)) 106 [(0, jR G 127), (1, jI x1)] [] M (r106 x1 M)) : ∀ (k : Nat) (x1 : Int) (x2 : Int) (hx1 : jw_r x1) (hx2 : jw_r x2) (M : jw_M), jw_Rn G YX12_layWays 1 0 0 true (fun M1 => (0, M1)) 114 [(0, jR G 127), (1, jI x1), (2, jI x2)] [] M (fX12_layWays_114 r106 k x1 x2 M) := by
  intro k
  induction k with
  | zero =>
    intro x1 x2 hx1 hx2 M
    exact jw_none
  | succ k ih =>
    intro x1 x2 hx1 hx2 M
    rw [fX12_layWays_114]
    refine jw_iload_n (pc := 114) 2 dX12_layWays_114 rfl ?_
    refine jw_bipush (pc := 115) dX12_layWays_115 rfl ?_
    refine jw_ic_ge (pc := 117) 251 dX12_layWays_117 (by decide) hx2 (jw_rc _ rfl) (fun _ => ?_) (fun _ => ?_)
    · refine jw_bipush (pc := 120) dX12_layWays_120 rfl ?_
      refine jw_iload_n (pc := 122) 2 dX12_layWays_122 rfl ?_
      refine jw_bipush (pc := 123) dX12_layWays_123 rfl ?_
      refine jw_idiv (pc := 125) dX12_layWays_125 hx2 (jw_rc _ rfl) ?_
      refine jw_imul (pc := 126) dX12_layWays_126 ?_
      refine jw_iload_n (pc := 127) 1 dX12_layWays_127 rfl ?_
      refine jw_iadd (pc := 128) dX12_layWays_128 ?_
      refine jw_istore_nL (pc := 129) (lv' := (fun y => [(3, y), (0, jR G 127), (1, jI x1), (2, jI x2)])) dX12_layWays_129 (jw_wr _) (by decide) (fun _ => rfl) (fun v11 hv11 => ?_)
      refine jw_bipush (pc := 130) dX12_layWays_130 rfl ?_
      refine jw_iload_n (pc := 132) 2 dX12_layWays_132 rfl ?_
      refine jw_imul (pc := 133) dX12_layWays_133 ?_
      refine jw_iload_n (pc := 134) 3 dX12_layWays_134 rfl ?_
      refine jw_bipush (pc := 135) dX12_layWays_135 rfl ?_
      refine jw_irem (pc := 137) dX12_layWays_137 hx2 (jw_rc _ rfl) ?_
      refine jw_iadd (pc := 138) dX12_layWays_138 ?_
      refine jw_istoreL (pc := 139) (lv' := (fun y => [(4, y), (3, jI v11), (0, jR G 127), (1, jI x1), (2, jI x2)])) dX12_layWays_139 (jw_wr _) (by decide) (fun _ => rfl) (fun v12 hv12 => ?_)
      refine jw_aloadR (pc := 141) 2 dX12_layWays_141 rfl ?_
      refine jw_getR (pc := 142) (j := 19) rfl dX12_layWays_142 jv_12 ji_12 (Or.inl jt_1250) jg_127 jl_127 (by decide) (by decide) rfl jf_12_19 ?_
      refine jw_iload_n (pc := 145) 4 dX12_layWays_145 rfl ?_
      refine jw_aloadR (pc := 146) 2 dX12_layWays_146 rfl ?_
      refine jw_getR (pc := 147) (j := 19) rfl dX12_layWays_147 jv_12 ji_12 (Or.inl jt_1250) jg_127 jl_127 (by decide) (by decide) rfl jf_12_19 ?_
      refine jw_iload_n (pc := 150) 1 dX12_layWays_150 rfl ?_
      refine jw_iald (pc := 151) dX12_layWays_151 jg_135 jl_135 (jw_ho jg_135 (by decide)) hv11 rfl (fun h13 => ?_)
      refine jw_aloadR (pc := 152) 2 dX12_layWays_152 rfl ?_
      refine jw_getR (pc := 153) (j := 19) rfl dX12_layWays_153 jv_12 ji_12 (Or.inl jt_1250) jg_127 jl_127 (by decide) (by decide) rfl jf_12_19 ?_
      refine jw_iload (pc := 156) 0 dX12_layWays_156 rfl ?_
      refine jw_iald (pc := 158) dX12_layWays_158 jg_135 jl_135 (jw_ho jg_135 (by decide)) hv12 rfl (fun h14 => ?_)
      refine jw_iadd (pc := 159) dX12_layWays_159 ?_
      refine jw_aloadR (pc := 160) 2 dX12_layWays_160 rfl ?_
      refine jw_getR (pc := 161) (j := 19) rfl dX12_layWays_161 jv_12 ji_12 (Or.inl jt_1250) jg_127 jl_127 (by decide) (by decide) rfl jf_12_19 ?_
      refine jw_iload_n (pc := 164) 4 dX12_layWays_164 rfl ?_
      refine jw_iald (pc := 165) dX12_layWays_165 jg_135 jl_135 (jw_ho jg_135 (by decide)) hx2 rfl (fun h15 => ?_)
      refine jw_ic_ge (pc := 166) 186 dX12_layWays_166 (by decide) (jw_wr _) h15 (fun _ => ?_) (fun _ => ?_)
      · refine jw_aloadR (pc := 169) 2 dX12_layWays_169 rfl ?_
        refine jw_getR (pc := 170) (j := 19) rfl dX12_layWays_170 jv_12 ji_12 (Or.inl jt_1250) jg_127 jl_127 (by decide) (by decide) rfl jf_12_19 ?_
        refine jw_iload_n (pc := 173) 1 dX12_layWays_173 rfl ?_
        refine jw_iald (pc := 174) dX12_layWays_174 jg_135 jl_135 (jw_ho jg_135 (by decide)) hv11 rfl (fun h16 => ?_)
        refine jw_aloadR (pc := 175) 2 dX12_layWays_175 rfl ?_
        refine jw_getR (pc := 176) (j := 19) rfl dX12_layWays_176 jv_12 ji_12 (Or.inl jt_1250) jg_127 jl_127 (by decide) (by decide) rfl jf_12_19 ?_
        refine jw_iload (pc := 179) 0 dX12_layWays_179 rfl ?_
        refine jw_iald (pc := 181) dX12_layWays_181 jg_135 jl_135 (jw_ho jg_135 (by decide)) hv12 rfl (fun h17 => ?_)
        refine jw_iadd (pc := 182) dX12_layWays_182 ?_
        refine jw_goto (pc := 183) 192 dX12_layWays_183 (by decide) ?_
        exact jw_few [2, 3, 4, 1, 0] rfl (pX12_layWays_192 G r106 (fX12_layWays_114 r106 k) hr106 ih x1 x2 v11 v12 (jw_w ((M 135 v11) + (M 135 v12))) x2 hx1 hx2 hv11 hv12 (jw_wr _) hx2 M)
      · refine jw_aloadR (pc := 186) 2 dX12_layWays_186 rfl ?_
        refine jw_getR (pc := 187) (j := 19) rfl dX12_layWays_187 jv_12 ji_12 (Or.inl jt_1250) jg_127 jl_127 (by decide) (by decide) rfl jf_12_19 ?_
        refine jw_iload_n (pc := 190) 4 dX12_layWays_190 rfl ?_
        refine jw_iald (pc := 191) dX12_layWays_191 jg_135 jl_135 (jw_ho jg_135 (by decide)) hx2 rfl (fun h27 => ?_)
        exact jw_few [2, 3, 4, 1, 0] rfl (pX12_layWays_192 G r106 (fX12_layWays_114 r106 k) hr106 ih x1 x2 v11 v12 (M 135 x2) x2 hx1 hx2 hv11 hv12 h27 hx2 M)
    · refine jw_iincL (pc := 251) 1 (lv' := (fun y => [(1, y), (0, jR G 127), (2, jI x2)])) dX12_layWays_251 rfl (Nat.le_of_ble_eq_true rfl) (fun _ => rfl) (fun v28 hv28 => ?_)
      refine jw_goto (pc := 254) 106 dX12_layWays_254 (by decide) ?_
      exact jw_few [1, 0] rfl (hr106 v28 hv28 M)
def fX12_layWays_106 : Nat → Int → jw_M → Option jw_M
  | 0, _, _ => none
  | k + 1, x1, M => if x1 < 7 then (Option.bind (some 0) (fun v10 => fX12_layWays_114 (fX12_layWays_106 k) jw_fu x1 v10 M)) else (some M)
set_option maxRecDepth 100000 in
theorem pX12_layWays_106 (G : jw_G) : ∀ (k : Nat) (x1 : Int) (hx1 : jw_r x1) (M : jw_M), jw_Rn G YX12_layWays 1 0 0 true (fun M1 => (0, M1)) 106 [(0, jR G 127), (1, jI x1)] [] M (fX12_layWays_106 k x1 M) := by
  intro k
  induction k with
  | zero =>
    intro x1 hx1 M
    exact jw_none
  | succ k ih =>
    intro x1 hx1 M
    rw [fX12_layWays_106]
    refine jw_iload_n (pc := 106) 1 dX12_layWays_106 rfl ?_
    refine jw_bipush (pc := 107) dX12_layWays_107 rfl ?_
    refine jw_ic_ge (pc := 109) 257 dX12_layWays_109 (by decide) hx1 (jw_rc _ rfl) (fun _ => ?_) (fun _ => ?_)
    · refine jw_iconst (pc := 112) dX12_layWays_112 ?_
      refine jw_istore_nL (pc := 113) (lv' := (fun y => [(2, y), (0, jR G 127), (1, jI x1)])) dX12_layWays_113 (jw_rc _ rfl) (by decide) (fun _ => rfl) (fun v10 hv10 => ?_)
      exact jw_few [1, 2, 0] rfl (pX12_layWays_114 G (fX12_layWays_106 k) ih jw_fu x1 v10 hx1 hv10 M)
    · exact jw_ret (pc := 257) (v := 0) dX12_layWays_257 trivial rfl rfl
def fX12_layWays_2 : Nat → Int → jw_M → Option jw_M
  | 0, _, _ => none
  | k + 1, x1, M => if x1 < 49 then (if 0 ≤ jw_w (14 + x1) ∧ jw_w (14 + x1) < 104 then Option.bind (some (M 131 (jw_w (14 + x1)))) (fun v3 => if (7 : Int) ≠ 0 then if (7 : Int) ≠ 0 then if jw_w (Int.tdiv x1 7) = jw_w (Int.tmod x1 7) then (fX12_layWays_48 (fX12_layWays_2 k) x1 v3 0 x1 M) else (if v3 = 0 then (fX12_layWays_48 (fX12_layWays_2 k) x1 v3 1000000 x1 M) else (fX12_layWays_48 (fX12_layWays_2 k) x1 v3 v3 x1 M)) else none else none) else none) else (Option.bind (some 0) (fun v9 => fX12_layWays_106 jw_fu v9 M))
set_option maxRecDepth 100000 in
theorem pX12_layWays_2 (G : jw_G) : ∀ (k : Nat) (x1 : Int) (hx1 : jw_r x1) (M : jw_M), jw_Rn G YX12_layWays 1 0 0 true (fun M1 => (0, M1)) 2 [(0, jR G 127), (1, jI x1)] [] M (fX12_layWays_2 k x1 M) := by
  intro k
  induction k with
  | zero =>
    intro x1 hx1 M
    exact jw_none
  | succ k ih =>
    intro x1 hx1 M
    rw [fX12_layWays_2]
    refine jw_iload_n (pc := 2) 1 dX12_layWays_2 rfl ?_
    refine jw_bipush (pc := 3) dX12_layWays_3 rfl ?_
    refine jw_ic_ge (pc := 5) 104 dX12_layWays_5 (by decide) hx1 (jw_rc _ rfl) (fun _ => ?_) (fun _ => ?_)
    · refine jw_aloadR (pc := 8) 0 dX12_layWays_8 rfl ?_
      refine jw_getR (pc := 9) (j := 5) rfl dX12_layWays_9 jv_12 ji_12 (Or.inl jt_1236) jg_127 jl_127 (by decide) (by decide) rfl jf_12_5 ?_
      refine jw_bipush (pc := 12) dX12_layWays_12 rfl ?_
      refine jw_iload_n (pc := 14) 1 dX12_layWays_14 rfl ?_
      refine jw_iadd (pc := 15) dX12_layWays_15 ?_
      refine jw_iald (pc := 16) dX12_layWays_16 jg_131 jl_131 (jw_ho jg_131 (by decide)) (jw_wr _) rfl (fun h2 => ?_)
      refine jw_istore_nL (pc := 17) (lv' := (fun y => [(2, y), (0, jR G 127), (1, jI x1)])) dX12_layWays_17 h2 (by decide) (fun _ => rfl) (fun v3 hv3 => ?_)
      refine jw_aloadR (pc := 18) 1 dX12_layWays_18 rfl ?_
      refine jw_getR (pc := 19) (j := 19) rfl dX12_layWays_19 jv_12 ji_12 (Or.inl jt_1250) jg_127 jl_127 (by decide) (by decide) rfl jf_12_19 ?_
      refine jw_iload_n (pc := 22) 2 dX12_layWays_22 rfl ?_
      refine jw_iload_n (pc := 23) 2 dX12_layWays_23 rfl ?_
      refine jw_bipush (pc := 24) dX12_layWays_24 rfl ?_
      refine jw_idiv (pc := 26) dX12_layWays_26 hx1 (jw_rc _ rfl) ?_
      refine jw_iload_n (pc := 27) 2 dX12_layWays_27 rfl ?_
      refine jw_bipush (pc := 28) dX12_layWays_28 rfl ?_
      refine jw_irem (pc := 30) dX12_layWays_30 hx1 (jw_rc _ rfl) ?_
      refine jw_ic_ne (pc := 31) 38 dX12_layWays_31 (by decide) (jw_wr _) (jw_wr _) (fun _ => ?_) (fun _ => ?_)
      · refine jw_iconst (pc := 34) dX12_layWays_34 ?_
        refine jw_goto (pc := 35) 48 dX12_layWays_35 (by decide) ?_
        exact jw_few [1, 2, 0] rfl (pX12_layWays_48 G (fX12_layWays_2 k) ih x1 v3 0 x1 hx1 hv3 (jw_rc _ rfl) hx1 M)
      · refine jw_iload_n (pc := 38) 0 dX12_layWays_38 rfl ?_
        refine jw_if_ne (pc := 39) 47 dX12_layWays_39 (by decide) hv3 (fun _ => ?_) (fun _ => ?_)
        · refine jw_ldc (pc := 42) (n := 1000000) dX12_layWays_42 jt_1469 (by decide) ?_
          refine jw_goto (pc := 44) 48 dX12_layWays_44 (by decide) ?_
          exact jw_few [1, 2, 0] rfl (pX12_layWays_48 G (fX12_layWays_2 k) ih x1 v3 1000000 x1 hx1 hv3 (jw_rc _ rfl) hx1 M)
        · refine jw_iload_n (pc := 47) 0 dX12_layWays_47 rfl ?_
          exact jw_few [1, 2, 0] rfl (pX12_layWays_48 G (fX12_layWays_2 k) ih x1 v3 v3 x1 hx1 hv3 hv3 hx1 M)
    · refine jw_iconst (pc := 104) dX12_layWays_104 ?_
      refine jw_istore_nL (pc := 105) (lv' := (fun y => [(1, y), (0, jR G 127)])) dX12_layWays_105 (jw_rc _ rfl) (by decide) (fun _ => rfl) (fun v9 hv9 => ?_)
      exact jw_few [1, 0] rfl (pX12_layWays_106 G jw_fu v9 hv9 M)
def fX12_layWays (M : jw_M) : Option jw_M :=
  Option.bind (some 0) (fun v1 => fX12_layWays_2 jw_fu v1 M)
set_option maxRecDepth 100000 in
theorem rX12_layWays (G : jw_G) (M : jw_M) : jw_Rn G YX12_layWays 1 0 0 true (fun M1 => (0, M1)) 0 [(0, jR G 127)] [] M (fX12_layWays M) := by
  unfold fX12_layWays
  refine jw_iconst (pc := 0) dX12_layWays_0 ?_
  refine jw_istore_nL (pc := 1) (lv' := (fun y => [(1, y), (0, jR G 127)])) dX12_layWays_1 (jw_rc _ rfl) (by decide) (fun _ => rfl) (fun v1 hv1 => ?_)
  exact jw_few [1, 0] rfl (pX12_layWays_2 G jw_fu v1 hv1 M)
theorem kX12_layWays (G : jw_G) (M : jw_M) : jw_Ct G YX12_layWays none 1 0 0 true (fun M1 => (0, M1)) yX12_layWays [jR G 127] M (fX12_layWays M) := jw_met (by decide) rfl rfl rfl (Nat.le_of_ble_eq_true rfl) (rX12_layWays G M)
abbrev YX12_pavement : jw_Y := (RX12, cX12_pavement, 2, 2, "pavement")
theorem qX12_pavement : jw_cy YX12_pavement (some .long) yX12_pavement 0 := ⟨by decide, jt_1377, jt_14, by decide, by decide +kernel⟩
theorem dX12_pavement_0 : decode cX12_pavement 0 = .ok (.aload_n 0, 1) := by decide +kernel
theorem dX12_pavement_1 : decode cX12_pavement 1 = .ok (.iconst 0, 1) := by decide +kernel
theorem dX12_pavement_2 : decode cX12_pavement 2 = .ok (.putfield 71, 3) := by decide +kernel
theorem dX12_pavement_5 : decode cX12_pavement 5 = .ok (.aload_n 0, 1) := by decide +kernel
theorem dX12_pavement_6 : decode cX12_pavement 6 = .ok (.aload_n 0, 1) := by decide +kernel
theorem dX12_pavement_7 : decode cX12_pavement 7 = .ok (.getfield 100, 3) := by decide +kernel
theorem dX12_pavement_10 : decode cX12_pavement 10 = .ok (.putfield 107, 3) := by decide +kernel
theorem dX12_pavement_13 : decode cX12_pavement 13 = .ok (.aload_n 0, 1) := by decide +kernel
theorem dX12_pavement_14 : decode cX12_pavement 14 = .ok (.iconst 0, 1) := by decide +kernel
theorem dX12_pavement_15 : decode cX12_pavement 15 = .ok (.putfield 100, 3) := by decide +kernel
theorem dX12_pavement_18 : decode cX12_pavement 18 = .ok (.aload_n 0, 1) := by decide +kernel
theorem dX12_pavement_19 : decode cX12_pavement 19 = .ok (.iconst 0, 1) := by decide +kernel
theorem dX12_pavement_20 : decode cX12_pavement 20 = .ok (.putfield 111, 3) := by decide +kernel
theorem dX12_pavement_23 : decode cX12_pavement 23 = .ok (.aload_n 0, 1) := by decide +kernel
theorem dX12_pavement_24 : decode cX12_pavement 24 = .ok (.iconst 0, 1) := by decide +kernel
theorem dX12_pavement_25 : decode cX12_pavement 25 = .ok (.putfield 133, 3) := by decide +kernel
theorem dX12_pavement_28 : decode cX12_pavement 28 = .ok (.iconst 0, 1) := by decide +kernel
theorem dX12_pavement_29 : decode cX12_pavement 29 = .ok (.istore_n 1, 1) := by decide +kernel
theorem dX12_pavement_30 : decode cX12_pavement 30 = .ok (.iload_n 1, 1) := by decide +kernel
theorem dX12_pavement_31 : decode cX12_pavement 31 = .ok (.bipush 104, 2) := by decide +kernel
theorem dX12_pavement_33 : decode cX12_pavement 33 = .ok (.if_icmp .ge 16, 3) := by decide +kernel
theorem dX12_pavement_36 : decode cX12_pavement 36 = .ok (.aload_n 0, 1) := by decide +kernel
theorem dX12_pavement_37 : decode cX12_pavement 37 = .ok (.getfield 22, 3) := by decide +kernel
theorem dX12_pavement_40 : decode cX12_pavement 40 = .ok (.iload_n 1, 1) := by decide +kernel
theorem dX12_pavement_41 : decode cX12_pavement 41 = .ok (.iconst 0, 1) := by decide +kernel
theorem dX12_pavement_42 : decode cX12_pavement 42 = .ok (.iastore, 1) := by decide +kernel
theorem dX12_pavement_43 : decode cX12_pavement 43 = .ok (.iinc 1 1, 3) := by decide +kernel
theorem dX12_pavement_46 : decode cX12_pavement 46 = .ok (.goto (-16), 3) := by decide +kernel
theorem dX12_pavement_49 : decode cX12_pavement 49 = .ok (.aload_n 0, 1) := by decide +kernel
theorem dX12_pavement_50 : decode cX12_pavement 50 = .ok (.getfield 22, 3) := by decide +kernel
theorem dX12_pavement_53 : decode cX12_pavement 53 = .ok (.bipush 88, 2) := by decide +kernel
theorem dX12_pavement_55 : decode cX12_pavement 55 = .ok (.bipush 11, 2) := by decide +kernel
theorem dX12_pavement_57 : decode cX12_pavement 57 = .ok (.iastore, 1) := by decide +kernel
theorem dX12_pavement_58 : decode cX12_pavement 58 = .ok (.aload_n 0, 1) := by decide +kernel
theorem dX12_pavement_59 : decode cX12_pavement 59 = .ok (.getfield 22, 3) := by decide +kernel
theorem dX12_pavement_62 : decode cX12_pavement 62 = .ok (.bipush 89, 2) := by decide +kernel
theorem dX12_pavement_64 : decode cX12_pavement 64 = .ok (.iconst 3, 1) := by decide +kernel
theorem dX12_pavement_65 : decode cX12_pavement 65 = .ok (.iastore, 1) := by decide +kernel
theorem dX12_pavement_66 : decode cX12_pavement 66 = .ok (.aload_n 0, 1) := by decide +kernel
theorem dX12_pavement_67 : decode cX12_pavement 67 = .ok (.invokevirtual 143, 3) := by decide +kernel
theorem dX12_pavement_70 : decode cX12_pavement 70 = .ok (.aload_n 0, 1) := by decide +kernel
theorem dX12_pavement_71 : decode cX12_pavement 71 = .ok (.invokevirtual 169, 3) := by decide +kernel
theorem dX12_pavement_74 : decode cX12_pavement 74 = .ok (.ldc2_w 193, 3) := by decide +kernel
theorem dX12_pavement_77 : decode cX12_pavement 77 = .ok (.lcmp, 1) := by decide +kernel
theorem dX12_pavement_78 : decode cX12_pavement 78 = .ok (.ifCond .eq 8, 3) := by decide +kernel
theorem dX12_pavement_81 : decode cX12_pavement 81 = .ok (.aload_n 0, 1) := by decide +kernel
theorem dX12_pavement_82 : decode cX12_pavement 82 = .ok (.iconst 1, 1) := by decide +kernel
theorem dX12_pavement_83 : decode cX12_pavement 83 = .ok (.invokevirtual 139, 3) := by decide +kernel
theorem dX12_pavement_86 : decode cX12_pavement 86 = .ok (.aload_n 0, 1) := by decide +kernel
theorem dX12_pavement_87 : decode cX12_pavement 87 = .ok (.invokevirtual 169, 3) := by decide +kernel
theorem dX12_pavement_90 : decode cX12_pavement 90 = .ok (.ldc2_w 193, 3) := by decide +kernel
theorem dX12_pavement_93 : decode cX12_pavement 93 = .ok (.lcmp, 1) := by decide +kernel
theorem dX12_pavement_94 : decode cX12_pavement 94 = .ok (.ifCond .ne 10, 3) := by decide +kernel
theorem dX12_pavement_97 : decode cX12_pavement 97 = .ok (.aload_n 0, 1) := by decide +kernel
theorem dX12_pavement_98 : decode cX12_pavement 98 = .ok (.invokevirtual 195, 3) := by decide +kernel
theorem dX12_pavement_101 : decode cX12_pavement 101 = .ok (.goto (-15), 3) := by decide +kernel
theorem dX12_pavement_104 : decode cX12_pavement 104 = .ok (.aload_n 0, 1) := by decide +kernel
theorem dX12_pavement_105 : decode cX12_pavement 105 = .ok (.invokevirtual 169, 3) := by decide +kernel
theorem dX12_pavement_108 : decode cX12_pavement 108 = .ok (.ldc2_w 198, 3) := by decide +kernel
theorem dX12_pavement_111 : decode cX12_pavement 111 = .ok (.lcmp, 1) := by decide +kernel
theorem dX12_pavement_112 : decode cX12_pavement 112 = .ok (.ifCond .ne 10, 3) := by decide +kernel
theorem dX12_pavement_115 : decode cX12_pavement 115 = .ok (.aload_n 0, 1) := by decide +kernel
theorem dX12_pavement_116 : decode cX12_pavement 116 = .ok (.invokevirtual 200, 3) := by decide +kernel
theorem dX12_pavement_119 : decode cX12_pavement 119 = .ok (.goto (-15), 3) := by decide +kernel
theorem dX12_pavement_122 : decode cX12_pavement 122 = .ok (.aload_n 0, 1) := by decide +kernel
theorem dX12_pavement_123 : decode cX12_pavement 123 = .ok (.invokevirtual 169, 3) := by decide +kernel
theorem dX12_pavement_126 : decode cX12_pavement 126 = .ok (.ldc2_w 203, 3) := by decide +kernel
theorem dX12_pavement_129 : decode cX12_pavement 129 = .ok (.lcmp, 1) := by decide +kernel
theorem dX12_pavement_130 : decode cX12_pavement 130 = .ok (.ifCond .eq 8, 3) := by decide +kernel
theorem dX12_pavement_133 : decode cX12_pavement 133 = .ok (.aload_n 0, 1) := by decide +kernel
theorem dX12_pavement_134 : decode cX12_pavement 134 = .ok (.iconst 1, 1) := by decide +kernel
theorem dX12_pavement_135 : decode cX12_pavement 135 = .ok (.invokevirtual 139, 3) := by decide +kernel
theorem dX12_pavement_138 : decode cX12_pavement 138 = .ok (.aload_n 0, 1) := by decide +kernel
theorem dX12_pavement_139 : decode cX12_pavement 139 = .ok (.invokevirtual 169, 3) := by decide +kernel
theorem dX12_pavement_142 : decode cX12_pavement 142 = .ok (.ldc2_w 203, 3) := by decide +kernel
theorem dX12_pavement_145 : decode cX12_pavement 145 = .ok (.lcmp, 1) := by decide +kernel
theorem dX12_pavement_146 : decode cX12_pavement 146 = .ok (.ifCond .ne 10, 3) := by decide +kernel
theorem dX12_pavement_149 : decode cX12_pavement 149 = .ok (.aload_n 0, 1) := by decide +kernel
theorem dX12_pavement_150 : decode cX12_pavement 150 = .ok (.invokevirtual 205, 3) := by decide +kernel
theorem dX12_pavement_153 : decode cX12_pavement 153 = .ok (.goto (-15), 3) := by decide +kernel
theorem dX12_pavement_156 : decode cX12_pavement 156 = .ok (.aload_n 0, 1) := by decide +kernel
theorem dX12_pavement_157 : decode cX12_pavement 157 = .ok (.invokevirtual 208, 3) := by decide +kernel
theorem dX12_pavement_160 : decode cX12_pavement 160 = .ok (.aload_n 0, 1) := by decide +kernel
theorem dX12_pavement_161 : decode cX12_pavement 161 = .ok (.getfield 133, 3) := by decide +kernel
theorem dX12_pavement_164 : decode cX12_pavement 164 = .ok (.ifCond .le 21, 3) := by decide +kernel
theorem dX12_pavement_167 : decode cX12_pavement 167 = .ok (.aload_n 0, 1) := by decide +kernel
theorem dX12_pavement_168 : decode cX12_pavement 168 = .ok (.aload_n 0, 1) := by decide +kernel
theorem dX12_pavement_169 : decode cX12_pavement 169 = .ok (.getfield 133, 3) := by decide +kernel
theorem dX12_pavement_172 : decode cX12_pavement 172 = .ok (.putfield 211, 3) := by decide +kernel
theorem dX12_pavement_175 : decode cX12_pavement 175 = .ok (.ldc2_w 214, 3) := by decide +kernel
theorem dX12_pavement_178 : decode cX12_pavement 178 = .ok (.aload_n 0, 1) := by decide +kernel
theorem dX12_pavement_179 : decode cX12_pavement 179 = .ok (.getfield 136, 3) := by decide +kernel
theorem dX12_pavement_182 : decode cX12_pavement 182 = .ok (.i2l, 1) := by decide +kernel
theorem dX12_pavement_183 : decode cX12_pavement 183 = .ok (.lsub, 1) := by decide +kernel
theorem dX12_pavement_184 : decode cX12_pavement 184 = .ok (.lreturn, 1) := by decide +kernel
theorem dX12_pavement_185 : decode cX12_pavement 185 = .ok (.aload_n 0, 1) := by decide +kernel
theorem dX12_pavement_186 : decode cX12_pavement 186 = .ok (.iconst 1, 1) := by decide +kernel
theorem dX12_pavement_187 : decode cX12_pavement 187 = .ok (.putfield 216, 3) := by decide +kernel
theorem dX12_pavement_190 : decode cX12_pavement 190 = .ok (.iconst 0, 1) := by decide +kernel
theorem dX12_pavement_191 : decode cX12_pavement 191 = .ok (.istore_n 1, 1) := by decide +kernel
theorem dX12_pavement_192 : decode cX12_pavement 192 = .ok (.iload_n 1, 1) := by decide +kernel
theorem dX12_pavement_193 : decode cX12_pavement 193 = .ok (.bipush 104, 2) := by decide +kernel
theorem dX12_pavement_195 : decode cX12_pavement 195 = .ok (.if_icmp .ge 21, 3) := by decide +kernel
theorem dX12_pavement_198 : decode cX12_pavement 198 = .ok (.aload_n 0, 1) := by decide +kernel
theorem dX12_pavement_199 : decode cX12_pavement 199 = .ok (.getfield 19, 3) := by decide +kernel
theorem dX12_pavement_202 : decode cX12_pavement 202 = .ok (.iload_n 1, 1) := by decide +kernel
theorem dX12_pavement_203 : decode cX12_pavement 203 = .ok (.aload_n 0, 1) := by decide +kernel
theorem dX12_pavement_204 : decode cX12_pavement 204 = .ok (.getfield 22, 3) := by decide +kernel
theorem dX12_pavement_207 : decode cX12_pavement 207 = .ok (.iload_n 1, 1) := by decide +kernel
theorem dX12_pavement_208 : decode cX12_pavement 208 = .ok (.iaload, 1) := by decide +kernel
theorem dX12_pavement_209 : decode cX12_pavement 209 = .ok (.iastore, 1) := by decide +kernel
theorem dX12_pavement_210 : decode cX12_pavement 210 = .ok (.iinc 1 1, 3) := by decide +kernel
theorem dX12_pavement_213 : decode cX12_pavement 213 = .ok (.goto (-21), 3) := by decide +kernel
theorem dX12_pavement_216 : decode cX12_pavement 216 = .ok (.iconst 0, 1) := by decide +kernel
theorem dX12_pavement_217 : decode cX12_pavement 217 = .ok (.istore_n 1, 1) := by decide +kernel
theorem dX12_pavement_218 : decode cX12_pavement 218 = .ok (.iload_n 1, 1) := by decide +kernel
theorem dX12_pavement_219 : decode cX12_pavement 219 = .ok (.bipush 104, 2) := by decide +kernel
theorem dX12_pavement_221 : decode cX12_pavement 221 = .ok (.if_icmp .ge 16, 3) := by decide +kernel
theorem dX12_pavement_224 : decode cX12_pavement 224 = .ok (.aload_n 0, 1) := by decide +kernel
theorem dX12_pavement_225 : decode cX12_pavement 225 = .ok (.getfield 25, 3) := by decide +kernel
theorem dX12_pavement_228 : decode cX12_pavement 228 = .ok (.iload_n 1, 1) := by decide +kernel
theorem dX12_pavement_229 : decode cX12_pavement 229 = .ok (.iconst 0, 1) := by decide +kernel
theorem dX12_pavement_230 : decode cX12_pavement 230 = .ok (.iastore, 1) := by decide +kernel
theorem dX12_pavement_231 : decode cX12_pavement 231 = .ok (.iinc 1 1, 3) := by decide +kernel
theorem dX12_pavement_234 : decode cX12_pavement 234 = .ok (.goto (-16), 3) := by decide +kernel
theorem dX12_pavement_237 : decode cX12_pavement 237 = .ok (.iconst 0, 1) := by decide +kernel
theorem dX12_pavement_238 : decode cX12_pavement 238 = .ok (.istore_n 1, 1) := by decide +kernel
theorem dX12_pavement_239 : decode cX12_pavement 239 = .ok (.iload_n 1, 1) := by decide +kernel
theorem dX12_pavement_240 : decode cX12_pavement 240 = .ok (.iconst 5, 1) := by decide +kernel
theorem dX12_pavement_241 : decode cX12_pavement 241 = .ok (.if_icmp .ge 26, 3) := by decide +kernel
theorem dX12_pavement_244 : decode cX12_pavement 244 = .ok (.aload_n 0, 1) := by decide +kernel
theorem dX12_pavement_245 : decode cX12_pavement 245 = .ok (.getfield 25, 3) := by decide +kernel
theorem dX12_pavement_248 : decode cX12_pavement 248 = .ok (.iconst 0, 1) := by decide +kernel
theorem dX12_pavement_249 : decode cX12_pavement 249 = .ok (.iload_n 1, 1) := by decide +kernel
theorem dX12_pavement_250 : decode cX12_pavement 250 = .ok (.iadd, 1) := by decide +kernel
theorem dX12_pavement_251 : decode cX12_pavement 251 = .ok (.aload_n 0, 1) := by decide +kernel
theorem dX12_pavement_252 : decode cX12_pavement 252 = .ok (.getfield 19, 3) := by decide +kernel
theorem dX12_pavement_255 : decode cX12_pavement 255 = .ok (.bipush 95, 2) := by decide +kernel
theorem dX12_pavement_257 : decode cX12_pavement 257 = .ok (.iload_n 1, 1) := by decide +kernel
theorem dX12_pavement_258 : decode cX12_pavement 258 = .ok (.iadd, 1) := by decide +kernel
theorem dX12_pavement_259 : decode cX12_pavement 259 = .ok (.iaload, 1) := by decide +kernel
theorem dX12_pavement_260 : decode cX12_pavement 260 = .ok (.iastore, 1) := by decide +kernel
theorem dX12_pavement_261 : decode cX12_pavement 261 = .ok (.iinc 1 1, 3) := by decide +kernel
theorem dX12_pavement_264 : decode cX12_pavement 264 = .ok (.goto (-25), 3) := by decide +kernel
theorem dX12_pavement_267 : decode cX12_pavement 267 = .ok (.iconst 0, 1) := by decide +kernel
theorem dX12_pavement_268 : decode cX12_pavement 268 = .ok (.istore_n 1, 1) := by decide +kernel
theorem dX12_pavement_269 : decode cX12_pavement 269 = .ok (.iload_n 1, 1) := by decide +kernel
theorem dX12_pavement_270 : decode cX12_pavement 270 = .ok (.iconst 4, 1) := by decide +kernel
theorem dX12_pavement_271 : decode cX12_pavement 271 = .ok (.if_icmp .ge 26, 3) := by decide +kernel
theorem dX12_pavement_274 : decode cX12_pavement 274 = .ok (.aload_n 0, 1) := by decide +kernel
theorem dX12_pavement_275 : decode cX12_pavement 275 = .ok (.getfield 25, 3) := by decide +kernel
theorem dX12_pavement_278 : decode cX12_pavement 278 = .ok (.iconst 5, 1) := by decide +kernel
theorem dX12_pavement_279 : decode cX12_pavement 279 = .ok (.iload_n 1, 1) := by decide +kernel
theorem dX12_pavement_280 : decode cX12_pavement 280 = .ok (.iadd, 1) := by decide +kernel
theorem dX12_pavement_281 : decode cX12_pavement 281 = .ok (.aload_n 0, 1) := by decide +kernel
theorem dX12_pavement_282 : decode cX12_pavement 282 = .ok (.getfield 19, 3) := by decide +kernel
theorem dX12_pavement_285 : decode cX12_pavement 285 = .ok (.bipush 100, 2) := by decide +kernel
theorem dX12_pavement_287 : decode cX12_pavement 287 = .ok (.iload_n 1, 1) := by decide +kernel
theorem dX12_pavement_288 : decode cX12_pavement 288 = .ok (.iadd, 1) := by decide +kernel
theorem dX12_pavement_289 : decode cX12_pavement 289 = .ok (.iaload, 1) := by decide +kernel
theorem dX12_pavement_290 : decode cX12_pavement 290 = .ok (.iastore, 1) := by decide +kernel
theorem dX12_pavement_291 : decode cX12_pavement 291 = .ok (.iinc 1 1, 3) := by decide +kernel
theorem dX12_pavement_294 : decode cX12_pavement 294 = .ok (.goto (-25), 3) := by decide +kernel
theorem dX12_pavement_297 : decode cX12_pavement 297 = .ok (.aload_n 0, 1) := by decide +kernel
theorem dX12_pavement_298 : decode cX12_pavement 298 = .ok (.invokevirtual 220, 3) := by decide +kernel
theorem dX12_pavement_301 : decode cX12_pavement 301 = .ok (.aload_n 0, 1) := by decide +kernel
theorem dX12_pavement_302 : decode cX12_pavement 302 = .ok (.getfield 19, 3) := by decide +kernel
theorem dX12_pavement_305 : decode cX12_pavement 305 = .ok (.iconst 0, 1) := by decide +kernel
theorem dX12_pavement_306 : decode cX12_pavement 306 = .ok (.iaload, 1) := by decide +kernel
theorem dX12_pavement_307 : decode cX12_pavement 307 = .ok (.i2l, 1) := by decide +kernel
theorem dX12_pavement_308 : decode cX12_pavement 308 = .ok (.lreturn, 1) := by decide +kernel
def fX12_pavement_269 : Nat → Int → jw_M → Option (Int × jw_M)
  | 0, _, _ => none
  | k + 1, x1, M => if x1 < 4 then (if 0 ≤ jw_w (100 + x1) ∧ jw_w (100 + x1) < 104 then if 0 ≤ jw_w (5 + x1) ∧ jw_w (5 + x1) < 104 then Option.bind (some (jw_up M 133 (jw_w (5 + x1)) (M 131 (jw_w (100 + x1))))) (fun M40 => Option.bind (some (jw_w (x1 + 1))) (fun v41 => fX12_pavement_269 k v41 M40)) else none else none) else (Option.bind (fX12_layWays  M) (fun M42 => if 0 ≤ (0 : Int) ∧ (0 : Int) < 104 then some (M42 131 0, M42) else none))
set_option maxRecDepth 100000 in
theorem pX12_pavement_269 (G : jw_G) : ∀ (k : Nat) (x1 : Int) (hx1 : jw_r x1) (M : jw_M), jw_Rn G YX12_pavement 9 0 0 true (fun q => q) 269 [(0, jR G 127), (1, jI x1)] [] M (fX12_pavement_269 k x1 M) := by
  intro k
  induction k with
  | zero =>
    intro x1 hx1 M
    exact jw_none
  | succ k ih =>
    intro x1 hx1 M
    rw [fX12_pavement_269]
    refine jw_iload_n (pc := 269) 1 dX12_pavement_269 rfl ?_
    refine jw_iconst (pc := 270) dX12_pavement_270 ?_
    refine jw_ic_ge (pc := 271) 297 dX12_pavement_271 (by decide) hx1 (jw_rc _ rfl) (fun _ => ?_) (fun _ => ?_)
    · refine jw_aloadR (pc := 274) 0 dX12_pavement_274 rfl ?_
      refine jw_getR (pc := 275) (j := 8) rfl dX12_pavement_275 jv_12 ji_12 (Or.inl jt_1239) jg_127 jl_127 (by decide) (by decide) rfl jf_12_8 ?_
      refine jw_iconst (pc := 278) dX12_pavement_278 ?_
      refine jw_iload_n (pc := 279) 1 dX12_pavement_279 rfl ?_
      refine jw_iadd (pc := 280) dX12_pavement_280 ?_
      refine jw_aloadR (pc := 281) 0 dX12_pavement_281 rfl ?_
      refine jw_getR (pc := 282) (j := 5) rfl dX12_pavement_282 jv_12 ji_12 (Or.inl jt_1236) jg_127 jl_127 (by decide) (by decide) rfl jf_12_5 ?_
      refine jw_bipush (pc := 285) dX12_pavement_285 rfl ?_
      refine jw_iload_n (pc := 287) 1 dX12_pavement_287 rfl ?_
      refine jw_iadd (pc := 288) dX12_pavement_288 ?_
      refine jw_iald (pc := 289) dX12_pavement_289 jg_131 jl_131 (jw_ho jg_131 (by decide)) (jw_wr _) rfl (fun h39 => ?_)
      refine jw_iast (pc := 290) dX12_pavement_290 jg_133 jl_133 (jw_ho jg_133 (by decide)) (jw_wr _) h39 rfl ?_
      refine jw_letM (fun M40 => ?_)
      refine jw_iincL (pc := 291) 1 (lv' := (fun y => [(1, y), (0, jR G 127)])) dX12_pavement_291 rfl (Nat.le_of_ble_eq_true rfl) (fun _ => rfl) (fun v41 hv41 => ?_)
      refine jw_goto (pc := 294) 269 dX12_pavement_294 (by decide) ?_
      exact jw_few [1, 0] rfl (ih v41 hv41 M40)
    · refine jw_aloadR (pc := 297) 0 dX12_pavement_297 rfl ?_
      refine jw_callVM (pc := 298) (As := []) (st := []) dX12_pavement_298 rfl (Nat.le_of_ble_eq_true rfl) qX12_layWays jt_1465 jt_1467 jp_62 rfl rfl (Nat.le_of_ble_eq_true rfl) jv_12 rfl jg_127 jl_127 (by decide) (jw_ho jg_127 (by decide)) (kX12_layWays G  M) (fun M42 => ?_)
      refine jw_aloadR (pc := 301) 0 dX12_pavement_301 rfl ?_
      refine jw_getR (pc := 302) (j := 5) rfl dX12_pavement_302 jv_12 ji_12 (Or.inl jt_1236) jg_127 jl_127 (by decide) (by decide) rfl jf_12_5 ?_
      refine jw_iconst (pc := 305) dX12_pavement_305 ?_
      refine jw_iald (pc := 306) dX12_pavement_306 jg_131 jl_131 (jw_ho jg_131 (by decide)) (jw_rc _ rfl) rfl (fun h43 => ?_)
      refine jw_i2lr (pc := 307) dX12_pavement_307 h43 ?_
      exact jw_ret (pc := 308) (v := M42 131 0) dX12_pavement_308 (jw_rq h43) rfl rfl
def fX12_pavement_239 : Nat → Int → jw_M → Option (Int × jw_M)
  | 0, _, _ => none
  | k + 1, x1, M => if x1 < 5 then (if 0 ≤ jw_w (95 + x1) ∧ jw_w (95 + x1) < 104 then if 0 ≤ jw_w (0 + x1) ∧ jw_w (0 + x1) < 104 then Option.bind (some (jw_up M 133 (jw_w (0 + x1)) (M 131 (jw_w (95 + x1))))) (fun M36 => Option.bind (some (jw_w (x1 + 1))) (fun v37 => fX12_pavement_239 k v37 M36)) else none else none) else (Option.bind (some 0) (fun v38 => fX12_pavement_269 jw_fu v38 M))
set_option maxRecDepth 100000 in
theorem pX12_pavement_239 (G : jw_G) : ∀ (k : Nat) (x1 : Int) (hx1 : jw_r x1) (M : jw_M), jw_Rn G YX12_pavement 9 0 0 true (fun q => q) 239 [(0, jR G 127), (1, jI x1)] [] M (fX12_pavement_239 k x1 M) := by
  intro k
  induction k with
  | zero =>
    intro x1 hx1 M
    exact jw_none
  | succ k ih =>
    intro x1 hx1 M
    rw [fX12_pavement_239]
    refine jw_iload_n (pc := 239) 1 dX12_pavement_239 rfl ?_
    refine jw_iconst (pc := 240) dX12_pavement_240 ?_
    refine jw_ic_ge (pc := 241) 267 dX12_pavement_241 (by decide) hx1 (jw_rc _ rfl) (fun _ => ?_) (fun _ => ?_)
    · refine jw_aloadR (pc := 244) 0 dX12_pavement_244 rfl ?_
      refine jw_getR (pc := 245) (j := 8) rfl dX12_pavement_245 jv_12 ji_12 (Or.inl jt_1239) jg_127 jl_127 (by decide) (by decide) rfl jf_12_8 ?_
      refine jw_iconst (pc := 248) dX12_pavement_248 ?_
      refine jw_iload_n (pc := 249) 1 dX12_pavement_249 rfl ?_
      refine jw_iadd (pc := 250) dX12_pavement_250 ?_
      refine jw_aloadR (pc := 251) 0 dX12_pavement_251 rfl ?_
      refine jw_getR (pc := 252) (j := 5) rfl dX12_pavement_252 jv_12 ji_12 (Or.inl jt_1236) jg_127 jl_127 (by decide) (by decide) rfl jf_12_5 ?_
      refine jw_bipush (pc := 255) dX12_pavement_255 rfl ?_
      refine jw_iload_n (pc := 257) 1 dX12_pavement_257 rfl ?_
      refine jw_iadd (pc := 258) dX12_pavement_258 ?_
      refine jw_iald (pc := 259) dX12_pavement_259 jg_131 jl_131 (jw_ho jg_131 (by decide)) (jw_wr _) rfl (fun h35 => ?_)
      refine jw_iast (pc := 260) dX12_pavement_260 jg_133 jl_133 (jw_ho jg_133 (by decide)) (jw_wr _) h35 rfl ?_
      refine jw_letM (fun M36 => ?_)
      refine jw_iincL (pc := 261) 1 (lv' := (fun y => [(1, y), (0, jR G 127)])) dX12_pavement_261 rfl (Nat.le_of_ble_eq_true rfl) (fun _ => rfl) (fun v37 hv37 => ?_)
      refine jw_goto (pc := 264) 239 dX12_pavement_264 (by decide) ?_
      exact jw_few [1, 0] rfl (ih v37 hv37 M36)
    · refine jw_iconst (pc := 267) dX12_pavement_267 ?_
      refine jw_istore_nL (pc := 268) (lv' := (fun y => [(1, y), (0, jR G 127)])) dX12_pavement_268 (jw_rc _ rfl) (by decide) (fun _ => rfl) (fun v38 hv38 => ?_)
      exact jw_few [1, 0] rfl (pX12_pavement_269 G jw_fu v38 hv38 M)
def fX12_pavement_218 : Nat → Int → jw_M → Option (Int × jw_M)
  | 0, _, _ => none
  | k + 1, x1, M => if x1 < 104 then (if 0 ≤ x1 ∧ x1 < 104 then Option.bind (some (jw_up M 133 x1 0)) (fun M32 => Option.bind (some (jw_w (x1 + 1))) (fun v33 => fX12_pavement_218 k v33 M32)) else none) else (Option.bind (some 0) (fun v34 => fX12_pavement_239 jw_fu v34 M))
set_option maxRecDepth 100000 in
theorem pX12_pavement_218 (G : jw_G) : ∀ (k : Nat) (x1 : Int) (hx1 : jw_r x1) (M : jw_M), jw_Rn G YX12_pavement 9 0 0 true (fun q => q) 218 [(0, jR G 127), (1, jI x1)] [] M (fX12_pavement_218 k x1 M) := by
  intro k
  induction k with
  | zero =>
    intro x1 hx1 M
    exact jw_none
  | succ k ih =>
    intro x1 hx1 M
    rw [fX12_pavement_218]
    refine jw_iload_n (pc := 218) 1 dX12_pavement_218 rfl ?_
    refine jw_bipush (pc := 219) dX12_pavement_219 rfl ?_
    refine jw_ic_ge (pc := 221) 237 dX12_pavement_221 (by decide) hx1 (jw_rc _ rfl) (fun _ => ?_) (fun _ => ?_)
    · refine jw_aloadR (pc := 224) 0 dX12_pavement_224 rfl ?_
      refine jw_getR (pc := 225) (j := 8) rfl dX12_pavement_225 jv_12 ji_12 (Or.inl jt_1239) jg_127 jl_127 (by decide) (by decide) rfl jf_12_8 ?_
      refine jw_iload_n (pc := 228) 1 dX12_pavement_228 rfl ?_
      refine jw_iconst (pc := 229) dX12_pavement_229 ?_
      refine jw_iast (pc := 230) dX12_pavement_230 jg_133 jl_133 (jw_ho jg_133 (by decide)) hx1 (jw_rc _ rfl) rfl ?_
      refine jw_letM (fun M32 => ?_)
      refine jw_iincL (pc := 231) 1 (lv' := (fun y => [(1, y), (0, jR G 127)])) dX12_pavement_231 rfl (Nat.le_of_ble_eq_true rfl) (fun _ => rfl) (fun v33 hv33 => ?_)
      refine jw_goto (pc := 234) 218 dX12_pavement_234 (by decide) ?_
      exact jw_few [1, 0] rfl (ih v33 hv33 M32)
    · refine jw_iconst (pc := 237) dX12_pavement_237 ?_
      refine jw_istore_nL (pc := 238) (lv' := (fun y => [(1, y), (0, jR G 127)])) dX12_pavement_238 (jw_rc _ rfl) (by decide) (fun _ => rfl) (fun v34 hv34 => ?_)
      exact jw_few [1, 0] rfl (pX12_pavement_239 G jw_fu v34 hv34 M)
def fX12_pavement_192 : Nat → Int → jw_M → Option (Int × jw_M)
  | 0, _, _ => none
  | k + 1, x1, M => if x1 < 104 then (if 0 ≤ x1 ∧ x1 < 104 then if 0 ≤ x1 ∧ x1 < 104 then Option.bind (some (jw_up M 131 x1 (M 132 x1))) (fun M29 => Option.bind (some (jw_w (x1 + 1))) (fun v30 => fX12_pavement_192 k v30 M29)) else none else none) else (Option.bind (some 0) (fun v31 => fX12_pavement_218 jw_fu v31 M))
set_option maxRecDepth 100000 in
theorem pX12_pavement_192 (G : jw_G) : ∀ (k : Nat) (x1 : Int) (hx1 : jw_r x1) (M : jw_M), jw_Rn G YX12_pavement 9 0 0 true (fun q => q) 192 [(0, jR G 127), (1, jI x1)] [] M (fX12_pavement_192 k x1 M) := by
  intro k
  induction k with
  | zero =>
    intro x1 hx1 M
    exact jw_none
  | succ k ih =>
    intro x1 hx1 M
    rw [fX12_pavement_192]
    refine jw_iload_n (pc := 192) 1 dX12_pavement_192 rfl ?_
    refine jw_bipush (pc := 193) dX12_pavement_193 rfl ?_
    refine jw_ic_ge (pc := 195) 216 dX12_pavement_195 (by decide) hx1 (jw_rc _ rfl) (fun _ => ?_) (fun _ => ?_)
    · refine jw_aloadR (pc := 198) 0 dX12_pavement_198 rfl ?_
      refine jw_getR (pc := 199) (j := 5) rfl dX12_pavement_199 jv_12 ji_12 (Or.inl jt_1236) jg_127 jl_127 (by decide) (by decide) rfl jf_12_5 ?_
      refine jw_iload_n (pc := 202) 1 dX12_pavement_202 rfl ?_
      refine jw_aloadR (pc := 203) 0 dX12_pavement_203 rfl ?_
      refine jw_getR (pc := 204) (j := 6) rfl dX12_pavement_204 jv_12 ji_12 (Or.inl jt_1237) jg_127 jl_127 (by decide) (by decide) rfl jf_12_6 ?_
      refine jw_iload_n (pc := 207) 1 dX12_pavement_207 rfl ?_
      refine jw_iald (pc := 208) dX12_pavement_208 jg_132 jl_132 (jw_ho jg_132 (by decide)) hx1 rfl (fun h28 => ?_)
      refine jw_iast (pc := 209) dX12_pavement_209 jg_131 jl_131 (jw_ho jg_131 (by decide)) hx1 h28 rfl ?_
      refine jw_letM (fun M29 => ?_)
      refine jw_iincL (pc := 210) 1 (lv' := (fun y => [(1, y), (0, jR G 127)])) dX12_pavement_210 rfl (Nat.le_of_ble_eq_true rfl) (fun _ => rfl) (fun v30 hv30 => ?_)
      refine jw_goto (pc := 213) 192 dX12_pavement_213 (by decide) ?_
      exact jw_few [1, 0] rfl (ih v30 hv30 M29)
    · refine jw_iconst (pc := 216) dX12_pavement_216 ?_
      refine jw_istore_nL (pc := 217) (lv' := (fun y => [(1, y), (0, jR G 127)])) dX12_pavement_217 (jw_rc _ rfl) (by decide) (fun _ => rfl) (fun v31 hv31 => ?_)
      exact jw_few [1, 0] rfl (pX12_pavement_218 G jw_fu v31 hv31 M)
def fX12_pavement_138 : Nat → jw_M → Option (Int × jw_M)
  | 0, _ => none
  | k + 1, M => Option.bind (fX12_word  M) (fun v19 => if jw_cmp v19 444251202675 = 0 then (Option.bind (fX12_readGoods  M) (fun M20 => fX12_pavement_138 k M20)) else (Option.bind (fX12_readPeople  M) (fun M21 => if (0 : Int) < M21 127 17 then (Option.bind (some (jw_up M21 127 11 (M21 127 17))) (fun M24 => some (jw_v ((-9000000000000000100) - (M24 127 18)), M24))) else (Option.bind (some (jw_up M21 127 7 1)) (fun M26 => Option.bind (some 0) (fun v27 => fX12_pavement_192 jw_fu v27 M26))))))
set_option maxRecDepth 100000 in
theorem pX12_pavement_138 (G : jw_G) : ∀ (k : Nat) (M : jw_M), jw_Rn G YX12_pavement 9 0 0 true (fun q => q) 138 [(0, jR G 127)] [] M (fX12_pavement_138 k M) := by
  intro k
  induction k with
  | zero =>
    intro M
    exact jw_none
  | succ k ih =>
    intro M
    rw [fX12_pavement_138]
    refine jw_aloadR (pc := 138) 0 dX12_pavement_138 rfl ?_
    refine jw_callVl (pc := 139) (As := []) (st := []) dX12_pavement_139 rfl (Nat.le_of_ble_eq_true rfl) qX12_word jt_1393 jt_1395 jp_46 rfl rfl (Nat.le_of_ble_eq_true rfl) jv_12 rfl jg_127 jl_127 (by decide) (jw_ho jg_127 (by decide)) (kX12_word G  M) (fun v19 hv19 => ?_)
    refine jw_ldc2 (pc := 142) (n := 444251202675) dX12_pavement_142 jt_1435 (by decide) ?_
    refine jw_lcmp (pc := 145) dX12_pavement_145 hv19 (jw_qc _ rfl) ?_
    refine jw_if_ne (pc := 146) 156 dX12_pavement_146 (by decide) (jw_cmpr _ _) (fun _ => ?_) (fun _ => ?_)
    · refine jw_aloadR (pc := 149) 0 dX12_pavement_149 rfl ?_
      refine jw_callVM (pc := 150) (As := []) (st := []) dX12_pavement_150 rfl (Nat.le_of_ble_eq_true rfl) qX12_readGoods jt_1436 jt_1438 jp_56 rfl rfl (Nat.le_of_ble_eq_true rfl) jv_12 rfl jg_127 jl_127 (by decide) (jw_ho jg_127 (by decide)) (kX12_readGoods G  M) (fun M20 => ?_)
      refine jw_goto (pc := 153) 138 dX12_pavement_153 (by decide) ?_
      exact jw_few [0] rfl (ih M20)
    · refine jw_aloadR (pc := 156) 0 dX12_pavement_156 rfl ?_
      refine jw_callVM (pc := 157) (As := []) (st := []) dX12_pavement_157 rfl (Nat.le_of_ble_eq_true rfl) qX12_readPeople jt_1440 jt_1442 jp_57 rfl rfl (Nat.le_of_ble_eq_true rfl) jv_12 rfl jg_127 jl_127 (by decide) (jw_ho jg_127 (by decide)) (kX12_readPeople G  M) (fun M21 => ?_)
      refine jw_aloadR (pc := 160) 0 dX12_pavement_160 rfl ?_
      refine jw_getI (pc := 161) (j := 17) rfl dX12_pavement_161 jv_12 ji_12 (Or.inl jt_1248) jg_127 jl_127 (by decide) (by decide) (jw_ho jg_127 (by decide)) (Or.inl rfl) rfl (fun h22 => ?_)
      refine jw_if_le (pc := 164) 185 dX12_pavement_164 (by decide) h22 (fun _ => ?_) (fun _ => ?_)
      · refine jw_aloadR (pc := 167) 0 dX12_pavement_167 rfl ?_
        refine jw_aloadR (pc := 168) 0 dX12_pavement_168 rfl ?_
        refine jw_getI (pc := 169) (j := 17) rfl dX12_pavement_169 jv_12 ji_12 (Or.inl jt_1248) jg_127 jl_127 (by decide) (by decide) (jw_ho jg_127 (by decide)) (Or.inl rfl) rfl (fun h23 => ?_)
        refine jw_putI (pc := 172) (j := 11) tyX12 rfl dX12_pavement_172 jv_12 ji_12 tyX12_ok nmX12 (Or.inl jt_1242) rfl jg_127 jl_127 (by decide) (by decide) (jw_ho jg_127 (by decide)) rfl rfl h23 rfl ?_
        refine jw_letM (fun M24 => ?_)
        refine jw_ldc2 (pc := 175) (n := (-9000000000000000100)) dX12_pavement_175 jt_1464 (by decide) ?_
        refine jw_aloadR (pc := 178) 0 dX12_pavement_178 rfl ?_
        refine jw_getI (pc := 179) (j := 18) rfl dX12_pavement_179 jv_12 ji_12 (Or.inl jt_1249) jg_127 jl_127 (by decide) (by decide) (jw_ho jg_127 (by decide)) (Or.inl rfl) rfl (fun h25 => ?_)
        refine jw_i2lr (pc := 182) dX12_pavement_182 h25 ?_
        refine jw_lsub (pc := 183) dX12_pavement_183 ?_
        exact jw_ret (pc := 184) (v := jw_v ((-9000000000000000100) - (M24 127 18))) dX12_pavement_184 (jw_vr _) rfl rfl
      · refine jw_aloadR (pc := 185) 0 dX12_pavement_185 rfl ?_
        refine jw_iconst (pc := 186) dX12_pavement_186 ?_
        refine jw_putZ (pc := 187) (j := 7) tyX12 rfl dX12_pavement_187 jv_12 ji_12 tyX12_ok nmX12 (Or.inl jt_1238) rfl jg_127 jl_127 (by decide) (by decide) (jw_ho jg_127 (by decide)) rfl rfl (Or.inr rfl) rfl ?_
        refine jw_letM (fun M26 => ?_)
        refine jw_iconst (pc := 190) dX12_pavement_190 ?_
        refine jw_istore_nL (pc := 191) (lv' := (fun y => [(1, y), (0, jR G 127)])) dX12_pavement_191 (jw_rc _ rfl) (by decide) (fun _ => rfl) (fun v27 hv27 => ?_)
        exact jw_few [1, 0] rfl (pX12_pavement_192 G jw_fu v27 hv27 M26)
def fX12_pavement_104 : Nat → jw_M → Option (Int × jw_M)
  | 0, _ => none
  | k + 1, M => Option.bind (fX12_word  M) (fun v16 => if jw_cmp v16 126943972648308 = 0 then (Option.bind (fX12_readStreet  M) (fun M17 => fX12_pavement_104 k M17)) else (Option.bind (fX12_word  M) (fun v18 => if jw_cmp v18 444251202675 = 0 then (fX12_pavement_138 jw_fu M) else (Option.bind (fX12_bad 1 M) (fun M44 => fX12_pavement_138 jw_fu M44)))))
set_option maxRecDepth 100000 in
theorem pX12_pavement_104 (G : jw_G) : ∀ (k : Nat) (M : jw_M), jw_Rn G YX12_pavement 9 0 0 true (fun q => q) 104 [(0, jR G 127)] [] M (fX12_pavement_104 k M) := by
  intro k
  induction k with
  | zero =>
    intro M
    exact jw_none
  | succ k ih =>
    intro M
    rw [fX12_pavement_104]
    refine jw_aloadR (pc := 104) 0 dX12_pavement_104 rfl ?_
    refine jw_callVl (pc := 105) (As := []) (st := []) dX12_pavement_105 rfl (Nat.le_of_ble_eq_true rfl) qX12_word jt_1393 jt_1395 jp_46 rfl rfl (Nat.le_of_ble_eq_true rfl) jv_12 rfl jg_127 jl_127 (by decide) (jw_ho jg_127 (by decide)) (kX12_word G  M) (fun v16 hv16 => ?_)
    refine jw_ldc2 (pc := 108) (n := 126943972648308) dX12_pavement_108 jt_1426 (by decide) ?_
    refine jw_lcmp (pc := 111) dX12_pavement_111 hv16 (jw_qc _ rfl) ?_
    refine jw_if_ne (pc := 112) 122 dX12_pavement_112 (by decide) (jw_cmpr _ _) (fun _ => ?_) (fun _ => ?_)
    · refine jw_aloadR (pc := 115) 0 dX12_pavement_115 rfl ?_
      refine jw_callVM (pc := 116) (As := []) (st := []) dX12_pavement_116 rfl (Nat.le_of_ble_eq_true rfl) qX12_readStreet jt_1427 jt_1429 jp_54 rfl rfl (Nat.le_of_ble_eq_true rfl) jv_12 rfl jg_127 jl_127 (by decide) (jw_ho jg_127 (by decide)) (kX12_readStreet G  M) (fun M17 => ?_)
      refine jw_goto (pc := 119) 104 dX12_pavement_119 (by decide) ?_
      exact jw_few [0] rfl (ih M17)
    · refine jw_aloadR (pc := 122) 0 dX12_pavement_122 rfl ?_
      refine jw_callVl (pc := 123) (As := []) (st := []) dX12_pavement_123 rfl (Nat.le_of_ble_eq_true rfl) qX12_word jt_1393 jt_1395 jp_46 rfl rfl (Nat.le_of_ble_eq_true rfl) jv_12 rfl jg_127 jl_127 (by decide) (jw_ho jg_127 (by decide)) (kX12_word G  M) (fun v18 hv18 => ?_)
      refine jw_ldc2 (pc := 126) (n := 444251202675) dX12_pavement_126 jt_1435 (by decide) ?_
      refine jw_lcmp (pc := 129) dX12_pavement_129 hv18 (jw_qc _ rfl) ?_
      refine jw_if_eq (pc := 130) 138 dX12_pavement_130 (by decide) (jw_cmpr _ _) (fun _ => ?_) (fun _ => ?_)
      · exact jw_few [0] rfl (pX12_pavement_138 G jw_fu M)
      · refine jw_aloadR (pc := 133) 0 dX12_pavement_133 rfl ?_
        refine jw_iconst (pc := 134) dX12_pavement_134 ?_
        refine jw_callVM (pc := 135) (As := [jI 1]) (st := []) dX12_pavement_135 rfl (Nat.le_of_ble_eq_true rfl) qX12_bad jt_1398 jt_1400 jp_47 rfl rfl (Nat.le_of_ble_eq_true rfl) jv_12 rfl jg_127 jl_127 (by decide) (jw_ho jg_127 (by decide)) (kX12_bad G 1 (jw_rc _ rfl) M) (fun M44 => ?_)
        exact jw_few [0] rfl (pX12_pavement_138 G jw_fu M44)
def fX12_pavement_86 : Nat → jw_M → Option (Int × jw_M)
  | 0, _ => none
  | k + 1, M => Option.bind (fX12_word  M) (fun v14 => if jw_cmp v14 109330312357234 = 0 then (Option.bind (fX12_readCorner  M) (fun M15 => fX12_pavement_86 k M15)) else (fX12_pavement_104 jw_fu M))
set_option maxRecDepth 100000 in
theorem pX12_pavement_86 (G : jw_G) : ∀ (k : Nat) (M : jw_M), jw_Rn G YX12_pavement 9 0 0 true (fun q => q) 86 [(0, jR G 127)] [] M (fX12_pavement_86 k M) := by
  intro k
  induction k with
  | zero =>
    intro M
    exact jw_none
  | succ k ih =>
    intro M
    rw [fX12_pavement_86]
    refine jw_aloadR (pc := 86) 0 dX12_pavement_86 rfl ?_
    refine jw_callVl (pc := 87) (As := []) (st := []) dX12_pavement_87 rfl (Nat.le_of_ble_eq_true rfl) qX12_word jt_1393 jt_1395 jp_46 rfl rfl (Nat.le_of_ble_eq_true rfl) jv_12 rfl jg_127 jl_127 (by decide) (jw_ho jg_127 (by decide)) (kX12_word G  M) (fun v14 hv14 => ?_)
    refine jw_ldc2 (pc := 90) (n := 109330312357234) dX12_pavement_90 jt_1397 (by decide) ?_
    refine jw_lcmp (pc := 93) dX12_pavement_93 hv14 (jw_qc _ rfl) ?_
    refine jw_if_ne (pc := 94) 104 dX12_pavement_94 (by decide) (jw_cmpr _ _) (fun _ => ?_) (fun _ => ?_)
    · refine jw_aloadR (pc := 97) 0 dX12_pavement_97 rfl ?_
      refine jw_callVM (pc := 98) (As := []) (st := []) dX12_pavement_98 rfl (Nat.le_of_ble_eq_true rfl) qX12_readCorner jt_1402 jt_1404 jp_48 rfl rfl (Nat.le_of_ble_eq_true rfl) jv_12 rfl jg_127 jl_127 (by decide) (jw_ho jg_127 (by decide)) (kX12_readCorner G  M) (fun M15 => ?_)
      refine jw_goto (pc := 101) 86 dX12_pavement_101 (by decide) ?_
      exact jw_few [0] rfl (ih M15)
    · exact jw_few [0] rfl (pX12_pavement_104 G jw_fu M)
def fX12_pavement_30 : Nat → Int → jw_M → Option (Int × jw_M)
  | 0, _, _ => none
  | k + 1, x1, M => if x1 < 104 then (if 0 ≤ x1 ∧ x1 < 104 then Option.bind (some (jw_up M 132 x1 0)) (fun M8 => Option.bind (some (jw_w (x1 + 1))) (fun v9 => fX12_pavement_30 k v9 M8)) else none) else (if 0 ≤ (88 : Int) ∧ (88 : Int) < 104 then Option.bind (some (jw_up M 132 88 11)) (fun M10 => if 0 ≤ (89 : Int) ∧ (89 : Int) < 104 then Option.bind (some (jw_up M10 132 89 3)) (fun M11 => Option.bind (fX12_next  M11) (fun M12 => Option.bind (fX12_word  M12) (fun v13 => if jw_cmp v13 109330312357234 = 0 then (fX12_pavement_86 jw_fu M12) else (Option.bind (fX12_bad 1 M12) (fun M45 => fX12_pavement_86 jw_fu M45))))) else none) else none)
set_option maxRecDepth 100000 in
theorem pX12_pavement_30 (G : jw_G) : ∀ (k : Nat) (x1 : Int) (hx1 : jw_r x1) (M : jw_M), jw_Rn G YX12_pavement 9 0 0 true (fun q => q) 30 [(0, jR G 127), (1, jI x1)] [] M (fX12_pavement_30 k x1 M) := by
  intro k
  induction k with
  | zero =>
    intro x1 hx1 M
    exact jw_none
  | succ k ih =>
    intro x1 hx1 M
    rw [fX12_pavement_30]
    refine jw_iload_n (pc := 30) 1 dX12_pavement_30 rfl ?_
    refine jw_bipush (pc := 31) dX12_pavement_31 rfl ?_
    refine jw_ic_ge (pc := 33) 49 dX12_pavement_33 (by decide) hx1 (jw_rc _ rfl) (fun _ => ?_) (fun _ => ?_)
    · refine jw_aloadR (pc := 36) 0 dX12_pavement_36 rfl ?_
      refine jw_getR (pc := 37) (j := 6) rfl dX12_pavement_37 jv_12 ji_12 (Or.inl jt_1237) jg_127 jl_127 (by decide) (by decide) rfl jf_12_6 ?_
      refine jw_iload_n (pc := 40) 1 dX12_pavement_40 rfl ?_
      refine jw_iconst (pc := 41) dX12_pavement_41 ?_
      refine jw_iast (pc := 42) dX12_pavement_42 jg_132 jl_132 (jw_ho jg_132 (by decide)) hx1 (jw_rc _ rfl) rfl ?_
      refine jw_letM (fun M8 => ?_)
      refine jw_iincL (pc := 43) 1 (lv' := (fun y => [(1, y), (0, jR G 127)])) dX12_pavement_43 rfl (Nat.le_of_ble_eq_true rfl) (fun _ => rfl) (fun v9 hv9 => ?_)
      refine jw_goto (pc := 46) 30 dX12_pavement_46 (by decide) ?_
      exact jw_few [1, 0] rfl (ih v9 hv9 M8)
    · refine jw_aloadR (pc := 49) 0 dX12_pavement_49 rfl ?_
      refine jw_getR (pc := 50) (j := 6) rfl dX12_pavement_50 jv_12 ji_12 (Or.inl jt_1237) jg_127 jl_127 (by decide) (by decide) rfl jf_12_6 ?_
      refine jw_bipush (pc := 53) dX12_pavement_53 rfl ?_
      refine jw_bipush (pc := 55) dX12_pavement_55 rfl ?_
      refine jw_iast (pc := 57) dX12_pavement_57 jg_132 jl_132 (jw_ho jg_132 (by decide)) (jw_rc _ rfl) (jw_rc _ rfl) rfl ?_
      refine jw_letM (fun M10 => ?_)
      refine jw_aloadR (pc := 58) 0 dX12_pavement_58 rfl ?_
      refine jw_getR (pc := 59) (j := 6) rfl dX12_pavement_59 jv_12 ji_12 (Or.inl jt_1237) jg_127 jl_127 (by decide) (by decide) rfl jf_12_6 ?_
      refine jw_bipush (pc := 62) dX12_pavement_62 rfl ?_
      refine jw_iconst (pc := 64) dX12_pavement_64 ?_
      refine jw_iast (pc := 65) dX12_pavement_65 jg_132 jl_132 (jw_ho jg_132 (by decide)) (jw_rc _ rfl) (jw_rc _ rfl) rfl ?_
      refine jw_letM (fun M11 => ?_)
      refine jw_aloadR (pc := 66) 0 dX12_pavement_66 rfl ?_
      refine jw_callVM (pc := 67) (As := []) (st := []) dX12_pavement_67 rfl (Nat.le_of_ble_eq_true rfl) qX12_next jt_1378 jt_1380 jp_44 rfl rfl (Nat.le_of_ble_eq_true rfl) jv_12 rfl jg_127 jl_127 (by decide) (jw_ho jg_127 (by decide)) (kX12_next G  M11) (fun M12 => ?_)
      refine jw_aloadR (pc := 70) 0 dX12_pavement_70 rfl ?_
      refine jw_callVl (pc := 71) (As := []) (st := []) dX12_pavement_71 rfl (Nat.le_of_ble_eq_true rfl) qX12_word jt_1393 jt_1395 jp_46 rfl rfl (Nat.le_of_ble_eq_true rfl) jv_12 rfl jg_127 jl_127 (by decide) (jw_ho jg_127 (by decide)) (kX12_word G  M12) (fun v13 hv13 => ?_)
      refine jw_ldc2 (pc := 74) (n := 109330312357234) dX12_pavement_74 jt_1397 (by decide) ?_
      refine jw_lcmp (pc := 77) dX12_pavement_77 hv13 (jw_qc _ rfl) ?_
      refine jw_if_eq (pc := 78) 86 dX12_pavement_78 (by decide) (jw_cmpr _ _) (fun _ => ?_) (fun _ => ?_)
      · exact jw_few [0] rfl (pX12_pavement_86 G jw_fu M12)
      · refine jw_aloadR (pc := 81) 0 dX12_pavement_81 rfl ?_
        refine jw_iconst (pc := 82) dX12_pavement_82 ?_
        refine jw_callVM (pc := 83) (As := [jI 1]) (st := []) dX12_pavement_83 rfl (Nat.le_of_ble_eq_true rfl) qX12_bad jt_1398 jt_1400 jp_47 rfl rfl (Nat.le_of_ble_eq_true rfl) jv_12 rfl jg_127 jl_127 (by decide) (jw_ho jg_127 (by decide)) (kX12_bad G 1 (jw_rc _ rfl) M12) (fun M45 => ?_)
        exact jw_few [0] rfl (pX12_pavement_86 G jw_fu M45)
def fX12_pavement (M : jw_M) : Option (Int × jw_M) :=
  Option.bind (some (jw_up M 127 0 0)) (fun M1 => Option.bind (some (jw_up M1 127 12 (M1 127 10))) (fun M3 => Option.bind (some (jw_up M3 127 10 0)) (fun M4 => Option.bind (some (jw_up M4 127 13 0)) (fun M5 => Option.bind (some (jw_up M5 127 17 0)) (fun M6 => Option.bind (some 0) (fun v7 => fX12_pavement_30 jw_fu v7 M6))))))
set_option maxRecDepth 100000 in
theorem rX12_pavement (G : jw_G) (M : jw_M) : jw_Rn G YX12_pavement 9 0 0 true (fun q => q) 0 [(0, jR G 127)] [] M (fX12_pavement M) := by
  unfold fX12_pavement
  refine jw_aloadR (pc := 0) 0 dX12_pavement_0 rfl ?_
  refine jw_iconst (pc := 1) dX12_pavement_1 ?_
  refine jw_putI (pc := 2) (j := 0) tyX12 rfl dX12_pavement_2 jv_12 ji_12 tyX12_ok nmX12 (Or.inl jt_1231) rfl jg_127 jl_127 (by decide) (by decide) (jw_ho jg_127 (by decide)) rfl rfl (jw_rc _ rfl) rfl ?_
  refine jw_letM (fun M1 => ?_)
  refine jw_aloadR (pc := 5) 0 dX12_pavement_5 rfl ?_
  refine jw_aloadR (pc := 6) 0 dX12_pavement_6 rfl ?_
  refine jw_getI (pc := 7) (j := 10) rfl dX12_pavement_7 jv_12 ji_12 (Or.inl jt_1241) jg_127 jl_127 (by decide) (by decide) (jw_ho jg_127 (by decide)) (Or.inl rfl) rfl (fun h2 => ?_)
  refine jw_putI (pc := 10) (j := 12) tyX12 rfl dX12_pavement_10 jv_12 ji_12 tyX12_ok nmX12 (Or.inl jt_1243) rfl jg_127 jl_127 (by decide) (by decide) (jw_ho jg_127 (by decide)) rfl rfl h2 rfl ?_
  refine jw_letM (fun M3 => ?_)
  refine jw_aloadR (pc := 13) 0 dX12_pavement_13 rfl ?_
  refine jw_iconst (pc := 14) dX12_pavement_14 ?_
  refine jw_putI (pc := 15) (j := 10) tyX12 rfl dX12_pavement_15 jv_12 ji_12 tyX12_ok nmX12 (Or.inl jt_1241) rfl jg_127 jl_127 (by decide) (by decide) (jw_ho jg_127 (by decide)) rfl rfl (jw_rc _ rfl) rfl ?_
  refine jw_letM (fun M4 => ?_)
  refine jw_aloadR (pc := 18) 0 dX12_pavement_18 rfl ?_
  refine jw_iconst (pc := 19) dX12_pavement_19 ?_
  refine jw_putI (pc := 20) (j := 13) tyX12 rfl dX12_pavement_20 jv_12 ji_12 tyX12_ok nmX12 (Or.inl jt_1244) rfl jg_127 jl_127 (by decide) (by decide) (jw_ho jg_127 (by decide)) rfl rfl (jw_rc _ rfl) rfl ?_
  refine jw_letM (fun M5 => ?_)
  refine jw_aloadR (pc := 23) 0 dX12_pavement_23 rfl ?_
  refine jw_iconst (pc := 24) dX12_pavement_24 ?_
  refine jw_putI (pc := 25) (j := 17) tyX12 rfl dX12_pavement_25 jv_12 ji_12 tyX12_ok nmX12 (Or.inl jt_1248) rfl jg_127 jl_127 (by decide) (by decide) (jw_ho jg_127 (by decide)) rfl rfl (jw_rc _ rfl) rfl ?_
  refine jw_letM (fun M6 => ?_)
  refine jw_iconst (pc := 28) dX12_pavement_28 ?_
  refine jw_istore_nL (pc := 29) (lv' := (fun y => [(1, y), (0, jR G 127)])) dX12_pavement_29 (jw_rc _ rfl) (by decide) (fun _ => rfl) (fun v7 hv7 => ?_)
  exact jw_few [1, 0] rfl (pX12_pavement_30 G jw_fu v7 hv7 M6)
theorem kX12_pavement (G : jw_G) (M : jw_M) : jw_Ct G YX12_pavement (some .long) 9 0 0 true (fun q => q) yX12_pavement [jR G 127] M (fX12_pavement M) := jw_met (by decide) rfl rfl rfl (Nat.le_of_ble_eq_true rfl) (rX12_pavement G M)
