abbrev YX12_areAtRest : jw_Y := (RX12, cX12_areAtRest, 3, 4, "areAtRest")
theorem qX12_areAtRest : jw_cy YX12_areAtRest (some .boolean) yX12_areAtRest 0 := ⟨by decide, jt_1609, jt_14, by decide, by decide +kernel⟩
theorem dX12_areAtRest_0 : decode cX12_areAtRest 0 = .ok (.iconst 1, 1) := by decide +kernel
theorem dX12_areAtRest_1 : decode cX12_areAtRest 1 = .ok (.istore_n 1, 1) := by decide +kernel
theorem dX12_areAtRest_2 : decode cX12_areAtRest 2 = .ok (.iconst 0, 1) := by decide +kernel
theorem dX12_areAtRest_3 : decode cX12_areAtRest 3 = .ok (.istore_n 2, 1) := by decide +kernel
theorem dX12_areAtRest_4 : decode cX12_areAtRest 4 = .ok (.iload_n 2, 1) := by decide +kernel
theorem dX12_areAtRest_5 : decode cX12_areAtRest 5 = .ok (.aload_n 0, 1) := by decide +kernel
theorem dX12_areAtRest_6 : decode cX12_areAtRest 6 = .ok (.getfield 19, 3) := by decide +kernel
theorem dX12_areAtRest_9 : decode cX12_areAtRest 9 = .ok (.iconst 3, 1) := by decide +kernel
theorem dX12_areAtRest_10 : decode cX12_areAtRest 10 = .ok (.iaload, 1) := by decide +kernel
theorem dX12_areAtRest_11 : decode cX12_areAtRest 11 = .ok (.if_icmp .ge 35, 3) := by decide +kernel
theorem dX12_areAtRest_14 : decode cX12_areAtRest 14 = .ok (.iload_n 1, 1) := by decide +kernel
theorem dX12_areAtRest_15 : decode cX12_areAtRest 15 = .ok (.ifCond .eq 31, 3) := by decide +kernel
theorem dX12_areAtRest_18 : decode cX12_areAtRest 18 = .ok (.aload_n 0, 1) := by decide +kernel
theorem dX12_areAtRest_19 : decode cX12_areAtRest 19 = .ok (.iload_n 2, 1) := by decide +kernel
theorem dX12_areAtRest_20 : decode cX12_areAtRest 20 = .ok (.invokevirtual 291, 3) := by decide +kernel
theorem dX12_areAtRest_23 : decode cX12_areAtRest 23 = .ok (.aload_n 0, 1) := by decide +kernel
theorem dX12_areAtRest_24 : decode cX12_areAtRest 24 = .ok (.getfield 25, 3) := by decide +kernel
theorem dX12_areAtRest_27 : decode cX12_areAtRest 27 = .ok (.iconst 0, 1) := by decide +kernel
theorem dX12_areAtRest_28 : decode cX12_areAtRest 28 = .ok (.iload_n 2, 1) := by decide +kernel
theorem dX12_areAtRest_29 : decode cX12_areAtRest 29 = .ok (.iadd, 1) := by decide +kernel
theorem dX12_areAtRest_30 : decode cX12_areAtRest 30 = .ok (.iaload, 1) := by decide +kernel
theorem dX12_areAtRest_31 : decode cX12_areAtRest 31 = .ok (.if_icmp .ne 7, 3) := by decide +kernel
theorem dX12_areAtRest_34 : decode cX12_areAtRest 34 = .ok (.iconst 1, 1) := by decide +kernel
theorem dX12_areAtRest_35 : decode cX12_areAtRest 35 = .ok (.goto 4, 3) := by decide +kernel
theorem dX12_areAtRest_38 : decode cX12_areAtRest 38 = .ok (.iconst 0, 1) := by decide +kernel
theorem dX12_areAtRest_39 : decode cX12_areAtRest 39 = .ok (.istore_n 1, 1) := by decide +kernel
theorem dX12_areAtRest_40 : decode cX12_areAtRest 40 = .ok (.iinc 2 1, 3) := by decide +kernel
theorem dX12_areAtRest_43 : decode cX12_areAtRest 43 = .ok (.goto (-39), 3) := by decide +kernel
theorem dX12_areAtRest_46 : decode cX12_areAtRest 46 = .ok (.iload_n 1, 1) := by decide +kernel
theorem dX12_areAtRest_47 : decode cX12_areAtRest 47 = .ok (.ireturn, 1) := by decide +kernel
def fX12_areAtRest_39 (M : jw_M) (r4 : Int → Int → Option Int) (x2 : Int) (xs0 : Int) : Option Int :=
  Option.bind (some xs0) (fun v7 => Option.bind (some (jw_w (x2 + 1))) (fun v8 => r4 v7 v8))
set_option maxRecDepth 100000 in
theorem pX12_areAtRest_39 (G : jw_G) (M : jw_M) (r4 : Int → Int → Option Int) (hr4 : ∀ (x1 : Int) (x2 : Int) (hx1 : jw_r x1) (hx2 : jw_r x2), jw_Rn G YX12_areAtRest 5 0 0 true (fun v => (v, M)) 4 [(0, jR G 127), (1, jI x1), (2, jI x2)] [] M (r4 x1 x2)) : ∀ (x2 : Int) (xs0 : Int) (hx2 : jw_r x2) (hxs0 : jw_r xs0), jw_Rn G YX12_areAtRest 5 0 0 true (fun v => (v, M)) 39 [(0, jR G 127), (2, jI x2)] [jI xs0] M (fX12_areAtRest_39 M r4 x2 xs0) := by
  intro x2 xs0 hx2 hxs0
  unfold fX12_areAtRest_39
  refine jw_istore_nL (pc := 39) (lv' := (fun y => [(1, y), (0, jR G 127), (2, jI x2)])) dX12_areAtRest_39 hxs0 (by decide) (fun _ => rfl) (fun v7 hv7 => ?_)
  refine jw_iincL (pc := 40) 2 (lv' := (fun y => [(2, y), (1, jI v7), (0, jR G 127)])) dX12_areAtRest_40 rfl (Nat.le_of_ble_eq_true rfl) (fun _ => rfl) (fun v8 hv8 => ?_)
  refine jw_goto (pc := 43) 4 dX12_areAtRest_43 (by decide) ?_
  exact jw_few [2, 1, 0] rfl (hr4 v7 v8 hv7 hv8)
def fX12_areAtRest_4 (M : jw_M) : Nat → Int → Int → Option Int
  | 0, _, _ => none
  | k + 1, x1, x2 => if 0 ≤ (3 : Int) ∧ (3 : Int) < 104 then if x2 < M 131 3 then (if x1 = 0 then (if x1 = 0 ∨ x1 = 1 then some x1 else none) else (Option.bind (fX12_bestOf x2 M) (fun v5 => if 0 ≤ jw_w (0 + x2) ∧ jw_w (0 + x2) < 104 then if v5 = M 133 (jw_w (0 + x2)) then (fX12_areAtRest_39 M (fX12_areAtRest_4 M k) x2 1) else (fX12_areAtRest_39 M (fX12_areAtRest_4 M k) x2 0) else none))) else (if x1 = 0 ∨ x1 = 1 then some x1 else none) else none
set_option maxRecDepth 100000 in
theorem pX12_areAtRest_4 (G : jw_G) (M : jw_M) : ∀ (k : Nat) (x1 : Int) (x2 : Int) (hx1 : jw_r x1) (hx2 : jw_r x2), jw_Rn G YX12_areAtRest 5 0 0 true (fun v => (v, M)) 4 [(0, jR G 127), (1, jI x1), (2, jI x2)] [] M (fX12_areAtRest_4 M k x1 x2) := by
  intro k
  induction k with
  | zero =>
    intro x1 x2 hx1 hx2
    exact jw_none
  | succ k ih =>
    intro x1 x2 hx1 hx2
    rw [fX12_areAtRest_4]
    refine jw_iload_n (pc := 4) 2 dX12_areAtRest_4 rfl ?_
    refine jw_aloadR (pc := 5) 0 dX12_areAtRest_5 rfl ?_
    refine jw_getR (pc := 6) (j := 5) rfl dX12_areAtRest_6 jv_12 ji_12 (Or.inl jt_1236) jg_127 jl_127 (by decide) (by decide) rfl jf_12_5 ?_
    refine jw_iconst (pc := 9) dX12_areAtRest_9 ?_
    refine jw_iald (pc := 10) dX12_areAtRest_10 jg_131 jl_131 (jw_ho jg_131 (by decide)) (jw_rc _ rfl) rfl (fun h3 => ?_)
    refine jw_ic_ge (pc := 11) 46 dX12_areAtRest_11 (by decide) hx2 h3 (fun _ => ?_) (fun _ => ?_)
    · refine jw_iload_n (pc := 14) 1 dX12_areAtRest_14 rfl ?_
      refine jw_if_eq (pc := 15) 46 dX12_areAtRest_15 (by decide) hx1 (fun _ => ?_) (fun _ => ?_)
      · refine jw_iload_n (pc := 46) 1 dX12_areAtRest_46 rfl ?_
        refine jw_ck (fun h4 => ?_)
        exact jw_ret (pc := 47) (v := x1) dX12_areAtRest_47 h4 rfl rfl
      · refine jw_aloadR (pc := 18) 0 dX12_areAtRest_18 rfl ?_
        refine jw_iload_n (pc := 19) 2 dX12_areAtRest_19 rfl ?_
        refine jw_callVi (pc := 20) (As := [jI x2]) (st := []) dX12_areAtRest_20 rfl (Nat.le_of_ble_eq_true rfl) qX12_bestOf jt_1610 jt_1612 jp_81 rfl rfl (Nat.le_of_ble_eq_true rfl) jv_12 rfl jg_127 jl_127 (by decide) (jw_ho jg_127 (by decide)) (kX12_bestOf G x2 hx2 M) (fun v5 hv5 => ?_)
        refine jw_aloadR (pc := 23) 0 dX12_areAtRest_23 rfl ?_
        refine jw_getR (pc := 24) (j := 8) rfl dX12_areAtRest_24 jv_12 ji_12 (Or.inl jt_1239) jg_127 jl_127 (by decide) (by decide) rfl jf_12_8 ?_
        refine jw_iconst (pc := 27) dX12_areAtRest_27 ?_
        refine jw_iload_n (pc := 28) 2 dX12_areAtRest_28 rfl ?_
        refine jw_iadd (pc := 29) dX12_areAtRest_29 ?_
        refine jw_iald (pc := 30) dX12_areAtRest_30 jg_133 jl_133 (jw_ho jg_133 (by decide)) (jw_wr _) rfl (fun h6 => ?_)
        refine jw_ic_ne (pc := 31) 38 dX12_areAtRest_31 (by decide) hv5 h6 (fun _ => ?_) (fun _ => ?_)
        · refine jw_iconst (pc := 34) dX12_areAtRest_34 ?_
          refine jw_goto (pc := 35) 39 dX12_areAtRest_35 (by decide) ?_
          exact jw_few [0, 2] rfl (pX12_areAtRest_39 G M (fX12_areAtRest_4 M k) ih x2 1 hx2 (jw_rc _ rfl))
        · refine jw_iconst (pc := 38) dX12_areAtRest_38 ?_
          exact jw_few [0, 2] rfl (pX12_areAtRest_39 G M (fX12_areAtRest_4 M k) ih x2 0 hx2 (jw_rc _ rfl))
    · refine jw_iload_n (pc := 46) 1 dX12_areAtRest_46 rfl ?_
      refine jw_ck (fun h9 => ?_)
      exact jw_ret (pc := 47) (v := x1) dX12_areAtRest_47 h9 rfl rfl
def fX12_areAtRest (M : jw_M) : Option Int :=
  Option.bind (some 1) (fun v1 => Option.bind (some 0) (fun v2 => fX12_areAtRest_4 M jw_fu v1 v2))
set_option maxRecDepth 100000 in
theorem rX12_areAtRest (G : jw_G) (M : jw_M) : jw_Rn G YX12_areAtRest 5 0 0 true (fun v => (v, M)) 0 [(0, jR G 127)] [] M (fX12_areAtRest M) := by
  unfold fX12_areAtRest
  refine jw_iconst (pc := 0) dX12_areAtRest_0 ?_
  refine jw_istore_nL (pc := 1) (lv' := (fun y => [(1, y), (0, jR G 127)])) dX12_areAtRest_1 (jw_rc _ rfl) (by decide) (fun _ => rfl) (fun v1 hv1 => ?_)
  refine jw_iconst (pc := 2) dX12_areAtRest_2 ?_
  refine jw_istore_nL (pc := 3) (lv' := (fun y => [(2, y), (1, jI v1), (0, jR G 127)])) dX12_areAtRest_3 (jw_rc _ rfl) (by decide) (fun _ => rfl) (fun v2 hv2 => ?_)
  exact jw_few [2, 1, 0] rfl (pX12_areAtRest_4 G M jw_fu v1 v2 hv1 hv2)
theorem kX12_areAtRest (G : jw_G) (M : jw_M) : jw_Ct G YX12_areAtRest (some .boolean) 5 0 0 true (fun v => (v, M)) yX12_areAtRest [jR G 127] M (fX12_areAtRest M) := jw_met (by decide) rfl rfl rfl (Nat.le_of_ble_eq_true rfl) (rX12_areAtRest G M)
abbrev YX12_rest : jw_Y := (RX12, cX12_rest, 1, 2, "rest")
theorem qX12_rest : jw_cy YX12_rest (some .long) yX12_rest 0 := ⟨by decide, jt_1605, jt_14, by decide, by decide +kernel⟩
theorem dX12_rest_0 : decode cX12_rest 0 = .ok (.aload_n 0, 1) := by decide +kernel
theorem dX12_rest_1 : decode cX12_rest 1 = .ok (.iconst 0, 1) := by decide +kernel
theorem dX12_rest_2 : decode cX12_rest 2 = .ok (.putfield 71, 3) := by decide +kernel
theorem dX12_rest_5 : decode cX12_rest 5 = .ok (.aload_n 0, 1) := by decide +kernel
theorem dX12_rest_6 : decode cX12_rest 6 = .ok (.getfield 216, 3) := by decide +kernel
theorem dX12_rest_9 : decode cX12_rest 9 = .ok (.ifCond .ne 9, 3) := by decide +kernel
theorem dX12_rest_12 : decode cX12_rest 12 = .ok (.ldc2_w 252, 3) := by decide +kernel
theorem dX12_rest_15 : decode cX12_rest 15 = .ok (.goto 15, 3) := by decide +kernel
theorem dX12_rest_18 : decode cX12_rest 18 = .ok (.aload_n 0, 1) := by decide +kernel
theorem dX12_rest_19 : decode cX12_rest 19 = .ok (.invokevirtual 294, 3) := by decide +kernel
theorem dX12_rest_22 : decode cX12_rest 22 = .ok (.ifCond .eq 7, 3) := by decide +kernel
theorem dX12_rest_25 : decode cX12_rest 25 = .ok (.lconst 1, 1) := by decide +kernel
theorem dX12_rest_26 : decode cX12_rest 26 = .ok (.goto 4, 3) := by decide +kernel
theorem dX12_rest_29 : decode cX12_rest 29 = .ok (.lconst 0, 1) := by decide +kernel
theorem dX12_rest_30 : decode cX12_rest 30 = .ok (.lreturn, 1) := by decide +kernel
def fX12_rest (M : jw_M) : Option (Int × jw_M) :=
  Option.bind (some (jw_up M 127 0 0)) (fun M1 => if M1 127 7 = 0 then (some ((-9000000000000000002), M1)) else (Option.bind (fX12_areAtRest  M1) (fun v3 => if v3 = 0 then (some (0, M1)) else (some (1, M1)))))
set_option maxRecDepth 100000 in
theorem rX12_rest (G : jw_G) (M : jw_M) : jw_Rn G YX12_rest 6 0 0 true (fun q => q) 0 [(0, jR G 127)] [] M (fX12_rest M) := by
  unfold fX12_rest
  refine jw_aloadR (pc := 0) 0 dX12_rest_0 rfl ?_
  refine jw_iconst (pc := 1) dX12_rest_1 ?_
  refine jw_putI (pc := 2) (j := 0) tyX12 rfl dX12_rest_2 jv_12 ji_12 tyX12_ok nmX12 (Or.inl jt_1231) rfl jg_127 jl_127 (by decide) (by decide) (jw_ho jg_127 (by decide)) rfl rfl (jw_rc _ rfl) rfl ?_
  refine jw_letM (fun M1 => ?_)
  refine jw_aloadR (pc := 5) 0 dX12_rest_5 rfl ?_
  refine jw_getI (pc := 6) (j := 7) rfl dX12_rest_6 jv_12 ji_12 (Or.inl jt_1238) jg_127 jl_127 (by decide) (by decide) (jw_ho jg_127 (by decide)) (Or.inr rfl) rfl (fun h2 => ?_)
  refine jw_if_ne (pc := 9) 18 dX12_rest_9 (by decide) h2 (fun _ => ?_) (fun _ => ?_)
  · refine jw_ldc2 (pc := 12) (n := (-9000000000000000002)) dX12_rest_12 jt_1513 (by decide) ?_
    refine jw_goto (pc := 15) 30 dX12_rest_15 (by decide) ?_
    exact jw_ret (pc := 30) (v := (-9000000000000000002)) dX12_rest_30 (jw_qc _ rfl) rfl rfl
  · refine jw_aloadR (pc := 18) 0 dX12_rest_18 rfl ?_
    refine jw_callVz (pc := 19) (As := []) (st := []) dX12_rest_19 rfl (Nat.le_of_ble_eq_true rfl) qX12_areAtRest jt_1606 jt_1608 jp_80 rfl rfl (Nat.le_of_ble_eq_true rfl) jv_12 rfl jg_127 jl_127 (by decide) (jw_ho jg_127 (by decide)) (kX12_areAtRest G  M1) (fun v3 hv3 => ?_)
    refine jw_if_eq (pc := 22) 29 dX12_rest_22 (by decide) (jw_bz hv3) (fun _ => ?_) (fun _ => ?_)
    · refine jw_lconst (pc := 29) (z := 0) dX12_rest_29 rfl ?_
      exact jw_ret (pc := 30) (v := 0) dX12_rest_30 (jw_qc _ rfl) rfl rfl
    · refine jw_lconst (pc := 25) (z := 1) dX12_rest_25 rfl ?_
      refine jw_goto (pc := 26) 30 dX12_rest_26 (by decide) ?_
      exact jw_ret (pc := 30) (v := 1) dX12_rest_30 (jw_qc _ rfl) rfl rfl
theorem kX12_rest (G : jw_G) (M : jw_M) : jw_Ct G YX12_rest (some .long) 6 0 0 true (fun q => q) yX12_rest [jR G 127] M (fX12_rest M) := jw_met (by decide) rfl rfl rfl (Nat.le_of_ble_eq_true rfl) (rX12_rest G M)
abbrev YX12_settle : jw_Y := (RX12, cX12_settle, 5, 2, "settle")
theorem qX12_settle : jw_cy YX12_settle (some .long) yX12_settle 0 := ⟨by decide, jt_1617, jt_14, by decide, by decide +kernel⟩
theorem dX12_settle_0 : decode cX12_settle 0 = .ok (.aload_n 0, 1) := by decide +kernel
theorem dX12_settle_1 : decode cX12_settle 1 = .ok (.iconst 0, 1) := by decide +kernel
theorem dX12_settle_2 : decode cX12_settle 2 = .ok (.putfield 71, 3) := by decide +kernel
theorem dX12_settle_5 : decode cX12_settle 5 = .ok (.aload_n 0, 1) := by decide +kernel
theorem dX12_settle_6 : decode cX12_settle 6 = .ok (.getfield 216, 3) := by decide +kernel
theorem dX12_settle_9 : decode cX12_settle 9 = .ok (.ifCond .ne 7, 3) := by decide +kernel
theorem dX12_settle_12 : decode cX12_settle 12 = .ok (.ldc2_w 252, 3) := by decide +kernel
theorem dX12_settle_15 : decode cX12_settle 15 = .ok (.lreturn, 1) := by decide +kernel
theorem dX12_settle_16 : decode cX12_settle 16 = .ok (.iconst 0, 1) := by decide +kernel
theorem dX12_settle_17 : decode cX12_settle 17 = .ok (.istore_n 1, 1) := by decide +kernel
theorem dX12_settle_18 : decode cX12_settle 18 = .ok (.iconst 1, 1) := by decide +kernel
theorem dX12_settle_19 : decode cX12_settle 19 = .ok (.istore_n 2, 1) := by decide +kernel
theorem dX12_settle_20 : decode cX12_settle 20 = .ok (.iload_n 2, 1) := by decide +kernel
theorem dX12_settle_21 : decode cX12_settle 21 = .ok (.ifCond .eq 84, 3) := by decide +kernel
theorem dX12_settle_24 : decode cX12_settle 24 = .ok (.iload_n 1, 1) := by decide +kernel
theorem dX12_settle_25 : decode cX12_settle 25 = .ok (.bipush 40, 2) := by decide +kernel
theorem dX12_settle_27 : decode cX12_settle 27 = .ok (.if_icmp .ge 78, 3) := by decide +kernel
theorem dX12_settle_30 : decode cX12_settle 30 = .ok (.iconst 0, 1) := by decide +kernel
theorem dX12_settle_31 : decode cX12_settle 31 = .ok (.istore_n 2, 1) := by decide +kernel
theorem dX12_settle_32 : decode cX12_settle 32 = .ok (.iconst 0, 1) := by decide +kernel
theorem dX12_settle_33 : decode cX12_settle 33 = .ok (.istore_n 3, 1) := by decide +kernel
theorem dX12_settle_34 : decode cX12_settle 34 = .ok (.iload_n 3, 1) := by decide +kernel
theorem dX12_settle_35 : decode cX12_settle 35 = .ok (.aload_n 0, 1) := by decide +kernel
theorem dX12_settle_36 : decode cX12_settle 36 = .ok (.getfield 19, 3) := by decide +kernel
theorem dX12_settle_39 : decode cX12_settle 39 = .ok (.iconst 3, 1) := by decide +kernel
theorem dX12_settle_40 : decode cX12_settle 40 = .ok (.iaload, 1) := by decide +kernel
theorem dX12_settle_41 : decode cX12_settle 41 = .ok (.if_icmp .ge 49, 3) := by decide +kernel
theorem dX12_settle_44 : decode cX12_settle 44 = .ok (.aload_n 0, 1) := by decide +kernel
theorem dX12_settle_45 : decode cX12_settle 45 = .ok (.iload_n 3, 1) := by decide +kernel
theorem dX12_settle_46 : decode cX12_settle 46 = .ok (.invokevirtual 291, 3) := by decide +kernel
theorem dX12_settle_49 : decode cX12_settle 49 = .ok (.istore 4, 2) := by decide +kernel
theorem dX12_settle_51 : decode cX12_settle 51 = .ok (.iload_n 2, 1) := by decide +kernel
theorem dX12_settle_52 : decode cX12_settle 52 = .ok (.ifCond .ne 16, 3) := by decide +kernel
theorem dX12_settle_55 : decode cX12_settle 55 = .ok (.iload 4, 2) := by decide +kernel
theorem dX12_settle_57 : decode cX12_settle 57 = .ok (.aload_n 0, 1) := by decide +kernel
theorem dX12_settle_58 : decode cX12_settle 58 = .ok (.getfield 25, 3) := by decide +kernel
theorem dX12_settle_61 : decode cX12_settle 61 = .ok (.iconst 0, 1) := by decide +kernel
theorem dX12_settle_62 : decode cX12_settle 62 = .ok (.iload_n 3, 1) := by decide +kernel
theorem dX12_settle_63 : decode cX12_settle 63 = .ok (.iadd, 1) := by decide +kernel
theorem dX12_settle_64 : decode cX12_settle 64 = .ok (.iaload, 1) := by decide +kernel
theorem dX12_settle_65 : decode cX12_settle 65 = .ok (.if_icmp .eq 7, 3) := by decide +kernel
theorem dX12_settle_68 : decode cX12_settle 68 = .ok (.iconst 1, 1) := by decide +kernel
theorem dX12_settle_69 : decode cX12_settle 69 = .ok (.goto 4, 3) := by decide +kernel
theorem dX12_settle_72 : decode cX12_settle 72 = .ok (.iconst 0, 1) := by decide +kernel
theorem dX12_settle_73 : decode cX12_settle 73 = .ok (.istore_n 2, 1) := by decide +kernel
theorem dX12_settle_74 : decode cX12_settle 74 = .ok (.aload_n 0, 1) := by decide +kernel
theorem dX12_settle_75 : decode cX12_settle 75 = .ok (.getfield 25, 3) := by decide +kernel
theorem dX12_settle_78 : decode cX12_settle 78 = .ok (.iconst 0, 1) := by decide +kernel
theorem dX12_settle_79 : decode cX12_settle 79 = .ok (.iload_n 3, 1) := by decide +kernel
theorem dX12_settle_80 : decode cX12_settle 80 = .ok (.iadd, 1) := by decide +kernel
theorem dX12_settle_81 : decode cX12_settle 81 = .ok (.iload 4, 2) := by decide +kernel
theorem dX12_settle_83 : decode cX12_settle 83 = .ok (.iastore, 1) := by decide +kernel
theorem dX12_settle_84 : decode cX12_settle 84 = .ok (.iinc 3 1, 3) := by decide +kernel
theorem dX12_settle_87 : decode cX12_settle 87 = .ok (.goto (-53), 3) := by decide +kernel
theorem dX12_settle_90 : decode cX12_settle 90 = .ok (.iload_n 1, 1) := by decide +kernel
theorem dX12_settle_91 : decode cX12_settle 91 = .ok (.iload_n 2, 1) := by decide +kernel
theorem dX12_settle_92 : decode cX12_settle 92 = .ok (.ifCond .eq 7, 3) := by decide +kernel
theorem dX12_settle_95 : decode cX12_settle 95 = .ok (.iconst 1, 1) := by decide +kernel
theorem dX12_settle_96 : decode cX12_settle 96 = .ok (.goto 4, 3) := by decide +kernel
theorem dX12_settle_99 : decode cX12_settle 99 = .ok (.iconst 0, 1) := by decide +kernel
theorem dX12_settle_100 : decode cX12_settle 100 = .ok (.iadd, 1) := by decide +kernel
theorem dX12_settle_101 : decode cX12_settle 101 = .ok (.istore_n 1, 1) := by decide +kernel
theorem dX12_settle_102 : decode cX12_settle 102 = .ok (.goto (-82), 3) := by decide +kernel
theorem dX12_settle_105 : decode cX12_settle 105 = .ok (.iload_n 2, 1) := by decide +kernel
theorem dX12_settle_106 : decode cX12_settle 106 = .ok (.ifCond .eq 9, 3) := by decide +kernel
theorem dX12_settle_109 : decode cX12_settle 109 = .ok (.ldc2_w 227, 3) := by decide +kernel
theorem dX12_settle_112 : decode cX12_settle 112 = .ok (.goto 5, 3) := by decide +kernel
theorem dX12_settle_115 : decode cX12_settle 115 = .ok (.iload_n 1, 1) := by decide +kernel
theorem dX12_settle_116 : decode cX12_settle 116 = .ok (.i2l, 1) := by decide +kernel
theorem dX12_settle_117 : decode cX12_settle 117 = .ok (.lreturn, 1) := by decide +kernel
def fX12_settle_105 (x1 : Int) (x2 : Int) (M : jw_M) : Option (Int × jw_M) :=
  if x2 = 0 then (some (x1, M)) else (some ((-1000000), M))
set_option maxRecDepth 100000 in
theorem pX12_settle_105 (G : jw_G) : ∀ (x1 : Int) (x2 : Int) (hx1 : jw_r x1) (hx2 : jw_r x2) (M : jw_M), jw_Rn G YX12_settle 5 0 0 true (fun q => q) 105 [(1, jI x1), (2, jI x2)] [] M (fX12_settle_105 x1 x2 M) := by
  intro x1 x2 hx1 hx2 M
  unfold fX12_settle_105
  refine jw_iload_n (pc := 105) 1 dX12_settle_105 rfl ?_
  refine jw_if_eq (pc := 106) 115 dX12_settle_106 (by decide) hx2 (fun _ => ?_) (fun _ => ?_)
  · refine jw_iload_n (pc := 115) 0 dX12_settle_115 rfl ?_
    refine jw_i2lr (pc := 116) dX12_settle_116 hx1 ?_
    exact jw_ret (pc := 117) (v := x1) dX12_settle_117 (jw_rq hx1) rfl rfl
  · refine jw_ldc2 (pc := 109) (n := (-1000000)) dX12_settle_109 jt_1482 (by decide) ?_
    refine jw_goto (pc := 112) 117 dX12_settle_112 (by decide) ?_
    exact jw_ret (pc := 117) (v := (-1000000)) dX12_settle_117 (jw_qc _ rfl) rfl rfl
def fX12_settle_73 (r20 : Int → Int → jw_M → Option (Int × jw_M)) (r34 : Int → Int → Int → jw_M → Option (Int × jw_M)) (x1 : Int) (x3 : Int) (x4 : Int) (xs0 : Int) (M : jw_M) : Option (Int × jw_M) :=
  Option.bind (some xs0) (fun v11 => if 0 ≤ jw_w (0 + x3) ∧ jw_w (0 + x3) < 104 then Option.bind (some (jw_up M 133 (jw_w (0 + x3)) x4)) (fun M12 => Option.bind (some (jw_w (x3 + 1))) (fun v13 => r34 x1 v11 v13 M12)) else none)
set_option maxRecDepth 100000 in
theorem pX12_settle_73 (G : jw_G) (r20 : Int → Int → jw_M → Option (Int × jw_M)) (r34 : Int → Int → Int → jw_M → Option (Int × jw_M)) (hr20 : ∀ (x1 : Int) (x2 : Int) (hx1 : jw_r x1) (hx2 : jw_r x2) (M : jw_M), jw_Rn G YX12_settle 5 0 0 true (fun q => q) 20 [(0, jR G 127), (1, jI x1), (2, jI x2)] [] M (r20 x1 x2 M)) (hr34 : ∀ (x1 : Int) (x2 : Int) (x3 : Int) (hx1 : jw_r x1) (hx2 : jw_r x2) (hx3 : jw_r x3) (M : jw_M), jw_Rn G YX12_settle 5 0 0 true (fun q => q) 34 [(0, jR G 127), (1, jI x1), (2, jI x2), (3, jI x3)] [] M (r34 x1 x2 x3 M)) : ∀ (x1 : Int) (x3 : Int) (x4 : Int) (xs0 : Int) (hx1 : jw_r x1) (hx3 : jw_r x3) (hx4 : jw_r x4) (hxs0 : jw_r xs0) (M : jw_M), jw_Rn G YX12_settle 5 0 0 true (fun q => q) 73 [(0, jR G 127), (1, jI x1), (3, jI x3), (4, jI x4)] [jI xs0] M (fX12_settle_73 r20 r34 x1 x3 x4 xs0 M) := by
  intro x1 x3 x4 xs0 hx1 hx3 hx4 hxs0 M
  unfold fX12_settle_73
  refine jw_istore_nL (pc := 73) (lv' := (fun y => [(2, y), (0, jR G 127), (1, jI x1), (3, jI x3), (4, jI x4)])) dX12_settle_73 hxs0 (by decide) (fun _ => rfl) (fun v11 hv11 => ?_)
  refine jw_aloadR (pc := 74) 1 dX12_settle_74 rfl ?_
  refine jw_getR (pc := 75) (j := 8) rfl dX12_settle_75 jv_12 ji_12 (Or.inl jt_1239) jg_127 jl_127 (by decide) (by decide) rfl jf_12_8 ?_
  refine jw_iconst (pc := 78) dX12_settle_78 ?_
  refine jw_iload_n (pc := 79) 3 dX12_settle_79 rfl ?_
  refine jw_iadd (pc := 80) dX12_settle_80 ?_
  refine jw_iload (pc := 81) 4 dX12_settle_81 rfl ?_
  refine jw_iast (pc := 83) dX12_settle_83 jg_133 jl_133 (jw_ho jg_133 (by decide)) (jw_wr _) hx4 rfl ?_
  refine jw_letM (fun M12 => ?_)
  refine jw_iincL (pc := 84) 3 (lv' := (fun y => [(3, y), (2, jI v11), (0, jR G 127), (1, jI x1), (4, jI x4)])) dX12_settle_84 rfl (Nat.le_of_ble_eq_true rfl) (fun _ => rfl) (fun v13 hv13 => ?_)
  refine jw_goto (pc := 87) 34 dX12_settle_87 (by decide) ?_
  exact jw_few [2, 3, 1, 0] rfl (hr34 x1 v11 v13 hx1 hv11 hv13 M12)
def fX12_settle_68 (r20 : Int → Int → jw_M → Option (Int × jw_M)) (r34 : Int → Int → Int → jw_M → Option (Int × jw_M)) (x1 : Int) (x3 : Int) (x4 : Int) (M : jw_M) : Option (Int × jw_M) :=
  fX12_settle_73 r20 r34 x1 x3 x4 1 M
set_option maxRecDepth 100000 in
theorem pX12_settle_68 (G : jw_G) (r20 : Int → Int → jw_M → Option (Int × jw_M)) (r34 : Int → Int → Int → jw_M → Option (Int × jw_M)) (hr20 : ∀ (x1 : Int) (x2 : Int) (hx1 : jw_r x1) (hx2 : jw_r x2) (M : jw_M), jw_Rn G YX12_settle 5 0 0 true (fun q => q) 20 [(0, jR G 127), (1, jI x1), (2, jI x2)] [] M (r20 x1 x2 M)) (hr34 : ∀ (x1 : Int) (x2 : Int) (x3 : Int) (hx1 : jw_r x1) (hx2 : jw_r x2) (hx3 : jw_r x3) (M : jw_M), jw_Rn G YX12_settle 5 0 0 true (fun q => q) 34 [(0, jR G 127), (1, jI x1), (2, jI x2), (3, jI x3)] [] M (r34 x1 x2 x3 M)) : ∀ (x1 : Int) (x3 : Int) (x4 : Int) (hx1 : jw_r x1) (hx3 : jw_r x3) (hx4 : jw_r x4) (M : jw_M), jw_Rn G YX12_settle 5 0 0 true (fun q => q) 68 [(0, jR G 127), (1, jI x1), (3, jI x3), (4, jI x4)] [] M (fX12_settle_68 r20 r34 x1 x3 x4 M) := by
  intro x1 x3 x4 hx1 hx3 hx4 M
  unfold fX12_settle_68
  refine jw_iconst (pc := 68) dX12_settle_68 ?_
  refine jw_goto (pc := 69) 73 dX12_settle_69 (by decide) ?_
  exact jw_few [0, 1, 2, 3] rfl (pX12_settle_73 G r20 r34 hr20 hr34 x1 x3 x4 1 hx1 hx3 hx4 (jw_rc _ rfl) M)
def fX12_settle_100 (r20 : Int → Int → jw_M → Option (Int × jw_M)) (x2 : Int) (xs0 : Int) (xs1 : Int) (M : jw_M) : Option (Int × jw_M) :=
  Option.bind (some (jw_w (xs1 + xs0))) (fun v14 => r20 v14 x2 M)
set_option maxRecDepth 100000 in
theorem pX12_settle_100 (G : jw_G) (r20 : Int → Int → jw_M → Option (Int × jw_M)) (hr20 : ∀ (x1 : Int) (x2 : Int) (hx1 : jw_r x1) (hx2 : jw_r x2) (M : jw_M), jw_Rn G YX12_settle 5 0 0 true (fun q => q) 20 [(0, jR G 127), (1, jI x1), (2, jI x2)] [] M (r20 x1 x2 M)) : ∀ (x2 : Int) (xs0 : Int) (xs1 : Int) (hx2 : jw_r x2) (hxs0 : jw_r xs0) (hxs1 : jw_r xs1) (M : jw_M), jw_Rn G YX12_settle 5 0 0 true (fun q => q) 100 [(0, jR G 127), (2, jI x2)] [jI xs0, jI xs1] M (fX12_settle_100 r20 x2 xs0 xs1 M) := by
  intro x2 xs0 xs1 hx2 hxs0 hxs1 M
  unfold fX12_settle_100
  refine jw_iadd (pc := 100) dX12_settle_100 ?_
  refine jw_istore_nL (pc := 101) (lv' := (fun y => [(1, y), (0, jR G 127), (2, jI x2)])) dX12_settle_101 (jw_wr _) (by decide) (fun _ => rfl) (fun v14 hv14 => ?_)
  refine jw_goto (pc := 102) 20 dX12_settle_102 (by decide) ?_
  exact jw_few [1, 0, 2] rfl (hr20 v14 x2 hv14 hx2 M)
def fX12_settle_34 (r20 : Int → Int → jw_M → Option (Int × jw_M)) : Nat → Int → Int → Int → jw_M → Option (Int × jw_M)
  | 0, _, _, _, _ => none
  | k + 1, x1, x2, x3, M => if 0 ≤ (3 : Int) ∧ (3 : Int) < 104 then if x3 < M 131 3 then (Option.bind (fX12_bestOf x3 M) (fun v8 => Option.bind (some v8) (fun v9 => if x2 = 0 then (if 0 ≤ jw_w (0 + x3) ∧ jw_w (0 + x3) < 104 then if v9 = M 133 (jw_w (0 + x3)) then (fX12_settle_73 r20 (fX12_settle_34 r20 k) x1 x3 v9 0 M) else (fX12_settle_68 r20 (fX12_settle_34 r20 k) x1 x3 v9 M) else none) else (fX12_settle_68 r20 (fX12_settle_34 r20 k) x1 x3 v9 M)))) else (if x2 = 0 then (fX12_settle_100 r20 x2 0 x1 M) else (fX12_settle_100 r20 x2 1 x1 M)) else none
set_option maxRecDepth 100000 in
theorem pX12_settle_34 (G : jw_G) (r20 : Int → Int → jw_M → Option (Int × jw_M)) (hr20 : ∀ (x1 : Int) (x2 : Int) (hx1 : jw_r x1) (hx2 : jw_r x2) (M : jw_M), jw_Rn G YX12_settle 5 0 0 true (fun q => q) 20 [(0, jR G 127), (1, jI x1), (2, jI x2)] [] M (r20 x1 x2 M)) : ∀ (k : Nat) (x1 : Int) (x2 : Int) (x3 : Int) (hx1 : jw_r x1) (hx2 : jw_r x2) (hx3 : jw_r x3) (M : jw_M), jw_Rn G YX12_settle 5 0 0 true (fun q => q) 34 [(0, jR G 127), (1, jI x1), (2, jI x2), (3, jI x3)] [] M (fX12_settle_34 r20 k x1 x2 x3 M) := by
  intro k
  induction k with
  | zero =>
    intro x1 x2 x3 hx1 hx2 hx3 M
    exact jw_none
  | succ k ih =>
    intro x1 x2 x3 hx1 hx2 hx3 M
    rw [fX12_settle_34]
    refine jw_iload_n (pc := 34) 3 dX12_settle_34 rfl ?_
    refine jw_aloadR (pc := 35) 0 dX12_settle_35 rfl ?_
    refine jw_getR (pc := 36) (j := 5) rfl dX12_settle_36 jv_12 ji_12 (Or.inl jt_1236) jg_127 jl_127 (by decide) (by decide) rfl jf_12_5 ?_
    refine jw_iconst (pc := 39) dX12_settle_39 ?_
    refine jw_iald (pc := 40) dX12_settle_40 jg_131 jl_131 (jw_ho jg_131 (by decide)) (jw_rc _ rfl) rfl (fun h7 => ?_)
    refine jw_ic_ge (pc := 41) 90 dX12_settle_41 (by decide) hx3 h7 (fun _ => ?_) (fun _ => ?_)
    · refine jw_aloadR (pc := 44) 0 dX12_settle_44 rfl ?_
      refine jw_iload_n (pc := 45) 3 dX12_settle_45 rfl ?_
      refine jw_callVi (pc := 46) (As := [jI x3]) (st := []) dX12_settle_46 rfl (Nat.le_of_ble_eq_true rfl) qX12_bestOf jt_1610 jt_1612 jp_81 rfl rfl (Nat.le_of_ble_eq_true rfl) jv_12 rfl jg_127 jl_127 (by decide) (jw_ho jg_127 (by decide)) (kX12_bestOf G x3 hx3 M) (fun v8 hv8 => ?_)
      refine jw_istoreL (pc := 49) (lv' := (fun y => [(4, y), (0, jR G 127), (1, jI x1), (2, jI x2), (3, jI x3)])) dX12_settle_49 hv8 (by decide) (fun _ => rfl) (fun v9 hv9 => ?_)
      refine jw_iload_n (pc := 51) 3 dX12_settle_51 rfl ?_
      refine jw_if_ne (pc := 52) 68 dX12_settle_52 (by decide) hx2 (fun _ => ?_) (fun _ => ?_)
      · refine jw_iload (pc := 55) 0 dX12_settle_55 rfl ?_
        refine jw_aloadR (pc := 57) 1 dX12_settle_57 rfl ?_
        refine jw_getR (pc := 58) (j := 8) rfl dX12_settle_58 jv_12 ji_12 (Or.inl jt_1239) jg_127 jl_127 (by decide) (by decide) rfl jf_12_8 ?_
        refine jw_iconst (pc := 61) dX12_settle_61 ?_
        refine jw_iload_n (pc := 62) 4 dX12_settle_62 rfl ?_
        refine jw_iadd (pc := 63) dX12_settle_63 ?_
        refine jw_iald (pc := 64) dX12_settle_64 jg_133 jl_133 (jw_ho jg_133 (by decide)) (jw_wr _) rfl (fun h10 => ?_)
        refine jw_ic_eq (pc := 65) 72 dX12_settle_65 (by decide) hv9 h10 (fun _ => ?_) (fun _ => ?_)
        · refine jw_iconst (pc := 72) dX12_settle_72 ?_
          exact jw_few [1, 2, 4, 0] rfl (pX12_settle_73 G r20 (fX12_settle_34 r20 k) hr20 ih x1 x3 v9 0 hx1 hx3 hv9 (jw_rc _ rfl) M)
        · exact jw_few [1, 2, 4, 0] rfl (pX12_settle_68 G r20 (fX12_settle_34 r20 k) hr20 ih x1 x3 v9 hx1 hx3 hv9 M)
      · exact jw_few [1, 2, 4, 0] rfl (pX12_settle_68 G r20 (fX12_settle_34 r20 k) hr20 ih x1 x3 v9 hx1 hx3 hv9 M)
    · refine jw_iload_n (pc := 90) 1 dX12_settle_90 rfl ?_
      refine jw_iload_n (pc := 91) 2 dX12_settle_91 rfl ?_
      refine jw_if_eq (pc := 92) 99 dX12_settle_92 (by decide) hx2 (fun _ => ?_) (fun _ => ?_)
      · refine jw_iconst (pc := 99) dX12_settle_99 ?_
        exact jw_few [0, 2] rfl (pX12_settle_100 G r20 hr20 x2 0 x1 hx2 (jw_rc _ rfl) hx1 M)
      · refine jw_iconst (pc := 95) dX12_settle_95 ?_
        refine jw_goto (pc := 96) 100 dX12_settle_96 (by decide) ?_
        exact jw_few [0, 2] rfl (pX12_settle_100 G r20 hr20 x2 1 x1 hx2 (jw_rc _ rfl) hx1 M)
def fX12_settle_20 : Nat → Int → Int → jw_M → Option (Int × jw_M)
  | 0, _, _, _ => none
  | k + 1, x1, x2, M => if x2 = 0 then (fX12_settle_105 x1 x2 M) else (if x1 < 40 then (Option.bind (some 0) (fun v5 => Option.bind (some 0) (fun v6 => fX12_settle_34 (fX12_settle_20 k) jw_fu x1 v5 v6 M))) else (fX12_settle_105 x1 x2 M))
set_option maxRecDepth 100000 in
theorem pX12_settle_20 (G : jw_G) : ∀ (k : Nat) (x1 : Int) (x2 : Int) (hx1 : jw_r x1) (hx2 : jw_r x2) (M : jw_M), jw_Rn G YX12_settle 5 0 0 true (fun q => q) 20 [(0, jR G 127), (1, jI x1), (2, jI x2)] [] M (fX12_settle_20 k x1 x2 M) := by
  intro k
  induction k with
  | zero =>
    intro x1 x2 hx1 hx2 M
    exact jw_none
  | succ k ih =>
    intro x1 x2 hx1 hx2 M
    rw [fX12_settle_20]
    refine jw_iload_n (pc := 20) 2 dX12_settle_20 rfl ?_
    refine jw_if_eq (pc := 21) 105 dX12_settle_21 (by decide) hx2 (fun _ => ?_) (fun _ => ?_)
    · exact jw_few [1, 2] rfl (pX12_settle_105 G x1 x2 hx1 hx2 M)
    · refine jw_iload_n (pc := 24) 1 dX12_settle_24 rfl ?_
      refine jw_bipush (pc := 25) dX12_settle_25 rfl ?_
      refine jw_ic_ge (pc := 27) 105 dX12_settle_27 (by decide) hx1 (jw_rc _ rfl) (fun _ => ?_) (fun _ => ?_)
      · refine jw_iconst (pc := 30) dX12_settle_30 ?_
        refine jw_istore_nL (pc := 31) (lv' := (fun y => [(2, y), (0, jR G 127), (1, jI x1)])) dX12_settle_31 (jw_rc _ rfl) (by decide) (fun _ => rfl) (fun v5 hv5 => ?_)
        refine jw_iconst (pc := 32) dX12_settle_32 ?_
        refine jw_istore_nL (pc := 33) (lv' := (fun y => [(3, y), (2, jI v5), (0, jR G 127), (1, jI x1)])) dX12_settle_33 (jw_rc _ rfl) (by decide) (fun _ => rfl) (fun v6 hv6 => ?_)
        exact jw_few [2, 3, 1, 0] rfl (pX12_settle_34 G (fX12_settle_20 k) ih jw_fu x1 v5 v6 hx1 hv5 hv6 M)
      · exact jw_few [1, 2] rfl (pX12_settle_105 G x1 x2 hx1 hx2 M)
def fX12_settle (M : jw_M) : Option (Int × jw_M) :=
  Option.bind (some (jw_up M 127 0 0)) (fun M1 => if M1 127 7 = 0 then (some ((-9000000000000000002), M1)) else (Option.bind (some 0) (fun v3 => Option.bind (some 1) (fun v4 => fX12_settle_20 jw_fu v3 v4 M1))))
set_option maxRecDepth 100000 in
theorem rX12_settle (G : jw_G) (M : jw_M) : jw_Rn G YX12_settle 5 0 0 true (fun q => q) 0 [(0, jR G 127)] [] M (fX12_settle M) := by
  unfold fX12_settle
  refine jw_aloadR (pc := 0) 0 dX12_settle_0 rfl ?_
  refine jw_iconst (pc := 1) dX12_settle_1 ?_
  refine jw_putI (pc := 2) (j := 0) tyX12 rfl dX12_settle_2 jv_12 ji_12 tyX12_ok nmX12 (Or.inl jt_1231) rfl jg_127 jl_127 (by decide) (by decide) (jw_ho jg_127 (by decide)) rfl rfl (jw_rc _ rfl) rfl ?_
  refine jw_letM (fun M1 => ?_)
  refine jw_aloadR (pc := 5) 0 dX12_settle_5 rfl ?_
  refine jw_getI (pc := 6) (j := 7) rfl dX12_settle_6 jv_12 ji_12 (Or.inl jt_1238) jg_127 jl_127 (by decide) (by decide) (jw_ho jg_127 (by decide)) (Or.inr rfl) rfl (fun h2 => ?_)
  refine jw_if_ne (pc := 9) 16 dX12_settle_9 (by decide) h2 (fun _ => ?_) (fun _ => ?_)
  · refine jw_ldc2 (pc := 12) (n := (-9000000000000000002)) dX12_settle_12 jt_1513 (by decide) ?_
    exact jw_ret (pc := 15) (v := (-9000000000000000002)) dX12_settle_15 (jw_qc _ rfl) rfl rfl
  · refine jw_iconst (pc := 16) dX12_settle_16 ?_
    refine jw_istore_nL (pc := 17) (lv' := (fun y => [(1, y), (0, jR G 127)])) dX12_settle_17 (jw_rc _ rfl) (by decide) (fun _ => rfl) (fun v3 hv3 => ?_)
    refine jw_iconst (pc := 18) dX12_settle_18 ?_
    refine jw_istore_nL (pc := 19) (lv' := (fun y => [(2, y), (1, jI v3), (0, jR G 127)])) dX12_settle_19 (jw_rc _ rfl) (by decide) (fun _ => rfl) (fun v4 hv4 => ?_)
    exact jw_few [2, 1, 0] rfl (pX12_settle_20 G jw_fu v3 v4 hv3 hv4 M1)
theorem kX12_settle (G : jw_G) (M : jw_M) : jw_Ct G YX12_settle (some .long) 5 0 0 true (fun q => q) yX12_settle [jR G 127] M (fX12_settle M) := jw_met (by decide) rfl rfl rfl (Nat.le_of_ble_eq_true rfl) (rX12_settle G M)
abbrev YX12_rests : jw_Y := (RX12, cX12_rests, 9, 2, "rests")
theorem qX12_rests : jw_cy YX12_rests (some .long) yX12_rests 1 := ⟨by decide, jt_1621, jt_14, by decide, by decide +kernel⟩
theorem dX12_rests_0 : decode cX12_rests 0 = .ok (.aload_n 0, 1) := by decide +kernel
theorem dX12_rests_1 : decode cX12_rests 1 = .ok (.iconst 0, 1) := by decide +kernel
theorem dX12_rests_2 : decode cX12_rests 2 = .ok (.putfield 71, 3) := by decide +kernel
theorem dX12_rests_5 : decode cX12_rests 5 = .ok (.iload_n 1, 1) := by decide +kernel
theorem dX12_rests_6 : decode cX12_rests 6 = .ok (.iconst (-1), 1) := by decide +kernel
theorem dX12_rests_7 : decode cX12_rests 7 = .ok (.if_icmp .ge 7, 3) := by decide +kernel
theorem dX12_rests_10 : decode cX12_rests 10 = .ok (.ldc2_w 92, 3) := by decide +kernel
theorem dX12_rests_13 : decode cX12_rests 13 = .ok (.lreturn, 1) := by decide +kernel
theorem dX12_rests_14 : decode cX12_rests 14 = .ok (.aload_n 0, 1) := by decide +kernel
theorem dX12_rests_15 : decode cX12_rests 15 = .ok (.getfield 216, 3) := by decide +kernel
theorem dX12_rests_18 : decode cX12_rests 18 = .ok (.ifCond .ne 7, 3) := by decide +kernel
theorem dX12_rests_21 : decode cX12_rests 21 = .ok (.ldc2_w 252, 3) := by decide +kernel
theorem dX12_rests_24 : decode cX12_rests 24 = .ok (.lreturn, 1) := by decide +kernel
theorem dX12_rests_25 : decode cX12_rests 25 = .ok (.iconst 1, 1) := by decide +kernel
theorem dX12_rests_26 : decode cX12_rests 26 = .ok (.istore_n 2, 1) := by decide +kernel
theorem dX12_rests_27 : decode cX12_rests 27 = .ok (.iconst 0, 1) := by decide +kernel
theorem dX12_rests_28 : decode cX12_rests 28 = .ok (.istore_n 3, 1) := by decide +kernel
theorem dX12_rests_29 : decode cX12_rests 29 = .ok (.iload_n 3, 1) := by decide +kernel
theorem dX12_rests_30 : decode cX12_rests 30 = .ok (.aload_n 0, 1) := by decide +kernel
theorem dX12_rests_31 : decode cX12_rests 31 = .ok (.getfield 19, 3) := by decide +kernel
theorem dX12_rests_34 : decode cX12_rests 34 = .ok (.iconst 3, 1) := by decide +kernel
theorem dX12_rests_35 : decode cX12_rests 35 = .ok (.iaload, 1) := by decide +kernel
theorem dX12_rests_36 : decode cX12_rests 36 = .ok (.if_icmp .ge 28, 3) := by decide +kernel
theorem dX12_rests_39 : decode cX12_rests 39 = .ok (.aload_n 0, 1) := by decide +kernel
theorem dX12_rests_40 : decode cX12_rests 40 = .ok (.getfield 40, 3) := by decide +kernel
theorem dX12_rests_43 : decode cX12_rests 43 = .ok (.iload_n 3, 1) := by decide +kernel
theorem dX12_rests_44 : decode cX12_rests 44 = .ok (.aload_n 0, 1) := by decide +kernel
theorem dX12_rests_45 : decode cX12_rests 45 = .ok (.getfield 25, 3) := by decide +kernel
theorem dX12_rests_48 : decode cX12_rests 48 = .ok (.iconst 0, 1) := by decide +kernel
theorem dX12_rests_49 : decode cX12_rests 49 = .ok (.iload_n 3, 1) := by decide +kernel
theorem dX12_rests_50 : decode cX12_rests 50 = .ok (.iadd, 1) := by decide +kernel
theorem dX12_rests_51 : decode cX12_rests 51 = .ok (.iaload, 1) := by decide +kernel
theorem dX12_rests_52 : decode cX12_rests 52 = .ok (.iastore, 1) := by decide +kernel
theorem dX12_rests_53 : decode cX12_rests 53 = .ok (.iload_n 2, 1) := by decide +kernel
theorem dX12_rests_54 : decode cX12_rests 54 = .ok (.bipush 7, 2) := by decide +kernel
theorem dX12_rests_56 : decode cX12_rests 56 = .ok (.imul, 1) := by decide +kernel
theorem dX12_rests_57 : decode cX12_rests 57 = .ok (.istore_n 2, 1) := by decide +kernel
theorem dX12_rests_58 : decode cX12_rests 58 = .ok (.iinc 3 1, 3) := by decide +kernel
theorem dX12_rests_61 : decode cX12_rests 61 = .ok (.goto (-32), 3) := by decide +kernel
theorem dX12_rests_64 : decode cX12_rests 64 = .ok (.iconst 0, 1) := by decide +kernel
theorem dX12_rests_65 : decode cX12_rests 65 = .ok (.istore_n 3, 1) := by decide +kernel
theorem dX12_rests_66 : decode cX12_rests 66 = .ok (.ldc 110, 2) := by decide +kernel
theorem dX12_rests_68 : decode cX12_rests 68 = .ok (.istore 4, 2) := by decide +kernel
theorem dX12_rests_70 : decode cX12_rests 70 = .ok (.iconst 0, 1) := by decide +kernel
theorem dX12_rests_71 : decode cX12_rests 71 = .ok (.istore 5, 2) := by decide +kernel
theorem dX12_rests_73 : decode cX12_rests 73 = .ok (.iload 5, 2) := by decide +kernel
theorem dX12_rests_75 : decode cX12_rests 75 = .ok (.iload_n 2, 1) := by decide +kernel
theorem dX12_rests_76 : decode cX12_rests 76 = .ok (.if_icmp .ge 166, 3) := by decide +kernel
theorem dX12_rests_79 : decode cX12_rests 79 = .ok (.iload 5, 2) := by decide +kernel
theorem dX12_rests_81 : decode cX12_rests 81 = .ok (.istore 6, 2) := by decide +kernel
theorem dX12_rests_83 : decode cX12_rests 83 = .ok (.iconst 1, 1) := by decide +kernel
theorem dX12_rests_84 : decode cX12_rests 84 = .ok (.istore 7, 2) := by decide +kernel
theorem dX12_rests_86 : decode cX12_rests 86 = .ok (.iconst 0, 1) := by decide +kernel
theorem dX12_rests_87 : decode cX12_rests 87 = .ok (.istore 8, 2) := by decide +kernel
theorem dX12_rests_89 : decode cX12_rests 89 = .ok (.iload 8, 2) := by decide +kernel
theorem dX12_rests_91 : decode cX12_rests 91 = .ok (.aload_n 0, 1) := by decide +kernel
theorem dX12_rests_92 : decode cX12_rests 92 = .ok (.getfield 19, 3) := by decide +kernel
theorem dX12_rests_95 : decode cX12_rests 95 = .ok (.iconst 3, 1) := by decide +kernel
theorem dX12_rests_96 : decode cX12_rests 96 = .ok (.iaload, 1) := by decide +kernel
theorem dX12_rests_97 : decode cX12_rests 97 = .ok (.if_icmp .ge 58, 3) := by decide +kernel
theorem dX12_rests_100 : decode cX12_rests 100 = .ok (.aload_n 0, 1) := by decide +kernel
theorem dX12_rests_101 : decode cX12_rests 101 = .ok (.getfield 25, 3) := by decide +kernel
theorem dX12_rests_104 : decode cX12_rests 104 = .ok (.iconst 0, 1) := by decide +kernel
theorem dX12_rests_105 : decode cX12_rests 105 = .ok (.iload 8, 2) := by decide +kernel
theorem dX12_rests_107 : decode cX12_rests 107 = .ok (.iadd, 1) := by decide +kernel
theorem dX12_rests_108 : decode cX12_rests 108 = .ok (.iload 6, 2) := by decide +kernel
theorem dX12_rests_110 : decode cX12_rests 110 = .ok (.bipush 7, 2) := by decide +kernel
theorem dX12_rests_112 : decode cX12_rests 112 = .ok (.irem, 1) := by decide +kernel
theorem dX12_rests_113 : decode cX12_rests 113 = .ok (.iastore, 1) := by decide +kernel
theorem dX12_rests_114 : decode cX12_rests 114 = .ok (.iload 6, 2) := by decide +kernel
theorem dX12_rests_116 : decode cX12_rests 116 = .ok (.bipush 7, 2) := by decide +kernel
theorem dX12_rests_118 : decode cX12_rests 118 = .ok (.idiv, 1) := by decide +kernel
theorem dX12_rests_119 : decode cX12_rests 119 = .ok (.istore 6, 2) := by decide +kernel
theorem dX12_rests_121 : decode cX12_rests 121 = .ok (.iload 7, 2) := by decide +kernel
theorem dX12_rests_123 : decode cX12_rests 123 = .ok (.ifCond .eq 23, 3) := by decide +kernel
theorem dX12_rests_126 : decode cX12_rests 126 = .ok (.aload_n 0, 1) := by decide +kernel
theorem dX12_rests_127 : decode cX12_rests 127 = .ok (.aload_n 0, 1) := by decide +kernel
theorem dX12_rests_128 : decode cX12_rests 128 = .ok (.getfield 25, 3) := by decide +kernel
theorem dX12_rests_131 : decode cX12_rests 131 = .ok (.iconst 0, 1) := by decide +kernel
theorem dX12_rests_132 : decode cX12_rests 132 = .ok (.iload 8, 2) := by decide +kernel
theorem dX12_rests_134 : decode cX12_rests 134 = .ok (.iadd, 1) := by decide +kernel
theorem dX12_rests_135 : decode cX12_rests 135 = .ok (.iaload, 1) := by decide +kernel
theorem dX12_rests_136 : decode cX12_rests 136 = .ok (.invokevirtual 224, 3) := by decide +kernel
theorem dX12_rests_139 : decode cX12_rests 139 = .ok (.ifCond .eq 7, 3) := by decide +kernel
theorem dX12_rests_142 : decode cX12_rests 142 = .ok (.iconst 1, 1) := by decide +kernel
theorem dX12_rests_143 : decode cX12_rests 143 = .ok (.goto 4, 3) := by decide +kernel
theorem dX12_rests_146 : decode cX12_rests 146 = .ok (.iconst 0, 1) := by decide +kernel
theorem dX12_rests_147 : decode cX12_rests 147 = .ok (.istore 7, 2) := by decide +kernel
theorem dX12_rests_149 : decode cX12_rests 149 = .ok (.iinc 8 1, 3) := by decide +kernel
theorem dX12_rests_152 : decode cX12_rests 152 = .ok (.goto (-63), 3) := by decide +kernel
theorem dX12_rests_155 : decode cX12_rests 155 = .ok (.iconst 0, 1) := by decide +kernel
theorem dX12_rests_156 : decode cX12_rests 156 = .ok (.istore 8, 2) := by decide +kernel
theorem dX12_rests_158 : decode cX12_rests 158 = .ok (.iload 8, 2) := by decide +kernel
theorem dX12_rests_160 : decode cX12_rests 160 = .ok (.aload_n 0, 1) := by decide +kernel
theorem dX12_rests_161 : decode cX12_rests 161 = .ok (.getfield 19, 3) := by decide +kernel
theorem dX12_rests_164 : decode cX12_rests 164 = .ok (.iconst 3, 1) := by decide +kernel
theorem dX12_rests_165 : decode cX12_rests 165 = .ok (.iaload, 1) := by decide +kernel
theorem dX12_rests_166 : decode cX12_rests 166 = .ok (.if_icmp .ge 41, 3) := by decide +kernel
theorem dX12_rests_169 : decode cX12_rests 169 = .ok (.iload 7, 2) := by decide +kernel
theorem dX12_rests_171 : decode cX12_rests 171 = .ok (.ifCond .eq 36, 3) := by decide +kernel
theorem dX12_rests_174 : decode cX12_rests 174 = .ok (.aload_n 0, 1) := by decide +kernel
theorem dX12_rests_175 : decode cX12_rests 175 = .ok (.aload_n 0, 1) := by decide +kernel
theorem dX12_rests_176 : decode cX12_rests 176 = .ok (.getfield 19, 3) := by decide +kernel
theorem dX12_rests_179 : decode cX12_rests 179 = .ok (.bipush 90, 2) := by decide +kernel
theorem dX12_rests_181 : decode cX12_rests 181 = .ok (.iload 8, 2) := by decide +kernel
theorem dX12_rests_183 : decode cX12_rests 183 = .ok (.iadd, 1) := by decide +kernel
theorem dX12_rests_184 : decode cX12_rests 184 = .ok (.iaload, 1) := by decide +kernel
theorem dX12_rests_185 : decode cX12_rests 185 = .ok (.iload 8, 2) := by decide +kernel
theorem dX12_rests_187 : decode cX12_rests 187 = .ok (.aload_n 0, 1) := by decide +kernel
theorem dX12_rests_188 : decode cX12_rests 188 = .ok (.getfield 25, 3) := by decide +kernel
theorem dX12_rests_191 : decode cX12_rests 191 = .ok (.iconst 0, 1) := by decide +kernel
theorem dX12_rests_192 : decode cX12_rests 192 = .ok (.iload 8, 2) := by decide +kernel
theorem dX12_rests_194 : decode cX12_rests 194 = .ok (.iadd, 1) := by decide +kernel
theorem dX12_rests_195 : decode cX12_rests 195 = .ok (.iaload, 1) := by decide +kernel
theorem dX12_rests_196 : decode cX12_rests 196 = .ok (.invokevirtual 281, 3) := by decide +kernel
theorem dX12_rests_199 : decode cX12_rests 199 = .ok (.istore 7, 2) := by decide +kernel
theorem dX12_rests_201 : decode cX12_rests 201 = .ok (.iinc 8 1, 3) := by decide +kernel
theorem dX12_rests_204 : decode cX12_rests 204 = .ok (.goto (-46), 3) := by decide +kernel
theorem dX12_rests_207 : decode cX12_rests 207 = .ok (.iload 7, 2) := by decide +kernel
theorem dX12_rests_209 : decode cX12_rests 209 = .ok (.ifCond .eq 27, 3) := by decide +kernel
theorem dX12_rests_212 : decode cX12_rests 212 = .ok (.aload_n 0, 1) := by decide +kernel
theorem dX12_rests_213 : decode cX12_rests 213 = .ok (.invokevirtual 294, 3) := by decide +kernel
theorem dX12_rests_216 : decode cX12_rests 216 = .ok (.ifCond .eq 20, 3) := by decide +kernel
theorem dX12_rests_219 : decode cX12_rests 219 = .ok (.iload_n 3, 1) := by decide +kernel
theorem dX12_rests_220 : decode cX12_rests 220 = .ok (.iload_n 1, 1) := by decide +kernel
theorem dX12_rests_221 : decode cX12_rests 221 = .ok (.if_icmp .ne 8, 3) := by decide +kernel
theorem dX12_rests_224 : decode cX12_rests 224 = .ok (.iload 5, 2) := by decide +kernel
theorem dX12_rests_226 : decode cX12_rests 226 = .ok (.goto 5, 3) := by decide +kernel
theorem dX12_rests_229 : decode cX12_rests 229 = .ok (.iload 4, 2) := by decide +kernel
theorem dX12_rests_231 : decode cX12_rests 231 = .ok (.istore 4, 2) := by decide +kernel
theorem dX12_rests_233 : decode cX12_rests 233 = .ok (.iinc 3 1, 3) := by decide +kernel
theorem dX12_rests_236 : decode cX12_rests 236 = .ok (.iinc 5 1, 3) := by decide +kernel
theorem dX12_rests_239 : decode cX12_rests 239 = .ok (.goto (-166), 3) := by decide +kernel
theorem dX12_rests_242 : decode cX12_rests 242 = .ok (.iconst 0, 1) := by decide +kernel
theorem dX12_rests_243 : decode cX12_rests 243 = .ok (.istore 5, 2) := by decide +kernel
theorem dX12_rests_245 : decode cX12_rests 245 = .ok (.iload 5, 2) := by decide +kernel
theorem dX12_rests_247 : decode cX12_rests 247 = .ok (.aload_n 0, 1) := by decide +kernel
theorem dX12_rests_248 : decode cX12_rests 248 = .ok (.getfield 19, 3) := by decide +kernel
theorem dX12_rests_251 : decode cX12_rests 251 = .ok (.iconst 3, 1) := by decide +kernel
theorem dX12_rests_252 : decode cX12_rests 252 = .ok (.iaload, 1) := by decide +kernel
theorem dX12_rests_253 : decode cX12_rests 253 = .ok (.if_icmp .ge 25, 3) := by decide +kernel
theorem dX12_rests_256 : decode cX12_rests 256 = .ok (.aload_n 0, 1) := by decide +kernel
theorem dX12_rests_257 : decode cX12_rests 257 = .ok (.getfield 25, 3) := by decide +kernel
theorem dX12_rests_260 : decode cX12_rests 260 = .ok (.iconst 0, 1) := by decide +kernel
theorem dX12_rests_261 : decode cX12_rests 261 = .ok (.iload 5, 2) := by decide +kernel
theorem dX12_rests_263 : decode cX12_rests 263 = .ok (.iadd, 1) := by decide +kernel
theorem dX12_rests_264 : decode cX12_rests 264 = .ok (.aload_n 0, 1) := by decide +kernel
theorem dX12_rests_265 : decode cX12_rests 265 = .ok (.getfield 40, 3) := by decide +kernel
theorem dX12_rests_268 : decode cX12_rests 268 = .ok (.iload 5, 2) := by decide +kernel
theorem dX12_rests_270 : decode cX12_rests 270 = .ok (.iaload, 1) := by decide +kernel
theorem dX12_rests_271 : decode cX12_rests 271 = .ok (.iastore, 1) := by decide +kernel
theorem dX12_rests_272 : decode cX12_rests 272 = .ok (.iinc 5 1, 3) := by decide +kernel
theorem dX12_rests_275 : decode cX12_rests 275 = .ok (.goto (-30), 3) := by decide +kernel
theorem dX12_rests_278 : decode cX12_rests 278 = .ok (.iload_n 1, 1) := by decide +kernel
theorem dX12_rests_279 : decode cX12_rests 279 = .ok (.iconst (-1), 1) := by decide +kernel
theorem dX12_rests_280 : decode cX12_rests 280 = .ok (.if_icmp .ne 8, 3) := by decide +kernel
theorem dX12_rests_283 : decode cX12_rests 283 = .ok (.iload_n 3, 1) := by decide +kernel
theorem dX12_rests_284 : decode cX12_rests 284 = .ok (.i2l, 1) := by decide +kernel
theorem dX12_rests_285 : decode cX12_rests 285 = .ok (.goto 6, 3) := by decide +kernel
theorem dX12_rests_288 : decode cX12_rests 288 = .ok (.iload 4, 2) := by decide +kernel
theorem dX12_rests_290 : decode cX12_rests 290 = .ok (.i2l, 1) := by decide +kernel
theorem dX12_rests_291 : decode cX12_rests 291 = .ok (.lreturn, 1) := by decide +kernel
def fX12_rests_147 (r73 : Int → Int → Int → Int → Int → jw_M → Option (Int × jw_M)) (r89 : Int → Int → Int → Int → Int → Int → Int → Int → jw_M → Option (Int × jw_M)) (x1 : Int) (x2 : Int) (x3 : Int) (x4 : Int) (x5 : Int) (x6 : Int) (x8 : Int) (xs0 : Int) (M : jw_M) : Option (Int × jw_M) :=
  Option.bind (some xs0) (fun v19 => Option.bind (some (jw_w (x8 + 1))) (fun v20 => r89 x1 x2 x3 x4 x5 x6 v19 v20 M))
set_option maxRecDepth 100000 in
theorem pX12_rests_147 (G : jw_G) (r73 : Int → Int → Int → Int → Int → jw_M → Option (Int × jw_M)) (r89 : Int → Int → Int → Int → Int → Int → Int → Int → jw_M → Option (Int × jw_M)) (hr73 : ∀ (x1 : Int) (x2 : Int) (x3 : Int) (x4 : Int) (x5 : Int) (hx1 : jw_r x1) (hx2 : jw_r x2) (hx3 : jw_r x3) (hx4 : jw_r x4) (hx5 : jw_r x5) (M : jw_M), jw_Rn G YX12_rests 6 0 0 true (fun q => q) 73 [(0, jR G 127), (1, jI x1), (2, jI x2), (3, jI x3), (4, jI x4), (5, jI x5)] [] M (r73 x1 x2 x3 x4 x5 M)) (hr89 : ∀ (x1 : Int) (x2 : Int) (x3 : Int) (x4 : Int) (x5 : Int) (x6 : Int) (x7 : Int) (x8 : Int) (hx1 : jw_r x1) (hx2 : jw_r x2) (hx3 : jw_r x3) (hx4 : jw_r x4) (hx5 : jw_r x5) (hx6 : jw_r x6) (hx7 : jw_r x7) (hx8 : jw_r x8) (M : jw_M), jw_Rn G YX12_rests 6 0 0 true (fun q => q) 89 [(0, jR G 127), (1, jI x1), (2, jI x2), (3, jI x3), (4, jI x4), (5, jI x5), (6, jI x6), (7, jI x7), (8, jI x8)] [] M (r89 x1 x2 x3 x4 x5 x6 x7 x8 M)) : ∀ (x1 : Int) (x2 : Int) (x3 : Int) (x4 : Int) (x5 : Int) (x6 : Int) (x8 : Int) (xs0 : Int) (hx1 : jw_r x1) (hx2 : jw_r x2) (hx3 : jw_r x3) (hx4 : jw_r x4) (hx5 : jw_r x5) (hx6 : jw_r x6) (hx8 : jw_r x8) (hxs0 : jw_r xs0) (M : jw_M), jw_Rn G YX12_rests 6 0 0 true (fun q => q) 147 [(0, jR G 127), (1, jI x1), (2, jI x2), (3, jI x3), (4, jI x4), (5, jI x5), (6, jI x6), (8, jI x8)] [jI xs0] M (fX12_rests_147 r73 r89 x1 x2 x3 x4 x5 x6 x8 xs0 M) := by
  intro x1 x2 x3 x4 x5 x6 x8 xs0 hx1 hx2 hx3 hx4 hx5 hx6 hx8 hxs0 M
  unfold fX12_rests_147
  refine jw_istoreL (pc := 147) (lv' := (fun y => [(7, y), (0, jR G 127), (1, jI x1), (2, jI x2), (3, jI x3), (4, jI x4), (5, jI x5), (6, jI x6), (8, jI x8)])) dX12_rests_147 hxs0 (by decide) (fun _ => rfl) (fun v19 hv19 => ?_)
  refine jw_iincL (pc := 149) 8 (lv' := (fun y => [(8, y), (7, jI v19), (0, jR G 127), (1, jI x1), (2, jI x2), (3, jI x3), (4, jI x4), (5, jI x5), (6, jI x6)])) dX12_rests_149 rfl (Nat.le_of_ble_eq_true rfl) (fun _ => rfl) (fun v20 hv20 => ?_)
  refine jw_goto (pc := 152) 89 dX12_rests_152 (by decide) ?_
  exact jw_few [2, 3, 4, 5, 6, 7, 8, 1, 0] rfl (hr89 x1 x2 x3 x4 x5 x6 v19 v20 hx1 hx2 hx3 hx4 hx5 hx6 hv19 hv20 M)
def fX12_rests_146 (r73 : Int → Int → Int → Int → Int → jw_M → Option (Int × jw_M)) (r89 : Int → Int → Int → Int → Int → Int → Int → Int → jw_M → Option (Int × jw_M)) (x1 : Int) (x2 : Int) (x3 : Int) (x4 : Int) (x5 : Int) (x6 : Int) (x8 : Int) (M : jw_M) : Option (Int × jw_M) :=
  fX12_rests_147 r73 r89 x1 x2 x3 x4 x5 x6 x8 0 M
set_option maxRecDepth 100000 in
theorem pX12_rests_146 (G : jw_G) (r73 : Int → Int → Int → Int → Int → jw_M → Option (Int × jw_M)) (r89 : Int → Int → Int → Int → Int → Int → Int → Int → jw_M → Option (Int × jw_M)) (hr73 : ∀ (x1 : Int) (x2 : Int) (x3 : Int) (x4 : Int) (x5 : Int) (hx1 : jw_r x1) (hx2 : jw_r x2) (hx3 : jw_r x3) (hx4 : jw_r x4) (hx5 : jw_r x5) (M : jw_M), jw_Rn G YX12_rests 6 0 0 true (fun q => q) 73 [(0, jR G 127), (1, jI x1), (2, jI x2), (3, jI x3), (4, jI x4), (5, jI x5)] [] M (r73 x1 x2 x3 x4 x5 M)) (hr89 : ∀ (x1 : Int) (x2 : Int) (x3 : Int) (x4 : Int) (x5 : Int) (x6 : Int) (x7 : Int) (x8 : Int) (hx1 : jw_r x1) (hx2 : jw_r x2) (hx3 : jw_r x3) (hx4 : jw_r x4) (hx5 : jw_r x5) (hx6 : jw_r x6) (hx7 : jw_r x7) (hx8 : jw_r x8) (M : jw_M), jw_Rn G YX12_rests 6 0 0 true (fun q => q) 89 [(0, jR G 127), (1, jI x1), (2, jI x2), (3, jI x3), (4, jI x4), (5, jI x5), (6, jI x6), (7, jI x7), (8, jI x8)] [] M (r89 x1 x2 x3 x4 x5 x6 x7 x8 M)) : ∀ (x1 : Int) (x2 : Int) (x3 : Int) (x4 : Int) (x5 : Int) (x6 : Int) (x8 : Int) (hx1 : jw_r x1) (hx2 : jw_r x2) (hx3 : jw_r x3) (hx4 : jw_r x4) (hx5 : jw_r x5) (hx6 : jw_r x6) (hx8 : jw_r x8) (M : jw_M), jw_Rn G YX12_rests 6 0 0 true (fun q => q) 146 [(0, jR G 127), (1, jI x1), (2, jI x2), (3, jI x3), (4, jI x4), (5, jI x5), (6, jI x6), (8, jI x8)] [] M (fX12_rests_146 r73 r89 x1 x2 x3 x4 x5 x6 x8 M) := by
  intro x1 x2 x3 x4 x5 x6 x8 hx1 hx2 hx3 hx4 hx5 hx6 hx8 M
  unfold fX12_rests_146
  refine jw_iconst (pc := 146) dX12_rests_146 ?_
  exact jw_few [0, 1, 2, 3, 4, 5, 6, 7] rfl (pX12_rests_147 G r73 r89 hr73 hr89 x1 x2 x3 x4 x5 x6 x8 0 hx1 hx2 hx3 hx4 hx5 hx6 hx8 (jw_rc _ rfl) M)
def fX12_rests_236 (r73 : Int → Int → Int → Int → Int → jw_M → Option (Int × jw_M)) (x1 : Int) (x2 : Int) (x3 : Int) (x4 : Int) (x5 : Int) (M : jw_M) : Option (Int × jw_M) :=
  Option.bind (some (jw_w (x5 + 1))) (fun v25 => r73 x1 x2 x3 x4 v25 M)
set_option maxRecDepth 100000 in
theorem pX12_rests_236 (G : jw_G) (r73 : Int → Int → Int → Int → Int → jw_M → Option (Int × jw_M)) (hr73 : ∀ (x1 : Int) (x2 : Int) (x3 : Int) (x4 : Int) (x5 : Int) (hx1 : jw_r x1) (hx2 : jw_r x2) (hx3 : jw_r x3) (hx4 : jw_r x4) (hx5 : jw_r x5) (M : jw_M), jw_Rn G YX12_rests 6 0 0 true (fun q => q) 73 [(0, jR G 127), (1, jI x1), (2, jI x2), (3, jI x3), (4, jI x4), (5, jI x5)] [] M (r73 x1 x2 x3 x4 x5 M)) : ∀ (x1 : Int) (x2 : Int) (x3 : Int) (x4 : Int) (x5 : Int) (hx1 : jw_r x1) (hx2 : jw_r x2) (hx3 : jw_r x3) (hx4 : jw_r x4) (hx5 : jw_r x5) (M : jw_M), jw_Rn G YX12_rests 6 0 0 true (fun q => q) 236 [(0, jR G 127), (1, jI x1), (2, jI x2), (3, jI x3), (4, jI x4), (5, jI x5)] [] M (fX12_rests_236 r73 x1 x2 x3 x4 x5 M) := by
  intro x1 x2 x3 x4 x5 hx1 hx2 hx3 hx4 hx5 M
  unfold fX12_rests_236
  refine jw_iincL (pc := 236) 5 (lv' := (fun y => [(5, y), (0, jR G 127), (1, jI x1), (2, jI x2), (3, jI x3), (4, jI x4)])) dX12_rests_236 rfl (Nat.le_of_ble_eq_true rfl) (fun _ => rfl) (fun v25 hv25 => ?_)
  refine jw_goto (pc := 239) 73 dX12_rests_239 (by decide) ?_
  exact jw_few [1, 2, 3, 4, 5, 0] rfl (hr73 x1 x2 x3 x4 v25 hx1 hx2 hx3 hx4 hv25 M)
def fX12_rests_231 (r73 : Int → Int → Int → Int → Int → jw_M → Option (Int × jw_M)) (x1 : Int) (x2 : Int) (x3 : Int) (x5 : Int) (xs0 : Int) (M : jw_M) : Option (Int × jw_M) :=
  Option.bind (some xs0) (fun v27 => Option.bind (some (jw_w (x3 + 1))) (fun v28 => fX12_rests_236 r73 x1 x2 v28 v27 x5 M))
set_option maxRecDepth 100000 in
theorem pX12_rests_231 (G : jw_G) (r73 : Int → Int → Int → Int → Int → jw_M → Option (Int × jw_M)) (hr73 : ∀ (x1 : Int) (x2 : Int) (x3 : Int) (x4 : Int) (x5 : Int) (hx1 : jw_r x1) (hx2 : jw_r x2) (hx3 : jw_r x3) (hx4 : jw_r x4) (hx5 : jw_r x5) (M : jw_M), jw_Rn G YX12_rests 6 0 0 true (fun q => q) 73 [(0, jR G 127), (1, jI x1), (2, jI x2), (3, jI x3), (4, jI x4), (5, jI x5)] [] M (r73 x1 x2 x3 x4 x5 M)) : ∀ (x1 : Int) (x2 : Int) (x3 : Int) (x5 : Int) (xs0 : Int) (hx1 : jw_r x1) (hx2 : jw_r x2) (hx3 : jw_r x3) (hx5 : jw_r x5) (hxs0 : jw_r xs0) (M : jw_M), jw_Rn G YX12_rests 6 0 0 true (fun q => q) 231 [(0, jR G 127), (1, jI x1), (2, jI x2), (3, jI x3), (5, jI x5)] [jI xs0] M (fX12_rests_231 r73 x1 x2 x3 x5 xs0 M) := by
  intro x1 x2 x3 x5 xs0 hx1 hx2 hx3 hx5 hxs0 M
  unfold fX12_rests_231
  refine jw_istoreL (pc := 231) (lv' := (fun y => [(4, y), (0, jR G 127), (1, jI x1), (2, jI x2), (3, jI x3), (5, jI x5)])) dX12_rests_231 hxs0 (by decide) (fun _ => rfl) (fun v27 hv27 => ?_)
  refine jw_iincL (pc := 233) 4 (lv' := (fun y => [(3, y), (4, jI v27), (0, jR G 127), (1, jI x1), (2, jI x2), (5, jI x5)])) dX12_rests_233 rfl (Nat.le_of_ble_eq_true rfl) (fun _ => rfl) (fun v28 hv28 => ?_)
  exact jw_few [2, 3, 4, 0, 1, 5] rfl (pX12_rests_236 G r73 hr73 x1 x2 v28 v27 x5 hx1 hx2 hv28 hv27 hx5 M)
def fX12_rests_207 (r73 : Int → Int → Int → Int → Int → jw_M → Option (Int × jw_M)) (x1 : Int) (x2 : Int) (x3 : Int) (x4 : Int) (x5 : Int) (x7 : Int) (M : jw_M) : Option (Int × jw_M) :=
  if x7 = 0 then (fX12_rests_236 r73 x1 x2 x3 x4 x5 M) else (Option.bind (fX12_areAtRest  M) (fun v26 => if v26 = 0 then (fX12_rests_236 r73 x1 x2 x3 x4 x5 M) else (if x3 = x1 then (fX12_rests_231 r73 x1 x2 x3 x5 x5 M) else (fX12_rests_231 r73 x1 x2 x3 x5 x4 M))))
set_option maxRecDepth 100000 in
theorem pX12_rests_207 (G : jw_G) (r73 : Int → Int → Int → Int → Int → jw_M → Option (Int × jw_M)) (hr73 : ∀ (x1 : Int) (x2 : Int) (x3 : Int) (x4 : Int) (x5 : Int) (hx1 : jw_r x1) (hx2 : jw_r x2) (hx3 : jw_r x3) (hx4 : jw_r x4) (hx5 : jw_r x5) (M : jw_M), jw_Rn G YX12_rests 6 0 0 true (fun q => q) 73 [(0, jR G 127), (1, jI x1), (2, jI x2), (3, jI x3), (4, jI x4), (5, jI x5)] [] M (r73 x1 x2 x3 x4 x5 M)) : ∀ (x1 : Int) (x2 : Int) (x3 : Int) (x4 : Int) (x5 : Int) (x7 : Int) (hx1 : jw_r x1) (hx2 : jw_r x2) (hx3 : jw_r x3) (hx4 : jw_r x4) (hx5 : jw_r x5) (hx7 : jw_r x7) (M : jw_M), jw_Rn G YX12_rests 6 0 0 true (fun q => q) 207 [(0, jR G 127), (1, jI x1), (2, jI x2), (3, jI x3), (4, jI x4), (5, jI x5), (7, jI x7)] [] M (fX12_rests_207 r73 x1 x2 x3 x4 x5 x7 M) := by
  intro x1 x2 x3 x4 x5 x7 hx1 hx2 hx3 hx4 hx5 hx7 M
  unfold fX12_rests_207
  refine jw_iload (pc := 207) 6 dX12_rests_207 rfl ?_
  refine jw_if_eq (pc := 209) 236 dX12_rests_209 (by decide) hx7 (fun _ => ?_) (fun _ => ?_)
  · exact jw_few [0, 1, 2, 3, 4, 5] rfl (pX12_rests_236 G r73 hr73 x1 x2 x3 x4 x5 hx1 hx2 hx3 hx4 hx5 M)
  · refine jw_aloadR (pc := 212) 0 dX12_rests_212 rfl ?_
    refine jw_callVz (pc := 213) (As := []) (st := []) dX12_rests_213 rfl (Nat.le_of_ble_eq_true rfl) qX12_areAtRest jt_1606 jt_1608 jp_80 rfl rfl (Nat.le_of_ble_eq_true rfl) jv_12 rfl jg_127 jl_127 (by decide) (jw_ho jg_127 (by decide)) (kX12_areAtRest G  M) (fun v26 hv26 => ?_)
    refine jw_if_eq (pc := 216) 236 dX12_rests_216 (by decide) (jw_bz hv26) (fun _ => ?_) (fun _ => ?_)
    · exact jw_few [0, 1, 2, 3, 4, 5] rfl (pX12_rests_236 G r73 hr73 x1 x2 x3 x4 x5 hx1 hx2 hx3 hx4 hx5 M)
    · refine jw_iload_n (pc := 219) 3 dX12_rests_219 rfl ?_
      refine jw_iload_n (pc := 220) 1 dX12_rests_220 rfl ?_
      refine jw_ic_ne (pc := 221) 229 dX12_rests_221 (by decide) hx3 hx1 (fun _ => ?_) (fun _ => ?_)
      · refine jw_iload (pc := 224) 5 dX12_rests_224 rfl ?_
        refine jw_goto (pc := 226) 231 dX12_rests_226 (by decide) ?_
        exact jw_few [0, 1, 2, 3, 5] rfl (pX12_rests_231 G r73 hr73 x1 x2 x3 x5 x5 hx1 hx2 hx3 hx5 hx5 M)
      · refine jw_iload (pc := 229) 4 dX12_rests_229 rfl ?_
        exact jw_few [0, 1, 2, 3, 5] rfl (pX12_rests_231 G r73 hr73 x1 x2 x3 x5 x4 hx1 hx2 hx3 hx5 hx4 M)
def fX12_rests_158 (r73 : Int → Int → Int → Int → Int → jw_M → Option (Int × jw_M)) : Nat → Int → Int → Int → Int → Int → Int → Int → jw_M → Option (Int × jw_M)
  | 0, _, _, _, _, _, _, _, _ => none
  | k + 1, x1, x2, x3, x4, x5, x7, x8, M => if 0 ≤ (3 : Int) ∧ (3 : Int) < 104 then if x8 < M 131 3 then (if x7 = 0 then (fX12_rests_207 r73 x1 x2 x3 x4 x5 x7 M) else (if 0 ≤ jw_w (90 + x8) ∧ jw_w (90 + x8) < 104 then if 0 ≤ jw_w (0 + x8) ∧ jw_w (0 + x8) < 104 then Option.bind (fX12_mayStand (M 131 (jw_w (90 + x8))) x8 (M 133 (jw_w (0 + x8))) M) (fun v31 => Option.bind (some v31) (fun v32 => Option.bind (some (jw_w (x8 + 1))) (fun v33 => fX12_rests_158 r73 k x1 x2 x3 x4 x5 v32 v33 M))) else none else none)) else (fX12_rests_207 r73 x1 x2 x3 x4 x5 x7 M) else none
set_option maxRecDepth 100000 in
theorem pX12_rests_158 (G : jw_G) (r73 : Int → Int → Int → Int → Int → jw_M → Option (Int × jw_M)) (hr73 : ∀ (x1 : Int) (x2 : Int) (x3 : Int) (x4 : Int) (x5 : Int) (hx1 : jw_r x1) (hx2 : jw_r x2) (hx3 : jw_r x3) (hx4 : jw_r x4) (hx5 : jw_r x5) (M : jw_M), jw_Rn G YX12_rests 6 0 0 true (fun q => q) 73 [(0, jR G 127), (1, jI x1), (2, jI x2), (3, jI x3), (4, jI x4), (5, jI x5)] [] M (r73 x1 x2 x3 x4 x5 M)) : ∀ (k : Nat) (x1 : Int) (x2 : Int) (x3 : Int) (x4 : Int) (x5 : Int) (x7 : Int) (x8 : Int) (hx1 : jw_r x1) (hx2 : jw_r x2) (hx3 : jw_r x3) (hx4 : jw_r x4) (hx5 : jw_r x5) (hx7 : jw_r x7) (hx8 : jw_r x8) (M : jw_M), jw_Rn G YX12_rests 6 0 0 true (fun q => q) 158 [(0, jR G 127), (1, jI x1), (2, jI x2), (3, jI x3), (4, jI x4), (5, jI x5), (7, jI x7), (8, jI x8)] [] M (fX12_rests_158 r73 k x1 x2 x3 x4 x5 x7 x8 M) := by
  intro k
  induction k with
  | zero =>
    intro x1 x2 x3 x4 x5 x7 x8 hx1 hx2 hx3 hx4 hx5 hx7 hx8 M
    exact jw_none
  | succ k ih =>
    intro x1 x2 x3 x4 x5 x7 x8 hx1 hx2 hx3 hx4 hx5 hx7 hx8 M
    rw [fX12_rests_158]
    refine jw_iload (pc := 158) 7 dX12_rests_158 rfl ?_
    refine jw_aloadR (pc := 160) 0 dX12_rests_160 rfl ?_
    refine jw_getR (pc := 161) (j := 5) rfl dX12_rests_161 jv_12 ji_12 (Or.inl jt_1236) jg_127 jl_127 (by decide) (by decide) rfl jf_12_5 ?_
    refine jw_iconst (pc := 164) dX12_rests_164 ?_
    refine jw_iald (pc := 165) dX12_rests_165 jg_131 jl_131 (jw_ho jg_131 (by decide)) (jw_rc _ rfl) rfl (fun h24 => ?_)
    refine jw_ic_ge (pc := 166) 207 dX12_rests_166 (by decide) hx8 h24 (fun _ => ?_) (fun _ => ?_)
    · refine jw_iload (pc := 169) 6 dX12_rests_169 rfl ?_
      refine jw_if_eq (pc := 171) 207 dX12_rests_171 (by decide) hx7 (fun _ => ?_) (fun _ => ?_)
      · exact jw_few [0, 1, 2, 3, 4, 5, 6] rfl (pX12_rests_207 G r73 hr73 x1 x2 x3 x4 x5 x7 hx1 hx2 hx3 hx4 hx5 hx7 M)
      · refine jw_aloadR (pc := 174) 0 dX12_rests_174 rfl ?_
        refine jw_aloadR (pc := 175) 0 dX12_rests_175 rfl ?_
        refine jw_getR (pc := 176) (j := 5) rfl dX12_rests_176 jv_12 ji_12 (Or.inl jt_1236) jg_127 jl_127 (by decide) (by decide) rfl jf_12_5 ?_
        refine jw_bipush (pc := 179) dX12_rests_179 rfl ?_
        refine jw_iload (pc := 181) 7 dX12_rests_181 rfl ?_
        refine jw_iadd (pc := 183) dX12_rests_183 ?_
        refine jw_iald (pc := 184) dX12_rests_184 jg_131 jl_131 (jw_ho jg_131 (by decide)) (jw_wr _) rfl (fun h29 => ?_)
        refine jw_iload (pc := 185) 7 dX12_rests_185 rfl ?_
        refine jw_aloadR (pc := 187) 0 dX12_rests_187 rfl ?_
        refine jw_getR (pc := 188) (j := 8) rfl dX12_rests_188 jv_12 ji_12 (Or.inl jt_1239) jg_127 jl_127 (by decide) (by decide) rfl jf_12_8 ?_
        refine jw_iconst (pc := 191) dX12_rests_191 ?_
        refine jw_iload (pc := 192) 7 dX12_rests_192 rfl ?_
        refine jw_iadd (pc := 194) dX12_rests_194 ?_
        refine jw_iald (pc := 195) dX12_rests_195 jg_133 jl_133 (jw_ho jg_133 (by decide)) (jw_wr _) rfl (fun h30 => ?_)
        refine jw_callVz (pc := 196) (As := [jI (M 131 (jw_w (90 + x8))), jI x8, jI (M 133 (jw_w (0 + x8)))]) (st := []) dX12_rests_196 rfl (Nat.le_of_ble_eq_true rfl) qX12_mayStand jt_1594 jt_1596 jp_79 rfl rfl (Nat.le_of_ble_eq_true rfl) jv_12 rfl jg_127 jl_127 (by decide) (jw_ho jg_127 (by decide)) (kX12_mayStand G (M 131 (jw_w (90 + x8))) x8 (M 133 (jw_w (0 + x8))) h29 hx8 h30 M) (fun v31 hv31 => ?_)
        refine jw_istoreL (pc := 199) (lv' := (fun y => [(7, y), (0, jR G 127), (1, jI x1), (2, jI x2), (3, jI x3), (4, jI x4), (5, jI x5), (8, jI x8)])) dX12_rests_199 (jw_bz hv31) (by decide) (fun _ => rfl) (fun v32 hv32 => ?_)
        refine jw_iincL (pc := 201) 7 (lv' := (fun y => [(8, y), (7, jI v32), (0, jR G 127), (1, jI x1), (2, jI x2), (3, jI x3), (4, jI x4), (5, jI x5)])) dX12_rests_201 rfl (Nat.le_of_ble_eq_true rfl) (fun _ => rfl) (fun v33 hv33 => ?_)
        refine jw_goto (pc := 204) 158 dX12_rests_204 (by decide) ?_
        exact jw_few [2, 3, 4, 5, 6, 7, 1, 0] rfl (ih x1 x2 x3 x4 x5 v32 v33 hx1 hx2 hx3 hx4 hx5 hv32 hv33 M)
    · exact jw_few [0, 1, 2, 3, 4, 5, 6] rfl (pX12_rests_207 G r73 hr73 x1 x2 x3 x4 x5 x7 hx1 hx2 hx3 hx4 hx5 hx7 M)
def fX12_rests_89 (r73 : Int → Int → Int → Int → Int → jw_M → Option (Int × jw_M)) : Nat → Int → Int → Int → Int → Int → Int → Int → Int → jw_M → Option (Int × jw_M)
  | 0, _, _, _, _, _, _, _, _, _ => none
  | k + 1, x1, x2, x3, x4, x5, x6, x7, x8, M => if 0 ≤ (3 : Int) ∧ (3 : Int) < 104 then if x8 < M 131 3 then (if (7 : Int) ≠ 0 then if 0 ≤ jw_w (0 + x8) ∧ jw_w (0 + x8) < 104 then Option.bind (some (jw_up M 133 (jw_w (0 + x8)) (jw_w (Int.tmod x6 7)))) (fun M17 => if (7 : Int) ≠ 0 then Option.bind (some (jw_w (Int.tdiv x6 7))) (fun v18 => if x7 = 0 then (fX12_rests_146 r73 (fX12_rests_89 r73 k) x1 x2 x3 x4 x5 v18 x8 M17) else (if 0 ≤ jw_w (0 + x8) ∧ jw_w (0 + x8) < 104 then Option.bind (fX12_isCorner (M17 133 (jw_w (0 + x8))) M17) (fun v22 => if v22 = 0 then (fX12_rests_146 r73 (fX12_rests_89 r73 k) x1 x2 x3 x4 x5 v18 x8 M17) else (fX12_rests_147 r73 (fX12_rests_89 r73 k) x1 x2 x3 x4 x5 v18 x8 1 M17)) else none)) else none) else none else none) else (Option.bind (some 0) (fun v23 => fX12_rests_158 r73 jw_fu x1 x2 x3 x4 x5 x7 v23 M)) else none
set_option maxRecDepth 100000 in
theorem pX12_rests_89 (G : jw_G) (r73 : Int → Int → Int → Int → Int → jw_M → Option (Int × jw_M)) (hr73 : ∀ (x1 : Int) (x2 : Int) (x3 : Int) (x4 : Int) (x5 : Int) (hx1 : jw_r x1) (hx2 : jw_r x2) (hx3 : jw_r x3) (hx4 : jw_r x4) (hx5 : jw_r x5) (M : jw_M), jw_Rn G YX12_rests 6 0 0 true (fun q => q) 73 [(0, jR G 127), (1, jI x1), (2, jI x2), (3, jI x3), (4, jI x4), (5, jI x5)] [] M (r73 x1 x2 x3 x4 x5 M)) : ∀ (k : Nat) (x1 : Int) (x2 : Int) (x3 : Int) (x4 : Int) (x5 : Int) (x6 : Int) (x7 : Int) (x8 : Int) (hx1 : jw_r x1) (hx2 : jw_r x2) (hx3 : jw_r x3) (hx4 : jw_r x4) (hx5 : jw_r x5) (hx6 : jw_r x6) (hx7 : jw_r x7) (hx8 : jw_r x8) (M : jw_M), jw_Rn G YX12_rests 6 0 0 true (fun q => q) 89 [(0, jR G 127), (1, jI x1), (2, jI x2), (3, jI x3), (4, jI x4), (5, jI x5), (6, jI x6), (7, jI x7), (8, jI x8)] [] M (fX12_rests_89 r73 k x1 x2 x3 x4 x5 x6 x7 x8 M) := by
  intro k
  induction k with
  | zero =>
    intro x1 x2 x3 x4 x5 x6 x7 x8 hx1 hx2 hx3 hx4 hx5 hx6 hx7 hx8 M
    exact jw_none
  | succ k ih =>
    intro x1 x2 x3 x4 x5 x6 x7 x8 hx1 hx2 hx3 hx4 hx5 hx6 hx7 hx8 M
    rw [fX12_rests_89]
    refine jw_iload (pc := 89) 8 dX12_rests_89 rfl ?_
    refine jw_aloadR (pc := 91) 0 dX12_rests_91 rfl ?_
    refine jw_getR (pc := 92) (j := 5) rfl dX12_rests_92 jv_12 ji_12 (Or.inl jt_1236) jg_127 jl_127 (by decide) (by decide) rfl jf_12_5 ?_
    refine jw_iconst (pc := 95) dX12_rests_95 ?_
    refine jw_iald (pc := 96) dX12_rests_96 jg_131 jl_131 (jw_ho jg_131 (by decide)) (jw_rc _ rfl) rfl (fun h16 => ?_)
    refine jw_ic_ge (pc := 97) 155 dX12_rests_97 (by decide) hx8 h16 (fun _ => ?_) (fun _ => ?_)
    · refine jw_aloadR (pc := 100) 0 dX12_rests_100 rfl ?_
      refine jw_getR (pc := 101) (j := 8) rfl dX12_rests_101 jv_12 ji_12 (Or.inl jt_1239) jg_127 jl_127 (by decide) (by decide) rfl jf_12_8 ?_
      refine jw_iconst (pc := 104) dX12_rests_104 ?_
      refine jw_iload (pc := 105) 8 dX12_rests_105 rfl ?_
      refine jw_iadd (pc := 107) dX12_rests_107 ?_
      refine jw_iload (pc := 108) 6 dX12_rests_108 rfl ?_
      refine jw_bipush (pc := 110) dX12_rests_110 rfl ?_
      refine jw_irem (pc := 112) dX12_rests_112 hx6 (jw_rc _ rfl) ?_
      refine jw_iast (pc := 113) dX12_rests_113 jg_133 jl_133 (jw_ho jg_133 (by decide)) (jw_wr _) (jw_wr _) rfl ?_
      refine jw_letM (fun M17 => ?_)
      refine jw_iload (pc := 114) 6 dX12_rests_114 rfl ?_
      refine jw_bipush (pc := 116) dX12_rests_116 rfl ?_
      refine jw_idiv (pc := 118) dX12_rests_118 hx6 (jw_rc _ rfl) ?_
      refine jw_istoreL (pc := 119) (lv' := (fun y => [(6, y), (0, jR G 127), (1, jI x1), (2, jI x2), (3, jI x3), (4, jI x4), (5, jI x5), (7, jI x7), (8, jI x8)])) dX12_rests_119 (jw_wr _) (by decide) (fun _ => rfl) (fun v18 hv18 => ?_)
      refine jw_iload (pc := 121) 7 dX12_rests_121 rfl ?_
      refine jw_if_eq (pc := 123) 146 dX12_rests_123 (by decide) hx7 (fun _ => ?_) (fun _ => ?_)
      · exact jw_few [1, 2, 3, 4, 5, 6, 0, 8] rfl (pX12_rests_146 G r73 (fX12_rests_89 r73 k) hr73 ih x1 x2 x3 x4 x5 v18 x8 hx1 hx2 hx3 hx4 hx5 hv18 hx8 M17)
      · refine jw_aloadR (pc := 126) 1 dX12_rests_126 rfl ?_
        refine jw_aloadR (pc := 127) 1 dX12_rests_127 rfl ?_
        refine jw_getR (pc := 128) (j := 8) rfl dX12_rests_128 jv_12 ji_12 (Or.inl jt_1239) jg_127 jl_127 (by decide) (by decide) rfl jf_12_8 ?_
        refine jw_iconst (pc := 131) dX12_rests_131 ?_
        refine jw_iload (pc := 132) 8 dX12_rests_132 rfl ?_
        refine jw_iadd (pc := 134) dX12_rests_134 ?_
        refine jw_iald (pc := 135) dX12_rests_135 jg_133 jl_133 (jw_ho jg_133 (by decide)) (jw_wr _) rfl (fun h21 => ?_)
        refine jw_callVz (pc := 136) (As := [jI (M17 133 (jw_w (0 + x8)))]) (st := []) dX12_rests_136 rfl (Nat.le_of_ble_eq_true rfl) qX12_isCorner jt_1478 jt_1480 jp_63 rfl rfl (Nat.le_of_ble_eq_true rfl) jv_12 rfl jg_127 jl_127 (by decide) (jw_ho jg_127 (by decide)) (kX12_isCorner G (M17 133 (jw_w (0 + x8))) h21 M17) (fun v22 hv22 => ?_)
        refine jw_if_eq (pc := 139) 146 dX12_rests_139 (by decide) (jw_bz hv22) (fun _ => ?_) (fun _ => ?_)
        · exact jw_few [1, 2, 3, 4, 5, 6, 0, 8] rfl (pX12_rests_146 G r73 (fX12_rests_89 r73 k) hr73 ih x1 x2 x3 x4 x5 v18 x8 hx1 hx2 hx3 hx4 hx5 hv18 hx8 M17)
        · refine jw_iconst (pc := 142) dX12_rests_142 ?_
          refine jw_goto (pc := 143) 147 dX12_rests_143 (by decide) ?_
          exact jw_few [1, 2, 3, 4, 5, 6, 0, 8] rfl (pX12_rests_147 G r73 (fX12_rests_89 r73 k) hr73 ih x1 x2 x3 x4 x5 v18 x8 1 hx1 hx2 hx3 hx4 hx5 hv18 hx8 (jw_rc _ rfl) M17)
    · refine jw_iconst (pc := 155) dX12_rests_155 ?_
      refine jw_istoreL (pc := 156) (lv' := (fun y => [(8, y), (0, jR G 127), (1, jI x1), (2, jI x2), (3, jI x3), (4, jI x4), (5, jI x5), (6, jI x6), (7, jI x7)])) dX12_rests_156 (jw_rc _ rfl) (by decide) (fun _ => rfl) (fun v23 hv23 => ?_)
      exact jw_few [1, 2, 3, 4, 5, 6, 8, 0] rfl (pX12_rests_158 G r73 hr73 jw_fu x1 x2 x3 x4 x5 x7 v23 hx1 hx2 hx3 hx4 hx5 hx7 hv23 M)
def fX12_rests_245 : Nat → Int → Int → Int → Int → jw_M → Option (Int × jw_M)
  | 0, _, _, _, _, _ => none
  | k + 1, x1, x3, x4, x5, M => if 0 ≤ (3 : Int) ∧ (3 : Int) < 104 then if x5 < M 131 3 then (if 0 ≤ x5 ∧ x5 < 5 then if 0 ≤ jw_w (0 + x5) ∧ jw_w (0 + x5) < 104 then Option.bind (some (jw_up M 133 (jw_w (0 + x5)) (M 138 x5))) (fun M37 => Option.bind (some (jw_w (x5 + 1))) (fun v38 => fX12_rests_245 k x1 x3 x4 v38 M37)) else none else none) else (if x1 = (-1) then (some (x3, M)) else (some (x4, M))) else none
set_option maxRecDepth 100000 in
theorem pX12_rests_245 (G : jw_G) : ∀ (k : Nat) (x1 : Int) (x3 : Int) (x4 : Int) (x5 : Int) (hx1 : jw_r x1) (hx3 : jw_r x3) (hx4 : jw_r x4) (hx5 : jw_r x5) (M : jw_M), jw_Rn G YX12_rests 6 0 0 true (fun q => q) 245 [(0, jR G 127), (1, jI x1), (3, jI x3), (4, jI x4), (5, jI x5)] [] M (fX12_rests_245 k x1 x3 x4 x5 M) := by
  intro k
  induction k with
  | zero =>
    intro x1 x3 x4 x5 hx1 hx3 hx4 hx5 M
    exact jw_none
  | succ k ih =>
    intro x1 x3 x4 x5 hx1 hx3 hx4 hx5 M
    rw [fX12_rests_245]
    refine jw_iload (pc := 245) 4 dX12_rests_245 rfl ?_
    refine jw_aloadR (pc := 247) 0 dX12_rests_247 rfl ?_
    refine jw_getR (pc := 248) (j := 5) rfl dX12_rests_248 jv_12 ji_12 (Or.inl jt_1236) jg_127 jl_127 (by decide) (by decide) rfl jf_12_5 ?_
    refine jw_iconst (pc := 251) dX12_rests_251 ?_
    refine jw_iald (pc := 252) dX12_rests_252 jg_131 jl_131 (jw_ho jg_131 (by decide)) (jw_rc _ rfl) rfl (fun h35 => ?_)
    refine jw_ic_ge (pc := 253) 278 dX12_rests_253 (by decide) hx5 h35 (fun _ => ?_) (fun _ => ?_)
    · refine jw_aloadR (pc := 256) 0 dX12_rests_256 rfl ?_
      refine jw_getR (pc := 257) (j := 8) rfl dX12_rests_257 jv_12 ji_12 (Or.inl jt_1239) jg_127 jl_127 (by decide) (by decide) rfl jf_12_8 ?_
      refine jw_iconst (pc := 260) dX12_rests_260 ?_
      refine jw_iload (pc := 261) 4 dX12_rests_261 rfl ?_
      refine jw_iadd (pc := 263) dX12_rests_263 ?_
      refine jw_aloadR (pc := 264) 0 dX12_rests_264 rfl ?_
      refine jw_getR (pc := 265) (j := 22) rfl dX12_rests_265 jv_12 ji_12 (Or.inl jt_1253) jg_127 jl_127 (by decide) (by decide) rfl jf_12_22 ?_
      refine jw_iload (pc := 268) 4 dX12_rests_268 rfl ?_
      refine jw_iald (pc := 270) dX12_rests_270 jg_138 jl_138 (jw_ho jg_138 (by decide)) hx5 rfl (fun h36 => ?_)
      refine jw_iast (pc := 271) dX12_rests_271 jg_133 jl_133 (jw_ho jg_133 (by decide)) (jw_wr _) h36 rfl ?_
      refine jw_letM (fun M37 => ?_)
      refine jw_iincL (pc := 272) 4 (lv' := (fun y => [(5, y), (0, jR G 127), (1, jI x1), (3, jI x3), (4, jI x4)])) dX12_rests_272 rfl (Nat.le_of_ble_eq_true rfl) (fun _ => rfl) (fun v38 hv38 => ?_)
      refine jw_goto (pc := 275) 245 dX12_rests_275 (by decide) ?_
      exact jw_few [1, 2, 3, 4, 0] rfl (ih x1 x3 x4 v38 hx1 hx3 hx4 hv38 M37)
    · refine jw_iload_n (pc := 278) 1 dX12_rests_278 rfl ?_
      refine jw_iconst (pc := 279) dX12_rests_279 ?_
      refine jw_ic_ne (pc := 280) 288 dX12_rests_280 (by decide) hx1 (jw_rc _ rfl) (fun _ => ?_) (fun _ => ?_)
      · refine jw_iload_n (pc := 283) 2 dX12_rests_283 rfl ?_
        refine jw_i2lr (pc := 284) dX12_rests_284 hx3 ?_
        refine jw_goto (pc := 285) 291 dX12_rests_285 (by decide) ?_
        exact jw_ret (pc := 291) (v := x3) dX12_rests_291 (jw_rq hx3) rfl rfl
      · refine jw_iload (pc := 288) 3 dX12_rests_288 rfl ?_
        refine jw_i2lr (pc := 290) dX12_rests_290 hx4 ?_
        exact jw_ret (pc := 291) (v := x4) dX12_rests_291 (jw_rq hx4) rfl rfl
def fX12_rests_73 : Nat → Int → Int → Int → Int → Int → jw_M → Option (Int × jw_M)
  | 0, _, _, _, _, _, _ => none
  | k + 1, x1, x2, x3, x4, x5, M => if x5 < x2 then (Option.bind (some x5) (fun v13 => Option.bind (some 1) (fun v14 => Option.bind (some 0) (fun v15 => fX12_rests_89 (fX12_rests_73 k) jw_fu x1 x2 x3 x4 x5 v13 v14 v15 M)))) else (Option.bind (some 0) (fun v34 => fX12_rests_245 jw_fu x1 x3 x4 v34 M))
set_option maxRecDepth 100000 in
theorem pX12_rests_73 (G : jw_G) : ∀ (k : Nat) (x1 : Int) (x2 : Int) (x3 : Int) (x4 : Int) (x5 : Int) (hx1 : jw_r x1) (hx2 : jw_r x2) (hx3 : jw_r x3) (hx4 : jw_r x4) (hx5 : jw_r x5) (M : jw_M), jw_Rn G YX12_rests 6 0 0 true (fun q => q) 73 [(0, jR G 127), (1, jI x1), (2, jI x2), (3, jI x3), (4, jI x4), (5, jI x5)] [] M (fX12_rests_73 k x1 x2 x3 x4 x5 M) := by
  intro k
  induction k with
  | zero =>
    intro x1 x2 x3 x4 x5 hx1 hx2 hx3 hx4 hx5 M
    exact jw_none
  | succ k ih =>
    intro x1 x2 x3 x4 x5 hx1 hx2 hx3 hx4 hx5 M
    rw [fX12_rests_73]
    refine jw_iload (pc := 73) 5 dX12_rests_73 rfl ?_
    refine jw_iload_n (pc := 75) 2 dX12_rests_75 rfl ?_
    refine jw_ic_ge (pc := 76) 242 dX12_rests_76 (by decide) hx5 hx2 (fun _ => ?_) (fun _ => ?_)
    · refine jw_iload (pc := 79) 5 dX12_rests_79 rfl ?_
      refine jw_istoreL (pc := 81) (lv' := (fun y => [(6, y), (0, jR G 127), (1, jI x1), (2, jI x2), (3, jI x3), (4, jI x4), (5, jI x5)])) dX12_rests_81 hx5 (by decide) (fun _ => rfl) (fun v13 hv13 => ?_)
      refine jw_iconst (pc := 83) dX12_rests_83 ?_
      refine jw_istoreL (pc := 84) (lv' := (fun y => [(7, y), (6, jI v13), (0, jR G 127), (1, jI x1), (2, jI x2), (3, jI x3), (4, jI x4), (5, jI x5)])) dX12_rests_84 (jw_rc _ rfl) (by decide) (fun _ => rfl) (fun v14 hv14 => ?_)
      refine jw_iconst (pc := 86) dX12_rests_86 ?_
      refine jw_istoreL (pc := 87) (lv' := (fun y => [(8, y), (7, jI v14), (6, jI v13), (0, jR G 127), (1, jI x1), (2, jI x2), (3, jI x3), (4, jI x4), (5, jI x5)])) dX12_rests_87 (jw_rc _ rfl) (by decide) (fun _ => rfl) (fun v15 hv15 => ?_)
      exact jw_few [3, 4, 5, 6, 7, 8, 2, 1, 0] rfl (pX12_rests_89 G (fX12_rests_73 k) ih jw_fu x1 x2 x3 x4 x5 v13 v14 v15 hx1 hx2 hx3 hx4 hx5 hv13 hv14 hv15 M)
    · refine jw_iconst (pc := 242) dX12_rests_242 ?_
      refine jw_istoreL (pc := 243) (lv' := (fun y => [(5, y), (0, jR G 127), (1, jI x1), (2, jI x2), (3, jI x3), (4, jI x4)])) dX12_rests_243 (jw_rc _ rfl) (by decide) (fun _ => rfl) (fun v34 hv34 => ?_)
      exact jw_few [1, 2, 4, 5, 0] rfl (pX12_rests_245 G jw_fu x1 x3 x4 v34 hx1 hx3 hx4 hv34 M)
def fX12_rests_29 : Nat → Int → Int → Int → jw_M → Option (Int × jw_M)
  | 0, _, _, _, _ => none
  | k + 1, x1, x2, x3, M => if 0 ≤ (3 : Int) ∧ (3 : Int) < 104 then if x3 < M 131 3 then (if 0 ≤ jw_w (0 + x3) ∧ jw_w (0 + x3) < 104 then if 0 ≤ x3 ∧ x3 < 5 then Option.bind (some (jw_up M 138 x3 (M 133 (jw_w (0 + x3))))) (fun M7 => Option.bind (some (jw_w (x2 * 7))) (fun v8 => Option.bind (some (jw_w (x3 + 1))) (fun v9 => fX12_rests_29 k x1 v8 v9 M7))) else none else none) else (Option.bind (some 0) (fun v10 => Option.bind (some (-1000000)) (fun v11 => Option.bind (some 0) (fun v12 => fX12_rests_73 jw_fu x1 x2 v10 v11 v12 M)))) else none
set_option maxRecDepth 100000 in
theorem pX12_rests_29 (G : jw_G) : ∀ (k : Nat) (x1 : Int) (x2 : Int) (x3 : Int) (hx1 : jw_r x1) (hx2 : jw_r x2) (hx3 : jw_r x3) (M : jw_M), jw_Rn G YX12_rests 6 0 0 true (fun q => q) 29 [(0, jR G 127), (1, jI x1), (2, jI x2), (3, jI x3)] [] M (fX12_rests_29 k x1 x2 x3 M) := by
  intro k
  induction k with
  | zero =>
    intro x1 x2 x3 hx1 hx2 hx3 M
    exact jw_none
  | succ k ih =>
    intro x1 x2 x3 hx1 hx2 hx3 M
    rw [fX12_rests_29]
    refine jw_iload_n (pc := 29) 3 dX12_rests_29 rfl ?_
    refine jw_aloadR (pc := 30) 0 dX12_rests_30 rfl ?_
    refine jw_getR (pc := 31) (j := 5) rfl dX12_rests_31 jv_12 ji_12 (Or.inl jt_1236) jg_127 jl_127 (by decide) (by decide) rfl jf_12_5 ?_
    refine jw_iconst (pc := 34) dX12_rests_34 ?_
    refine jw_iald (pc := 35) dX12_rests_35 jg_131 jl_131 (jw_ho jg_131 (by decide)) (jw_rc _ rfl) rfl (fun h5 => ?_)
    refine jw_ic_ge (pc := 36) 64 dX12_rests_36 (by decide) hx3 h5 (fun _ => ?_) (fun _ => ?_)
    · refine jw_aloadR (pc := 39) 0 dX12_rests_39 rfl ?_
      refine jw_getR (pc := 40) (j := 22) rfl dX12_rests_40 jv_12 ji_12 (Or.inl jt_1253) jg_127 jl_127 (by decide) (by decide) rfl jf_12_22 ?_
      refine jw_iload_n (pc := 43) 3 dX12_rests_43 rfl ?_
      refine jw_aloadR (pc := 44) 0 dX12_rests_44 rfl ?_
      refine jw_getR (pc := 45) (j := 8) rfl dX12_rests_45 jv_12 ji_12 (Or.inl jt_1239) jg_127 jl_127 (by decide) (by decide) rfl jf_12_8 ?_
      refine jw_iconst (pc := 48) dX12_rests_48 ?_
      refine jw_iload_n (pc := 49) 3 dX12_rests_49 rfl ?_
      refine jw_iadd (pc := 50) dX12_rests_50 ?_
      refine jw_iald (pc := 51) dX12_rests_51 jg_133 jl_133 (jw_ho jg_133 (by decide)) (jw_wr _) rfl (fun h6 => ?_)
      refine jw_iast (pc := 52) dX12_rests_52 jg_138 jl_138 (jw_ho jg_138 (by decide)) hx3 h6 rfl ?_
      refine jw_letM (fun M7 => ?_)
      refine jw_iload_n (pc := 53) 2 dX12_rests_53 rfl ?_
      refine jw_bipush (pc := 54) dX12_rests_54 rfl ?_
      refine jw_imul (pc := 56) dX12_rests_56 ?_
      refine jw_istore_nL (pc := 57) (lv' := (fun y => [(2, y), (0, jR G 127), (1, jI x1), (3, jI x3)])) dX12_rests_57 (jw_wr _) (by decide) (fun _ => rfl) (fun v8 hv8 => ?_)
      refine jw_iincL (pc := 58) 3 (lv' := (fun y => [(3, y), (2, jI v8), (0, jR G 127), (1, jI x1)])) dX12_rests_58 rfl (Nat.le_of_ble_eq_true rfl) (fun _ => rfl) (fun v9 hv9 => ?_)
      refine jw_goto (pc := 61) 29 dX12_rests_61 (by decide) ?_
      exact jw_few [2, 3, 1, 0] rfl (ih x1 v8 v9 hx1 hv8 hv9 M7)
    · refine jw_iconst (pc := 64) dX12_rests_64 ?_
      refine jw_istore_nL (pc := 65) (lv' := (fun y => [(3, y), (0, jR G 127), (1, jI x1), (2, jI x2)])) dX12_rests_65 (jw_rc _ rfl) (by decide) (fun _ => rfl) (fun v10 hv10 => ?_)
      refine jw_ldc (pc := 66) (n := (-1000000)) dX12_rests_66 jt_1386 (by decide) ?_
      refine jw_istoreL (pc := 68) (lv' := (fun y => [(4, y), (3, jI v10), (0, jR G 127), (1, jI x1), (2, jI x2)])) dX12_rests_68 (jw_rc _ rfl) (by decide) (fun _ => rfl) (fun v11 hv11 => ?_)
      refine jw_iconst (pc := 70) dX12_rests_70 ?_
      refine jw_istoreL (pc := 71) (lv' := (fun y => [(5, y), (4, jI v11), (3, jI v10), (0, jR G 127), (1, jI x1), (2, jI x2)])) dX12_rests_71 (jw_rc _ rfl) (by decide) (fun _ => rfl) (fun v12 hv12 => ?_)
      exact jw_few [3, 4, 5, 2, 1, 0] rfl (pX12_rests_73 G jw_fu x1 x2 v10 v11 v12 hx1 hx2 hv10 hv11 hv12 M)
def fX12_rests (a1 : Int) (M : jw_M) : Option (Int × jw_M) :=
  Option.bind (some (jw_up M 127 0 0)) (fun M1 => if a1 < (-1) then (some ((-9000000000000000001), M1)) else (if M1 127 7 = 0 then (some ((-9000000000000000002), M1)) else (Option.bind (some 1) (fun v3 => Option.bind (some 0) (fun v4 => fX12_rests_29 jw_fu a1 v3 v4 M1)))))
set_option maxRecDepth 100000 in
theorem rX12_rests (G : jw_G) (a1 : Int) (ha1 : jw_r a1) (M : jw_M) : jw_Rn G YX12_rests 6 0 0 true (fun q => q) 0 [(0, jR G 127), (1, jI a1)] [] M (fX12_rests a1 M) := by
  unfold fX12_rests
  refine jw_aloadR (pc := 0) 0 dX12_rests_0 rfl ?_
  refine jw_iconst (pc := 1) dX12_rests_1 ?_
  refine jw_putI (pc := 2) (j := 0) tyX12 rfl dX12_rests_2 jv_12 ji_12 tyX12_ok nmX12 (Or.inl jt_1231) rfl jg_127 jl_127 (by decide) (by decide) (jw_ho jg_127 (by decide)) rfl rfl (jw_rc _ rfl) rfl ?_
  refine jw_letM (fun M1 => ?_)
  refine jw_iload_n (pc := 5) 1 dX12_rests_5 rfl ?_
  refine jw_iconst (pc := 6) dX12_rests_6 ?_
  refine jw_ic_ge (pc := 7) 14 dX12_rests_7 (by decide) ha1 (jw_rc _ rfl) (fun _ => ?_) (fun _ => ?_)
  · refine jw_ldc2 (pc := 10) (n := (-9000000000000000001)) dX12_rests_10 jt_1349 (by decide) ?_
    exact jw_ret (pc := 13) (v := (-9000000000000000001)) dX12_rests_13 (jw_qc _ rfl) rfl rfl
  · refine jw_aloadR (pc := 14) 0 dX12_rests_14 rfl ?_
    refine jw_getI (pc := 15) (j := 7) rfl dX12_rests_15 jv_12 ji_12 (Or.inl jt_1238) jg_127 jl_127 (by decide) (by decide) (jw_ho jg_127 (by decide)) (Or.inr rfl) rfl (fun h2 => ?_)
    refine jw_if_ne (pc := 18) 25 dX12_rests_18 (by decide) h2 (fun _ => ?_) (fun _ => ?_)
    · refine jw_ldc2 (pc := 21) (n := (-9000000000000000002)) dX12_rests_21 jt_1513 (by decide) ?_
      exact jw_ret (pc := 24) (v := (-9000000000000000002)) dX12_rests_24 (jw_qc _ rfl) rfl rfl
    · refine jw_iconst (pc := 25) dX12_rests_25 ?_
      refine jw_istore_nL (pc := 26) (lv' := (fun y => [(2, y), (0, jR G 127), (1, jI a1)])) dX12_rests_26 (jw_rc _ rfl) (by decide) (fun _ => rfl) (fun v3 hv3 => ?_)
      refine jw_iconst (pc := 27) dX12_rests_27 ?_
      refine jw_istore_nL (pc := 28) (lv' := (fun y => [(3, y), (2, jI v3), (0, jR G 127), (1, jI a1)])) dX12_rests_28 (jw_rc _ rfl) (by decide) (fun _ => rfl) (fun v4 hv4 => ?_)
      exact jw_few [2, 3, 1, 0] rfl (pX12_rests_29 G jw_fu a1 v3 v4 ha1 hv3 hv4 M1)
theorem kX12_rests (G : jw_G) (a1 : Int) (ha1 : jw_r a1) (M : jw_M) : jw_Ct G YX12_rests (some .long) 6 0 0 true (fun q => q) yX12_rests [jR G 127, jI a1] M (fX12_rests a1 M) := jw_met (by decide) rfl rfl rfl (Nat.le_of_ble_eq_true rfl) (rX12_rests G a1 ha1 M)
abbrev YX12_savedBy : jw_Y := (RX12, cX12_savedBy, 3, 1, "savedBy")
theorem qX12_savedBy : jw_cy YX12_savedBy (some .int) yX12_savedBy 2 := ⟨by decide, jt_1629, jt_14, by decide, by decide +kernel⟩
theorem dX12_savedBy_0 : decode cX12_savedBy 0 = .ok (.aload_n 0, 1) := by decide +kernel
theorem dX12_savedBy_1 : decode cX12_savedBy 1 = .ok (.getfield 25, 3) := by decide +kernel
theorem dX12_savedBy_4 : decode cX12_savedBy 4 = .ok (.bipush 22, 2) := by decide +kernel
theorem dX12_savedBy_6 : decode cX12_savedBy 6 = .ok (.iconst 5, 1) := by decide +kernel
theorem dX12_savedBy_7 : decode cX12_savedBy 7 = .ok (.iload_n 1, 1) := by decide +kernel
theorem dX12_savedBy_8 : decode cX12_savedBy 8 = .ok (.imul, 1) := by decide +kernel
theorem dX12_savedBy_9 : decode cX12_savedBy 9 = .ok (.iadd, 1) := by decide +kernel
theorem dX12_savedBy_10 : decode cX12_savedBy 10 = .ok (.iload_n 2, 1) := by decide +kernel
theorem dX12_savedBy_11 : decode cX12_savedBy 11 = .ok (.iadd, 1) := by decide +kernel
theorem dX12_savedBy_12 : decode cX12_savedBy 12 = .ok (.iaload, 1) := by decide +kernel
theorem dX12_savedBy_13 : decode cX12_savedBy 13 = .ok (.ireturn, 1) := by decide +kernel
def fX12_savedBy (a1 : Int) (a2 : Int) (M : jw_M) : Option Int :=
  if 0 ≤ jw_w ((jw_w (22 + (jw_w (5 * a1)))) + a2) ∧ jw_w ((jw_w (22 + (jw_w (5 * a1)))) + a2) < 104 then some (M 133 (jw_w ((jw_w (22 + (jw_w (5 * a1)))) + a2))) else none
set_option maxRecDepth 100000 in
theorem rX12_savedBy (G : jw_G) (a1 : Int) (a2 : Int) (ha1 : jw_r a1) (ha2 : jw_r a2) (M : jw_M) : jw_Rn G YX12_savedBy 1 0 0 true (fun v => (v, M)) 0 [(0, jR G 127), (1, jI a1), (2, jI a2)] [] M (fX12_savedBy a1 a2 M) := by
  unfold fX12_savedBy
  refine jw_aloadR (pc := 0) 0 dX12_savedBy_0 rfl ?_
  refine jw_getR (pc := 1) (j := 8) rfl dX12_savedBy_1 jv_12 ji_12 (Or.inl jt_1239) jg_127 jl_127 (by decide) (by decide) rfl jf_12_8 ?_
  refine jw_bipush (pc := 4) dX12_savedBy_4 rfl ?_
  refine jw_iconst (pc := 6) dX12_savedBy_6 ?_
  refine jw_iload_n (pc := 7) 1 dX12_savedBy_7 rfl ?_
  refine jw_imul (pc := 8) dX12_savedBy_8 ?_
  refine jw_iadd (pc := 9) dX12_savedBy_9 ?_
  refine jw_iload_n (pc := 10) 2 dX12_savedBy_10 rfl ?_
  refine jw_iadd (pc := 11) dX12_savedBy_11 ?_
  refine jw_iald (pc := 12) dX12_savedBy_12 jg_133 jl_133 (jw_ho jg_133 (by decide)) (jw_wr _) rfl (fun h1 => ?_)
  exact jw_ret (pc := 13) (v := M 133 (jw_w ((jw_w (22 + (jw_w (5 * a1)))) + a2))) dX12_savedBy_13 h1 rfl rfl
theorem kX12_savedBy (G : jw_G) (a1 : Int) (a2 : Int) (ha1 : jw_r a1) (ha2 : jw_r a2) (M : jw_M) : jw_Ct G YX12_savedBy (some .int) 1 0 0 true (fun v => (v, M)) yX12_savedBy [jR G 127, jI a1, jI a2] M (fX12_savedBy a1 a2 M) := jw_met (by decide) rfl rfl rfl (Nat.le_of_ble_eq_true rfl) (rX12_savedBy G a1 a2 ha1 ha2 M)
abbrev YX12_saved : jw_Y := (RX12, cX12_saved, 3, 2, "saved")
theorem qX12_saved : jw_cy YX12_saved (some .long) yX12_saved 2 := ⟨by decide, jt_1625, jt_14, by decide, by decide +kernel⟩
theorem dX12_saved_0 : decode cX12_saved 0 = .ok (.aload_n 0, 1) := by decide +kernel
theorem dX12_saved_1 : decode cX12_saved 1 = .ok (.iconst 0, 1) := by decide +kernel
theorem dX12_saved_2 : decode cX12_saved 2 = .ok (.putfield 71, 3) := by decide +kernel
theorem dX12_saved_5 : decode cX12_saved 5 = .ok (.aload_n 0, 1) := by decide +kernel
theorem dX12_saved_6 : decode cX12_saved 6 = .ok (.iload_n 1, 1) := by decide +kernel
theorem dX12_saved_7 : decode cX12_saved 7 = .ok (.invokevirtual 237, 3) := by decide +kernel
theorem dX12_saved_10 : decode cX12_saved 10 = .ok (.ifCond .eq 21, 3) := by decide +kernel
theorem dX12_saved_13 : decode cX12_saved 13 = .ok (.aload_n 0, 1) := by decide +kernel
theorem dX12_saved_14 : decode cX12_saved 14 = .ok (.iload_n 2, 1) := by decide +kernel
theorem dX12_saved_15 : decode cX12_saved 15 = .ok (.invokevirtual 229, 3) := by decide +kernel
theorem dX12_saved_18 : decode cX12_saved 18 = .ok (.ifCond .eq 13, 3) := by decide +kernel
theorem dX12_saved_21 : decode cX12_saved 21 = .ok (.aload_n 0, 1) := by decide +kernel
theorem dX12_saved_22 : decode cX12_saved 22 = .ok (.iload_n 1, 1) := by decide +kernel
theorem dX12_saved_23 : decode cX12_saved 23 = .ok (.iload_n 2, 1) := by decide +kernel
theorem dX12_saved_24 : decode cX12_saved 24 = .ok (.invokevirtual 298, 3) := by decide +kernel
theorem dX12_saved_27 : decode cX12_saved 27 = .ok (.i2l, 1) := by decide +kernel
theorem dX12_saved_28 : decode cX12_saved 28 = .ok (.goto 6, 3) := by decide +kernel
theorem dX12_saved_31 : decode cX12_saved 31 = .ok (.ldc2_w 92, 3) := by decide +kernel
theorem dX12_saved_34 : decode cX12_saved 34 = .ok (.lreturn, 1) := by decide +kernel
def fX12_saved (a1 : Int) (a2 : Int) (M : jw_M) : Option (Int × jw_M) :=
  Option.bind (some (jw_up M 127 0 0)) (fun M1 => Option.bind (fX12_isWatcher a1 M1) (fun v2 => if v2 = 0 then (some ((-9000000000000000001), M1)) else (Option.bind (fX12_isSeller a2 M1) (fun v3 => if v3 = 0 then (some ((-9000000000000000001), M1)) else (Option.bind (fX12_savedBy a1 a2 M1) (fun v4 => some (v4, M1)))))))
set_option maxRecDepth 100000 in
theorem rX12_saved (G : jw_G) (a1 : Int) (a2 : Int) (ha1 : jw_r a1) (ha2 : jw_r a2) (M : jw_M) : jw_Rn G YX12_saved 3 0 0 true (fun q => q) 0 [(0, jR G 127), (1, jI a1), (2, jI a2)] [] M (fX12_saved a1 a2 M) := by
  unfold fX12_saved
  refine jw_aloadR (pc := 0) 0 dX12_saved_0 rfl ?_
  refine jw_iconst (pc := 1) dX12_saved_1 ?_
  refine jw_putI (pc := 2) (j := 0) tyX12 rfl dX12_saved_2 jv_12 ji_12 tyX12_ok nmX12 (Or.inl jt_1231) rfl jg_127 jl_127 (by decide) (by decide) (jw_ho jg_127 (by decide)) rfl rfl (jw_rc _ rfl) rfl ?_
  refine jw_letM (fun M1 => ?_)
  refine jw_aloadR (pc := 5) 0 dX12_saved_5 rfl ?_
  refine jw_iload_n (pc := 6) 1 dX12_saved_6 rfl ?_
  refine jw_callVz (pc := 7) (As := [jI a1]) (st := []) dX12_saved_7 rfl (Nat.le_of_ble_eq_true rfl) qX12_isWatcher jt_1504 jt_1506 jp_66 rfl rfl (Nat.le_of_ble_eq_true rfl) jv_12 rfl jg_127 jl_127 (by decide) (jw_ho jg_127 (by decide)) (kX12_isWatcher G a1 ha1 M1) (fun v2 hv2 => ?_)
  refine jw_if_eq (pc := 10) 31 dX12_saved_10 (by decide) (jw_bz hv2) (fun _ => ?_) (fun _ => ?_)
  · refine jw_ldc2 (pc := 31) (n := (-9000000000000000001)) dX12_saved_31 jt_1349 (by decide) ?_
    exact jw_ret (pc := 34) (v := (-9000000000000000001)) dX12_saved_34 (jw_qc _ rfl) rfl rfl
  · refine jw_aloadR (pc := 13) 0 dX12_saved_13 rfl ?_
    refine jw_iload_n (pc := 14) 2 dX12_saved_14 rfl ?_
    refine jw_callVz (pc := 15) (As := [jI a2]) (st := []) dX12_saved_15 rfl (Nat.le_of_ble_eq_true rfl) qX12_isSeller jt_1487 jt_1489 jp_64 rfl rfl (Nat.le_of_ble_eq_true rfl) jv_12 rfl jg_127 jl_127 (by decide) (jw_ho jg_127 (by decide)) (kX12_isSeller G a2 ha2 M1) (fun v3 hv3 => ?_)
    refine jw_if_eq (pc := 18) 31 dX12_saved_18 (by decide) (jw_bz hv3) (fun _ => ?_) (fun _ => ?_)
    · refine jw_ldc2 (pc := 31) (n := (-9000000000000000001)) dX12_saved_31 jt_1349 (by decide) ?_
      exact jw_ret (pc := 34) (v := (-9000000000000000001)) dX12_saved_34 (jw_qc _ rfl) rfl rfl
    · refine jw_aloadR (pc := 21) 0 dX12_saved_21 rfl ?_
      refine jw_iload_n (pc := 22) 1 dX12_saved_22 rfl ?_
      refine jw_iload_n (pc := 23) 2 dX12_saved_23 rfl ?_
      refine jw_callVi (pc := 24) (As := [jI a1, jI a2]) (st := []) dX12_saved_24 rfl (Nat.le_of_ble_eq_true rfl) qX12_savedBy jt_1626 jt_1628 jp_82 rfl rfl (Nat.le_of_ble_eq_true rfl) jv_12 rfl jg_127 jl_127 (by decide) (jw_ho jg_127 (by decide)) (kX12_savedBy G a1 a2 ha1 ha2 M1) (fun v4 hv4 => ?_)
      refine jw_i2lr (pc := 27) dX12_saved_27 hv4 ?_
      refine jw_goto (pc := 28) 34 dX12_saved_28 (by decide) ?_
      exact jw_ret (pc := 34) (v := v4) dX12_saved_34 (jw_rq hv4) rfl rfl
theorem kX12_saved (G : jw_G) (a1 : Int) (a2 : Int) (ha1 : jw_r a1) (ha2 : jw_r a2) (M : jw_M) : jw_Ct G YX12_saved (some .long) 3 0 0 true (fun q => q) yX12_saved [jR G 127, jI a1, jI a2] M (fX12_saved a1 a2 M) := jw_met (by decide) rfl rfl rfl (Nat.le_of_ble_eq_true rfl) (rX12_saved G a1 a2 ha1 ha2 M)
abbrev YX12_gainOf : jw_Y := (RX12, cX12_gainOf, 7, 2, "gainOf")
theorem qX12_gainOf : jw_cy YX12_gainOf (some .long) yX12_gainOf 3 := ⟨by decide, jt_1644, jt_14, by decide, by decide +kernel⟩
theorem dX12_gainOf_0 : decode cX12_gainOf 0 = .ok (.iload_n 2, 1) := by decide +kernel
theorem dX12_gainOf_1 : decode cX12_gainOf 1 = .ok (.ineg, 1) := by decide +kernel
theorem dX12_gainOf_2 : decode cX12_gainOf 2 = .ok (.i2l, 1) := by decide +kernel
theorem dX12_gainOf_3 : decode cX12_gainOf 3 = .ok (.lstore 4, 2) := by decide +kernel
theorem dX12_gainOf_5 : decode cX12_gainOf 5 = .ok (.iconst 0, 1) := by decide +kernel
theorem dX12_gainOf_6 : decode cX12_gainOf 6 = .ok (.istore 6, 2) := by decide +kernel
theorem dX12_gainOf_8 : decode cX12_gainOf 8 = .ok (.iload 6, 2) := by decide +kernel
theorem dX12_gainOf_10 : decode cX12_gainOf 10 = .ok (.aload_n 0, 1) := by decide +kernel
theorem dX12_gainOf_11 : decode cX12_gainOf 11 = .ok (.getfield 19, 3) := by decide +kernel
theorem dX12_gainOf_14 : decode cX12_gainOf 14 = .ok (.iconst 3, 1) := by decide +kernel
theorem dX12_gainOf_15 : decode cX12_gainOf 15 = .ok (.iaload, 1) := by decide +kernel
theorem dX12_gainOf_16 : decode cX12_gainOf 16 = .ok (.if_icmp .ge 36, 3) := by decide +kernel
theorem dX12_gainOf_19 : decode cX12_gainOf 19 = .ok (.lload 4, 2) := by decide +kernel
theorem dX12_gainOf_21 : decode cX12_gainOf 21 = .ok (.iload_n 3, 1) := by decide +kernel
theorem dX12_gainOf_22 : decode cX12_gainOf 22 = .ok (.iload 6, 2) := by decide +kernel
theorem dX12_gainOf_24 : decode cX12_gainOf 24 = .ok (.ishr, 1) := by decide +kernel
theorem dX12_gainOf_25 : decode cX12_gainOf 25 = .ok (.iconst 1, 1) := by decide +kernel
theorem dX12_gainOf_26 : decode cX12_gainOf 26 = .ok (.iand, 1) := by decide +kernel
theorem dX12_gainOf_27 : decode cX12_gainOf 27 = .ok (.iconst 1, 1) := by decide +kernel
theorem dX12_gainOf_28 : decode cX12_gainOf 28 = .ok (.if_icmp .ne 14, 3) := by decide +kernel
theorem dX12_gainOf_31 : decode cX12_gainOf 31 = .ok (.aload_n 0, 1) := by decide +kernel
theorem dX12_gainOf_32 : decode cX12_gainOf 32 = .ok (.iload_n 1, 1) := by decide +kernel
theorem dX12_gainOf_33 : decode cX12_gainOf 33 = .ok (.iload 6, 2) := by decide +kernel
theorem dX12_gainOf_35 : decode cX12_gainOf 35 = .ok (.invokevirtual 298, 3) := by decide +kernel
theorem dX12_gainOf_38 : decode cX12_gainOf 38 = .ok (.i2l, 1) := by decide +kernel
theorem dX12_gainOf_39 : decode cX12_gainOf 39 = .ok (.goto 4, 3) := by decide +kernel
theorem dX12_gainOf_42 : decode cX12_gainOf 42 = .ok (.lconst 0, 1) := by decide +kernel
theorem dX12_gainOf_43 : decode cX12_gainOf 43 = .ok (.ladd, 1) := by decide +kernel
theorem dX12_gainOf_44 : decode cX12_gainOf 44 = .ok (.lstore 4, 2) := by decide +kernel
theorem dX12_gainOf_46 : decode cX12_gainOf 46 = .ok (.iinc 6 1, 3) := by decide +kernel
theorem dX12_gainOf_49 : decode cX12_gainOf 49 = .ok (.goto (-41), 3) := by decide +kernel
theorem dX12_gainOf_52 : decode cX12_gainOf 52 = .ok (.lload 4, 2) := by decide +kernel
theorem dX12_gainOf_54 : decode cX12_gainOf 54 = .ok (.lconst 0, 1) := by decide +kernel
theorem dX12_gainOf_55 : decode cX12_gainOf 55 = .ok (.lcmp, 1) := by decide +kernel
theorem dX12_gainOf_56 : decode cX12_gainOf 56 = .ok (.ifCond .ge 7, 3) := by decide +kernel
theorem dX12_gainOf_59 : decode cX12_gainOf 59 = .ok (.lconst 0, 1) := by decide +kernel
theorem dX12_gainOf_60 : decode cX12_gainOf 60 = .ok (.goto 5, 3) := by decide +kernel
theorem dX12_gainOf_63 : decode cX12_gainOf 63 = .ok (.lload 4, 2) := by decide +kernel
theorem dX12_gainOf_65 : decode cX12_gainOf 65 = .ok (.lreturn, 1) := by decide +kernel
def fX12_gainOf_43 (M : jw_M) (r8 : Int → Int → Int → Int → Option Int) (x1 : Int) (x3 : Int) (x6 : Int) (xs0 : Int) (xs1 : Int) : Option Int :=
  Option.bind (some (jw_v (xs1 + xs0))) (fun v5 => Option.bind (some (jw_w (x6 + 1))) (fun v6 => r8 x1 x3 v5 v6))
set_option maxRecDepth 100000 in
theorem pX12_gainOf_43 (G : jw_G) (M : jw_M) (r8 : Int → Int → Int → Int → Option Int) (hr8 : ∀ (x1 : Int) (x3 : Int) (x4 : Int) (x6 : Int) (hx1 : jw_r x1) (hx3 : jw_r x3) (hx4 : jw_q x4) (hx6 : jw_r x6), jw_Rn G YX12_gainOf 2 0 0 true (fun v => (v, M)) 8 [(0, jR G 127), (1, jI x1), (3, jI x3), (4, jL x4), (6, jI x6)] [] M (r8 x1 x3 x4 x6)) : ∀ (x1 : Int) (x3 : Int) (x6 : Int) (xs0 : Int) (xs1 : Int) (hx1 : jw_r x1) (hx3 : jw_r x3) (hx6 : jw_r x6) (hxs0 : jw_q xs0) (hxs1 : jw_q xs1), jw_Rn G YX12_gainOf 2 0 0 true (fun v => (v, M)) 43 [(0, jR G 127), (1, jI x1), (3, jI x3), (6, jI x6)] [jL xs0, jL xs1] M (fX12_gainOf_43 M r8 x1 x3 x6 xs0 xs1) := by
  intro x1 x3 x6 xs0 xs1 hx1 hx3 hx6 hxs0 hxs1
  unfold fX12_gainOf_43
  refine jw_ladd (pc := 43) dX12_gainOf_43 ?_
  refine jw_lstoreL (pc := 44) (lv' := (fun y => [(4, y), (0, jR G 127), (1, jI x1), (3, jI x3), (6, jI x6)])) dX12_gainOf_44 (jw_vr _) (by decide) (fun _ => rfl) (fun v5 hv5 => ?_)
  refine jw_iincL (pc := 46) 4 (lv' := (fun y => [(6, y), (4, jL v5), (0, jR G 127), (1, jI x1), (3, jI x3)])) dX12_gainOf_46 rfl (Nat.le_of_ble_eq_true rfl) (fun _ => rfl) (fun v6 hv6 => ?_)
  refine jw_goto (pc := 49) 8 dX12_gainOf_49 (by decide) ?_
  exact jw_few [2, 3, 4, 1, 0] rfl (hr8 x1 x3 v5 v6 hx1 hx3 hv5 hv6)
def fX12_gainOf_8 (M : jw_M) : Nat → Int → Int → Int → Int → Option Int
  | 0, _, _, _, _ => none
  | k + 1, x1, x3, x4, x6 => if 0 ≤ (3 : Int) ∧ (3 : Int) < 104 then if x6 < M 131 3 then (if jw_iand (jw_ishr x3 x6) 1 = 1 then (Option.bind (fX12_savedBy x1 x6 M) (fun v4 => fX12_gainOf_43 M (fX12_gainOf_8 M k) x1 x3 x6 v4 x4)) else (fX12_gainOf_43 M (fX12_gainOf_8 M k) x1 x3 x6 0 x4)) else (if jw_cmp x4 0 < 0 then (some 0) else (some x4)) else none
set_option maxRecDepth 100000 in
theorem pX12_gainOf_8 (G : jw_G) (M : jw_M) : ∀ (k : Nat) (x1 : Int) (x3 : Int) (x4 : Int) (x6 : Int) (hx1 : jw_r x1) (hx3 : jw_r x3) (hx4 : jw_q x4) (hx6 : jw_r x6), jw_Rn G YX12_gainOf 2 0 0 true (fun v => (v, M)) 8 [(0, jR G 127), (1, jI x1), (3, jI x3), (4, jL x4), (6, jI x6)] [] M (fX12_gainOf_8 M k x1 x3 x4 x6) := by
  intro k
  induction k with
  | zero =>
    intro x1 x3 x4 x6 hx1 hx3 hx4 hx6
    exact jw_none
  | succ k ih =>
    intro x1 x3 x4 x6 hx1 hx3 hx4 hx6
    rw [fX12_gainOf_8]
    refine jw_iload (pc := 8) 4 dX12_gainOf_8 rfl ?_
    refine jw_aloadR (pc := 10) 0 dX12_gainOf_10 rfl ?_
    refine jw_getR (pc := 11) (j := 5) rfl dX12_gainOf_11 jv_12 ji_12 (Or.inl jt_1236) jg_127 jl_127 (by decide) (by decide) rfl jf_12_5 ?_
    refine jw_iconst (pc := 14) dX12_gainOf_14 ?_
    refine jw_iald (pc := 15) dX12_gainOf_15 jg_131 jl_131 (jw_ho jg_131 (by decide)) (jw_rc _ rfl) rfl (fun h3 => ?_)
    refine jw_ic_ge (pc := 16) 52 dX12_gainOf_16 (by decide) hx6 h3 (fun _ => ?_) (fun _ => ?_)
    · refine jw_lload (pc := 19) 3 dX12_gainOf_19 rfl ?_
      refine jw_iload_n (pc := 21) 2 dX12_gainOf_21 rfl ?_
      refine jw_iload (pc := 22) 4 dX12_gainOf_22 rfl ?_
      refine jw_ishrr (pc := 24) dX12_gainOf_24 ?_
      refine jw_iconst (pc := 25) dX12_gainOf_25 ?_
      refine jw_iandr (pc := 26) dX12_gainOf_26 ?_
      refine jw_iconst (pc := 27) dX12_gainOf_27 ?_
      refine jw_ic_ne (pc := 28) 42 dX12_gainOf_28 (by decide) (jw_rI _) (jw_rc _ rfl) (fun _ => ?_) (fun _ => ?_)
      · refine jw_aloadR (pc := 31) 0 dX12_gainOf_31 rfl ?_
        refine jw_iload_n (pc := 32) 1 dX12_gainOf_32 rfl ?_
        refine jw_iload (pc := 33) 4 dX12_gainOf_33 rfl ?_
        refine jw_callVi (pc := 35) (As := [jI x1, jI x6]) (st := [jL x4]) dX12_gainOf_35 rfl (Nat.le_of_ble_eq_true rfl) qX12_savedBy jt_1626 jt_1628 jp_82 rfl rfl (Nat.le_of_ble_eq_true rfl) jv_12 rfl jg_127 jl_127 (by decide) (jw_ho jg_127 (by decide)) (kX12_savedBy G x1 x6 hx1 hx6 M) (fun v4 hv4 => ?_)
        refine jw_i2lr (pc := 38) dX12_gainOf_38 hv4 ?_
        refine jw_goto (pc := 39) 43 dX12_gainOf_39 (by decide) ?_
        exact jw_few [0, 1, 2, 4] rfl (pX12_gainOf_43 G M (fX12_gainOf_8 M k) ih x1 x3 x6 v4 x4 hx1 hx3 hx6 (jw_rq hv4) hx4)
      · refine jw_lconst (pc := 42) (z := 0) dX12_gainOf_42 rfl ?_
        exact jw_few [0, 1, 2, 4] rfl (pX12_gainOf_43 G M (fX12_gainOf_8 M k) ih x1 x3 x6 0 x4 hx1 hx3 hx6 (jw_qc _ rfl) hx4)
    · refine jw_lload (pc := 52) 3 dX12_gainOf_52 rfl ?_
      refine jw_lconst (pc := 54) (z := 0) dX12_gainOf_54 rfl ?_
      refine jw_lcmp (pc := 55) dX12_gainOf_55 hx4 (jw_qc _ rfl) ?_
      refine jw_if_ge (pc := 56) 63 dX12_gainOf_56 (by decide) (jw_cmpr _ _) (fun _ => ?_) (fun _ => ?_)
      · refine jw_lconst (pc := 59) (z := 0) dX12_gainOf_59 rfl ?_
        refine jw_goto (pc := 60) 65 dX12_gainOf_60 (by decide) ?_
        exact jw_ret (pc := 65) (v := 0) dX12_gainOf_65 (jw_qc _ rfl) rfl rfl
      · refine jw_lload (pc := 63) 3 dX12_gainOf_63 rfl ?_
        exact jw_ret (pc := 65) (v := x4) dX12_gainOf_65 hx4 rfl rfl
def fX12_gainOf (a1 : Int) (a2 : Int) (a3 : Int) (M : jw_M) : Option Int :=
  Option.bind (some (jw_w (-a2))) (fun v1 => Option.bind (some 0) (fun v2 => fX12_gainOf_8 M jw_fu a1 a3 v1 v2))
set_option maxRecDepth 100000 in
theorem rX12_gainOf (G : jw_G) (a1 : Int) (a2 : Int) (a3 : Int) (ha1 : jw_r a1) (ha2 : jw_r a2) (ha3 : jw_r a3) (M : jw_M) : jw_Rn G YX12_gainOf 2 0 0 true (fun v => (v, M)) 0 [(0, jR G 127), (1, jI a1), (2, jI a2), (3, jI a3)] [] M (fX12_gainOf a1 a2 a3 M) := by
  unfold fX12_gainOf
  refine jw_iload_n (pc := 0) 2 dX12_gainOf_0 rfl ?_
  refine jw_ineg (pc := 1) dX12_gainOf_1 ?_
  refine jw_i2lr (pc := 2) dX12_gainOf_2 (jw_wr _) ?_
  refine jw_lstoreL (pc := 3) (lv' := (fun y => [(4, y), (0, jR G 127), (1, jI a1), (2, jI a2), (3, jI a3)])) dX12_gainOf_3 (jw_rq (jw_wr _)) (by decide) (fun _ => rfl) (fun v1 hv1 => ?_)
  refine jw_iconst (pc := 5) dX12_gainOf_5 ?_
  refine jw_istoreL (pc := 6) (lv' := (fun y => [(6, y), (4, jL v1), (0, jR G 127), (1, jI a1), (2, jI a2), (3, jI a3)])) dX12_gainOf_6 (jw_rc _ rfl) (by decide) (fun _ => rfl) (fun v2 hv2 => ?_)
  exact jw_few [2, 3, 5, 1, 0] rfl (pX12_gainOf_8 G M jw_fu a1 a3 v1 v2 ha1 ha3 hv1 hv2)
theorem kX12_gainOf (G : jw_G) (a1 : Int) (a2 : Int) (a3 : Int) (ha1 : jw_r a1) (ha2 : jw_r a2) (ha3 : jw_r a3) (M : jw_M) : jw_Ct G YX12_gainOf (some .long) 2 0 0 true (fun v => (v, M)) yX12_gainOf [jR G 127, jI a1, jI a2, jI a3] M (fX12_gainOf a1 a2 a3 M) := jw_met (by decide) rfl rfl rfl (Nat.le_of_ble_eq_true rfl) (rX12_gainOf G a1 a2 a3 ha1 ha2 ha3 M)
abbrev YX12_bits : jw_Y := (RX12, cX12_bits, 3, 1, "bits")
theorem qX12_bits : jw_cy YX12_bits (some .int) yX12_bits 1 := ⟨by decide, jt_1637, jt_14, by decide, by decide +kernel⟩
theorem dX12_bits_0 : decode cX12_bits 0 = .ok (.iconst 0, 1) := by decide +kernel
theorem dX12_bits_1 : decode cX12_bits 1 = .ok (.istore_n 1, 1) := by decide +kernel
theorem dX12_bits_2 : decode cX12_bits 2 = .ok (.iload_n 0, 1) := by decide +kernel
theorem dX12_bits_3 : decode cX12_bits 3 = .ok (.istore_n 2, 1) := by decide +kernel
theorem dX12_bits_4 : decode cX12_bits 4 = .ok (.iload_n 2, 1) := by decide +kernel
theorem dX12_bits_5 : decode cX12_bits 5 = .ok (.ifCond .eq 15, 3) := by decide +kernel
theorem dX12_bits_8 : decode cX12_bits 8 = .ok (.iinc 1 1, 3) := by decide +kernel
theorem dX12_bits_11 : decode cX12_bits 11 = .ok (.iload_n 2, 1) := by decide +kernel
theorem dX12_bits_12 : decode cX12_bits 12 = .ok (.iload_n 2, 1) := by decide +kernel
theorem dX12_bits_13 : decode cX12_bits 13 = .ok (.iconst 1, 1) := by decide +kernel
theorem dX12_bits_14 : decode cX12_bits 14 = .ok (.isub, 1) := by decide +kernel
theorem dX12_bits_15 : decode cX12_bits 15 = .ok (.iand, 1) := by decide +kernel
theorem dX12_bits_16 : decode cX12_bits 16 = .ok (.istore_n 2, 1) := by decide +kernel
theorem dX12_bits_17 : decode cX12_bits 17 = .ok (.goto (-13), 3) := by decide +kernel
theorem dX12_bits_20 : decode cX12_bits 20 = .ok (.iload_n 1, 1) := by decide +kernel
theorem dX12_bits_21 : decode cX12_bits 21 = .ok (.ireturn, 1) := by decide +kernel
def fX12_bits_4 (M : jw_M) : Nat → Int → Int → Option Int
  | 0, _, _ => none
  | k + 1, x1, x2 => if x2 = 0 then (some x1) else (Option.bind (some (jw_w (x1 + 1))) (fun v3 => Option.bind (some (jw_iand x2 (jw_w (x2 - 1)))) (fun v4 => fX12_bits_4 M k v3 v4)))
set_option maxRecDepth 100000 in
theorem pX12_bits_4 (G : jw_G) (M : jw_M) : ∀ (k : Nat) (x1 : Int) (x2 : Int) (hx1 : jw_r x1) (hx2 : jw_r x2), jw_Rn G YX12_bits 1 0 0 true (fun v => (v, M)) 4 [(1, jI x1), (2, jI x2)] [] M (fX12_bits_4 M k x1 x2) := by
  intro k
  induction k with
  | zero =>
    intro x1 x2 hx1 hx2
    exact jw_none
  | succ k ih =>
    intro x1 x2 hx1 hx2
    rw [fX12_bits_4]
    refine jw_iload_n (pc := 4) 1 dX12_bits_4 rfl ?_
    refine jw_if_eq (pc := 5) 20 dX12_bits_5 (by decide) hx2 (fun _ => ?_) (fun _ => ?_)
    · refine jw_iload_n (pc := 20) 0 dX12_bits_20 rfl ?_
      exact jw_ret (pc := 21) (v := x1) dX12_bits_21 hx1 rfl rfl
    · refine jw_iincL (pc := 8) 0 (lv' := (fun y => [(1, y), (2, jI x2)])) dX12_bits_8 rfl (Nat.le_of_ble_eq_true rfl) (fun _ => rfl) (fun v3 hv3 => ?_)
      refine jw_iload_n (pc := 11) 1 dX12_bits_11 rfl ?_
      refine jw_iload_n (pc := 12) 1 dX12_bits_12 rfl ?_
      refine jw_iconst (pc := 13) dX12_bits_13 ?_
      refine jw_isub (pc := 14) dX12_bits_14 ?_
      refine jw_iandr (pc := 15) dX12_bits_15 ?_
      refine jw_istore_nL (pc := 16) (lv' := (fun y => [(2, y), (1, jI v3)])) dX12_bits_16 (jw_rI _) (by decide) (fun _ => rfl) (fun v4 hv4 => ?_)
      refine jw_goto (pc := 17) 4 dX12_bits_17 (by decide) ?_
      exact jw_few [1, 0] rfl (ih v3 v4 hv3 hv4)
def fX12_bits (a1 : Int) (M : jw_M) : Option Int :=
  Option.bind (some 0) (fun v1 => Option.bind (some a1) (fun v2 => fX12_bits_4 M jw_fu v1 v2))
set_option maxRecDepth 100000 in
theorem rX12_bits (G : jw_G) (a1 : Int) (ha1 : jw_r a1) (M : jw_M) : jw_Rn G YX12_bits 1 0 0 true (fun v => (v, M)) 0 [(0, jI a1)] [] M (fX12_bits a1 M) := by
  unfold fX12_bits
  refine jw_iconst (pc := 0) dX12_bits_0 ?_
  refine jw_istore_nL (pc := 1) (lv' := (fun y => [(1, y), (0, jI a1)])) dX12_bits_1 (jw_rc _ rfl) (by decide) (fun _ => rfl) (fun v1 hv1 => ?_)
  refine jw_iload_n (pc := 2) 1 dX12_bits_2 rfl ?_
  refine jw_istore_nL (pc := 3) (lv' := (fun y => [(2, y), (1, jI v1), (0, jI a1)])) dX12_bits_3 ha1 (by decide) (fun _ => rfl) (fun v2 hv2 => ?_)
  exact jw_few [1, 0] rfl (pX12_bits_4 G M jw_fu v1 v2 hv1 hv2)
theorem kX12_bits (G : jw_G) (a1 : Int) (ha1 : jw_r a1) (M : jw_M) : jw_Ct G YX12_bits (some .int) 1 0 0 true (fun v => (v, M)) yX12_bits [jI a1] M (fX12_bits a1 M) := jw_met (by decide) rfl rfl rfl (Nat.le_of_ble_eq_true rfl) (rX12_bits G a1 ha1 M)
abbrev YX12_factorial : jw_Y := (RX12, cX12_factorial, 4, 2, "factorial")
theorem qX12_factorial : jw_cy YX12_factorial (some .long) yX12_factorial 1 := ⟨by decide, jt_1640, jt_14, by decide, by decide +kernel⟩
theorem dX12_factorial_0 : decode cX12_factorial 0 = .ok (.lconst 1, 1) := by decide +kernel
theorem dX12_factorial_1 : decode cX12_factorial 1 = .ok (.lstore_n 1, 1) := by decide +kernel
theorem dX12_factorial_2 : decode cX12_factorial 2 = .ok (.iconst 2, 1) := by decide +kernel
theorem dX12_factorial_3 : decode cX12_factorial 3 = .ok (.istore_n 3, 1) := by decide +kernel
theorem dX12_factorial_4 : decode cX12_factorial 4 = .ok (.iload_n 3, 1) := by decide +kernel
theorem dX12_factorial_5 : decode cX12_factorial 5 = .ok (.iload_n 0, 1) := by decide +kernel
theorem dX12_factorial_6 : decode cX12_factorial 6 = .ok (.if_icmp .gt 14, 3) := by decide +kernel
theorem dX12_factorial_9 : decode cX12_factorial 9 = .ok (.lload_n 1, 1) := by decide +kernel
theorem dX12_factorial_10 : decode cX12_factorial 10 = .ok (.iload_n 3, 1) := by decide +kernel
theorem dX12_factorial_11 : decode cX12_factorial 11 = .ok (.i2l, 1) := by decide +kernel
theorem dX12_factorial_12 : decode cX12_factorial 12 = .ok (.lmul, 1) := by decide +kernel
theorem dX12_factorial_13 : decode cX12_factorial 13 = .ok (.lstore_n 1, 1) := by decide +kernel
theorem dX12_factorial_14 : decode cX12_factorial 14 = .ok (.iinc 3 1, 3) := by decide +kernel
theorem dX12_factorial_17 : decode cX12_factorial 17 = .ok (.goto (-13), 3) := by decide +kernel
theorem dX12_factorial_20 : decode cX12_factorial 20 = .ok (.lload_n 1, 1) := by decide +kernel
theorem dX12_factorial_21 : decode cX12_factorial 21 = .ok (.lreturn, 1) := by decide +kernel
def fX12_factorial_4 (M : jw_M) : Nat → Int → Int → Int → Option Int
  | 0, _, _, _ => none
  | k + 1, x0, x1, x3 => if x0 < x3 then (some x1) else (Option.bind (some (jw_v (x1 * x3))) (fun v3 => Option.bind (some (jw_w (x3 + 1))) (fun v4 => fX12_factorial_4 M k x0 v3 v4)))
set_option maxRecDepth 100000 in
theorem pX12_factorial_4 (G : jw_G) (M : jw_M) : ∀ (k : Nat) (x0 : Int) (x1 : Int) (x3 : Int) (hx0 : jw_r x0) (hx1 : jw_q x1) (hx3 : jw_r x3), jw_Rn G YX12_factorial 1 0 0 true (fun v => (v, M)) 4 [(0, jI x0), (1, jL x1), (3, jI x3)] [] M (fX12_factorial_4 M k x0 x1 x3) := by
  intro k
  induction k with
  | zero =>
    intro x0 x1 x3 hx0 hx1 hx3
    exact jw_none
  | succ k ih =>
    intro x0 x1 x3 hx0 hx1 hx3
    rw [fX12_factorial_4]
    refine jw_iload_n (pc := 4) 2 dX12_factorial_4 rfl ?_
    refine jw_iload_n (pc := 5) 0 dX12_factorial_5 rfl ?_
    refine jw_ic_gt (pc := 6) 20 dX12_factorial_6 (by decide) hx3 hx0 (fun _ => ?_) (fun _ => ?_)
    · refine jw_lload_n (pc := 20) 1 dX12_factorial_20 rfl ?_
      exact jw_ret (pc := 21) (v := x1) dX12_factorial_21 hx1 rfl rfl
    · refine jw_lload_n (pc := 9) 1 dX12_factorial_9 rfl ?_
      refine jw_iload_n (pc := 10) 2 dX12_factorial_10 rfl ?_
      refine jw_i2lr (pc := 11) dX12_factorial_11 hx3 ?_
      refine jw_lmul (pc := 12) dX12_factorial_12 ?_
      refine jw_lstore_nL (pc := 13) (lv' := (fun y => [(1, y), (0, jI x0), (3, jI x3)])) dX12_factorial_13 (jw_vr _) (by decide) (fun _ => rfl) (fun v3 hv3 => ?_)
      refine jw_iincL (pc := 14) 2 (lv' := (fun y => [(3, y), (1, jL v3), (0, jI x0)])) dX12_factorial_14 rfl (Nat.le_of_ble_eq_true rfl) (fun _ => rfl) (fun v4 hv4 => ?_)
      refine jw_goto (pc := 17) 4 dX12_factorial_17 (by decide) ?_
      exact jw_few [2, 1, 0] rfl (ih x0 v3 v4 hx0 hv3 hv4)
def fX12_factorial (a1 : Int) (M : jw_M) : Option Int :=
  Option.bind (some 1) (fun v1 => Option.bind (some 2) (fun v2 => fX12_factorial_4 M jw_fu a1 v1 v2))
set_option maxRecDepth 100000 in
theorem rX12_factorial (G : jw_G) (a1 : Int) (ha1 : jw_r a1) (M : jw_M) : jw_Rn G YX12_factorial 1 0 0 true (fun v => (v, M)) 0 [(0, jI a1)] [] M (fX12_factorial a1 M) := by
  unfold fX12_factorial
  refine jw_lconst (pc := 0) (z := 1) dX12_factorial_0 rfl ?_
  refine jw_lstore_nL (pc := 1) (lv' := (fun y => [(1, y), (0, jI a1)])) dX12_factorial_1 (jw_qc _ rfl) (by decide) (fun _ => rfl) (fun v1 hv1 => ?_)
  refine jw_iconst (pc := 2) dX12_factorial_2 ?_
  refine jw_istore_nL (pc := 3) (lv' := (fun y => [(3, y), (1, jL v1), (0, jI a1)])) dX12_factorial_3 (jw_rc _ rfl) (by decide) (fun _ => rfl) (fun v2 hv2 => ?_)
  exact jw_few [2, 1, 0] rfl (pX12_factorial_4 G M jw_fu a1 v1 v2 ha1 hv1 hv2)
theorem kX12_factorial (G : jw_G) (a1 : Int) (ha1 : jw_r a1) (M : jw_M) : jw_Ct G YX12_factorial (some .long) 1 0 0 true (fun v => (v, M)) yX12_factorial [jI a1] M (fX12_factorial a1 M) := jw_met (by decide) rfl rfl rfl (Nat.le_of_ble_eq_true rfl) (rX12_factorial G a1 ha1 M)
abbrev YX12_pays : jw_Y := (RX12, cX12_pays, 10, 2, "pays")
theorem qX12_pays : jw_cy YX12_pays (some .long) yX12_pays 4 := ⟨by decide, jt_1633, jt_14, by decide, by decide +kernel⟩
theorem dX12_pays_0 : decode cX12_pays 0 = .ok (.aload_n 0, 1) := by decide +kernel
theorem dX12_pays_1 : decode cX12_pays 1 = .ok (.iconst 0, 1) := by decide +kernel
theorem dX12_pays_2 : decode cX12_pays 2 = .ok (.putfield 71, 3) := by decide +kernel
theorem dX12_pays_5 : decode cX12_pays 5 = .ok (.aload_n 0, 1) := by decide +kernel
theorem dX12_pays_6 : decode cX12_pays 6 = .ok (.iload_n 1, 1) := by decide +kernel
theorem dX12_pays_7 : decode cX12_pays 7 = .ok (.invokevirtual 237, 3) := by decide +kernel
theorem dX12_pays_10 : decode cX12_pays 10 = .ok (.ifCond .eq 34, 3) := by decide +kernel
theorem dX12_pays_13 : decode cX12_pays 13 = .ok (.iload_n 2, 1) := by decide +kernel
theorem dX12_pays_14 : decode cX12_pays 14 = .ok (.i2l, 1) := by decide +kernel
theorem dX12_pays_15 : decode cX12_pays 15 = .ok (.lconst 1, 1) := by decide +kernel
theorem dX12_pays_16 : decode cX12_pays 16 = .ok (.ldc2_w 301, 3) := by decide +kernel
theorem dX12_pays_19 : decode cX12_pays 19 = .ok (.invokestatic 82, 3) := by decide +kernel
theorem dX12_pays_22 : decode cX12_pays 22 = .ok (.ifCond .eq 22, 3) := by decide +kernel
theorem dX12_pays_25 : decode cX12_pays 25 = .ok (.aload_n 0, 1) := by decide +kernel
theorem dX12_pays_26 : decode cX12_pays 26 = .ok (.iload_n 3, 1) := by decide +kernel
theorem dX12_pays_27 : decode cX12_pays 27 = .ok (.invokevirtual 229, 3) := by decide +kernel
theorem dX12_pays_30 : decode cX12_pays 30 = .ok (.ifCond .eq 14, 3) := by decide +kernel
theorem dX12_pays_33 : decode cX12_pays 33 = .ok (.iload 4, 2) := by decide +kernel
theorem dX12_pays_35 : decode cX12_pays 35 = .ok (.i2l, 1) := by decide +kernel
theorem dX12_pays_36 : decode cX12_pays 36 = .ok (.lconst 0, 1) := by decide +kernel
theorem dX12_pays_37 : decode cX12_pays 37 = .ok (.lconst 1, 1) := by decide +kernel
theorem dX12_pays_38 : decode cX12_pays 38 = .ok (.invokestatic 82, 3) := by decide +kernel
theorem dX12_pays_41 : decode cX12_pays 41 = .ok (.ifCond .ne 7, 3) := by decide +kernel
theorem dX12_pays_44 : decode cX12_pays 44 = .ok (.ldc2_w 92, 3) := by decide +kernel
theorem dX12_pays_47 : decode cX12_pays 47 = .ok (.lreturn, 1) := by decide +kernel
theorem dX12_pays_48 : decode cX12_pays 48 = .ok (.aload_n 0, 1) := by decide +kernel
theorem dX12_pays_49 : decode cX12_pays 49 = .ok (.getfield 19, 3) := by decide +kernel
theorem dX12_pays_52 : decode cX12_pays 52 = .ok (.iconst 3, 1) := by decide +kernel
theorem dX12_pays_53 : decode cX12_pays 53 = .ok (.iaload, 1) := by decide +kernel
theorem dX12_pays_54 : decode cX12_pays 54 = .ok (.istore 5, 2) := by decide +kernel
theorem dX12_pays_56 : decode cX12_pays 56 = .ok (.lconst 0, 1) := by decide +kernel
theorem dX12_pays_57 : decode cX12_pays 57 = .ok (.lstore 6, 2) := by decide +kernel
theorem dX12_pays_59 : decode cX12_pays 59 = .ok (.iconst 0, 1) := by decide +kernel
theorem dX12_pays_60 : decode cX12_pays 60 = .ok (.istore 8, 2) := by decide +kernel
theorem dX12_pays_62 : decode cX12_pays 62 = .ok (.iload 8, 2) := by decide +kernel
theorem dX12_pays_64 : decode cX12_pays 64 = .ok (.iconst 1, 1) := by decide +kernel
theorem dX12_pays_65 : decode cX12_pays 65 = .ok (.iload 5, 2) := by decide +kernel
theorem dX12_pays_67 : decode cX12_pays 67 = .ok (.ishl, 1) := by decide +kernel
theorem dX12_pays_68 : decode cX12_pays 68 = .ok (.if_icmp .ge 68, 3) := by decide +kernel
theorem dX12_pays_71 : decode cX12_pays 71 = .ok (.iload 8, 2) := by decide +kernel
theorem dX12_pays_73 : decode cX12_pays 73 = .ok (.iload_n 3, 1) := by decide +kernel
theorem dX12_pays_74 : decode cX12_pays 74 = .ok (.ishr, 1) := by decide +kernel
theorem dX12_pays_75 : decode cX12_pays 75 = .ok (.iconst 1, 1) := by decide +kernel
theorem dX12_pays_76 : decode cX12_pays 76 = .ok (.iand, 1) := by decide +kernel
theorem dX12_pays_77 : decode cX12_pays 77 = .ok (.ifCond .ne 53, 3) := by decide +kernel
theorem dX12_pays_80 : decode cX12_pays 80 = .ok (.iload 8, 2) := by decide +kernel
theorem dX12_pays_82 : decode cX12_pays 82 = .ok (.invokestatic 303, 3) := by decide +kernel
theorem dX12_pays_85 : decode cX12_pays 85 = .ok (.istore 9, 2) := by decide +kernel
theorem dX12_pays_87 : decode cX12_pays 87 = .ok (.lload 6, 2) := by decide +kernel
theorem dX12_pays_89 : decode cX12_pays 89 = .ok (.iload 9, 2) := by decide +kernel
theorem dX12_pays_91 : decode cX12_pays 91 = .ok (.invokestatic 306, 3) := by decide +kernel
theorem dX12_pays_94 : decode cX12_pays 94 = .ok (.iload 5, 2) := by decide +kernel
theorem dX12_pays_96 : decode cX12_pays 96 = .ok (.iconst 1, 1) := by decide +kernel
theorem dX12_pays_97 : decode cX12_pays 97 = .ok (.isub, 1) := by decide +kernel
theorem dX12_pays_98 : decode cX12_pays 98 = .ok (.iload 9, 2) := by decide +kernel
theorem dX12_pays_100 : decode cX12_pays 100 = .ok (.isub, 1) := by decide +kernel
theorem dX12_pays_101 : decode cX12_pays 101 = .ok (.invokestatic 306, 3) := by decide +kernel
theorem dX12_pays_104 : decode cX12_pays 104 = .ok (.lmul, 1) := by decide +kernel
theorem dX12_pays_105 : decode cX12_pays 105 = .ok (.aload_n 0, 1) := by decide +kernel
theorem dX12_pays_106 : decode cX12_pays 106 = .ok (.iload_n 1, 1) := by decide +kernel
theorem dX12_pays_107 : decode cX12_pays 107 = .ok (.iload_n 2, 1) := by decide +kernel
theorem dX12_pays_108 : decode cX12_pays 108 = .ok (.iload 8, 2) := by decide +kernel
theorem dX12_pays_110 : decode cX12_pays 110 = .ok (.iconst 1, 1) := by decide +kernel
theorem dX12_pays_111 : decode cX12_pays 111 = .ok (.iload_n 3, 1) := by decide +kernel
theorem dX12_pays_112 : decode cX12_pays 112 = .ok (.ishl, 1) := by decide +kernel
theorem dX12_pays_113 : decode cX12_pays 113 = .ok (.ior, 1) := by decide +kernel
theorem dX12_pays_114 : decode cX12_pays 114 = .ok (.invokevirtual 309, 3) := by decide +kernel
theorem dX12_pays_117 : decode cX12_pays 117 = .ok (.aload_n 0, 1) := by decide +kernel
theorem dX12_pays_118 : decode cX12_pays 118 = .ok (.iload_n 1, 1) := by decide +kernel
theorem dX12_pays_119 : decode cX12_pays 119 = .ok (.iload_n 2, 1) := by decide +kernel
theorem dX12_pays_120 : decode cX12_pays 120 = .ok (.iload 8, 2) := by decide +kernel
theorem dX12_pays_122 : decode cX12_pays 122 = .ok (.invokevirtual 309, 3) := by decide +kernel
theorem dX12_pays_125 : decode cX12_pays 125 = .ok (.lsub, 1) := by decide +kernel
theorem dX12_pays_126 : decode cX12_pays 126 = .ok (.lmul, 1) := by decide +kernel
theorem dX12_pays_127 : decode cX12_pays 127 = .ok (.ladd, 1) := by decide +kernel
theorem dX12_pays_128 : decode cX12_pays 128 = .ok (.lstore 6, 2) := by decide +kernel
theorem dX12_pays_130 : decode cX12_pays 130 = .ok (.iinc 8 1, 3) := by decide +kernel
theorem dX12_pays_133 : decode cX12_pays 133 = .ok (.goto (-71), 3) := by decide +kernel
theorem dX12_pays_136 : decode cX12_pays 136 = .ok (.aload_n 0, 1) := by decide +kernel
theorem dX12_pays_137 : decode cX12_pays 137 = .ok (.iload_n 1, 1) := by decide +kernel
theorem dX12_pays_138 : decode cX12_pays 138 = .ok (.iload_n 3, 1) := by decide +kernel
theorem dX12_pays_139 : decode cX12_pays 139 = .ok (.invokevirtual 298, 3) := by decide +kernel
theorem dX12_pays_142 : decode cX12_pays 142 = .ok (.i2l, 1) := by decide +kernel
theorem dX12_pays_143 : decode cX12_pays 143 = .ok (.iload 5, 2) := by decide +kernel
theorem dX12_pays_145 : decode cX12_pays 145 = .ok (.invokestatic 306, 3) := by decide +kernel
theorem dX12_pays_148 : decode cX12_pays 148 = .ok (.lmul, 1) := by decide +kernel
theorem dX12_pays_149 : decode cX12_pays 149 = .ok (.lload 6, 2) := by decide +kernel
theorem dX12_pays_151 : decode cX12_pays 151 = .ok (.lsub, 1) := by decide +kernel
theorem dX12_pays_152 : decode cX12_pays 152 = .ok (.iload 5, 2) := by decide +kernel
theorem dX12_pays_154 : decode cX12_pays 154 = .ok (.invokestatic 306, 3) := by decide +kernel
theorem dX12_pays_157 : decode cX12_pays 157 = .ok (.iload 4, 2) := by decide +kernel
theorem dX12_pays_159 : decode cX12_pays 159 = .ok (.invokestatic 277, 3) := by decide +kernel
theorem dX12_pays_162 : decode cX12_pays 162 = .ok (.lreturn, 1) := by decide +kernel
def fX12_pays_130 (r62 : Int → Int → Int → Int → Int → Int → Int → jw_M → Option (Int × jw_M)) (x1 : Int) (x2 : Int) (x3 : Int) (x4 : Int) (x5 : Int) (x6 : Int) (x8 : Int) (M : jw_M) : Option (Int × jw_M) :=
  Option.bind (some (jw_w (x8 + 1))) (fun v17 => r62 x1 x2 x3 x4 x5 x6 v17 M)
set_option maxRecDepth 100000 in
theorem pX12_pays_130 (G : jw_G) (r62 : Int → Int → Int → Int → Int → Int → Int → jw_M → Option (Int × jw_M)) (hr62 : ∀ (x1 : Int) (x2 : Int) (x3 : Int) (x4 : Int) (x5 : Int) (x6 : Int) (x8 : Int) (hx1 : jw_r x1) (hx2 : jw_r x2) (hx3 : jw_r x3) (hx4 : jw_r x4) (hx5 : jw_r x5) (hx6 : jw_q x6) (hx8 : jw_r x8) (M : jw_M), jw_Rn G YX12_pays 3 0 0 true (fun q => q) 62 [(0, jR G 127), (1, jI x1), (2, jI x2), (3, jI x3), (4, jI x4), (5, jI x5), (6, jL x6), (8, jI x8)] [] M (r62 x1 x2 x3 x4 x5 x6 x8 M)) : ∀ (x1 : Int) (x2 : Int) (x3 : Int) (x4 : Int) (x5 : Int) (x6 : Int) (x8 : Int) (hx1 : jw_r x1) (hx2 : jw_r x2) (hx3 : jw_r x3) (hx4 : jw_r x4) (hx5 : jw_r x5) (hx6 : jw_q x6) (hx8 : jw_r x8) (M : jw_M), jw_Rn G YX12_pays 3 0 0 true (fun q => q) 130 [(0, jR G 127), (1, jI x1), (2, jI x2), (3, jI x3), (4, jI x4), (5, jI x5), (6, jL x6), (8, jI x8)] [] M (fX12_pays_130 r62 x1 x2 x3 x4 x5 x6 x8 M) := by
  intro x1 x2 x3 x4 x5 x6 x8 hx1 hx2 hx3 hx4 hx5 hx6 hx8 M
  unfold fX12_pays_130
  refine jw_iincL (pc := 130) 7 (lv' := (fun y => [(8, y), (0, jR G 127), (1, jI x1), (2, jI x2), (3, jI x3), (4, jI x4), (5, jI x5), (6, jL x6)])) dX12_pays_130 rfl (Nat.le_of_ble_eq_true rfl) (fun _ => rfl) (fun v17 hv17 => ?_)
  refine jw_goto (pc := 133) 62 dX12_pays_133 (by decide) ?_
  exact jw_few [1, 2, 3, 4, 5, 6, 7, 0] rfl (hr62 x1 x2 x3 x4 x5 x6 v17 hx1 hx2 hx3 hx4 hx5 hx6 hv17 M)
def fX12_pays_62 : Nat → Int → Int → Int → Int → Int → Int → Int → jw_M → Option (Int × jw_M)
  | 0, _, _, _, _, _, _, _, _ => none
  | k + 1, x1, x2, x3, x4, x5, x6, x8, M => if x8 < jw_ishl 1 x5 then (if jw_iand (jw_ishr x8 x3) 1 = 0 then (Option.bind (fX12_bits x8 M) (fun v10 => Option.bind (some v10) (fun v11 => Option.bind (fX12_factorial v11 M) (fun v12 => Option.bind (fX12_factorial (jw_w ((jw_w (x5 - 1)) - v11)) M) (fun v13 => Option.bind (fX12_gainOf x1 x2 (jw_ior x8 (jw_ishl 1 x3)) M) (fun v14 => Option.bind (fX12_gainOf x1 x2 x8 M) (fun v15 => Option.bind (some (jw_v (x6 + (jw_v ((jw_v (v12 * v13)) * (jw_v (v14 - v15))))))) (fun v16 => fX12_pays_130 (fX12_pays_62 k) x1 x2 x3 x4 x5 v16 x8 M)))))))) else (fX12_pays_130 (fX12_pays_62 k) x1 x2 x3 x4 x5 x6 x8 M)) else (Option.bind (fX12_savedBy x1 x3 M) (fun v18 => Option.bind (fX12_factorial x5 M) (fun v19 => Option.bind (fX12_factorial x5 M) (fun v20 => Option.bind (fX12_partOf (jw_v ((jw_v (v18 * v19)) - x6)) v20 x4 M) (fun v21 => some (v21, M))))))
set_option maxRecDepth 100000 in
theorem pX12_pays_62 (G : jw_G) : ∀ (k : Nat) (x1 : Int) (x2 : Int) (x3 : Int) (x4 : Int) (x5 : Int) (x6 : Int) (x8 : Int) (hx1 : jw_r x1) (hx2 : jw_r x2) (hx3 : jw_r x3) (hx4 : jw_r x4) (hx5 : jw_r x5) (hx6 : jw_q x6) (hx8 : jw_r x8) (M : jw_M), jw_Rn G YX12_pays 3 0 0 true (fun q => q) 62 [(0, jR G 127), (1, jI x1), (2, jI x2), (3, jI x3), (4, jI x4), (5, jI x5), (6, jL x6), (8, jI x8)] [] M (fX12_pays_62 k x1 x2 x3 x4 x5 x6 x8 M) := by
  intro k
  induction k with
  | zero =>
    intro x1 x2 x3 x4 x5 x6 x8 hx1 hx2 hx3 hx4 hx5 hx6 hx8 M
    exact jw_none
  | succ k ih =>
    intro x1 x2 x3 x4 x5 x6 x8 hx1 hx2 hx3 hx4 hx5 hx6 hx8 M
    rw [fX12_pays_62]
    refine jw_iload (pc := 62) 7 dX12_pays_62 rfl ?_
    refine jw_iconst (pc := 64) dX12_pays_64 ?_
    refine jw_iload (pc := 65) 5 dX12_pays_65 rfl ?_
    refine jw_ishlr (pc := 67) dX12_pays_67 ?_
    refine jw_ic_ge (pc := 68) 136 dX12_pays_68 (by decide) hx8 (jw_rI _) (fun _ => ?_) (fun _ => ?_)
    · refine jw_iload (pc := 71) 7 dX12_pays_71 rfl ?_
      refine jw_iload_n (pc := 73) 3 dX12_pays_73 rfl ?_
      refine jw_ishrr (pc := 74) dX12_pays_74 ?_
      refine jw_iconst (pc := 75) dX12_pays_75 ?_
      refine jw_iandr (pc := 76) dX12_pays_76 ?_
      refine jw_if_ne (pc := 77) 130 dX12_pays_77 (by decide) (jw_rI _) (fun _ => ?_) (fun _ => ?_)
      · refine jw_iload (pc := 80) 7 dX12_pays_80 rfl ?_
        refine jw_callSi (pc := 82) (As := [jI x8]) (st := []) dX12_pays_82 rfl (Nat.le_of_ble_eq_true rfl) qX12_bits jt_1635 jt_1636 rfl rfl (Nat.le_of_ble_eq_true rfl) (kX12_bits G x8 hx8 M) (fun v10 hv10 => ?_)
        refine jw_istoreL (pc := 85) (lv' := (fun y => [(9, y), (0, jR G 127), (1, jI x1), (2, jI x2), (3, jI x3), (4, jI x4), (5, jI x5), (6, jL x6), (8, jI x8)])) dX12_pays_85 hv10 (by decide) (fun _ => rfl) (fun v11 hv11 => ?_)
        refine jw_lload (pc := 87) 7 dX12_pays_87 rfl ?_
        refine jw_iload (pc := 89) 0 dX12_pays_89 rfl ?_
        refine jw_callSl (pc := 91) (As := [jI v11]) (st := [jL x6]) dX12_pays_91 rfl (Nat.le_of_ble_eq_true rfl) qX12_factorial jt_1638 jt_1639 rfl rfl (Nat.le_of_ble_eq_true rfl) (kX12_factorial G v11 hv11 M) (fun v12 hv12 => ?_)
        refine jw_iload (pc := 94) 6 dX12_pays_94 rfl ?_
        refine jw_iconst (pc := 96) dX12_pays_96 ?_
        refine jw_isub (pc := 97) dX12_pays_97 ?_
        refine jw_iload (pc := 98) 0 dX12_pays_98 rfl ?_
        refine jw_isub (pc := 100) dX12_pays_100 ?_
        refine jw_callSl (pc := 101) (As := [jI (jw_w ((jw_w (x5 - 1)) - v11))]) (st := [jL v12, jL x6]) dX12_pays_101 rfl (Nat.le_of_ble_eq_true rfl) qX12_factorial jt_1638 jt_1639 rfl rfl (Nat.le_of_ble_eq_true rfl) (kX12_factorial G (jw_w ((jw_w (x5 - 1)) - v11)) (jw_wr _) M) (fun v13 hv13 => ?_)
        refine jw_lmul (pc := 104) dX12_pays_104 ?_
        refine jw_aloadR (pc := 105) 1 dX12_pays_105 rfl ?_
        refine jw_iload_n (pc := 106) 2 dX12_pays_106 rfl ?_
        refine jw_iload_n (pc := 107) 3 dX12_pays_107 rfl ?_
        refine jw_iload (pc := 108) 8 dX12_pays_108 rfl ?_
        refine jw_iconst (pc := 110) dX12_pays_110 ?_
        refine jw_iload_n (pc := 111) 4 dX12_pays_111 rfl ?_
        refine jw_ishlr (pc := 112) dX12_pays_112 ?_
        refine jw_iorr (pc := 113) dX12_pays_113 ?_
        refine jw_callVl (pc := 114) (As := [jI x1, jI x2, jI (jw_ior x8 (jw_ishl 1 x3))]) (st := [jL (jw_v (v12 * v13)), jL x6]) dX12_pays_114 rfl (Nat.le_of_ble_eq_true rfl) qX12_gainOf jt_1641 jt_1643 jp_83 rfl rfl (Nat.le_of_ble_eq_true rfl) jv_12 rfl jg_127 jl_127 (by decide) (jw_ho jg_127 (by decide)) (kX12_gainOf G x1 x2 (jw_ior x8 (jw_ishl 1 x3)) hx1 hx2 (jw_rI _) M) (fun v14 hv14 => ?_)
        refine jw_aloadR (pc := 117) 1 dX12_pays_117 rfl ?_
        refine jw_iload_n (pc := 118) 2 dX12_pays_118 rfl ?_
        refine jw_iload_n (pc := 119) 3 dX12_pays_119 rfl ?_
        refine jw_iload (pc := 120) 8 dX12_pays_120 rfl ?_
        refine jw_callVl (pc := 122) (As := [jI x1, jI x2, jI x8]) (st := [jL v14, jL (jw_v (v12 * v13)), jL x6]) dX12_pays_122 rfl (Nat.le_of_ble_eq_true rfl) qX12_gainOf jt_1641 jt_1643 jp_83 rfl rfl (Nat.le_of_ble_eq_true rfl) jv_12 rfl jg_127 jl_127 (by decide) (jw_ho jg_127 (by decide)) (kX12_gainOf G x1 x2 x8 hx1 hx2 hx8 M) (fun v15 hv15 => ?_)
        refine jw_lsub (pc := 125) dX12_pays_125 ?_
        refine jw_lmul (pc := 126) dX12_pays_126 ?_
        refine jw_ladd (pc := 127) dX12_pays_127 ?_
        refine jw_lstoreL (pc := 128) (lv' := (fun y => [(6, y), (9, jI v11), (0, jR G 127), (1, jI x1), (2, jI x2), (3, jI x3), (4, jI x4), (5, jI x5), (8, jI x8)])) dX12_pays_128 (jw_vr _) (by decide) (fun _ => rfl) (fun v16 hv16 => ?_)
        exact jw_few [2, 3, 4, 5, 6, 7, 0, 8] rfl (pX12_pays_130 G (fX12_pays_62 k) ih x1 x2 x3 x4 x5 v16 x8 hx1 hx2 hx3 hx4 hx5 hv16 hx8 M)
      · exact jw_few [0, 1, 2, 3, 4, 5, 6, 7] rfl (pX12_pays_130 G (fX12_pays_62 k) ih x1 x2 x3 x4 x5 x6 x8 hx1 hx2 hx3 hx4 hx5 hx6 hx8 M)
    · refine jw_aloadR (pc := 136) 0 dX12_pays_136 rfl ?_
      refine jw_iload_n (pc := 137) 1 dX12_pays_137 rfl ?_
      refine jw_iload_n (pc := 138) 3 dX12_pays_138 rfl ?_
      refine jw_callVi (pc := 139) (As := [jI x1, jI x3]) (st := []) dX12_pays_139 rfl (Nat.le_of_ble_eq_true rfl) qX12_savedBy jt_1626 jt_1628 jp_82 rfl rfl (Nat.le_of_ble_eq_true rfl) jv_12 rfl jg_127 jl_127 (by decide) (jw_ho jg_127 (by decide)) (kX12_savedBy G x1 x3 hx1 hx3 M) (fun v18 hv18 => ?_)
      refine jw_i2lr (pc := 142) dX12_pays_142 hv18 ?_
      refine jw_iload (pc := 143) 5 dX12_pays_143 rfl ?_
      refine jw_callSl (pc := 145) (As := [jI x5]) (st := [jL v18]) dX12_pays_145 rfl (Nat.le_of_ble_eq_true rfl) qX12_factorial jt_1638 jt_1639 rfl rfl (Nat.le_of_ble_eq_true rfl) (kX12_factorial G x5 hx5 M) (fun v19 hv19 => ?_)
      refine jw_lmul (pc := 148) dX12_pays_148 ?_
      refine jw_lload (pc := 149) 6 dX12_pays_149 rfl ?_
      refine jw_lsub (pc := 151) dX12_pays_151 ?_
      refine jw_iload (pc := 152) 5 dX12_pays_152 rfl ?_
      refine jw_callSl (pc := 154) (As := [jI x5]) (st := [jL (jw_v ((jw_v (v18 * v19)) - x6))]) dX12_pays_154 rfl (Nat.le_of_ble_eq_true rfl) qX12_factorial jt_1638 jt_1639 rfl rfl (Nat.le_of_ble_eq_true rfl) (kX12_factorial G x5 hx5 M) (fun v20 hv20 => ?_)
      refine jw_iload (pc := 157) 4 dX12_pays_157 rfl ?_
      refine jw_callSl (pc := 159) (As := [jL (jw_v ((jw_v (v18 * v19)) - x6)), jL v20, jI x4]) (st := []) dX12_pays_159 rfl (Nat.le_of_ble_eq_true rfl) qX12_partOf jt_1575 jt_1576 rfl rfl (Nat.le_of_ble_eq_true rfl) (kX12_partOf G (jw_v ((jw_v (v18 * v19)) - x6)) v20 x4 (jw_vr _) hv20 hx4 M) (fun v21 hv21 => ?_)
      exact jw_ret (pc := 162) (v := v21) dX12_pays_162 hv21 rfl rfl
def fX12_pays (a1 : Int) (a2 : Int) (a3 : Int) (a4 : Int) (M : jw_M) : Option (Int × jw_M) :=
  Option.bind (some (jw_up M 127 0 0)) (fun M1 => Option.bind (fX12_isWatcher a1 M1) (fun v2 => if v2 = 0 then (some ((-9000000000000000001), M1)) else (Option.bind (fX12_in a2 1 9999 M1) (fun v3 => if v3 = 0 then (some ((-9000000000000000001), M1)) else (Option.bind (fX12_isSeller a3 M1) (fun v4 => if v4 = 0 then (some ((-9000000000000000001), M1)) else (Option.bind (fX12_in a4 0 1 M1) (fun v5 => if v5 = 0 then (some ((-9000000000000000001), M1)) else (if 0 ≤ (3 : Int) ∧ (3 : Int) < 104 then Option.bind (some (M1 131 3)) (fun v7 => Option.bind (some 0) (fun v8 => Option.bind (some 0) (fun v9 => fX12_pays_62 jw_fu a1 a2 a3 a4 v7 v8 v9 M1))) else none)))))))))
set_option maxRecDepth 100000 in
theorem rX12_pays (G : jw_G) (a1 : Int) (a2 : Int) (a3 : Int) (a4 : Int) (ha1 : jw_r a1) (ha2 : jw_r a2) (ha3 : jw_r a3) (ha4 : jw_r a4) (M : jw_M) : jw_Rn G YX12_pays 3 0 0 true (fun q => q) 0 [(0, jR G 127), (1, jI a1), (2, jI a2), (3, jI a3), (4, jI a4)] [] M (fX12_pays a1 a2 a3 a4 M) := by
  unfold fX12_pays
  refine jw_aloadR (pc := 0) 0 dX12_pays_0 rfl ?_
  refine jw_iconst (pc := 1) dX12_pays_1 ?_
  refine jw_putI (pc := 2) (j := 0) tyX12 rfl dX12_pays_2 jv_12 ji_12 tyX12_ok nmX12 (Or.inl jt_1231) rfl jg_127 jl_127 (by decide) (by decide) (jw_ho jg_127 (by decide)) rfl rfl (jw_rc _ rfl) rfl ?_
  refine jw_letM (fun M1 => ?_)
  refine jw_aloadR (pc := 5) 0 dX12_pays_5 rfl ?_
  refine jw_iload_n (pc := 6) 1 dX12_pays_6 rfl ?_
  refine jw_callVz (pc := 7) (As := [jI a1]) (st := []) dX12_pays_7 rfl (Nat.le_of_ble_eq_true rfl) qX12_isWatcher jt_1504 jt_1506 jp_66 rfl rfl (Nat.le_of_ble_eq_true rfl) jv_12 rfl jg_127 jl_127 (by decide) (jw_ho jg_127 (by decide)) (kX12_isWatcher G a1 ha1 M1) (fun v2 hv2 => ?_)
  refine jw_if_eq (pc := 10) 44 dX12_pays_10 (by decide) (jw_bz hv2) (fun _ => ?_) (fun _ => ?_)
  · refine jw_ldc2 (pc := 44) (n := (-9000000000000000001)) dX12_pays_44 jt_1349 (by decide) ?_
    exact jw_ret (pc := 47) (v := (-9000000000000000001)) dX12_pays_47 (jw_qc _ rfl) rfl rfl
  · refine jw_iload_n (pc := 13) 2 dX12_pays_13 rfl ?_
    refine jw_i2lr (pc := 14) dX12_pays_14 ha2 ?_
    refine jw_lconst (pc := 15) (z := 1) dX12_pays_15 rfl ?_
    refine jw_ldc2 (pc := 16) (n := 9999) dX12_pays_16 jt_1634 (by decide) ?_
    refine jw_callSz (pc := 19) (As := [jL a2, jL 1, jL 9999]) (st := []) dX12_pays_19 rfl (Nat.le_of_ble_eq_true rfl) qX12_in jt_1345 jt_1346 rfl rfl (Nat.le_of_ble_eq_true rfl) (kX12_in G a2 1 9999 (jw_rq ha2) (jw_qc _ rfl) (jw_qc _ rfl) M1) (fun v3 hv3 => ?_)
    refine jw_if_eq (pc := 22) 44 dX12_pays_22 (by decide) (jw_bz hv3) (fun _ => ?_) (fun _ => ?_)
    · refine jw_ldc2 (pc := 44) (n := (-9000000000000000001)) dX12_pays_44 jt_1349 (by decide) ?_
      exact jw_ret (pc := 47) (v := (-9000000000000000001)) dX12_pays_47 (jw_qc _ rfl) rfl rfl
    · refine jw_aloadR (pc := 25) 0 dX12_pays_25 rfl ?_
      refine jw_iload_n (pc := 26) 3 dX12_pays_26 rfl ?_
      refine jw_callVz (pc := 27) (As := [jI a3]) (st := []) dX12_pays_27 rfl (Nat.le_of_ble_eq_true rfl) qX12_isSeller jt_1487 jt_1489 jp_64 rfl rfl (Nat.le_of_ble_eq_true rfl) jv_12 rfl jg_127 jl_127 (by decide) (jw_ho jg_127 (by decide)) (kX12_isSeller G a3 ha3 M1) (fun v4 hv4 => ?_)
      refine jw_if_eq (pc := 30) 44 dX12_pays_30 (by decide) (jw_bz hv4) (fun _ => ?_) (fun _ => ?_)
      · refine jw_ldc2 (pc := 44) (n := (-9000000000000000001)) dX12_pays_44 jt_1349 (by decide) ?_
        exact jw_ret (pc := 47) (v := (-9000000000000000001)) dX12_pays_47 (jw_qc _ rfl) rfl rfl
      · refine jw_iload (pc := 33) 4 dX12_pays_33 rfl ?_
        refine jw_i2lr (pc := 35) dX12_pays_35 ha4 ?_
        refine jw_lconst (pc := 36) (z := 0) dX12_pays_36 rfl ?_
        refine jw_lconst (pc := 37) (z := 1) dX12_pays_37 rfl ?_
        refine jw_callSz (pc := 38) (As := [jL a4, jL 0, jL 1]) (st := []) dX12_pays_38 rfl (Nat.le_of_ble_eq_true rfl) qX12_in jt_1345 jt_1346 rfl rfl (Nat.le_of_ble_eq_true rfl) (kX12_in G a4 0 1 (jw_rq ha4) (jw_qc _ rfl) (jw_qc _ rfl) M1) (fun v5 hv5 => ?_)
        refine jw_if_ne (pc := 41) 48 dX12_pays_41 (by decide) (jw_bz hv5) (fun _ => ?_) (fun _ => ?_)
        · refine jw_ldc2 (pc := 44) (n := (-9000000000000000001)) dX12_pays_44 jt_1349 (by decide) ?_
          exact jw_ret (pc := 47) (v := (-9000000000000000001)) dX12_pays_47 (jw_qc _ rfl) rfl rfl
        · refine jw_aloadR (pc := 48) 0 dX12_pays_48 rfl ?_
          refine jw_getR (pc := 49) (j := 5) rfl dX12_pays_49 jv_12 ji_12 (Or.inl jt_1236) jg_127 jl_127 (by decide) (by decide) rfl jf_12_5 ?_
          refine jw_iconst (pc := 52) dX12_pays_52 ?_
          refine jw_iald (pc := 53) dX12_pays_53 jg_131 jl_131 (jw_ho jg_131 (by decide)) (jw_rc _ rfl) rfl (fun h6 => ?_)
          refine jw_istoreL (pc := 54) (lv' := (fun y => [(5, y), (0, jR G 127), (1, jI a1), (2, jI a2), (3, jI a3), (4, jI a4)])) dX12_pays_54 h6 (by decide) (fun _ => rfl) (fun v7 hv7 => ?_)
          refine jw_lconst (pc := 56) (z := 0) dX12_pays_56 rfl ?_
          refine jw_lstoreL (pc := 57) (lv' := (fun y => [(6, y), (5, jI v7), (0, jR G 127), (1, jI a1), (2, jI a2), (3, jI a3), (4, jI a4)])) dX12_pays_57 (jw_qc _ rfl) (by decide) (fun _ => rfl) (fun v8 hv8 => ?_)
          refine jw_iconst (pc := 59) dX12_pays_59 ?_
          refine jw_istoreL (pc := 60) (lv' := (fun y => [(8, y), (6, jL v8), (5, jI v7), (0, jR G 127), (1, jI a1), (2, jI a2), (3, jI a3), (4, jI a4)])) dX12_pays_60 (jw_rc _ rfl) (by decide) (fun _ => rfl) (fun v9 hv9 => ?_)
          exact jw_few [3, 4, 5, 6, 7, 2, 1, 0] rfl (pX12_pays_62 G jw_fu a1 a2 a3 a4 v7 v8 v9 ha1 ha2 ha3 ha4 hv7 hv8 hv9 M1)
theorem kX12_pays (G : jw_G) (a1 : Int) (a2 : Int) (a3 : Int) (a4 : Int) (ha1 : jw_r a1) (ha2 : jw_r a2) (ha3 : jw_r a3) (ha4 : jw_r a4) (M : jw_M) : jw_Ct G YX12_pays (some .long) 3 0 0 true (fun q => q) yX12_pays [jR G 127, jI a1, jI a2, jI a3, jI a4] M (fX12_pays a1 a2 a3 a4 M) := jw_met (by decide) rfl rfl rfl (Nat.le_of_ble_eq_true rfl) (rX12_pays G a1 a2 a3 a4 ha1 ha2 ha3 ha4 M)
abbrev YX12_storeCost : jw_Y := (RX12, cX12_storeCost, 4, 1, "storeCost")
theorem qX12_storeCost : jw_cy YX12_storeCost (some .int) yX12_storeCost 2 := ⟨by decide, jt_1652, jt_14, by decide, by decide +kernel⟩
theorem dX12_storeCost_0 : decode cX12_storeCost 0 = .ok (.aload_n 0, 1) := by decide +kernel
theorem dX12_storeCost_1 : decode cX12_storeCost 1 = .ok (.getfield 31, 3) := by decide +kernel
theorem dX12_storeCost_4 : decode cX12_storeCost 4 = .ok (.bipush 7, 2) := by decide +kernel
theorem dX12_storeCost_6 : decode cX12_storeCost 6 = .ok (.aload_n 0, 1) := by decide +kernel
theorem dX12_storeCost_7 : decode cX12_storeCost 7 = .ok (.getfield 25, 3) := by decide +kernel
theorem dX12_storeCost_10 : decode cX12_storeCost 10 = .ok (.iconst 0, 1) := by decide +kernel
theorem dX12_storeCost_11 : decode cX12_storeCost 11 = .ok (.iload_n 1, 1) := by decide +kernel
theorem dX12_storeCost_12 : decode cX12_storeCost 12 = .ok (.iadd, 1) := by decide +kernel
theorem dX12_storeCost_13 : decode cX12_storeCost 13 = .ok (.iaload, 1) := by decide +kernel
theorem dX12_storeCost_14 : decode cX12_storeCost 14 = .ok (.imul, 1) := by decide +kernel
theorem dX12_storeCost_15 : decode cX12_storeCost 15 = .ok (.aload_n 0, 1) := by decide +kernel
theorem dX12_storeCost_16 : decode cX12_storeCost 16 = .ok (.getfield 19, 3) := by decide +kernel
theorem dX12_storeCost_19 : decode cX12_storeCost 19 = .ok (.bipush 75, 2) := by decide +kernel
theorem dX12_storeCost_21 : decode cX12_storeCost 21 = .ok (.iconst 2, 1) := by decide +kernel
theorem dX12_storeCost_22 : decode cX12_storeCost 22 = .ok (.iload_n 2, 1) := by decide +kernel
theorem dX12_storeCost_23 : decode cX12_storeCost 23 = .ok (.imul, 1) := by decide +kernel
theorem dX12_storeCost_24 : decode cX12_storeCost 24 = .ok (.iadd, 1) := by decide +kernel
theorem dX12_storeCost_25 : decode cX12_storeCost 25 = .ok (.iaload, 1) := by decide +kernel
theorem dX12_storeCost_26 : decode cX12_storeCost 26 = .ok (.iadd, 1) := by decide +kernel
theorem dX12_storeCost_27 : decode cX12_storeCost 27 = .ok (.iaload, 1) := by decide +kernel
theorem dX12_storeCost_28 : decode cX12_storeCost 28 = .ok (.istore_n 3, 1) := by decide +kernel
theorem dX12_storeCost_29 : decode cX12_storeCost 29 = .ok (.iload_n 3, 1) := by decide +kernel
theorem dX12_storeCost_30 : decode cX12_storeCost 30 = .ok (.ldc 223, 2) := by decide +kernel
theorem dX12_storeCost_32 : decode cX12_storeCost 32 = .ok (.if_icmp .lt 8, 3) := by decide +kernel
theorem dX12_storeCost_35 : decode cX12_storeCost 35 = .ok (.ldc 223, 2) := by decide +kernel
theorem dX12_storeCost_37 : decode cX12_storeCost 37 = .ok (.goto 30, 3) := by decide +kernel
theorem dX12_storeCost_40 : decode cX12_storeCost 40 = .ok (.iconst 2, 1) := by decide +kernel
theorem dX12_storeCost_41 : decode cX12_storeCost 41 = .ok (.iload_n 3, 1) := by decide +kernel
theorem dX12_storeCost_42 : decode cX12_storeCost 42 = .ok (.imul, 1) := by decide +kernel
theorem dX12_storeCost_43 : decode cX12_storeCost 43 = .ok (.aload_n 0, 1) := by decide +kernel
theorem dX12_storeCost_44 : decode cX12_storeCost 44 = .ok (.getfield 19, 3) := by decide +kernel
theorem dX12_storeCost_47 : decode cX12_storeCost 47 = .ok (.bipush 75, 2) := by decide +kernel
theorem dX12_storeCost_49 : decode cX12_storeCost 49 = .ok (.iconst 2, 1) := by decide +kernel
theorem dX12_storeCost_50 : decode cX12_storeCost 50 = .ok (.iload_n 2, 1) := by decide +kernel
theorem dX12_storeCost_51 : decode cX12_storeCost 51 = .ok (.imul, 1) := by decide +kernel
theorem dX12_storeCost_52 : decode cX12_storeCost 52 = .ok (.iadd, 1) := by decide +kernel
theorem dX12_storeCost_53 : decode cX12_storeCost 53 = .ok (.iconst 1, 1) := by decide +kernel
theorem dX12_storeCost_54 : decode cX12_storeCost 54 = .ok (.iadd, 1) := by decide +kernel
theorem dX12_storeCost_55 : decode cX12_storeCost 55 = .ok (.iaload, 1) := by decide +kernel
theorem dX12_storeCost_56 : decode cX12_storeCost 56 = .ok (.aload_n 0, 1) := by decide +kernel
theorem dX12_storeCost_57 : decode cX12_storeCost 57 = .ok (.iload_n 1, 1) := by decide +kernel
theorem dX12_storeCost_58 : decode cX12_storeCost 58 = .ok (.iconst 1, 1) := by decide +kernel
theorem dX12_storeCost_59 : decode cX12_storeCost 59 = .ok (.invokevirtual 234, 3) := by decide +kernel
theorem dX12_storeCost_62 : decode cX12_storeCost 62 = .ok (.imul, 1) := by decide +kernel
theorem dX12_storeCost_63 : decode cX12_storeCost 63 = .ok (.bipush 10, 2) := by decide +kernel
theorem dX12_storeCost_65 : decode cX12_storeCost 65 = .ok (.idiv, 1) := by decide +kernel
theorem dX12_storeCost_66 : decode cX12_storeCost 66 = .ok (.iadd, 1) := by decide +kernel
theorem dX12_storeCost_67 : decode cX12_storeCost 67 = .ok (.ireturn, 1) := by decide +kernel
def fX12_storeCost (a1 : Int) (a2 : Int) (M : jw_M) : Option Int :=
  if 0 ≤ jw_w (0 + a1) ∧ jw_w (0 + a1) < 104 then if 0 ≤ jw_w (75 + (jw_w (2 * a2))) ∧ jw_w (75 + (jw_w (2 * a2))) < 104 then if 0 ≤ jw_w ((jw_w (7 * (M 133 (jw_w (0 + a1))))) + (M 131 (jw_w (75 + (jw_w (2 * a2)))))) ∧ jw_w ((jw_w (7 * (M 133 (jw_w (0 + a1))))) + (M 131 (jw_w (75 + (jw_w (2 * a2)))))) < 49 then Option.bind (some (M 135 (jw_w ((jw_w (7 * (M 133 (jw_w (0 + a1))))) + (M 131 (jw_w (75 + (jw_w (2 * a2))))))))) (fun v4 => if v4 < 1000000 then (if 0 ≤ jw_w ((jw_w (75 + (jw_w (2 * a2)))) + 1) ∧ jw_w ((jw_w (75 + (jw_w (2 * a2)))) + 1) < 104 then Option.bind (fX12_goodsOf a1 1 M) (fun v6 => if (10 : Int) ≠ 0 then some (jw_w ((jw_w (2 * v4)) + (jw_w (Int.tdiv (jw_w ((M 131 (jw_w ((jw_w (75 + (jw_w (2 * a2)))) + 1))) * v6)) 10)))) else none) else none) else (some 1000000)) else none else none else none
set_option maxRecDepth 100000 in
theorem rX12_storeCost (G : jw_G) (a1 : Int) (a2 : Int) (ha1 : jw_r a1) (ha2 : jw_r a2) (M : jw_M) : jw_Rn G YX12_storeCost 2 0 0 true (fun v => (v, M)) 0 [(0, jR G 127), (1, jI a1), (2, jI a2)] [] M (fX12_storeCost a1 a2 M) := by
  unfold fX12_storeCost
  refine jw_aloadR (pc := 0) 0 dX12_storeCost_0 rfl ?_
  refine jw_getR (pc := 1) (j := 19) rfl dX12_storeCost_1 jv_12 ji_12 (Or.inl jt_1250) jg_127 jl_127 (by decide) (by decide) rfl jf_12_19 ?_
  refine jw_bipush (pc := 4) dX12_storeCost_4 rfl ?_
  refine jw_aloadR (pc := 6) 0 dX12_storeCost_6 rfl ?_
  refine jw_getR (pc := 7) (j := 8) rfl dX12_storeCost_7 jv_12 ji_12 (Or.inl jt_1239) jg_127 jl_127 (by decide) (by decide) rfl jf_12_8 ?_
  refine jw_iconst (pc := 10) dX12_storeCost_10 ?_
  refine jw_iload_n (pc := 11) 1 dX12_storeCost_11 rfl ?_
  refine jw_iadd (pc := 12) dX12_storeCost_12 ?_
  refine jw_iald (pc := 13) dX12_storeCost_13 jg_133 jl_133 (jw_ho jg_133 (by decide)) (jw_wr _) rfl (fun h1 => ?_)
  refine jw_imul (pc := 14) dX12_storeCost_14 ?_
  refine jw_aloadR (pc := 15) 0 dX12_storeCost_15 rfl ?_
  refine jw_getR (pc := 16) (j := 5) rfl dX12_storeCost_16 jv_12 ji_12 (Or.inl jt_1236) jg_127 jl_127 (by decide) (by decide) rfl jf_12_5 ?_
  refine jw_bipush (pc := 19) dX12_storeCost_19 rfl ?_
  refine jw_iconst (pc := 21) dX12_storeCost_21 ?_
  refine jw_iload_n (pc := 22) 2 dX12_storeCost_22 rfl ?_
  refine jw_imul (pc := 23) dX12_storeCost_23 ?_
  refine jw_iadd (pc := 24) dX12_storeCost_24 ?_
  refine jw_iald (pc := 25) dX12_storeCost_25 jg_131 jl_131 (jw_ho jg_131 (by decide)) (jw_wr _) rfl (fun h2 => ?_)
  refine jw_iadd (pc := 26) dX12_storeCost_26 ?_
  refine jw_iald (pc := 27) dX12_storeCost_27 jg_135 jl_135 (jw_ho jg_135 (by decide)) (jw_wr _) rfl (fun h3 => ?_)
  refine jw_istore_nL (pc := 28) (lv' := (fun y => [(3, y), (0, jR G 127), (1, jI a1), (2, jI a2)])) dX12_storeCost_28 h3 (by decide) (fun _ => rfl) (fun v4 hv4 => ?_)
  refine jw_iload_n (pc := 29) 0 dX12_storeCost_29 rfl ?_
  refine jw_ldc (pc := 30) (n := 1000000) dX12_storeCost_30 jt_1469 (by decide) ?_
  refine jw_ic_lt (pc := 32) 40 dX12_storeCost_32 (by decide) hv4 (jw_rc _ rfl) (fun _ => ?_) (fun _ => ?_)
  · refine jw_iconst (pc := 40) dX12_storeCost_40 ?_
    refine jw_iload_n (pc := 41) 0 dX12_storeCost_41 rfl ?_
    refine jw_imul (pc := 42) dX12_storeCost_42 ?_
    refine jw_aloadR (pc := 43) 1 dX12_storeCost_43 rfl ?_
    refine jw_getR (pc := 44) (j := 5) rfl dX12_storeCost_44 jv_12 ji_12 (Or.inl jt_1236) jg_127 jl_127 (by decide) (by decide) rfl jf_12_5 ?_
    refine jw_bipush (pc := 47) dX12_storeCost_47 rfl ?_
    refine jw_iconst (pc := 49) dX12_storeCost_49 ?_
    refine jw_iload_n (pc := 50) 3 dX12_storeCost_50 rfl ?_
    refine jw_imul (pc := 51) dX12_storeCost_51 ?_
    refine jw_iadd (pc := 52) dX12_storeCost_52 ?_
    refine jw_iconst (pc := 53) dX12_storeCost_53 ?_
    refine jw_iadd (pc := 54) dX12_storeCost_54 ?_
    refine jw_iald (pc := 55) dX12_storeCost_55 jg_131 jl_131 (jw_ho jg_131 (by decide)) (jw_wr _) rfl (fun h5 => ?_)
    refine jw_aloadR (pc := 56) 1 dX12_storeCost_56 rfl ?_
    refine jw_iload_n (pc := 57) 2 dX12_storeCost_57 rfl ?_
    refine jw_iconst (pc := 58) dX12_storeCost_58 ?_
    refine jw_callVi (pc := 59) (As := [jI a1, jI 1]) (st := [jI (M 131 (jw_w ((jw_w (75 + (jw_w (2 * a2)))) + 1))), jI (jw_w (2 * v4))]) dX12_storeCost_59 rfl (Nat.le_of_ble_eq_true rfl) qX12_goodsOf jt_1496 jt_1498 jp_65 rfl rfl (Nat.le_of_ble_eq_true rfl) jv_12 rfl jg_127 jl_127 (by decide) (jw_ho jg_127 (by decide)) (kX12_goodsOf G a1 1 ha1 (jw_rc _ rfl) M) (fun v6 hv6 => ?_)
    refine jw_imul (pc := 62) dX12_storeCost_62 ?_
    refine jw_bipush (pc := 63) dX12_storeCost_63 rfl ?_
    refine jw_idiv (pc := 65) dX12_storeCost_65 (jw_wr _) (jw_rc _ rfl) ?_
    refine jw_iadd (pc := 66) dX12_storeCost_66 ?_
    exact jw_ret (pc := 67) (v := jw_w ((jw_w (2 * v4)) + (jw_w (Int.tdiv (jw_w ((M 131 (jw_w ((jw_w (75 + (jw_w (2 * a2)))) + 1))) * v6)) 10)))) dX12_storeCost_67 (jw_wr _) rfl rfl
  · refine jw_ldc (pc := 35) (n := 1000000) dX12_storeCost_35 jt_1469 (by decide) ?_
    refine jw_goto (pc := 37) 67 dX12_storeCost_37 (by decide) ?_
    exact jw_ret (pc := 67) (v := 1000000) dX12_storeCost_67 (jw_rc _ rfl) rfl rfl
theorem kX12_storeCost (G : jw_G) (a1 : Int) (a2 : Int) (ha1 : jw_r a1) (ha2 : jw_r a2) (M : jw_M) : jw_Ct G YX12_storeCost (some .int) 2 0 0 true (fun v => (v, M)) yX12_storeCost [jR G 127, jI a1, jI a2] M (fX12_storeCost a1 a2 M) := jw_met (by decide) rfl rfl rfl (Nat.le_of_ble_eq_true rfl) (rX12_storeCost G a1 a2 ha1 ha2 M)
abbrev YX12_stored : jw_Y := (RX12, cX12_stored, 12, 2, "stored")
theorem qX12_stored : jw_cy YX12_stored (some .long) yX12_stored 1 := ⟨by decide, jt_1648, jt_14, by decide, by decide +kernel⟩
theorem dX12_stored_0 : decode cX12_stored 0 = .ok (.aload_n 0, 1) := by decide +kernel
theorem dX12_stored_1 : decode cX12_stored 1 = .ok (.iconst 0, 1) := by decide +kernel
theorem dX12_stored_2 : decode cX12_stored 2 = .ok (.putfield 71, 3) := by decide +kernel
theorem dX12_stored_5 : decode cX12_stored 5 = .ok (.iload_n 1, 1) := by decide +kernel
theorem dX12_stored_6 : decode cX12_stored 6 = .ok (.iconst (-1), 1) := by decide +kernel
theorem dX12_stored_7 : decode cX12_stored 7 = .ok (.if_icmp .ge 7, 3) := by decide +kernel
theorem dX12_stored_10 : decode cX12_stored 10 = .ok (.ldc2_w 92, 3) := by decide +kernel
theorem dX12_stored_13 : decode cX12_stored 13 = .ok (.lreturn, 1) := by decide +kernel
theorem dX12_stored_14 : decode cX12_stored 14 = .ok (.aload_n 0, 1) := by decide +kernel
theorem dX12_stored_15 : decode cX12_stored 15 = .ok (.getfield 216, 3) := by decide +kernel
theorem dX12_stored_18 : decode cX12_stored 18 = .ok (.ifCond .ne 7, 3) := by decide +kernel
theorem dX12_stored_21 : decode cX12_stored 21 = .ok (.ldc2_w 252, 3) := by decide +kernel
theorem dX12_stored_24 : decode cX12_stored 24 = .ok (.lreturn, 1) := by decide +kernel
theorem dX12_stored_25 : decode cX12_stored 25 = .ok (.aload_n 0, 1) := by decide +kernel
theorem dX12_stored_26 : decode cX12_stored 26 = .ok (.getfield 19, 3) := by decide +kernel
theorem dX12_stored_29 : decode cX12_stored 29 = .ok (.iconst 3, 1) := by decide +kernel
theorem dX12_stored_30 : decode cX12_stored 30 = .ok (.iaload, 1) := by decide +kernel
theorem dX12_stored_31 : decode cX12_stored 31 = .ok (.istore_n 2, 1) := by decide +kernel
theorem dX12_stored_32 : decode cX12_stored 32 = .ok (.iconst 1, 1) := by decide +kernel
theorem dX12_stored_33 : decode cX12_stored 33 = .ok (.istore_n 3, 1) := by decide +kernel
theorem dX12_stored_34 : decode cX12_stored 34 = .ok (.iconst 0, 1) := by decide +kernel
theorem dX12_stored_35 : decode cX12_stored 35 = .ok (.istore 4, 2) := by decide +kernel
theorem dX12_stored_37 : decode cX12_stored 37 = .ok (.iload 4, 2) := by decide +kernel
theorem dX12_stored_39 : decode cX12_stored 39 = .ok (.iload_n 2, 1) := by decide +kernel
theorem dX12_stored_40 : decode cX12_stored 40 = .ok (.if_icmp .ge 18, 3) := by decide +kernel
theorem dX12_stored_43 : decode cX12_stored 43 = .ok (.iload_n 3, 1) := by decide +kernel
theorem dX12_stored_44 : decode cX12_stored 44 = .ok (.aload_n 0, 1) := by decide +kernel
theorem dX12_stored_45 : decode cX12_stored 45 = .ok (.getfield 19, 3) := by decide +kernel
theorem dX12_stored_48 : decode cX12_stored 48 = .ok (.iconst 5, 1) := by decide +kernel
theorem dX12_stored_49 : decode cX12_stored 49 = .ok (.iaload, 1) := by decide +kernel
theorem dX12_stored_50 : decode cX12_stored 50 = .ok (.imul, 1) := by decide +kernel
theorem dX12_stored_51 : decode cX12_stored 51 = .ok (.istore_n 3, 1) := by decide +kernel
theorem dX12_stored_52 : decode cX12_stored 52 = .ok (.iinc 4 1, 3) := by decide +kernel
theorem dX12_stored_55 : decode cX12_stored 55 = .ok (.goto (-18), 3) := by decide +kernel
theorem dX12_stored_58 : decode cX12_stored 58 = .ok (.ldc 223, 2) := by decide +kernel
theorem dX12_stored_60 : decode cX12_stored 60 = .ok (.istore 4, 2) := by decide +kernel
theorem dX12_stored_62 : decode cX12_stored 62 = .ok (.iconst 0, 1) := by decide +kernel
theorem dX12_stored_63 : decode cX12_stored 63 = .ok (.istore 5, 2) := by decide +kernel
theorem dX12_stored_65 : decode cX12_stored 65 = .ok (.iload 5, 2) := by decide +kernel
theorem dX12_stored_67 : decode cX12_stored 67 = .ok (.iload_n 3, 1) := by decide +kernel
theorem dX12_stored_68 : decode cX12_stored 68 = .ok (.if_icmp .ge 158, 3) := by decide +kernel
theorem dX12_stored_71 : decode cX12_stored 71 = .ok (.iload 5, 2) := by decide +kernel
theorem dX12_stored_73 : decode cX12_stored 73 = .ok (.istore 6, 2) := by decide +kernel
theorem dX12_stored_75 : decode cX12_stored 75 = .ok (.iconst 0, 1) := by decide +kernel
theorem dX12_stored_76 : decode cX12_stored 76 = .ok (.istore 7, 2) := by decide +kernel
theorem dX12_stored_78 : decode cX12_stored 78 = .ok (.iconst 0, 1) := by decide +kernel
theorem dX12_stored_79 : decode cX12_stored 79 = .ok (.istore 8, 2) := by decide +kernel
theorem dX12_stored_81 : decode cX12_stored 81 = .ok (.iconst 1, 1) := by decide +kernel
theorem dX12_stored_82 : decode cX12_stored 82 = .ok (.istore 9, 2) := by decide +kernel
theorem dX12_stored_84 : decode cX12_stored 84 = .ok (.iload_n 2, 1) := by decide +kernel
theorem dX12_stored_85 : decode cX12_stored 85 = .ok (.iconst 1, 1) := by decide +kernel
theorem dX12_stored_86 : decode cX12_stored 86 = .ok (.isub, 1) := by decide +kernel
theorem dX12_stored_87 : decode cX12_stored 87 = .ok (.istore 10, 2) := by decide +kernel
theorem dX12_stored_89 : decode cX12_stored 89 = .ok (.iload 10, 2) := by decide +kernel
theorem dX12_stored_91 : decode cX12_stored 91 = .ok (.ifCond .lt 84, 3) := by decide +kernel
theorem dX12_stored_94 : decode cX12_stored 94 = .ok (.iload 6, 2) := by decide +kernel
theorem dX12_stored_96 : decode cX12_stored 96 = .ok (.aload_n 0, 1) := by decide +kernel
theorem dX12_stored_97 : decode cX12_stored 97 = .ok (.getfield 19, 3) := by decide +kernel
theorem dX12_stored_100 : decode cX12_stored 100 = .ok (.iconst 5, 1) := by decide +kernel
theorem dX12_stored_101 : decode cX12_stored 101 = .ok (.iaload, 1) := by decide +kernel
theorem dX12_stored_102 : decode cX12_stored 102 = .ok (.irem, 1) := by decide +kernel
theorem dX12_stored_103 : decode cX12_stored 103 = .ok (.istore 11, 2) := by decide +kernel
theorem dX12_stored_105 : decode cX12_stored 105 = .ok (.iload 6, 2) := by decide +kernel
theorem dX12_stored_107 : decode cX12_stored 107 = .ok (.aload_n 0, 1) := by decide +kernel
theorem dX12_stored_108 : decode cX12_stored 108 = .ok (.getfield 19, 3) := by decide +kernel
theorem dX12_stored_111 : decode cX12_stored 111 = .ok (.iconst 5, 1) := by decide +kernel
theorem dX12_stored_112 : decode cX12_stored 112 = .ok (.iaload, 1) := by decide +kernel
theorem dX12_stored_113 : decode cX12_stored 113 = .ok (.idiv, 1) := by decide +kernel
theorem dX12_stored_114 : decode cX12_stored 114 = .ok (.istore 6, 2) := by decide +kernel
theorem dX12_stored_116 : decode cX12_stored 116 = .ok (.aload_n 0, 1) := by decide +kernel
theorem dX12_stored_117 : decode cX12_stored 117 = .ok (.getfield 43, 3) := by decide +kernel
theorem dX12_stored_120 : decode cX12_stored 120 = .ok (.iload 10, 2) := by decide +kernel
theorem dX12_stored_122 : decode cX12_stored 122 = .ok (.iload 11, 2) := by decide +kernel
theorem dX12_stored_124 : decode cX12_stored 124 = .ok (.iastore, 1) := by decide +kernel
theorem dX12_stored_125 : decode cX12_stored 125 = .ok (.iload 9, 2) := by decide +kernel
theorem dX12_stored_127 : decode cX12_stored 127 = .ok (.ifCond .eq 17, 3) := by decide +kernel
theorem dX12_stored_130 : decode cX12_stored 130 = .ok (.iload 7, 2) := by decide +kernel
theorem dX12_stored_132 : decode cX12_stored 132 = .ok (.iload 11, 2) := by decide +kernel
theorem dX12_stored_134 : decode cX12_stored 134 = .ok (.ishr, 1) := by decide +kernel
theorem dX12_stored_135 : decode cX12_stored 135 = .ok (.iconst 1, 1) := by decide +kernel
theorem dX12_stored_136 : decode cX12_stored 136 = .ok (.iand, 1) := by decide +kernel
theorem dX12_stored_137 : decode cX12_stored 137 = .ok (.ifCond .ne 7, 3) := by decide +kernel
theorem dX12_stored_140 : decode cX12_stored 140 = .ok (.iconst 1, 1) := by decide +kernel
theorem dX12_stored_141 : decode cX12_stored 141 = .ok (.goto 4, 3) := by decide +kernel
theorem dX12_stored_144 : decode cX12_stored 144 = .ok (.iconst 0, 1) := by decide +kernel
theorem dX12_stored_145 : decode cX12_stored 145 = .ok (.istore 9, 2) := by decide +kernel
theorem dX12_stored_147 : decode cX12_stored 147 = .ok (.iload 7, 2) := by decide +kernel
theorem dX12_stored_149 : decode cX12_stored 149 = .ok (.iconst 1, 1) := by decide +kernel
theorem dX12_stored_150 : decode cX12_stored 150 = .ok (.iload 11, 2) := by decide +kernel
theorem dX12_stored_152 : decode cX12_stored 152 = .ok (.ishl, 1) := by decide +kernel
theorem dX12_stored_153 : decode cX12_stored 153 = .ok (.ior, 1) := by decide +kernel
theorem dX12_stored_154 : decode cX12_stored 154 = .ok (.istore 7, 2) := by decide +kernel
theorem dX12_stored_156 : decode cX12_stored 156 = .ok (.iload 8, 2) := by decide +kernel
theorem dX12_stored_158 : decode cX12_stored 158 = .ok (.aload_n 0, 1) := by decide +kernel
theorem dX12_stored_159 : decode cX12_stored 159 = .ok (.iload 10, 2) := by decide +kernel
theorem dX12_stored_161 : decode cX12_stored 161 = .ok (.iload 11, 2) := by decide +kernel
theorem dX12_stored_163 : decode cX12_stored 163 = .ok (.invokevirtual 313, 3) := by decide +kernel
theorem dX12_stored_166 : decode cX12_stored 166 = .ok (.iadd, 1) := by decide +kernel
theorem dX12_stored_167 : decode cX12_stored 167 = .ok (.istore 8, 2) := by decide +kernel
theorem dX12_stored_169 : decode cX12_stored 169 = .ok (.iinc 10 (-1), 3) := by decide +kernel
theorem dX12_stored_172 : decode cX12_stored 172 = .ok (.goto (-83), 3) := by decide +kernel
theorem dX12_stored_175 : decode cX12_stored 175 = .ok (.iload 9, 2) := by decide +kernel
theorem dX12_stored_177 : decode cX12_stored 177 = .ok (.ifCond .eq 43, 3) := by decide +kernel
theorem dX12_stored_180 : decode cX12_stored 180 = .ok (.iload 8, 2) := by decide +kernel
theorem dX12_stored_182 : decode cX12_stored 182 = .ok (.iload 4, 2) := by decide +kernel
theorem dX12_stored_184 : decode cX12_stored 184 = .ok (.if_icmp .ge 36, 3) := by decide +kernel
theorem dX12_stored_187 : decode cX12_stored 187 = .ok (.iload 8, 2) := by decide +kernel
theorem dX12_stored_189 : decode cX12_stored 189 = .ok (.istore 4, 2) := by decide +kernel
theorem dX12_stored_191 : decode cX12_stored 191 = .ok (.iconst 0, 1) := by decide +kernel
theorem dX12_stored_192 : decode cX12_stored 192 = .ok (.istore 10, 2) := by decide +kernel
theorem dX12_stored_194 : decode cX12_stored 194 = .ok (.iload 10, 2) := by decide +kernel
theorem dX12_stored_196 : decode cX12_stored 196 = .ok (.iload_n 2, 1) := by decide +kernel
theorem dX12_stored_197 : decode cX12_stored 197 = .ok (.if_icmp .ge 23, 3) := by decide +kernel
theorem dX12_stored_200 : decode cX12_stored 200 = .ok (.aload_n 0, 1) := by decide +kernel
theorem dX12_stored_201 : decode cX12_stored 201 = .ok (.getfield 46, 3) := by decide +kernel
theorem dX12_stored_204 : decode cX12_stored 204 = .ok (.iload 10, 2) := by decide +kernel
theorem dX12_stored_206 : decode cX12_stored 206 = .ok (.aload_n 0, 1) := by decide +kernel
theorem dX12_stored_207 : decode cX12_stored 207 = .ok (.getfield 43, 3) := by decide +kernel
theorem dX12_stored_210 : decode cX12_stored 210 = .ok (.iload 10, 2) := by decide +kernel
theorem dX12_stored_212 : decode cX12_stored 212 = .ok (.iaload, 1) := by decide +kernel
theorem dX12_stored_213 : decode cX12_stored 213 = .ok (.iastore, 1) := by decide +kernel
theorem dX12_stored_214 : decode cX12_stored 214 = .ok (.iinc 10 1, 3) := by decide +kernel
theorem dX12_stored_217 : decode cX12_stored 217 = .ok (.goto (-23), 3) := by decide +kernel
theorem dX12_stored_220 : decode cX12_stored 220 = .ok (.iinc 5 1, 3) := by decide +kernel
theorem dX12_stored_223 : decode cX12_stored 223 = .ok (.goto (-158), 3) := by decide +kernel
theorem dX12_stored_226 : decode cX12_stored 226 = .ok (.iload 4, 2) := by decide +kernel
theorem dX12_stored_228 : decode cX12_stored 228 = .ok (.ldc 223, 2) := by decide +kernel
theorem dX12_stored_230 : decode cX12_stored 230 = .ok (.if_icmp .lt 9, 3) := by decide +kernel
theorem dX12_stored_233 : decode cX12_stored 233 = .ok (.ldc2_w 227, 3) := by decide +kernel
theorem dX12_stored_236 : decode cX12_stored 236 = .ok (.goto 32, 3) := by decide +kernel
theorem dX12_stored_239 : decode cX12_stored 239 = .ok (.iload_n 1, 1) := by decide +kernel
theorem dX12_stored_240 : decode cX12_stored 240 = .ok (.iconst (-1), 1) := by decide +kernel
theorem dX12_stored_241 : decode cX12_stored 241 = .ok (.if_icmp .ne 9, 3) := by decide +kernel
theorem dX12_stored_244 : decode cX12_stored 244 = .ok (.iload 4, 2) := by decide +kernel
theorem dX12_stored_246 : decode cX12_stored 246 = .ok (.i2l, 1) := by decide +kernel
theorem dX12_stored_247 : decode cX12_stored 247 = .ok (.goto 21, 3) := by decide +kernel
theorem dX12_stored_250 : decode cX12_stored 250 = .ok (.iload_n 1, 1) := by decide +kernel
theorem dX12_stored_251 : decode cX12_stored 251 = .ok (.iload_n 2, 1) := by decide +kernel
theorem dX12_stored_252 : decode cX12_stored 252 = .ok (.if_icmp .ge 13, 3) := by decide +kernel
theorem dX12_stored_255 : decode cX12_stored 255 = .ok (.aload_n 0, 1) := by decide +kernel
theorem dX12_stored_256 : decode cX12_stored 256 = .ok (.getfield 46, 3) := by decide +kernel
theorem dX12_stored_259 : decode cX12_stored 259 = .ok (.iload_n 1, 1) := by decide +kernel
theorem dX12_stored_260 : decode cX12_stored 260 = .ok (.iaload, 1) := by decide +kernel
theorem dX12_stored_261 : decode cX12_stored 261 = .ok (.i2l, 1) := by decide +kernel
theorem dX12_stored_262 : decode cX12_stored 262 = .ok (.goto 6, 3) := by decide +kernel
theorem dX12_stored_265 : decode cX12_stored 265 = .ok (.ldc2_w 227, 3) := by decide +kernel
theorem dX12_stored_268 : decode cX12_stored 268 = .ok (.lreturn, 1) := by decide +kernel
def fX12_stored_220 (r65 : Int → Int → Int → Int → Int → jw_M → Option (Int × jw_M)) (x1 : Int) (x2 : Int) (x3 : Int) (x4 : Int) (x5 : Int) (M : jw_M) : Option (Int × jw_M) :=
  Option.bind (some (jw_w (x5 + 1))) (fun v17 => r65 x1 x2 x3 x4 v17 M)
set_option maxRecDepth 100000 in
theorem pX12_stored_220 (G : jw_G) (r65 : Int → Int → Int → Int → Int → jw_M → Option (Int × jw_M)) (hr65 : ∀ (x1 : Int) (x2 : Int) (x3 : Int) (x4 : Int) (x5 : Int) (hx1 : jw_r x1) (hx2 : jw_r x2) (hx3 : jw_r x3) (hx4 : jw_r x4) (hx5 : jw_r x5) (M : jw_M), jw_Rn G YX12_stored 3 0 0 true (fun q => q) 65 [(0, jR G 127), (1, jI x1), (2, jI x2), (3, jI x3), (4, jI x4), (5, jI x5)] [] M (r65 x1 x2 x3 x4 x5 M)) : ∀ (x1 : Int) (x2 : Int) (x3 : Int) (x4 : Int) (x5 : Int) (hx1 : jw_r x1) (hx2 : jw_r x2) (hx3 : jw_r x3) (hx4 : jw_r x4) (hx5 : jw_r x5) (M : jw_M), jw_Rn G YX12_stored 3 0 0 true (fun q => q) 220 [(0, jR G 127), (1, jI x1), (2, jI x2), (3, jI x3), (4, jI x4), (5, jI x5)] [] M (fX12_stored_220 r65 x1 x2 x3 x4 x5 M) := by
  intro x1 x2 x3 x4 x5 hx1 hx2 hx3 hx4 hx5 M
  unfold fX12_stored_220
  refine jw_iincL (pc := 220) 5 (lv' := (fun y => [(5, y), (0, jR G 127), (1, jI x1), (2, jI x2), (3, jI x3), (4, jI x4)])) dX12_stored_220 rfl (Nat.le_of_ble_eq_true rfl) (fun _ => rfl) (fun v17 hv17 => ?_)
  refine jw_goto (pc := 223) 65 dX12_stored_223 (by decide) ?_
  exact jw_few [1, 2, 3, 4, 5, 0] rfl (hr65 x1 x2 x3 x4 v17 hx1 hx2 hx3 hx4 hv17 M)
def fX12_stored_194 (r65 : Int → Int → Int → Int → Int → jw_M → Option (Int × jw_M)) : Nat → Int → Int → Int → Int → Int → Int → jw_M → Option (Int × jw_M)
  | 0, _, _, _, _, _, _, _ => none
  | k + 1, x1, x2, x3, x4, x5, x10, M => if x10 < x2 then (if 0 ≤ x10 ∧ x10 < 5 then if 0 ≤ x10 ∧ x10 < 5 then Option.bind (some (jw_up M 140 x10 (M 139 x10))) (fun M21 => Option.bind (some (jw_w (x10 + 1))) (fun v22 => fX12_stored_194 r65 k x1 x2 x3 x4 x5 v22 M21)) else none else none) else (fX12_stored_220 r65 x1 x2 x3 x4 x5 M)
set_option maxRecDepth 100000 in
theorem pX12_stored_194 (G : jw_G) (r65 : Int → Int → Int → Int → Int → jw_M → Option (Int × jw_M)) (hr65 : ∀ (x1 : Int) (x2 : Int) (x3 : Int) (x4 : Int) (x5 : Int) (hx1 : jw_r x1) (hx2 : jw_r x2) (hx3 : jw_r x3) (hx4 : jw_r x4) (hx5 : jw_r x5) (M : jw_M), jw_Rn G YX12_stored 3 0 0 true (fun q => q) 65 [(0, jR G 127), (1, jI x1), (2, jI x2), (3, jI x3), (4, jI x4), (5, jI x5)] [] M (r65 x1 x2 x3 x4 x5 M)) : ∀ (k : Nat) (x1 : Int) (x2 : Int) (x3 : Int) (x4 : Int) (x5 : Int) (x10 : Int) (hx1 : jw_r x1) (hx2 : jw_r x2) (hx3 : jw_r x3) (hx4 : jw_r x4) (hx5 : jw_r x5) (hx10 : jw_r x10) (M : jw_M), jw_Rn G YX12_stored 3 0 0 true (fun q => q) 194 [(0, jR G 127), (1, jI x1), (2, jI x2), (3, jI x3), (4, jI x4), (5, jI x5), (10, jI x10)] [] M (fX12_stored_194 r65 k x1 x2 x3 x4 x5 x10 M) := by
  intro k
  induction k with
  | zero =>
    intro x1 x2 x3 x4 x5 x10 hx1 hx2 hx3 hx4 hx5 hx10 M
    exact jw_none
  | succ k ih =>
    intro x1 x2 x3 x4 x5 x10 hx1 hx2 hx3 hx4 hx5 hx10 M
    rw [fX12_stored_194]
    refine jw_iload (pc := 194) 6 dX12_stored_194 rfl ?_
    refine jw_iload_n (pc := 196) 2 dX12_stored_196 rfl ?_
    refine jw_ic_ge (pc := 197) 220 dX12_stored_197 (by decide) hx10 hx2 (fun _ => ?_) (fun _ => ?_)
    · refine jw_aloadR (pc := 200) 0 dX12_stored_200 rfl ?_
      refine jw_getR (pc := 201) (j := 24) rfl dX12_stored_201 jv_12 ji_12 (Or.inl jt_1255) jg_127 jl_127 (by decide) (by decide) rfl jf_12_24 ?_
      refine jw_iload (pc := 204) 6 dX12_stored_204 rfl ?_
      refine jw_aloadR (pc := 206) 0 dX12_stored_206 rfl ?_
      refine jw_getR (pc := 207) (j := 23) rfl dX12_stored_207 jv_12 ji_12 (Or.inl jt_1254) jg_127 jl_127 (by decide) (by decide) rfl jf_12_23 ?_
      refine jw_iload (pc := 210) 6 dX12_stored_210 rfl ?_
      refine jw_iald (pc := 212) dX12_stored_212 jg_139 jl_139 (jw_ho jg_139 (by decide)) hx10 rfl (fun h20 => ?_)
      refine jw_iast (pc := 213) dX12_stored_213 jg_140 jl_140 (jw_ho jg_140 (by decide)) hx10 h20 rfl ?_
      refine jw_letM (fun M21 => ?_)
      refine jw_iincL (pc := 214) 6 (lv' := (fun y => [(10, y), (0, jR G 127), (1, jI x1), (2, jI x2), (3, jI x3), (4, jI x4), (5, jI x5)])) dX12_stored_214 rfl (Nat.le_of_ble_eq_true rfl) (fun _ => rfl) (fun v22 hv22 => ?_)
      refine jw_goto (pc := 217) 194 dX12_stored_217 (by decide) ?_
      exact jw_few [1, 2, 3, 4, 5, 6, 0] rfl (ih x1 x2 x3 x4 x5 v22 hx1 hx2 hx3 hx4 hx5 hv22 M21)
    · exact jw_few [0, 1, 2, 3, 4, 5] rfl (pX12_stored_220 G r65 hr65 x1 x2 x3 x4 x5 hx1 hx2 hx3 hx4 hx5 M)
def fX12_stored_145 (r65 : Int → Int → Int → Int → Int → jw_M → Option (Int × jw_M)) (r89 : Int → Int → Int → Int → Int → Int → Int → Int → Int → Int → jw_M → Option (Int × jw_M)) (x1 : Int) (x2 : Int) (x3 : Int) (x4 : Int) (x5 : Int) (x6 : Int) (x7 : Int) (x8 : Int) (x10 : Int) (x11 : Int) (xs0 : Int) (M : jw_M) : Option (Int × jw_M) :=
  Option.bind (some xs0) (fun v28 => Option.bind (some (jw_ior x7 (jw_ishl 1 x11))) (fun v29 => Option.bind (fX12_storeCost x10 x11 M) (fun v30 => Option.bind (some (jw_w (x8 + v30))) (fun v31 => Option.bind (some (jw_w (x10 + (-1)))) (fun v32 => r89 x1 x2 x3 x4 x5 x6 v29 v31 v28 v32 M)))))
set_option maxRecDepth 100000 in
theorem pX12_stored_145 (G : jw_G) (r65 : Int → Int → Int → Int → Int → jw_M → Option (Int × jw_M)) (r89 : Int → Int → Int → Int → Int → Int → Int → Int → Int → Int → jw_M → Option (Int × jw_M)) (hr65 : ∀ (x1 : Int) (x2 : Int) (x3 : Int) (x4 : Int) (x5 : Int) (hx1 : jw_r x1) (hx2 : jw_r x2) (hx3 : jw_r x3) (hx4 : jw_r x4) (hx5 : jw_r x5) (M : jw_M), jw_Rn G YX12_stored 3 0 0 true (fun q => q) 65 [(0, jR G 127), (1, jI x1), (2, jI x2), (3, jI x3), (4, jI x4), (5, jI x5)] [] M (r65 x1 x2 x3 x4 x5 M)) (hr89 : ∀ (x1 : Int) (x2 : Int) (x3 : Int) (x4 : Int) (x5 : Int) (x6 : Int) (x7 : Int) (x8 : Int) (x9 : Int) (x10 : Int) (hx1 : jw_r x1) (hx2 : jw_r x2) (hx3 : jw_r x3) (hx4 : jw_r x4) (hx5 : jw_r x5) (hx6 : jw_r x6) (hx7 : jw_r x7) (hx8 : jw_r x8) (hx9 : jw_r x9) (hx10 : jw_r x10) (M : jw_M), jw_Rn G YX12_stored 3 0 0 true (fun q => q) 89 [(0, jR G 127), (1, jI x1), (2, jI x2), (3, jI x3), (4, jI x4), (5, jI x5), (6, jI x6), (7, jI x7), (8, jI x8), (9, jI x9), (10, jI x10)] [] M (r89 x1 x2 x3 x4 x5 x6 x7 x8 x9 x10 M)) : ∀ (x1 : Int) (x2 : Int) (x3 : Int) (x4 : Int) (x5 : Int) (x6 : Int) (x7 : Int) (x8 : Int) (x10 : Int) (x11 : Int) (xs0 : Int) (hx1 : jw_r x1) (hx2 : jw_r x2) (hx3 : jw_r x3) (hx4 : jw_r x4) (hx5 : jw_r x5) (hx6 : jw_r x6) (hx7 : jw_r x7) (hx8 : jw_r x8) (hx10 : jw_r x10) (hx11 : jw_r x11) (hxs0 : jw_r xs0) (M : jw_M), jw_Rn G YX12_stored 3 0 0 true (fun q => q) 145 [(0, jR G 127), (1, jI x1), (2, jI x2), (3, jI x3), (4, jI x4), (5, jI x5), (6, jI x6), (7, jI x7), (8, jI x8), (10, jI x10), (11, jI x11)] [jI xs0] M (fX12_stored_145 r65 r89 x1 x2 x3 x4 x5 x6 x7 x8 x10 x11 xs0 M) := by
  intro x1 x2 x3 x4 x5 x6 x7 x8 x10 x11 xs0 hx1 hx2 hx3 hx4 hx5 hx6 hx7 hx8 hx10 hx11 hxs0 M
  unfold fX12_stored_145
  refine jw_istoreL (pc := 145) (lv' := (fun y => [(9, y), (0, jR G 127), (1, jI x1), (2, jI x2), (3, jI x3), (4, jI x4), (5, jI x5), (6, jI x6), (7, jI x7), (8, jI x8), (10, jI x10), (11, jI x11)])) dX12_stored_145 hxs0 (by decide) (fun _ => rfl) (fun v28 hv28 => ?_)
  refine jw_iload (pc := 147) 8 dX12_stored_147 rfl ?_
  refine jw_iconst (pc := 149) dX12_stored_149 ?_
  refine jw_iload (pc := 150) 11 dX12_stored_150 rfl ?_
  refine jw_ishlr (pc := 152) dX12_stored_152 ?_
  refine jw_iorr (pc := 153) dX12_stored_153 ?_
  refine jw_istoreL (pc := 154) (lv' := (fun y => [(7, y), (9, jI v28), (0, jR G 127), (1, jI x1), (2, jI x2), (3, jI x3), (4, jI x4), (5, jI x5), (6, jI x6), (8, jI x8), (10, jI x10), (11, jI x11)])) dX12_stored_154 (jw_rI _) (by decide) (fun _ => rfl) (fun v29 hv29 => ?_)
  refine jw_iload (pc := 156) 9 dX12_stored_156 rfl ?_
  refine jw_aloadR (pc := 158) 2 dX12_stored_158 rfl ?_
  refine jw_iload (pc := 159) 10 dX12_stored_159 rfl ?_
  refine jw_iload (pc := 161) 11 dX12_stored_161 rfl ?_
  refine jw_callVi (pc := 163) (As := [jI x10, jI x11]) (st := [jI x8]) dX12_stored_163 rfl (Nat.le_of_ble_eq_true rfl) qX12_storeCost jt_1649 jt_1651 jp_84 rfl rfl (Nat.le_of_ble_eq_true rfl) jv_12 rfl jg_127 jl_127 (by decide) (jw_ho jg_127 (by decide)) (kX12_storeCost G x10 x11 hx10 hx11 M) (fun v30 hv30 => ?_)
  refine jw_iadd (pc := 166) dX12_stored_166 ?_
  refine jw_istoreL (pc := 167) (lv' := (fun y => [(8, y), (7, jI v29), (9, jI v28), (0, jR G 127), (1, jI x1), (2, jI x2), (3, jI x3), (4, jI x4), (5, jI x5), (6, jI x6), (10, jI x10), (11, jI x11)])) dX12_stored_167 (jw_wr _) (by decide) (fun _ => rfl) (fun v31 hv31 => ?_)
  refine jw_iincL (pc := 169) 10 (lv' := (fun y => [(10, y), (8, jI v31), (7, jI v29), (9, jI v28), (0, jR G 127), (1, jI x1), (2, jI x2), (3, jI x3), (4, jI x4), (5, jI x5), (6, jI x6), (11, jI x11)])) dX12_stored_169 rfl (Nat.le_of_ble_eq_true rfl) (fun _ => rfl) (fun v32 hv32 => ?_)
  refine jw_goto (pc := 172) 89 dX12_stored_172 (by decide) ?_
  exact jw_few [4, 5, 6, 7, 8, 9, 10, 2, 1, 3, 0] rfl (hr89 x1 x2 x3 x4 x5 x6 v29 v31 v28 v32 hx1 hx2 hx3 hx4 hx5 hx6 hv29 hv31 hv28 hv32 M)
def fX12_stored_144 (r65 : Int → Int → Int → Int → Int → jw_M → Option (Int × jw_M)) (r89 : Int → Int → Int → Int → Int → Int → Int → Int → Int → Int → jw_M → Option (Int × jw_M)) (x1 : Int) (x2 : Int) (x3 : Int) (x4 : Int) (x5 : Int) (x6 : Int) (x7 : Int) (x8 : Int) (x10 : Int) (x11 : Int) (M : jw_M) : Option (Int × jw_M) :=
  fX12_stored_145 r65 r89 x1 x2 x3 x4 x5 x6 x7 x8 x10 x11 0 M
set_option maxRecDepth 100000 in
theorem pX12_stored_144 (G : jw_G) (r65 : Int → Int → Int → Int → Int → jw_M → Option (Int × jw_M)) (r89 : Int → Int → Int → Int → Int → Int → Int → Int → Int → Int → jw_M → Option (Int × jw_M)) (hr65 : ∀ (x1 : Int) (x2 : Int) (x3 : Int) (x4 : Int) (x5 : Int) (hx1 : jw_r x1) (hx2 : jw_r x2) (hx3 : jw_r x3) (hx4 : jw_r x4) (hx5 : jw_r x5) (M : jw_M), jw_Rn G YX12_stored 3 0 0 true (fun q => q) 65 [(0, jR G 127), (1, jI x1), (2, jI x2), (3, jI x3), (4, jI x4), (5, jI x5)] [] M (r65 x1 x2 x3 x4 x5 M)) (hr89 : ∀ (x1 : Int) (x2 : Int) (x3 : Int) (x4 : Int) (x5 : Int) (x6 : Int) (x7 : Int) (x8 : Int) (x9 : Int) (x10 : Int) (hx1 : jw_r x1) (hx2 : jw_r x2) (hx3 : jw_r x3) (hx4 : jw_r x4) (hx5 : jw_r x5) (hx6 : jw_r x6) (hx7 : jw_r x7) (hx8 : jw_r x8) (hx9 : jw_r x9) (hx10 : jw_r x10) (M : jw_M), jw_Rn G YX12_stored 3 0 0 true (fun q => q) 89 [(0, jR G 127), (1, jI x1), (2, jI x2), (3, jI x3), (4, jI x4), (5, jI x5), (6, jI x6), (7, jI x7), (8, jI x8), (9, jI x9), (10, jI x10)] [] M (r89 x1 x2 x3 x4 x5 x6 x7 x8 x9 x10 M)) : ∀ (x1 : Int) (x2 : Int) (x3 : Int) (x4 : Int) (x5 : Int) (x6 : Int) (x7 : Int) (x8 : Int) (x10 : Int) (x11 : Int) (hx1 : jw_r x1) (hx2 : jw_r x2) (hx3 : jw_r x3) (hx4 : jw_r x4) (hx5 : jw_r x5) (hx6 : jw_r x6) (hx7 : jw_r x7) (hx8 : jw_r x8) (hx10 : jw_r x10) (hx11 : jw_r x11) (M : jw_M), jw_Rn G YX12_stored 3 0 0 true (fun q => q) 144 [(0, jR G 127), (1, jI x1), (2, jI x2), (3, jI x3), (4, jI x4), (5, jI x5), (6, jI x6), (7, jI x7), (8, jI x8), (10, jI x10), (11, jI x11)] [] M (fX12_stored_144 r65 r89 x1 x2 x3 x4 x5 x6 x7 x8 x10 x11 M) := by
  intro x1 x2 x3 x4 x5 x6 x7 x8 x10 x11 hx1 hx2 hx3 hx4 hx5 hx6 hx7 hx8 hx10 hx11 M
  unfold fX12_stored_144
  refine jw_iconst (pc := 144) dX12_stored_144 ?_
  exact jw_few [0, 1, 2, 3, 4, 5, 6, 7, 8, 9, 10] rfl (pX12_stored_145 G r65 r89 hr65 hr89 x1 x2 x3 x4 x5 x6 x7 x8 x10 x11 0 hx1 hx2 hx3 hx4 hx5 hx6 hx7 hx8 hx10 hx11 (jw_rc _ rfl) M)
def fX12_stored_89 (r65 : Int → Int → Int → Int → Int → jw_M → Option (Int × jw_M)) : Nat → Int → Int → Int → Int → Int → Int → Int → Int → Int → Int → jw_M → Option (Int × jw_M)
  | 0, _, _, _, _, _, _, _, _, _, _, _ => none
  | k + 1, x1, x2, x3, x4, x5, x6, x7, x8, x9, x10, M => if x10 < 0 then (if x9 = 0 then (fX12_stored_220 r65 x1 x2 x3 x4 x5 M) else (if x8 < x4 then (Option.bind (some x8) (fun v18 => Option.bind (some 0) (fun v19 => fX12_stored_194 r65 jw_fu x1 x2 x3 v18 x5 v19 M))) else (fX12_stored_220 r65 x1 x2 x3 x4 x5 M))) else (if 0 ≤ (5 : Int) ∧ (5 : Int) < 104 then if M 131 5 ≠ 0 then Option.bind (some (jw_w (Int.tmod x6 (M 131 5)))) (fun v24 => if 0 ≤ (5 : Int) ∧ (5 : Int) < 104 then if M 131 5 ≠ 0 then Option.bind (some (jw_w (Int.tdiv x6 (M 131 5)))) (fun v26 => if 0 ≤ x10 ∧ x10 < 5 then Option.bind (some (jw_up M 139 x10 v24)) (fun M27 => if x9 = 0 then (fX12_stored_144 r65 (fX12_stored_89 r65 k) x1 x2 x3 x4 x5 v26 x7 x8 x10 v24 M27) else (if jw_iand (jw_ishr x7 v24) 1 = 0 then (fX12_stored_145 r65 (fX12_stored_89 r65 k) x1 x2 x3 x4 x5 v26 x7 x8 x10 v24 1 M27) else (fX12_stored_144 r65 (fX12_stored_89 r65 k) x1 x2 x3 x4 x5 v26 x7 x8 x10 v24 M27))) else none) else none else none) else none else none)
set_option maxRecDepth 100000 in
theorem pX12_stored_89 (G : jw_G) (r65 : Int → Int → Int → Int → Int → jw_M → Option (Int × jw_M)) (hr65 : ∀ (x1 : Int) (x2 : Int) (x3 : Int) (x4 : Int) (x5 : Int) (hx1 : jw_r x1) (hx2 : jw_r x2) (hx3 : jw_r x3) (hx4 : jw_r x4) (hx5 : jw_r x5) (M : jw_M), jw_Rn G YX12_stored 3 0 0 true (fun q => q) 65 [(0, jR G 127), (1, jI x1), (2, jI x2), (3, jI x3), (4, jI x4), (5, jI x5)] [] M (r65 x1 x2 x3 x4 x5 M)) : ∀ (k : Nat) (x1 : Int) (x2 : Int) (x3 : Int) (x4 : Int) (x5 : Int) (x6 : Int) (x7 : Int) (x8 : Int) (x9 : Int) (x10 : Int) (hx1 : jw_r x1) (hx2 : jw_r x2) (hx3 : jw_r x3) (hx4 : jw_r x4) (hx5 : jw_r x5) (hx6 : jw_r x6) (hx7 : jw_r x7) (hx8 : jw_r x8) (hx9 : jw_r x9) (hx10 : jw_r x10) (M : jw_M), jw_Rn G YX12_stored 3 0 0 true (fun q => q) 89 [(0, jR G 127), (1, jI x1), (2, jI x2), (3, jI x3), (4, jI x4), (5, jI x5), (6, jI x6), (7, jI x7), (8, jI x8), (9, jI x9), (10, jI x10)] [] M (fX12_stored_89 r65 k x1 x2 x3 x4 x5 x6 x7 x8 x9 x10 M) := by
  intro k
  induction k with
  | zero =>
    intro x1 x2 x3 x4 x5 x6 x7 x8 x9 x10 hx1 hx2 hx3 hx4 hx5 hx6 hx7 hx8 hx9 hx10 M
    exact jw_none
  | succ k ih =>
    intro x1 x2 x3 x4 x5 x6 x7 x8 x9 x10 hx1 hx2 hx3 hx4 hx5 hx6 hx7 hx8 hx9 hx10 M
    rw [fX12_stored_89]
    refine jw_iload (pc := 89) 10 dX12_stored_89 rfl ?_
    refine jw_if_lt (pc := 91) 175 dX12_stored_91 (by decide) hx10 (fun _ => ?_) (fun _ => ?_)
    · refine jw_iload (pc := 175) 9 dX12_stored_175 rfl ?_
      refine jw_if_eq (pc := 177) 220 dX12_stored_177 (by decide) hx9 (fun _ => ?_) (fun _ => ?_)
      · exact jw_few [0, 1, 2, 3, 4, 5] rfl (pX12_stored_220 G r65 hr65 x1 x2 x3 x4 x5 hx1 hx2 hx3 hx4 hx5 M)
      · refine jw_iload (pc := 180) 8 dX12_stored_180 rfl ?_
        refine jw_iload (pc := 182) 4 dX12_stored_182 rfl ?_
        refine jw_ic_ge (pc := 184) 220 dX12_stored_184 (by decide) hx8 hx4 (fun _ => ?_) (fun _ => ?_)
        · refine jw_iload (pc := 187) 8 dX12_stored_187 rfl ?_
          refine jw_istoreL (pc := 189) (lv' := (fun y => [(4, y), (0, jR G 127), (1, jI x1), (2, jI x2), (3, jI x3), (5, jI x5), (6, jI x6), (7, jI x7), (8, jI x8), (9, jI x9), (10, jI x10)])) dX12_stored_189 hx8 (by decide) (fun _ => rfl) (fun v18 hv18 => ?_)
          refine jw_iconst (pc := 191) dX12_stored_191 ?_
          refine jw_istoreL (pc := 192) (lv' := (fun y => [(10, y), (4, jI v18), (0, jR G 127), (1, jI x1), (2, jI x2), (3, jI x3), (5, jI x5), (6, jI x6), (7, jI x7), (8, jI x8), (9, jI x9)])) dX12_stored_192 (jw_rc _ rfl) (by decide) (fun _ => rfl) (fun v19 hv19 => ?_)
          exact jw_few [2, 3, 4, 5, 1, 6, 0] rfl (pX12_stored_194 G r65 hr65 jw_fu x1 x2 x3 v18 x5 v19 hx1 hx2 hx3 hv18 hx5 hv19 M)
        · exact jw_few [0, 1, 2, 3, 4, 5] rfl (pX12_stored_220 G r65 hr65 x1 x2 x3 x4 x5 hx1 hx2 hx3 hx4 hx5 M)
    · refine jw_iload (pc := 94) 6 dX12_stored_94 rfl ?_
      refine jw_aloadR (pc := 96) 0 dX12_stored_96 rfl ?_
      refine jw_getR (pc := 97) (j := 5) rfl dX12_stored_97 jv_12 ji_12 (Or.inl jt_1236) jg_127 jl_127 (by decide) (by decide) rfl jf_12_5 ?_
      refine jw_iconst (pc := 100) dX12_stored_100 ?_
      refine jw_iald (pc := 101) dX12_stored_101 jg_131 jl_131 (jw_ho jg_131 (by decide)) (jw_rc _ rfl) rfl (fun h23 => ?_)
      refine jw_irem (pc := 102) dX12_stored_102 hx6 h23 ?_
      refine jw_istoreL (pc := 103) (lv' := (fun y => [(11, y), (0, jR G 127), (1, jI x1), (2, jI x2), (3, jI x3), (4, jI x4), (5, jI x5), (6, jI x6), (7, jI x7), (8, jI x8), (9, jI x9), (10, jI x10)])) dX12_stored_103 (jw_wr _) (by decide) (fun _ => rfl) (fun v24 hv24 => ?_)
      refine jw_iload (pc := 105) 7 dX12_stored_105 rfl ?_
      refine jw_aloadR (pc := 107) 1 dX12_stored_107 rfl ?_
      refine jw_getR (pc := 108) (j := 5) rfl dX12_stored_108 jv_12 ji_12 (Or.inl jt_1236) jg_127 jl_127 (by decide) (by decide) rfl jf_12_5 ?_
      refine jw_iconst (pc := 111) dX12_stored_111 ?_
      refine jw_iald (pc := 112) dX12_stored_112 jg_131 jl_131 (jw_ho jg_131 (by decide)) (jw_rc _ rfl) rfl (fun h25 => ?_)
      refine jw_idiv (pc := 113) dX12_stored_113 hx6 h25 ?_
      refine jw_istoreL (pc := 114) (lv' := (fun y => [(6, y), (11, jI v24), (0, jR G 127), (1, jI x1), (2, jI x2), (3, jI x3), (4, jI x4), (5, jI x5), (7, jI x7), (8, jI x8), (9, jI x9), (10, jI x10)])) dX12_stored_114 (jw_wr _) (by decide) (fun _ => rfl) (fun v26 hv26 => ?_)
      refine jw_aloadR (pc := 116) 2 dX12_stored_116 rfl ?_
      refine jw_getR (pc := 117) (j := 23) rfl dX12_stored_117 jv_12 ji_12 (Or.inl jt_1254) jg_127 jl_127 (by decide) (by decide) rfl jf_12_23 ?_
      refine jw_iload (pc := 120) 11 dX12_stored_120 rfl ?_
      refine jw_iload (pc := 122) 1 dX12_stored_122 rfl ?_
      refine jw_iast (pc := 124) dX12_stored_124 jg_139 jl_139 (jw_ho jg_139 (by decide)) hx10 hv24 rfl ?_
      refine jw_letM (fun M27 => ?_)
      refine jw_iload (pc := 125) 10 dX12_stored_125 rfl ?_
      refine jw_if_eq (pc := 127) 144 dX12_stored_127 (by decide) hx9 (fun _ => ?_) (fun _ => ?_)
      · exact jw_few [2, 3, 4, 5, 6, 7, 0, 8, 9, 11, 1] rfl (pX12_stored_144 G r65 (fX12_stored_89 r65 k) hr65 ih x1 x2 x3 x4 x5 v26 x7 x8 x10 v24 hx1 hx2 hx3 hx4 hx5 hv26 hx7 hx8 hx10 hv24 M27)
      · refine jw_iload (pc := 130) 8 dX12_stored_130 rfl ?_
        refine jw_iload (pc := 132) 1 dX12_stored_132 rfl ?_
        refine jw_ishrr (pc := 134) dX12_stored_134 ?_
        refine jw_iconst (pc := 135) dX12_stored_135 ?_
        refine jw_iandr (pc := 136) dX12_stored_136 ?_
        refine jw_if_ne (pc := 137) 144 dX12_stored_137 (by decide) (jw_rI _) (fun _ => ?_) (fun _ => ?_)
        · refine jw_iconst (pc := 140) dX12_stored_140 ?_
          refine jw_goto (pc := 141) 145 dX12_stored_141 (by decide) ?_
          exact jw_few [2, 3, 4, 5, 6, 7, 0, 8, 9, 11, 1] rfl (pX12_stored_145 G r65 (fX12_stored_89 r65 k) hr65 ih x1 x2 x3 x4 x5 v26 x7 x8 x10 v24 1 hx1 hx2 hx3 hx4 hx5 hv26 hx7 hx8 hx10 hv24 (jw_rc _ rfl) M27)
        · exact jw_few [2, 3, 4, 5, 6, 7, 0, 8, 9, 11, 1] rfl (pX12_stored_144 G r65 (fX12_stored_89 r65 k) hr65 ih x1 x2 x3 x4 x5 v26 x7 x8 x10 v24 hx1 hx2 hx3 hx4 hx5 hv26 hx7 hx8 hx10 hv24 M27)
def fX12_stored_65 : Nat → Int → Int → Int → Int → Int → jw_M → Option (Int × jw_M)
  | 0, _, _, _, _, _, _ => none
  | k + 1, x1, x2, x3, x4, x5, M => if x5 < x3 then (Option.bind (some x5) (fun v12 => Option.bind (some 0) (fun v13 => Option.bind (some 0) (fun v14 => Option.bind (some 1) (fun v15 => Option.bind (some (jw_w (x2 - 1))) (fun v16 => fX12_stored_89 (fX12_stored_65 k) jw_fu x1 x2 x3 x4 x5 v12 v13 v14 v15 v16 M)))))) else (if x4 < 1000000 then (if x1 = (-1) then (some (x4, M)) else (if x1 < x2 then (if 0 ≤ x1 ∧ x1 < 5 then some (M 140 x1, M) else none) else (some ((-1000000), M)))) else (some ((-1000000), M)))
set_option maxRecDepth 100000 in
theorem pX12_stored_65 (G : jw_G) : ∀ (k : Nat) (x1 : Int) (x2 : Int) (x3 : Int) (x4 : Int) (x5 : Int) (hx1 : jw_r x1) (hx2 : jw_r x2) (hx3 : jw_r x3) (hx4 : jw_r x4) (hx5 : jw_r x5) (M : jw_M), jw_Rn G YX12_stored 3 0 0 true (fun q => q) 65 [(0, jR G 127), (1, jI x1), (2, jI x2), (3, jI x3), (4, jI x4), (5, jI x5)] [] M (fX12_stored_65 k x1 x2 x3 x4 x5 M) := by
  intro k
  induction k with
  | zero =>
    intro x1 x2 x3 x4 x5 hx1 hx2 hx3 hx4 hx5 M
    exact jw_none
  | succ k ih =>
    intro x1 x2 x3 x4 x5 hx1 hx2 hx3 hx4 hx5 M
    rw [fX12_stored_65]
    refine jw_iload (pc := 65) 5 dX12_stored_65 rfl ?_
    refine jw_iload_n (pc := 67) 3 dX12_stored_67 rfl ?_
    refine jw_ic_ge (pc := 68) 226 dX12_stored_68 (by decide) hx5 hx3 (fun _ => ?_) (fun _ => ?_)
    · refine jw_iload (pc := 71) 5 dX12_stored_71 rfl ?_
      refine jw_istoreL (pc := 73) (lv' := (fun y => [(6, y), (0, jR G 127), (1, jI x1), (2, jI x2), (3, jI x3), (4, jI x4), (5, jI x5)])) dX12_stored_73 hx5 (by decide) (fun _ => rfl) (fun v12 hv12 => ?_)
      refine jw_iconst (pc := 75) dX12_stored_75 ?_
      refine jw_istoreL (pc := 76) (lv' := (fun y => [(7, y), (6, jI v12), (0, jR G 127), (1, jI x1), (2, jI x2), (3, jI x3), (4, jI x4), (5, jI x5)])) dX12_stored_76 (jw_rc _ rfl) (by decide) (fun _ => rfl) (fun v13 hv13 => ?_)
      refine jw_iconst (pc := 78) dX12_stored_78 ?_
      refine jw_istoreL (pc := 79) (lv' := (fun y => [(8, y), (7, jI v13), (6, jI v12), (0, jR G 127), (1, jI x1), (2, jI x2), (3, jI x3), (4, jI x4), (5, jI x5)])) dX12_stored_79 (jw_rc _ rfl) (by decide) (fun _ => rfl) (fun v14 hv14 => ?_)
      refine jw_iconst (pc := 81) dX12_stored_81 ?_
      refine jw_istoreL (pc := 82) (lv' := (fun y => [(9, y), (8, jI v14), (7, jI v13), (6, jI v12), (0, jR G 127), (1, jI x1), (2, jI x2), (3, jI x3), (4, jI x4), (5, jI x5)])) dX12_stored_82 (jw_rc _ rfl) (by decide) (fun _ => rfl) (fun v15 hv15 => ?_)
      refine jw_iload_n (pc := 84) 6 dX12_stored_84 rfl ?_
      refine jw_iconst (pc := 85) dX12_stored_85 ?_
      refine jw_isub (pc := 86) dX12_stored_86 ?_
      refine jw_istoreL (pc := 87) (lv' := (fun y => [(10, y), (9, jI v15), (8, jI v14), (7, jI v13), (6, jI v12), (0, jR G 127), (1, jI x1), (2, jI x2), (3, jI x3), (4, jI x4), (5, jI x5)])) dX12_stored_87 (jw_wr _) (by decide) (fun _ => rfl) (fun v16 hv16 => ?_)
      exact jw_few [5, 6, 7, 8, 9, 10, 4, 3, 2, 1, 0] rfl (pX12_stored_89 G (fX12_stored_65 k) ih jw_fu x1 x2 x3 x4 x5 v12 v13 v14 v15 v16 hx1 hx2 hx3 hx4 hx5 hv12 hv13 hv14 hv15 hv16 M)
    · refine jw_iload (pc := 226) 4 dX12_stored_226 rfl ?_
      refine jw_ldc (pc := 228) (n := 1000000) dX12_stored_228 jt_1469 (by decide) ?_
      refine jw_ic_lt (pc := 230) 239 dX12_stored_230 (by decide) hx4 (jw_rc _ rfl) (fun _ => ?_) (fun _ => ?_)
      · refine jw_iload_n (pc := 239) 1 dX12_stored_239 rfl ?_
        refine jw_iconst (pc := 240) dX12_stored_240 ?_
        refine jw_ic_ne (pc := 241) 250 dX12_stored_241 (by decide) hx1 (jw_rc _ rfl) (fun _ => ?_) (fun _ => ?_)
        · refine jw_iload (pc := 244) 4 dX12_stored_244 rfl ?_
          refine jw_i2lr (pc := 246) dX12_stored_246 hx4 ?_
          refine jw_goto (pc := 247) 268 dX12_stored_247 (by decide) ?_
          exact jw_ret (pc := 268) (v := x4) dX12_stored_268 (jw_rq hx4) rfl rfl
        · refine jw_iload_n (pc := 250) 1 dX12_stored_250 rfl ?_
          refine jw_iload_n (pc := 251) 2 dX12_stored_251 rfl ?_
          refine jw_ic_ge (pc := 252) 265 dX12_stored_252 (by decide) hx1 hx2 (fun _ => ?_) (fun _ => ?_)
          · refine jw_aloadR (pc := 255) 0 dX12_stored_255 rfl ?_
            refine jw_getR (pc := 256) (j := 24) rfl dX12_stored_256 jv_12 ji_12 (Or.inl jt_1255) jg_127 jl_127 (by decide) (by decide) rfl jf_12_24 ?_
            refine jw_iload_n (pc := 259) 1 dX12_stored_259 rfl ?_
            refine jw_iald (pc := 260) dX12_stored_260 jg_140 jl_140 (jw_ho jg_140 (by decide)) hx1 rfl (fun h33 => ?_)
            refine jw_i2lr (pc := 261) dX12_stored_261 h33 ?_
            refine jw_goto (pc := 262) 268 dX12_stored_262 (by decide) ?_
            exact jw_ret (pc := 268) (v := M 140 x1) dX12_stored_268 (jw_rq h33) rfl rfl
          · refine jw_ldc2 (pc := 265) (n := (-1000000)) dX12_stored_265 jt_1482 (by decide) ?_
            exact jw_ret (pc := 268) (v := (-1000000)) dX12_stored_268 (jw_qc _ rfl) rfl rfl
      · refine jw_ldc2 (pc := 233) (n := (-1000000)) dX12_stored_233 jt_1482 (by decide) ?_
        refine jw_goto (pc := 236) 268 dX12_stored_236 (by decide) ?_
        exact jw_ret (pc := 268) (v := (-1000000)) dX12_stored_268 (jw_qc _ rfl) rfl rfl
def fX12_stored_37 : Nat → Int → Int → Int → Int → jw_M → Option (Int × jw_M)
  | 0, _, _, _, _, _ => none
  | k + 1, x1, x2, x3, x4, M => if x4 < x2 then (if 0 ≤ (5 : Int) ∧ (5 : Int) < 104 then Option.bind (some (jw_w (x3 * (M 131 5)))) (fun v8 => Option.bind (some (jw_w (x4 + 1))) (fun v9 => fX12_stored_37 k x1 x2 v8 v9 M)) else none) else (Option.bind (some 1000000) (fun v10 => Option.bind (some 0) (fun v11 => fX12_stored_65 jw_fu x1 x2 x3 v10 v11 M)))
set_option maxRecDepth 100000 in
theorem pX12_stored_37 (G : jw_G) : ∀ (k : Nat) (x1 : Int) (x2 : Int) (x3 : Int) (x4 : Int) (hx1 : jw_r x1) (hx2 : jw_r x2) (hx3 : jw_r x3) (hx4 : jw_r x4) (M : jw_M), jw_Rn G YX12_stored 3 0 0 true (fun q => q) 37 [(0, jR G 127), (1, jI x1), (2, jI x2), (3, jI x3), (4, jI x4)] [] M (fX12_stored_37 k x1 x2 x3 x4 M) := by
  intro k
  induction k with
  | zero =>
    intro x1 x2 x3 x4 hx1 hx2 hx3 hx4 M
    exact jw_none
  | succ k ih =>
    intro x1 x2 x3 x4 hx1 hx2 hx3 hx4 M
    rw [fX12_stored_37]
    refine jw_iload (pc := 37) 4 dX12_stored_37 rfl ?_
    refine jw_iload_n (pc := 39) 2 dX12_stored_39 rfl ?_
    refine jw_ic_ge (pc := 40) 58 dX12_stored_40 (by decide) hx4 hx2 (fun _ => ?_) (fun _ => ?_)
    · refine jw_iload_n (pc := 43) 3 dX12_stored_43 rfl ?_
      refine jw_aloadR (pc := 44) 0 dX12_stored_44 rfl ?_
      refine jw_getR (pc := 45) (j := 5) rfl dX12_stored_45 jv_12 ji_12 (Or.inl jt_1236) jg_127 jl_127 (by decide) (by decide) rfl jf_12_5 ?_
      refine jw_iconst (pc := 48) dX12_stored_48 ?_
      refine jw_iald (pc := 49) dX12_stored_49 jg_131 jl_131 (jw_ho jg_131 (by decide)) (jw_rc _ rfl) rfl (fun h7 => ?_)
      refine jw_imul (pc := 50) dX12_stored_50 ?_
      refine jw_istore_nL (pc := 51) (lv' := (fun y => [(3, y), (0, jR G 127), (1, jI x1), (2, jI x2), (4, jI x4)])) dX12_stored_51 (jw_wr _) (by decide) (fun _ => rfl) (fun v8 hv8 => ?_)
      refine jw_iincL (pc := 52) 4 (lv' := (fun y => [(4, y), (3, jI v8), (0, jR G 127), (1, jI x1), (2, jI x2)])) dX12_stored_52 rfl (Nat.le_of_ble_eq_true rfl) (fun _ => rfl) (fun v9 hv9 => ?_)
      refine jw_goto (pc := 55) 37 dX12_stored_55 (by decide) ?_
      exact jw_few [2, 3, 4, 1, 0] rfl (ih x1 x2 v8 v9 hx1 hx2 hv8 hv9 M)
    · refine jw_ldc (pc := 58) (n := 1000000) dX12_stored_58 jt_1469 (by decide) ?_
      refine jw_istoreL (pc := 60) (lv' := (fun y => [(4, y), (0, jR G 127), (1, jI x1), (2, jI x2), (3, jI x3)])) dX12_stored_60 (jw_rc _ rfl) (by decide) (fun _ => rfl) (fun v10 hv10 => ?_)
      refine jw_iconst (pc := 62) dX12_stored_62 ?_
      refine jw_istoreL (pc := 63) (lv' := (fun y => [(5, y), (4, jI v10), (0, jR G 127), (1, jI x1), (2, jI x2), (3, jI x3)])) dX12_stored_63 (jw_rc _ rfl) (by decide) (fun _ => rfl) (fun v11 hv11 => ?_)
      exact jw_few [2, 3, 4, 5, 1, 0] rfl (pX12_stored_65 G jw_fu x1 x2 x3 v10 v11 hx1 hx2 hx3 hv10 hv11 M)
def fX12_stored (a1 : Int) (M : jw_M) : Option (Int × jw_M) :=
  Option.bind (some (jw_up M 127 0 0)) (fun M1 => if a1 < (-1) then (some ((-9000000000000000001), M1)) else (if M1 127 7 = 0 then (some ((-9000000000000000002), M1)) else (if 0 ≤ (3 : Int) ∧ (3 : Int) < 104 then Option.bind (some (M1 131 3)) (fun v4 => Option.bind (some 1) (fun v5 => Option.bind (some 0) (fun v6 => fX12_stored_37 jw_fu a1 v4 v5 v6 M1))) else none)))
set_option maxRecDepth 100000 in
theorem rX12_stored (G : jw_G) (a1 : Int) (ha1 : jw_r a1) (M : jw_M) : jw_Rn G YX12_stored 3 0 0 true (fun q => q) 0 [(0, jR G 127), (1, jI a1)] [] M (fX12_stored a1 M) := by
  unfold fX12_stored
  refine jw_aloadR (pc := 0) 0 dX12_stored_0 rfl ?_
  refine jw_iconst (pc := 1) dX12_stored_1 ?_
  refine jw_putI (pc := 2) (j := 0) tyX12 rfl dX12_stored_2 jv_12 ji_12 tyX12_ok nmX12 (Or.inl jt_1231) rfl jg_127 jl_127 (by decide) (by decide) (jw_ho jg_127 (by decide)) rfl rfl (jw_rc _ rfl) rfl ?_
  refine jw_letM (fun M1 => ?_)
  refine jw_iload_n (pc := 5) 1 dX12_stored_5 rfl ?_
  refine jw_iconst (pc := 6) dX12_stored_6 ?_
  refine jw_ic_ge (pc := 7) 14 dX12_stored_7 (by decide) ha1 (jw_rc _ rfl) (fun _ => ?_) (fun _ => ?_)
  · refine jw_ldc2 (pc := 10) (n := (-9000000000000000001)) dX12_stored_10 jt_1349 (by decide) ?_
    exact jw_ret (pc := 13) (v := (-9000000000000000001)) dX12_stored_13 (jw_qc _ rfl) rfl rfl
  · refine jw_aloadR (pc := 14) 0 dX12_stored_14 rfl ?_
    refine jw_getI (pc := 15) (j := 7) rfl dX12_stored_15 jv_12 ji_12 (Or.inl jt_1238) jg_127 jl_127 (by decide) (by decide) (jw_ho jg_127 (by decide)) (Or.inr rfl) rfl (fun h2 => ?_)
    refine jw_if_ne (pc := 18) 25 dX12_stored_18 (by decide) h2 (fun _ => ?_) (fun _ => ?_)
    · refine jw_ldc2 (pc := 21) (n := (-9000000000000000002)) dX12_stored_21 jt_1513 (by decide) ?_
      exact jw_ret (pc := 24) (v := (-9000000000000000002)) dX12_stored_24 (jw_qc _ rfl) rfl rfl
    · refine jw_aloadR (pc := 25) 0 dX12_stored_25 rfl ?_
      refine jw_getR (pc := 26) (j := 5) rfl dX12_stored_26 jv_12 ji_12 (Or.inl jt_1236) jg_127 jl_127 (by decide) (by decide) rfl jf_12_5 ?_
      refine jw_iconst (pc := 29) dX12_stored_29 ?_
      refine jw_iald (pc := 30) dX12_stored_30 jg_131 jl_131 (jw_ho jg_131 (by decide)) (jw_rc _ rfl) rfl (fun h3 => ?_)
      refine jw_istore_nL (pc := 31) (lv' := (fun y => [(2, y), (0, jR G 127), (1, jI a1)])) dX12_stored_31 h3 (by decide) (fun _ => rfl) (fun v4 hv4 => ?_)
      refine jw_iconst (pc := 32) dX12_stored_32 ?_
      refine jw_istore_nL (pc := 33) (lv' := (fun y => [(3, y), (2, jI v4), (0, jR G 127), (1, jI a1)])) dX12_stored_33 (jw_rc _ rfl) (by decide) (fun _ => rfl) (fun v5 hv5 => ?_)
      refine jw_iconst (pc := 34) dX12_stored_34 ?_
      refine jw_istoreL (pc := 35) (lv' := (fun y => [(4, y), (3, jI v5), (2, jI v4), (0, jR G 127), (1, jI a1)])) dX12_stored_35 (jw_rc _ rfl) (by decide) (fun _ => rfl) (fun v6 hv6 => ?_)
      exact jw_few [3, 4, 2, 1, 0] rfl (pX12_stored_37 G jw_fu a1 v4 v5 v6 ha1 hv4 hv5 hv6 M1)
theorem kX12_stored (G : jw_G) (a1 : Int) (ha1 : jw_r a1) (M : jw_M) : jw_Ct G YX12_stored (some .long) 3 0 0 true (fun q => q) yX12_stored [jR G 127, jI a1] M (fX12_stored a1 M) := jw_met (by decide) rfl rfl rfl (Nat.le_of_ble_eq_true rfl) (rX12_stored G a1 ha1 M)
abbrev YX12_layRoom : jw_Y := (RX12, cX12_layRoom, 5, 0, "layRoom")
theorem qX12_layRoom : jw_cy YX12_layRoom none yX12_layRoom 2 := ⟨by decide, jt_1660, jt_14, by decide, by decide +kernel⟩
theorem dX12_layRoom_0 : decode cX12_layRoom 0 = .ok (.iconst 0, 1) := by decide +kernel
theorem dX12_layRoom_1 : decode cX12_layRoom 1 = .ok (.istore_n 3, 1) := by decide +kernel
theorem dX12_layRoom_2 : decode cX12_layRoom 2 = .ok (.iload_n 3, 1) := by decide +kernel
theorem dX12_layRoom_3 : decode cX12_layRoom 3 = .ok (.sipush 196, 3) := by decide +kernel
theorem dX12_layRoom_6 : decode cX12_layRoom 6 = .ok (.if_icmp .ge 16, 3) := by decide +kernel
theorem dX12_layRoom_9 : decode cX12_layRoom 9 = .ok (.aload_n 0, 1) := by decide +kernel
theorem dX12_layRoom_10 : decode cX12_layRoom 10 = .ok (.getfield 49, 3) := by decide +kernel
theorem dX12_layRoom_13 : decode cX12_layRoom 13 = .ok (.iload_n 3, 1) := by decide +kernel
theorem dX12_layRoom_14 : decode cX12_layRoom 14 = .ok (.iconst 0, 1) := by decide +kernel
theorem dX12_layRoom_15 : decode cX12_layRoom 15 = .ok (.iastore, 1) := by decide +kernel
theorem dX12_layRoom_16 : decode cX12_layRoom 16 = .ok (.iinc 3 1, 3) := by decide +kernel
theorem dX12_layRoom_19 : decode cX12_layRoom 19 = .ok (.goto (-17), 3) := by decide +kernel
theorem dX12_layRoom_22 : decode cX12_layRoom 22 = .ok (.iconst 0, 1) := by decide +kernel
theorem dX12_layRoom_23 : decode cX12_layRoom 23 = .ok (.istore_n 3, 1) := by decide +kernel
theorem dX12_layRoom_24 : decode cX12_layRoom 24 = .ok (.iload_n 3, 1) := by decide +kernel
theorem dX12_layRoom_25 : decode cX12_layRoom 25 = .ok (.aload_n 0, 1) := by decide +kernel
theorem dX12_layRoom_26 : decode cX12_layRoom 26 = .ok (.getfield 19, 3) := by decide +kernel
theorem dX12_layRoom_29 : decode cX12_layRoom 29 = .ok (.iconst 0, 1) := by decide +kernel
theorem dX12_layRoom_30 : decode cX12_layRoom 30 = .ok (.iaload, 1) := by decide +kernel
theorem dX12_layRoom_31 : decode cX12_layRoom 31 = .ok (.if_icmp .ge 97, 3) := by decide +kernel
theorem dX12_layRoom_34 : decode cX12_layRoom 34 = .ok (.aload_n 0, 1) := by decide +kernel
theorem dX12_layRoom_35 : decode cX12_layRoom 35 = .ok (.getfield 49, 3) := by decide +kernel
theorem dX12_layRoom_38 : decode cX12_layRoom 38 = .ok (.bipush 14, 2) := by decide +kernel
theorem dX12_layRoom_40 : decode cX12_layRoom 40 = .ok (.iload_n 3, 1) := by decide +kernel
theorem dX12_layRoom_41 : decode cX12_layRoom 41 = .ok (.imul, 1) := by decide +kernel
theorem dX12_layRoom_42 : decode cX12_layRoom 42 = .ok (.bipush 7, 2) := by decide +kernel
theorem dX12_layRoom_44 : decode cX12_layRoom 44 = .ok (.iadd, 1) := by decide +kernel
theorem dX12_layRoom_45 : decode cX12_layRoom 45 = .ok (.iload_n 3, 1) := by decide +kernel
theorem dX12_layRoom_46 : decode cX12_layRoom 46 = .ok (.iadd, 1) := by decide +kernel
theorem dX12_layRoom_47 : decode cX12_layRoom 47 = .ok (.iload_n 3, 1) := by decide +kernel
theorem dX12_layRoom_48 : decode cX12_layRoom 48 = .ok (.iload_n 1, 1) := by decide +kernel
theorem dX12_layRoom_49 : decode cX12_layRoom 49 = .ok (.if_icmp .eq 8, 3) := by decide +kernel
theorem dX12_layRoom_52 : decode cX12_layRoom 52 = .ok (.iload_n 3, 1) := by decide +kernel
theorem dX12_layRoom_53 : decode cX12_layRoom 53 = .ok (.iload_n 2, 1) := by decide +kernel
theorem dX12_layRoom_54 : decode cX12_layRoom 54 = .ok (.if_icmp .ne 8, 3) := by decide +kernel
theorem dX12_layRoom_57 : decode cX12_layRoom 57 = .ok (.bipush 99, 2) := by decide +kernel
theorem dX12_layRoom_59 : decode cX12_layRoom 59 = .ok (.goto 4, 3) := by decide +kernel
theorem dX12_layRoom_62 : decode cX12_layRoom 62 = .ok (.iconst 1, 1) := by decide +kernel
theorem dX12_layRoom_63 : decode cX12_layRoom 63 = .ok (.iastore, 1) := by decide +kernel
theorem dX12_layRoom_64 : decode cX12_layRoom 64 = .ok (.iconst 0, 1) := by decide +kernel
theorem dX12_layRoom_65 : decode cX12_layRoom 65 = .ok (.istore 4, 2) := by decide +kernel
theorem dX12_layRoom_67 : decode cX12_layRoom 67 = .ok (.iload 4, 2) := by decide +kernel
theorem dX12_layRoom_69 : decode cX12_layRoom 69 = .ok (.aload_n 0, 1) := by decide +kernel
theorem dX12_layRoom_70 : decode cX12_layRoom 70 = .ok (.getfield 19, 3) := by decide +kernel
theorem dX12_layRoom_73 : decode cX12_layRoom 73 = .ok (.iconst 0, 1) := by decide +kernel
theorem dX12_layRoom_74 : decode cX12_layRoom 74 = .ok (.iaload, 1) := by decide +kernel
theorem dX12_layRoom_75 : decode cX12_layRoom 75 = .ok (.if_icmp .ge 47, 3) := by decide +kernel
theorem dX12_layRoom_78 : decode cX12_layRoom 78 = .ok (.aload_n 0, 1) := by decide +kernel
theorem dX12_layRoom_79 : decode cX12_layRoom 79 = .ok (.getfield 49, 3) := by decide +kernel
theorem dX12_layRoom_82 : decode cX12_layRoom 82 = .ok (.bipush 14, 2) := by decide +kernel
theorem dX12_layRoom_84 : decode cX12_layRoom 84 = .ok (.bipush 7, 2) := by decide +kernel
theorem dX12_layRoom_86 : decode cX12_layRoom 86 = .ok (.iload_n 3, 1) := by decide +kernel
theorem dX12_layRoom_87 : decode cX12_layRoom 87 = .ok (.iadd, 1) := by decide +kernel
theorem dX12_layRoom_88 : decode cX12_layRoom 88 = .ok (.imul, 1) := by decide +kernel
theorem dX12_layRoom_89 : decode cX12_layRoom 89 = .ok (.iload 4, 2) := by decide +kernel
theorem dX12_layRoom_91 : decode cX12_layRoom 91 = .ok (.iadd, 1) := by decide +kernel
theorem dX12_layRoom_92 : decode cX12_layRoom 92 = .ok (.aload_n 0, 1) := by decide +kernel
theorem dX12_layRoom_93 : decode cX12_layRoom 93 = .ok (.getfield 19, 3) := by decide +kernel
theorem dX12_layRoom_96 : decode cX12_layRoom 96 = .ok (.bipush 14, 2) := by decide +kernel
theorem dX12_layRoom_98 : decode cX12_layRoom 98 = .ok (.bipush 7, 2) := by decide +kernel
theorem dX12_layRoom_100 : decode cX12_layRoom 100 = .ok (.iload_n 3, 1) := by decide +kernel
theorem dX12_layRoom_101 : decode cX12_layRoom 101 = .ok (.imul, 1) := by decide +kernel
theorem dX12_layRoom_102 : decode cX12_layRoom 102 = .ok (.iadd, 1) := by decide +kernel
theorem dX12_layRoom_103 : decode cX12_layRoom 103 = .ok (.iload 4, 2) := by decide +kernel
theorem dX12_layRoom_105 : decode cX12_layRoom 105 = .ok (.iadd, 1) := by decide +kernel
theorem dX12_layRoom_106 : decode cX12_layRoom 106 = .ok (.iaload, 1) := by decide +kernel
theorem dX12_layRoom_107 : decode cX12_layRoom 107 = .ok (.ifCond .le 7, 3) := by decide +kernel
theorem dX12_layRoom_110 : decode cX12_layRoom 110 = .ok (.iconst 1, 1) := by decide +kernel
theorem dX12_layRoom_111 : decode cX12_layRoom 111 = .ok (.goto 4, 3) := by decide +kernel
theorem dX12_layRoom_114 : decode cX12_layRoom 114 = .ok (.iconst 0, 1) := by decide +kernel
theorem dX12_layRoom_115 : decode cX12_layRoom 115 = .ok (.iastore, 1) := by decide +kernel
theorem dX12_layRoom_116 : decode cX12_layRoom 116 = .ok (.iinc 4 1, 3) := by decide +kernel
theorem dX12_layRoom_119 : decode cX12_layRoom 119 = .ok (.goto (-52), 3) := by decide +kernel
theorem dX12_layRoom_122 : decode cX12_layRoom 122 = .ok (.iinc 3 1, 3) := by decide +kernel
theorem dX12_layRoom_125 : decode cX12_layRoom 125 = .ok (.goto (-101), 3) := by decide +kernel
theorem dX12_layRoom_128 : decode cX12_layRoom 128 = .ok (.return_, 1) := by decide +kernel
def fX12_layRoom_115 (r24 : Int → Int → Int → jw_M → Option jw_M) (r67 : Int → Int → Int → Int → jw_M → Option jw_M) (x1 : Int) (x2 : Int) (x3 : Int) (x4 : Int) (xs0 : Int) (xs1 : Int) (M : jw_M) : Option jw_M :=
  if 0 ≤ xs1 ∧ xs1 < 196 then Option.bind (some (jw_up M 141 xs1 xs0)) (fun M10 => Option.bind (some (jw_w (x4 + 1))) (fun v11 => r67 x1 x2 x3 v11 M10)) else none
set_option maxRecDepth 100000 in
theorem pX12_layRoom_115 (G : jw_G) (r24 : Int → Int → Int → jw_M → Option jw_M) (r67 : Int → Int → Int → Int → jw_M → Option jw_M) (hr24 : ∀ (x1 : Int) (x2 : Int) (x3 : Int) (hx1 : jw_r x1) (hx2 : jw_r x2) (hx3 : jw_r x3) (M : jw_M), jw_Rn G YX12_layRoom 1 0 0 true (fun M1 => (0, M1)) 24 [(0, jR G 127), (1, jI x1), (2, jI x2), (3, jI x3)] [] M (r24 x1 x2 x3 M)) (hr67 : ∀ (x1 : Int) (x2 : Int) (x3 : Int) (x4 : Int) (hx1 : jw_r x1) (hx2 : jw_r x2) (hx3 : jw_r x3) (hx4 : jw_r x4) (M : jw_M), jw_Rn G YX12_layRoom 1 0 0 true (fun M1 => (0, M1)) 67 [(0, jR G 127), (1, jI x1), (2, jI x2), (3, jI x3), (4, jI x4)] [] M (r67 x1 x2 x3 x4 M)) : ∀ (x1 : Int) (x2 : Int) (x3 : Int) (x4 : Int) (xs0 : Int) (xs1 : Int) (hx1 : jw_r x1) (hx2 : jw_r x2) (hx3 : jw_r x3) (hx4 : jw_r x4) (hxs0 : jw_r xs0) (hxs1 : jw_r xs1) (M : jw_M), jw_Rn G YX12_layRoom 1 0 0 true (fun M1 => (0, M1)) 115 [(0, jR G 127), (1, jI x1), (2, jI x2), (3, jI x3), (4, jI x4)] [jI xs0, jI xs1, jR G 141] M (fX12_layRoom_115 r24 r67 x1 x2 x3 x4 xs0 xs1 M) := by
  intro x1 x2 x3 x4 xs0 xs1 hx1 hx2 hx3 hx4 hxs0 hxs1 M
  unfold fX12_layRoom_115
  refine jw_iast (pc := 115) dX12_layRoom_115 jg_141 jl_141 (jw_ho jg_141 (by decide)) hxs1 hxs0 rfl ?_
  refine jw_letM (fun M10 => ?_)
  refine jw_iincL (pc := 116) 4 (lv' := (fun y => [(4, y), (0, jR G 127), (1, jI x1), (2, jI x2), (3, jI x3)])) dX12_layRoom_116 rfl (Nat.le_of_ble_eq_true rfl) (fun _ => rfl) (fun v11 hv11 => ?_)
  refine jw_goto (pc := 119) 67 dX12_layRoom_119 (by decide) ?_
  exact jw_few [1, 2, 3, 4, 0] rfl (hr67 x1 x2 x3 v11 hx1 hx2 hx3 hv11 M10)
def fX12_layRoom_67 (r24 : Int → Int → Int → jw_M → Option jw_M) : Nat → Int → Int → Int → Int → jw_M → Option jw_M
  | 0, _, _, _, _, _ => none
  | k + 1, x1, x2, x3, x4, M => if 0 ≤ (0 : Int) ∧ (0 : Int) < 104 then if x4 < M 131 0 then (if 0 ≤ jw_w ((jw_w (14 + (jw_w (7 * x3)))) + x4) ∧ jw_w ((jw_w (14 + (jw_w (7 * x3)))) + x4) < 104 then if (0 : Int) < M 131 (jw_w ((jw_w (14 + (jw_w (7 * x3)))) + x4)) then (fX12_layRoom_115 r24 (fX12_layRoom_67 r24 k) x1 x2 x3 x4 1 (jw_w ((jw_w (14 * (jw_w (7 + x3)))) + x4)) M) else (fX12_layRoom_115 r24 (fX12_layRoom_67 r24 k) x1 x2 x3 x4 0 (jw_w ((jw_w (14 * (jw_w (7 + x3)))) + x4)) M) else none) else (Option.bind (some (jw_w (x3 + 1))) (fun v12 => r24 x1 x2 v12 M)) else none
set_option maxRecDepth 100000 in
theorem pX12_layRoom_67 (G : jw_G) (r24 : Int → Int → Int → jw_M → Option jw_M) (hr24 : ∀ (x1 : Int) (x2 : Int) (x3 : Int) (hx1 : jw_r x1) (hx2 : jw_r x2) (hx3 : jw_r x3) (M : jw_M), jw_Rn G YX12_layRoom 1 0 0 true (fun M1 => (0, M1)) 24 [(0, jR G 127), (1, jI x1), (2, jI x2), (3, jI x3)] [] M (r24 x1 x2 x3 M)) : ∀ (k : Nat) (x1 : Int) (x2 : Int) (x3 : Int) (x4 : Int) (hx1 : jw_r x1) (hx2 : jw_r x2) (hx3 : jw_r x3) (hx4 : jw_r x4) (M : jw_M), jw_Rn G YX12_layRoom 1 0 0 true (fun M1 => (0, M1)) 67 [(0, jR G 127), (1, jI x1), (2, jI x2), (3, jI x3), (4, jI x4)] [] M (fX12_layRoom_67 r24 k x1 x2 x3 x4 M) := by
  intro k
  induction k with
  | zero =>
    intro x1 x2 x3 x4 hx1 hx2 hx3 hx4 M
    exact jw_none
  | succ k ih =>
    intro x1 x2 x3 x4 hx1 hx2 hx3 hx4 M
    rw [fX12_layRoom_67]
    refine jw_iload (pc := 67) 4 dX12_layRoom_67 rfl ?_
    refine jw_aloadR (pc := 69) 0 dX12_layRoom_69 rfl ?_
    refine jw_getR (pc := 70) (j := 5) rfl dX12_layRoom_70 jv_12 ji_12 (Or.inl jt_1236) jg_127 jl_127 (by decide) (by decide) rfl jf_12_5 ?_
    refine jw_iconst (pc := 73) dX12_layRoom_73 ?_
    refine jw_iald (pc := 74) dX12_layRoom_74 jg_131 jl_131 (jw_ho jg_131 (by decide)) (jw_rc _ rfl) rfl (fun h8 => ?_)
    refine jw_ic_ge (pc := 75) 122 dX12_layRoom_75 (by decide) hx4 h8 (fun _ => ?_) (fun _ => ?_)
    · refine jw_aloadR (pc := 78) 0 dX12_layRoom_78 rfl ?_
      refine jw_getR (pc := 79) (j := 25) rfl dX12_layRoom_79 jv_12 ji_12 (Or.inl jt_1256) jg_127 jl_127 (by decide) (by decide) rfl jf_12_25 ?_
      refine jw_bipush (pc := 82) dX12_layRoom_82 rfl ?_
      refine jw_bipush (pc := 84) dX12_layRoom_84 rfl ?_
      refine jw_iload_n (pc := 86) 3 dX12_layRoom_86 rfl ?_
      refine jw_iadd (pc := 87) dX12_layRoom_87 ?_
      refine jw_imul (pc := 88) dX12_layRoom_88 ?_
      refine jw_iload (pc := 89) 4 dX12_layRoom_89 rfl ?_
      refine jw_iadd (pc := 91) dX12_layRoom_91 ?_
      refine jw_aloadR (pc := 92) 0 dX12_layRoom_92 rfl ?_
      refine jw_getR (pc := 93) (j := 5) rfl dX12_layRoom_93 jv_12 ji_12 (Or.inl jt_1236) jg_127 jl_127 (by decide) (by decide) rfl jf_12_5 ?_
      refine jw_bipush (pc := 96) dX12_layRoom_96 rfl ?_
      refine jw_bipush (pc := 98) dX12_layRoom_98 rfl ?_
      refine jw_iload_n (pc := 100) 3 dX12_layRoom_100 rfl ?_
      refine jw_imul (pc := 101) dX12_layRoom_101 ?_
      refine jw_iadd (pc := 102) dX12_layRoom_102 ?_
      refine jw_iload (pc := 103) 4 dX12_layRoom_103 rfl ?_
      refine jw_iadd (pc := 105) dX12_layRoom_105 ?_
      refine jw_iald (pc := 106) dX12_layRoom_106 jg_131 jl_131 (jw_ho jg_131 (by decide)) (jw_wr _) rfl (fun h9 => ?_)
      refine jw_if_le (pc := 107) 114 dX12_layRoom_107 (by decide) h9 (fun _ => ?_) (fun _ => ?_)
      · refine jw_iconst (pc := 110) dX12_layRoom_110 ?_
        refine jw_goto (pc := 111) 115 dX12_layRoom_111 (by decide) ?_
        exact jw_few [0, 1, 2, 3, 4] rfl (pX12_layRoom_115 G r24 (fX12_layRoom_67 r24 k) hr24 ih x1 x2 x3 x4 1 (jw_w ((jw_w (14 * (jw_w (7 + x3)))) + x4)) hx1 hx2 hx3 hx4 (jw_rc _ rfl) (jw_wr _) M)
      · refine jw_iconst (pc := 114) dX12_layRoom_114 ?_
        exact jw_few [0, 1, 2, 3, 4] rfl (pX12_layRoom_115 G r24 (fX12_layRoom_67 r24 k) hr24 ih x1 x2 x3 x4 0 (jw_w ((jw_w (14 * (jw_w (7 + x3)))) + x4)) hx1 hx2 hx3 hx4 (jw_rc _ rfl) (jw_wr _) M)
    · refine jw_iincL (pc := 122) 3 (lv' := (fun y => [(3, y), (0, jR G 127), (1, jI x1), (2, jI x2), (4, jI x4)])) dX12_layRoom_122 rfl (Nat.le_of_ble_eq_true rfl) (fun _ => rfl) (fun v12 hv12 => ?_)
      refine jw_goto (pc := 125) 24 dX12_layRoom_125 (by decide) ?_
      exact jw_few [1, 2, 3, 0] rfl (hr24 x1 x2 v12 hx1 hx2 hv12 M)
def fX12_layRoom_63 (r24 : Int → Int → Int → jw_M → Option jw_M) (x1 : Int) (x2 : Int) (x3 : Int) (xs0 : Int) (xs1 : Int) (M : jw_M) : Option jw_M :=
  if 0 ≤ xs1 ∧ xs1 < 196 then Option.bind (some (jw_up M 141 xs1 xs0)) (fun M6 => Option.bind (some 0) (fun v7 => fX12_layRoom_67 r24 jw_fu x1 x2 x3 v7 M6)) else none
set_option maxRecDepth 100000 in
theorem pX12_layRoom_63 (G : jw_G) (r24 : Int → Int → Int → jw_M → Option jw_M) (hr24 : ∀ (x1 : Int) (x2 : Int) (x3 : Int) (hx1 : jw_r x1) (hx2 : jw_r x2) (hx3 : jw_r x3) (M : jw_M), jw_Rn G YX12_layRoom 1 0 0 true (fun M1 => (0, M1)) 24 [(0, jR G 127), (1, jI x1), (2, jI x2), (3, jI x3)] [] M (r24 x1 x2 x3 M)) : ∀ (x1 : Int) (x2 : Int) (x3 : Int) (xs0 : Int) (xs1 : Int) (hx1 : jw_r x1) (hx2 : jw_r x2) (hx3 : jw_r x3) (hxs0 : jw_r xs0) (hxs1 : jw_r xs1) (M : jw_M), jw_Rn G YX12_layRoom 1 0 0 true (fun M1 => (0, M1)) 63 [(0, jR G 127), (1, jI x1), (2, jI x2), (3, jI x3)] [jI xs0, jI xs1, jR G 141] M (fX12_layRoom_63 r24 x1 x2 x3 xs0 xs1 M) := by
  intro x1 x2 x3 xs0 xs1 hx1 hx2 hx3 hxs0 hxs1 M
  unfold fX12_layRoom_63
  refine jw_iast (pc := 63) dX12_layRoom_63 jg_141 jl_141 (jw_ho jg_141 (by decide)) hxs1 hxs0 rfl ?_
  refine jw_letM (fun M6 => ?_)
  refine jw_iconst (pc := 64) dX12_layRoom_64 ?_
  refine jw_istoreL (pc := 65) (lv' := (fun y => [(4, y), (0, jR G 127), (1, jI x1), (2, jI x2), (3, jI x3)])) dX12_layRoom_65 (jw_rc _ rfl) (by decide) (fun _ => rfl) (fun v7 hv7 => ?_)
  exact jw_few [1, 2, 3, 4, 0] rfl (pX12_layRoom_67 G r24 hr24 jw_fu x1 x2 x3 v7 hx1 hx2 hx3 hv7 M6)
def fX12_layRoom_57 (r24 : Int → Int → Int → jw_M → Option jw_M) (x1 : Int) (x2 : Int) (x3 : Int) (xs0 : Int) (M : jw_M) : Option jw_M :=
  fX12_layRoom_63 r24 x1 x2 x3 99 xs0 M
set_option maxRecDepth 100000 in
theorem pX12_layRoom_57 (G : jw_G) (r24 : Int → Int → Int → jw_M → Option jw_M) (hr24 : ∀ (x1 : Int) (x2 : Int) (x3 : Int) (hx1 : jw_r x1) (hx2 : jw_r x2) (hx3 : jw_r x3) (M : jw_M), jw_Rn G YX12_layRoom 1 0 0 true (fun M1 => (0, M1)) 24 [(0, jR G 127), (1, jI x1), (2, jI x2), (3, jI x3)] [] M (r24 x1 x2 x3 M)) : ∀ (x1 : Int) (x2 : Int) (x3 : Int) (xs0 : Int) (hx1 : jw_r x1) (hx2 : jw_r x2) (hx3 : jw_r x3) (hxs0 : jw_r xs0) (M : jw_M), jw_Rn G YX12_layRoom 1 0 0 true (fun M1 => (0, M1)) 57 [(0, jR G 127), (1, jI x1), (2, jI x2), (3, jI x3)] [jI xs0, jR G 141] M (fX12_layRoom_57 r24 x1 x2 x3 xs0 M) := by
  intro x1 x2 x3 xs0 hx1 hx2 hx3 hxs0 M
  unfold fX12_layRoom_57
  refine jw_bipush (pc := 57) dX12_layRoom_57 rfl ?_
  refine jw_goto (pc := 59) 63 dX12_layRoom_59 (by decide) ?_
  exact jw_few [0, 1, 2, 3] rfl (pX12_layRoom_63 G r24 hr24 x1 x2 x3 99 xs0 hx1 hx2 hx3 (jw_rc _ rfl) hxs0 M)
def fX12_layRoom_24 : Nat → Int → Int → Int → jw_M → Option jw_M
  | 0, _, _, _, _ => none
  | k + 1, x1, x2, x3, M => if 0 ≤ (0 : Int) ∧ (0 : Int) < 104 then if x3 < M 131 0 then (if x3 = x1 then (fX12_layRoom_57 (fX12_layRoom_24 k) x1 x2 x3 (jw_w ((jw_w ((jw_w (14 * x3)) + 7)) + x3)) M) else (if x3 = x2 then (fX12_layRoom_57 (fX12_layRoom_24 k) x1 x2 x3 (jw_w ((jw_w ((jw_w (14 * x3)) + 7)) + x3)) M) else (fX12_layRoom_63 (fX12_layRoom_24 k) x1 x2 x3 1 (jw_w ((jw_w ((jw_w (14 * x3)) + 7)) + x3)) M))) else (some M) else none
set_option maxRecDepth 100000 in
theorem pX12_layRoom_24 (G : jw_G) : ∀ (k : Nat) (x1 : Int) (x2 : Int) (x3 : Int) (hx1 : jw_r x1) (hx2 : jw_r x2) (hx3 : jw_r x3) (M : jw_M), jw_Rn G YX12_layRoom 1 0 0 true (fun M1 => (0, M1)) 24 [(0, jR G 127), (1, jI x1), (2, jI x2), (3, jI x3)] [] M (fX12_layRoom_24 k x1 x2 x3 M) := by
  intro k
  induction k with
  | zero =>
    intro x1 x2 x3 hx1 hx2 hx3 M
    exact jw_none
  | succ k ih =>
    intro x1 x2 x3 hx1 hx2 hx3 M
    rw [fX12_layRoom_24]
    refine jw_iload_n (pc := 24) 3 dX12_layRoom_24 rfl ?_
    refine jw_aloadR (pc := 25) 0 dX12_layRoom_25 rfl ?_
    refine jw_getR (pc := 26) (j := 5) rfl dX12_layRoom_26 jv_12 ji_12 (Or.inl jt_1236) jg_127 jl_127 (by decide) (by decide) rfl jf_12_5 ?_
    refine jw_iconst (pc := 29) dX12_layRoom_29 ?_
    refine jw_iald (pc := 30) dX12_layRoom_30 jg_131 jl_131 (jw_ho jg_131 (by decide)) (jw_rc _ rfl) rfl (fun h5 => ?_)
    refine jw_ic_ge (pc := 31) 128 dX12_layRoom_31 (by decide) hx3 h5 (fun _ => ?_) (fun _ => ?_)
    · refine jw_aloadR (pc := 34) 0 dX12_layRoom_34 rfl ?_
      refine jw_getR (pc := 35) (j := 25) rfl dX12_layRoom_35 jv_12 ji_12 (Or.inl jt_1256) jg_127 jl_127 (by decide) (by decide) rfl jf_12_25 ?_
      refine jw_bipush (pc := 38) dX12_layRoom_38 rfl ?_
      refine jw_iload_n (pc := 40) 3 dX12_layRoom_40 rfl ?_
      refine jw_imul (pc := 41) dX12_layRoom_41 ?_
      refine jw_bipush (pc := 42) dX12_layRoom_42 rfl ?_
      refine jw_iadd (pc := 44) dX12_layRoom_44 ?_
      refine jw_iload_n (pc := 45) 3 dX12_layRoom_45 rfl ?_
      refine jw_iadd (pc := 46) dX12_layRoom_46 ?_
      refine jw_iload_n (pc := 47) 3 dX12_layRoom_47 rfl ?_
      refine jw_iload_n (pc := 48) 1 dX12_layRoom_48 rfl ?_
      refine jw_ic_eq (pc := 49) 57 dX12_layRoom_49 (by decide) hx3 hx1 (fun _ => ?_) (fun _ => ?_)
      · exact jw_few [0, 1, 2, 3] rfl (pX12_layRoom_57 G (fX12_layRoom_24 k) ih x1 x2 x3 (jw_w ((jw_w ((jw_w (14 * x3)) + 7)) + x3)) hx1 hx2 hx3 (jw_wr _) M)
      · refine jw_iload_n (pc := 52) 3 dX12_layRoom_52 rfl ?_
        refine jw_iload_n (pc := 53) 2 dX12_layRoom_53 rfl ?_
        refine jw_ic_ne (pc := 54) 62 dX12_layRoom_54 (by decide) hx3 hx2 (fun _ => ?_) (fun _ => ?_)
        · exact jw_few [0, 1, 2, 3] rfl (pX12_layRoom_57 G (fX12_layRoom_24 k) ih x1 x2 x3 (jw_w ((jw_w ((jw_w (14 * x3)) + 7)) + x3)) hx1 hx2 hx3 (jw_wr _) M)
        · refine jw_iconst (pc := 62) dX12_layRoom_62 ?_
          exact jw_few [0, 1, 2, 3] rfl (pX12_layRoom_63 G (fX12_layRoom_24 k) ih x1 x2 x3 1 (jw_w ((jw_w ((jw_w (14 * x3)) + 7)) + x3)) hx1 hx2 hx3 (jw_rc _ rfl) (jw_wr _) M)
    · exact jw_ret (pc := 128) (v := 0) dX12_layRoom_128 trivial rfl rfl
def fX12_layRoom_2 : Nat → Int → Int → Int → jw_M → Option jw_M
  | 0, _, _, _, _ => none
  | k + 1, x1, x2, x3, M => if x3 < 196 then (if 0 ≤ x3 ∧ x3 < 196 then Option.bind (some (jw_up M 141 x3 0)) (fun M2 => Option.bind (some (jw_w (x3 + 1))) (fun v3 => fX12_layRoom_2 k x1 x2 v3 M2)) else none) else (Option.bind (some 0) (fun v4 => fX12_layRoom_24 jw_fu x1 x2 v4 M))
set_option maxRecDepth 100000 in
theorem pX12_layRoom_2 (G : jw_G) : ∀ (k : Nat) (x1 : Int) (x2 : Int) (x3 : Int) (hx1 : jw_r x1) (hx2 : jw_r x2) (hx3 : jw_r x3) (M : jw_M), jw_Rn G YX12_layRoom 1 0 0 true (fun M1 => (0, M1)) 2 [(0, jR G 127), (1, jI x1), (2, jI x2), (3, jI x3)] [] M (fX12_layRoom_2 k x1 x2 x3 M) := by
  intro k
  induction k with
  | zero =>
    intro x1 x2 x3 hx1 hx2 hx3 M
    exact jw_none
  | succ k ih =>
    intro x1 x2 x3 hx1 hx2 hx3 M
    rw [fX12_layRoom_2]
    refine jw_iload_n (pc := 2) 3 dX12_layRoom_2 rfl ?_
    refine jw_sipush (pc := 3) dX12_layRoom_3 rfl ?_
    refine jw_ic_ge (pc := 6) 22 dX12_layRoom_6 (by decide) hx3 (jw_rc _ rfl) (fun _ => ?_) (fun _ => ?_)
    · refine jw_aloadR (pc := 9) 0 dX12_layRoom_9 rfl ?_
      refine jw_getR (pc := 10) (j := 25) rfl dX12_layRoom_10 jv_12 ji_12 (Or.inl jt_1256) jg_127 jl_127 (by decide) (by decide) rfl jf_12_25 ?_
      refine jw_iload_n (pc := 13) 3 dX12_layRoom_13 rfl ?_
      refine jw_iconst (pc := 14) dX12_layRoom_14 ?_
      refine jw_iast (pc := 15) dX12_layRoom_15 jg_141 jl_141 (jw_ho jg_141 (by decide)) hx3 (jw_rc _ rfl) rfl ?_
      refine jw_letM (fun M2 => ?_)
      refine jw_iincL (pc := 16) 3 (lv' := (fun y => [(3, y), (0, jR G 127), (1, jI x1), (2, jI x2)])) dX12_layRoom_16 rfl (Nat.le_of_ble_eq_true rfl) (fun _ => rfl) (fun v3 hv3 => ?_)
      refine jw_goto (pc := 19) 2 dX12_layRoom_19 (by decide) ?_
      exact jw_few [1, 2, 3, 0] rfl (ih x1 x2 v3 hx1 hx2 hv3 M2)
    · refine jw_iconst (pc := 22) dX12_layRoom_22 ?_
      refine jw_istore_nL (pc := 23) (lv' := (fun y => [(3, y), (0, jR G 127), (1, jI x1), (2, jI x2)])) dX12_layRoom_23 (jw_rc _ rfl) (by decide) (fun _ => rfl) (fun v4 hv4 => ?_)
      exact jw_few [1, 2, 3, 0] rfl (pX12_layRoom_24 G jw_fu x1 x2 v4 hx1 hx2 hv4 M)
def fX12_layRoom (a1 : Int) (a2 : Int) (M : jw_M) : Option jw_M :=
  Option.bind (some 0) (fun v1 => fX12_layRoom_2 jw_fu a1 a2 v1 M)
set_option maxRecDepth 100000 in
theorem rX12_layRoom (G : jw_G) (a1 : Int) (a2 : Int) (ha1 : jw_r a1) (ha2 : jw_r a2) (M : jw_M) : jw_Rn G YX12_layRoom 1 0 0 true (fun M1 => (0, M1)) 0 [(0, jR G 127), (1, jI a1), (2, jI a2)] [] M (fX12_layRoom a1 a2 M) := by
  unfold fX12_layRoom
  refine jw_iconst (pc := 0) dX12_layRoom_0 ?_
  refine jw_istore_nL (pc := 1) (lv' := (fun y => [(3, y), (0, jR G 127), (1, jI a1), (2, jI a2)])) dX12_layRoom_1 (jw_rc _ rfl) (by decide) (fun _ => rfl) (fun v1 hv1 => ?_)
  exact jw_few [1, 2, 3, 0] rfl (pX12_layRoom_2 G jw_fu a1 a2 v1 ha1 ha2 hv1 M)
theorem kX12_layRoom (G : jw_G) (a1 : Int) (a2 : Int) (ha1 : jw_r a1) (ha2 : jw_r a2) (M : jw_M) : jw_Ct G YX12_layRoom none 1 0 0 true (fun M1 => (0, M1)) yX12_layRoom [jR G 127, jI a1, jI a2] M (fX12_layRoom a1 a2 M) := jw_met (by decide) rfl rfl rfl (Nat.le_of_ble_eq_true rfl) (rX12_layRoom G a1 a2 ha1 ha2 M)
abbrev YX12_goesMore : jw_Y := (RX12, cX12_goesMore, 6, 4, "goesMore")
theorem qX12_goesMore : jw_cy YX12_goesMore (some .boolean) yX12_goesMore 2 := ⟨by decide, jt_1664, jt_14, by decide, by decide +kernel⟩
theorem dX12_goesMore_0 : decode cX12_goesMore 0 = .ok (.iconst 0, 1) := by decide +kernel
theorem dX12_goesMore_1 : decode cX12_goesMore 1 = .ok (.istore_n 3, 1) := by decide +kernel
theorem dX12_goesMore_2 : decode cX12_goesMore 2 = .ok (.iload_n 3, 1) := by decide +kernel
theorem dX12_goesMore_3 : decode cX12_goesMore 3 = .ok (.bipush 14, 2) := by decide +kernel
theorem dX12_goesMore_5 : decode cX12_goesMore 5 = .ok (.if_icmp .ge 17, 3) := by decide +kernel
theorem dX12_goesMore_8 : decode cX12_goesMore 8 = .ok (.aload_n 0, 1) := by decide +kernel
theorem dX12_goesMore_9 : decode cX12_goesMore 9 = .ok (.getfield 52, 3) := by decide +kernel
theorem dX12_goesMore_12 : decode cX12_goesMore 12 = .ok (.iload_n 3, 1) := by decide +kernel
theorem dX12_goesMore_13 : decode cX12_goesMore 13 = .ok (.ldc 110, 2) := by decide +kernel
theorem dX12_goesMore_15 : decode cX12_goesMore 15 = .ok (.iastore, 1) := by decide +kernel
theorem dX12_goesMore_16 : decode cX12_goesMore 16 = .ok (.iinc 3 1, 3) := by decide +kernel
theorem dX12_goesMore_19 : decode cX12_goesMore 19 = .ok (.goto (-17), 3) := by decide +kernel
theorem dX12_goesMore_22 : decode cX12_goesMore 22 = .ok (.aload_n 0, 1) := by decide +kernel
theorem dX12_goesMore_23 : decode cX12_goesMore 23 = .ok (.getfield 52, 3) := by decide +kernel
theorem dX12_goesMore_26 : decode cX12_goesMore 26 = .ok (.iload_n 1, 1) := by decide +kernel
theorem dX12_goesMore_27 : decode cX12_goesMore 27 = .ok (.iload_n 1, 1) := by decide +kernel
theorem dX12_goesMore_28 : decode cX12_goesMore 28 = .ok (.iastore, 1) := by decide +kernel
theorem dX12_goesMore_29 : decode cX12_goesMore 29 = .ok (.iconst 1, 1) := by decide +kernel
theorem dX12_goesMore_30 : decode cX12_goesMore 30 = .ok (.istore_n 3, 1) := by decide +kernel
theorem dX12_goesMore_31 : decode cX12_goesMore 31 = .ok (.iload_n 3, 1) := by decide +kernel
theorem dX12_goesMore_32 : decode cX12_goesMore 32 = .ok (.ifCond .eq 102, 3) := by decide +kernel
theorem dX12_goesMore_35 : decode cX12_goesMore 35 = .ok (.aload_n 0, 1) := by decide +kernel
theorem dX12_goesMore_36 : decode cX12_goesMore 36 = .ok (.getfield 52, 3) := by decide +kernel
theorem dX12_goesMore_39 : decode cX12_goesMore 39 = .ok (.iload_n 2, 1) := by decide +kernel
theorem dX12_goesMore_40 : decode cX12_goesMore 40 = .ok (.iaload, 1) := by decide +kernel
theorem dX12_goesMore_41 : decode cX12_goesMore 41 = .ok (.ldc 110, 2) := by decide +kernel
theorem dX12_goesMore_43 : decode cX12_goesMore 43 = .ok (.if_icmp .ne 91, 3) := by decide +kernel
theorem dX12_goesMore_46 : decode cX12_goesMore 46 = .ok (.iconst 0, 1) := by decide +kernel
theorem dX12_goesMore_47 : decode cX12_goesMore 47 = .ok (.istore_n 3, 1) := by decide +kernel
theorem dX12_goesMore_48 : decode cX12_goesMore 48 = .ok (.iconst 0, 1) := by decide +kernel
theorem dX12_goesMore_49 : decode cX12_goesMore 49 = .ok (.istore 4, 2) := by decide +kernel
theorem dX12_goesMore_51 : decode cX12_goesMore 51 = .ok (.iload 4, 2) := by decide +kernel
theorem dX12_goesMore_53 : decode cX12_goesMore 53 = .ok (.bipush 14, 2) := by decide +kernel
theorem dX12_goesMore_55 : decode cX12_goesMore 55 = .ok (.if_icmp .ge 76, 3) := by decide +kernel
theorem dX12_goesMore_58 : decode cX12_goesMore 58 = .ok (.iconst 0, 1) := by decide +kernel
theorem dX12_goesMore_59 : decode cX12_goesMore 59 = .ok (.istore 5, 2) := by decide +kernel
theorem dX12_goesMore_61 : decode cX12_goesMore 61 = .ok (.iload 5, 2) := by decide +kernel
theorem dX12_goesMore_63 : decode cX12_goesMore 63 = .ok (.bipush 14, 2) := by decide +kernel
theorem dX12_goesMore_65 : decode cX12_goesMore 65 = .ok (.if_icmp .ge 60, 3) := by decide +kernel
theorem dX12_goesMore_68 : decode cX12_goesMore 68 = .ok (.aload_n 0, 1) := by decide +kernel
theorem dX12_goesMore_69 : decode cX12_goesMore 69 = .ok (.getfield 52, 3) := by decide +kernel
theorem dX12_goesMore_72 : decode cX12_goesMore 72 = .ok (.iload 4, 2) := by decide +kernel
theorem dX12_goesMore_74 : decode cX12_goesMore 74 = .ok (.iaload, 1) := by decide +kernel
theorem dX12_goesMore_75 : decode cX12_goesMore 75 = .ok (.ldc 110, 2) := by decide +kernel
theorem dX12_goesMore_77 : decode cX12_goesMore 77 = .ok (.if_icmp .eq 42, 3) := by decide +kernel
theorem dX12_goesMore_80 : decode cX12_goesMore 80 = .ok (.aload_n 0, 1) := by decide +kernel
theorem dX12_goesMore_81 : decode cX12_goesMore 81 = .ok (.getfield 52, 3) := by decide +kernel
theorem dX12_goesMore_84 : decode cX12_goesMore 84 = .ok (.iload 5, 2) := by decide +kernel
theorem dX12_goesMore_86 : decode cX12_goesMore 86 = .ok (.iaload, 1) := by decide +kernel
theorem dX12_goesMore_87 : decode cX12_goesMore 87 = .ok (.ldc 110, 2) := by decide +kernel
theorem dX12_goesMore_89 : decode cX12_goesMore 89 = .ok (.if_icmp .ne 30, 3) := by decide +kernel
theorem dX12_goesMore_92 : decode cX12_goesMore 92 = .ok (.aload_n 0, 1) := by decide +kernel
theorem dX12_goesMore_93 : decode cX12_goesMore 93 = .ok (.getfield 49, 3) := by decide +kernel
theorem dX12_goesMore_96 : decode cX12_goesMore 96 = .ok (.bipush 14, 2) := by decide +kernel
theorem dX12_goesMore_98 : decode cX12_goesMore 98 = .ok (.iload 4, 2) := by decide +kernel
theorem dX12_goesMore_100 : decode cX12_goesMore 100 = .ok (.imul, 1) := by decide +kernel
theorem dX12_goesMore_101 : decode cX12_goesMore 101 = .ok (.iload 5, 2) := by decide +kernel
theorem dX12_goesMore_103 : decode cX12_goesMore 103 = .ok (.iadd, 1) := by decide +kernel
theorem dX12_goesMore_104 : decode cX12_goesMore 104 = .ok (.iaload, 1) := by decide +kernel
theorem dX12_goesMore_105 : decode cX12_goesMore 105 = .ok (.ifCond .le 14, 3) := by decide +kernel
theorem dX12_goesMore_108 : decode cX12_goesMore 108 = .ok (.aload_n 0, 1) := by decide +kernel
theorem dX12_goesMore_109 : decode cX12_goesMore 109 = .ok (.getfield 52, 3) := by decide +kernel
theorem dX12_goesMore_112 : decode cX12_goesMore 112 = .ok (.iload 5, 2) := by decide +kernel
theorem dX12_goesMore_114 : decode cX12_goesMore 114 = .ok (.iload 4, 2) := by decide +kernel
theorem dX12_goesMore_116 : decode cX12_goesMore 116 = .ok (.iastore, 1) := by decide +kernel
theorem dX12_goesMore_117 : decode cX12_goesMore 117 = .ok (.iconst 1, 1) := by decide +kernel
theorem dX12_goesMore_118 : decode cX12_goesMore 118 = .ok (.istore_n 3, 1) := by decide +kernel
theorem dX12_goesMore_119 : decode cX12_goesMore 119 = .ok (.iinc 5 1, 3) := by decide +kernel
theorem dX12_goesMore_122 : decode cX12_goesMore 122 = .ok (.goto (-61), 3) := by decide +kernel
theorem dX12_goesMore_125 : decode cX12_goesMore 125 = .ok (.iinc 4 1, 3) := by decide +kernel
theorem dX12_goesMore_128 : decode cX12_goesMore 128 = .ok (.goto (-77), 3) := by decide +kernel
theorem dX12_goesMore_131 : decode cX12_goesMore 131 = .ok (.goto (-100), 3) := by decide +kernel
theorem dX12_goesMore_134 : decode cX12_goesMore 134 = .ok (.aload_n 0, 1) := by decide +kernel
theorem dX12_goesMore_135 : decode cX12_goesMore 135 = .ok (.getfield 52, 3) := by decide +kernel
theorem dX12_goesMore_138 : decode cX12_goesMore 138 = .ok (.iload_n 2, 1) := by decide +kernel
theorem dX12_goesMore_139 : decode cX12_goesMore 139 = .ok (.iaload, 1) := by decide +kernel
theorem dX12_goesMore_140 : decode cX12_goesMore 140 = .ok (.ldc 110, 2) := by decide +kernel
theorem dX12_goesMore_142 : decode cX12_goesMore 142 = .ok (.if_icmp .ne 5, 3) := by decide +kernel
theorem dX12_goesMore_145 : decode cX12_goesMore 145 = .ok (.iconst 0, 1) := by decide +kernel
theorem dX12_goesMore_146 : decode cX12_goesMore 146 = .ok (.ireturn, 1) := by decide +kernel
theorem dX12_goesMore_147 : decode cX12_goesMore 147 = .ok (.iload_n 2, 1) := by decide +kernel
theorem dX12_goesMore_148 : decode cX12_goesMore 148 = .ok (.istore 4, 2) := by decide +kernel
theorem dX12_goesMore_150 : decode cX12_goesMore 150 = .ok (.iload 4, 2) := by decide +kernel
theorem dX12_goesMore_152 : decode cX12_goesMore 152 = .ok (.iload_n 1, 1) := by decide +kernel
theorem dX12_goesMore_153 : decode cX12_goesMore 153 = .ok (.if_icmp .eq 59, 3) := by decide +kernel
theorem dX12_goesMore_156 : decode cX12_goesMore 156 = .ok (.aload_n 0, 1) := by decide +kernel
theorem dX12_goesMore_157 : decode cX12_goesMore 157 = .ok (.getfield 49, 3) := by decide +kernel
theorem dX12_goesMore_160 : decode cX12_goesMore 160 = .ok (.bipush 14, 2) := by decide +kernel
theorem dX12_goesMore_162 : decode cX12_goesMore 162 = .ok (.aload_n 0, 1) := by decide +kernel
theorem dX12_goesMore_163 : decode cX12_goesMore 163 = .ok (.getfield 52, 3) := by decide +kernel
theorem dX12_goesMore_166 : decode cX12_goesMore 166 = .ok (.iload 4, 2) := by decide +kernel
theorem dX12_goesMore_168 : decode cX12_goesMore 168 = .ok (.iaload, 1) := by decide +kernel
theorem dX12_goesMore_169 : decode cX12_goesMore 169 = .ok (.imul, 1) := by decide +kernel
theorem dX12_goesMore_170 : decode cX12_goesMore 170 = .ok (.iload 4, 2) := by decide +kernel
theorem dX12_goesMore_172 : decode cX12_goesMore 172 = .ok (.iadd, 1) := by decide +kernel
theorem dX12_goesMore_173 : decode cX12_goesMore 173 = .ok (.dup2, 1) := by decide +kernel
theorem dX12_goesMore_174 : decode cX12_goesMore 174 = .ok (.iaload, 1) := by decide +kernel
theorem dX12_goesMore_175 : decode cX12_goesMore 175 = .ok (.iconst 1, 1) := by decide +kernel
theorem dX12_goesMore_176 : decode cX12_goesMore 176 = .ok (.isub, 1) := by decide +kernel
theorem dX12_goesMore_177 : decode cX12_goesMore 177 = .ok (.iastore, 1) := by decide +kernel
theorem dX12_goesMore_178 : decode cX12_goesMore 178 = .ok (.aload_n 0, 1) := by decide +kernel
theorem dX12_goesMore_179 : decode cX12_goesMore 179 = .ok (.getfield 49, 3) := by decide +kernel
theorem dX12_goesMore_182 : decode cX12_goesMore 182 = .ok (.bipush 14, 2) := by decide +kernel
theorem dX12_goesMore_184 : decode cX12_goesMore 184 = .ok (.iload 4, 2) := by decide +kernel
theorem dX12_goesMore_186 : decode cX12_goesMore 186 = .ok (.imul, 1) := by decide +kernel
theorem dX12_goesMore_187 : decode cX12_goesMore 187 = .ok (.aload_n 0, 1) := by decide +kernel
theorem dX12_goesMore_188 : decode cX12_goesMore 188 = .ok (.getfield 52, 3) := by decide +kernel
theorem dX12_goesMore_191 : decode cX12_goesMore 191 = .ok (.iload 4, 2) := by decide +kernel
theorem dX12_goesMore_193 : decode cX12_goesMore 193 = .ok (.iaload, 1) := by decide +kernel
theorem dX12_goesMore_194 : decode cX12_goesMore 194 = .ok (.iadd, 1) := by decide +kernel
theorem dX12_goesMore_195 : decode cX12_goesMore 195 = .ok (.dup2, 1) := by decide +kernel
theorem dX12_goesMore_196 : decode cX12_goesMore 196 = .ok (.iaload, 1) := by decide +kernel
theorem dX12_goesMore_197 : decode cX12_goesMore 197 = .ok (.iconst 1, 1) := by decide +kernel
theorem dX12_goesMore_198 : decode cX12_goesMore 198 = .ok (.iadd, 1) := by decide +kernel
theorem dX12_goesMore_199 : decode cX12_goesMore 199 = .ok (.iastore, 1) := by decide +kernel
theorem dX12_goesMore_200 : decode cX12_goesMore 200 = .ok (.aload_n 0, 1) := by decide +kernel
theorem dX12_goesMore_201 : decode cX12_goesMore 201 = .ok (.getfield 52, 3) := by decide +kernel
theorem dX12_goesMore_204 : decode cX12_goesMore 204 = .ok (.iload 4, 2) := by decide +kernel
theorem dX12_goesMore_206 : decode cX12_goesMore 206 = .ok (.iaload, 1) := by decide +kernel
theorem dX12_goesMore_207 : decode cX12_goesMore 207 = .ok (.istore 4, 2) := by decide +kernel
theorem dX12_goesMore_209 : decode cX12_goesMore 209 = .ok (.goto (-59), 3) := by decide +kernel
theorem dX12_goesMore_212 : decode cX12_goesMore 212 = .ok (.iconst 1, 1) := by decide +kernel
theorem dX12_goesMore_213 : decode cX12_goesMore 213 = .ok (.ireturn, 1) := by decide +kernel
def fX12_goesMore_150 : Nat → Int → Int → jw_M → Option (Int × jw_M)
  | 0, _, _, _ => none
  | k + 1, x1, x4, M => if x4 = x1 then (some (1, M)) else (if 0 ≤ x4 ∧ x4 < 14 then if 0 ≤ jw_w ((jw_w (14 * (M 142 x4))) + x4) ∧ jw_w ((jw_w (14 * (M 142 x4))) + x4) < 196 then if 0 ≤ jw_w ((jw_w (14 * (M 142 x4))) + x4) ∧ jw_w ((jw_w (14 * (M 142 x4))) + x4) < 196 then Option.bind (some (jw_up M 141 (jw_w ((jw_w (14 * (M 142 x4))) + x4)) (jw_w ((M 141 (jw_w ((jw_w (14 * (M 142 x4))) + x4))) - 1)))) (fun M10 => if 0 ≤ x4 ∧ x4 < 14 then if 0 ≤ jw_w ((jw_w (14 * x4)) + (M10 142 x4)) ∧ jw_w ((jw_w (14 * x4)) + (M10 142 x4)) < 196 then if 0 ≤ jw_w ((jw_w (14 * x4)) + (M10 142 x4)) ∧ jw_w ((jw_w (14 * x4)) + (M10 142 x4)) < 196 then Option.bind (some (jw_up M10 141 (jw_w ((jw_w (14 * x4)) + (M10 142 x4))) (jw_w ((M10 141 (jw_w ((jw_w (14 * x4)) + (M10 142 x4)))) + 1)))) (fun M13 => if 0 ≤ x4 ∧ x4 < 14 then Option.bind (some (M13 142 x4)) (fun v15 => fX12_goesMore_150 k x1 v15 M13) else none) else none else none else none) else none else none else none)
set_option maxRecDepth 100000 in
theorem pX12_goesMore_150 (G : jw_G) : ∀ (k : Nat) (x1 : Int) (x4 : Int) (hx1 : jw_r x1) (hx4 : jw_r x4) (M : jw_M), jw_Rn G YX12_goesMore 1 0 0 true (fun q => q) 150 [(0, jR G 127), (1, jI x1), (4, jI x4)] [] M (fX12_goesMore_150 k x1 x4 M) := by
  intro k
  induction k with
  | zero =>
    intro x1 x4 hx1 hx4 M
    exact jw_none
  | succ k ih =>
    intro x1 x4 hx1 hx4 M
    rw [fX12_goesMore_150]
    refine jw_iload (pc := 150) 2 dX12_goesMore_150 rfl ?_
    refine jw_iload_n (pc := 152) 1 dX12_goesMore_152 rfl ?_
    refine jw_ic_eq (pc := 153) 212 dX12_goesMore_153 (by decide) hx4 hx1 (fun _ => ?_) (fun _ => ?_)
    · refine jw_iconst (pc := 212) dX12_goesMore_212 ?_
      exact jw_ret (pc := 213) (v := 1) dX12_goesMore_213 (Or.inr rfl) rfl rfl
    · refine jw_aloadR (pc := 156) 0 dX12_goesMore_156 rfl ?_
      refine jw_getR (pc := 157) (j := 25) rfl dX12_goesMore_157 jv_12 ji_12 (Or.inl jt_1256) jg_127 jl_127 (by decide) (by decide) rfl jf_12_25 ?_
      refine jw_bipush (pc := 160) dX12_goesMore_160 rfl ?_
      refine jw_aloadR (pc := 162) 0 dX12_goesMore_162 rfl ?_
      refine jw_getR (pc := 163) (j := 26) rfl dX12_goesMore_163 jv_12 ji_12 (Or.inl jt_1257) jg_127 jl_127 (by decide) (by decide) rfl jf_12_26 ?_
      refine jw_iload (pc := 166) 2 dX12_goesMore_166 rfl ?_
      refine jw_iald (pc := 168) dX12_goesMore_168 jg_142 jl_142 (jw_ho jg_142 (by decide)) hx4 rfl (fun h8 => ?_)
      refine jw_imul (pc := 169) dX12_goesMore_169 ?_
      refine jw_iload (pc := 170) 2 dX12_goesMore_170 rfl ?_
      refine jw_iadd (pc := 172) dX12_goesMore_172 ?_
      refine jw_dup2 (pc := 173) dX12_goesMore_173 rfl rfl ?_
      refine jw_iald (pc := 174) dX12_goesMore_174 jg_141 jl_141 (jw_ho jg_141 (by decide)) (jw_wr _) rfl (fun h9 => ?_)
      refine jw_iconst (pc := 175) dX12_goesMore_175 ?_
      refine jw_isub (pc := 176) dX12_goesMore_176 ?_
      refine jw_iast (pc := 177) dX12_goesMore_177 jg_141 jl_141 (jw_ho jg_141 (by decide)) (jw_wr _) (jw_wr _) rfl ?_
      refine jw_letM (fun M10 => ?_)
      refine jw_aloadR (pc := 178) 0 dX12_goesMore_178 rfl ?_
      refine jw_getR (pc := 179) (j := 25) rfl dX12_goesMore_179 jv_12 ji_12 (Or.inl jt_1256) jg_127 jl_127 (by decide) (by decide) rfl jf_12_25 ?_
      refine jw_bipush (pc := 182) dX12_goesMore_182 rfl ?_
      refine jw_iload (pc := 184) 2 dX12_goesMore_184 rfl ?_
      refine jw_imul (pc := 186) dX12_goesMore_186 ?_
      refine jw_aloadR (pc := 187) 0 dX12_goesMore_187 rfl ?_
      refine jw_getR (pc := 188) (j := 26) rfl dX12_goesMore_188 jv_12 ji_12 (Or.inl jt_1257) jg_127 jl_127 (by decide) (by decide) rfl jf_12_26 ?_
      refine jw_iload (pc := 191) 2 dX12_goesMore_191 rfl ?_
      refine jw_iald (pc := 193) dX12_goesMore_193 jg_142 jl_142 (jw_ho jg_142 (by decide)) hx4 rfl (fun h11 => ?_)
      refine jw_iadd (pc := 194) dX12_goesMore_194 ?_
      refine jw_dup2 (pc := 195) dX12_goesMore_195 rfl rfl ?_
      refine jw_iald (pc := 196) dX12_goesMore_196 jg_141 jl_141 (jw_ho jg_141 (by decide)) (jw_wr _) rfl (fun h12 => ?_)
      refine jw_iconst (pc := 197) dX12_goesMore_197 ?_
      refine jw_iadd (pc := 198) dX12_goesMore_198 ?_
      refine jw_iast (pc := 199) dX12_goesMore_199 jg_141 jl_141 (jw_ho jg_141 (by decide)) (jw_wr _) (jw_wr _) rfl ?_
      refine jw_letM (fun M13 => ?_)
      refine jw_aloadR (pc := 200) 0 dX12_goesMore_200 rfl ?_
      refine jw_getR (pc := 201) (j := 26) rfl dX12_goesMore_201 jv_12 ji_12 (Or.inl jt_1257) jg_127 jl_127 (by decide) (by decide) rfl jf_12_26 ?_
      refine jw_iload (pc := 204) 2 dX12_goesMore_204 rfl ?_
      refine jw_iald (pc := 206) dX12_goesMore_206 jg_142 jl_142 (jw_ho jg_142 (by decide)) hx4 rfl (fun h14 => ?_)
      refine jw_istoreL (pc := 207) (lv' := (fun y => [(4, y), (0, jR G 127), (1, jI x1)])) dX12_goesMore_207 h14 (by decide) (fun _ => rfl) (fun v15 hv15 => ?_)
      refine jw_goto (pc := 209) 150 dX12_goesMore_209 (by decide) ?_
      exact jw_few [1, 2, 0] rfl (ih x1 v15 hx1 hv15 M13)
def fX12_goesMore_134 (x1 : Int) (x2 : Int) (M : jw_M) : Option (Int × jw_M) :=
  if 0 ≤ x2 ∧ x2 < 14 then if M 142 x2 = (-1000000) then (some (0, M)) else (Option.bind (some x2) (fun v7 => fX12_goesMore_150 jw_fu x1 v7 M)) else none
set_option maxRecDepth 100000 in
theorem pX12_goesMore_134 (G : jw_G) : ∀ (x1 : Int) (x2 : Int) (hx1 : jw_r x1) (hx2 : jw_r x2) (M : jw_M), jw_Rn G YX12_goesMore 1 0 0 true (fun q => q) 134 [(0, jR G 127), (1, jI x1), (2, jI x2)] [] M (fX12_goesMore_134 x1 x2 M) := by
  intro x1 x2 hx1 hx2 M
  unfold fX12_goesMore_134
  refine jw_aloadR (pc := 134) 0 dX12_goesMore_134 rfl ?_
  refine jw_getR (pc := 135) (j := 26) rfl dX12_goesMore_135 jv_12 ji_12 (Or.inl jt_1257) jg_127 jl_127 (by decide) (by decide) rfl jf_12_26 ?_
  refine jw_iload_n (pc := 138) 2 dX12_goesMore_138 rfl ?_
  refine jw_iald (pc := 139) dX12_goesMore_139 jg_142 jl_142 (jw_ho jg_142 (by decide)) hx2 rfl (fun h6 => ?_)
  refine jw_ldc (pc := 140) (n := (-1000000)) dX12_goesMore_140 jt_1386 (by decide) ?_
  refine jw_ic_ne (pc := 142) 147 dX12_goesMore_142 (by decide) h6 (jw_rc _ rfl) (fun _ => ?_) (fun _ => ?_)
  · refine jw_iconst (pc := 145) dX12_goesMore_145 ?_
    exact jw_ret (pc := 146) (v := 0) dX12_goesMore_146 (Or.inl rfl) rfl rfl
  · refine jw_iload_n (pc := 147) 2 dX12_goesMore_147 rfl ?_
    refine jw_istoreL (pc := 148) (lv' := (fun y => [(4, y), (0, jR G 127), (1, jI x1), (2, jI x2)])) dX12_goesMore_148 hx2 (by decide) (fun _ => rfl) (fun v7 hv7 => ?_)
    exact jw_few [1, 2, 0] rfl (pX12_goesMore_150 G jw_fu x1 v7 hx1 hv7 M)
def fX12_goesMore_119 (r31 : Int → Int → Int → jw_M → Option (Int × jw_M)) (r51 : Int → Int → Int → Int → jw_M → Option (Int × jw_M)) (r61 : Int → Int → Int → Int → Int → jw_M → Option (Int × jw_M)) (x1 : Int) (x2 : Int) (x3 : Int) (x4 : Int) (x5 : Int) (M : jw_M) : Option (Int × jw_M) :=
  Option.bind (some (jw_w (x5 + 1))) (fun v21 => r61 x1 x2 x3 x4 v21 M)
set_option maxRecDepth 100000 in
theorem pX12_goesMore_119 (G : jw_G) (r31 : Int → Int → Int → jw_M → Option (Int × jw_M)) (r51 : Int → Int → Int → Int → jw_M → Option (Int × jw_M)) (r61 : Int → Int → Int → Int → Int → jw_M → Option (Int × jw_M)) (hr31 : ∀ (x1 : Int) (x2 : Int) (x3 : Int) (hx1 : jw_r x1) (hx2 : jw_r x2) (hx3 : jw_r x3) (M : jw_M), jw_Rn G YX12_goesMore 1 0 0 true (fun q => q) 31 [(0, jR G 127), (1, jI x1), (2, jI x2), (3, jI x3)] [] M (r31 x1 x2 x3 M)) (hr51 : ∀ (x1 : Int) (x2 : Int) (x3 : Int) (x4 : Int) (hx1 : jw_r x1) (hx2 : jw_r x2) (hx3 : jw_r x3) (hx4 : jw_r x4) (M : jw_M), jw_Rn G YX12_goesMore 1 0 0 true (fun q => q) 51 [(0, jR G 127), (1, jI x1), (2, jI x2), (3, jI x3), (4, jI x4)] [] M (r51 x1 x2 x3 x4 M)) (hr61 : ∀ (x1 : Int) (x2 : Int) (x3 : Int) (x4 : Int) (x5 : Int) (hx1 : jw_r x1) (hx2 : jw_r x2) (hx3 : jw_r x3) (hx4 : jw_r x4) (hx5 : jw_r x5) (M : jw_M), jw_Rn G YX12_goesMore 1 0 0 true (fun q => q) 61 [(0, jR G 127), (1, jI x1), (2, jI x2), (3, jI x3), (4, jI x4), (5, jI x5)] [] M (r61 x1 x2 x3 x4 x5 M)) : ∀ (x1 : Int) (x2 : Int) (x3 : Int) (x4 : Int) (x5 : Int) (hx1 : jw_r x1) (hx2 : jw_r x2) (hx3 : jw_r x3) (hx4 : jw_r x4) (hx5 : jw_r x5) (M : jw_M), jw_Rn G YX12_goesMore 1 0 0 true (fun q => q) 119 [(0, jR G 127), (1, jI x1), (2, jI x2), (3, jI x3), (4, jI x4), (5, jI x5)] [] M (fX12_goesMore_119 r31 r51 r61 x1 x2 x3 x4 x5 M) := by
  intro x1 x2 x3 x4 x5 hx1 hx2 hx3 hx4 hx5 M
  unfold fX12_goesMore_119
  refine jw_iincL (pc := 119) 5 (lv' := (fun y => [(5, y), (0, jR G 127), (1, jI x1), (2, jI x2), (3, jI x3), (4, jI x4)])) dX12_goesMore_119 rfl (Nat.le_of_ble_eq_true rfl) (fun _ => rfl) (fun v21 hv21 => ?_)
  refine jw_goto (pc := 122) 61 dX12_goesMore_122 (by decide) ?_
  exact jw_few [1, 2, 3, 4, 5, 0] rfl (hr61 x1 x2 x3 x4 v21 hx1 hx2 hx3 hx4 hv21 M)
def fX12_goesMore_61 (r31 : Int → Int → Int → jw_M → Option (Int × jw_M)) (r51 : Int → Int → Int → Int → jw_M → Option (Int × jw_M)) : Nat → Int → Int → Int → Int → Int → jw_M → Option (Int × jw_M)
  | 0, _, _, _, _, _, _ => none
  | k + 1, x1, x2, x3, x4, x5, M => if x5 < 14 then (if 0 ≤ x4 ∧ x4 < 14 then if M 142 x4 = (-1000000) then (fX12_goesMore_119 r31 r51 (fX12_goesMore_61 r31 r51 k) x1 x2 x3 x4 x5 M) else (if 0 ≤ x5 ∧ x5 < 14 then if M 142 x5 = (-1000000) then (if 0 ≤ jw_w ((jw_w (14 * x4)) + x5) ∧ jw_w ((jw_w (14 * x4)) + x5) < 196 then if (0 : Int) < M 141 (jw_w ((jw_w (14 * x4)) + x5)) then (if 0 ≤ x5 ∧ x5 < 14 then Option.bind (some (jw_up M 142 x5 x4)) (fun M24 => Option.bind (some 1) (fun v25 => fX12_goesMore_119 r31 r51 (fX12_goesMore_61 r31 r51 k) x1 x2 v25 x4 x5 M24)) else none) else (fX12_goesMore_119 r31 r51 (fX12_goesMore_61 r31 r51 k) x1 x2 x3 x4 x5 M) else none) else (fX12_goesMore_119 r31 r51 (fX12_goesMore_61 r31 r51 k) x1 x2 x3 x4 x5 M) else none) else none) else (Option.bind (some (jw_w (x4 + 1))) (fun v26 => r51 x1 x2 x3 v26 M))
set_option maxRecDepth 100000 in
theorem pX12_goesMore_61 (G : jw_G) (r31 : Int → Int → Int → jw_M → Option (Int × jw_M)) (r51 : Int → Int → Int → Int → jw_M → Option (Int × jw_M)) (hr31 : ∀ (x1 : Int) (x2 : Int) (x3 : Int) (hx1 : jw_r x1) (hx2 : jw_r x2) (hx3 : jw_r x3) (M : jw_M), jw_Rn G YX12_goesMore 1 0 0 true (fun q => q) 31 [(0, jR G 127), (1, jI x1), (2, jI x2), (3, jI x3)] [] M (r31 x1 x2 x3 M)) (hr51 : ∀ (x1 : Int) (x2 : Int) (x3 : Int) (x4 : Int) (hx1 : jw_r x1) (hx2 : jw_r x2) (hx3 : jw_r x3) (hx4 : jw_r x4) (M : jw_M), jw_Rn G YX12_goesMore 1 0 0 true (fun q => q) 51 [(0, jR G 127), (1, jI x1), (2, jI x2), (3, jI x3), (4, jI x4)] [] M (r51 x1 x2 x3 x4 M)) : ∀ (k : Nat) (x1 : Int) (x2 : Int) (x3 : Int) (x4 : Int) (x5 : Int) (hx1 : jw_r x1) (hx2 : jw_r x2) (hx3 : jw_r x3) (hx4 : jw_r x4) (hx5 : jw_r x5) (M : jw_M), jw_Rn G YX12_goesMore 1 0 0 true (fun q => q) 61 [(0, jR G 127), (1, jI x1), (2, jI x2), (3, jI x3), (4, jI x4), (5, jI x5)] [] M (fX12_goesMore_61 r31 r51 k x1 x2 x3 x4 x5 M) := by
  intro k
  induction k with
  | zero =>
    intro x1 x2 x3 x4 x5 hx1 hx2 hx3 hx4 hx5 M
    exact jw_none
  | succ k ih =>
    intro x1 x2 x3 x4 x5 hx1 hx2 hx3 hx4 hx5 M
    rw [fX12_goesMore_61]
    refine jw_iload (pc := 61) 5 dX12_goesMore_61 rfl ?_
    refine jw_bipush (pc := 63) dX12_goesMore_63 rfl ?_
    refine jw_ic_ge (pc := 65) 125 dX12_goesMore_65 (by decide) hx5 (jw_rc _ rfl) (fun _ => ?_) (fun _ => ?_)
    · refine jw_aloadR (pc := 68) 0 dX12_goesMore_68 rfl ?_
      refine jw_getR (pc := 69) (j := 26) rfl dX12_goesMore_69 jv_12 ji_12 (Or.inl jt_1257) jg_127 jl_127 (by decide) (by decide) rfl jf_12_26 ?_
      refine jw_iload (pc := 72) 4 dX12_goesMore_72 rfl ?_
      refine jw_iald (pc := 74) dX12_goesMore_74 jg_142 jl_142 (jw_ho jg_142 (by decide)) hx4 rfl (fun h20 => ?_)
      refine jw_ldc (pc := 75) (n := (-1000000)) dX12_goesMore_75 jt_1386 (by decide) ?_
      refine jw_ic_eq (pc := 77) 119 dX12_goesMore_77 (by decide) h20 (jw_rc _ rfl) (fun _ => ?_) (fun _ => ?_)
      · exact jw_few [0, 1, 2, 3, 4, 5] rfl (pX12_goesMore_119 G r31 r51 (fX12_goesMore_61 r31 r51 k) hr31 hr51 ih x1 x2 x3 x4 x5 hx1 hx2 hx3 hx4 hx5 M)
      · refine jw_aloadR (pc := 80) 0 dX12_goesMore_80 rfl ?_
        refine jw_getR (pc := 81) (j := 26) rfl dX12_goesMore_81 jv_12 ji_12 (Or.inl jt_1257) jg_127 jl_127 (by decide) (by decide) rfl jf_12_26 ?_
        refine jw_iload (pc := 84) 5 dX12_goesMore_84 rfl ?_
        refine jw_iald (pc := 86) dX12_goesMore_86 jg_142 jl_142 (jw_ho jg_142 (by decide)) hx5 rfl (fun h22 => ?_)
        refine jw_ldc (pc := 87) (n := (-1000000)) dX12_goesMore_87 jt_1386 (by decide) ?_
        refine jw_ic_ne (pc := 89) 119 dX12_goesMore_89 (by decide) h22 (jw_rc _ rfl) (fun _ => ?_) (fun _ => ?_)
        · refine jw_aloadR (pc := 92) 0 dX12_goesMore_92 rfl ?_
          refine jw_getR (pc := 93) (j := 25) rfl dX12_goesMore_93 jv_12 ji_12 (Or.inl jt_1256) jg_127 jl_127 (by decide) (by decide) rfl jf_12_25 ?_
          refine jw_bipush (pc := 96) dX12_goesMore_96 rfl ?_
          refine jw_iload (pc := 98) 4 dX12_goesMore_98 rfl ?_
          refine jw_imul (pc := 100) dX12_goesMore_100 ?_
          refine jw_iload (pc := 101) 5 dX12_goesMore_101 rfl ?_
          refine jw_iadd (pc := 103) dX12_goesMore_103 ?_
          refine jw_iald (pc := 104) dX12_goesMore_104 jg_141 jl_141 (jw_ho jg_141 (by decide)) (jw_wr _) rfl (fun h23 => ?_)
          refine jw_if_le (pc := 105) 119 dX12_goesMore_105 (by decide) h23 (fun _ => ?_) (fun _ => ?_)
          · refine jw_aloadR (pc := 108) 0 dX12_goesMore_108 rfl ?_
            refine jw_getR (pc := 109) (j := 26) rfl dX12_goesMore_109 jv_12 ji_12 (Or.inl jt_1257) jg_127 jl_127 (by decide) (by decide) rfl jf_12_26 ?_
            refine jw_iload (pc := 112) 5 dX12_goesMore_112 rfl ?_
            refine jw_iload (pc := 114) 4 dX12_goesMore_114 rfl ?_
            refine jw_iast (pc := 116) dX12_goesMore_116 jg_142 jl_142 (jw_ho jg_142 (by decide)) hx5 hx4 rfl ?_
            refine jw_letM (fun M24 => ?_)
            refine jw_iconst (pc := 117) dX12_goesMore_117 ?_
            refine jw_istore_nL (pc := 118) (lv' := (fun y => [(3, y), (0, jR G 127), (1, jI x1), (2, jI x2), (4, jI x4), (5, jI x5)])) dX12_goesMore_118 (jw_rc _ rfl) (by decide) (fun _ => rfl) (fun v25 hv25 => ?_)
            exact jw_few [1, 2, 3, 0, 4, 5] rfl (pX12_goesMore_119 G r31 r51 (fX12_goesMore_61 r31 r51 k) hr31 hr51 ih x1 x2 v25 x4 x5 hx1 hx2 hv25 hx4 hx5 M24)
          · exact jw_few [0, 1, 2, 3, 4, 5] rfl (pX12_goesMore_119 G r31 r51 (fX12_goesMore_61 r31 r51 k) hr31 hr51 ih x1 x2 x3 x4 x5 hx1 hx2 hx3 hx4 hx5 M)
        · exact jw_few [0, 1, 2, 3, 4, 5] rfl (pX12_goesMore_119 G r31 r51 (fX12_goesMore_61 r31 r51 k) hr31 hr51 ih x1 x2 x3 x4 x5 hx1 hx2 hx3 hx4 hx5 M)
    · refine jw_iincL (pc := 125) 4 (lv' := (fun y => [(4, y), (0, jR G 127), (1, jI x1), (2, jI x2), (3, jI x3), (5, jI x5)])) dX12_goesMore_125 rfl (Nat.le_of_ble_eq_true rfl) (fun _ => rfl) (fun v26 hv26 => ?_)
      refine jw_goto (pc := 128) 51 dX12_goesMore_128 (by decide) ?_
      exact jw_few [1, 2, 3, 4, 0] rfl (hr51 x1 x2 x3 v26 hx1 hx2 hx3 hv26 M)
def fX12_goesMore_51 (r31 : Int → Int → Int → jw_M → Option (Int × jw_M)) : Nat → Int → Int → Int → Int → jw_M → Option (Int × jw_M)
  | 0, _, _, _, _, _ => none
  | k + 1, x1, x2, x3, x4, M => if x4 < 14 then (Option.bind (some 0) (fun v19 => fX12_goesMore_61 r31 (fX12_goesMore_51 r31 k) jw_fu x1 x2 x3 x4 v19 M)) else (r31 x1 x2 x3 M)
set_option maxRecDepth 100000 in
theorem pX12_goesMore_51 (G : jw_G) (r31 : Int → Int → Int → jw_M → Option (Int × jw_M)) (hr31 : ∀ (x1 : Int) (x2 : Int) (x3 : Int) (hx1 : jw_r x1) (hx2 : jw_r x2) (hx3 : jw_r x3) (M : jw_M), jw_Rn G YX12_goesMore 1 0 0 true (fun q => q) 31 [(0, jR G 127), (1, jI x1), (2, jI x2), (3, jI x3)] [] M (r31 x1 x2 x3 M)) : ∀ (k : Nat) (x1 : Int) (x2 : Int) (x3 : Int) (x4 : Int) (hx1 : jw_r x1) (hx2 : jw_r x2) (hx3 : jw_r x3) (hx4 : jw_r x4) (M : jw_M), jw_Rn G YX12_goesMore 1 0 0 true (fun q => q) 51 [(0, jR G 127), (1, jI x1), (2, jI x2), (3, jI x3), (4, jI x4)] [] M (fX12_goesMore_51 r31 k x1 x2 x3 x4 M) := by
  intro k
  induction k with
  | zero =>
    intro x1 x2 x3 x4 hx1 hx2 hx3 hx4 M
    exact jw_none
  | succ k ih =>
    intro x1 x2 x3 x4 hx1 hx2 hx3 hx4 M
    rw [fX12_goesMore_51]
    refine jw_iload (pc := 51) 4 dX12_goesMore_51 rfl ?_
    refine jw_bipush (pc := 53) dX12_goesMore_53 rfl ?_
    refine jw_ic_ge (pc := 55) 131 dX12_goesMore_55 (by decide) hx4 (jw_rc _ rfl) (fun _ => ?_) (fun _ => ?_)
    · refine jw_iconst (pc := 58) dX12_goesMore_58 ?_
      refine jw_istoreL (pc := 59) (lv' := (fun y => [(5, y), (0, jR G 127), (1, jI x1), (2, jI x2), (3, jI x3), (4, jI x4)])) dX12_goesMore_59 (jw_rc _ rfl) (by decide) (fun _ => rfl) (fun v19 hv19 => ?_)
      exact jw_few [1, 2, 3, 4, 5, 0] rfl (pX12_goesMore_61 G r31 (fX12_goesMore_51 r31 k) hr31 ih jw_fu x1 x2 x3 x4 v19 hx1 hx2 hx3 hx4 hv19 M)
    · refine jw_goto (pc := 131) 31 dX12_goesMore_131 (by decide) ?_
      exact jw_few [0, 1, 2, 3] rfl (hr31 x1 x2 x3 hx1 hx2 hx3 M)
def fX12_goesMore_31 : Nat → Int → Int → Int → jw_M → Option (Int × jw_M)
  | 0, _, _, _, _ => none
  | k + 1, x1, x2, x3, M => if x3 = 0 then (fX12_goesMore_134 x1 x2 M) else (if 0 ≤ x2 ∧ x2 < 14 then if M 142 x2 = (-1000000) then (Option.bind (some 0) (fun v17 => Option.bind (some 0) (fun v18 => fX12_goesMore_51 (fX12_goesMore_31 k) jw_fu x1 x2 v17 v18 M))) else (fX12_goesMore_134 x1 x2 M) else none)
set_option maxRecDepth 100000 in
theorem pX12_goesMore_31 (G : jw_G) : ∀ (k : Nat) (x1 : Int) (x2 : Int) (x3 : Int) (hx1 : jw_r x1) (hx2 : jw_r x2) (hx3 : jw_r x3) (M : jw_M), jw_Rn G YX12_goesMore 1 0 0 true (fun q => q) 31 [(0, jR G 127), (1, jI x1), (2, jI x2), (3, jI x3)] [] M (fX12_goesMore_31 k x1 x2 x3 M) := by
  intro k
  induction k with
  | zero =>
    intro x1 x2 x3 hx1 hx2 hx3 M
    exact jw_none
  | succ k ih =>
    intro x1 x2 x3 hx1 hx2 hx3 M
    rw [fX12_goesMore_31]
    refine jw_iload_n (pc := 31) 3 dX12_goesMore_31 rfl ?_
    refine jw_if_eq (pc := 32) 134 dX12_goesMore_32 (by decide) hx3 (fun _ => ?_) (fun _ => ?_)
    · exact jw_few [0, 1, 2] rfl (pX12_goesMore_134 G x1 x2 hx1 hx2 M)
    · refine jw_aloadR (pc := 35) 0 dX12_goesMore_35 rfl ?_
      refine jw_getR (pc := 36) (j := 26) rfl dX12_goesMore_36 jv_12 ji_12 (Or.inl jt_1257) jg_127 jl_127 (by decide) (by decide) rfl jf_12_26 ?_
      refine jw_iload_n (pc := 39) 2 dX12_goesMore_39 rfl ?_
      refine jw_iald (pc := 40) dX12_goesMore_40 jg_142 jl_142 (jw_ho jg_142 (by decide)) hx2 rfl (fun h16 => ?_)
      refine jw_ldc (pc := 41) (n := (-1000000)) dX12_goesMore_41 jt_1386 (by decide) ?_
      refine jw_ic_ne (pc := 43) 134 dX12_goesMore_43 (by decide) h16 (jw_rc _ rfl) (fun _ => ?_) (fun _ => ?_)
      · refine jw_iconst (pc := 46) dX12_goesMore_46 ?_
        refine jw_istore_nL (pc := 47) (lv' := (fun y => [(3, y), (0, jR G 127), (1, jI x1), (2, jI x2)])) dX12_goesMore_47 (jw_rc _ rfl) (by decide) (fun _ => rfl) (fun v17 hv17 => ?_)
        refine jw_iconst (pc := 48) dX12_goesMore_48 ?_
        refine jw_istoreL (pc := 49) (lv' := (fun y => [(4, y), (3, jI v17), (0, jR G 127), (1, jI x1), (2, jI x2)])) dX12_goesMore_49 (jw_rc _ rfl) (by decide) (fun _ => rfl) (fun v18 hv18 => ?_)
        exact jw_few [2, 3, 4, 1, 0] rfl (pX12_goesMore_51 G (fX12_goesMore_31 k) ih jw_fu x1 x2 v17 v18 hx1 hx2 hv17 hv18 M)
      · exact jw_few [0, 1, 2] rfl (pX12_goesMore_134 G x1 x2 hx1 hx2 M)
def fX12_goesMore_2 : Nat → Int → Int → Int → jw_M → Option (Int × jw_M)
  | 0, _, _, _, _ => none
  | k + 1, x1, x2, x3, M => if x3 < 14 then (if 0 ≤ x3 ∧ x3 < 14 then Option.bind (some (jw_up M 142 x3 (-1000000))) (fun M2 => Option.bind (some (jw_w (x3 + 1))) (fun v3 => fX12_goesMore_2 k x1 x2 v3 M2)) else none) else (if 0 ≤ x1 ∧ x1 < 14 then Option.bind (some (jw_up M 142 x1 x1)) (fun M4 => Option.bind (some 1) (fun v5 => fX12_goesMore_31 jw_fu x1 x2 v5 M4)) else none)
set_option maxRecDepth 100000 in
theorem pX12_goesMore_2 (G : jw_G) : ∀ (k : Nat) (x1 : Int) (x2 : Int) (x3 : Int) (hx1 : jw_r x1) (hx2 : jw_r x2) (hx3 : jw_r x3) (M : jw_M), jw_Rn G YX12_goesMore 1 0 0 true (fun q => q) 2 [(0, jR G 127), (1, jI x1), (2, jI x2), (3, jI x3)] [] M (fX12_goesMore_2 k x1 x2 x3 M) := by
  intro k
  induction k with
  | zero =>
    intro x1 x2 x3 hx1 hx2 hx3 M
    exact jw_none
  | succ k ih =>
    intro x1 x2 x3 hx1 hx2 hx3 M
    rw [fX12_goesMore_2]
    refine jw_iload_n (pc := 2) 3 dX12_goesMore_2 rfl ?_
    refine jw_bipush (pc := 3) dX12_goesMore_3 rfl ?_
    refine jw_ic_ge (pc := 5) 22 dX12_goesMore_5 (by decide) hx3 (jw_rc _ rfl) (fun _ => ?_) (fun _ => ?_)
    · refine jw_aloadR (pc := 8) 0 dX12_goesMore_8 rfl ?_
      refine jw_getR (pc := 9) (j := 26) rfl dX12_goesMore_9 jv_12 ji_12 (Or.inl jt_1257) jg_127 jl_127 (by decide) (by decide) rfl jf_12_26 ?_
      refine jw_iload_n (pc := 12) 3 dX12_goesMore_12 rfl ?_
      refine jw_ldc (pc := 13) (n := (-1000000)) dX12_goesMore_13 jt_1386 (by decide) ?_
      refine jw_iast (pc := 15) dX12_goesMore_15 jg_142 jl_142 (jw_ho jg_142 (by decide)) hx3 (jw_rc _ rfl) rfl ?_
      refine jw_letM (fun M2 => ?_)
      refine jw_iincL (pc := 16) 3 (lv' := (fun y => [(3, y), (0, jR G 127), (1, jI x1), (2, jI x2)])) dX12_goesMore_16 rfl (Nat.le_of_ble_eq_true rfl) (fun _ => rfl) (fun v3 hv3 => ?_)
      refine jw_goto (pc := 19) 2 dX12_goesMore_19 (by decide) ?_
      exact jw_few [1, 2, 3, 0] rfl (ih x1 x2 v3 hx1 hx2 hv3 M2)
    · refine jw_aloadR (pc := 22) 0 dX12_goesMore_22 rfl ?_
      refine jw_getR (pc := 23) (j := 26) rfl dX12_goesMore_23 jv_12 ji_12 (Or.inl jt_1257) jg_127 jl_127 (by decide) (by decide) rfl jf_12_26 ?_
      refine jw_iload_n (pc := 26) 1 dX12_goesMore_26 rfl ?_
      refine jw_iload_n (pc := 27) 1 dX12_goesMore_27 rfl ?_
      refine jw_iast (pc := 28) dX12_goesMore_28 jg_142 jl_142 (jw_ho jg_142 (by decide)) hx1 hx1 rfl ?_
      refine jw_letM (fun M4 => ?_)
      refine jw_iconst (pc := 29) dX12_goesMore_29 ?_
      refine jw_istore_nL (pc := 30) (lv' := (fun y => [(3, y), (0, jR G 127), (1, jI x1), (2, jI x2)])) dX12_goesMore_30 (jw_rc _ rfl) (by decide) (fun _ => rfl) (fun v5 hv5 => ?_)
      exact jw_few [1, 2, 3, 0] rfl (pX12_goesMore_31 G jw_fu x1 x2 v5 hx1 hx2 hv5 M4)
def fX12_goesMore (a1 : Int) (a2 : Int) (M : jw_M) : Option (Int × jw_M) :=
  Option.bind (some 0) (fun v1 => fX12_goesMore_2 jw_fu a1 a2 v1 M)
set_option maxRecDepth 100000 in
theorem rX12_goesMore (G : jw_G) (a1 : Int) (a2 : Int) (ha1 : jw_r a1) (ha2 : jw_r a2) (M : jw_M) : jw_Rn G YX12_goesMore 1 0 0 true (fun q => q) 0 [(0, jR G 127), (1, jI a1), (2, jI a2)] [] M (fX12_goesMore a1 a2 M) := by
  unfold fX12_goesMore
  refine jw_iconst (pc := 0) dX12_goesMore_0 ?_
  refine jw_istore_nL (pc := 1) (lv' := (fun y => [(3, y), (0, jR G 127), (1, jI a1), (2, jI a2)])) dX12_goesMore_1 (jw_rc _ rfl) (by decide) (fun _ => rfl) (fun v1 hv1 => ?_)
  exact jw_few [1, 2, 3, 0] rfl (pX12_goesMore_2 G jw_fu a1 a2 v1 ha1 ha2 hv1 M)
theorem kX12_goesMore (G : jw_G) (a1 : Int) (a2 : Int) (ha1 : jw_r a1) (ha2 : jw_r a2) (M : jw_M) : jw_Ct G YX12_goesMore (some .boolean) 1 0 0 true (fun q => q) yX12_goesMore [jR G 127, jI a1, jI a2] M (fX12_goesMore a1 a2 M) := jw_met (by decide) rfl rfl rfl (Nat.le_of_ble_eq_true rfl) (rX12_goesMore G a1 a2 ha1 ha2 M)
abbrev YX12_escapes : jw_Y := (RX12, cX12_escapes, 4, 2, "escapes")
theorem qX12_escapes : jw_cy YX12_escapes (some .long) yX12_escapes 2 := ⟨by decide, jt_1656, jt_14, by decide, by decide +kernel⟩
theorem dX12_escapes_0 : decode cX12_escapes 0 = .ok (.aload_n 0, 1) := by decide +kernel
theorem dX12_escapes_1 : decode cX12_escapes 1 = .ok (.iconst 0, 1) := by decide +kernel
theorem dX12_escapes_2 : decode cX12_escapes 2 = .ok (.putfield 71, 3) := by decide +kernel
theorem dX12_escapes_5 : decode cX12_escapes 5 = .ok (.aload_n 0, 1) := by decide +kernel
theorem dX12_escapes_6 : decode cX12_escapes 6 = .ok (.iload_n 1, 1) := by decide +kernel
theorem dX12_escapes_7 : decode cX12_escapes 7 = .ok (.invokevirtual 224, 3) := by decide +kernel
theorem dX12_escapes_10 : decode cX12_escapes 10 = .ok (.ifCond .eq 16, 3) := by decide +kernel
theorem dX12_escapes_13 : decode cX12_escapes 13 = .ok (.aload_n 0, 1) := by decide +kernel
theorem dX12_escapes_14 : decode cX12_escapes 14 = .ok (.iload_n 2, 1) := by decide +kernel
theorem dX12_escapes_15 : decode cX12_escapes 15 = .ok (.invokevirtual 224, 3) := by decide +kernel
theorem dX12_escapes_18 : decode cX12_escapes 18 = .ok (.ifCond .eq 8, 3) := by decide +kernel
theorem dX12_escapes_21 : decode cX12_escapes 21 = .ok (.iload_n 1, 1) := by decide +kernel
theorem dX12_escapes_22 : decode cX12_escapes 22 = .ok (.iload_n 2, 1) := by decide +kernel
theorem dX12_escapes_23 : decode cX12_escapes 23 = .ok (.if_icmp .ne 7, 3) := by decide +kernel
theorem dX12_escapes_26 : decode cX12_escapes 26 = .ok (.ldc2_w 92, 3) := by decide +kernel
theorem dX12_escapes_29 : decode cX12_escapes 29 = .ok (.lreturn, 1) := by decide +kernel
theorem dX12_escapes_30 : decode cX12_escapes 30 = .ok (.aload_n 0, 1) := by decide +kernel
theorem dX12_escapes_31 : decode cX12_escapes 31 = .ok (.iload_n 1, 1) := by decide +kernel
theorem dX12_escapes_32 : decode cX12_escapes 32 = .ok (.iload_n 2, 1) := by decide +kernel
theorem dX12_escapes_33 : decode cX12_escapes 33 = .ok (.invokevirtual 316, 3) := by decide +kernel
theorem dX12_escapes_36 : decode cX12_escapes 36 = .ok (.iconst 0, 1) := by decide +kernel
theorem dX12_escapes_37 : decode cX12_escapes 37 = .ok (.istore_n 3, 1) := by decide +kernel
theorem dX12_escapes_38 : decode cX12_escapes 38 = .ok (.aload_n 0, 1) := by decide +kernel
theorem dX12_escapes_39 : decode cX12_escapes 39 = .ok (.bipush 7, 2) := by decide +kernel
theorem dX12_escapes_41 : decode cX12_escapes 41 = .ok (.iload_n 1, 1) := by decide +kernel
theorem dX12_escapes_42 : decode cX12_escapes 42 = .ok (.iadd, 1) := by decide +kernel
theorem dX12_escapes_43 : decode cX12_escapes 43 = .ok (.iload_n 2, 1) := by decide +kernel
theorem dX12_escapes_44 : decode cX12_escapes 44 = .ok (.invokevirtual 319, 3) := by decide +kernel
theorem dX12_escapes_47 : decode cX12_escapes 47 = .ok (.ifCond .eq 9, 3) := by decide +kernel
theorem dX12_escapes_50 : decode cX12_escapes 50 = .ok (.iinc 3 1, 3) := by decide +kernel
theorem dX12_escapes_53 : decode cX12_escapes 53 = .ok (.goto (-15), 3) := by decide +kernel
theorem dX12_escapes_56 : decode cX12_escapes 56 = .ok (.iload_n 3, 1) := by decide +kernel
theorem dX12_escapes_57 : decode cX12_escapes 57 = .ok (.i2l, 1) := by decide +kernel
theorem dX12_escapes_58 : decode cX12_escapes 58 = .ok (.lreturn, 1) := by decide +kernel
def fX12_escapes_38 : Nat → Int → Int → Int → jw_M → Option (Int × jw_M)
  | 0, _, _, _, _ => none
  | k + 1, x1, x2, x3, M => jw_b2 (fX12_goesMore (jw_w (7 + x1)) x2 M) (fun v6 M7 => if v6 = 0 then (some (x3, M7)) else (Option.bind (some (jw_w (x3 + 1))) (fun v8 => fX12_escapes_38 k x1 x2 v8 M7)))
set_option maxRecDepth 100000 in
theorem pX12_escapes_38 (G : jw_G) : ∀ (k : Nat) (x1 : Int) (x2 : Int) (x3 : Int) (hx1 : jw_r x1) (hx2 : jw_r x2) (hx3 : jw_r x3) (M : jw_M), jw_Rn G YX12_escapes 3 0 0 true (fun q => q) 38 [(0, jR G 127), (1, jI x1), (2, jI x2), (3, jI x3)] [] M (fX12_escapes_38 k x1 x2 x3 M) := by
  intro k
  induction k with
  | zero =>
    intro x1 x2 x3 hx1 hx2 hx3 M
    exact jw_none
  | succ k ih =>
    intro x1 x2 x3 hx1 hx2 hx3 M
    rw [fX12_escapes_38]
    refine jw_aloadR (pc := 38) 0 dX12_escapes_38 rfl ?_
    refine jw_bipush (pc := 39) dX12_escapes_39 rfl ?_
    refine jw_iload_n (pc := 41) 1 dX12_escapes_41 rfl ?_
    refine jw_iadd (pc := 42) dX12_escapes_42 ?_
    refine jw_iload_n (pc := 43) 2 dX12_escapes_43 rfl ?_
    refine jw_callVMz (pc := 44) (As := [jI (jw_w (7 + x1)), jI x2]) (st := []) dX12_escapes_44 rfl (Nat.le_of_ble_eq_true rfl) qX12_goesMore jt_1661 jt_1663 jp_86 rfl rfl (Nat.le_of_ble_eq_true rfl) jv_12 rfl jg_127 jl_127 (by decide) (jw_ho jg_127 (by decide)) (kX12_goesMore G (jw_w (7 + x1)) x2 (jw_wr _) hx2 M) (fun v6 M7 hv6 => ?_)
    refine jw_if_eq (pc := 47) 56 dX12_escapes_47 (by decide) (jw_bz hv6) (fun _ => ?_) (fun _ => ?_)
    · refine jw_iload_n (pc := 56) 3 dX12_escapes_56 rfl ?_
      refine jw_i2lr (pc := 57) dX12_escapes_57 hx3 ?_
      exact jw_ret (pc := 58) (v := x3) dX12_escapes_58 (jw_rq hx3) rfl rfl
    · refine jw_iincL (pc := 50) 3 (lv' := (fun y => [(3, y), (0, jR G 127), (1, jI x1), (2, jI x2)])) dX12_escapes_50 rfl (Nat.le_of_ble_eq_true rfl) (fun _ => rfl) (fun v8 hv8 => ?_)
      refine jw_goto (pc := 53) 38 dX12_escapes_53 (by decide) ?_
      exact jw_few [1, 2, 3, 0] rfl (ih x1 x2 v8 hx1 hx2 hv8 M7)
def fX12_escapes (a1 : Int) (a2 : Int) (M : jw_M) : Option (Int × jw_M) :=
  Option.bind (some (jw_up M 127 0 0)) (fun M1 => Option.bind (fX12_isCorner a1 M1) (fun v2 => if v2 = 0 then (some ((-9000000000000000001), M1)) else (Option.bind (fX12_isCorner a2 M1) (fun v3 => if v3 = 0 then (some ((-9000000000000000001), M1)) else (if a1 = a2 then (some ((-9000000000000000001), M1)) else (Option.bind (fX12_layRoom a1 a2 M1) (fun M4 => Option.bind (some 0) (fun v5 => fX12_escapes_38 jw_fu a1 a2 v5 M4))))))))
set_option maxRecDepth 100000 in
theorem rX12_escapes (G : jw_G) (a1 : Int) (a2 : Int) (ha1 : jw_r a1) (ha2 : jw_r a2) (M : jw_M) : jw_Rn G YX12_escapes 3 0 0 true (fun q => q) 0 [(0, jR G 127), (1, jI a1), (2, jI a2)] [] M (fX12_escapes a1 a2 M) := by
  unfold fX12_escapes
  refine jw_aloadR (pc := 0) 0 dX12_escapes_0 rfl ?_
  refine jw_iconst (pc := 1) dX12_escapes_1 ?_
  refine jw_putI (pc := 2) (j := 0) tyX12 rfl dX12_escapes_2 jv_12 ji_12 tyX12_ok nmX12 (Or.inl jt_1231) rfl jg_127 jl_127 (by decide) (by decide) (jw_ho jg_127 (by decide)) rfl rfl (jw_rc _ rfl) rfl ?_
  refine jw_letM (fun M1 => ?_)
  refine jw_aloadR (pc := 5) 0 dX12_escapes_5 rfl ?_
  refine jw_iload_n (pc := 6) 1 dX12_escapes_6 rfl ?_
  refine jw_callVz (pc := 7) (As := [jI a1]) (st := []) dX12_escapes_7 rfl (Nat.le_of_ble_eq_true rfl) qX12_isCorner jt_1478 jt_1480 jp_63 rfl rfl (Nat.le_of_ble_eq_true rfl) jv_12 rfl jg_127 jl_127 (by decide) (jw_ho jg_127 (by decide)) (kX12_isCorner G a1 ha1 M1) (fun v2 hv2 => ?_)
  refine jw_if_eq (pc := 10) 26 dX12_escapes_10 (by decide) (jw_bz hv2) (fun _ => ?_) (fun _ => ?_)
  · refine jw_ldc2 (pc := 26) (n := (-9000000000000000001)) dX12_escapes_26 jt_1349 (by decide) ?_
    exact jw_ret (pc := 29) (v := (-9000000000000000001)) dX12_escapes_29 (jw_qc _ rfl) rfl rfl
  · refine jw_aloadR (pc := 13) 0 dX12_escapes_13 rfl ?_
    refine jw_iload_n (pc := 14) 2 dX12_escapes_14 rfl ?_
    refine jw_callVz (pc := 15) (As := [jI a2]) (st := []) dX12_escapes_15 rfl (Nat.le_of_ble_eq_true rfl) qX12_isCorner jt_1478 jt_1480 jp_63 rfl rfl (Nat.le_of_ble_eq_true rfl) jv_12 rfl jg_127 jl_127 (by decide) (jw_ho jg_127 (by decide)) (kX12_isCorner G a2 ha2 M1) (fun v3 hv3 => ?_)
    refine jw_if_eq (pc := 18) 26 dX12_escapes_18 (by decide) (jw_bz hv3) (fun _ => ?_) (fun _ => ?_)
    · refine jw_ldc2 (pc := 26) (n := (-9000000000000000001)) dX12_escapes_26 jt_1349 (by decide) ?_
      exact jw_ret (pc := 29) (v := (-9000000000000000001)) dX12_escapes_29 (jw_qc _ rfl) rfl rfl
    · refine jw_iload_n (pc := 21) 1 dX12_escapes_21 rfl ?_
      refine jw_iload_n (pc := 22) 2 dX12_escapes_22 rfl ?_
      refine jw_ic_ne (pc := 23) 30 dX12_escapes_23 (by decide) ha1 ha2 (fun _ => ?_) (fun _ => ?_)
      · refine jw_ldc2 (pc := 26) (n := (-9000000000000000001)) dX12_escapes_26 jt_1349 (by decide) ?_
        exact jw_ret (pc := 29) (v := (-9000000000000000001)) dX12_escapes_29 (jw_qc _ rfl) rfl rfl
      · refine jw_aloadR (pc := 30) 0 dX12_escapes_30 rfl ?_
        refine jw_iload_n (pc := 31) 1 dX12_escapes_31 rfl ?_
        refine jw_iload_n (pc := 32) 2 dX12_escapes_32 rfl ?_
        refine jw_callVM (pc := 33) (As := [jI a1, jI a2]) (st := []) dX12_escapes_33 rfl (Nat.le_of_ble_eq_true rfl) qX12_layRoom jt_1657 jt_1659 jp_85 rfl rfl (Nat.le_of_ble_eq_true rfl) jv_12 rfl jg_127 jl_127 (by decide) (jw_ho jg_127 (by decide)) (kX12_layRoom G a1 a2 ha1 ha2 M1) (fun M4 => ?_)
        refine jw_iconst (pc := 36) dX12_escapes_36 ?_
        refine jw_istore_nL (pc := 37) (lv' := (fun y => [(3, y), (0, jR G 127), (1, jI a1), (2, jI a2)])) dX12_escapes_37 (jw_rc _ rfl) (by decide) (fun _ => rfl) (fun v5 hv5 => ?_)
        exact jw_few [1, 2, 3, 0] rfl (pX12_escapes_38 G jw_fu a1 a2 v5 ha1 ha2 hv5 M4)
theorem kX12_escapes (G : jw_G) (a1 : Int) (a2 : Int) (ha1 : jw_r a1) (ha2 : jw_r a2) (M : jw_M) : jw_Ct G YX12_escapes (some .long) 3 0 0 true (fun q => q) yX12_escapes [jR G 127, jI a1, jI a2] M (fX12_escapes a1 a2 M) := jw_met (by decide) rfl rfl rfl (Nat.le_of_ble_eq_true rfl) (rX12_escapes G a1 a2 ha1 ha2 M)
abbrev YX12_layValue : jw_Y := (RX12, cX12_layValue, 8, 0, "layValue")
theorem qX12_layValue : jw_cy YX12_layValue none yX12_layValue 2 := ⟨by decide, jt_1677, jt_14, by decide, by decide +kernel⟩
theorem dX12_layValue_0 : decode cX12_layValue 0 = .ok (.lconst 1, 1) := by decide +kernel
theorem dX12_layValue_1 : decode cX12_layValue 1 = .ok (.lstore_n 3, 1) := by decide +kernel
theorem dX12_layValue_2 : decode cX12_layValue 2 = .ok (.aload_n 0, 1) := by decide +kernel
theorem dX12_layValue_3 : decode cX12_layValue 3 = .ok (.lconst 0, 1) := by decide +kernel
theorem dX12_layValue_4 : decode cX12_layValue 4 = .ok (.putfield 322, 3) := by decide +kernel
theorem dX12_layValue_7 : decode cX12_layValue 7 = .ok (.aload_n 0, 1) := by decide +kernel
theorem dX12_layValue_8 : decode cX12_layValue 8 = .ok (.lconst 0, 1) := by decide +kernel
theorem dX12_layValue_9 : decode cX12_layValue 9 = .ok (.putfield 326, 3) := by decide +kernel
theorem dX12_layValue_12 : decode cX12_layValue 12 = .ok (.iconst 0, 1) := by decide +kernel
theorem dX12_layValue_13 : decode cX12_layValue 13 = .ok (.istore 5, 2) := by decide +kernel
theorem dX12_layValue_15 : decode cX12_layValue 15 = .ok (.iload 5, 2) := by decide +kernel
theorem dX12_layValue_17 : decode cX12_layValue 17 = .ok (.aload_n 0, 1) := by decide +kernel
theorem dX12_layValue_18 : decode cX12_layValue 18 = .ok (.getfield 19, 3) := by decide +kernel
theorem dX12_layValue_21 : decode cX12_layValue 21 = .ok (.iconst 0, 1) := by decide +kernel
theorem dX12_layValue_22 : decode cX12_layValue 22 = .ok (.iaload, 1) := by decide +kernel
theorem dX12_layValue_23 : decode cX12_layValue 23 = .ok (.if_icmp .ge 43, 3) := by decide +kernel
theorem dX12_layValue_26 : decode cX12_layValue 26 = .ok (.lload_n 3, 1) := by decide +kernel
theorem dX12_layValue_27 : decode cX12_layValue 27 = .ok (.aload_n 0, 1) := by decide +kernel
theorem dX12_layValue_28 : decode cX12_layValue 28 = .ok (.getfield 19, 3) := by decide +kernel
theorem dX12_layValue_31 : decode cX12_layValue 31 = .ok (.bipush 7, 2) := by decide +kernel
theorem dX12_layValue_33 : decode cX12_layValue 33 = .ok (.iload 5, 2) := by decide +kernel
theorem dX12_layValue_35 : decode cX12_layValue 35 = .ok (.iadd, 1) := by decide +kernel
theorem dX12_layValue_36 : decode cX12_layValue 36 = .ok (.iaload, 1) := by decide +kernel
theorem dX12_layValue_37 : decode cX12_layValue 37 = .ok (.iload_n 2, 1) := by decide +kernel
theorem dX12_layValue_38 : decode cX12_layValue 38 = .ok (.if_icmp .lt 19, 3) := by decide +kernel
theorem dX12_layValue_41 : decode cX12_layValue 41 = .ok (.aload_n 0, 1) := by decide +kernel
theorem dX12_layValue_42 : decode cX12_layValue 42 = .ok (.getfield 19, 3) := by decide +kernel
theorem dX12_layValue_45 : decode cX12_layValue 45 = .ok (.bipush 7, 2) := by decide +kernel
theorem dX12_layValue_47 : decode cX12_layValue 47 = .ok (.iload 5, 2) := by decide +kernel
theorem dX12_layValue_49 : decode cX12_layValue 49 = .ok (.iadd, 1) := by decide +kernel
theorem dX12_layValue_50 : decode cX12_layValue 50 = .ok (.iaload, 1) := by decide +kernel
theorem dX12_layValue_51 : decode cX12_layValue 51 = .ok (.iload_n 1, 1) := by decide +kernel
theorem dX12_layValue_52 : decode cX12_layValue 52 = .ok (.iadd, 1) := by decide +kernel
theorem dX12_layValue_53 : decode cX12_layValue 53 = .ok (.i2l, 1) := by decide +kernel
theorem dX12_layValue_54 : decode cX12_layValue 54 = .ok (.goto 4, 3) := by decide +kernel
theorem dX12_layValue_57 : decode cX12_layValue 57 = .ok (.lconst 1, 1) := by decide +kernel
theorem dX12_layValue_58 : decode cX12_layValue 58 = .ok (.lmul, 1) := by decide +kernel
theorem dX12_layValue_59 : decode cX12_layValue 59 = .ok (.lstore_n 3, 1) := by decide +kernel
theorem dX12_layValue_60 : decode cX12_layValue 60 = .ok (.iinc 5 1, 3) := by decide +kernel
theorem dX12_layValue_63 : decode cX12_layValue 63 = .ok (.goto (-48), 3) := by decide +kernel
theorem dX12_layValue_66 : decode cX12_layValue 66 = .ok (.iconst 0, 1) := by decide +kernel
theorem dX12_layValue_67 : decode cX12_layValue 67 = .ok (.istore 5, 2) := by decide +kernel
theorem dX12_layValue_69 : decode cX12_layValue 69 = .ok (.iload 5, 2) := by decide +kernel
theorem dX12_layValue_71 : decode cX12_layValue 71 = .ok (.aload_n 0, 1) := by decide +kernel
theorem dX12_layValue_72 : decode cX12_layValue 72 = .ok (.getfield 19, 3) := by decide +kernel
theorem dX12_layValue_75 : decode cX12_layValue 75 = .ok (.iconst 0, 1) := by decide +kernel
theorem dX12_layValue_76 : decode cX12_layValue 76 = .ok (.iaload, 1) := by decide +kernel
theorem dX12_layValue_77 : decode cX12_layValue 77 = .ok (.if_icmp .ge 74, 3) := by decide +kernel
theorem dX12_layValue_80 : decode cX12_layValue 80 = .ok (.aload_n 0, 1) := by decide +kernel
theorem dX12_layValue_81 : decode cX12_layValue 81 = .ok (.getfield 19, 3) := by decide +kernel
theorem dX12_layValue_84 : decode cX12_layValue 84 = .ok (.bipush 7, 2) := by decide +kernel
theorem dX12_layValue_86 : decode cX12_layValue 86 = .ok (.iload 5, 2) := by decide +kernel
theorem dX12_layValue_88 : decode cX12_layValue 88 = .ok (.iadd, 1) := by decide +kernel
theorem dX12_layValue_89 : decode cX12_layValue 89 = .ok (.iaload, 1) := by decide +kernel
theorem dX12_layValue_90 : decode cX12_layValue 90 = .ok (.iload_n 2, 1) := by decide +kernel
theorem dX12_layValue_91 : decode cX12_layValue 91 = .ok (.if_icmp .lt 54, 3) := by decide +kernel
theorem dX12_layValue_94 : decode cX12_layValue 94 = .ok (.lload_n 3, 1) := by decide +kernel
theorem dX12_layValue_95 : decode cX12_layValue 95 = .ok (.aload_n 0, 1) := by decide +kernel
theorem dX12_layValue_96 : decode cX12_layValue 96 = .ok (.getfield 19, 3) := by decide +kernel
theorem dX12_layValue_99 : decode cX12_layValue 99 = .ok (.bipush 7, 2) := by decide +kernel
theorem dX12_layValue_101 : decode cX12_layValue 101 = .ok (.iload 5, 2) := by decide +kernel
theorem dX12_layValue_103 : decode cX12_layValue 103 = .ok (.iadd, 1) := by decide +kernel
theorem dX12_layValue_104 : decode cX12_layValue 104 = .ok (.iaload, 1) := by decide +kernel
theorem dX12_layValue_105 : decode cX12_layValue 105 = .ok (.iload_n 1, 1) := by decide +kernel
theorem dX12_layValue_106 : decode cX12_layValue 106 = .ok (.iadd, 1) := by decide +kernel
theorem dX12_layValue_107 : decode cX12_layValue 107 = .ok (.i2l, 1) := by decide +kernel
theorem dX12_layValue_108 : decode cX12_layValue 108 = .ok (.ldiv, 1) := by decide +kernel
theorem dX12_layValue_109 : decode cX12_layValue 109 = .ok (.lstore 6, 2) := by decide +kernel
theorem dX12_layValue_111 : decode cX12_layValue 111 = .ok (.aload_n 0, 1) := by decide +kernel
theorem dX12_layValue_112 : decode cX12_layValue 112 = .ok (.dup, 1) := by decide +kernel
theorem dX12_layValue_113 : decode cX12_layValue 113 = .ok (.getfield 322, 3) := by decide +kernel
theorem dX12_layValue_116 : decode cX12_layValue 116 = .ok (.lload 6, 2) := by decide +kernel
theorem dX12_layValue_118 : decode cX12_layValue 118 = .ok (.aload_n 0, 1) := by decide +kernel
theorem dX12_layValue_119 : decode cX12_layValue 119 = .ok (.getfield 19, 3) := by decide +kernel
theorem dX12_layValue_122 : decode cX12_layValue 122 = .ok (.bipush 7, 2) := by decide +kernel
theorem dX12_layValue_124 : decode cX12_layValue 124 = .ok (.iload 5, 2) := by decide +kernel
theorem dX12_layValue_126 : decode cX12_layValue 126 = .ok (.iadd, 1) := by decide +kernel
theorem dX12_layValue_127 : decode cX12_layValue 127 = .ok (.iaload, 1) := by decide +kernel
theorem dX12_layValue_128 : decode cX12_layValue 128 = .ok (.i2l, 1) := by decide +kernel
theorem dX12_layValue_129 : decode cX12_layValue 129 = .ok (.lmul, 1) := by decide +kernel
theorem dX12_layValue_130 : decode cX12_layValue 130 = .ok (.ladd, 1) := by decide +kernel
theorem dX12_layValue_131 : decode cX12_layValue 131 = .ok (.putfield 322, 3) := by decide +kernel
theorem dX12_layValue_134 : decode cX12_layValue 134 = .ok (.aload_n 0, 1) := by decide +kernel
theorem dX12_layValue_135 : decode cX12_layValue 135 = .ok (.dup, 1) := by decide +kernel
theorem dX12_layValue_136 : decode cX12_layValue 136 = .ok (.getfield 326, 3) := by decide +kernel
theorem dX12_layValue_139 : decode cX12_layValue 139 = .ok (.lload 6, 2) := by decide +kernel
theorem dX12_layValue_141 : decode cX12_layValue 141 = .ok (.ladd, 1) := by decide +kernel
theorem dX12_layValue_142 : decode cX12_layValue 142 = .ok (.putfield 326, 3) := by decide +kernel
theorem dX12_layValue_145 : decode cX12_layValue 145 = .ok (.iinc 5 1, 3) := by decide +kernel
theorem dX12_layValue_148 : decode cX12_layValue 148 = .ok (.goto (-79), 3) := by decide +kernel
theorem dX12_layValue_151 : decode cX12_layValue 151 = .ok (.aload_n 0, 1) := by decide +kernel
theorem dX12_layValue_152 : decode cX12_layValue 152 = .ok (.dup, 1) := by decide +kernel
theorem dX12_layValue_153 : decode cX12_layValue 153 = .ok (.getfield 322, 3) := by decide +kernel
theorem dX12_layValue_156 : decode cX12_layValue 156 = .ok (.lload_n 3, 1) := by decide +kernel
theorem dX12_layValue_157 : decode cX12_layValue 157 = .ok (.lsub, 1) := by decide +kernel
theorem dX12_layValue_158 : decode cX12_layValue 158 = .ok (.putfield 322, 3) := by decide +kernel
theorem dX12_layValue_161 : decode cX12_layValue 161 = .ok (.return_, 1) := by decide +kernel
def fX12_layValue_58 (r15 : Int → Int → Int → Int → jw_M → Option jw_M) (x1 : Int) (x2 : Int) (x5 : Int) (xs0 : Int) (xs1 : Int) (M : jw_M) : Option jw_M :=
  Option.bind (some (jw_v (xs1 * xs0))) (fun v7 => Option.bind (some (jw_w (x5 + 1))) (fun v8 => r15 x1 x2 v7 v8 M))
set_option maxRecDepth 100000 in
theorem pX12_layValue_58 (G : jw_G) (r15 : Int → Int → Int → Int → jw_M → Option jw_M) (hr15 : ∀ (x1 : Int) (x2 : Int) (x3 : Int) (x5 : Int) (hx1 : jw_r x1) (hx2 : jw_r x2) (hx3 : jw_q x3) (hx5 : jw_r x5) (M : jw_M), jw_Rn G YX12_layValue 1 0 0 true (fun M1 => (0, M1)) 15 [(0, jR G 127), (1, jI x1), (2, jI x2), (3, jL x3), (5, jI x5)] [] M (r15 x1 x2 x3 x5 M)) : ∀ (x1 : Int) (x2 : Int) (x5 : Int) (xs0 : Int) (xs1 : Int) (hx1 : jw_r x1) (hx2 : jw_r x2) (hx5 : jw_r x5) (hxs0 : jw_q xs0) (hxs1 : jw_q xs1) (M : jw_M), jw_Rn G YX12_layValue 1 0 0 true (fun M1 => (0, M1)) 58 [(0, jR G 127), (1, jI x1), (2, jI x2), (5, jI x5)] [jL xs0, jL xs1] M (fX12_layValue_58 r15 x1 x2 x5 xs0 xs1 M) := by
  intro x1 x2 x5 xs0 xs1 hx1 hx2 hx5 hxs0 hxs1 M
  unfold fX12_layValue_58
  refine jw_lmul (pc := 58) dX12_layValue_58 ?_
  refine jw_lstore_nL (pc := 59) (lv' := (fun y => [(3, y), (0, jR G 127), (1, jI x1), (2, jI x2), (5, jI x5)])) dX12_layValue_59 (jw_vr _) (by decide) (fun _ => rfl) (fun v7 hv7 => ?_)
  refine jw_iincL (pc := 60) 4 (lv' := (fun y => [(5, y), (3, jL v7), (0, jR G 127), (1, jI x1), (2, jI x2)])) dX12_layValue_60 rfl (Nat.le_of_ble_eq_true rfl) (fun _ => rfl) (fun v8 hv8 => ?_)
  refine jw_goto (pc := 63) 15 dX12_layValue_63 (by decide) ?_
  exact jw_few [2, 3, 4, 1, 0] rfl (hr15 x1 x2 v7 v8 hx1 hx2 hv7 hv8 M)
def fX12_layValue_145 (r69 : Int → Int → Int → Int → jw_M → Option jw_M) (x1 : Int) (x2 : Int) (x3 : Int) (x5 : Int) (M : jw_M) : Option jw_M :=
  Option.bind (some (jw_w (x5 + 1))) (fun v13 => r69 x1 x2 x3 v13 M)
set_option maxRecDepth 100000 in
theorem pX12_layValue_145 (G : jw_G) (r69 : Int → Int → Int → Int → jw_M → Option jw_M) (hr69 : ∀ (x1 : Int) (x2 : Int) (x3 : Int) (x5 : Int) (hx1 : jw_r x1) (hx2 : jw_r x2) (hx3 : jw_q x3) (hx5 : jw_r x5) (M : jw_M), jw_Rn G YX12_layValue 1 0 0 true (fun M1 => (0, M1)) 69 [(0, jR G 127), (1, jI x1), (2, jI x2), (3, jL x3), (5, jI x5)] [] M (r69 x1 x2 x3 x5 M)) : ∀ (x1 : Int) (x2 : Int) (x3 : Int) (x5 : Int) (hx1 : jw_r x1) (hx2 : jw_r x2) (hx3 : jw_q x3) (hx5 : jw_r x5) (M : jw_M), jw_Rn G YX12_layValue 1 0 0 true (fun M1 => (0, M1)) 145 [(0, jR G 127), (1, jI x1), (2, jI x2), (3, jL x3), (5, jI x5)] [] M (fX12_layValue_145 r69 x1 x2 x3 x5 M) := by
  intro x1 x2 x3 x5 hx1 hx2 hx3 hx5 M
  unfold fX12_layValue_145
  refine jw_iincL (pc := 145) 4 (lv' := (fun y => [(5, y), (0, jR G 127), (1, jI x1), (2, jI x2), (3, jL x3)])) dX12_layValue_145 rfl (Nat.le_of_ble_eq_true rfl) (fun _ => rfl) (fun v13 hv13 => ?_)
  refine jw_goto (pc := 148) 69 dX12_layValue_148 (by decide) ?_
  exact jw_few [1, 2, 3, 4, 0] rfl (hr69 x1 x2 x3 v13 hx1 hx2 hx3 hv13 M)
def fX12_layValue_69 : Nat → Int → Int → Int → Int → jw_M → Option jw_M
  | 0, _, _, _, _, _ => none
  | k + 1, x1, x2, x3, x5, M => if 0 ≤ (0 : Int) ∧ (0 : Int) < 104 then if x5 < M 131 0 then (if 0 ≤ jw_w (7 + x5) ∧ jw_w (7 + x5) < 104 then if M 131 (jw_w (7 + x5)) < x2 then (fX12_layValue_145 (fX12_layValue_69 k) x1 x2 x3 x5 M) else (if 0 ≤ jw_w (7 + x5) ∧ jw_w (7 + x5) < 104 then if jw_w ((M 131 (jw_w (7 + x5))) + x1) ≠ 0 then Option.bind (some (jw_v (Int.tdiv x3 (jw_w ((M 131 (jw_w (7 + x5))) + x1))))) (fun v15 => if 0 ≤ jw_w (7 + x5) ∧ jw_w (7 + x5) < 104 then Option.bind (some (jw_up M 127 27 (jw_v ((M 127 27) + (jw_v (v15 * (M 131 (jw_w (7 + x5))))))))) (fun M18 => Option.bind (some (jw_up M18 127 28 (jw_v ((M18 127 28) + v15)))) (fun M20 => fX12_layValue_145 (fX12_layValue_69 k) x1 x2 x3 x5 M20)) else none) else none else none) else none) else (Option.bind (some (jw_up M 127 27 (jw_v ((M 127 27) - x3)))) (fun M22 => some M22)) else none
set_option maxRecDepth 100000 in
theorem pX12_layValue_69 (G : jw_G) : ∀ (k : Nat) (x1 : Int) (x2 : Int) (x3 : Int) (x5 : Int) (hx1 : jw_r x1) (hx2 : jw_r x2) (hx3 : jw_q x3) (hx5 : jw_r x5) (M : jw_M), jw_Rn G YX12_layValue 1 0 0 true (fun M1 => (0, M1)) 69 [(0, jR G 127), (1, jI x1), (2, jI x2), (3, jL x3), (5, jI x5)] [] M (fX12_layValue_69 k x1 x2 x3 x5 M) := by
  intro k
  induction k with
  | zero =>
    intro x1 x2 x3 x5 hx1 hx2 hx3 hx5 M
    exact jw_none
  | succ k ih =>
    intro x1 x2 x3 x5 hx1 hx2 hx3 hx5 M
    rw [fX12_layValue_69]
    refine jw_iload (pc := 69) 4 dX12_layValue_69 rfl ?_
    refine jw_aloadR (pc := 71) 0 dX12_layValue_71 rfl ?_
    refine jw_getR (pc := 72) (j := 5) rfl dX12_layValue_72 jv_12 ji_12 (Or.inl jt_1236) jg_127 jl_127 (by decide) (by decide) rfl jf_12_5 ?_
    refine jw_iconst (pc := 75) dX12_layValue_75 ?_
    refine jw_iald (pc := 76) dX12_layValue_76 jg_131 jl_131 (jw_ho jg_131 (by decide)) (jw_rc _ rfl) rfl (fun h11 => ?_)
    refine jw_ic_ge (pc := 77) 151 dX12_layValue_77 (by decide) hx5 h11 (fun _ => ?_) (fun _ => ?_)
    · refine jw_aloadR (pc := 80) 0 dX12_layValue_80 rfl ?_
      refine jw_getR (pc := 81) (j := 5) rfl dX12_layValue_81 jv_12 ji_12 (Or.inl jt_1236) jg_127 jl_127 (by decide) (by decide) rfl jf_12_5 ?_
      refine jw_bipush (pc := 84) dX12_layValue_84 rfl ?_
      refine jw_iload (pc := 86) 4 dX12_layValue_86 rfl ?_
      refine jw_iadd (pc := 88) dX12_layValue_88 ?_
      refine jw_iald (pc := 89) dX12_layValue_89 jg_131 jl_131 (jw_ho jg_131 (by decide)) (jw_wr _) rfl (fun h12 => ?_)
      refine jw_iload_n (pc := 90) 2 dX12_layValue_90 rfl ?_
      refine jw_ic_lt (pc := 91) 145 dX12_layValue_91 (by decide) h12 hx2 (fun _ => ?_) (fun _ => ?_)
      · exact jw_few [0, 1, 2, 3, 4] rfl (pX12_layValue_145 G (fX12_layValue_69 k) ih x1 x2 x3 x5 hx1 hx2 hx3 hx5 M)
      · refine jw_lload_n (pc := 94) 3 dX12_layValue_94 rfl ?_
        refine jw_aloadR (pc := 95) 0 dX12_layValue_95 rfl ?_
        refine jw_getR (pc := 96) (j := 5) rfl dX12_layValue_96 jv_12 ji_12 (Or.inl jt_1236) jg_127 jl_127 (by decide) (by decide) rfl jf_12_5 ?_
        refine jw_bipush (pc := 99) dX12_layValue_99 rfl ?_
        refine jw_iload (pc := 101) 4 dX12_layValue_101 rfl ?_
        refine jw_iadd (pc := 103) dX12_layValue_103 ?_
        refine jw_iald (pc := 104) dX12_layValue_104 jg_131 jl_131 (jw_ho jg_131 (by decide)) (jw_wr _) rfl (fun h14 => ?_)
        refine jw_iload_n (pc := 105) 1 dX12_layValue_105 rfl ?_
        refine jw_iadd (pc := 106) dX12_layValue_106 ?_
        refine jw_i2lr (pc := 107) dX12_layValue_107 (jw_wr _) ?_
        refine jw_ldiv (pc := 108) dX12_layValue_108 hx3 (jw_rq (jw_wr _)) ?_
        refine jw_lstoreL (pc := 109) (lv' := (fun y => [(6, y), (0, jR G 127), (1, jI x1), (2, jI x2), (3, jL x3), (5, jI x5)])) dX12_layValue_109 (jw_vr _) (by decide) (fun _ => rfl) (fun v15 hv15 => ?_)
        refine jw_aloadR (pc := 111) 1 dX12_layValue_111 rfl ?_
        refine jw_dup (pc := 112) dX12_layValue_112 rfl ?_
        refine jw_getL (pc := 113) (j := 27) rfl dX12_layValue_113 jv_12 ji_12 (Or.inl jt_1258) jg_127 jl_127 (by decide) (by decide) (jw_ho jg_127 (by decide)) rfl rfl (fun h16 => ?_)
        refine jw_lload (pc := 116) 0 dX12_layValue_116 rfl ?_
        refine jw_aloadR (pc := 118) 1 dX12_layValue_118 rfl ?_
        refine jw_getR (pc := 119) (j := 5) rfl dX12_layValue_119 jv_12 ji_12 (Or.inl jt_1236) jg_127 jl_127 (by decide) (by decide) rfl jf_12_5 ?_
        refine jw_bipush (pc := 122) dX12_layValue_122 rfl ?_
        refine jw_iload (pc := 124) 5 dX12_layValue_124 rfl ?_
        refine jw_iadd (pc := 126) dX12_layValue_126 ?_
        refine jw_iald (pc := 127) dX12_layValue_127 jg_131 jl_131 (jw_ho jg_131 (by decide)) (jw_wr _) rfl (fun h17 => ?_)
        refine jw_i2lr (pc := 128) dX12_layValue_128 h17 ?_
        refine jw_lmul (pc := 129) dX12_layValue_129 ?_
        refine jw_ladd (pc := 130) dX12_layValue_130 ?_
        refine jw_putL (pc := 131) (j := 27) tyX12 rfl dX12_layValue_131 jv_12 ji_12 tyX12_ok nmX12 (Or.inl jt_1258) rfl jg_127 jl_127 (by decide) (by decide) (jw_ho jg_127 (by decide)) rfl rfl (jw_vr _) rfl ?_
        refine jw_letM (fun M18 => ?_)
        refine jw_aloadR (pc := 134) 1 dX12_layValue_134 rfl ?_
        refine jw_dup (pc := 135) dX12_layValue_135 rfl ?_
        refine jw_getL (pc := 136) (j := 28) rfl dX12_layValue_136 jv_12 ji_12 (Or.inl jt_1259) jg_127 jl_127 (by decide) (by decide) (jw_ho jg_127 (by decide)) rfl rfl (fun h19 => ?_)
        refine jw_lload (pc := 139) 0 dX12_layValue_139 rfl ?_
        refine jw_ladd (pc := 141) dX12_layValue_141 ?_
        refine jw_putL (pc := 142) (j := 28) tyX12 rfl dX12_layValue_142 jv_12 ji_12 tyX12_ok nmX12 (Or.inl jt_1259) rfl jg_127 jl_127 (by decide) (by decide) (jw_ho jg_127 (by decide)) rfl rfl (jw_vr _) rfl ?_
        refine jw_letM (fun M20 => ?_)
        exact jw_few [1, 2, 3, 4, 5] rfl (pX12_layValue_145 G (fX12_layValue_69 k) ih x1 x2 x3 x5 hx1 hx2 hx3 hx5 M20)
    · refine jw_aloadR (pc := 151) 0 dX12_layValue_151 rfl ?_
      refine jw_dup (pc := 152) dX12_layValue_152 rfl ?_
      refine jw_getL (pc := 153) (j := 27) rfl dX12_layValue_153 jv_12 ji_12 (Or.inl jt_1258) jg_127 jl_127 (by decide) (by decide) (jw_ho jg_127 (by decide)) rfl rfl (fun h21 => ?_)
      refine jw_lload_n (pc := 156) 3 dX12_layValue_156 rfl ?_
      refine jw_lsub (pc := 157) dX12_layValue_157 ?_
      refine jw_putL (pc := 158) (j := 27) tyX12 rfl dX12_layValue_158 jv_12 ji_12 tyX12_ok nmX12 (Or.inl jt_1258) rfl jg_127 jl_127 (by decide) (by decide) (jw_ho jg_127 (by decide)) rfl rfl (jw_vr _) rfl ?_
      refine jw_letM (fun M22 => ?_)
      exact jw_ret (pc := 161) (v := 0) dX12_layValue_161 trivial rfl rfl
def fX12_layValue_15 : Nat → Int → Int → Int → Int → jw_M → Option jw_M
  | 0, _, _, _, _, _ => none
  | k + 1, x1, x2, x3, x5, M => if 0 ≤ (0 : Int) ∧ (0 : Int) < 104 then if x5 < M 131 0 then (if 0 ≤ jw_w (7 + x5) ∧ jw_w (7 + x5) < 104 then if M 131 (jw_w (7 + x5)) < x2 then (fX12_layValue_58 (fX12_layValue_15 k) x1 x2 x5 1 x3 M) else (if 0 ≤ jw_w (7 + x5) ∧ jw_w (7 + x5) < 104 then fX12_layValue_58 (fX12_layValue_15 k) x1 x2 x5 (jw_w ((M 131 (jw_w (7 + x5))) + x1)) x3 M else none) else none) else (Option.bind (some 0) (fun v10 => fX12_layValue_69 jw_fu x1 x2 x3 v10 M)) else none
set_option maxRecDepth 100000 in
theorem pX12_layValue_15 (G : jw_G) : ∀ (k : Nat) (x1 : Int) (x2 : Int) (x3 : Int) (x5 : Int) (hx1 : jw_r x1) (hx2 : jw_r x2) (hx3 : jw_q x3) (hx5 : jw_r x5) (M : jw_M), jw_Rn G YX12_layValue 1 0 0 true (fun M1 => (0, M1)) 15 [(0, jR G 127), (1, jI x1), (2, jI x2), (3, jL x3), (5, jI x5)] [] M (fX12_layValue_15 k x1 x2 x3 x5 M) := by
  intro k
  induction k with
  | zero =>
    intro x1 x2 x3 x5 hx1 hx2 hx3 hx5 M
    exact jw_none
  | succ k ih =>
    intro x1 x2 x3 x5 hx1 hx2 hx3 hx5 M
    rw [fX12_layValue_15]
    refine jw_iload (pc := 15) 4 dX12_layValue_15 rfl ?_
    refine jw_aloadR (pc := 17) 0 dX12_layValue_17 rfl ?_
    refine jw_getR (pc := 18) (j := 5) rfl dX12_layValue_18 jv_12 ji_12 (Or.inl jt_1236) jg_127 jl_127 (by decide) (by decide) rfl jf_12_5 ?_
    refine jw_iconst (pc := 21) dX12_layValue_21 ?_
    refine jw_iald (pc := 22) dX12_layValue_22 jg_131 jl_131 (jw_ho jg_131 (by decide)) (jw_rc _ rfl) rfl (fun h5 => ?_)
    refine jw_ic_ge (pc := 23) 66 dX12_layValue_23 (by decide) hx5 h5 (fun _ => ?_) (fun _ => ?_)
    · refine jw_lload_n (pc := 26) 3 dX12_layValue_26 rfl ?_
      refine jw_aloadR (pc := 27) 0 dX12_layValue_27 rfl ?_
      refine jw_getR (pc := 28) (j := 5) rfl dX12_layValue_28 jv_12 ji_12 (Or.inl jt_1236) jg_127 jl_127 (by decide) (by decide) rfl jf_12_5 ?_
      refine jw_bipush (pc := 31) dX12_layValue_31 rfl ?_
      refine jw_iload (pc := 33) 4 dX12_layValue_33 rfl ?_
      refine jw_iadd (pc := 35) dX12_layValue_35 ?_
      refine jw_iald (pc := 36) dX12_layValue_36 jg_131 jl_131 (jw_ho jg_131 (by decide)) (jw_wr _) rfl (fun h6 => ?_)
      refine jw_iload_n (pc := 37) 2 dX12_layValue_37 rfl ?_
      refine jw_ic_lt (pc := 38) 57 dX12_layValue_38 (by decide) h6 hx2 (fun _ => ?_) (fun _ => ?_)
      · refine jw_lconst (pc := 57) (z := 1) dX12_layValue_57 rfl ?_
        exact jw_few [0, 1, 2, 4] rfl (pX12_layValue_58 G (fX12_layValue_15 k) ih x1 x2 x5 1 x3 hx1 hx2 hx5 (jw_qc _ rfl) hx3 M)
      · refine jw_aloadR (pc := 41) 0 dX12_layValue_41 rfl ?_
        refine jw_getR (pc := 42) (j := 5) rfl dX12_layValue_42 jv_12 ji_12 (Or.inl jt_1236) jg_127 jl_127 (by decide) (by decide) rfl jf_12_5 ?_
        refine jw_bipush (pc := 45) dX12_layValue_45 rfl ?_
        refine jw_iload (pc := 47) 4 dX12_layValue_47 rfl ?_
        refine jw_iadd (pc := 49) dX12_layValue_49 ?_
        refine jw_iald (pc := 50) dX12_layValue_50 jg_131 jl_131 (jw_ho jg_131 (by decide)) (jw_wr _) rfl (fun h9 => ?_)
        refine jw_iload_n (pc := 51) 1 dX12_layValue_51 rfl ?_
        refine jw_iadd (pc := 52) dX12_layValue_52 ?_
        refine jw_i2lr (pc := 53) dX12_layValue_53 (jw_wr _) ?_
        refine jw_goto (pc := 54) 58 dX12_layValue_54 (by decide) ?_
        exact jw_few [0, 1, 2, 4] rfl (pX12_layValue_58 G (fX12_layValue_15 k) ih x1 x2 x5 (jw_w ((M 131 (jw_w (7 + x5))) + x1)) x3 hx1 hx2 hx5 (jw_rq (jw_wr _)) hx3 M)
    · refine jw_iconst (pc := 66) dX12_layValue_66 ?_
      refine jw_istoreL (pc := 67) (lv' := (fun y => [(5, y), (0, jR G 127), (1, jI x1), (2, jI x2), (3, jL x3)])) dX12_layValue_67 (jw_rc _ rfl) (by decide) (fun _ => rfl) (fun v10 hv10 => ?_)
      exact jw_few [1, 2, 3, 4, 0] rfl (pX12_layValue_69 G jw_fu x1 x2 x3 v10 hx1 hx2 hx3 hv10 M)
def fX12_layValue (a1 : Int) (a2 : Int) (M : jw_M) : Option jw_M :=
  Option.bind (some 1) (fun v1 => Option.bind (some (jw_up M 127 27 0)) (fun M2 => Option.bind (some (jw_up M2 127 28 0)) (fun M3 => Option.bind (some 0) (fun v4 => fX12_layValue_15 jw_fu a1 a2 v1 v4 M3))))
set_option maxRecDepth 100000 in
theorem rX12_layValue (G : jw_G) (a1 : Int) (a2 : Int) (ha1 : jw_r a1) (ha2 : jw_r a2) (M : jw_M) : jw_Rn G YX12_layValue 1 0 0 true (fun M1 => (0, M1)) 0 [(0, jR G 127), (1, jI a1), (2, jI a2)] [] M (fX12_layValue a1 a2 M) := by
  unfold fX12_layValue
  refine jw_lconst (pc := 0) (z := 1) dX12_layValue_0 rfl ?_
  refine jw_lstore_nL (pc := 1) (lv' := (fun y => [(3, y), (0, jR G 127), (1, jI a1), (2, jI a2)])) dX12_layValue_1 (jw_qc _ rfl) (by decide) (fun _ => rfl) (fun v1 hv1 => ?_)
  refine jw_aloadR (pc := 2) 1 dX12_layValue_2 rfl ?_
  refine jw_lconst (pc := 3) (z := 0) dX12_layValue_3 rfl ?_
  refine jw_putL (pc := 4) (j := 27) tyX12 rfl dX12_layValue_4 jv_12 ji_12 tyX12_ok nmX12 (Or.inl jt_1258) rfl jg_127 jl_127 (by decide) (by decide) (jw_ho jg_127 (by decide)) rfl rfl (jw_qc _ rfl) rfl ?_
  refine jw_letM (fun M2 => ?_)
  refine jw_aloadR (pc := 7) 1 dX12_layValue_7 rfl ?_
  refine jw_lconst (pc := 8) (z := 0) dX12_layValue_8 rfl ?_
  refine jw_putL (pc := 9) (j := 28) tyX12 rfl dX12_layValue_9 jv_12 ji_12 tyX12_ok nmX12 (Or.inl jt_1259) rfl jg_127 jl_127 (by decide) (by decide) (jw_ho jg_127 (by decide)) rfl rfl (jw_qc _ rfl) rfl ?_
  refine jw_letM (fun M3 => ?_)
  refine jw_iconst (pc := 12) dX12_layValue_12 ?_
  refine jw_istoreL (pc := 13) (lv' := (fun y => [(5, y), (3, jL v1), (0, jR G 127), (1, jI a1), (2, jI a2)])) dX12_layValue_13 (jw_rc _ rfl) (by decide) (fun _ => rfl) (fun v4 hv4 => ?_)
  exact jw_few [2, 3, 4, 1, 0] rfl (pX12_layValue_15 G jw_fu a1 a2 v1 v4 ha1 ha2 hv1 hv4 M3)
theorem kX12_layValue (G : jw_G) (a1 : Int) (a2 : Int) (ha1 : jw_r a1) (ha2 : jw_r a2) (M : jw_M) : jw_Ct G YX12_layValue none 1 0 0 true (fun M1 => (0, M1)) yX12_layValue [jR G 127, jI a1, jI a2] M (fX12_layValue a1 a2 M) := jw_met (by decide) rfl rfl rfl (Nat.le_of_ble_eq_true rfl) (rX12_layValue G a1 a2 ha1 ha2 M)
abbrev YX12_isAbove : jw_Y := (RX12, cX12_isAbove, 2, 4, "isAbove")
theorem qX12_isAbove : jw_cy YX12_isAbove (some .boolean) yX12_isAbove 1 := ⟨by decide, jt_1681, jt_14, by decide, by decide +kernel⟩
theorem dX12_isAbove_0 : decode cX12_isAbove 0 = .ok (.iload_n 1, 1) := by decide +kernel
theorem dX12_isAbove_1 : decode cX12_isAbove 1 = .ok (.i2l, 1) := by decide +kernel
theorem dX12_isAbove_2 : decode cX12_isAbove 2 = .ok (.aload_n 0, 1) := by decide +kernel
theorem dX12_isAbove_3 : decode cX12_isAbove 3 = .ok (.getfield 326, 3) := by decide +kernel
theorem dX12_isAbove_6 : decode cX12_isAbove 6 = .ok (.lmul, 1) := by decide +kernel
theorem dX12_isAbove_7 : decode cX12_isAbove 7 = .ok (.aload_n 0, 1) := by decide +kernel
theorem dX12_isAbove_8 : decode cX12_isAbove 8 = .ok (.getfield 322, 3) := by decide +kernel
theorem dX12_isAbove_11 : decode cX12_isAbove 11 = .ok (.lcmp, 1) := by decide +kernel
theorem dX12_isAbove_12 : decode cX12_isAbove 12 = .ok (.ifCond .le 7, 3) := by decide +kernel
theorem dX12_isAbove_15 : decode cX12_isAbove 15 = .ok (.iconst 1, 1) := by decide +kernel
theorem dX12_isAbove_16 : decode cX12_isAbove 16 = .ok (.goto 4, 3) := by decide +kernel
theorem dX12_isAbove_19 : decode cX12_isAbove 19 = .ok (.iconst 0, 1) := by decide +kernel
theorem dX12_isAbove_20 : decode cX12_isAbove 20 = .ok (.ireturn, 1) := by decide +kernel
def fX12_isAbove (a1 : Int) (M : jw_M) : Option Int :=
  if (0 : Int) < jw_cmp (jw_v (a1 * (M 127 28))) (M 127 27) then (some 1) else (some 0)
set_option maxRecDepth 100000 in
theorem rX12_isAbove (G : jw_G) (a1 : Int) (ha1 : jw_r a1) (M : jw_M) : jw_Rn G YX12_isAbove 1 0 0 true (fun v => (v, M)) 0 [(0, jR G 127), (1, jI a1)] [] M (fX12_isAbove a1 M) := by
  unfold fX12_isAbove
  refine jw_iload_n (pc := 0) 1 dX12_isAbove_0 rfl ?_
  refine jw_i2lr (pc := 1) dX12_isAbove_1 ha1 ?_
  refine jw_aloadR (pc := 2) 0 dX12_isAbove_2 rfl ?_
  refine jw_getL (pc := 3) (j := 28) rfl dX12_isAbove_3 jv_12 ji_12 (Or.inl jt_1259) jg_127 jl_127 (by decide) (by decide) (jw_ho jg_127 (by decide)) rfl rfl (fun h1 => ?_)
  refine jw_lmul (pc := 6) dX12_isAbove_6 ?_
  refine jw_aloadR (pc := 7) 0 dX12_isAbove_7 rfl ?_
  refine jw_getL (pc := 8) (j := 27) rfl dX12_isAbove_8 jv_12 ji_12 (Or.inl jt_1258) jg_127 jl_127 (by decide) (by decide) (jw_ho jg_127 (by decide)) rfl rfl (fun h2 => ?_)
  refine jw_lcmp (pc := 11) dX12_isAbove_11 (jw_vr _) h2 ?_
  refine jw_if_le (pc := 12) 19 dX12_isAbove_12 (by decide) (jw_cmpr _ _) (fun _ => ?_) (fun _ => ?_)
  · refine jw_iconst (pc := 15) dX12_isAbove_15 ?_
    refine jw_goto (pc := 16) 20 dX12_isAbove_16 (by decide) ?_
    exact jw_ret (pc := 20) (v := 1) dX12_isAbove_20 (Or.inr rfl) rfl rfl
  · refine jw_iconst (pc := 19) dX12_isAbove_19 ?_
    exact jw_ret (pc := 20) (v := 0) dX12_isAbove_20 (Or.inl rfl) rfl rfl
theorem kX12_isAbove (G : jw_G) (a1 : Int) (ha1 : jw_r a1) (M : jw_M) : jw_Ct G YX12_isAbove (some .boolean) 1 0 0 true (fun v => (v, M)) yX12_isAbove [jR G 127, jI a1] M (fX12_isAbove a1 M) := jw_met (by decide) rfl rfl rfl (Nat.le_of_ble_eq_true rfl) (rX12_isAbove G a1 ha1 M)
abbrev YX12_seekValue : jw_Y := (RX12, cX12_seekValue, 5, 0, "seekValue")
theorem qX12_seekValue : jw_cy YX12_seekValue none yX12_seekValue 1 := ⟨by decide, jt_1673, jt_14, by decide, by decide +kernel⟩
theorem dX12_seekValue_0 : decode cX12_seekValue 0 = .ok (.iconst 0, 1) := by decide +kernel
theorem dX12_seekValue_1 : decode cX12_seekValue 1 = .ok (.istore_n 2, 1) := by decide +kernel
theorem dX12_seekValue_2 : decode cX12_seekValue 2 = .ok (.bipush 99, 2) := by decide +kernel
theorem dX12_seekValue_4 : decode cX12_seekValue 4 = .ok (.istore_n 3, 1) := by decide +kernel
theorem dX12_seekValue_5 : decode cX12_seekValue 5 = .ok (.iload_n 3, 1) := by decide +kernel
theorem dX12_seekValue_6 : decode cX12_seekValue 6 = .ok (.ifCond .lt 95, 3) := by decide +kernel
theorem dX12_seekValue_9 : decode cX12_seekValue 9 = .ok (.iload_n 2, 1) := by decide +kernel
theorem dX12_seekValue_10 : decode cX12_seekValue 10 = .ok (.ifCond .ne 91, 3) := by decide +kernel
theorem dX12_seekValue_13 : decode cX12_seekValue 13 = .ok (.aload_n 0, 1) := by decide +kernel
theorem dX12_seekValue_14 : decode cX12_seekValue 14 = .ok (.iload_n 1, 1) := by decide +kernel
theorem dX12_seekValue_15 : decode cX12_seekValue 15 = .ok (.iload_n 3, 1) := by decide +kernel
theorem dX12_seekValue_16 : decode cX12_seekValue 16 = .ok (.invokevirtual 329, 3) := by decide +kernel
theorem dX12_seekValue_19 : decode cX12_seekValue 19 = .ok (.aload_n 0, 1) := by decide +kernel
theorem dX12_seekValue_20 : decode cX12_seekValue 20 = .ok (.getfield 326, 3) := by decide +kernel
theorem dX12_seekValue_23 : decode cX12_seekValue 23 = .ok (.lconst 0, 1) := by decide +kernel
theorem dX12_seekValue_24 : decode cX12_seekValue 24 = .ok (.lcmp, 1) := by decide +kernel
theorem dX12_seekValue_25 : decode cX12_seekValue 25 = .ok (.ifCond .le 7, 3) := by decide +kernel
theorem dX12_seekValue_28 : decode cX12_seekValue 28 = .ok (.iconst 1, 1) := by decide +kernel
theorem dX12_seekValue_29 : decode cX12_seekValue 29 = .ok (.goto 4, 3) := by decide +kernel
theorem dX12_seekValue_32 : decode cX12_seekValue 32 = .ok (.iconst 0, 1) := by decide +kernel
theorem dX12_seekValue_33 : decode cX12_seekValue 33 = .ok (.istore_n 2, 1) := by decide +kernel
theorem dX12_seekValue_34 : decode cX12_seekValue 34 = .ok (.iconst 0, 1) := by decide +kernel
theorem dX12_seekValue_35 : decode cX12_seekValue 35 = .ok (.istore 4, 2) := by decide +kernel
theorem dX12_seekValue_37 : decode cX12_seekValue 37 = .ok (.iload 4, 2) := by decide +kernel
theorem dX12_seekValue_39 : decode cX12_seekValue 39 = .ok (.aload_n 0, 1) := by decide +kernel
theorem dX12_seekValue_40 : decode cX12_seekValue 40 = .ok (.getfield 19, 3) := by decide +kernel
theorem dX12_seekValue_43 : decode cX12_seekValue 43 = .ok (.iconst 0, 1) := by decide +kernel
theorem dX12_seekValue_44 : decode cX12_seekValue 44 = .ok (.iaload, 1) := by decide +kernel
theorem dX12_seekValue_45 : decode cX12_seekValue 45 = .ok (.if_icmp .ge 50, 3) := by decide +kernel
theorem dX12_seekValue_48 : decode cX12_seekValue 48 = .ok (.iload_n 2, 1) := by decide +kernel
theorem dX12_seekValue_49 : decode cX12_seekValue 49 = .ok (.ifCond .eq 46, 3) := by decide +kernel
theorem dX12_seekValue_52 : decode cX12_seekValue 52 = .ok (.aload_n 0, 1) := by decide +kernel
theorem dX12_seekValue_53 : decode cX12_seekValue 53 = .ok (.getfield 19, 3) := by decide +kernel
theorem dX12_seekValue_56 : decode cX12_seekValue 56 = .ok (.bipush 7, 2) := by decide +kernel
theorem dX12_seekValue_58 : decode cX12_seekValue 58 = .ok (.iload 4, 2) := by decide +kernel
theorem dX12_seekValue_60 : decode cX12_seekValue 60 = .ok (.iadd, 1) := by decide +kernel
theorem dX12_seekValue_61 : decode cX12_seekValue 61 = .ok (.iaload, 1) := by decide +kernel
theorem dX12_seekValue_62 : decode cX12_seekValue 62 = .ok (.iload_n 3, 1) := by decide +kernel
theorem dX12_seekValue_63 : decode cX12_seekValue 63 = .ok (.if_icmp .ge 20, 3) := by decide +kernel
theorem dX12_seekValue_66 : decode cX12_seekValue 66 = .ok (.aload_n 0, 1) := by decide +kernel
theorem dX12_seekValue_67 : decode cX12_seekValue 67 = .ok (.aload_n 0, 1) := by decide +kernel
theorem dX12_seekValue_68 : decode cX12_seekValue 68 = .ok (.getfield 19, 3) := by decide +kernel
theorem dX12_seekValue_71 : decode cX12_seekValue 71 = .ok (.bipush 7, 2) := by decide +kernel
theorem dX12_seekValue_73 : decode cX12_seekValue 73 = .ok (.iload 4, 2) := by decide +kernel
theorem dX12_seekValue_75 : decode cX12_seekValue 75 = .ok (.iadd, 1) := by decide +kernel
theorem dX12_seekValue_76 : decode cX12_seekValue 76 = .ok (.iaload, 1) := by decide +kernel
theorem dX12_seekValue_77 : decode cX12_seekValue 77 = .ok (.invokevirtual 332, 3) := by decide +kernel
theorem dX12_seekValue_80 : decode cX12_seekValue 80 = .ok (.ifCond .ne 7, 3) := by decide +kernel
theorem dX12_seekValue_83 : decode cX12_seekValue 83 = .ok (.iconst 1, 1) := by decide +kernel
theorem dX12_seekValue_84 : decode cX12_seekValue 84 = .ok (.goto 4, 3) := by decide +kernel
theorem dX12_seekValue_87 : decode cX12_seekValue 87 = .ok (.iconst 0, 1) := by decide +kernel
theorem dX12_seekValue_88 : decode cX12_seekValue 88 = .ok (.istore_n 2, 1) := by decide +kernel
theorem dX12_seekValue_89 : decode cX12_seekValue 89 = .ok (.iinc 4 1, 3) := by decide +kernel
theorem dX12_seekValue_92 : decode cX12_seekValue 92 = .ok (.goto (-55), 3) := by decide +kernel
theorem dX12_seekValue_95 : decode cX12_seekValue 95 = .ok (.iinc 3 (-1), 3) := by decide +kernel
theorem dX12_seekValue_98 : decode cX12_seekValue 98 = .ok (.goto (-93), 3) := by decide +kernel
theorem dX12_seekValue_101 : decode cX12_seekValue 101 = .ok (.aload_n 0, 1) := by decide +kernel
theorem dX12_seekValue_102 : decode cX12_seekValue 102 = .ok (.getfield 322, 3) := by decide +kernel
theorem dX12_seekValue_105 : decode cX12_seekValue 105 = .ok (.aload_n 0, 1) := by decide +kernel
theorem dX12_seekValue_106 : decode cX12_seekValue 106 = .ok (.getfield 326, 3) := by decide +kernel
theorem dX12_seekValue_109 : decode cX12_seekValue 109 = .ok (.iconst 1, 1) := by decide +kernel
theorem dX12_seekValue_110 : decode cX12_seekValue 110 = .ok (.invokestatic 277, 3) := by decide +kernel
theorem dX12_seekValue_113 : decode cX12_seekValue 113 = .ok (.lstore_n 3, 1) := by decide +kernel
theorem dX12_seekValue_114 : decode cX12_seekValue 114 = .ok (.aload_n 0, 1) := by decide +kernel
theorem dX12_seekValue_115 : decode cX12_seekValue 115 = .ok (.aload_n 0, 1) := by decide +kernel
theorem dX12_seekValue_116 : decode cX12_seekValue 116 = .ok (.getfield 322, 3) := by decide +kernel
theorem dX12_seekValue_119 : decode cX12_seekValue 119 = .ok (.aload_n 0, 1) := by decide +kernel
theorem dX12_seekValue_120 : decode cX12_seekValue 120 = .ok (.getfield 326, 3) := by decide +kernel
theorem dX12_seekValue_123 : decode cX12_seekValue 123 = .ok (.iconst 0, 1) := by decide +kernel
theorem dX12_seekValue_124 : decode cX12_seekValue 124 = .ok (.invokestatic 277, 3) := by decide +kernel
theorem dX12_seekValue_127 : decode cX12_seekValue 127 = .ok (.putfield 322, 3) := by decide +kernel
theorem dX12_seekValue_130 : decode cX12_seekValue 130 = .ok (.aload_n 0, 1) := by decide +kernel
theorem dX12_seekValue_131 : decode cX12_seekValue 131 = .ok (.lload_n 3, 1) := by decide +kernel
theorem dX12_seekValue_132 : decode cX12_seekValue 132 = .ok (.putfield 326, 3) := by decide +kernel
theorem dX12_seekValue_135 : decode cX12_seekValue 135 = .ok (.return_, 1) := by decide +kernel
def fX12_seekValue_101 (M : jw_M) : Option jw_M :=
  Option.bind (fX12_partOf (M 127 27) (M 127 28) 1 M) (fun v5 => Option.bind (some v5) (fun v6 => Option.bind (fX12_partOf (M 127 27) (M 127 28) 0 M) (fun v9 => Option.bind (some (jw_up M 127 27 v9)) (fun M10 => Option.bind (some (jw_up M10 127 28 v6)) (fun M11 => some M11)))))
set_option maxRecDepth 100000 in
theorem pX12_seekValue_101 (G : jw_G) : ∀ (M : jw_M), jw_Rn G YX12_seekValue 2 0 0 true (fun M1 => (0, M1)) 101 [(0, jR G 127)] [] M (fX12_seekValue_101 M) := by
  intro M
  unfold fX12_seekValue_101
  refine jw_aloadR (pc := 101) 0 dX12_seekValue_101 rfl ?_
  refine jw_getL (pc := 102) (j := 27) rfl dX12_seekValue_102 jv_12 ji_12 (Or.inl jt_1258) jg_127 jl_127 (by decide) (by decide) (jw_ho jg_127 (by decide)) rfl rfl (fun h3 => ?_)
  refine jw_aloadR (pc := 105) 0 dX12_seekValue_105 rfl ?_
  refine jw_getL (pc := 106) (j := 28) rfl dX12_seekValue_106 jv_12 ji_12 (Or.inl jt_1259) jg_127 jl_127 (by decide) (by decide) (jw_ho jg_127 (by decide)) rfl rfl (fun h4 => ?_)
  refine jw_iconst (pc := 109) dX12_seekValue_109 ?_
  refine jw_callSl (pc := 110) (As := [jL (M 127 27), jL (M 127 28), jI 1]) (st := []) dX12_seekValue_110 rfl (Nat.le_of_ble_eq_true rfl) qX12_partOf jt_1575 jt_1576 rfl rfl (Nat.le_of_ble_eq_true rfl) (kX12_partOf G (M 127 27) (M 127 28) 1 h3 h4 (jw_rc _ rfl) M) (fun v5 hv5 => ?_)
  refine jw_lstore_nL (pc := 113) (lv' := (fun y => [(3, y), (0, jR G 127)])) dX12_seekValue_113 hv5 (by decide) (fun _ => rfl) (fun v6 hv6 => ?_)
  refine jw_aloadR (pc := 114) 1 dX12_seekValue_114 rfl ?_
  refine jw_aloadR (pc := 115) 1 dX12_seekValue_115 rfl ?_
  refine jw_getL (pc := 116) (j := 27) rfl dX12_seekValue_116 jv_12 ji_12 (Or.inl jt_1258) jg_127 jl_127 (by decide) (by decide) (jw_ho jg_127 (by decide)) rfl rfl (fun h7 => ?_)
  refine jw_aloadR (pc := 119) 1 dX12_seekValue_119 rfl ?_
  refine jw_getL (pc := 120) (j := 28) rfl dX12_seekValue_120 jv_12 ji_12 (Or.inl jt_1259) jg_127 jl_127 (by decide) (by decide) (jw_ho jg_127 (by decide)) rfl rfl (fun h8 => ?_)
  refine jw_iconst (pc := 123) dX12_seekValue_123 ?_
  refine jw_callSl (pc := 124) (As := [jL (M 127 27), jL (M 127 28), jI 0]) (st := [jR G 127]) dX12_seekValue_124 rfl (Nat.le_of_ble_eq_true rfl) qX12_partOf jt_1575 jt_1576 rfl rfl (Nat.le_of_ble_eq_true rfl) (kX12_partOf G (M 127 27) (M 127 28) 0 h7 h8 (jw_rc _ rfl) M) (fun v9 hv9 => ?_)
  refine jw_putL (pc := 127) (j := 27) tyX12 rfl dX12_seekValue_127 jv_12 ji_12 tyX12_ok nmX12 (Or.inl jt_1258) rfl jg_127 jl_127 (by decide) (by decide) (jw_ho jg_127 (by decide)) rfl rfl hv9 rfl ?_
  refine jw_letM (fun M10 => ?_)
  refine jw_aloadR (pc := 130) 1 dX12_seekValue_130 rfl ?_
  refine jw_lload_n (pc := 131) 0 dX12_seekValue_131 rfl ?_
  refine jw_putL (pc := 132) (j := 28) tyX12 rfl dX12_seekValue_132 jv_12 ji_12 tyX12_ok nmX12 (Or.inl jt_1259) rfl jg_127 jl_127 (by decide) (by decide) (jw_ho jg_127 (by decide)) rfl rfl hv6 rfl ?_
  refine jw_letM (fun M11 => ?_)
  exact jw_ret (pc := 135) (v := 0) dX12_seekValue_135 trivial rfl rfl
def fX12_seekValue_95 (r5 : Int → Int → Int → jw_M → Option jw_M) (x1 : Int) (x2 : Int) (x3 : Int) (M : jw_M) : Option jw_M :=
  Option.bind (some (jw_w (x3 + (-1)))) (fun v17 => r5 x1 x2 v17 M)
set_option maxRecDepth 100000 in
theorem pX12_seekValue_95 (G : jw_G) (r5 : Int → Int → Int → jw_M → Option jw_M) (hr5 : ∀ (x1 : Int) (x2 : Int) (x3 : Int) (hx1 : jw_r x1) (hx2 : jw_r x2) (hx3 : jw_r x3) (M : jw_M), jw_Rn G YX12_seekValue 2 0 0 true (fun M1 => (0, M1)) 5 [(0, jR G 127), (1, jI x1), (2, jI x2), (3, jI x3)] [] M (r5 x1 x2 x3 M)) : ∀ (x1 : Int) (x2 : Int) (x3 : Int) (hx1 : jw_r x1) (hx2 : jw_r x2) (hx3 : jw_r x3) (M : jw_M), jw_Rn G YX12_seekValue 2 0 0 true (fun M1 => (0, M1)) 95 [(0, jR G 127), (1, jI x1), (2, jI x2), (3, jI x3)] [] M (fX12_seekValue_95 r5 x1 x2 x3 M) := by
  intro x1 x2 x3 hx1 hx2 hx3 M
  unfold fX12_seekValue_95
  refine jw_iincL (pc := 95) 3 (lv' := (fun y => [(3, y), (0, jR G 127), (1, jI x1), (2, jI x2)])) dX12_seekValue_95 rfl (Nat.le_of_ble_eq_true rfl) (fun _ => rfl) (fun v17 hv17 => ?_)
  refine jw_goto (pc := 98) 5 dX12_seekValue_98 (by decide) ?_
  exact jw_few [1, 2, 3, 0] rfl (hr5 x1 x2 v17 hx1 hx2 hv17 M)
def fX12_seekValue_88 (r5 : Int → Int → Int → jw_M → Option jw_M) (r37 : Int → Int → Int → Int → jw_M → Option jw_M) (x1 : Int) (x3 : Int) (x4 : Int) (xs0 : Int) (M : jw_M) : Option jw_M :=
  Option.bind (some xs0) (fun v21 => Option.bind (some (jw_w (x4 + 1))) (fun v22 => r37 x1 v21 x3 v22 M))
set_option maxRecDepth 100000 in
theorem pX12_seekValue_88 (G : jw_G) (r5 : Int → Int → Int → jw_M → Option jw_M) (r37 : Int → Int → Int → Int → jw_M → Option jw_M) (hr5 : ∀ (x1 : Int) (x2 : Int) (x3 : Int) (hx1 : jw_r x1) (hx2 : jw_r x2) (hx3 : jw_r x3) (M : jw_M), jw_Rn G YX12_seekValue 2 0 0 true (fun M1 => (0, M1)) 5 [(0, jR G 127), (1, jI x1), (2, jI x2), (3, jI x3)] [] M (r5 x1 x2 x3 M)) (hr37 : ∀ (x1 : Int) (x2 : Int) (x3 : Int) (x4 : Int) (hx1 : jw_r x1) (hx2 : jw_r x2) (hx3 : jw_r x3) (hx4 : jw_r x4) (M : jw_M), jw_Rn G YX12_seekValue 2 0 0 true (fun M1 => (0, M1)) 37 [(0, jR G 127), (1, jI x1), (2, jI x2), (3, jI x3), (4, jI x4)] [] M (r37 x1 x2 x3 x4 M)) : ∀ (x1 : Int) (x3 : Int) (x4 : Int) (xs0 : Int) (hx1 : jw_r x1) (hx3 : jw_r x3) (hx4 : jw_r x4) (hxs0 : jw_r xs0) (M : jw_M), jw_Rn G YX12_seekValue 2 0 0 true (fun M1 => (0, M1)) 88 [(0, jR G 127), (1, jI x1), (3, jI x3), (4, jI x4)] [jI xs0] M (fX12_seekValue_88 r5 r37 x1 x3 x4 xs0 M) := by
  intro x1 x3 x4 xs0 hx1 hx3 hx4 hxs0 M
  unfold fX12_seekValue_88
  refine jw_istore_nL (pc := 88) (lv' := (fun y => [(2, y), (0, jR G 127), (1, jI x1), (3, jI x3), (4, jI x4)])) dX12_seekValue_88 hxs0 (by decide) (fun _ => rfl) (fun v21 hv21 => ?_)
  refine jw_iincL (pc := 89) 4 (lv' := (fun y => [(4, y), (2, jI v21), (0, jR G 127), (1, jI x1), (3, jI x3)])) dX12_seekValue_89 rfl (Nat.le_of_ble_eq_true rfl) (fun _ => rfl) (fun v22 hv22 => ?_)
  refine jw_goto (pc := 92) 37 dX12_seekValue_92 (by decide) ?_
  exact jw_few [2, 3, 1, 4, 0] rfl (hr37 x1 v21 x3 v22 hx1 hv21 hx3 hv22 M)
def fX12_seekValue_83 (r5 : Int → Int → Int → jw_M → Option jw_M) (r37 : Int → Int → Int → Int → jw_M → Option jw_M) (x1 : Int) (x3 : Int) (x4 : Int) (M : jw_M) : Option jw_M :=
  fX12_seekValue_88 r5 r37 x1 x3 x4 1 M
set_option maxRecDepth 100000 in
theorem pX12_seekValue_83 (G : jw_G) (r5 : Int → Int → Int → jw_M → Option jw_M) (r37 : Int → Int → Int → Int → jw_M → Option jw_M) (hr5 : ∀ (x1 : Int) (x2 : Int) (x3 : Int) (hx1 : jw_r x1) (hx2 : jw_r x2) (hx3 : jw_r x3) (M : jw_M), jw_Rn G YX12_seekValue 2 0 0 true (fun M1 => (0, M1)) 5 [(0, jR G 127), (1, jI x1), (2, jI x2), (3, jI x3)] [] M (r5 x1 x2 x3 M)) (hr37 : ∀ (x1 : Int) (x2 : Int) (x3 : Int) (x4 : Int) (hx1 : jw_r x1) (hx2 : jw_r x2) (hx3 : jw_r x3) (hx4 : jw_r x4) (M : jw_M), jw_Rn G YX12_seekValue 2 0 0 true (fun M1 => (0, M1)) 37 [(0, jR G 127), (1, jI x1), (2, jI x2), (3, jI x3), (4, jI x4)] [] M (r37 x1 x2 x3 x4 M)) : ∀ (x1 : Int) (x3 : Int) (x4 : Int) (hx1 : jw_r x1) (hx3 : jw_r x3) (hx4 : jw_r x4) (M : jw_M), jw_Rn G YX12_seekValue 2 0 0 true (fun M1 => (0, M1)) 83 [(0, jR G 127), (1, jI x1), (3, jI x3), (4, jI x4)] [] M (fX12_seekValue_83 r5 r37 x1 x3 x4 M) := by
  intro x1 x3 x4 hx1 hx3 hx4 M
  unfold fX12_seekValue_83
  refine jw_iconst (pc := 83) dX12_seekValue_83 ?_
  refine jw_goto (pc := 84) 88 dX12_seekValue_84 (by decide) ?_
  exact jw_few [0, 1, 2, 3] rfl (pX12_seekValue_88 G r5 r37 hr5 hr37 x1 x3 x4 1 hx1 hx3 hx4 (jw_rc _ rfl) M)
def fX12_seekValue_37 (r5 : Int → Int → Int → jw_M → Option jw_M) : Nat → Int → Int → Int → Int → jw_M → Option jw_M
  | 0, _, _, _, _, _ => none
  | k + 1, x1, x2, x3, x4, M => if 0 ≤ (0 : Int) ∧ (0 : Int) < 104 then if x4 < M 131 0 then (if x2 = 0 then (fX12_seekValue_95 r5 x1 x2 x3 M) else (if 0 ≤ jw_w (7 + x4) ∧ jw_w (7 + x4) < 104 then if M 131 (jw_w (7 + x4)) < x3 then (if 0 ≤ jw_w (7 + x4) ∧ jw_w (7 + x4) < 104 then Option.bind (fX12_isAbove (M 131 (jw_w (7 + x4))) M) (fun v20 => if v20 = 0 then (fX12_seekValue_83 r5 (fX12_seekValue_37 r5 k) x1 x3 x4 M) else (fX12_seekValue_88 r5 (fX12_seekValue_37 r5 k) x1 x3 x4 0 M)) else none) else (fX12_seekValue_83 r5 (fX12_seekValue_37 r5 k) x1 x3 x4 M) else none)) else (fX12_seekValue_95 r5 x1 x2 x3 M) else none
set_option maxRecDepth 100000 in
theorem pX12_seekValue_37 (G : jw_G) (r5 : Int → Int → Int → jw_M → Option jw_M) (hr5 : ∀ (x1 : Int) (x2 : Int) (x3 : Int) (hx1 : jw_r x1) (hx2 : jw_r x2) (hx3 : jw_r x3) (M : jw_M), jw_Rn G YX12_seekValue 2 0 0 true (fun M1 => (0, M1)) 5 [(0, jR G 127), (1, jI x1), (2, jI x2), (3, jI x3)] [] M (r5 x1 x2 x3 M)) : ∀ (k : Nat) (x1 : Int) (x2 : Int) (x3 : Int) (x4 : Int) (hx1 : jw_r x1) (hx2 : jw_r x2) (hx3 : jw_r x3) (hx4 : jw_r x4) (M : jw_M), jw_Rn G YX12_seekValue 2 0 0 true (fun M1 => (0, M1)) 37 [(0, jR G 127), (1, jI x1), (2, jI x2), (3, jI x3), (4, jI x4)] [] M (fX12_seekValue_37 r5 k x1 x2 x3 x4 M) := by
  intro k
  induction k with
  | zero =>
    intro x1 x2 x3 x4 hx1 hx2 hx3 hx4 M
    exact jw_none
  | succ k ih =>
    intro x1 x2 x3 x4 hx1 hx2 hx3 hx4 M
    rw [fX12_seekValue_37]
    refine jw_iload (pc := 37) 4 dX12_seekValue_37 rfl ?_
    refine jw_aloadR (pc := 39) 0 dX12_seekValue_39 rfl ?_
    refine jw_getR (pc := 40) (j := 5) rfl dX12_seekValue_40 jv_12 ji_12 (Or.inl jt_1236) jg_127 jl_127 (by decide) (by decide) rfl jf_12_5 ?_
    refine jw_iconst (pc := 43) dX12_seekValue_43 ?_
    refine jw_iald (pc := 44) dX12_seekValue_44 jg_131 jl_131 (jw_ho jg_131 (by decide)) (jw_rc _ rfl) rfl (fun h16 => ?_)
    refine jw_ic_ge (pc := 45) 95 dX12_seekValue_45 (by decide) hx4 h16 (fun _ => ?_) (fun _ => ?_)
    · refine jw_iload_n (pc := 48) 2 dX12_seekValue_48 rfl ?_
      refine jw_if_eq (pc := 49) 95 dX12_seekValue_49 (by decide) hx2 (fun _ => ?_) (fun _ => ?_)
      · exact jw_few [0, 1, 2, 3] rfl (pX12_seekValue_95 G r5 hr5 x1 x2 x3 hx1 hx2 hx3 M)
      · refine jw_aloadR (pc := 52) 0 dX12_seekValue_52 rfl ?_
        refine jw_getR (pc := 53) (j := 5) rfl dX12_seekValue_53 jv_12 ji_12 (Or.inl jt_1236) jg_127 jl_127 (by decide) (by decide) rfl jf_12_5 ?_
        refine jw_bipush (pc := 56) dX12_seekValue_56 rfl ?_
        refine jw_iload (pc := 58) 4 dX12_seekValue_58 rfl ?_
        refine jw_iadd (pc := 60) dX12_seekValue_60 ?_
        refine jw_iald (pc := 61) dX12_seekValue_61 jg_131 jl_131 (jw_ho jg_131 (by decide)) (jw_wr _) rfl (fun h18 => ?_)
        refine jw_iload_n (pc := 62) 3 dX12_seekValue_62 rfl ?_
        refine jw_ic_ge (pc := 63) 83 dX12_seekValue_63 (by decide) h18 hx3 (fun _ => ?_) (fun _ => ?_)
        · refine jw_aloadR (pc := 66) 0 dX12_seekValue_66 rfl ?_
          refine jw_aloadR (pc := 67) 0 dX12_seekValue_67 rfl ?_
          refine jw_getR (pc := 68) (j := 5) rfl dX12_seekValue_68 jv_12 ji_12 (Or.inl jt_1236) jg_127 jl_127 (by decide) (by decide) rfl jf_12_5 ?_
          refine jw_bipush (pc := 71) dX12_seekValue_71 rfl ?_
          refine jw_iload (pc := 73) 4 dX12_seekValue_73 rfl ?_
          refine jw_iadd (pc := 75) dX12_seekValue_75 ?_
          refine jw_iald (pc := 76) dX12_seekValue_76 jg_131 jl_131 (jw_ho jg_131 (by decide)) (jw_wr _) rfl (fun h19 => ?_)
          refine jw_callVz (pc := 77) (As := [jI (M 131 (jw_w (7 + x4)))]) (st := []) dX12_seekValue_77 rfl (Nat.le_of_ble_eq_true rfl) qX12_isAbove jt_1678 jt_1680 jp_89 rfl rfl (Nat.le_of_ble_eq_true rfl) jv_12 rfl jg_127 jl_127 (by decide) (jw_ho jg_127 (by decide)) (kX12_isAbove G (M 131 (jw_w (7 + x4))) h19 M) (fun v20 hv20 => ?_)
          refine jw_if_ne (pc := 80) 87 dX12_seekValue_80 (by decide) (jw_bz hv20) (fun _ => ?_) (fun _ => ?_)
          · exact jw_few [0, 1, 3, 4] rfl (pX12_seekValue_83 G r5 (fX12_seekValue_37 r5 k) hr5 ih x1 x3 x4 hx1 hx3 hx4 M)
          · refine jw_iconst (pc := 87) dX12_seekValue_87 ?_
            exact jw_few [0, 1, 3, 4] rfl (pX12_seekValue_88 G r5 (fX12_seekValue_37 r5 k) hr5 ih x1 x3 x4 0 hx1 hx3 hx4 (jw_rc _ rfl) M)
        · exact jw_few [0, 1, 3, 4] rfl (pX12_seekValue_83 G r5 (fX12_seekValue_37 r5 k) hr5 ih x1 x3 x4 hx1 hx3 hx4 M)
    · exact jw_few [0, 1, 2, 3] rfl (pX12_seekValue_95 G r5 hr5 x1 x2 x3 hx1 hx2 hx3 M)
def fX12_seekValue_33 (r5 : Int → Int → Int → jw_M → Option jw_M) (x1 : Int) (x3 : Int) (xs0 : Int) (M : jw_M) : Option jw_M :=
  Option.bind (some xs0) (fun v14 => Option.bind (some 0) (fun v15 => fX12_seekValue_37 r5 jw_fu x1 v14 x3 v15 M))
set_option maxRecDepth 100000 in
theorem pX12_seekValue_33 (G : jw_G) (r5 : Int → Int → Int → jw_M → Option jw_M) (hr5 : ∀ (x1 : Int) (x2 : Int) (x3 : Int) (hx1 : jw_r x1) (hx2 : jw_r x2) (hx3 : jw_r x3) (M : jw_M), jw_Rn G YX12_seekValue 2 0 0 true (fun M1 => (0, M1)) 5 [(0, jR G 127), (1, jI x1), (2, jI x2), (3, jI x3)] [] M (r5 x1 x2 x3 M)) : ∀ (x1 : Int) (x3 : Int) (xs0 : Int) (hx1 : jw_r x1) (hx3 : jw_r x3) (hxs0 : jw_r xs0) (M : jw_M), jw_Rn G YX12_seekValue 2 0 0 true (fun M1 => (0, M1)) 33 [(0, jR G 127), (1, jI x1), (3, jI x3)] [jI xs0] M (fX12_seekValue_33 r5 x1 x3 xs0 M) := by
  intro x1 x3 xs0 hx1 hx3 hxs0 M
  unfold fX12_seekValue_33
  refine jw_istore_nL (pc := 33) (lv' := (fun y => [(2, y), (0, jR G 127), (1, jI x1), (3, jI x3)])) dX12_seekValue_33 hxs0 (by decide) (fun _ => rfl) (fun v14 hv14 => ?_)
  refine jw_iconst (pc := 34) dX12_seekValue_34 ?_
  refine jw_istoreL (pc := 35) (lv' := (fun y => [(4, y), (2, jI v14), (0, jR G 127), (1, jI x1), (3, jI x3)])) dX12_seekValue_35 (jw_rc _ rfl) (by decide) (fun _ => rfl) (fun v15 hv15 => ?_)
  exact jw_few [2, 3, 1, 4, 0] rfl (pX12_seekValue_37 G r5 hr5 jw_fu x1 v14 x3 v15 hx1 hv14 hx3 hv15 M)
def fX12_seekValue_5 : Nat → Int → Int → Int → jw_M → Option jw_M
  | 0, _, _, _, _ => none
  | k + 1, x1, x2, x3, M => if x3 < 0 then (fX12_seekValue_101 M) else (if x2 = 0 then (Option.bind (fX12_layValue x1 x3 M) (fun M12 => if (0 : Int) < jw_cmp (M12 127 28) 0 then (fX12_seekValue_33 (fX12_seekValue_5 k) x1 x3 1 M12) else (fX12_seekValue_33 (fX12_seekValue_5 k) x1 x3 0 M12))) else (fX12_seekValue_101 M))
set_option maxRecDepth 100000 in
theorem pX12_seekValue_5 (G : jw_G) : ∀ (k : Nat) (x1 : Int) (x2 : Int) (x3 : Int) (hx1 : jw_r x1) (hx2 : jw_r x2) (hx3 : jw_r x3) (M : jw_M), jw_Rn G YX12_seekValue 2 0 0 true (fun M1 => (0, M1)) 5 [(0, jR G 127), (1, jI x1), (2, jI x2), (3, jI x3)] [] M (fX12_seekValue_5 k x1 x2 x3 M) := by
  intro k
  induction k with
  | zero =>
    intro x1 x2 x3 hx1 hx2 hx3 M
    exact jw_none
  | succ k ih =>
    intro x1 x2 x3 hx1 hx2 hx3 M
    rw [fX12_seekValue_5]
    refine jw_iload_n (pc := 5) 3 dX12_seekValue_5 rfl ?_
    refine jw_if_lt (pc := 6) 101 dX12_seekValue_6 (by decide) hx3 (fun _ => ?_) (fun _ => ?_)
    · exact jw_few [0] rfl (pX12_seekValue_101 G M)
    · refine jw_iload_n (pc := 9) 2 dX12_seekValue_9 rfl ?_
      refine jw_if_ne (pc := 10) 101 dX12_seekValue_10 (by decide) hx2 (fun _ => ?_) (fun _ => ?_)
      · refine jw_aloadR (pc := 13) 0 dX12_seekValue_13 rfl ?_
        refine jw_iload_n (pc := 14) 1 dX12_seekValue_14 rfl ?_
        refine jw_iload_n (pc := 15) 3 dX12_seekValue_15 rfl ?_
        refine jw_callVM (pc := 16) (As := [jI x1, jI x3]) (st := []) dX12_seekValue_16 rfl (Nat.le_of_ble_eq_true rfl) qX12_layValue jt_1674 jt_1676 jp_88 rfl rfl (Nat.le_of_ble_eq_true rfl) jv_12 rfl jg_127 jl_127 (by decide) (jw_ho jg_127 (by decide)) (kX12_layValue G x1 x3 hx1 hx3 M) (fun M12 => ?_)
        refine jw_aloadR (pc := 19) 0 dX12_seekValue_19 rfl ?_
        refine jw_getL (pc := 20) (j := 28) rfl dX12_seekValue_20 jv_12 ji_12 (Or.inl jt_1259) jg_127 jl_127 (by decide) (by decide) (jw_ho jg_127 (by decide)) rfl rfl (fun h13 => ?_)
        refine jw_lconst (pc := 23) (z := 0) dX12_seekValue_23 rfl ?_
        refine jw_lcmp (pc := 24) dX12_seekValue_24 h13 (jw_qc _ rfl) ?_
        refine jw_if_le (pc := 25) 32 dX12_seekValue_25 (by decide) (jw_cmpr _ _) (fun _ => ?_) (fun _ => ?_)
        · refine jw_iconst (pc := 28) dX12_seekValue_28 ?_
          refine jw_goto (pc := 29) 33 dX12_seekValue_29 (by decide) ?_
          exact jw_few [0, 1, 3] rfl (pX12_seekValue_33 G (fX12_seekValue_5 k) ih x1 x3 1 hx1 hx3 (jw_rc _ rfl) M12)
        · refine jw_iconst (pc := 32) dX12_seekValue_32 ?_
          exact jw_few [0, 1, 3] rfl (pX12_seekValue_33 G (fX12_seekValue_5 k) ih x1 x3 0 hx1 hx3 (jw_rc _ rfl) M12)
      · exact jw_few [0] rfl (pX12_seekValue_101 G M)
def fX12_seekValue (a1 : Int) (M : jw_M) : Option jw_M :=
  Option.bind (some 0) (fun v1 => Option.bind (some 99) (fun v2 => fX12_seekValue_5 jw_fu a1 v1 v2 M))
set_option maxRecDepth 100000 in
theorem rX12_seekValue (G : jw_G) (a1 : Int) (ha1 : jw_r a1) (M : jw_M) : jw_Rn G YX12_seekValue 2 0 0 true (fun M1 => (0, M1)) 0 [(0, jR G 127), (1, jI a1)] [] M (fX12_seekValue a1 M) := by
  unfold fX12_seekValue
  refine jw_iconst (pc := 0) dX12_seekValue_0 ?_
  refine jw_istore_nL (pc := 1) (lv' := (fun y => [(2, y), (0, jR G 127), (1, jI a1)])) dX12_seekValue_1 (jw_rc _ rfl) (by decide) (fun _ => rfl) (fun v1 hv1 => ?_)
  refine jw_bipush (pc := 2) dX12_seekValue_2 rfl ?_
  refine jw_istore_nL (pc := 4) (lv' := (fun y => [(3, y), (2, jI v1), (0, jR G 127), (1, jI a1)])) dX12_seekValue_4 (jw_rc _ rfl) (by decide) (fun _ => rfl) (fun v2 hv2 => ?_)
  exact jw_few [2, 3, 1, 0] rfl (pX12_seekValue_5 G jw_fu a1 v1 v2 ha1 hv1 hv2 M)
theorem kX12_seekValue (G : jw_G) (a1 : Int) (ha1 : jw_r a1) (M : jw_M) : jw_Ct G YX12_seekValue none 2 0 0 true (fun M1 => (0, M1)) yX12_seekValue [jR G 127, jI a1] M (fX12_seekValue a1 M) := jw_met (by decide) rfl rfl rfl (Nat.le_of_ble_eq_true rfl) (rX12_seekValue G a1 ha1 M)
abbrev YX12_value : jw_Y := (RX12, cX12_value, 3, 2, "value")
theorem qX12_value : jw_cy YX12_value (some .long) yX12_value 2 := ⟨by decide, jt_1668, jt_14, by decide, by decide +kernel⟩
theorem dX12_value_0 : decode cX12_value 0 = .ok (.aload_n 0, 1) := by decide +kernel
theorem dX12_value_1 : decode cX12_value 1 = .ok (.iconst 0, 1) := by decide +kernel
theorem dX12_value_2 : decode cX12_value 2 = .ok (.putfield 71, 3) := by decide +kernel
theorem dX12_value_5 : decode cX12_value 5 = .ok (.iload_n 1, 1) := by decide +kernel
theorem dX12_value_6 : decode cX12_value 6 = .ok (.i2l, 1) := by decide +kernel
theorem dX12_value_7 : decode cX12_value 7 = .ok (.lconst 1, 1) := by decide +kernel
theorem dX12_value_8 : decode cX12_value 8 = .ok (.ldc2_w 335, 3) := by decide +kernel
theorem dX12_value_11 : decode cX12_value 11 = .ok (.invokestatic 82, 3) := by decide +kernel
theorem dX12_value_14 : decode cX12_value 14 = .ok (.ifCond .eq 13, 3) := by decide +kernel
theorem dX12_value_17 : decode cX12_value 17 = .ok (.iload_n 2, 1) := by decide +kernel
theorem dX12_value_18 : decode cX12_value 18 = .ok (.i2l, 1) := by decide +kernel
theorem dX12_value_19 : decode cX12_value 19 = .ok (.lconst 0, 1) := by decide +kernel
theorem dX12_value_20 : decode cX12_value 20 = .ok (.lconst 1, 1) := by decide +kernel
theorem dX12_value_21 : decode cX12_value 21 = .ok (.invokestatic 82, 3) := by decide +kernel
theorem dX12_value_24 : decode cX12_value 24 = .ok (.ifCond .ne 7, 3) := by decide +kernel
theorem dX12_value_27 : decode cX12_value 27 = .ok (.ldc2_w 92, 3) := by decide +kernel
theorem dX12_value_30 : decode cX12_value 30 = .ok (.lreturn, 1) := by decide +kernel
theorem dX12_value_31 : decode cX12_value 31 = .ok (.aload_n 0, 1) := by decide +kernel
theorem dX12_value_32 : decode cX12_value 32 = .ok (.getfield 216, 3) := by decide +kernel
theorem dX12_value_35 : decode cX12_value 35 = .ok (.ifCond .ne 7, 3) := by decide +kernel
theorem dX12_value_38 : decode cX12_value 38 = .ok (.ldc2_w 252, 3) := by decide +kernel
theorem dX12_value_41 : decode cX12_value 41 = .ok (.lreturn, 1) := by decide +kernel
theorem dX12_value_42 : decode cX12_value 42 = .ok (.aload_n 0, 1) := by decide +kernel
theorem dX12_value_43 : decode cX12_value 43 = .ok (.iload_n 1, 1) := by decide +kernel
theorem dX12_value_44 : decode cX12_value 44 = .ok (.invokevirtual 337, 3) := by decide +kernel
theorem dX12_value_47 : decode cX12_value 47 = .ok (.iload_n 2, 1) := by decide +kernel
theorem dX12_value_48 : decode cX12_value 48 = .ok (.ifCond .ne 10, 3) := by decide +kernel
theorem dX12_value_51 : decode cX12_value 51 = .ok (.aload_n 0, 1) := by decide +kernel
theorem dX12_value_52 : decode cX12_value 52 = .ok (.getfield 322, 3) := by decide +kernel
theorem dX12_value_55 : decode cX12_value 55 = .ok (.goto 7, 3) := by decide +kernel
theorem dX12_value_58 : decode cX12_value 58 = .ok (.aload_n 0, 1) := by decide +kernel
theorem dX12_value_59 : decode cX12_value 59 = .ok (.getfield 326, 3) := by decide +kernel
theorem dX12_value_62 : decode cX12_value 62 = .ok (.lreturn, 1) := by decide +kernel
def fX12_value (a1 : Int) (a2 : Int) (M : jw_M) : Option (Int × jw_M) :=
  Option.bind (some (jw_up M 127 0 0)) (fun M1 => Option.bind (fX12_in a1 1 99 M1) (fun v2 => if v2 = 0 then (some ((-9000000000000000001), M1)) else (Option.bind (fX12_in a2 0 1 M1) (fun v3 => if v3 = 0 then (some ((-9000000000000000001), M1)) else (if M1 127 7 = 0 then (some ((-9000000000000000002), M1)) else (Option.bind (fX12_seekValue a1 M1) (fun M5 => if a2 = 0 then (some (M5 127 27, M5)) else (some (M5 127 28, M5)))))))))
set_option maxRecDepth 100000 in
theorem rX12_value (G : jw_G) (a1 : Int) (a2 : Int) (ha1 : jw_r a1) (ha2 : jw_r a2) (M : jw_M) : jw_Rn G YX12_value 3 0 0 true (fun q => q) 0 [(0, jR G 127), (1, jI a1), (2, jI a2)] [] M (fX12_value a1 a2 M) := by
  unfold fX12_value
  refine jw_aloadR (pc := 0) 0 dX12_value_0 rfl ?_
  refine jw_iconst (pc := 1) dX12_value_1 ?_
  refine jw_putI (pc := 2) (j := 0) tyX12 rfl dX12_value_2 jv_12 ji_12 tyX12_ok nmX12 (Or.inl jt_1231) rfl jg_127 jl_127 (by decide) (by decide) (jw_ho jg_127 (by decide)) rfl rfl (jw_rc _ rfl) rfl ?_
  refine jw_letM (fun M1 => ?_)
  refine jw_iload_n (pc := 5) 1 dX12_value_5 rfl ?_
  refine jw_i2lr (pc := 6) dX12_value_6 ha1 ?_
  refine jw_lconst (pc := 7) (z := 1) dX12_value_7 rfl ?_
  refine jw_ldc2 (pc := 8) (n := 99) dX12_value_8 jt_1669 (by decide) ?_
  refine jw_callSz (pc := 11) (As := [jL a1, jL 1, jL 99]) (st := []) dX12_value_11 rfl (Nat.le_of_ble_eq_true rfl) qX12_in jt_1345 jt_1346 rfl rfl (Nat.le_of_ble_eq_true rfl) (kX12_in G a1 1 99 (jw_rq ha1) (jw_qc _ rfl) (jw_qc _ rfl) M1) (fun v2 hv2 => ?_)
  refine jw_if_eq (pc := 14) 27 dX12_value_14 (by decide) (jw_bz hv2) (fun _ => ?_) (fun _ => ?_)
  · refine jw_ldc2 (pc := 27) (n := (-9000000000000000001)) dX12_value_27 jt_1349 (by decide) ?_
    exact jw_ret (pc := 30) (v := (-9000000000000000001)) dX12_value_30 (jw_qc _ rfl) rfl rfl
  · refine jw_iload_n (pc := 17) 2 dX12_value_17 rfl ?_
    refine jw_i2lr (pc := 18) dX12_value_18 ha2 ?_
    refine jw_lconst (pc := 19) (z := 0) dX12_value_19 rfl ?_
    refine jw_lconst (pc := 20) (z := 1) dX12_value_20 rfl ?_
    refine jw_callSz (pc := 21) (As := [jL a2, jL 0, jL 1]) (st := []) dX12_value_21 rfl (Nat.le_of_ble_eq_true rfl) qX12_in jt_1345 jt_1346 rfl rfl (Nat.le_of_ble_eq_true rfl) (kX12_in G a2 0 1 (jw_rq ha2) (jw_qc _ rfl) (jw_qc _ rfl) M1) (fun v3 hv3 => ?_)
    refine jw_if_ne (pc := 24) 31 dX12_value_24 (by decide) (jw_bz hv3) (fun _ => ?_) (fun _ => ?_)
    · refine jw_ldc2 (pc := 27) (n := (-9000000000000000001)) dX12_value_27 jt_1349 (by decide) ?_
      exact jw_ret (pc := 30) (v := (-9000000000000000001)) dX12_value_30 (jw_qc _ rfl) rfl rfl
    · refine jw_aloadR (pc := 31) 0 dX12_value_31 rfl ?_
      refine jw_getI (pc := 32) (j := 7) rfl dX12_value_32 jv_12 ji_12 (Or.inl jt_1238) jg_127 jl_127 (by decide) (by decide) (jw_ho jg_127 (by decide)) (Or.inr rfl) rfl (fun h4 => ?_)
      refine jw_if_ne (pc := 35) 42 dX12_value_35 (by decide) h4 (fun _ => ?_) (fun _ => ?_)
      · refine jw_ldc2 (pc := 38) (n := (-9000000000000000002)) dX12_value_38 jt_1513 (by decide) ?_
        exact jw_ret (pc := 41) (v := (-9000000000000000002)) dX12_value_41 (jw_qc _ rfl) rfl rfl
      · refine jw_aloadR (pc := 42) 0 dX12_value_42 rfl ?_
        refine jw_iload_n (pc := 43) 1 dX12_value_43 rfl ?_
        refine jw_callVM (pc := 44) (As := [jI a1]) (st := []) dX12_value_44 rfl (Nat.le_of_ble_eq_true rfl) qX12_seekValue jt_1670 jt_1672 jp_87 rfl rfl (Nat.le_of_ble_eq_true rfl) jv_12 rfl jg_127 jl_127 (by decide) (jw_ho jg_127 (by decide)) (kX12_seekValue G a1 ha1 M1) (fun M5 => ?_)
        refine jw_iload_n (pc := 47) 2 dX12_value_47 rfl ?_
        refine jw_if_ne (pc := 48) 58 dX12_value_48 (by decide) ha2 (fun _ => ?_) (fun _ => ?_)
        · refine jw_aloadR (pc := 51) 0 dX12_value_51 rfl ?_
          refine jw_getL (pc := 52) (j := 27) rfl dX12_value_52 jv_12 ji_12 (Or.inl jt_1258) jg_127 jl_127 (by decide) (by decide) (jw_ho jg_127 (by decide)) rfl rfl (fun h6 => ?_)
          refine jw_goto (pc := 55) 62 dX12_value_55 (by decide) ?_
          exact jw_ret (pc := 62) (v := M5 127 27) dX12_value_62 h6 rfl rfl
        · refine jw_aloadR (pc := 58) 0 dX12_value_58 rfl ?_
          refine jw_getL (pc := 59) (j := 28) rfl dX12_value_59 jv_12 ji_12 (Or.inl jt_1259) jg_127 jl_127 (by decide) (by decide) (jw_ho jg_127 (by decide)) rfl rfl (fun h7 => ?_)
          exact jw_ret (pc := 62) (v := M5 127 28) dX12_value_62 h7 rfl rfl
theorem kX12_value (G : jw_G) (a1 : Int) (a2 : Int) (ha1 : jw_r a1) (ha2 : jw_r a2) (M : jw_M) : jw_Ct G YX12_value (some .long) 3 0 0 true (fun q => q) yX12_value [jR G 127, jI a1, jI a2] M (fX12_value a1 a2 M) := jw_met (by decide) rfl rfl rfl (Nat.le_of_ble_eq_true rfl) (rX12_value G a1 a2 ha1 ha2 M)
abbrev YX12_odds : jw_Y := (RX12, cX12_odds, 5, 2, "odds")
theorem qX12_odds : jw_cy YX12_odds (some .long) yX12_odds 3 := ⟨by decide, jt_1685, jt_14, by decide, by decide +kernel⟩
theorem dX12_odds_0 : decode cX12_odds 0 = .ok (.aload_n 0, 1) := by decide +kernel
theorem dX12_odds_1 : decode cX12_odds 1 = .ok (.iconst 0, 1) := by decide +kernel
theorem dX12_odds_2 : decode cX12_odds 2 = .ok (.putfield 71, 3) := by decide +kernel
theorem dX12_odds_5 : decode cX12_odds 5 = .ok (.iload_n 1, 1) := by decide +kernel
theorem dX12_odds_6 : decode cX12_odds 6 = .ok (.i2l, 1) := by decide +kernel
theorem dX12_odds_7 : decode cX12_odds 7 = .ok (.lconst 1, 1) := by decide +kernel
theorem dX12_odds_8 : decode cX12_odds 8 = .ok (.ldc2_w 335, 3) := by decide +kernel
theorem dX12_odds_11 : decode cX12_odds 11 = .ok (.invokestatic 82, 3) := by decide +kernel
theorem dX12_odds_14 : decode cX12_odds 14 = .ok (.ifCond .eq 21, 3) := by decide +kernel
theorem dX12_odds_17 : decode cX12_odds 17 = .ok (.aload_n 0, 1) := by decide +kernel
theorem dX12_odds_18 : decode cX12_odds 18 = .ok (.iload_n 2, 1) := by decide +kernel
theorem dX12_odds_19 : decode cX12_odds 19 = .ok (.invokevirtual 224, 3) := by decide +kernel
theorem dX12_odds_22 : decode cX12_odds 22 = .ok (.ifCond .eq 13, 3) := by decide +kernel
theorem dX12_odds_25 : decode cX12_odds 25 = .ok (.iload_n 3, 1) := by decide +kernel
theorem dX12_odds_26 : decode cX12_odds 26 = .ok (.i2l, 1) := by decide +kernel
theorem dX12_odds_27 : decode cX12_odds 27 = .ok (.lconst 0, 1) := by decide +kernel
theorem dX12_odds_28 : decode cX12_odds 28 = .ok (.lconst 1, 1) := by decide +kernel
theorem dX12_odds_29 : decode cX12_odds 29 = .ok (.invokestatic 82, 3) := by decide +kernel
theorem dX12_odds_32 : decode cX12_odds 32 = .ok (.ifCond .ne 7, 3) := by decide +kernel
theorem dX12_odds_35 : decode cX12_odds 35 = .ok (.ldc2_w 92, 3) := by decide +kernel
theorem dX12_odds_38 : decode cX12_odds 38 = .ok (.lreturn, 1) := by decide +kernel
theorem dX12_odds_39 : decode cX12_odds 39 = .ok (.aload_n 0, 1) := by decide +kernel
theorem dX12_odds_40 : decode cX12_odds 40 = .ok (.iload_n 1, 1) := by decide +kernel
theorem dX12_odds_41 : decode cX12_odds 41 = .ok (.invokevirtual 337, 3) := by decide +kernel
theorem dX12_odds_44 : decode cX12_odds 44 = .ok (.aload_n 0, 1) := by decide +kernel
theorem dX12_odds_45 : decode cX12_odds 45 = .ok (.getfield 19, 3) := by decide +kernel
theorem dX12_odds_48 : decode cX12_odds 48 = .ok (.bipush 7, 2) := by decide +kernel
theorem dX12_odds_50 : decode cX12_odds 50 = .ok (.iload_n 2, 1) := by decide +kernel
theorem dX12_odds_51 : decode cX12_odds 51 = .ok (.iadd, 1) := by decide +kernel
theorem dX12_odds_52 : decode cX12_odds 52 = .ok (.iaload, 1) := by decide +kernel
theorem dX12_odds_53 : decode cX12_odds 53 = .ok (.istore 4, 2) := by decide +kernel
theorem dX12_odds_55 : decode cX12_odds 55 = .ok (.aload_n 0, 1) := by decide +kernel
theorem dX12_odds_56 : decode cX12_odds 56 = .ok (.iload 4, 2) := by decide +kernel
theorem dX12_odds_58 : decode cX12_odds 58 = .ok (.invokevirtual 332, 3) := by decide +kernel
theorem dX12_odds_61 : decode cX12_odds 61 = .ok (.ifCond .eq 33, 3) := by decide +kernel
theorem dX12_odds_64 : decode cX12_odds 64 = .ok (.iload 4, 2) := by decide +kernel
theorem dX12_odds_66 : decode cX12_odds 66 = .ok (.i2l, 1) := by decide +kernel
theorem dX12_odds_67 : decode cX12_odds 67 = .ok (.aload_n 0, 1) := by decide +kernel
theorem dX12_odds_68 : decode cX12_odds 68 = .ok (.getfield 326, 3) := by decide +kernel
theorem dX12_odds_71 : decode cX12_odds 71 = .ok (.lmul, 1) := by decide +kernel
theorem dX12_odds_72 : decode cX12_odds 72 = .ok (.aload_n 0, 1) := by decide +kernel
theorem dX12_odds_73 : decode cX12_odds 73 = .ok (.getfield 322, 3) := by decide +kernel
theorem dX12_odds_76 : decode cX12_odds 76 = .ok (.lsub, 1) := by decide +kernel
theorem dX12_odds_77 : decode cX12_odds 77 = .ok (.aload_n 0, 1) := by decide +kernel
theorem dX12_odds_78 : decode cX12_odds 78 = .ok (.getfield 326, 3) := by decide +kernel
theorem dX12_odds_81 : decode cX12_odds 81 = .ok (.iload 4, 2) := by decide +kernel
theorem dX12_odds_83 : decode cX12_odds 83 = .ok (.iload_n 1, 1) := by decide +kernel
theorem dX12_odds_84 : decode cX12_odds 84 = .ok (.iadd, 1) := by decide +kernel
theorem dX12_odds_85 : decode cX12_odds 85 = .ok (.i2l, 1) := by decide +kernel
theorem dX12_odds_86 : decode cX12_odds 86 = .ok (.lmul, 1) := by decide +kernel
theorem dX12_odds_87 : decode cX12_odds 87 = .ok (.iload_n 3, 1) := by decide +kernel
theorem dX12_odds_88 : decode cX12_odds 88 = .ok (.invokestatic 277, 3) := by decide +kernel
theorem dX12_odds_91 : decode cX12_odds 91 = .ok (.goto 5, 3) := by decide +kernel
theorem dX12_odds_94 : decode cX12_odds 94 = .ok (.iload_n 3, 1) := by decide +kernel
theorem dX12_odds_95 : decode cX12_odds 95 = .ok (.i2l, 1) := by decide +kernel
theorem dX12_odds_96 : decode cX12_odds 96 = .ok (.lreturn, 1) := by decide +kernel
def fX12_odds (a1 : Int) (a2 : Int) (a3 : Int) (M : jw_M) : Option (Int × jw_M) :=
  Option.bind (some (jw_up M 127 0 0)) (fun M1 => Option.bind (fX12_in a1 1 99 M1) (fun v2 => if v2 = 0 then (some ((-9000000000000000001), M1)) else (Option.bind (fX12_isCorner a2 M1) (fun v3 => if v3 = 0 then (some ((-9000000000000000001), M1)) else (Option.bind (fX12_in a3 0 1 M1) (fun v4 => if v4 = 0 then (some ((-9000000000000000001), M1)) else (Option.bind (fX12_seekValue a1 M1) (fun M5 => if 0 ≤ jw_w (7 + a2) ∧ jw_w (7 + a2) < 104 then Option.bind (some (M5 131 (jw_w (7 + a2)))) (fun v7 => Option.bind (fX12_isAbove v7 M5) (fun v8 => if v8 = 0 then (some (a3, M5)) else (Option.bind (fX12_partOf (jw_v ((jw_v (v7 * (M5 127 28))) - (M5 127 27))) (jw_v ((M5 127 28) * (jw_w (v7 + a1)))) a3 M5) (fun v12 => some (v12, M5))))) else none))))))))
set_option maxRecDepth 100000 in
theorem rX12_odds (G : jw_G) (a1 : Int) (a2 : Int) (a3 : Int) (ha1 : jw_r a1) (ha2 : jw_r a2) (ha3 : jw_r a3) (M : jw_M) : jw_Rn G YX12_odds 3 0 0 true (fun q => q) 0 [(0, jR G 127), (1, jI a1), (2, jI a2), (3, jI a3)] [] M (fX12_odds a1 a2 a3 M) := by
  unfold fX12_odds
  refine jw_aloadR (pc := 0) 0 dX12_odds_0 rfl ?_
  refine jw_iconst (pc := 1) dX12_odds_1 ?_
  refine jw_putI (pc := 2) (j := 0) tyX12 rfl dX12_odds_2 jv_12 ji_12 tyX12_ok nmX12 (Or.inl jt_1231) rfl jg_127 jl_127 (by decide) (by decide) (jw_ho jg_127 (by decide)) rfl rfl (jw_rc _ rfl) rfl ?_
  refine jw_letM (fun M1 => ?_)
  refine jw_iload_n (pc := 5) 1 dX12_odds_5 rfl ?_
  refine jw_i2lr (pc := 6) dX12_odds_6 ha1 ?_
  refine jw_lconst (pc := 7) (z := 1) dX12_odds_7 rfl ?_
  refine jw_ldc2 (pc := 8) (n := 99) dX12_odds_8 jt_1669 (by decide) ?_
  refine jw_callSz (pc := 11) (As := [jL a1, jL 1, jL 99]) (st := []) dX12_odds_11 rfl (Nat.le_of_ble_eq_true rfl) qX12_in jt_1345 jt_1346 rfl rfl (Nat.le_of_ble_eq_true rfl) (kX12_in G a1 1 99 (jw_rq ha1) (jw_qc _ rfl) (jw_qc _ rfl) M1) (fun v2 hv2 => ?_)
  refine jw_if_eq (pc := 14) 35 dX12_odds_14 (by decide) (jw_bz hv2) (fun _ => ?_) (fun _ => ?_)
  · refine jw_ldc2 (pc := 35) (n := (-9000000000000000001)) dX12_odds_35 jt_1349 (by decide) ?_
    exact jw_ret (pc := 38) (v := (-9000000000000000001)) dX12_odds_38 (jw_qc _ rfl) rfl rfl
  · refine jw_aloadR (pc := 17) 0 dX12_odds_17 rfl ?_
    refine jw_iload_n (pc := 18) 2 dX12_odds_18 rfl ?_
    refine jw_callVz (pc := 19) (As := [jI a2]) (st := []) dX12_odds_19 rfl (Nat.le_of_ble_eq_true rfl) qX12_isCorner jt_1478 jt_1480 jp_63 rfl rfl (Nat.le_of_ble_eq_true rfl) jv_12 rfl jg_127 jl_127 (by decide) (jw_ho jg_127 (by decide)) (kX12_isCorner G a2 ha2 M1) (fun v3 hv3 => ?_)
    refine jw_if_eq (pc := 22) 35 dX12_odds_22 (by decide) (jw_bz hv3) (fun _ => ?_) (fun _ => ?_)
    · refine jw_ldc2 (pc := 35) (n := (-9000000000000000001)) dX12_odds_35 jt_1349 (by decide) ?_
      exact jw_ret (pc := 38) (v := (-9000000000000000001)) dX12_odds_38 (jw_qc _ rfl) rfl rfl
    · refine jw_iload_n (pc := 25) 3 dX12_odds_25 rfl ?_
      refine jw_i2lr (pc := 26) dX12_odds_26 ha3 ?_
      refine jw_lconst (pc := 27) (z := 0) dX12_odds_27 rfl ?_
      refine jw_lconst (pc := 28) (z := 1) dX12_odds_28 rfl ?_
      refine jw_callSz (pc := 29) (As := [jL a3, jL 0, jL 1]) (st := []) dX12_odds_29 rfl (Nat.le_of_ble_eq_true rfl) qX12_in jt_1345 jt_1346 rfl rfl (Nat.le_of_ble_eq_true rfl) (kX12_in G a3 0 1 (jw_rq ha3) (jw_qc _ rfl) (jw_qc _ rfl) M1) (fun v4 hv4 => ?_)
      refine jw_if_ne (pc := 32) 39 dX12_odds_32 (by decide) (jw_bz hv4) (fun _ => ?_) (fun _ => ?_)
      · refine jw_ldc2 (pc := 35) (n := (-9000000000000000001)) dX12_odds_35 jt_1349 (by decide) ?_
        exact jw_ret (pc := 38) (v := (-9000000000000000001)) dX12_odds_38 (jw_qc _ rfl) rfl rfl
      · refine jw_aloadR (pc := 39) 0 dX12_odds_39 rfl ?_
        refine jw_iload_n (pc := 40) 1 dX12_odds_40 rfl ?_
        refine jw_callVM (pc := 41) (As := [jI a1]) (st := []) dX12_odds_41 rfl (Nat.le_of_ble_eq_true rfl) qX12_seekValue jt_1670 jt_1672 jp_87 rfl rfl (Nat.le_of_ble_eq_true rfl) jv_12 rfl jg_127 jl_127 (by decide) (jw_ho jg_127 (by decide)) (kX12_seekValue G a1 ha1 M1) (fun M5 => ?_)
        refine jw_aloadR (pc := 44) 0 dX12_odds_44 rfl ?_
        refine jw_getR (pc := 45) (j := 5) rfl dX12_odds_45 jv_12 ji_12 (Or.inl jt_1236) jg_127 jl_127 (by decide) (by decide) rfl jf_12_5 ?_
        refine jw_bipush (pc := 48) dX12_odds_48 rfl ?_
        refine jw_iload_n (pc := 50) 2 dX12_odds_50 rfl ?_
        refine jw_iadd (pc := 51) dX12_odds_51 ?_
        refine jw_iald (pc := 52) dX12_odds_52 jg_131 jl_131 (jw_ho jg_131 (by decide)) (jw_wr _) rfl (fun h6 => ?_)
        refine jw_istoreL (pc := 53) (lv' := (fun y => [(4, y), (0, jR G 127), (1, jI a1), (2, jI a2), (3, jI a3)])) dX12_odds_53 h6 (by decide) (fun _ => rfl) (fun v7 hv7 => ?_)
        refine jw_aloadR (pc := 55) 1 dX12_odds_55 rfl ?_
        refine jw_iload (pc := 56) 0 dX12_odds_56 rfl ?_
        refine jw_callVz (pc := 58) (As := [jI v7]) (st := []) dX12_odds_58 rfl (Nat.le_of_ble_eq_true rfl) qX12_isAbove jt_1678 jt_1680 jp_89 rfl rfl (Nat.le_of_ble_eq_true rfl) jv_12 rfl jg_127 jl_127 (by decide) (jw_ho jg_127 (by decide)) (kX12_isAbove G v7 hv7 M5) (fun v8 hv8 => ?_)
        refine jw_if_eq (pc := 61) 94 dX12_odds_61 (by decide) (jw_bz hv8) (fun _ => ?_) (fun _ => ?_)
        · refine jw_iload_n (pc := 94) 4 dX12_odds_94 rfl ?_
          refine jw_i2lr (pc := 95) dX12_odds_95 ha3 ?_
          exact jw_ret (pc := 96) (v := a3) dX12_odds_96 (jw_rq ha3) rfl rfl
        · refine jw_iload (pc := 64) 0 dX12_odds_64 rfl ?_
          refine jw_i2lr (pc := 66) dX12_odds_66 hv7 ?_
          refine jw_aloadR (pc := 67) 1 dX12_odds_67 rfl ?_
          refine jw_getL (pc := 68) (j := 28) rfl dX12_odds_68 jv_12 ji_12 (Or.inl jt_1259) jg_127 jl_127 (by decide) (by decide) (jw_ho jg_127 (by decide)) rfl rfl (fun h9 => ?_)
          refine jw_lmul (pc := 71) dX12_odds_71 ?_
          refine jw_aloadR (pc := 72) 1 dX12_odds_72 rfl ?_
          refine jw_getL (pc := 73) (j := 27) rfl dX12_odds_73 jv_12 ji_12 (Or.inl jt_1258) jg_127 jl_127 (by decide) (by decide) (jw_ho jg_127 (by decide)) rfl rfl (fun h10 => ?_)
          refine jw_lsub (pc := 76) dX12_odds_76 ?_
          refine jw_aloadR (pc := 77) 1 dX12_odds_77 rfl ?_
          refine jw_getL (pc := 78) (j := 28) rfl dX12_odds_78 jv_12 ji_12 (Or.inl jt_1259) jg_127 jl_127 (by decide) (by decide) (jw_ho jg_127 (by decide)) rfl rfl (fun h11 => ?_)
          refine jw_iload (pc := 81) 0 dX12_odds_81 rfl ?_
          refine jw_iload_n (pc := 83) 2 dX12_odds_83 rfl ?_
          refine jw_iadd (pc := 84) dX12_odds_84 ?_
          refine jw_i2lr (pc := 85) dX12_odds_85 (jw_wr _) ?_
          refine jw_lmul (pc := 86) dX12_odds_86 ?_
          refine jw_iload_n (pc := 87) 4 dX12_odds_87 rfl ?_
          refine jw_callSl (pc := 88) (As := [jL (jw_v ((jw_v (v7 * (M5 127 28))) - (M5 127 27))), jL (jw_v ((M5 127 28) * (jw_w (v7 + a1)))), jI a3]) (st := []) dX12_odds_88 rfl (Nat.le_of_ble_eq_true rfl) qX12_partOf jt_1575 jt_1576 rfl rfl (Nat.le_of_ble_eq_true rfl) (kX12_partOf G (jw_v ((jw_v (v7 * (M5 127 28))) - (M5 127 27))) (jw_v ((M5 127 28) * (jw_w (v7 + a1)))) a3 (jw_vr _) (jw_vr _) ha3 M5) (fun v12 hv12 => ?_)
          refine jw_goto (pc := 91) 96 dX12_odds_91 (by decide) ?_
          exact jw_ret (pc := 96) (v := v12) dX12_odds_96 hv12 rfl rfl
theorem kX12_odds (G : jw_G) (a1 : Int) (a2 : Int) (a3 : Int) (ha1 : jw_r a1) (ha2 : jw_r a2) (ha3 : jw_r a3) (M : jw_M) : jw_Ct G YX12_odds (some .long) 3 0 0 true (fun q => q) yX12_odds [jR G 127, jI a1, jI a2, jI a3] M (fX12_odds a1 a2 a3 M) := jw_met (by decide) rfl rfl rfl (Nat.le_of_ble_eq_true rfl) (rX12_odds G a1 a2 a3 ha1 ha2 ha3 M)
abbrev YX12_owes : jw_Y := (RX12, cX12_owes, 3, 1, "owes")
theorem qX12_owes : jw_cy YX12_owes (some .int) yX12_owes 2 := ⟨by decide, jt_1693, jt_14, by decide, by decide +kernel⟩
theorem dX12_owes_0 : decode cX12_owes 0 = .ok (.aload_n 0, 1) := by decide +kernel
theorem dX12_owes_1 : decode cX12_owes 1 = .ok (.getfield 25, 3) := by decide +kernel
theorem dX12_owes_4 : decode cX12_owes 4 = .ok (.bipush 79, 2) := by decide +kernel
theorem dX12_owes_6 : decode cX12_owes 6 = .ok (.iconst 5, 1) := by decide +kernel
theorem dX12_owes_7 : decode cX12_owes 7 = .ok (.iload_n 1, 1) := by decide +kernel
theorem dX12_owes_8 : decode cX12_owes 8 = .ok (.imul, 1) := by decide +kernel
theorem dX12_owes_9 : decode cX12_owes 9 = .ok (.iadd, 1) := by decide +kernel
theorem dX12_owes_10 : decode cX12_owes 10 = .ok (.iload_n 2, 1) := by decide +kernel
theorem dX12_owes_11 : decode cX12_owes 11 = .ok (.iadd, 1) := by decide +kernel
theorem dX12_owes_12 : decode cX12_owes 12 = .ok (.iaload, 1) := by decide +kernel
theorem dX12_owes_13 : decode cX12_owes 13 = .ok (.ireturn, 1) := by decide +kernel
def fX12_owes (a1 : Int) (a2 : Int) (M : jw_M) : Option Int :=
  if 0 ≤ jw_w ((jw_w (79 + (jw_w (5 * a1)))) + a2) ∧ jw_w ((jw_w (79 + (jw_w (5 * a1)))) + a2) < 104 then some (M 133 (jw_w ((jw_w (79 + (jw_w (5 * a1)))) + a2))) else none
set_option maxRecDepth 100000 in
theorem rX12_owes (G : jw_G) (a1 : Int) (a2 : Int) (ha1 : jw_r a1) (ha2 : jw_r a2) (M : jw_M) : jw_Rn G YX12_owes 1 0 0 true (fun v => (v, M)) 0 [(0, jR G 127), (1, jI a1), (2, jI a2)] [] M (fX12_owes a1 a2 M) := by
  unfold fX12_owes
  refine jw_aloadR (pc := 0) 0 dX12_owes_0 rfl ?_
  refine jw_getR (pc := 1) (j := 8) rfl dX12_owes_1 jv_12 ji_12 (Or.inl jt_1239) jg_127 jl_127 (by decide) (by decide) rfl jf_12_8 ?_
  refine jw_bipush (pc := 4) dX12_owes_4 rfl ?_
  refine jw_iconst (pc := 6) dX12_owes_6 ?_
  refine jw_iload_n (pc := 7) 1 dX12_owes_7 rfl ?_
  refine jw_imul (pc := 8) dX12_owes_8 ?_
  refine jw_iadd (pc := 9) dX12_owes_9 ?_
  refine jw_iload_n (pc := 10) 2 dX12_owes_10 rfl ?_
  refine jw_iadd (pc := 11) dX12_owes_11 ?_
  refine jw_iald (pc := 12) dX12_owes_12 jg_133 jl_133 (jw_ho jg_133 (by decide)) (jw_wr _) rfl (fun h1 => ?_)
  exact jw_ret (pc := 13) (v := M 133 (jw_w ((jw_w (79 + (jw_w (5 * a1)))) + a2))) dX12_owes_13 h1 rfl rfl
theorem kX12_owes (G : jw_G) (a1 : Int) (a2 : Int) (ha1 : jw_r a1) (ha2 : jw_r a2) (M : jw_M) : jw_Ct G YX12_owes (some .int) 1 0 0 true (fun v => (v, M)) yX12_owes [jR G 127, jI a1, jI a2] M (fX12_owes a1 a2 M) := jw_met (by decide) rfl rfl rfl (Nat.le_of_ble_eq_true rfl) (rX12_owes G a1 a2 ha1 ha2 M)
abbrev YX12_owe : jw_Y := (RX12, cX12_owe, 4, 2, "owe")
theorem qX12_owe : jw_cy YX12_owe (some .long) yX12_owe 3 := ⟨by decide, jt_1689, jt_14, by decide, by decide +kernel⟩
theorem dX12_owe_0 : decode cX12_owe 0 = .ok (.aload_n 0, 1) := by decide +kernel
theorem dX12_owe_1 : decode cX12_owe 1 = .ok (.iconst 0, 1) := by decide +kernel
theorem dX12_owe_2 : decode cX12_owe 2 = .ok (.putfield 71, 3) := by decide +kernel
theorem dX12_owe_5 : decode cX12_owe 5 = .ok (.aload_n 0, 1) := by decide +kernel
theorem dX12_owe_6 : decode cX12_owe 6 = .ok (.iload_n 1, 1) := by decide +kernel
theorem dX12_owe_7 : decode cX12_owe 7 = .ok (.invokevirtual 229, 3) := by decide +kernel
theorem dX12_owe_10 : decode cX12_owe 10 = .ok (.ifCond .eq 28, 3) := by decide +kernel
theorem dX12_owe_13 : decode cX12_owe 13 = .ok (.aload_n 0, 1) := by decide +kernel
theorem dX12_owe_14 : decode cX12_owe 14 = .ok (.iload_n 2, 1) := by decide +kernel
theorem dX12_owe_15 : decode cX12_owe 15 = .ok (.invokevirtual 229, 3) := by decide +kernel
theorem dX12_owe_18 : decode cX12_owe 18 = .ok (.ifCond .eq 20, 3) := by decide +kernel
theorem dX12_owe_21 : decode cX12_owe 21 = .ok (.iload_n 1, 1) := by decide +kernel
theorem dX12_owe_22 : decode cX12_owe 22 = .ok (.iload_n 2, 1) := by decide +kernel
theorem dX12_owe_23 : decode cX12_owe 23 = .ok (.if_icmp .eq 15, 3) := by decide +kernel
theorem dX12_owe_26 : decode cX12_owe 26 = .ok (.iload_n 3, 1) := by decide +kernel
theorem dX12_owe_27 : decode cX12_owe 27 = .ok (.i2l, 1) := by decide +kernel
theorem dX12_owe_28 : decode cX12_owe 28 = .ok (.lconst 1, 1) := by decide +kernel
theorem dX12_owe_29 : decode cX12_owe 29 = .ok (.ldc2_w 301, 3) := by decide +kernel
theorem dX12_owe_32 : decode cX12_owe 32 = .ok (.invokestatic 82, 3) := by decide +kernel
theorem dX12_owe_35 : decode cX12_owe 35 = .ok (.ifCond .ne 7, 3) := by decide +kernel
theorem dX12_owe_38 : decode cX12_owe 38 = .ok (.ldc2_w 92, 3) := by decide +kernel
theorem dX12_owe_41 : decode cX12_owe 41 = .ok (.lreturn, 1) := by decide +kernel
theorem dX12_owe_42 : decode cX12_owe 42 = .ok (.aload_n 0, 1) := by decide +kernel
theorem dX12_owe_43 : decode cX12_owe 43 = .ok (.iload_n 1, 1) := by decide +kernel
theorem dX12_owe_44 : decode cX12_owe 44 = .ok (.iload_n 2, 1) := by decide +kernel
theorem dX12_owe_45 : decode cX12_owe 45 = .ok (.invokevirtual 340, 3) := by decide +kernel
theorem dX12_owe_48 : decode cX12_owe 48 = .ok (.iload_n 3, 1) := by decide +kernel
theorem dX12_owe_49 : decode cX12_owe 49 = .ok (.iadd, 1) := by decide +kernel
theorem dX12_owe_50 : decode cX12_owe 50 = .ok (.sipush 9999, 3) := by decide +kernel
theorem dX12_owe_53 : decode cX12_owe 53 = .ok (.if_icmp .le 7, 3) := by decide +kernel
theorem dX12_owe_56 : decode cX12_owe 56 = .ok (.ldc2_w 103, 3) := by decide +kernel
theorem dX12_owe_59 : decode cX12_owe 59 = .ok (.lreturn, 1) := by decide +kernel
theorem dX12_owe_60 : decode cX12_owe 60 = .ok (.aload_n 0, 1) := by decide +kernel
theorem dX12_owe_61 : decode cX12_owe 61 = .ok (.getfield 25, 3) := by decide +kernel
theorem dX12_owe_64 : decode cX12_owe 64 = .ok (.bipush 79, 2) := by decide +kernel
theorem dX12_owe_66 : decode cX12_owe 66 = .ok (.iconst 5, 1) := by decide +kernel
theorem dX12_owe_67 : decode cX12_owe 67 = .ok (.iload_n 1, 1) := by decide +kernel
theorem dX12_owe_68 : decode cX12_owe 68 = .ok (.imul, 1) := by decide +kernel
theorem dX12_owe_69 : decode cX12_owe 69 = .ok (.iadd, 1) := by decide +kernel
theorem dX12_owe_70 : decode cX12_owe 70 = .ok (.iload_n 2, 1) := by decide +kernel
theorem dX12_owe_71 : decode cX12_owe 71 = .ok (.iadd, 1) := by decide +kernel
theorem dX12_owe_72 : decode cX12_owe 72 = .ok (.dup2, 1) := by decide +kernel
theorem dX12_owe_73 : decode cX12_owe 73 = .ok (.iaload, 1) := by decide +kernel
theorem dX12_owe_74 : decode cX12_owe 74 = .ok (.iload_n 3, 1) := by decide +kernel
theorem dX12_owe_75 : decode cX12_owe 75 = .ok (.iadd, 1) := by decide +kernel
theorem dX12_owe_76 : decode cX12_owe 76 = .ok (.iastore, 1) := by decide +kernel
theorem dX12_owe_77 : decode cX12_owe 77 = .ok (.aload_n 0, 1) := by decide +kernel
theorem dX12_owe_78 : decode cX12_owe 78 = .ok (.iload_n 1, 1) := by decide +kernel
theorem dX12_owe_79 : decode cX12_owe 79 = .ok (.iload_n 2, 1) := by decide +kernel
theorem dX12_owe_80 : decode cX12_owe 80 = .ok (.invokevirtual 340, 3) := by decide +kernel
theorem dX12_owe_83 : decode cX12_owe 83 = .ok (.i2l, 1) := by decide +kernel
theorem dX12_owe_84 : decode cX12_owe 84 = .ok (.lreturn, 1) := by decide +kernel
def fX12_owe (a1 : Int) (a2 : Int) (a3 : Int) (M : jw_M) : Option (Int × jw_M) :=
  Option.bind (some (jw_up M 127 0 0)) (fun M1 => Option.bind (fX12_isSeller a1 M1) (fun v2 => if v2 = 0 then (some ((-9000000000000000001), M1)) else (Option.bind (fX12_isSeller a2 M1) (fun v3 => if v3 = 0 then (some ((-9000000000000000001), M1)) else (if a1 = a2 then (some ((-9000000000000000001), M1)) else (Option.bind (fX12_in a3 1 9999 M1) (fun v4 => if v4 = 0 then (some ((-9000000000000000001), M1)) else (Option.bind (fX12_owes a1 a2 M1) (fun v5 => if (9999 : Int) < jw_w (v5 + a3) then (some ((-9000000000000000003), M1)) else (if 0 ≤ jw_w ((jw_w (79 + (jw_w (5 * a1)))) + a2) ∧ jw_w ((jw_w (79 + (jw_w (5 * a1)))) + a2) < 104 then if 0 ≤ jw_w ((jw_w (79 + (jw_w (5 * a1)))) + a2) ∧ jw_w ((jw_w (79 + (jw_w (5 * a1)))) + a2) < 104 then Option.bind (some (jw_up M1 133 (jw_w ((jw_w (79 + (jw_w (5 * a1)))) + a2)) (jw_w ((M1 133 (jw_w ((jw_w (79 + (jw_w (5 * a1)))) + a2))) + a3)))) (fun M7 => Option.bind (fX12_owes a1 a2 M7) (fun v8 => some (v8, M7))) else none else none))))))))))
set_option maxRecDepth 100000 in
theorem rX12_owe (G : jw_G) (a1 : Int) (a2 : Int) (a3 : Int) (ha1 : jw_r a1) (ha2 : jw_r a2) (ha3 : jw_r a3) (M : jw_M) : jw_Rn G YX12_owe 3 0 0 true (fun q => q) 0 [(0, jR G 127), (1, jI a1), (2, jI a2), (3, jI a3)] [] M (fX12_owe a1 a2 a3 M) := by
  unfold fX12_owe
  refine jw_aloadR (pc := 0) 0 dX12_owe_0 rfl ?_
  refine jw_iconst (pc := 1) dX12_owe_1 ?_
  refine jw_putI (pc := 2) (j := 0) tyX12 rfl dX12_owe_2 jv_12 ji_12 tyX12_ok nmX12 (Or.inl jt_1231) rfl jg_127 jl_127 (by decide) (by decide) (jw_ho jg_127 (by decide)) rfl rfl (jw_rc _ rfl) rfl ?_
  refine jw_letM (fun M1 => ?_)
  refine jw_aloadR (pc := 5) 0 dX12_owe_5 rfl ?_
  refine jw_iload_n (pc := 6) 1 dX12_owe_6 rfl ?_
  refine jw_callVz (pc := 7) (As := [jI a1]) (st := []) dX12_owe_7 rfl (Nat.le_of_ble_eq_true rfl) qX12_isSeller jt_1487 jt_1489 jp_64 rfl rfl (Nat.le_of_ble_eq_true rfl) jv_12 rfl jg_127 jl_127 (by decide) (jw_ho jg_127 (by decide)) (kX12_isSeller G a1 ha1 M1) (fun v2 hv2 => ?_)
  refine jw_if_eq (pc := 10) 38 dX12_owe_10 (by decide) (jw_bz hv2) (fun _ => ?_) (fun _ => ?_)
  · refine jw_ldc2 (pc := 38) (n := (-9000000000000000001)) dX12_owe_38 jt_1349 (by decide) ?_
    exact jw_ret (pc := 41) (v := (-9000000000000000001)) dX12_owe_41 (jw_qc _ rfl) rfl rfl
  · refine jw_aloadR (pc := 13) 0 dX12_owe_13 rfl ?_
    refine jw_iload_n (pc := 14) 2 dX12_owe_14 rfl ?_
    refine jw_callVz (pc := 15) (As := [jI a2]) (st := []) dX12_owe_15 rfl (Nat.le_of_ble_eq_true rfl) qX12_isSeller jt_1487 jt_1489 jp_64 rfl rfl (Nat.le_of_ble_eq_true rfl) jv_12 rfl jg_127 jl_127 (by decide) (jw_ho jg_127 (by decide)) (kX12_isSeller G a2 ha2 M1) (fun v3 hv3 => ?_)
    refine jw_if_eq (pc := 18) 38 dX12_owe_18 (by decide) (jw_bz hv3) (fun _ => ?_) (fun _ => ?_)
    · refine jw_ldc2 (pc := 38) (n := (-9000000000000000001)) dX12_owe_38 jt_1349 (by decide) ?_
      exact jw_ret (pc := 41) (v := (-9000000000000000001)) dX12_owe_41 (jw_qc _ rfl) rfl rfl
    · refine jw_iload_n (pc := 21) 1 dX12_owe_21 rfl ?_
      refine jw_iload_n (pc := 22) 2 dX12_owe_22 rfl ?_
      refine jw_ic_eq (pc := 23) 38 dX12_owe_23 (by decide) ha1 ha2 (fun _ => ?_) (fun _ => ?_)
      · refine jw_ldc2 (pc := 38) (n := (-9000000000000000001)) dX12_owe_38 jt_1349 (by decide) ?_
        exact jw_ret (pc := 41) (v := (-9000000000000000001)) dX12_owe_41 (jw_qc _ rfl) rfl rfl
      · refine jw_iload_n (pc := 26) 3 dX12_owe_26 rfl ?_
        refine jw_i2lr (pc := 27) dX12_owe_27 ha3 ?_
        refine jw_lconst (pc := 28) (z := 1) dX12_owe_28 rfl ?_
        refine jw_ldc2 (pc := 29) (n := 9999) dX12_owe_29 jt_1634 (by decide) ?_
        refine jw_callSz (pc := 32) (As := [jL a3, jL 1, jL 9999]) (st := []) dX12_owe_32 rfl (Nat.le_of_ble_eq_true rfl) qX12_in jt_1345 jt_1346 rfl rfl (Nat.le_of_ble_eq_true rfl) (kX12_in G a3 1 9999 (jw_rq ha3) (jw_qc _ rfl) (jw_qc _ rfl) M1) (fun v4 hv4 => ?_)
        refine jw_if_ne (pc := 35) 42 dX12_owe_35 (by decide) (jw_bz hv4) (fun _ => ?_) (fun _ => ?_)
        · refine jw_ldc2 (pc := 38) (n := (-9000000000000000001)) dX12_owe_38 jt_1349 (by decide) ?_
          exact jw_ret (pc := 41) (v := (-9000000000000000001)) dX12_owe_41 (jw_qc _ rfl) rfl rfl
        · refine jw_aloadR (pc := 42) 0 dX12_owe_42 rfl ?_
          refine jw_iload_n (pc := 43) 1 dX12_owe_43 rfl ?_
          refine jw_iload_n (pc := 44) 2 dX12_owe_44 rfl ?_
          refine jw_callVi (pc := 45) (As := [jI a1, jI a2]) (st := []) dX12_owe_45 rfl (Nat.le_of_ble_eq_true rfl) qX12_owes jt_1690 jt_1692 jp_90 rfl rfl (Nat.le_of_ble_eq_true rfl) jv_12 rfl jg_127 jl_127 (by decide) (jw_ho jg_127 (by decide)) (kX12_owes G a1 a2 ha1 ha2 M1) (fun v5 hv5 => ?_)
          refine jw_iload_n (pc := 48) 3 dX12_owe_48 rfl ?_
          refine jw_iadd (pc := 49) dX12_owe_49 ?_
          refine jw_sipush (pc := 50) dX12_owe_50 rfl ?_
          refine jw_ic_le (pc := 53) 60 dX12_owe_53 (by decide) (jw_wr _) (jw_rc _ rfl) (fun _ => ?_) (fun _ => ?_)
          · refine jw_ldc2 (pc := 56) (n := (-9000000000000000003)) dX12_owe_56 jt_1372 (by decide) ?_
            exact jw_ret (pc := 59) (v := (-9000000000000000003)) dX12_owe_59 (jw_qc _ rfl) rfl rfl
          · refine jw_aloadR (pc := 60) 0 dX12_owe_60 rfl ?_
            refine jw_getR (pc := 61) (j := 8) rfl dX12_owe_61 jv_12 ji_12 (Or.inl jt_1239) jg_127 jl_127 (by decide) (by decide) rfl jf_12_8 ?_
            refine jw_bipush (pc := 64) dX12_owe_64 rfl ?_
            refine jw_iconst (pc := 66) dX12_owe_66 ?_
            refine jw_iload_n (pc := 67) 1 dX12_owe_67 rfl ?_
            refine jw_imul (pc := 68) dX12_owe_68 ?_
            refine jw_iadd (pc := 69) dX12_owe_69 ?_
            refine jw_iload_n (pc := 70) 2 dX12_owe_70 rfl ?_
            refine jw_iadd (pc := 71) dX12_owe_71 ?_
            refine jw_dup2 (pc := 72) dX12_owe_72 rfl rfl ?_
            refine jw_iald (pc := 73) dX12_owe_73 jg_133 jl_133 (jw_ho jg_133 (by decide)) (jw_wr _) rfl (fun h6 => ?_)
            refine jw_iload_n (pc := 74) 3 dX12_owe_74 rfl ?_
            refine jw_iadd (pc := 75) dX12_owe_75 ?_
            refine jw_iast (pc := 76) dX12_owe_76 jg_133 jl_133 (jw_ho jg_133 (by decide)) (jw_wr _) (jw_wr _) rfl ?_
            refine jw_letM (fun M7 => ?_)
            refine jw_aloadR (pc := 77) 0 dX12_owe_77 rfl ?_
            refine jw_iload_n (pc := 78) 1 dX12_owe_78 rfl ?_
            refine jw_iload_n (pc := 79) 2 dX12_owe_79 rfl ?_
            refine jw_callVi (pc := 80) (As := [jI a1, jI a2]) (st := []) dX12_owe_80 rfl (Nat.le_of_ble_eq_true rfl) qX12_owes jt_1690 jt_1692 jp_90 rfl rfl (Nat.le_of_ble_eq_true rfl) jv_12 rfl jg_127 jl_127 (by decide) (jw_ho jg_127 (by decide)) (kX12_owes G a1 a2 ha1 ha2 M7) (fun v8 hv8 => ?_)
            refine jw_i2lr (pc := 83) dX12_owe_83 hv8 ?_
            exact jw_ret (pc := 84) (v := v8) dX12_owe_84 (jw_rq hv8) rfl rfl
theorem kX12_owe (G : jw_G) (a1 : Int) (a2 : Int) (a3 : Int) (ha1 : jw_r a1) (ha2 : jw_r a2) (ha3 : jw_r a3) (M : jw_M) : jw_Ct G YX12_owe (some .long) 3 0 0 true (fun q => q) yX12_owe [jR G 127, jI a1, jI a2, jI a3] M (fX12_owe a1 a2 a3 M) := jw_met (by decide) rfl rfl rfl (Nat.le_of_ble_eq_true rfl) (rX12_owe G a1 a2 a3 ha1 ha2 ha3 M)
