abbrev YX11_restore : jw_Y := (RX11, cX11_restore, 2, 2, "restore")
theorem qX11_restore : jw_cy YX11_restore (some .long) yX11_restore 1 := ⟨by decide, jt_1154, jt_1, by decide, by decide +kernel⟩
theorem dX11_restore_0 : decode cX11_restore 0 = .ok (.iload_n 1, 1) := by decide +kernel
theorem dX11_restore_1 : decode cX11_restore 1 = .ok (.ifCond .lt 8, 3) := by decide +kernel
theorem dX11_restore_4 : decode cX11_restore 4 = .ok (.iload_n 1, 1) := by decide +kernel
theorem dX11_restore_5 : decode cX11_restore 5 = .ok (.iconst 2, 1) := by decide +kernel
theorem dX11_restore_6 : decode cX11_restore 6 = .ok (.if_icmp .lt 7, 3) := by decide +kernel
theorem dX11_restore_9 : decode cX11_restore 9 = .ok (.ldc2_w 75, 3) := by decide +kernel
theorem dX11_restore_12 : decode cX11_restore 12 = .ok (.lreturn, 1) := by decide +kernel
theorem dX11_restore_13 : decode cX11_restore 13 = .ok (.aload_n 0, 1) := by decide +kernel
theorem dX11_restore_14 : decode cX11_restore 14 = .ok (.getfield 37, 3) := by decide +kernel
theorem dX11_restore_17 : decode cX11_restore 17 = .ok (.iload_n 1, 1) := by decide +kernel
theorem dX11_restore_18 : decode cX11_restore 18 = .ok (.baload, 1) := by decide +kernel
theorem dX11_restore_19 : decode cX11_restore 19 = .ok (.ifCond .ne 7, 3) := by decide +kernel
theorem dX11_restore_22 : decode cX11_restore 22 = .ok (.ldc2_w 201, 3) := by decide +kernel
theorem dX11_restore_25 : decode cX11_restore 25 = .ok (.lreturn, 1) := by decide +kernel
theorem dX11_restore_26 : decode cX11_restore 26 = .ok (.aload_n 0, 1) := by decide +kernel
theorem dX11_restore_27 : decode cX11_restore 27 = .ok (.getfield 26, 3) := by decide +kernel
theorem dX11_restore_30 : decode cX11_restore 30 = .ok (.aload_n 0, 1) := by decide +kernel
theorem dX11_restore_31 : decode cX11_restore 31 = .ok (.getfield 33, 3) := by decide +kernel
theorem dX11_restore_34 : decode cX11_restore 34 = .ok (.iload_n 1, 1) := by decide +kernel
theorem dX11_restore_35 : decode cX11_restore 35 = .ok (.aaload, 1) := by decide +kernel
theorem dX11_restore_36 : decode cX11_restore 36 = .ok (.invokevirtual 134, 3) := by decide +kernel
theorem dX11_restore_39 : decode cX11_restore 39 = .ok (.lconst 1, 1) := by decide +kernel
theorem dX11_restore_40 : decode cX11_restore 40 = .ok (.lreturn, 1) := by decide +kernel
def fX11_restore (a1 : Int) (M : jw_M) : Option (Int × jw_M) :=
  if a1 < 0 then (some ((-9000000000000000001), M)) else (if a1 < 2 then (if 0 ≤ a1 ∧ a1 < 2 then if M 118 a1 = 0 then (some ((-9000000000000000002), M)) else (if 0 ≤ a1 ∧ a1 < 2 then if jw_tag (64 + 27 * (a1).toNat) = 7 then Option.bind (fX7_takeFrom 9 (64 + 27 * (a1).toNat) M) (fun M2 => some (1, M2)) else none else none) else none) else (some ((-9000000000000000001), M)))
set_option maxRecDepth 100000 in
theorem rX11_restore (G : jw_G) (a1 : Int) (ha1 : jw_r a1) (M : jw_M) : jw_Rn G YX11_restore 4 0 0 true (fun q => q) 0 [(0, jR G 0), (1, jI a1)] [] M (fX11_restore a1 M) := by
  unfold fX11_restore
  refine jw_iload_n (pc := 0) 1 dX11_restore_0 rfl ?_
  refine jw_if_lt (pc := 1) 9 dX11_restore_1 (by decide) ha1 (fun _ => ?_) (fun _ => ?_)
  · refine jw_ldc2 (pc := 9) (n := (-9000000000000000001)) dX11_restore_9 jt_414 (by decide) ?_
    exact jw_ret (pc := 12) (v := (-9000000000000000001)) dX11_restore_12 (jw_qc _ rfl) rfl rfl
  · refine jw_iload_n (pc := 4) 1 dX11_restore_4 rfl ?_
    refine jw_iconst (pc := 5) dX11_restore_5 ?_
    refine jw_ic_lt (pc := 6) 13 dX11_restore_6 (by decide) ha1 (jw_rc _ rfl) (fun _ => ?_) (fun _ => ?_)
    · refine jw_aloadR (pc := 13) 0 dX11_restore_13 rfl ?_
      refine jw_getR (pc := 14) (j := 5) rfl dX11_restore_14 jv_11 ji_11 (Or.inl jt_377) jg_0 jl_0 (by decide) (by decide) rfl jf_11_5 ?_
      refine jw_iload_n (pc := 17) 1 dX11_restore_17 rfl ?_
      refine jw_zald (pc := 18) dX11_restore_18 jg_118 jl_118 (jw_ho jg_118 (by decide)) ha1 rfl (fun h1 => ?_)
      refine jw_if_ne (pc := 19) 26 dX11_restore_19 (by decide) h1 (fun _ => ?_) (fun _ => ?_)
      · refine jw_ldc2 (pc := 22) (n := (-9000000000000000002)) dX11_restore_22 jt_789 (by decide) ?_
        exact jw_ret (pc := 25) (v := (-9000000000000000002)) dX11_restore_25 (jw_qc _ rfl) rfl rfl
      · refine jw_aloadR (pc := 26) 0 dX11_restore_26 rfl ?_
        refine jw_getR (pc := 27) (j := 2) rfl dX11_restore_27 jv_11 ji_11 (Or.inl jt_374) jg_0 jl_0 (by decide) (by decide) rfl jf_11_2 ?_
        refine jw_aloadR (pc := 30) 0 dX11_restore_30 rfl ?_
        refine jw_getR (pc := 31) (j := 4) rfl dX11_restore_31 jv_11 ji_11 (Or.inl jt_376) jg_0 jl_0 (by decide) (by decide) rfl jf_11_4 ?_
        refine jw_iload_n (pc := 34) 1 dX11_restore_34 rfl ?_
        refine jw_aald (pc := 35) (64 + 27 * (a1).toNat) dX11_restore_35 jg_63 jl_63 ha1 rfl jw_im1 ?_
        refine jw_ck (fun hi35 => ?_)
        refine jw_callVM (pc := 36) (As := [jR G (64 + 27 * (a1).toNat)]) (st := []) dX11_restore_36 rfl (Nat.le_of_ble_eq_true rfl) qX7_takeFrom jt_692 jt_693 jt_694 rfl rfl (Nat.le_of_ble_eq_true rfl) jv_7 rfl jg_9 jl_9 (by decide) (jw_ho jg_9 (by decide)) (kX7_takeFrom G 9 (64 + 27 * (a1).toNat) M) (fun M2 => ?_)
        refine jw_lconst (pc := 39) (z := 1) dX11_restore_39 rfl ?_
        exact jw_ret (pc := 40) (v := 1) dX11_restore_40 (jw_qc _ rfl) rfl rfl
    · refine jw_ldc2 (pc := 9) (n := (-9000000000000000001)) dX11_restore_9 jt_414 (by decide) ?_
      exact jw_ret (pc := 12) (v := (-9000000000000000001)) dX11_restore_12 (jw_qc _ rfl) rfl rfl
theorem kX11_restore (G : jw_G) (a1 : Int) (ha1 : jw_r a1) (M : jw_M) : jw_Ct G YX11_restore (some .long) 4 0 0 true (fun q => q) yX11_restore [jR G 0, jI a1] M (fX11_restore a1 M) := jw_met (by decide) rfl rfl rfl (Nat.le_of_ble_eq_true rfl) (rX11_restore G a1 ha1 M)
abbrev YX11_kind : jw_Y := (RX11, cX11_kind, 2, 2, "kind")
theorem qX11_kind : jw_cy YX11_kind (some .long) yX11_kind 1 := ⟨by decide, jt_1158, jt_1, by decide, by decide +kernel⟩
theorem dX11_kind_0 : decode cX11_kind 0 = .ok (.aload_n 0, 1) := by decide +kernel
theorem dX11_kind_1 : decode cX11_kind 1 = .ok (.getfield 26, 3) := by decide +kernel
theorem dX11_kind_4 : decode cX11_kind 4 = .ok (.getfield 162, 3) := by decide +kernel
theorem dX11_kind_7 : decode cX11_kind 7 = .ok (.iload_n 1, 1) := by decide +kernel
theorem dX11_kind_8 : decode cX11_kind 8 = .ok (.invokevirtual 166, 3) := by decide +kernel
theorem dX11_kind_11 : decode cX11_kind 11 = .ok (.ifCond .ne 7, 3) := by decide +kernel
theorem dX11_kind_14 : decode cX11_kind 14 = .ok (.ldc2_w 75, 3) := by decide +kernel
theorem dX11_kind_17 : decode cX11_kind 17 = .ok (.lreturn, 1) := by decide +kernel
theorem dX11_kind_18 : decode cX11_kind 18 = .ok (.aload_n 0, 1) := by decide +kernel
theorem dX11_kind_19 : decode cX11_kind 19 = .ok (.getfield 60, 3) := by decide +kernel
theorem dX11_kind_22 : decode cX11_kind 22 = .ok (.iload_n 1, 1) := by decide +kernel
theorem dX11_kind_23 : decode cX11_kind 23 = .ok (.invokevirtual 358, 3) := by decide +kernel
theorem dX11_kind_26 : decode cX11_kind 26 = .ok (.i2l, 1) := by decide +kernel
theorem dX11_kind_27 : decode cX11_kind 27 = .ok (.lreturn, 1) := by decide +kernel
def fX11_kind (a1 : Int) (M : jw_M) : Option Int :=
  Option.bind (fX10_isSeller (9 + 8) a1 M) (fun v1 => if v1 = 0 then (some (-9000000000000000001)) else (Option.bind (fX0_kindOf a1 M) (fun v2 => some v2)))
set_option maxRecDepth 100000 in
theorem rX11_kind (G : jw_G) (a1 : Int) (ha1 : jw_r a1) (M : jw_M) : jw_Rn G YX11_kind 3 0 0 true (fun v => (v, M)) 0 [(0, jR G 0), (1, jI a1)] [] M (fX11_kind a1 M) := by
  unfold fX11_kind
  refine jw_aloadR (pc := 0) 0 dX11_kind_0 rfl ?_
  refine jw_getR (pc := 1) (j := 2) rfl dX11_kind_1 jv_11 ji_11 (Or.inl jt_374) jg_0 jl_0 (by decide) (by decide) rfl jf_11_2 ?_
  refine jw_getR (pc := 4) (j := 2) rfl dX11_kind_4 jv_7 ji_7 (Or.inr ⟨_, jt_269⟩) jg_9 jl_9 (by decide) (by decide) rfl (jf_7_2 jg_9).1 ?_
  refine jw_iload_n (pc := 7) 1 dX11_kind_7 rfl ?_
  refine jw_callVz (pc := 8) (As := [jI a1]) (st := []) dX11_kind_8 rfl (Nat.le_of_ble_eq_true rfl) qX10_isSeller jt_753 jt_754 jt_755 rfl rfl (Nat.le_of_ble_eq_true rfl) jv_10 rfl (jf_7_2 jg_9).2.1 (jf_7_2 jg_9).2.2 (by decide) (jw_ho (jf_7_2 jg_9).2.1 (by decide)) (kX10_isSeller G (9 + 8) a1 ha1 M) (fun v1 hv1 => ?_)
  refine jw_if_ne (pc := 11) 18 dX11_kind_11 (by decide) (jw_bz hv1) (fun _ => ?_) (fun _ => ?_)
  · refine jw_ldc2 (pc := 14) (n := (-9000000000000000001)) dX11_kind_14 jt_414 (by decide) ?_
    exact jw_ret (pc := 17) (v := (-9000000000000000001)) dX11_kind_17 (jw_qc _ rfl) rfl rfl
  · refine jw_aloadR (pc := 18) 0 dX11_kind_18 rfl ?_
    refine jw_getR (pc := 19) (j := 8) rfl dX11_kind_19 jv_11 ji_11 (Or.inl jt_380) jg_0 jl_0 (by decide) (by decide) rfl jf_11_8 ?_
    refine jw_iload_n (pc := 22) 1 dX11_kind_22 rfl ?_
    refine jw_callVi (pc := 23) (As := [jI a1]) (st := []) dX11_kind_23 rfl (Nat.le_of_ble_eq_true rfl) qX0_kindOf jt_1159 jt_1160 jt_1161 rfl rfl (Nat.le_of_ble_eq_true rfl) jv_0 rfl jg_125 jl_125 (by decide) (jw_ho jg_125 (by decide)) (kX0_kindOf G a1 ha1 M) (fun v2 hv2 => ?_)
    refine jw_i2lr (pc := 26) dX11_kind_26 hv2 ?_
    exact jw_ret (pc := 27) (v := v2) dX11_kind_27 (jw_rq hv2) rfl rfl
theorem kX11_kind (G : jw_G) (a1 : Int) (ha1 : jw_r a1) (M : jw_M) : jw_Ct G YX11_kind (some .long) 3 0 0 true (fun v => (v, M)) yX11_kind [jR G 0, jI a1] M (fX11_kind a1 M) := jw_met (by decide) rfl rfl rfl (Nat.le_of_ble_eq_true rfl) (rX11_kind G a1 ha1 M)
abbrev YX11_as : jw_Y := (RX11, cX11_as, 3, 2, "as")
theorem qX11_as : jw_cy YX11_as (some .long) yX11_as 2 := ⟨by decide, jt_1167, jt_1, by decide, by decide +kernel⟩
theorem dX11_as_0 : decode cX11_as 0 = .ok (.aload_n 0, 1) := by decide +kernel
theorem dX11_as_1 : decode cX11_as 1 = .ok (.getfield 26, 3) := by decide +kernel
theorem dX11_as_4 : decode cX11_as 4 = .ok (.getfield 162, 3) := by decide +kernel
theorem dX11_as_7 : decode cX11_as 7 = .ok (.iload_n 1, 1) := by decide +kernel
theorem dX11_as_8 : decode cX11_as 8 = .ok (.invokevirtual 166, 3) := by decide +kernel
theorem dX11_as_11 : decode cX11_as 11 = .ok (.ifCond .eq 12, 3) := by decide +kernel
theorem dX11_as_14 : decode cX11_as 14 = .ok (.iload_n 2, 1) := by decide +kernel
theorem dX11_as_15 : decode cX11_as 15 = .ok (.ifCond .lt 8, 3) := by decide +kernel
theorem dX11_as_18 : decode cX11_as 18 = .ok (.iload_n 2, 1) := by decide +kernel
theorem dX11_as_19 : decode cX11_as 19 = .ok (.iconst 4, 1) := by decide +kernel
theorem dX11_as_20 : decode cX11_as 20 = .ok (.if_icmp .le 7, 3) := by decide +kernel
theorem dX11_as_23 : decode cX11_as 23 = .ok (.ldc2_w 75, 3) := by decide +kernel
theorem dX11_as_26 : decode cX11_as 26 = .ok (.lreturn, 1) := by decide +kernel
theorem dX11_as_27 : decode cX11_as 27 = .ok (.aload_n 0, 1) := by decide +kernel
theorem dX11_as_28 : decode cX11_as 28 = .ok (.getfield 60, 3) := by decide +kernel
theorem dX11_as_31 : decode cX11_as 31 = .ok (.iload_n 1, 1) := by decide +kernel
theorem dX11_as_32 : decode cX11_as 32 = .ok (.invokevirtual 358, 3) := by decide +kernel
theorem dX11_as_35 : decode cX11_as 35 = .ok (.iload_n 2, 1) := by decide +kernel
theorem dX11_as_36 : decode cX11_as 36 = .ok (.invokestatic 361, 3) := by decide +kernel
theorem dX11_as_39 : decode cX11_as 39 = .ok (.ifCond .ne 9, 3) := by decide +kernel
theorem dX11_as_42 : decode cX11_as 42 = .ok (.aload_n 0, 1) := by decide +kernel
theorem dX11_as_43 : decode cX11_as 43 = .ok (.iconst 3, 1) := by decide +kernel
theorem dX11_as_44 : decode cX11_as 44 = .ok (.invokevirtual 77, 3) := by decide +kernel
theorem dX11_as_47 : decode cX11_as 47 = .ok (.lreturn, 1) := by decide +kernel
theorem dX11_as_48 : decode cX11_as 48 = .ok (.aload_n 0, 1) := by decide +kernel
theorem dX11_as_49 : decode cX11_as 49 = .ok (.iload_n 1, 1) := by decide +kernel
theorem dX11_as_50 : decode cX11_as 50 = .ok (.i2l, 1) := by decide +kernel
theorem dX11_as_51 : decode cX11_as 51 = .ok (.invokevirtual 85, 3) := by decide +kernel
theorem dX11_as_54 : decode cX11_as 54 = .ok (.lreturn, 1) := by decide +kernel
def fX11_as (a1 : Int) (a2 : Int) (M : jw_M) : Option (Int × jw_M) :=
  Option.bind (fX10_isSeller (9 + 8) a1 M) (fun v1 => if v1 = 0 then (some ((-9000000000000000001), M)) else (if a2 < 0 then (some ((-9000000000000000001), M)) else (if (4 : Int) < a2 then (some ((-9000000000000000001), M)) else (Option.bind (fX0_kindOf a1 M) (fun v2 => Option.bind (fX0_isTakenAs v2 a2 M) (fun v3 => if v3 = 0 then (jw_b2 (fX11_found 3 M) (fun v4 M5 => some (v4, M5))) else (jw_b2 (fX11_foundNothing a1 M) (fun v6 M7 => some (v6, M7)))))))))
set_option maxRecDepth 100000 in
theorem rX11_as (G : jw_G) (a1 : Int) (a2 : Int) (ha1 : jw_r a1) (ha2 : jw_r a2) (M : jw_M) : jw_Rn G YX11_as 3 0 0 true (fun q => q) 0 [(0, jR G 0), (1, jI a1), (2, jI a2)] [] M (fX11_as a1 a2 M) := by
  unfold fX11_as
  refine jw_aloadR (pc := 0) 0 dX11_as_0 rfl ?_
  refine jw_getR (pc := 1) (j := 2) rfl dX11_as_1 jv_11 ji_11 (Or.inl jt_374) jg_0 jl_0 (by decide) (by decide) rfl jf_11_2 ?_
  refine jw_getR (pc := 4) (j := 2) rfl dX11_as_4 jv_7 ji_7 (Or.inr ⟨_, jt_269⟩) jg_9 jl_9 (by decide) (by decide) rfl (jf_7_2 jg_9).1 ?_
  refine jw_iload_n (pc := 7) 1 dX11_as_7 rfl ?_
  refine jw_callVz (pc := 8) (As := [jI a1]) (st := []) dX11_as_8 rfl (Nat.le_of_ble_eq_true rfl) qX10_isSeller jt_753 jt_754 jt_755 rfl rfl (Nat.le_of_ble_eq_true rfl) jv_10 rfl (jf_7_2 jg_9).2.1 (jf_7_2 jg_9).2.2 (by decide) (jw_ho (jf_7_2 jg_9).2.1 (by decide)) (kX10_isSeller G (9 + 8) a1 ha1 M) (fun v1 hv1 => ?_)
  refine jw_if_eq (pc := 11) 23 dX11_as_11 (by decide) (jw_bz hv1) (fun _ => ?_) (fun _ => ?_)
  · refine jw_ldc2 (pc := 23) (n := (-9000000000000000001)) dX11_as_23 jt_414 (by decide) ?_
    exact jw_ret (pc := 26) (v := (-9000000000000000001)) dX11_as_26 (jw_qc _ rfl) rfl rfl
  · refine jw_iload_n (pc := 14) 2 dX11_as_14 rfl ?_
    refine jw_if_lt (pc := 15) 23 dX11_as_15 (by decide) ha2 (fun _ => ?_) (fun _ => ?_)
    · refine jw_ldc2 (pc := 23) (n := (-9000000000000000001)) dX11_as_23 jt_414 (by decide) ?_
      exact jw_ret (pc := 26) (v := (-9000000000000000001)) dX11_as_26 (jw_qc _ rfl) rfl rfl
    · refine jw_iload_n (pc := 18) 2 dX11_as_18 rfl ?_
      refine jw_iconst (pc := 19) dX11_as_19 ?_
      refine jw_ic_le (pc := 20) 27 dX11_as_20 (by decide) ha2 (jw_rc _ rfl) (fun _ => ?_) (fun _ => ?_)
      · refine jw_ldc2 (pc := 23) (n := (-9000000000000000001)) dX11_as_23 jt_414 (by decide) ?_
        exact jw_ret (pc := 26) (v := (-9000000000000000001)) dX11_as_26 (jw_qc _ rfl) rfl rfl
      · refine jw_aloadR (pc := 27) 0 dX11_as_27 rfl ?_
        refine jw_getR (pc := 28) (j := 8) rfl dX11_as_28 jv_11 ji_11 (Or.inl jt_380) jg_0 jl_0 (by decide) (by decide) rfl jf_11_8 ?_
        refine jw_iload_n (pc := 31) 1 dX11_as_31 rfl ?_
        refine jw_callVi (pc := 32) (As := [jI a1]) (st := []) dX11_as_32 rfl (Nat.le_of_ble_eq_true rfl) qX0_kindOf jt_1159 jt_1160 jt_1161 rfl rfl (Nat.le_of_ble_eq_true rfl) jv_0 rfl jg_125 jl_125 (by decide) (jw_ho jg_125 (by decide)) (kX0_kindOf G a1 ha1 M) (fun v2 hv2 => ?_)
        refine jw_iload_n (pc := 35) 2 dX11_as_35 rfl ?_
        refine jw_callSz (pc := 36) (As := [jI v2, jI a2]) (st := []) dX11_as_36 rfl (Nat.le_of_ble_eq_true rfl) qX0_isTakenAs jt_1168 jt_1169 rfl rfl (Nat.le_of_ble_eq_true rfl) (kX0_isTakenAs G v2 a2 hv2 ha2 M) (fun v3 hv3 => ?_)
        refine jw_if_ne (pc := 39) 48 dX11_as_39 (by decide) (jw_bz hv3) (fun _ => ?_) (fun _ => ?_)
        · refine jw_aloadR (pc := 42) 0 dX11_as_42 rfl ?_
          refine jw_iconst (pc := 43) dX11_as_43 ?_
          refine jw_callVMl (pc := 44) (As := [jI 3]) (st := []) dX11_as_44 rfl (Nat.le_of_ble_eq_true rfl) qX11_found jt_415 jt_417 jp_0 rfl rfl (Nat.le_of_ble_eq_true rfl) jv_11 rfl jg_0 jl_0 (by decide) (jw_ho jg_0 (by decide)) (kX11_found G 3 (jw_rc _ rfl) M) (fun v4 M5 hv4 => ?_)
          exact jw_ret (pc := 47) (v := v4) dX11_as_47 hv4 rfl rfl
        · refine jw_aloadR (pc := 48) 0 dX11_as_48 rfl ?_
          refine jw_iload_n (pc := 49) 1 dX11_as_49 rfl ?_
          refine jw_i2lr (pc := 50) dX11_as_50 ha1 ?_
          refine jw_callVMl (pc := 51) (As := [jL a1]) (st := []) dX11_as_51 rfl (Nat.le_of_ble_eq_true rfl) qX11_foundNothing jt_430 jt_432 jp_1 rfl rfl (Nat.le_of_ble_eq_true rfl) jv_11 rfl jg_0 jl_0 (by decide) (jw_ho jg_0 (by decide)) (kX11_foundNothing G a1 (jw_rq ha1) M) (fun v6 M7 hv6 => ?_)
          exact jw_ret (pc := 54) (v := v6) dX11_as_54 hv6 rfl rfl
theorem kX11_as (G : jw_G) (a1 : Int) (a2 : Int) (ha1 : jw_r a1) (ha2 : jw_r a2) (M : jw_M) : jw_Ct G YX11_as (some .long) 3 0 0 true (fun q => q) yX11_as [jR G 0, jI a1, jI a2] M (fX11_as a1 a2 M) := jw_met (by decide) rfl rfl rfl (Nat.le_of_ble_eq_true rfl) (rX11_as G a1 a2 ha1 ha2 M)
abbrev YX11_ask : jw_Y := (RX11, cX11_ask, 3, 2, "ask")
theorem qX11_ask : jw_cy YX11_ask (some .long) yX11_ask 2 := ⟨by decide, jt_1174, jt_1, by decide, by decide +kernel⟩
theorem dX11_ask_0 : decode cX11_ask 0 = .ok (.aload_n 0, 1) := by decide +kernel
theorem dX11_ask_1 : decode cX11_ask 1 = .ok (.getfield 26, 3) := by decide +kernel
theorem dX11_ask_4 : decode cX11_ask 4 = .ok (.getfield 162, 3) := by decide +kernel
theorem dX11_ask_7 : decode cX11_ask 7 = .ok (.iload_n 1, 1) := by decide +kernel
theorem dX11_ask_8 : decode cX11_ask 8 = .ok (.invokevirtual 166, 3) := by decide +kernel
theorem dX11_ask_11 : decode cX11_ask 11 = .ok (.ifCond .eq 10, 3) := by decide +kernel
theorem dX11_ask_14 : decode cX11_ask 14 = .ok (.iload_n 2, 1) := by decide +kernel
theorem dX11_ask_15 : decode cX11_ask 15 = .ok (.invokestatic 149, 3) := by decide +kernel
theorem dX11_ask_18 : decode cX11_ask 18 = .ok (.ifCond .ne 7, 3) := by decide +kernel
theorem dX11_ask_21 : decode cX11_ask 21 = .ok (.ldc2_w 75, 3) := by decide +kernel
theorem dX11_ask_24 : decode cX11_ask 24 = .ok (.lreturn, 1) := by decide +kernel
theorem dX11_ask_25 : decode cX11_ask 25 = .ok (.aload_n 0, 1) := by decide +kernel
theorem dX11_ask_26 : decode cX11_ask 26 = .ok (.getfield 60, 3) := by decide +kernel
theorem dX11_ask_29 : decode cX11_ask 29 = .ok (.iload_n 1, 1) := by decide +kernel
theorem dX11_ask_30 : decode cX11_ask 30 = .ok (.iload_n 2, 1) := by decide +kernel
theorem dX11_ask_31 : decode cX11_ask 31 = .ok (.invokevirtual 364, 3) := by decide +kernel
theorem dX11_ask_34 : decode cX11_ask 34 = .ok (.i2l, 1) := by decide +kernel
theorem dX11_ask_35 : decode cX11_ask 35 = .ok (.lreturn, 1) := by decide +kernel
def fX11_ask (a1 : Int) (a2 : Int) (M : jw_M) : Option (Int × jw_M) :=
  Option.bind (fX10_isSeller (9 + 8) a1 M) (fun v1 => if v1 = 0 then (some ((-9000000000000000001), M)) else (Option.bind (fX11_isHalf a2 M) (fun v2 => if v2 = 0 then (some ((-9000000000000000001), M)) else (jw_b2 (fX0_answer a1 a2 M) (fun v3 M4 => some (v3, M4))))))
set_option maxRecDepth 100000 in
theorem rX11_ask (G : jw_G) (a1 : Int) (a2 : Int) (ha1 : jw_r a1) (ha2 : jw_r a2) (M : jw_M) : jw_Rn G YX11_ask 29 0 0 true (fun q => q) 0 [(0, jR G 0), (1, jI a1), (2, jI a2)] [] M (fX11_ask a1 a2 M) := by
  unfold fX11_ask
  refine jw_aloadR (pc := 0) 0 dX11_ask_0 rfl ?_
  refine jw_getR (pc := 1) (j := 2) rfl dX11_ask_1 jv_11 ji_11 (Or.inl jt_374) jg_0 jl_0 (by decide) (by decide) rfl jf_11_2 ?_
  refine jw_getR (pc := 4) (j := 2) rfl dX11_ask_4 jv_7 ji_7 (Or.inr ⟨_, jt_269⟩) jg_9 jl_9 (by decide) (by decide) rfl (jf_7_2 jg_9).1 ?_
  refine jw_iload_n (pc := 7) 1 dX11_ask_7 rfl ?_
  refine jw_callVz (pc := 8) (As := [jI a1]) (st := []) dX11_ask_8 rfl (Nat.le_of_ble_eq_true rfl) qX10_isSeller jt_753 jt_754 jt_755 rfl rfl (Nat.le_of_ble_eq_true rfl) jv_10 rfl (jf_7_2 jg_9).2.1 (jf_7_2 jg_9).2.2 (by decide) (jw_ho (jf_7_2 jg_9).2.1 (by decide)) (kX10_isSeller G (9 + 8) a1 ha1 M) (fun v1 hv1 => ?_)
  refine jw_if_eq (pc := 11) 21 dX11_ask_11 (by decide) (jw_bz hv1) (fun _ => ?_) (fun _ => ?_)
  · refine jw_ldc2 (pc := 21) (n := (-9000000000000000001)) dX11_ask_21 jt_414 (by decide) ?_
    exact jw_ret (pc := 24) (v := (-9000000000000000001)) dX11_ask_24 (jw_qc _ rfl) rfl rfl
  · refine jw_iload_n (pc := 14) 2 dX11_ask_14 rfl ?_
    refine jw_callSz (pc := 15) (As := [jI a2]) (st := []) dX11_ask_15 rfl (Nat.le_of_ble_eq_true rfl) qX11_isHalf jt_733 jt_734 rfl rfl (Nat.le_of_ble_eq_true rfl) (kX11_isHalf G a2 ha2 M) (fun v2 hv2 => ?_)
    refine jw_if_ne (pc := 18) 25 dX11_ask_18 (by decide) (jw_bz hv2) (fun _ => ?_) (fun _ => ?_)
    · refine jw_ldc2 (pc := 21) (n := (-9000000000000000001)) dX11_ask_21 jt_414 (by decide) ?_
      exact jw_ret (pc := 24) (v := (-9000000000000000001)) dX11_ask_24 (jw_qc _ rfl) rfl rfl
    · refine jw_aloadR (pc := 25) 0 dX11_ask_25 rfl ?_
      refine jw_getR (pc := 26) (j := 8) rfl dX11_ask_26 jv_11 ji_11 (Or.inl jt_380) jg_0 jl_0 (by decide) (by decide) rfl jf_11_8 ?_
      refine jw_iload_n (pc := 29) 1 dX11_ask_29 rfl ?_
      refine jw_iload_n (pc := 30) 2 dX11_ask_30 rfl ?_
      refine jw_callVMi (pc := 31) (As := [jI a1, jI a2]) (st := []) dX11_ask_31 rfl (Nat.le_of_ble_eq_true rfl) qX0_answer jt_1175 jt_1176 jt_1177 rfl rfl (Nat.le_of_ble_eq_true rfl) jv_0 rfl jg_125 jl_125 (by decide) (jw_ho jg_125 (by decide)) (kX0_answer G a1 a2 ha1 ha2 M) (fun v3 M4 hv3 => ?_)
      refine jw_i2lr (pc := 34) dX11_ask_34 hv3 ?_
      exact jw_ret (pc := 35) (v := v3) dX11_ask_35 (jw_rq hv3) rfl rfl
theorem kX11_ask (G : jw_G) (a1 : Int) (a2 : Int) (ha1 : jw_r a1) (ha2 : jw_r a2) (M : jw_M) : jw_Ct G YX11_ask (some .long) 29 0 0 true (fun q => q) yX11_ask [jR G 0, jI a1, jI a2] M (fX11_ask a1 a2 M) := jw_met (by decide) rfl rfl rfl (Nat.le_of_ble_eq_true rfl) (rX11_ask G a1 a2 ha1 ha2 M)
abbrev YX11_trace : jw_Y := (RX11, cX11_trace, 2, 1, "trace")
theorem qX11_trace : jw_cy YX11_trace (some .int) yX11_trace 1 := ⟨by decide, jt_1198, jt_1, by decide, by decide +kernel⟩
theorem dX11_trace_0 : decode cX11_trace 0 = .ok (.aload_n 0, 1) := by decide +kernel
theorem dX11_trace_1 : decode cX11_trace 1 = .ok (.getfield 60, 3) := by decide +kernel
theorem dX11_trace_4 : decode cX11_trace 4 = .ok (.iload_n 1, 1) := by decide +kernel
theorem dX11_trace_5 : decode cX11_trace 5 = .ok (.invokevirtual 367, 3) := by decide +kernel
theorem dX11_trace_8 : decode cX11_trace 8 = .ok (.ireturn, 1) := by decide +kernel
def fX11_trace (a1 : Int) (M : jw_M) : Option Int :=
  Option.bind (fX0_traced a1 M) (fun v1 => some v1)
set_option maxRecDepth 100000 in
theorem rX11_trace (G : jw_G) (a1 : Int) (ha1 : jw_r a1) (M : jw_M) : jw_Rn G YX11_trace 2 0 0 true (fun v => (v, M)) 0 [(0, jR G 0), (1, jI a1)] [] M (fX11_trace a1 M) := by
  unfold fX11_trace
  refine jw_aloadR (pc := 0) 0 dX11_trace_0 rfl ?_
  refine jw_getR (pc := 1) (j := 8) rfl dX11_trace_1 jv_11 ji_11 (Or.inl jt_380) jg_0 jl_0 (by decide) (by decide) rfl jf_11_8 ?_
  refine jw_iload_n (pc := 4) 1 dX11_trace_4 rfl ?_
  refine jw_callVi (pc := 5) (As := [jI a1]) (st := []) dX11_trace_5 rfl (Nat.le_of_ble_eq_true rfl) qX0_traced jt_1199 jt_1200 jt_1201 rfl rfl (Nat.le_of_ble_eq_true rfl) jv_0 rfl jg_125 jl_125 (by decide) (jw_ho jg_125 (by decide)) (kX0_traced G a1 ha1 M) (fun v1 hv1 => ?_)
  exact jw_ret (pc := 8) (v := v1) dX11_trace_8 hv1 rfl rfl
theorem kX11_trace (G : jw_G) (a1 : Int) (ha1 : jw_r a1) (M : jw_M) : jw_Ct G YX11_trace (some .int) 2 0 0 true (fun v => (v, M)) yX11_trace [jR G 0, jI a1] M (fX11_trace a1 M) := jw_met (by decide) rfl rfl rfl (Nat.le_of_ble_eq_true rfl) (rX11_trace G a1 ha1 M)
abbrev YX11_count : jw_Y := (RX11, cX11_count, 2, 2, "count")
theorem qX11_count : jw_cy YX11_count (some .long) yX11_count 1 := ⟨by decide, jt_1207, jt_1, by decide, by decide +kernel⟩
theorem dX11_count_0 : decode cX11_count 0 = .ok (.iload_n 1, 1) := by decide +kernel
theorem dX11_count_1 : decode cX11_count 1 = .ok (.tableswitch 153 0 8 #[51, 60, 72, 84, 96, 108, 120, 132, 144], 51) := by decide +kernel
theorem dX11_count_52 : decode cX11_count 52 = .ok (.aload_n 0, 1) := by decide +kernel
theorem dX11_count_53 : decode cX11_count 53 = .ok (.getfield 12, 3) := by decide +kernel
theorem dX11_count_56 : decode cX11_count 56 = .ok (.invokevirtual 370, 3) := by decide +kernel
theorem dX11_count_59 : decode cX11_count 59 = .ok (.i2l, 1) := by decide +kernel
theorem dX11_count_60 : decode cX11_count 60 = .ok (.lreturn, 1) := by decide +kernel
theorem dX11_count_61 : decode cX11_count 61 = .ok (.aload_n 0, 1) := by decide +kernel
theorem dX11_count_62 : decode cX11_count 62 = .ok (.getfield 26, 3) := by decide +kernel
theorem dX11_count_65 : decode cX11_count 65 = .ok (.getfield 137, 3) := by decide +kernel
theorem dX11_count_68 : decode cX11_count 68 = .ok (.getfield 141, 3) := by decide +kernel
theorem dX11_count_71 : decode cX11_count 71 = .ok (.i2l, 1) := by decide +kernel
theorem dX11_count_72 : decode cX11_count 72 = .ok (.lreturn, 1) := by decide +kernel
theorem dX11_count_73 : decode cX11_count 73 = .ok (.aload_n 0, 1) := by decide +kernel
theorem dX11_count_74 : decode cX11_count 74 = .ok (.getfield 26, 3) := by decide +kernel
theorem dX11_count_77 : decode cX11_count 77 = .ok (.getfield 137, 3) := by decide +kernel
theorem dX11_count_80 : decode cX11_count 80 = .ok (.invokevirtual 372, 3) := by decide +kernel
theorem dX11_count_83 : decode cX11_count 83 = .ok (.i2l, 1) := by decide +kernel
theorem dX11_count_84 : decode cX11_count 84 = .ok (.lreturn, 1) := by decide +kernel
theorem dX11_count_85 : decode cX11_count 85 = .ok (.aload_n 0, 1) := by decide +kernel
theorem dX11_count_86 : decode cX11_count 86 = .ok (.getfield 26, 3) := by decide +kernel
theorem dX11_count_89 : decode cX11_count 89 = .ok (.getfield 162, 3) := by decide +kernel
theorem dX11_count_92 : decode cX11_count 92 = .ok (.getfield 375, 3) := by decide +kernel
theorem dX11_count_95 : decode cX11_count 95 = .ok (.i2l, 1) := by decide +kernel
theorem dX11_count_96 : decode cX11_count 96 = .ok (.lreturn, 1) := by decide +kernel
theorem dX11_count_97 : decode cX11_count 97 = .ok (.aload_n 0, 1) := by decide +kernel
theorem dX11_count_98 : decode cX11_count 98 = .ok (.getfield 26, 3) := by decide +kernel
theorem dX11_count_101 : decode cX11_count 101 = .ok (.getfield 162, 3) := by decide +kernel
theorem dX11_count_104 : decode cX11_count 104 = .ok (.getfield 223, 3) := by decide +kernel
theorem dX11_count_107 : decode cX11_count 107 = .ok (.i2l, 1) := by decide +kernel
theorem dX11_count_108 : decode cX11_count 108 = .ok (.lreturn, 1) := by decide +kernel
theorem dX11_count_109 : decode cX11_count 109 = .ok (.aload_n 0, 1) := by decide +kernel
theorem dX11_count_110 : decode cX11_count 110 = .ok (.getfield 26, 3) := by decide +kernel
theorem dX11_count_113 : decode cX11_count 113 = .ok (.getfield 162, 3) := by decide +kernel
theorem dX11_count_116 : decode cX11_count 116 = .ok (.getfield 378, 3) := by decide +kernel
theorem dX11_count_119 : decode cX11_count 119 = .ok (.i2l, 1) := by decide +kernel
theorem dX11_count_120 : decode cX11_count 120 = .ok (.lreturn, 1) := by decide +kernel
theorem dX11_count_121 : decode cX11_count 121 = .ok (.aload_n 0, 1) := by decide +kernel
theorem dX11_count_122 : decode cX11_count 122 = .ok (.getfield 26, 3) := by decide +kernel
theorem dX11_count_125 : decode cX11_count 125 = .ok (.getfield 137, 3) := by decide +kernel
theorem dX11_count_128 : decode cX11_count 128 = .ok (.getfield 381, 3) := by decide +kernel
theorem dX11_count_131 : decode cX11_count 131 = .ok (.i2l, 1) := by decide +kernel
theorem dX11_count_132 : decode cX11_count 132 = .ok (.lreturn, 1) := by decide +kernel
theorem dX11_count_133 : decode cX11_count 133 = .ok (.aload_n 0, 1) := by decide +kernel
theorem dX11_count_134 : decode cX11_count 134 = .ok (.getfield 26, 3) := by decide +kernel
theorem dX11_count_137 : decode cX11_count 137 = .ok (.getfield 268, 3) := by decide +kernel
theorem dX11_count_140 : decode cX11_count 140 = .ok (.getfield 272, 3) := by decide +kernel
theorem dX11_count_143 : decode cX11_count 143 = .ok (.i2l, 1) := by decide +kernel
theorem dX11_count_144 : decode cX11_count 144 = .ok (.lreturn, 1) := by decide +kernel
theorem dX11_count_145 : decode cX11_count 145 = .ok (.aload_n 0, 1) := by decide +kernel
theorem dX11_count_146 : decode cX11_count 146 = .ok (.getfield 19, 3) := by decide +kernel
theorem dX11_count_149 : decode cX11_count 149 = .ok (.invokevirtual 384, 3) := by decide +kernel
theorem dX11_count_152 : decode cX11_count 152 = .ok (.i2l, 1) := by decide +kernel
theorem dX11_count_153 : decode cX11_count 153 = .ok (.lreturn, 1) := by decide +kernel
theorem dX11_count_154 : decode cX11_count 154 = .ok (.ldc2_w 75, 3) := by decide +kernel
theorem dX11_count_157 : decode cX11_count 157 = .ok (.lreturn, 1) := by decide +kernel
def fX11_count (a1 : Int) (M : jw_M) : Option Int :=
  if a1 = 0 then (Option.bind (fX6_howMany  M) (fun v1 => some v1)) else (if a1 = 1 then (some (M (9 + 1) 0)) else (if a1 = 2 then (Option.bind (fX9_pairsWithStreet (9 + 1) M) (fun v5 => some v5)) else (if a1 = 3 then (some (M (9 + 8) 0)) else (if a1 = 4 then (some (M (9 + 8) 4)) else (if a1 = 5 then (some (M (9 + 8) 7)) else (if a1 = 6 then (some (M (9 + 1) 5)) else (if a1 = 7 then (some (M (9 + 21) 0)) else (if a1 = 8 then (Option.bind (fX4_length  M) (fun v17 => some v17)) else (some (-9000000000000000001))))))))))
set_option maxRecDepth 100000 in
theorem rX11_count (G : jw_G) (a1 : Int) (ha1 : jw_r a1) (M : jw_M) : jw_Rn G YX11_count 3 0 0 true (fun v => (v, M)) 0 [(0, jR G 0), (1, jI a1)] [] M (fX11_count a1 M) := by
  unfold fX11_count
  refine jw_iload_n (pc := 0) 1 dX11_count_0 rfl ?_
  refine jw_ite (fun c2 => ?_) (fun c2 => ?_)
  · refine jw_tsin (pc := 1) 52 0 dX11_count_1 ha1 c2 rfl rfl (by decide) ?_
    refine jw_aloadR (pc := 52) 0 dX11_count_52 rfl ?_
    refine jw_getR (pc := 53) (j := 0) rfl dX11_count_53 jv_11 ji_11 (Or.inl jt_372) jg_0 jl_0 (by decide) (by decide) rfl jf_11_0 ?_
    refine jw_callVi (pc := 56) (As := []) (st := []) dX11_count_56 rfl (Nat.le_of_ble_eq_true rfl) qX6_howMany jt_1208 jt_1209 jt_1210 rfl rfl (Nat.le_of_ble_eq_true rfl) jv_6 rfl jg_1 jl_1 (by decide) (jw_ho jg_1 (by decide)) (kX6_howMany G  M) (fun v1 hv1 => ?_)
    refine jw_i2lr (pc := 59) dX11_count_59 hv1 ?_
    exact jw_ret (pc := 60) (v := v1) dX11_count_60 (jw_rq hv1) rfl rfl
  · refine jw_ite (fun c4 => ?_) (fun c4 => ?_)
    · refine jw_tsin (pc := 1) 61 1 dX11_count_1 ha1 c4 rfl rfl (by decide) ?_
      refine jw_aloadR (pc := 61) 0 dX11_count_61 rfl ?_
      refine jw_getR (pc := 62) (j := 2) rfl dX11_count_62 jv_11 ji_11 (Or.inl jt_374) jg_0 jl_0 (by decide) (by decide) rfl jf_11_2 ?_
      refine jw_getR (pc := 65) (j := 1) rfl dX11_count_65 jv_7 ji_7 (Or.inr ⟨_, jt_264⟩) jg_9 jl_9 (by decide) (by decide) rfl (jf_7_1 jg_9).1 ?_
      refine jw_getI (pc := 68) (j := 0) rfl dX11_count_68 jv_9 ji_9 (Or.inr ⟨_, jt_96⟩) (jf_7_1 jg_9).2.1 (jf_7_1 jg_9).2.2 (by decide) (by decide) (jw_ho (jf_7_1 jg_9).2.1 (by decide)) (Or.inl rfl) rfl (fun h3 => ?_)
      refine jw_i2lr (pc := 71) dX11_count_71 h3 ?_
      exact jw_ret (pc := 72) (v := M (9 + 1) 0) dX11_count_72 (jw_rq h3) rfl rfl
    · refine jw_ite (fun c6 => ?_) (fun c6 => ?_)
      · refine jw_tsin (pc := 1) 73 2 dX11_count_1 ha1 c6 rfl rfl (by decide) ?_
        refine jw_aloadR (pc := 73) 0 dX11_count_73 rfl ?_
        refine jw_getR (pc := 74) (j := 2) rfl dX11_count_74 jv_11 ji_11 (Or.inl jt_374) jg_0 jl_0 (by decide) (by decide) rfl jf_11_2 ?_
        refine jw_getR (pc := 77) (j := 1) rfl dX11_count_77 jv_7 ji_7 (Or.inr ⟨_, jt_264⟩) jg_9 jl_9 (by decide) (by decide) rfl (jf_7_1 jg_9).1 ?_
        refine jw_callVi (pc := 80) (As := []) (st := []) dX11_count_80 rfl (Nat.le_of_ble_eq_true rfl) qX9_pairsWithStreet jt_1213 jt_1214 jt_1215 rfl rfl (Nat.le_of_ble_eq_true rfl) jv_9 rfl (jf_7_1 jg_9).2.1 (jf_7_1 jg_9).2.2 (by decide) (jw_ho (jf_7_1 jg_9).2.1 (by decide)) (kX9_pairsWithStreet G (9 + 1) M) (fun v5 hv5 => ?_)
        refine jw_i2lr (pc := 83) dX11_count_83 hv5 ?_
        exact jw_ret (pc := 84) (v := v5) dX11_count_84 (jw_rq hv5) rfl rfl
      · refine jw_ite (fun c8 => ?_) (fun c8 => ?_)
        · refine jw_tsin (pc := 1) 85 3 dX11_count_1 ha1 c8 rfl rfl (by decide) ?_
          refine jw_aloadR (pc := 85) 0 dX11_count_85 rfl ?_
          refine jw_getR (pc := 86) (j := 2) rfl dX11_count_86 jv_11 ji_11 (Or.inl jt_374) jg_0 jl_0 (by decide) (by decide) rfl jf_11_2 ?_
          refine jw_getR (pc := 89) (j := 2) rfl dX11_count_89 jv_7 ji_7 (Or.inr ⟨_, jt_269⟩) jg_9 jl_9 (by decide) (by decide) rfl (jf_7_2 jg_9).1 ?_
          refine jw_getI (pc := 92) (j := 0) rfl dX11_count_92 jv_10 ji_10 (Or.inr ⟨_, jt_147⟩) (jf_7_2 jg_9).2.1 (jf_7_2 jg_9).2.2 (by decide) (by decide) (jw_ho (jf_7_2 jg_9).2.1 (by decide)) (Or.inl rfl) rfl (fun h7 => ?_)
          refine jw_i2lr (pc := 95) dX11_count_95 h7 ?_
          exact jw_ret (pc := 96) (v := M (9 + 8) 0) dX11_count_96 (jw_rq h7) rfl rfl
        · refine jw_ite (fun c10 => ?_) (fun c10 => ?_)
          · refine jw_tsin (pc := 1) 97 4 dX11_count_1 ha1 c10 rfl rfl (by decide) ?_
            refine jw_aloadR (pc := 97) 0 dX11_count_97 rfl ?_
            refine jw_getR (pc := 98) (j := 2) rfl dX11_count_98 jv_11 ji_11 (Or.inl jt_374) jg_0 jl_0 (by decide) (by decide) rfl jf_11_2 ?_
            refine jw_getR (pc := 101) (j := 2) rfl dX11_count_101 jv_7 ji_7 (Or.inr ⟨_, jt_269⟩) jg_9 jl_9 (by decide) (by decide) rfl (jf_7_2 jg_9).1 ?_
            refine jw_getI (pc := 104) (j := 4) rfl dX11_count_104 jv_10 ji_10 (Or.inr ⟨_, jt_155⟩) (jf_7_2 jg_9).2.1 (jf_7_2 jg_9).2.2 (by decide) (by decide) (jw_ho (jf_7_2 jg_9).2.1 (by decide)) (Or.inl rfl) rfl (fun h9 => ?_)
            refine jw_i2lr (pc := 107) dX11_count_107 h9 ?_
            exact jw_ret (pc := 108) (v := M (9 + 8) 4) dX11_count_108 (jw_rq h9) rfl rfl
          · refine jw_ite (fun c12 => ?_) (fun c12 => ?_)
            · refine jw_tsin (pc := 1) 109 5 dX11_count_1 ha1 c12 rfl rfl (by decide) ?_
              refine jw_aloadR (pc := 109) 0 dX11_count_109 rfl ?_
              refine jw_getR (pc := 110) (j := 2) rfl dX11_count_110 jv_11 ji_11 (Or.inl jt_374) jg_0 jl_0 (by decide) (by decide) rfl jf_11_2 ?_
              refine jw_getR (pc := 113) (j := 2) rfl dX11_count_113 jv_7 ji_7 (Or.inr ⟨_, jt_269⟩) jg_9 jl_9 (by decide) (by decide) rfl (jf_7_2 jg_9).1 ?_
              refine jw_getI (pc := 116) (j := 7) rfl dX11_count_116 jv_10 ji_10 (Or.inr ⟨_, jt_167⟩) (jf_7_2 jg_9).2.1 (jf_7_2 jg_9).2.2 (by decide) (by decide) (jw_ho (jf_7_2 jg_9).2.1 (by decide)) (Or.inl rfl) rfl (fun h11 => ?_)
              refine jw_i2lr (pc := 119) dX11_count_119 h11 ?_
              exact jw_ret (pc := 120) (v := M (9 + 8) 7) dX11_count_120 (jw_rq h11) rfl rfl
            · refine jw_ite (fun c14 => ?_) (fun c14 => ?_)
              · refine jw_tsin (pc := 1) 121 6 dX11_count_1 ha1 c14 rfl rfl (by decide) ?_
                refine jw_aloadR (pc := 121) 0 dX11_count_121 rfl ?_
                refine jw_getR (pc := 122) (j := 2) rfl dX11_count_122 jv_11 ji_11 (Or.inl jt_374) jg_0 jl_0 (by decide) (by decide) rfl jf_11_2 ?_
                refine jw_getR (pc := 125) (j := 1) rfl dX11_count_125 jv_7 ji_7 (Or.inr ⟨_, jt_264⟩) jg_9 jl_9 (by decide) (by decide) rfl (jf_7_1 jg_9).1 ?_
                refine jw_getI (pc := 128) (j := 5) rfl dX11_count_128 jv_9 ji_9 (Or.inr ⟨_, jt_107⟩) (jf_7_1 jg_9).2.1 (jf_7_1 jg_9).2.2 (by decide) (by decide) (jw_ho (jf_7_1 jg_9).2.1 (by decide)) (Or.inl rfl) rfl (fun h13 => ?_)
                refine jw_i2lr (pc := 131) dX11_count_131 h13 ?_
                exact jw_ret (pc := 132) (v := M (9 + 1) 5) dX11_count_132 (jw_rq h13) rfl rfl
              · refine jw_ite (fun c16 => ?_) (fun c16 => ?_)
                · refine jw_tsin (pc := 1) 133 7 dX11_count_1 ha1 c16 rfl rfl (by decide) ?_
                  refine jw_aloadR (pc := 133) 0 dX11_count_133 rfl ?_
                  refine jw_getR (pc := 134) (j := 2) rfl dX11_count_134 jv_11 ji_11 (Or.inl jt_374) jg_0 jl_0 (by decide) (by decide) rfl jf_11_2 ?_
                  refine jw_getR (pc := 137) (j := 4) rfl dX11_count_137 jv_7 ji_7 (Or.inr ⟨_, jt_277⟩) jg_9 jl_9 (by decide) (by decide) rfl (jf_7_4 jg_9).1 ?_
                  refine jw_getI (pc := 140) (j := 0) rfl dX11_count_140 jv_1 ji_1 (Or.inr ⟨_, jt_233⟩) (jf_7_4 jg_9).2.1 (jf_7_4 jg_9).2.2 (by decide) (by decide) (jw_ho (jf_7_4 jg_9).2.1 (by decide)) (Or.inl rfl) rfl (fun h15 => ?_)
                  refine jw_i2lr (pc := 143) dX11_count_143 h15 ?_
                  exact jw_ret (pc := 144) (v := M (9 + 21) 0) dX11_count_144 (jw_rq h15) rfl rfl
                · refine jw_ite (fun c18 => ?_) (fun c18 => ?_)
                  · refine jw_tsin (pc := 1) 145 8 dX11_count_1 ha1 c18 rfl rfl (by decide) ?_
                    refine jw_aloadR (pc := 145) 0 dX11_count_145 rfl ?_
                    refine jw_getR (pc := 146) (j := 1) rfl dX11_count_146 jv_11 ji_11 (Or.inl jt_373) jg_0 jl_0 (by decide) (by decide) rfl jf_11_1 ?_
                    refine jw_callVi (pc := 149) (As := []) (st := []) dX11_count_149 rfl (Nat.le_of_ble_eq_true rfl) qX4_length jt_1217 jt_1218 jt_1219 rfl rfl (Nat.le_of_ble_eq_true rfl) jv_4 rfl jg_5 jl_5 (by decide) (jw_ho jg_5 (by decide)) (kX4_length G  M) (fun v17 hv17 => ?_)
                    refine jw_i2lr (pc := 152) dX11_count_152 hv17 ?_
                    exact jw_ret (pc := 153) (v := v17) dX11_count_153 (jw_rq hv17) rfl rfl
                  · refine jw_tsout (pc := 1) 154 dX11_count_1 ha1 (by omega) (by decide) ?_
                    refine jw_ldc2 (pc := 154) (n := (-9000000000000000001)) dX11_count_154 jt_414 (by decide) ?_
                    exact jw_ret (pc := 157) (v := (-9000000000000000001)) dX11_count_157 (jw_qc _ rfl) rfl rfl
theorem kX11_count (G : jw_G) (a1 : Int) (ha1 : jw_r a1) (M : jw_M) : jw_Ct G YX11_count (some .long) 3 0 0 true (fun v => (v, M)) yX11_count [jR G 0, jI a1] M (fX11_count a1 M) := jw_met (by decide) rfl rfl rfl (Nat.le_of_ble_eq_true rfl) (rX11_count G a1 ha1 M)
abbrev YX11_status : jw_Y := (RX11, cX11_status, 1, 1, "status")
theorem qX11_status : jw_cy YX11_status (some .int) yX11_status 0 := ⟨by decide, jt_1224, jt_1, by decide, by decide +kernel⟩
theorem dX11_status_0 : decode cX11_status 0 = .ok (.aload_n 0, 1) := by decide +kernel
theorem dX11_status_1 : decode cX11_status 1 = .ok (.getfield 68, 3) := by decide +kernel
theorem dX11_status_4 : decode cX11_status 4 = .ok (.ireturn, 1) := by decide +kernel
def fX11_status (M : jw_M) : Option Int :=
  some (M 0 10)
set_option maxRecDepth 100000 in
theorem rX11_status (G : jw_G) (M : jw_M) : jw_Rn G YX11_status 1 0 0 true (fun v => (v, M)) 0 [(0, jR G 0)] [] M (fX11_status M) := by
  unfold fX11_status
  refine jw_aloadR (pc := 0) 0 dX11_status_0 rfl ?_
  refine jw_getI (pc := 1) (j := 10) rfl dX11_status_1 jv_11 ji_11 (Or.inl jt_382) jg_0 jl_0 (by decide) (by decide) (jw_ho jg_0 (by decide)) (Or.inl rfl) rfl (fun h1 => ?_)
  exact jw_ret (pc := 4) (v := M 0 10) dX11_status_4 h1 rfl rfl
theorem kX11_status (G : jw_G) (M : jw_M) : jw_Ct G YX11_status (some .int) 1 0 0 true (fun v => (v, M)) yX11_status [jR G 0] M (fX11_status M) := jw_met (by decide) rfl rfl rfl (Nat.le_of_ble_eq_true rfl) (rX11_status G M)
