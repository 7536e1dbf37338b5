abbrev YX11_found : jw_Y := (RX11, cX11_found, 2, 2, "found")
theorem qX11_found : jw_cy YX11_found (some .long) yX11_found 1 := ⟨by decide, jt_418, jt_1, by decide, by decide +kernel⟩
theorem dX11_found_0 : decode cX11_found 0 = .ok (.aload_n 0, 1) := by decide +kernel
theorem dX11_found_1 : decode cX11_found 1 = .ok (.iload_n 1, 1) := by decide +kernel
theorem dX11_found_2 : decode cX11_found 2 = .ok (.putfield 68, 3) := by decide +kernel
theorem dX11_found_5 : decode cX11_found 5 = .ok (.ldc2_w 387, 3) := by decide +kernel
theorem dX11_found_8 : decode cX11_found 8 = .ok (.iload_n 1, 1) := by decide +kernel
theorem dX11_found_9 : decode cX11_found 9 = .ok (.i2l, 1) := by decide +kernel
theorem dX11_found_10 : decode cX11_found 10 = .ok (.lsub, 1) := by decide +kernel
theorem dX11_found_11 : decode cX11_found 11 = .ok (.lreturn, 1) := by decide +kernel
def fX11_found (a1 : Int) (M : jw_M) : Option (Int × jw_M) :=
  Option.bind (some (jw_up M 0 10 a1)) (fun M1 => some (jw_v ((-9000000000000000010) - a1), M1))
set_option maxRecDepth 100000 in
theorem rX11_found (G : jw_G) (a1 : Int) (ha1 : jw_r a1) (M : jw_M) : jw_Rn G YX11_found 1 0 0 true (fun q => q) 0 [(0, jR G 0), (1, jI a1)] [] M (fX11_found a1 M) := by
  unfold fX11_found
  refine jw_aloadR (pc := 0) 0 dX11_found_0 rfl ?_
  refine jw_iload_n (pc := 1) 1 dX11_found_1 rfl ?_
  refine jw_putI (pc := 2) (j := 10) tyX11 rfl dX11_found_2 jv_11 ji_11 tyX11_ok nmX11 (Or.inl jt_382) rfl jg_0 jl_0 (by decide) (by decide) (jw_ho jg_0 (by decide)) rfl rfl ha1 rfl ?_
  refine jw_letM (fun M1 => ?_)
  refine jw_ldc2 (pc := 5) (n := (-9000000000000000010)) dX11_found_5 jt_419 (by decide) ?_
  refine jw_iload_n (pc := 8) 1 dX11_found_8 rfl ?_
  refine jw_i2lr (pc := 9) dX11_found_9 ha1 ?_
  refine jw_lsub (pc := 10) dX11_found_10 ?_
  exact jw_ret (pc := 11) (v := jw_v ((-9000000000000000010) - a1)) dX11_found_11 (jw_vr _) rfl rfl
theorem kX11_found (G : jw_G) (a1 : Int) (ha1 : jw_r a1) (M : jw_M) : jw_Ct G YX11_found (some .long) 1 0 0 true (fun q => q) yX11_found [jR G 0, jI a1] M (fX11_found a1 M) := jw_met (by decide) rfl rfl rfl (Nat.le_of_ble_eq_true rfl) (rX11_found G a1 ha1 M)
abbrev YX11_foundNothing : jw_Y := (RX11, cX11_foundNothing, 3, 2, "foundNothing")
theorem qX11_foundNothing : jw_cy YX11_foundNothing (some .long) yX11_foundNothing 1 := ⟨by decide, jt_433, jt_1, by decide, by decide +kernel⟩
theorem dX11_foundNothing_0 : decode cX11_foundNothing 0 = .ok (.aload_n 0, 1) := by decide +kernel
theorem dX11_foundNothing_1 : decode cX11_foundNothing 1 = .ok (.iconst 0, 1) := by decide +kernel
theorem dX11_foundNothing_2 : decode cX11_foundNothing 2 = .ok (.putfield 68, 3) := by decide +kernel
theorem dX11_foundNothing_5 : decode cX11_foundNothing 5 = .ok (.lload_n 1, 1) := by decide +kernel
theorem dX11_foundNothing_6 : decode cX11_foundNothing 6 = .ok (.lreturn, 1) := by decide +kernel
def fX11_foundNothing (a1 : Int) (M : jw_M) : Option (Int × jw_M) :=
  Option.bind (some (jw_up M 0 10 0)) (fun M1 => some (a1, M1))
set_option maxRecDepth 100000 in
theorem rX11_foundNothing (G : jw_G) (a1 : Int) (ha1 : jw_q a1) (M : jw_M) : jw_Rn G YX11_foundNothing 1 0 0 true (fun q => q) 0 [(0, jR G 0), (1, jL a1)] [] M (fX11_foundNothing a1 M) := by
  unfold fX11_foundNothing
  refine jw_aloadR (pc := 0) 0 dX11_foundNothing_0 rfl ?_
  refine jw_iconst (pc := 1) dX11_foundNothing_1 ?_
  refine jw_putI (pc := 2) (j := 10) tyX11 rfl dX11_foundNothing_2 jv_11 ji_11 tyX11_ok nmX11 (Or.inl jt_382) rfl jg_0 jl_0 (by decide) (by decide) (jw_ho jg_0 (by decide)) rfl rfl (jw_rc _ rfl) rfl ?_
  refine jw_letM (fun M1 => ?_)
  refine jw_lload_n (pc := 5) 1 dX11_foundNothing_5 rfl ?_
  exact jw_ret (pc := 6) (v := a1) dX11_foundNothing_6 ha1 rfl rfl
theorem kX11_foundNothing (G : jw_G) (a1 : Int) (ha1 : jw_q a1) (M : jw_M) : jw_Ct G YX11_foundNothing (some .long) 1 0 0 true (fun q => q) yX11_foundNothing [jR G 0, jL a1] M (fX11_foundNothing a1 M) := jw_met (by decide) rfl rfl rfl (Nat.le_of_ble_eq_true rfl) (rX11_foundNothing G a1 ha1 M)
abbrev YX11_row : jw_Y := (RX11, cX11_row, 4, 2, "row")
theorem qX11_row : jw_cy YX11_row (some .long) yX11_row 3 := ⟨by decide, jt_409, jt_1, by decide, by decide +kernel⟩
theorem dX11_row_0 : decode cX11_row 0 = .ok (.aload_n 0, 1) := by decide +kernel
theorem dX11_row_1 : decode cX11_row 1 = .ok (.getfield 12, 3) := by decide +kernel
theorem dX11_row_4 : decode cX11_row 4 = .ok (.iload_n 1, 1) := by decide +kernel
theorem dX11_row_5 : decode cX11_row 5 = .ok (.invokevirtual 71, 3) := by decide +kernel
theorem dX11_row_8 : decode cX11_row 8 = .ok (.ifCond .eq 18, 3) := by decide +kernel
theorem dX11_row_11 : decode cX11_row 11 = .ok (.iload_n 2, 1) := by decide +kernel
theorem dX11_row_12 : decode cX11_row 12 = .ok (.ifCond .lt 14, 3) := by decide +kernel
theorem dX11_row_15 : decode cX11_row 15 = .ok (.iload_n 2, 1) := by decide +kernel
theorem dX11_row_16 : decode cX11_row 16 = .ok (.iconst 3, 1) := by decide +kernel
theorem dX11_row_17 : decode cX11_row 17 = .ok (.if_icmp .ge 9, 3) := by decide +kernel
theorem dX11_row_20 : decode cX11_row 20 = .ok (.iload_n 3, 1) := by decide +kernel
theorem dX11_row_21 : decode cX11_row 21 = .ok (.bipush 40, 2) := by decide +kernel
theorem dX11_row_23 : decode cX11_row 23 = .ok (.if_icmp .le 7, 3) := by decide +kernel
theorem dX11_row_26 : decode cX11_row 26 = .ok (.ldc2_w 75, 3) := by decide +kernel
theorem dX11_row_29 : decode cX11_row 29 = .ok (.lreturn, 1) := by decide +kernel
theorem dX11_row_30 : decode cX11_row 30 = .ok (.iload_n 3, 1) := by decide +kernel
theorem dX11_row_31 : decode cX11_row 31 = .ok (.ifCond .ge 9, 3) := by decide +kernel
theorem dX11_row_34 : decode cX11_row 34 = .ok (.aload_n 0, 1) := by decide +kernel
theorem dX11_row_35 : decode cX11_row 35 = .ok (.iconst 4, 1) := by decide +kernel
theorem dX11_row_36 : decode cX11_row 36 = .ok (.invokevirtual 77, 3) := by decide +kernel
theorem dX11_row_39 : decode cX11_row 39 = .ok (.lreturn, 1) := by decide +kernel
theorem dX11_row_40 : decode cX11_row 40 = .ok (.aload_n 0, 1) := by decide +kernel
theorem dX11_row_41 : decode cX11_row 41 = .ok (.getfield 12, 3) := by decide +kernel
theorem dX11_row_44 : decode cX11_row 44 = .ok (.iload_n 1, 1) := by decide +kernel
theorem dX11_row_45 : decode cX11_row 45 = .ok (.iload_n 2, 1) := by decide +kernel
theorem dX11_row_46 : decode cX11_row 46 = .ok (.iload_n 3, 1) := by decide +kernel
theorem dX11_row_47 : decode cX11_row 47 = .ok (.invokevirtual 81, 3) := by decide +kernel
theorem dX11_row_50 : decode cX11_row 50 = .ok (.aload_n 0, 1) := by decide +kernel
theorem dX11_row_51 : decode cX11_row 51 = .ok (.iload_n 3, 1) := by decide +kernel
theorem dX11_row_52 : decode cX11_row 52 = .ok (.i2l, 1) := by decide +kernel
theorem dX11_row_53 : decode cX11_row 53 = .ok (.invokevirtual 85, 3) := by decide +kernel
theorem dX11_row_56 : decode cX11_row 56 = .ok (.lreturn, 1) := by decide +kernel
def fX11_row (a1 : Int) (a2 : Int) (a3 : Int) (M : jw_M) : Option (Int × jw_M) :=
  Option.bind (fX6_isRow a1 M) (fun v1 => if v1 = 0 then (some ((-9000000000000000001), M)) else (if a2 < 0 then (some ((-9000000000000000001), M)) else (if a2 < 3 then (if (40 : Int) < a3 then (some ((-9000000000000000001), M)) else (if a3 < 0 then (jw_b2 (fX11_found 4 M) (fun v2 M3 => some (v2, M3))) else (Option.bind (fX6_lay a1 a2 a3 M) (fun M4 => jw_b2 (fX11_foundNothing a3 M4) (fun v5 M6 => some (v5, M6)))))) else (some ((-9000000000000000001), M)))))
set_option maxRecDepth 100000 in
theorem rX11_row (G : jw_G) (a1 : Int) (a2 : Int) (a3 : Int) (ha1 : jw_r a1) (ha2 : jw_r a2) (ha3 : jw_r a3) (M : jw_M) : jw_Rn G YX11_row 4 0 0 true (fun q => q) 0 [(0, jR G 0), (1, jI a1), (2, jI a2), (3, jI a3)] [] M (fX11_row a1 a2 a3 M) := by
  unfold fX11_row
  refine jw_aloadR (pc := 0) 0 dX11_row_0 rfl ?_
  refine jw_getR (pc := 1) (j := 0) rfl dX11_row_1 jv_11 ji_11 (Or.inl jt_372) jg_0 jl_0 (by decide) (by decide) rfl jf_11_0 ?_
  refine jw_iload_n (pc := 4) 1 dX11_row_4 rfl ?_
  refine jw_callVz (pc := 5) (As := [jI a1]) (st := []) dX11_row_5 rfl (Nat.le_of_ble_eq_true rfl) qX6_isRow jt_410 jt_411 jt_412 rfl rfl (Nat.le_of_ble_eq_true rfl) jv_6 rfl jg_1 jl_1 (by decide) (jw_ho jg_1 (by decide)) (kX6_isRow G a1 ha1 M) (fun v1 hv1 => ?_)
  refine jw_if_eq (pc := 8) 26 dX11_row_8 (by decide) (jw_bz hv1) (fun _ => ?_) (fun _ => ?_)
  · refine jw_ldc2 (pc := 26) (n := (-9000000000000000001)) dX11_row_26 jt_414 (by decide) ?_
    exact jw_ret (pc := 29) (v := (-9000000000000000001)) dX11_row_29 (jw_qc _ rfl) rfl rfl
  · refine jw_iload_n (pc := 11) 2 dX11_row_11 rfl ?_
    refine jw_if_lt (pc := 12) 26 dX11_row_12 (by decide) ha2 (fun _ => ?_) (fun _ => ?_)
    · refine jw_ldc2 (pc := 26) (n := (-9000000000000000001)) dX11_row_26 jt_414 (by decide) ?_
      exact jw_ret (pc := 29) (v := (-9000000000000000001)) dX11_row_29 (jw_qc _ rfl) rfl rfl
    · refine jw_iload_n (pc := 15) 2 dX11_row_15 rfl ?_
      refine jw_iconst (pc := 16) dX11_row_16 ?_
      refine jw_ic_ge (pc := 17) 26 dX11_row_17 (by decide) ha2 (jw_rc _ rfl) (fun _ => ?_) (fun _ => ?_)
      · refine jw_iload_n (pc := 20) 3 dX11_row_20 rfl ?_
        refine jw_bipush (pc := 21) dX11_row_21 rfl ?_
        refine jw_ic_le (pc := 23) 30 dX11_row_23 (by decide) ha3 (jw_rc _ rfl) (fun _ => ?_) (fun _ => ?_)
        · refine jw_ldc2 (pc := 26) (n := (-9000000000000000001)) dX11_row_26 jt_414 (by decide) ?_
          exact jw_ret (pc := 29) (v := (-9000000000000000001)) dX11_row_29 (jw_qc _ rfl) rfl rfl
        · refine jw_iload_n (pc := 30) 3 dX11_row_30 rfl ?_
          refine jw_if_ge (pc := 31) 40 dX11_row_31 (by decide) ha3 (fun _ => ?_) (fun _ => ?_)
          · refine jw_aloadR (pc := 34) 0 dX11_row_34 rfl ?_
            refine jw_iconst (pc := 35) dX11_row_35 ?_
            refine jw_callVMl (pc := 36) (As := [jI 4]) (st := []) dX11_row_36 rfl (Nat.le_of_ble_eq_true rfl) qX11_found jt_415 jt_417 jp_0 rfl rfl (Nat.le_of_ble_eq_true rfl) jv_11 rfl jg_0 jl_0 (by decide) (jw_ho jg_0 (by decide)) (kX11_found G 4 (jw_rc _ rfl) M) (fun v2 M3 hv2 => ?_)
            exact jw_ret (pc := 39) (v := v2) dX11_row_39 hv2 rfl rfl
          · refine jw_aloadR (pc := 40) 0 dX11_row_40 rfl ?_
            refine jw_getR (pc := 41) (j := 0) rfl dX11_row_41 jv_11 ji_11 (Or.inl jt_372) jg_0 jl_0 (by decide) (by decide) rfl jf_11_0 ?_
            refine jw_iload_n (pc := 44) 1 dX11_row_44 rfl ?_
            refine jw_iload_n (pc := 45) 2 dX11_row_45 rfl ?_
            refine jw_iload_n (pc := 46) 3 dX11_row_46 rfl ?_
            refine jw_callVM (pc := 47) (As := [jI a1, jI a2, jI a3]) (st := []) dX11_row_47 rfl (Nat.le_of_ble_eq_true rfl) qX6_lay jt_420 jt_421 jt_422 rfl rfl (Nat.le_of_ble_eq_true rfl) jv_6 rfl jg_1 jl_1 (by decide) (jw_ho jg_1 (by decide)) (kX6_lay G a1 a2 a3 ha1 ha2 ha3 M) (fun M4 => ?_)
            refine jw_aloadR (pc := 50) 0 dX11_row_50 rfl ?_
            refine jw_iload_n (pc := 51) 3 dX11_row_51 rfl ?_
            refine jw_i2lr (pc := 52) dX11_row_52 ha3 ?_
            refine jw_callVMl (pc := 53) (As := [jL a3]) (st := []) dX11_row_53 rfl (Nat.le_of_ble_eq_true rfl) qX11_foundNothing jt_430 jt_432 jp_1 rfl rfl (Nat.le_of_ble_eq_true rfl) jv_11 rfl jg_0 jl_0 (by decide) (jw_ho jg_0 (by decide)) (kX11_foundNothing G a3 (jw_rq ha3) M4) (fun v5 M6 hv5 => ?_)
            exact jw_ret (pc := 56) (v := v5) dX11_row_56 hv5 rfl rfl
      · refine jw_ldc2 (pc := 26) (n := (-9000000000000000001)) dX11_row_26 jt_414 (by decide) ?_
        exact jw_ret (pc := 29) (v := (-9000000000000000001)) dX11_row_29 (jw_qc _ rfl) rfl rfl
theorem kX11_row (G : jw_G) (a1 : Int) (a2 : Int) (a3 : Int) (ha1 : jw_r a1) (ha2 : jw_r a2) (ha3 : jw_r a3) (M : jw_M) : jw_Ct G YX11_row (some .long) 4 0 0 true (fun q => q) yX11_row [jR G 0, jI a1, jI a2, jI a3] M (fX11_row a1 a2 a3 M) := jw_met (by decide) rfl rfl rfl (Nat.le_of_ble_eq_true rfl) (rX11_row G a1 a2 a3 ha1 ha2 ha3 M)
abbrev YX11_set : jw_Y := (RX11, cX11_set, 4, 2, "set")
theorem qX11_set : jw_cy YX11_set (some .long) yX11_set 3 := ⟨by decide, jt_437, jt_1, by decide, by decide +kernel⟩
theorem dX11_set_0 : decode cX11_set 0 = .ok (.aload_n 0, 1) := by decide +kernel
theorem dX11_set_1 : decode cX11_set 1 = .ok (.getfield 12, 3) := by decide +kernel
theorem dX11_set_4 : decode cX11_set 4 = .ok (.iload_n 1, 1) := by decide +kernel
theorem dX11_set_5 : decode cX11_set 5 = .ok (.invokevirtual 71, 3) := by decide +kernel
theorem dX11_set_8 : decode cX11_set 8 = .ok (.ifCond .ne 7, 3) := by decide +kernel
theorem dX11_set_11 : decode cX11_set 11 = .ok (.ldc2_w 75, 3) := by decide +kernel
theorem dX11_set_14 : decode cX11_set 14 = .ok (.lreturn, 1) := by decide +kernel
theorem dX11_set_15 : decode cX11_set 15 = .ok (.aload_n 0, 1) := by decide +kernel
theorem dX11_set_16 : decode cX11_set 16 = .ok (.getfield 12, 3) := by decide +kernel
theorem dX11_set_19 : decode cX11_set 19 = .ok (.iload_n 1, 1) := by decide +kernel
theorem dX11_set_20 : decode cX11_set 20 = .ok (.invokevirtual 89, 3) := by decide +kernel
theorem dX11_set_23 : decode cX11_set 23 = .ok (.ifCond .eq 9, 3) := by decide +kernel
theorem dX11_set_26 : decode cX11_set 26 = .ok (.aload_n 0, 1) := by decide +kernel
theorem dX11_set_27 : decode cX11_set 27 = .ok (.iconst 1, 1) := by decide +kernel
theorem dX11_set_28 : decode cX11_set 28 = .ok (.invokevirtual 77, 3) := by decide +kernel
theorem dX11_set_31 : decode cX11_set 31 = .ok (.lreturn, 1) := by decide +kernel
theorem dX11_set_32 : decode cX11_set 32 = .ok (.aload_n 0, 1) := by decide +kernel
theorem dX11_set_33 : decode cX11_set 33 = .ok (.getfield 12, 3) := by decide +kernel
theorem dX11_set_36 : decode cX11_set 36 = .ok (.iload_n 1, 1) := by decide +kernel
theorem dX11_set_37 : decode cX11_set 37 = .ok (.iload_n 2, 1) := by decide +kernel
theorem dX11_set_38 : decode cX11_set 38 = .ok (.iconst 1, 1) := by decide +kernel
theorem dX11_set_39 : decode cX11_set 39 = .ok (.invokevirtual 92, 3) := by decide +kernel
theorem dX11_set_42 : decode cX11_set 42 = .ok (.ifCond .ne 9, 3) := by decide +kernel
theorem dX11_set_45 : decode cX11_set 45 = .ok (.aload_n 0, 1) := by decide +kernel
theorem dX11_set_46 : decode cX11_set 46 = .ok (.iconst 2, 1) := by decide +kernel
theorem dX11_set_47 : decode cX11_set 47 = .ok (.invokevirtual 77, 3) := by decide +kernel
theorem dX11_set_50 : decode cX11_set 50 = .ok (.lreturn, 1) := by decide +kernel
theorem dX11_set_51 : decode cX11_set 51 = .ok (.aload_n 0, 1) := by decide +kernel
theorem dX11_set_52 : decode cX11_set 52 = .ok (.aload_n 0, 1) := by decide +kernel
theorem dX11_set_53 : decode cX11_set 53 = .ok (.getfield 12, 3) := by decide +kernel
theorem dX11_set_56 : decode cX11_set 56 = .ok (.iload_n 1, 1) := by decide +kernel
theorem dX11_set_57 : decode cX11_set 57 = .ok (.iload_n 2, 1) := by decide +kernel
theorem dX11_set_58 : decode cX11_set 58 = .ok (.iload_n 3, 1) := by decide +kernel
theorem dX11_set_59 : decode cX11_set 59 = .ok (.invokevirtual 96, 3) := by decide +kernel
theorem dX11_set_62 : decode cX11_set 62 = .ok (.i2l, 1) := by decide +kernel
theorem dX11_set_63 : decode cX11_set 63 = .ok (.invokevirtual 85, 3) := by decide +kernel
theorem dX11_set_66 : decode cX11_set 66 = .ok (.lreturn, 1) := by decide +kernel
def fX11_set (a1 : Int) (a2 : Int) (a3 : Int) (M : jw_M) : Option (Int × jw_M) :=
  Option.bind (fX6_isRow a1 M) (fun v1 => if v1 = 0 then (some ((-9000000000000000001), M)) else (Option.bind (fX6_isMissing a1 M) (fun v2 => if v2 = 0 then (Option.bind (fX6_hasPlaces a1 a2 1 M) (fun v3 => if v3 = 0 then (jw_b2 (fX11_found 2 M) (fun v4 M5 => some (v4, M5))) else (jw_b2 (fX6_put a1 a2 a3 M) (fun v6 M7 => jw_b2 (fX11_foundNothing v6 M7) (fun v8 M9 => some (v8, M9)))))) else (jw_b2 (fX11_found 1 M) (fun v10 M11 => some (v10, M11))))))
set_option maxRecDepth 100000 in
theorem rX11_set (G : jw_G) (a1 : Int) (a2 : Int) (a3 : Int) (ha1 : jw_r a1) (ha2 : jw_r a2) (ha3 : jw_r a3) (M : jw_M) : jw_Rn G YX11_set 3 0 0 true (fun q => q) 0 [(0, jR G 0), (1, jI a1), (2, jI a2), (3, jI a3)] [] M (fX11_set a1 a2 a3 M) := by
  unfold fX11_set
  refine jw_aloadR (pc := 0) 0 dX11_set_0 rfl ?_
  refine jw_getR (pc := 1) (j := 0) rfl dX11_set_1 jv_11 ji_11 (Or.inl jt_372) jg_0 jl_0 (by decide) (by decide) rfl jf_11_0 ?_
  refine jw_iload_n (pc := 4) 1 dX11_set_4 rfl ?_
  refine jw_callVz (pc := 5) (As := [jI a1]) (st := []) dX11_set_5 rfl (Nat.le_of_ble_eq_true rfl) qX6_isRow jt_410 jt_411 jt_412 rfl rfl (Nat.le_of_ble_eq_true rfl) jv_6 rfl jg_1 jl_1 (by decide) (jw_ho jg_1 (by decide)) (kX6_isRow G a1 ha1 M) (fun v1 hv1 => ?_)
  refine jw_if_ne (pc := 8) 15 dX11_set_8 (by decide) (jw_bz hv1) (fun _ => ?_) (fun _ => ?_)
  · refine jw_ldc2 (pc := 11) (n := (-9000000000000000001)) dX11_set_11 jt_414 (by decide) ?_
    exact jw_ret (pc := 14) (v := (-9000000000000000001)) dX11_set_14 (jw_qc _ rfl) rfl rfl
  · refine jw_aloadR (pc := 15) 0 dX11_set_15 rfl ?_
    refine jw_getR (pc := 16) (j := 0) rfl dX11_set_16 jv_11 ji_11 (Or.inl jt_372) jg_0 jl_0 (by decide) (by decide) rfl jf_11_0 ?_
    refine jw_iload_n (pc := 19) 1 dX11_set_19 rfl ?_
    refine jw_callVz (pc := 20) (As := [jI a1]) (st := []) dX11_set_20 rfl (Nat.le_of_ble_eq_true rfl) qX6_isMissing jt_438 jt_439 jt_440 rfl rfl (Nat.le_of_ble_eq_true rfl) jv_6 rfl jg_1 jl_1 (by decide) (jw_ho jg_1 (by decide)) (kX6_isMissing G a1 ha1 M) (fun v2 hv2 => ?_)
    refine jw_if_eq (pc := 23) 32 dX11_set_23 (by decide) (jw_bz hv2) (fun _ => ?_) (fun _ => ?_)
    · refine jw_aloadR (pc := 32) 0 dX11_set_32 rfl ?_
      refine jw_getR (pc := 33) (j := 0) rfl dX11_set_33 jv_11 ji_11 (Or.inl jt_372) jg_0 jl_0 (by decide) (by decide) rfl jf_11_0 ?_
      refine jw_iload_n (pc := 36) 1 dX11_set_36 rfl ?_
      refine jw_iload_n (pc := 37) 2 dX11_set_37 rfl ?_
      refine jw_iconst (pc := 38) dX11_set_38 ?_
      refine jw_callVz (pc := 39) (As := [jI a1, jI a2, jI 1]) (st := []) dX11_set_39 rfl (Nat.le_of_ble_eq_true rfl) qX6_hasPlaces jt_442 jt_443 jt_444 rfl rfl (Nat.le_of_ble_eq_true rfl) jv_6 rfl jg_1 jl_1 (by decide) (jw_ho jg_1 (by decide)) (kX6_hasPlaces G a1 a2 1 ha1 ha2 (jw_rc _ rfl) M) (fun v3 hv3 => ?_)
      refine jw_if_ne (pc := 42) 51 dX11_set_42 (by decide) (jw_bz hv3) (fun _ => ?_) (fun _ => ?_)
      · refine jw_aloadR (pc := 45) 0 dX11_set_45 rfl ?_
        refine jw_iconst (pc := 46) dX11_set_46 ?_
        refine jw_callVMl (pc := 47) (As := [jI 2]) (st := []) dX11_set_47 rfl (Nat.le_of_ble_eq_true rfl) qX11_found jt_415 jt_417 jp_0 rfl rfl (Nat.le_of_ble_eq_true rfl) jv_11 rfl jg_0 jl_0 (by decide) (jw_ho jg_0 (by decide)) (kX11_found G 2 (jw_rc _ rfl) M) (fun v4 M5 hv4 => ?_)
        exact jw_ret (pc := 50) (v := v4) dX11_set_50 hv4 rfl rfl
      · refine jw_aloadR (pc := 51) 0 dX11_set_51 rfl ?_
        refine jw_aloadR (pc := 52) 0 dX11_set_52 rfl ?_
        refine jw_getR (pc := 53) (j := 0) rfl dX11_set_53 jv_11 ji_11 (Or.inl jt_372) jg_0 jl_0 (by decide) (by decide) rfl jf_11_0 ?_
        refine jw_iload_n (pc := 56) 1 dX11_set_56 rfl ?_
        refine jw_iload_n (pc := 57) 2 dX11_set_57 rfl ?_
        refine jw_iload_n (pc := 58) 3 dX11_set_58 rfl ?_
        refine jw_callVMi (pc := 59) (As := [jI a1, jI a2, jI a3]) (st := [jR G 0]) dX11_set_59 rfl (Nat.le_of_ble_eq_true rfl) qX6_put jt_446 jt_447 jt_448 rfl rfl (Nat.le_of_ble_eq_true rfl) jv_6 rfl jg_1 jl_1 (by decide) (jw_ho jg_1 (by decide)) (kX6_put G a1 a2 a3 ha1 ha2 ha3 M) (fun v6 M7 hv6 => ?_)
        refine jw_i2lr (pc := 62) dX11_set_62 hv6 ?_
        refine jw_callVMl (pc := 63) (As := [jL v6]) (st := []) dX11_set_63 rfl (Nat.le_of_ble_eq_true rfl) qX11_foundNothing jt_430 jt_432 jp_1 rfl rfl (Nat.le_of_ble_eq_true rfl) jv_11 rfl jg_0 jl_0 (by decide) (jw_ho jg_0 (by decide)) (kX11_foundNothing G v6 (jw_rq hv6) M7) (fun v8 M9 hv8 => ?_)
        exact jw_ret (pc := 66) (v := v8) dX11_set_66 hv8 rfl rfl
    · refine jw_aloadR (pc := 26) 0 dX11_set_26 rfl ?_
      refine jw_iconst (pc := 27) dX11_set_27 ?_
      refine jw_callVMl (pc := 28) (As := [jI 1]) (st := []) dX11_set_28 rfl (Nat.le_of_ble_eq_true rfl) qX11_found jt_415 jt_417 jp_0 rfl rfl (Nat.le_of_ble_eq_true rfl) jv_11 rfl jg_0 jl_0 (by decide) (jw_ho jg_0 (by decide)) (kX11_found G 1 (jw_rc _ rfl) M) (fun v10 M11 hv10 => ?_)
      exact jw_ret (pc := 31) (v := v10) dX11_set_31 hv10 rfl rfl
theorem kX11_set (G : jw_G) (a1 : Int) (a2 : Int) (a3 : Int) (ha1 : jw_r a1) (ha2 : jw_r a2) (ha3 : jw_r a3) (M : jw_M) : jw_Ct G YX11_set (some .long) 3 0 0 true (fun q => q) yX11_set [jR G 0, jI a1, jI a2, jI a3] M (fX11_set a1 a2 a3 M) := jw_met (by decide) rfl rfl rfl (Nat.le_of_ble_eq_true rfl) (rX11_set G a1 a2 a3 ha1 ha2 ha3 M)
abbrev YX11_copy : jw_Y := (RX11, cX11_copy, 6, 2, "copy")
theorem qX11_copy : jw_cy YX11_copy (some .long) yX11_copy 5 := ⟨by decide, jt_456, jt_1, by decide, by decide +kernel⟩
theorem dX11_copy_0 : decode cX11_copy 0 = .ok (.aload_n 0, 1) := by decide +kernel
theorem dX11_copy_1 : decode cX11_copy 1 = .ok (.getfield 12, 3) := by decide +kernel
theorem dX11_copy_4 : decode cX11_copy 4 = .ok (.iload_n 1, 1) := by decide +kernel
theorem dX11_copy_5 : decode cX11_copy 5 = .ok (.invokevirtual 71, 3) := by decide +kernel
theorem dX11_copy_8 : decode cX11_copy 8 = .ok (.ifCond .eq 14, 3) := by decide +kernel
theorem dX11_copy_11 : decode cX11_copy 11 = .ok (.aload_n 0, 1) := by decide +kernel
theorem dX11_copy_12 : decode cX11_copy 12 = .ok (.getfield 12, 3) := by decide +kernel
theorem dX11_copy_15 : decode cX11_copy 15 = .ok (.iload_n 3, 1) := by decide +kernel
theorem dX11_copy_16 : decode cX11_copy 16 = .ok (.invokevirtual 71, 3) := by decide +kernel
theorem dX11_copy_19 : decode cX11_copy 19 = .ok (.ifCond .ne 7, 3) := by decide +kernel
theorem dX11_copy_22 : decode cX11_copy 22 = .ok (.ldc2_w 75, 3) := by decide +kernel
theorem dX11_copy_25 : decode cX11_copy 25 = .ok (.lreturn, 1) := by decide +kernel
theorem dX11_copy_26 : decode cX11_copy 26 = .ok (.aload_n 0, 1) := by decide +kernel
theorem dX11_copy_27 : decode cX11_copy 27 = .ok (.getfield 12, 3) := by decide +kernel
theorem dX11_copy_30 : decode cX11_copy 30 = .ok (.iload_n 1, 1) := by decide +kernel
theorem dX11_copy_31 : decode cX11_copy 31 = .ok (.invokevirtual 89, 3) := by decide +kernel
theorem dX11_copy_34 : decode cX11_copy 34 = .ok (.ifCond .ne 14, 3) := by decide +kernel
theorem dX11_copy_37 : decode cX11_copy 37 = .ok (.aload_n 0, 1) := by decide +kernel
theorem dX11_copy_38 : decode cX11_copy 38 = .ok (.getfield 12, 3) := by decide +kernel
theorem dX11_copy_41 : decode cX11_copy 41 = .ok (.iload_n 3, 1) := by decide +kernel
theorem dX11_copy_42 : decode cX11_copy 42 = .ok (.invokevirtual 89, 3) := by decide +kernel
theorem dX11_copy_45 : decode cX11_copy 45 = .ok (.ifCond .eq 9, 3) := by decide +kernel
theorem dX11_copy_48 : decode cX11_copy 48 = .ok (.aload_n 0, 1) := by decide +kernel
theorem dX11_copy_49 : decode cX11_copy 49 = .ok (.iconst 1, 1) := by decide +kernel
theorem dX11_copy_50 : decode cX11_copy 50 = .ok (.invokevirtual 77, 3) := by decide +kernel
theorem dX11_copy_53 : decode cX11_copy 53 = .ok (.lreturn, 1) := by decide +kernel
theorem dX11_copy_54 : decode cX11_copy 54 = .ok (.aload_n 0, 1) := by decide +kernel
theorem dX11_copy_55 : decode cX11_copy 55 = .ok (.getfield 12, 3) := by decide +kernel
theorem dX11_copy_58 : decode cX11_copy 58 = .ok (.iload_n 1, 1) := by decide +kernel
theorem dX11_copy_59 : decode cX11_copy 59 = .ok (.iload_n 3, 1) := by decide +kernel
theorem dX11_copy_60 : decode cX11_copy 60 = .ok (.invokevirtual 100, 3) := by decide +kernel
theorem dX11_copy_63 : decode cX11_copy 63 = .ok (.ifCond .ne 9, 3) := by decide +kernel
theorem dX11_copy_66 : decode cX11_copy 66 = .ok (.aload_n 0, 1) := by decide +kernel
theorem dX11_copy_67 : decode cX11_copy 67 = .ok (.iconst 5, 1) := by decide +kernel
theorem dX11_copy_68 : decode cX11_copy 68 = .ok (.invokevirtual 77, 3) := by decide +kernel
theorem dX11_copy_71 : decode cX11_copy 71 = .ok (.lreturn, 1) := by decide +kernel
theorem dX11_copy_72 : decode cX11_copy 72 = .ok (.aload_n 0, 1) := by decide +kernel
theorem dX11_copy_73 : decode cX11_copy 73 = .ok (.getfield 12, 3) := by decide +kernel
theorem dX11_copy_76 : decode cX11_copy 76 = .ok (.iload_n 1, 1) := by decide +kernel
theorem dX11_copy_77 : decode cX11_copy 77 = .ok (.iload_n 2, 1) := by decide +kernel
theorem dX11_copy_78 : decode cX11_copy 78 = .ok (.iload 5, 2) := by decide +kernel
theorem dX11_copy_80 : decode cX11_copy 80 = .ok (.invokevirtual 92, 3) := by decide +kernel
theorem dX11_copy_83 : decode cX11_copy 83 = .ok (.ifCond .eq 18, 3) := by decide +kernel
theorem dX11_copy_86 : decode cX11_copy 86 = .ok (.aload_n 0, 1) := by decide +kernel
theorem dX11_copy_87 : decode cX11_copy 87 = .ok (.getfield 12, 3) := by decide +kernel
theorem dX11_copy_90 : decode cX11_copy 90 = .ok (.iload_n 3, 1) := by decide +kernel
theorem dX11_copy_91 : decode cX11_copy 91 = .ok (.iload 4, 2) := by decide +kernel
theorem dX11_copy_93 : decode cX11_copy 93 = .ok (.iload 5, 2) := by decide +kernel
theorem dX11_copy_95 : decode cX11_copy 95 = .ok (.invokevirtual 92, 3) := by decide +kernel
theorem dX11_copy_98 : decode cX11_copy 98 = .ok (.ifCond .ne 9, 3) := by decide +kernel
theorem dX11_copy_101 : decode cX11_copy 101 = .ok (.aload_n 0, 1) := by decide +kernel
theorem dX11_copy_102 : decode cX11_copy 102 = .ok (.iconst 2, 1) := by decide +kernel
theorem dX11_copy_103 : decode cX11_copy 103 = .ok (.invokevirtual 77, 3) := by decide +kernel
theorem dX11_copy_106 : decode cX11_copy 106 = .ok (.lreturn, 1) := by decide +kernel
theorem dX11_copy_107 : decode cX11_copy 107 = .ok (.aload_n 0, 1) := by decide +kernel
theorem dX11_copy_108 : decode cX11_copy 108 = .ok (.getfield 12, 3) := by decide +kernel
theorem dX11_copy_111 : decode cX11_copy 111 = .ok (.iload_n 1, 1) := by decide +kernel
theorem dX11_copy_112 : decode cX11_copy 112 = .ok (.iload_n 2, 1) := by decide +kernel
theorem dX11_copy_113 : decode cX11_copy 113 = .ok (.iload_n 3, 1) := by decide +kernel
theorem dX11_copy_114 : decode cX11_copy 114 = .ok (.iload 4, 2) := by decide +kernel
theorem dX11_copy_116 : decode cX11_copy 116 = .ok (.iload 5, 2) := by decide +kernel
theorem dX11_copy_118 : decode cX11_copy 118 = .ok (.invokevirtual 104, 3) := by decide +kernel
theorem dX11_copy_121 : decode cX11_copy 121 = .ok (.aload_n 0, 1) := by decide +kernel
theorem dX11_copy_122 : decode cX11_copy 122 = .ok (.iload 5, 2) := by decide +kernel
theorem dX11_copy_124 : decode cX11_copy 124 = .ok (.i2l, 1) := by decide +kernel
theorem dX11_copy_125 : decode cX11_copy 125 = .ok (.invokevirtual 85, 3) := by decide +kernel
theorem dX11_copy_128 : decode cX11_copy 128 = .ok (.lreturn, 1) := by decide +kernel
def fX11_copy_101 (M : jw_M) : Option (Int × jw_M) :=
  jw_b2 (fX11_found 2 M) (fun v9 M10 => some (v9, M10))
set_option maxRecDepth 100000 in
theorem pX11_copy_101 (G : jw_G) : ∀ (M : jw_M), jw_Rn G YX11_copy 3 0 0 true (fun q => q) 101 [(0, jR G 0)] [] M (fX11_copy_101 M) := by
  intro M
  unfold fX11_copy_101
  refine jw_aloadR (pc := 101) 0 dX11_copy_101 rfl ?_
  refine jw_iconst (pc := 102) dX11_copy_102 ?_
  refine jw_callVMl (pc := 103) (As := [jI 2]) (st := []) dX11_copy_103 rfl (Nat.le_of_ble_eq_true rfl) qX11_found jt_415 jt_417 jp_0 rfl rfl (Nat.le_of_ble_eq_true rfl) jv_11 rfl jg_0 jl_0 (by decide) (jw_ho jg_0 (by decide)) (kX11_found G 2 (jw_rc _ rfl) M) (fun v9 M10 hv9 => ?_)
  exact jw_ret (pc := 106) (v := v9) dX11_copy_106 hv9 rfl rfl
def fX11_copy_48 (M : jw_M) : Option (Int × jw_M) :=
  jw_b2 (fX11_found 1 M) (fun v15 M16 => some (v15, M16))
set_option maxRecDepth 100000 in
theorem pX11_copy_48 (G : jw_G) : ∀ (M : jw_M), jw_Rn G YX11_copy 3 0 0 true (fun q => q) 48 [(0, jR G 0)] [] M (fX11_copy_48 M) := by
  intro M
  unfold fX11_copy_48
  refine jw_aloadR (pc := 48) 0 dX11_copy_48 rfl ?_
  refine jw_iconst (pc := 49) dX11_copy_49 ?_
  refine jw_callVMl (pc := 50) (As := [jI 1]) (st := []) dX11_copy_50 rfl (Nat.le_of_ble_eq_true rfl) qX11_found jt_415 jt_417 jp_0 rfl rfl (Nat.le_of_ble_eq_true rfl) jv_11 rfl jg_0 jl_0 (by decide) (jw_ho jg_0 (by decide)) (kX11_found G 1 (jw_rc _ rfl) M) (fun v15 M16 hv15 => ?_)
  exact jw_ret (pc := 53) (v := v15) dX11_copy_53 hv15 rfl rfl
def fX11_copy (a1 : Int) (a2 : Int) (a3 : Int) (a4 : Int) (a5 : Int) (M : jw_M) : Option (Int × jw_M) :=
  Option.bind (fX6_isRow a1 M) (fun v1 => if v1 = 0 then (some ((-9000000000000000001), M)) else (Option.bind (fX6_isRow a3 M) (fun v2 => if v2 = 0 then (some ((-9000000000000000001), M)) else (Option.bind (fX6_isMissing a1 M) (fun v3 => if v3 = 0 then (Option.bind (fX6_isMissing a3 M) (fun v4 => if v4 = 0 then (Option.bind (fX6_areOfOneLane a1 a3 M) (fun v5 => if v5 = 0 then (jw_b2 (fX11_found 5 M) (fun v6 M7 => some (v6, M7))) else (Option.bind (fX6_hasPlaces a1 a2 a5 M) (fun v8 => if v8 = 0 then (fX11_copy_101 M) else (Option.bind (fX6_hasPlaces a3 a4 a5 M) (fun v11 => if v11 = 0 then (fX11_copy_101 M) else (Option.bind (fX6_move a1 a2 a3 a4 a5 M) (fun M12 => jw_b2 (fX11_foundNothing a5 M12) (fun v13 M14 => some (v13, M14)))))))))) else (fX11_copy_48 M))) else (fX11_copy_48 M))))))
set_option maxRecDepth 100000 in
theorem rX11_copy (G : jw_G) (a1 : Int) (a2 : Int) (a3 : Int) (a4 : Int) (a5 : Int) (ha1 : jw_r a1) (ha2 : jw_r a2) (ha3 : jw_r a3) (ha4 : jw_r a4) (ha5 : jw_r a5) (M : jw_M) : jw_Rn G YX11_copy 3 0 0 true (fun q => q) 0 [(0, jR G 0), (1, jI a1), (2, jI a2), (3, jI a3), (4, jI a4), (5, jI a5)] [] M (fX11_copy a1 a2 a3 a4 a5 M) := by
  unfold fX11_copy
  refine jw_aloadR (pc := 0) 0 dX11_copy_0 rfl ?_
  refine jw_getR (pc := 1) (j := 0) rfl dX11_copy_1 jv_11 ji_11 (Or.inl jt_372) jg_0 jl_0 (by decide) (by decide) rfl jf_11_0 ?_
  refine jw_iload_n (pc := 4) 1 dX11_copy_4 rfl ?_
  refine jw_callVz (pc := 5) (As := [jI a1]) (st := []) dX11_copy_5 rfl (Nat.le_of_ble_eq_true rfl) qX6_isRow jt_410 jt_411 jt_412 rfl rfl (Nat.le_of_ble_eq_true rfl) jv_6 rfl jg_1 jl_1 (by decide) (jw_ho jg_1 (by decide)) (kX6_isRow G a1 ha1 M) (fun v1 hv1 => ?_)
  refine jw_if_eq (pc := 8) 22 dX11_copy_8 (by decide) (jw_bz hv1) (fun _ => ?_) (fun _ => ?_)
  · refine jw_ldc2 (pc := 22) (n := (-9000000000000000001)) dX11_copy_22 jt_414 (by decide) ?_
    exact jw_ret (pc := 25) (v := (-9000000000000000001)) dX11_copy_25 (jw_qc _ rfl) rfl rfl
  · refine jw_aloadR (pc := 11) 0 dX11_copy_11 rfl ?_
    refine jw_getR (pc := 12) (j := 0) rfl dX11_copy_12 jv_11 ji_11 (Or.inl jt_372) jg_0 jl_0 (by decide) (by decide) rfl jf_11_0 ?_
    refine jw_iload_n (pc := 15) 3 dX11_copy_15 rfl ?_
    refine jw_callVz (pc := 16) (As := [jI a3]) (st := []) dX11_copy_16 rfl (Nat.le_of_ble_eq_true rfl) qX6_isRow jt_410 jt_411 jt_412 rfl rfl (Nat.le_of_ble_eq_true rfl) jv_6 rfl jg_1 jl_1 (by decide) (jw_ho jg_1 (by decide)) (kX6_isRow G a3 ha3 M) (fun v2 hv2 => ?_)
    refine jw_if_ne (pc := 19) 26 dX11_copy_19 (by decide) (jw_bz hv2) (fun _ => ?_) (fun _ => ?_)
    · refine jw_ldc2 (pc := 22) (n := (-9000000000000000001)) dX11_copy_22 jt_414 (by decide) ?_
      exact jw_ret (pc := 25) (v := (-9000000000000000001)) dX11_copy_25 (jw_qc _ rfl) rfl rfl
    · refine jw_aloadR (pc := 26) 0 dX11_copy_26 rfl ?_
      refine jw_getR (pc := 27) (j := 0) rfl dX11_copy_27 jv_11 ji_11 (Or.inl jt_372) jg_0 jl_0 (by decide) (by decide) rfl jf_11_0 ?_
      refine jw_iload_n (pc := 30) 1 dX11_copy_30 rfl ?_
      refine jw_callVz (pc := 31) (As := [jI a1]) (st := []) dX11_copy_31 rfl (Nat.le_of_ble_eq_true rfl) qX6_isMissing jt_438 jt_439 jt_440 rfl rfl (Nat.le_of_ble_eq_true rfl) jv_6 rfl jg_1 jl_1 (by decide) (jw_ho jg_1 (by decide)) (kX6_isMissing G a1 ha1 M) (fun v3 hv3 => ?_)
      refine jw_if_ne (pc := 34) 48 dX11_copy_34 (by decide) (jw_bz hv3) (fun _ => ?_) (fun _ => ?_)
      · refine jw_aloadR (pc := 37) 0 dX11_copy_37 rfl ?_
        refine jw_getR (pc := 38) (j := 0) rfl dX11_copy_38 jv_11 ji_11 (Or.inl jt_372) jg_0 jl_0 (by decide) (by decide) rfl jf_11_0 ?_
        refine jw_iload_n (pc := 41) 3 dX11_copy_41 rfl ?_
        refine jw_callVz (pc := 42) (As := [jI a3]) (st := []) dX11_copy_42 rfl (Nat.le_of_ble_eq_true rfl) qX6_isMissing jt_438 jt_439 jt_440 rfl rfl (Nat.le_of_ble_eq_true rfl) jv_6 rfl jg_1 jl_1 (by decide) (jw_ho jg_1 (by decide)) (kX6_isMissing G a3 ha3 M) (fun v4 hv4 => ?_)
        refine jw_if_eq (pc := 45) 54 dX11_copy_45 (by decide) (jw_bz hv4) (fun _ => ?_) (fun _ => ?_)
        · refine jw_aloadR (pc := 54) 0 dX11_copy_54 rfl ?_
          refine jw_getR (pc := 55) (j := 0) rfl dX11_copy_55 jv_11 ji_11 (Or.inl jt_372) jg_0 jl_0 (by decide) (by decide) rfl jf_11_0 ?_
          refine jw_iload_n (pc := 58) 1 dX11_copy_58 rfl ?_
          refine jw_iload_n (pc := 59) 3 dX11_copy_59 rfl ?_
          refine jw_callVz (pc := 60) (As := [jI a1, jI a3]) (st := []) dX11_copy_60 rfl (Nat.le_of_ble_eq_true rfl) qX6_areOfOneLane jt_457 jt_458 jt_459 rfl rfl (Nat.le_of_ble_eq_true rfl) jv_6 rfl jg_1 jl_1 (by decide) (jw_ho jg_1 (by decide)) (kX6_areOfOneLane G a1 a3 ha1 ha3 M) (fun v5 hv5 => ?_)
          refine jw_if_ne (pc := 63) 72 dX11_copy_63 (by decide) (jw_bz hv5) (fun _ => ?_) (fun _ => ?_)
          · refine jw_aloadR (pc := 66) 0 dX11_copy_66 rfl ?_
            refine jw_iconst (pc := 67) dX11_copy_67 ?_
            refine jw_callVMl (pc := 68) (As := [jI 5]) (st := []) dX11_copy_68 rfl (Nat.le_of_ble_eq_true rfl) qX11_found jt_415 jt_417 jp_0 rfl rfl (Nat.le_of_ble_eq_true rfl) jv_11 rfl jg_0 jl_0 (by decide) (jw_ho jg_0 (by decide)) (kX11_found G 5 (jw_rc _ rfl) M) (fun v6 M7 hv6 => ?_)
            exact jw_ret (pc := 71) (v := v6) dX11_copy_71 hv6 rfl rfl
          · refine jw_aloadR (pc := 72) 0 dX11_copy_72 rfl ?_
            refine jw_getR (pc := 73) (j := 0) rfl dX11_copy_73 jv_11 ji_11 (Or.inl jt_372) jg_0 jl_0 (by decide) (by decide) rfl jf_11_0 ?_
            refine jw_iload_n (pc := 76) 1 dX11_copy_76 rfl ?_
            refine jw_iload_n (pc := 77) 2 dX11_copy_77 rfl ?_
            refine jw_iload (pc := 78) 5 dX11_copy_78 rfl ?_
            refine jw_callVz (pc := 80) (As := [jI a1, jI a2, jI a5]) (st := []) dX11_copy_80 rfl (Nat.le_of_ble_eq_true rfl) qX6_hasPlaces jt_442 jt_443 jt_444 rfl rfl (Nat.le_of_ble_eq_true rfl) jv_6 rfl jg_1 jl_1 (by decide) (jw_ho jg_1 (by decide)) (kX6_hasPlaces G a1 a2 a5 ha1 ha2 ha5 M) (fun v8 hv8 => ?_)
            refine jw_if_eq (pc := 83) 101 dX11_copy_83 (by decide) (jw_bz hv8) (fun _ => ?_) (fun _ => ?_)
            · exact jw_few [0] rfl (pX11_copy_101 G M)
            · refine jw_aloadR (pc := 86) 0 dX11_copy_86 rfl ?_
              refine jw_getR (pc := 87) (j := 0) rfl dX11_copy_87 jv_11 ji_11 (Or.inl jt_372) jg_0 jl_0 (by decide) (by decide) rfl jf_11_0 ?_
              refine jw_iload_n (pc := 90) 3 dX11_copy_90 rfl ?_
              refine jw_iload (pc := 91) 4 dX11_copy_91 rfl ?_
              refine jw_iload (pc := 93) 5 dX11_copy_93 rfl ?_
              refine jw_callVz (pc := 95) (As := [jI a3, jI a4, jI a5]) (st := []) dX11_copy_95 rfl (Nat.le_of_ble_eq_true rfl) qX6_hasPlaces jt_442 jt_443 jt_444 rfl rfl (Nat.le_of_ble_eq_true rfl) jv_6 rfl jg_1 jl_1 (by decide) (jw_ho jg_1 (by decide)) (kX6_hasPlaces G a3 a4 a5 ha3 ha4 ha5 M) (fun v11 hv11 => ?_)
              refine jw_if_ne (pc := 98) 107 dX11_copy_98 (by decide) (jw_bz hv11) (fun _ => ?_) (fun _ => ?_)
              · exact jw_few [0] rfl (pX11_copy_101 G M)
              · refine jw_aloadR (pc := 107) 0 dX11_copy_107 rfl ?_
                refine jw_getR (pc := 108) (j := 0) rfl dX11_copy_108 jv_11 ji_11 (Or.inl jt_372) jg_0 jl_0 (by decide) (by decide) rfl jf_11_0 ?_
                refine jw_iload_n (pc := 111) 1 dX11_copy_111 rfl ?_
                refine jw_iload_n (pc := 112) 2 dX11_copy_112 rfl ?_
                refine jw_iload_n (pc := 113) 3 dX11_copy_113 rfl ?_
                refine jw_iload (pc := 114) 4 dX11_copy_114 rfl ?_
                refine jw_iload (pc := 116) 5 dX11_copy_116 rfl ?_
                refine jw_callVM (pc := 118) (As := [jI a1, jI a2, jI a3, jI a4, jI a5]) (st := []) dX11_copy_118 rfl (Nat.le_of_ble_eq_true rfl) qX6_move jt_461 jt_462 jt_463 rfl rfl (Nat.le_of_ble_eq_true rfl) jv_6 rfl jg_1 jl_1 (by decide) (jw_ho jg_1 (by decide)) (kX6_move G a1 a2 a3 a4 a5 ha1 ha2 ha3 ha4 ha5 M) (fun M12 => ?_)
                refine jw_aloadR (pc := 121) 0 dX11_copy_121 rfl ?_
                refine jw_iload (pc := 122) 5 dX11_copy_122 rfl ?_
                refine jw_i2lr (pc := 124) dX11_copy_124 ha5 ?_
                refine jw_callVMl (pc := 125) (As := [jL a5]) (st := []) dX11_copy_125 rfl (Nat.le_of_ble_eq_true rfl) qX11_foundNothing jt_430 jt_432 jp_1 rfl rfl (Nat.le_of_ble_eq_true rfl) jv_11 rfl jg_0 jl_0 (by decide) (jw_ho jg_0 (by decide)) (kX11_foundNothing G a5 (jw_rq ha5) M12) (fun v13 M14 hv13 => ?_)
                exact jw_ret (pc := 128) (v := v13) dX11_copy_128 hv13 rfl rfl
        · exact jw_few [0] rfl (pX11_copy_48 G M)
      · exact jw_few [0] rfl (pX11_copy_48 G M)
theorem kX11_copy (G : jw_G) (a1 : Int) (a2 : Int) (a3 : Int) (a4 : Int) (a5 : Int) (ha1 : jw_r a1) (ha2 : jw_r a2) (ha3 : jw_r a3) (ha4 : jw_r a4) (ha5 : jw_r a5) (M : jw_M) : jw_Ct G YX11_copy (some .long) 3 0 0 true (fun q => q) yX11_copy [jR G 0, jI a1, jI a2, jI a3, jI a4, jI a5] M (fX11_copy a1 a2 a3 a4 a5 M) := jw_met (by decide) rfl rfl rfl (Nat.le_of_ble_eq_true rfl) (rX11_copy G a1 a2 a3 a4 a5 ha1 ha2 ha3 ha4 ha5 M)
abbrev YX11_drop : jw_Y := (RX11, cX11_drop, 2, 2, "drop")
theorem qX11_drop : jw_cy YX11_drop (some .long) yX11_drop 1 := ⟨by decide, jt_471, jt_1, by decide, by decide +kernel⟩
theorem dX11_drop_0 : decode cX11_drop 0 = .ok (.aload_n 0, 1) := by decide +kernel
theorem dX11_drop_1 : decode cX11_drop 1 = .ok (.getfield 12, 3) := by decide +kernel
theorem dX11_drop_4 : decode cX11_drop 4 = .ok (.iload_n 1, 1) := by decide +kernel
theorem dX11_drop_5 : decode cX11_drop 5 = .ok (.invokevirtual 71, 3) := by decide +kernel
theorem dX11_drop_8 : decode cX11_drop 8 = .ok (.ifCond .ne 7, 3) := by decide +kernel
theorem dX11_drop_11 : decode cX11_drop 11 = .ok (.ldc2_w 75, 3) := by decide +kernel
theorem dX11_drop_14 : decode cX11_drop 14 = .ok (.lreturn, 1) := by decide +kernel
theorem dX11_drop_15 : decode cX11_drop 15 = .ok (.aload_n 0, 1) := by decide +kernel
theorem dX11_drop_16 : decode cX11_drop 16 = .ok (.getfield 12, 3) := by decide +kernel
theorem dX11_drop_19 : decode cX11_drop 19 = .ok (.iload_n 1, 1) := by decide +kernel
theorem dX11_drop_20 : decode cX11_drop 20 = .ok (.invokevirtual 89, 3) := by decide +kernel
theorem dX11_drop_23 : decode cX11_drop 23 = .ok (.ifCond .eq 9, 3) := by decide +kernel
theorem dX11_drop_26 : decode cX11_drop 26 = .ok (.aload_n 0, 1) := by decide +kernel
theorem dX11_drop_27 : decode cX11_drop 27 = .ok (.iconst 1, 1) := by decide +kernel
theorem dX11_drop_28 : decode cX11_drop 28 = .ok (.invokevirtual 77, 3) := by decide +kernel
theorem dX11_drop_31 : decode cX11_drop 31 = .ok (.lreturn, 1) := by decide +kernel
theorem dX11_drop_32 : decode cX11_drop 32 = .ok (.aload_n 0, 1) := by decide +kernel
theorem dX11_drop_33 : decode cX11_drop 33 = .ok (.aload_n 0, 1) := by decide +kernel
theorem dX11_drop_34 : decode cX11_drop 34 = .ok (.getfield 12, 3) := by decide +kernel
theorem dX11_drop_37 : decode cX11_drop 37 = .ok (.iload_n 1, 1) := by decide +kernel
theorem dX11_drop_38 : decode cX11_drop 38 = .ok (.invokevirtual 108, 3) := by decide +kernel
theorem dX11_drop_41 : decode cX11_drop 41 = .ok (.i2l, 1) := by decide +kernel
theorem dX11_drop_42 : decode cX11_drop 42 = .ok (.invokevirtual 85, 3) := by decide +kernel
theorem dX11_drop_45 : decode cX11_drop 45 = .ok (.lreturn, 1) := by decide +kernel
def fX11_drop (a1 : Int) (M : jw_M) : Option (Int × jw_M) :=
  Option.bind (fX6_isRow a1 M) (fun v1 => if v1 = 0 then (some ((-9000000000000000001), M)) else (Option.bind (fX6_isMissing a1 M) (fun v2 => if v2 = 0 then (jw_b2 (fX6_takeAway a1 M) (fun v3 M4 => jw_b2 (fX11_foundNothing v3 M4) (fun v5 M6 => some (v5, M6)))) else (jw_b2 (fX11_found 1 M) (fun v7 M8 => some (v7, M8))))))
set_option maxRecDepth 100000 in
theorem rX11_drop (G : jw_G) (a1 : Int) (ha1 : jw_r a1) (M : jw_M) : jw_Rn G YX11_drop 2 0 0 true (fun q => q) 0 [(0, jR G 0), (1, jI a1)] [] M (fX11_drop a1 M) := by
  unfold fX11_drop
  refine jw_aloadR (pc := 0) 0 dX11_drop_0 rfl ?_
  refine jw_getR (pc := 1) (j := 0) rfl dX11_drop_1 jv_11 ji_11 (Or.inl jt_372) jg_0 jl_0 (by decide) (by decide) rfl jf_11_0 ?_
  refine jw_iload_n (pc := 4) 1 dX11_drop_4 rfl ?_
  refine jw_callVz (pc := 5) (As := [jI a1]) (st := []) dX11_drop_5 rfl (Nat.le_of_ble_eq_true rfl) qX6_isRow jt_410 jt_411 jt_412 rfl rfl (Nat.le_of_ble_eq_true rfl) jv_6 rfl jg_1 jl_1 (by decide) (jw_ho jg_1 (by decide)) (kX6_isRow G a1 ha1 M) (fun v1 hv1 => ?_)
  refine jw_if_ne (pc := 8) 15 dX11_drop_8 (by decide) (jw_bz hv1) (fun _ => ?_) (fun _ => ?_)
  · refine jw_ldc2 (pc := 11) (n := (-9000000000000000001)) dX11_drop_11 jt_414 (by decide) ?_
    exact jw_ret (pc := 14) (v := (-9000000000000000001)) dX11_drop_14 (jw_qc _ rfl) rfl rfl
  · refine jw_aloadR (pc := 15) 0 dX11_drop_15 rfl ?_
    refine jw_getR (pc := 16) (j := 0) rfl dX11_drop_16 jv_11 ji_11 (Or.inl jt_372) jg_0 jl_0 (by decide) (by decide) rfl jf_11_0 ?_
    refine jw_iload_n (pc := 19) 1 dX11_drop_19 rfl ?_
    refine jw_callVz (pc := 20) (As := [jI a1]) (st := []) dX11_drop_20 rfl (Nat.le_of_ble_eq_true rfl) qX6_isMissing jt_438 jt_439 jt_440 rfl rfl (Nat.le_of_ble_eq_true rfl) jv_6 rfl jg_1 jl_1 (by decide) (jw_ho jg_1 (by decide)) (kX6_isMissing G a1 ha1 M) (fun v2 hv2 => ?_)
    refine jw_if_eq (pc := 23) 32 dX11_drop_23 (by decide) (jw_bz hv2) (fun _ => ?_) (fun _ => ?_)
    · refine jw_aloadR (pc := 32) 0 dX11_drop_32 rfl ?_
      refine jw_aloadR (pc := 33) 0 dX11_drop_33 rfl ?_
      refine jw_getR (pc := 34) (j := 0) rfl dX11_drop_34 jv_11 ji_11 (Or.inl jt_372) jg_0 jl_0 (by decide) (by decide) rfl jf_11_0 ?_
      refine jw_iload_n (pc := 37) 1 dX11_drop_37 rfl ?_
      refine jw_callVMi (pc := 38) (As := [jI a1]) (st := [jR G 0]) dX11_drop_38 rfl (Nat.le_of_ble_eq_true rfl) qX6_takeAway jt_472 jt_473 jt_474 rfl rfl (Nat.le_of_ble_eq_true rfl) jv_6 rfl jg_1 jl_1 (by decide) (jw_ho jg_1 (by decide)) (kX6_takeAway G a1 ha1 M) (fun v3 M4 hv3 => ?_)
      refine jw_i2lr (pc := 41) dX11_drop_41 hv3 ?_
      refine jw_callVMl (pc := 42) (As := [jL v3]) (st := []) dX11_drop_42 rfl (Nat.le_of_ble_eq_true rfl) qX11_foundNothing jt_430 jt_432 jp_1 rfl rfl (Nat.le_of_ble_eq_true rfl) jv_11 rfl jg_0 jl_0 (by decide) (jw_ho jg_0 (by decide)) (kX11_foundNothing G v3 (jw_rq hv3) M4) (fun v5 M6 hv5 => ?_)
      exact jw_ret (pc := 45) (v := v5) dX11_drop_45 hv5 rfl rfl
    · refine jw_aloadR (pc := 26) 0 dX11_drop_26 rfl ?_
      refine jw_iconst (pc := 27) dX11_drop_27 ?_
      refine jw_callVMl (pc := 28) (As := [jI 1]) (st := []) dX11_drop_28 rfl (Nat.le_of_ble_eq_true rfl) qX11_found jt_415 jt_417 jp_0 rfl rfl (Nat.le_of_ble_eq_true rfl) jv_11 rfl jg_0 jl_0 (by decide) (jw_ho jg_0 (by decide)) (kX11_found G 1 (jw_rc _ rfl) M) (fun v7 M8 hv7 => ?_)
      exact jw_ret (pc := 31) (v := v7) dX11_drop_31 hv7 rfl rfl
theorem kX11_drop (G : jw_G) (a1 : Int) (ha1 : jw_r a1) (M : jw_M) : jw_Ct G YX11_drop (some .long) 2 0 0 true (fun q => q) yX11_drop [jR G 0, jI a1] M (fX11_drop a1 M) := jw_met (by decide) rfl rfl rfl (Nat.le_of_ble_eq_true rfl) (rX11_drop G a1 ha1 M)
abbrev YX11_feed : jw_Y := (RX11, cX11_feed, 4, 2, "feed")
theorem qX11_feed : jw_cy YX11_feed (some .long) yX11_feed 2 := ⟨by decide, jt_479, jt_1, by decide, by decide +kernel⟩
theorem dX11_feed_0 : decode cX11_feed 0 = .ok (.iload_n 3, 1) := by decide +kernel
theorem dX11_feed_1 : decode cX11_feed 1 = .ok (.iconst 1, 1) := by decide +kernel
theorem dX11_feed_2 : decode cX11_feed 2 = .ok (.if_icmp .lt 9, 3) := by decide +kernel
theorem dX11_feed_5 : decode cX11_feed 5 = .ok (.iload_n 3, 1) := by decide +kernel
theorem dX11_feed_6 : decode cX11_feed 6 = .ok (.bipush 8, 2) := by decide +kernel
theorem dX11_feed_8 : decode cX11_feed 8 = .ok (.if_icmp .le 7, 3) := by decide +kernel
theorem dX11_feed_11 : decode cX11_feed 11 = .ok (.ldc2_w 75, 3) := by decide +kernel
theorem dX11_feed_14 : decode cX11_feed 14 = .ok (.lreturn, 1) := by decide +kernel
theorem dX11_feed_15 : decode cX11_feed 15 = .ok (.aload_n 0, 1) := by decide +kernel
theorem dX11_feed_16 : decode cX11_feed 16 = .ok (.getfield 19, 3) := by decide +kernel
theorem dX11_feed_19 : decode cX11_feed 19 = .ok (.iload_n 3, 1) := by decide +kernel
theorem dX11_feed_20 : decode cX11_feed 20 = .ok (.invokevirtual 112, 3) := by decide +kernel
theorem dX11_feed_23 : decode cX11_feed 23 = .ok (.ifCond .ne 7, 3) := by decide +kernel
theorem dX11_feed_26 : decode cX11_feed 26 = .ok (.ldc2_w 115, 3) := by decide +kernel
theorem dX11_feed_29 : decode cX11_feed 29 = .ok (.lreturn, 1) := by decide +kernel
theorem dX11_feed_30 : decode cX11_feed 30 = .ok (.aload_n 0, 1) := by decide +kernel
theorem dX11_feed_31 : decode cX11_feed 31 = .ok (.getfield 19, 3) := by decide +kernel
theorem dX11_feed_34 : decode cX11_feed 34 = .ok (.lload_n 1, 1) := by decide +kernel
theorem dX11_feed_35 : decode cX11_feed 35 = .ok (.iload_n 3, 1) := by decide +kernel
theorem dX11_feed_36 : decode cX11_feed 36 = .ok (.invokevirtual 117, 3) := by decide +kernel
theorem dX11_feed_39 : decode cX11_feed 39 = .ok (.i2l, 1) := by decide +kernel
theorem dX11_feed_40 : decode cX11_feed 40 = .ok (.lreturn, 1) := by decide +kernel
def fX11_feed (a1 : Int) (a2 : Int) (M : jw_M) : Option (Int × jw_M) :=
  if a2 < 1 then (some ((-9000000000000000001), M)) else (if (8 : Int) < a2 then (some ((-9000000000000000001), M)) else (Option.bind (fX4_hasRoomFor a2 M) (fun v1 => if v1 = 0 then (some ((-9000000000000000003), M)) else (jw_b2 (fX4_append a1 a2 M) (fun v2 M3 => some (v2, M3))))))
set_option maxRecDepth 100000 in
theorem rX11_feed (G : jw_G) (a1 : Int) (a2 : Int) (ha1 : jw_q a1) (ha2 : jw_r a2) (M : jw_M) : jw_Rn G YX11_feed 2 0 0 true (fun q => q) 0 [(0, jR G 0), (1, jL a1), (3, jI a2)] [] M (fX11_feed a1 a2 M) := by
  unfold fX11_feed
  refine jw_iload_n (pc := 0) 2 dX11_feed_0 rfl ?_
  refine jw_iconst (pc := 1) dX11_feed_1 ?_
  refine jw_ic_lt (pc := 2) 11 dX11_feed_2 (by decide) ha2 (jw_rc _ rfl) (fun _ => ?_) (fun _ => ?_)
  · refine jw_ldc2 (pc := 11) (n := (-9000000000000000001)) dX11_feed_11 jt_414 (by decide) ?_
    exact jw_ret (pc := 14) (v := (-9000000000000000001)) dX11_feed_14 (jw_qc _ rfl) rfl rfl
  · refine jw_iload_n (pc := 5) 2 dX11_feed_5 rfl ?_
    refine jw_bipush (pc := 6) dX11_feed_6 rfl ?_
    refine jw_ic_le (pc := 8) 15 dX11_feed_8 (by decide) ha2 (jw_rc _ rfl) (fun _ => ?_) (fun _ => ?_)
    · refine jw_ldc2 (pc := 11) (n := (-9000000000000000001)) dX11_feed_11 jt_414 (by decide) ?_
      exact jw_ret (pc := 14) (v := (-9000000000000000001)) dX11_feed_14 (jw_qc _ rfl) rfl rfl
    · refine jw_aloadR (pc := 15) 0 dX11_feed_15 rfl ?_
      refine jw_getR (pc := 16) (j := 1) rfl dX11_feed_16 jv_11 ji_11 (Or.inl jt_373) jg_0 jl_0 (by decide) (by decide) rfl jf_11_1 ?_
      refine jw_iload_n (pc := 19) 2 dX11_feed_19 rfl ?_
      refine jw_callVz (pc := 20) (As := [jI a2]) (st := []) dX11_feed_20 rfl (Nat.le_of_ble_eq_true rfl) qX4_hasRoomFor jt_480 jt_481 jt_482 rfl rfl (Nat.le_of_ble_eq_true rfl) jv_4 rfl jg_5 jl_5 (by decide) (jw_ho jg_5 (by decide)) (kX4_hasRoomFor G a2 ha2 M) (fun v1 hv1 => ?_)
      refine jw_if_ne (pc := 23) 30 dX11_feed_23 (by decide) (jw_bz hv1) (fun _ => ?_) (fun _ => ?_)
      · refine jw_ldc2 (pc := 26) (n := (-9000000000000000003)) dX11_feed_26 jt_484 (by decide) ?_
        exact jw_ret (pc := 29) (v := (-9000000000000000003)) dX11_feed_29 (jw_qc _ rfl) rfl rfl
      · refine jw_aloadR (pc := 30) 0 dX11_feed_30 rfl ?_
        refine jw_getR (pc := 31) (j := 1) rfl dX11_feed_31 jv_11 ji_11 (Or.inl jt_373) jg_0 jl_0 (by decide) (by decide) rfl jf_11_1 ?_
        refine jw_lload_n (pc := 34) 1 dX11_feed_34 rfl ?_
        refine jw_iload_n (pc := 35) 2 dX11_feed_35 rfl ?_
        refine jw_callVMi (pc := 36) (As := [jL a1, jI a2]) (st := []) dX11_feed_36 rfl (Nat.le_of_ble_eq_true rfl) qX4_append jt_485 jt_486 jt_487 rfl rfl (Nat.le_of_ble_eq_true rfl) jv_4 rfl jg_5 jl_5 (by decide) (jw_ho jg_5 (by decide)) (kX4_append G a1 a2 ha1 ha2 M) (fun v2 M3 hv2 => ?_)
        refine jw_i2lr (pc := 39) dX11_feed_39 hv2 ?_
        exact jw_ret (pc := 40) (v := v2) dX11_feed_40 (jw_rq hv2) rfl rfl
theorem kX11_feed (G : jw_G) (a1 : Int) (a2 : Int) (ha1 : jw_q a1) (ha2 : jw_r a2) (M : jw_M) : jw_Ct G YX11_feed (some .long) 2 0 0 true (fun q => q) yX11_feed [jR G 0, jL a1, jI a2] M (fX11_feed a1 a2 M) := jw_met (by decide) rfl rfl rfl (Nat.le_of_ble_eq_true rfl) (rX11_feed G a1 a2 ha1 ha2 M)
abbrev YX11_pavement : jw_Y := (RX11, cX11_pavement, 3, 2, "pavement")
theorem qX11_pavement : jw_cy YX11_pavement (some .long) yX11_pavement 0 := ⟨by decide, jt_492, jt_1, by decide, by decide +kernel⟩
theorem dX11_pavement_0 : decode cX11_pavement 0 = .ok (.aload_n 0, 1) := by decide +kernel
theorem dX11_pavement_1 : decode cX11_pavement 1 = .ok (.getfield 19, 3) := by decide +kernel
theorem dX11_pavement_4 : decode cX11_pavement 4 = .ok (.aload_n 0, 1) := by decide +kernel
theorem dX11_pavement_5 : decode cX11_pavement 5 = .ok (.getfield 30, 3) := by decide +kernel
theorem dX11_pavement_8 : decode cX11_pavement 8 = .ok (.invokevirtual 121, 3) := by decide +kernel
theorem dX11_pavement_11 : decode cX11_pavement 11 = .ok (.istore_n 1, 1) := by decide +kernel
theorem dX11_pavement_12 : decode cX11_pavement 12 = .ok (.aload_n 0, 1) := by decide +kernel
theorem dX11_pavement_13 : decode cX11_pavement 13 = .ok (.getfield 19, 3) := by decide +kernel
theorem dX11_pavement_16 : decode cX11_pavement 16 = .ok (.invokevirtual 125, 3) := by decide +kernel
theorem dX11_pavement_19 : decode cX11_pavement 19 = .ok (.istore_n 2, 1) := by decide +kernel
theorem dX11_pavement_20 : decode cX11_pavement 20 = .ok (.aload_n 0, 1) := by decide +kernel
theorem dX11_pavement_21 : decode cX11_pavement 21 = .ok (.getfield 19, 3) := by decide +kernel
theorem dX11_pavement_24 : decode cX11_pavement 24 = .ok (.invokevirtual 129, 3) := by decide +kernel
theorem dX11_pavement_27 : decode cX11_pavement 27 = .ok (.iload_n 1, 1) := by decide +kernel
theorem dX11_pavement_28 : decode cX11_pavement 28 = .ok (.ifCond .eq 15, 3) := by decide +kernel
theorem dX11_pavement_31 : decode cX11_pavement 31 = .ok (.aload_n 0, 1) := by decide +kernel
theorem dX11_pavement_32 : decode cX11_pavement 32 = .ok (.iload_n 1, 1) := by decide +kernel
theorem dX11_pavement_33 : decode cX11_pavement 33 = .ok (.putfield 64, 3) := by decide +kernel
theorem dX11_pavement_36 : decode cX11_pavement 36 = .ok (.ldc2_w 132, 3) := by decide +kernel
theorem dX11_pavement_39 : decode cX11_pavement 39 = .ok (.iload_n 2, 1) := by decide +kernel
theorem dX11_pavement_40 : decode cX11_pavement 40 = .ok (.i2l, 1) := by decide +kernel
theorem dX11_pavement_41 : decode cX11_pavement 41 = .ok (.lsub, 1) := by decide +kernel
theorem dX11_pavement_42 : decode cX11_pavement 42 = .ok (.lreturn, 1) := by decide +kernel
theorem dX11_pavement_43 : decode cX11_pavement 43 = .ok (.aload_n 0, 1) := by decide +kernel
theorem dX11_pavement_44 : decode cX11_pavement 44 = .ok (.getfield 26, 3) := by decide +kernel
theorem dX11_pavement_47 : decode cX11_pavement 47 = .ok (.aload_n 0, 1) := by decide +kernel
theorem dX11_pavement_48 : decode cX11_pavement 48 = .ok (.getfield 30, 3) := by decide +kernel
theorem dX11_pavement_51 : decode cX11_pavement 51 = .ok (.invokevirtual 134, 3) := by decide +kernel
theorem dX11_pavement_54 : decode cX11_pavement 54 = .ok (.aload_n 0, 1) := by decide +kernel
theorem dX11_pavement_55 : decode cX11_pavement 55 = .ok (.getfield 26, 3) := by decide +kernel
theorem dX11_pavement_58 : decode cX11_pavement 58 = .ok (.getfield 137, 3) := by decide +kernel
theorem dX11_pavement_61 : decode cX11_pavement 61 = .ok (.getfield 141, 3) := by decide +kernel
theorem dX11_pavement_64 : decode cX11_pavement 64 = .ok (.i2l, 1) := by decide +kernel
theorem dX11_pavement_65 : decode cX11_pavement 65 = .ok (.lreturn, 1) := by decide +kernel
def fX11_pavement (M : jw_M) : Option (Int × jw_M) :=
  jw_b2 (fX4_readInto 36 M) (fun v1 M2 => Option.bind (some v1) (fun v3 => Option.bind (fX4_place  M2) (fun v4 => Option.bind (some v4) (fun v5 => Option.bind (fX4_empty  M2) (fun M6 => if v3 = 0 then (Option.bind (fX7_takeFrom 9 36 M6) (fun M7 => some (M7 (9 + 1) 0, M7))) else (Option.bind (some (jw_up M6 0 9 v3)) (fun M9 => some (jw_v ((-9000000000000000100) - v5), M9))))))))
set_option maxRecDepth 100000 in
theorem rX11_pavement (G : jw_G) (M : jw_M) : jw_Rn G YX11_pavement 11 0 0 true (fun q => q) 0 [(0, jR G 0)] [] M (fX11_pavement M) := by
  unfold fX11_pavement
  refine jw_aloadR (pc := 0) 0 dX11_pavement_0 rfl ?_
  refine jw_getR (pc := 1) (j := 1) rfl dX11_pavement_1 jv_11 ji_11 (Or.inl jt_373) jg_0 jl_0 (by decide) (by decide) rfl jf_11_1 ?_
  refine jw_aloadR (pc := 4) 0 dX11_pavement_4 rfl ?_
  refine jw_getR (pc := 5) (j := 3) rfl dX11_pavement_5 jv_11 ji_11 (Or.inl jt_375) jg_0 jl_0 (by decide) (by decide) rfl jf_11_3 ?_
  refine jw_callVMi (pc := 8) (As := [jR G 36]) (st := []) dX11_pavement_8 rfl (Nat.le_of_ble_eq_true rfl) qX4_readInto jt_493 jt_494 jt_495 rfl rfl (Nat.le_of_ble_eq_true rfl) jv_4 rfl jg_5 jl_5 (by decide) (jw_ho jg_5 (by decide)) (kX4_readInto G 36 M) (fun v1 M2 hv1 => ?_)
  refine jw_istore_nL (pc := 11) (lv' := (fun y => [(1, y), (0, jR G 0)])) dX11_pavement_11 hv1 (by decide) (fun _ => rfl) (fun v3 hv3 => ?_)
  refine jw_aloadR (pc := 12) 1 dX11_pavement_12 rfl ?_
  refine jw_getR (pc := 13) (j := 1) rfl dX11_pavement_13 jv_11 ji_11 (Or.inl jt_373) jg_0 jl_0 (by decide) (by decide) rfl jf_11_1 ?_
  refine jw_callVi (pc := 16) (As := []) (st := []) dX11_pavement_16 rfl (Nat.le_of_ble_eq_true rfl) qX4_place jt_683 jt_684 jt_685 rfl rfl (Nat.le_of_ble_eq_true rfl) jv_4 rfl jg_5 jl_5 (by decide) (jw_ho jg_5 (by decide)) (kX4_place G  M2) (fun v4 hv4 => ?_)
  refine jw_istore_nL (pc := 19) (lv' := (fun y => [(2, y), (1, jI v3), (0, jR G 0)])) dX11_pavement_19 hv4 (by decide) (fun _ => rfl) (fun v5 hv5 => ?_)
  refine jw_aloadR (pc := 20) 2 dX11_pavement_20 rfl ?_
  refine jw_getR (pc := 21) (j := 1) rfl dX11_pavement_21 jv_11 ji_11 (Or.inl jt_373) jg_0 jl_0 (by decide) (by decide) rfl jf_11_1 ?_
  refine jw_callVM (pc := 24) (As := []) (st := []) dX11_pavement_24 rfl (Nat.le_of_ble_eq_true rfl) qX4_empty jt_687 jt_688 jt_689 rfl rfl (Nat.le_of_ble_eq_true rfl) jv_4 rfl jg_5 jl_5 (by decide) (jw_ho jg_5 (by decide)) (kX4_empty G  M2) (fun M6 => ?_)
  refine jw_iload_n (pc := 27) 1 dX11_pavement_27 rfl ?_
  refine jw_if_eq (pc := 28) 43 dX11_pavement_28 (by decide) hv3 (fun _ => ?_) (fun _ => ?_)
  · refine jw_aloadR (pc := 43) 2 dX11_pavement_43 rfl ?_
    refine jw_getR (pc := 44) (j := 2) rfl dX11_pavement_44 jv_11 ji_11 (Or.inl jt_374) jg_0 jl_0 (by decide) (by decide) rfl jf_11_2 ?_
    refine jw_aloadR (pc := 47) 2 dX11_pavement_47 rfl ?_
    refine jw_getR (pc := 48) (j := 3) rfl dX11_pavement_48 jv_11 ji_11 (Or.inl jt_375) jg_0 jl_0 (by decide) (by decide) rfl jf_11_3 ?_
    refine jw_callVM (pc := 51) (As := [jR G 36]) (st := []) dX11_pavement_51 rfl (Nat.le_of_ble_eq_true rfl) qX7_takeFrom jt_692 jt_693 jt_694 rfl rfl (Nat.le_of_ble_eq_true rfl) jv_7 rfl jg_9 jl_9 (by decide) (jw_ho jg_9 (by decide)) (kX7_takeFrom G 9 36 M6) (fun M7 => ?_)
    refine jw_aloadR (pc := 54) 2 dX11_pavement_54 rfl ?_
    refine jw_getR (pc := 55) (j := 2) rfl dX11_pavement_55 jv_11 ji_11 (Or.inl jt_374) jg_0 jl_0 (by decide) (by decide) rfl jf_11_2 ?_
    refine jw_getR (pc := 58) (j := 1) rfl dX11_pavement_58 jv_7 ji_7 (Or.inr ⟨_, jt_264⟩) jg_9 jl_9 (by decide) (by decide) rfl (jf_7_1 jg_9).1 ?_
    refine jw_getI (pc := 61) (j := 0) rfl dX11_pavement_61 jv_9 ji_9 (Or.inr ⟨_, jt_96⟩) (jf_7_1 jg_9).2.1 (jf_7_1 jg_9).2.2 (by decide) (by decide) (jw_ho (jf_7_1 jg_9).2.1 (by decide)) (Or.inl rfl) rfl (fun h8 => ?_)
    refine jw_i2lr (pc := 64) dX11_pavement_64 h8 ?_
    exact jw_ret (pc := 65) (v := M7 (9 + 1) 0) dX11_pavement_65 (jw_rq h8) rfl rfl
  · refine jw_aloadR (pc := 31) 2 dX11_pavement_31 rfl ?_
    refine jw_iload_n (pc := 32) 1 dX11_pavement_32 rfl ?_
    refine jw_putI (pc := 33) (j := 9) tyX11 rfl dX11_pavement_33 jv_11 ji_11 tyX11_ok nmX11 (Or.inl jt_381) rfl jg_0 jl_0 (by decide) (by decide) (jw_ho jg_0 (by decide)) rfl rfl hv3 rfl ?_
    refine jw_letM (fun M9 => ?_)
    refine jw_ldc2 (pc := 36) (n := (-9000000000000000100)) dX11_pavement_36 jt_691 (by decide) ?_
    refine jw_iload_n (pc := 39) 0 dX11_pavement_39 rfl ?_
    refine jw_i2lr (pc := 40) dX11_pavement_40 hv5 ?_
    refine jw_lsub (pc := 41) dX11_pavement_41 ?_
    exact jw_ret (pc := 42) (v := jw_v ((-9000000000000000100) - v5)) dX11_pavement_42 (jw_vr _) rfl rfl
theorem kX11_pavement (G : jw_G) (M : jw_M) : jw_Ct G YX11_pavement (some .long) 11 0 0 true (fun q => q) yX11_pavement [jR G 0] M (fX11_pavement M) := jw_met (by decide) rfl rfl rfl (Nat.le_of_ble_eq_true rfl) (rX11_pavement G M)
abbrev YX11_fault : jw_Y := (RX11, cX11_fault, 1, 1, "fault")
theorem qX11_fault : jw_cy YX11_fault (some .int) yX11_fault 0 := ⟨by decide, jt_724, jt_1, by decide, by decide +kernel⟩
theorem dX11_fault_0 : decode cX11_fault 0 = .ok (.aload_n 0, 1) := by decide +kernel
theorem dX11_fault_1 : decode cX11_fault 1 = .ok (.getfield 64, 3) := by decide +kernel
theorem dX11_fault_4 : decode cX11_fault 4 = .ok (.ireturn, 1) := by decide +kernel
def fX11_fault (M : jw_M) : Option Int :=
  some (M 0 9)
set_option maxRecDepth 100000 in
theorem rX11_fault (G : jw_G) (M : jw_M) : jw_Rn G YX11_fault 1 0 0 true (fun v => (v, M)) 0 [(0, jR G 0)] [] M (fX11_fault M) := by
  unfold fX11_fault
  refine jw_aloadR (pc := 0) 0 dX11_fault_0 rfl ?_
  refine jw_getI (pc := 1) (j := 9) rfl dX11_fault_1 jv_11 ji_11 (Or.inl jt_381) jg_0 jl_0 (by decide) (by decide) (jw_ho jg_0 (by decide)) (Or.inl rfl) rfl (fun h1 => ?_)
  exact jw_ret (pc := 4) (v := M 0 9) dX11_fault_4 h1 rfl rfl
theorem kX11_fault (G : jw_G) (M : jw_M) : jw_Ct G YX11_fault (some .int) 1 0 0 true (fun v => (v, M)) yX11_fault [jR G 0] M (fX11_fault M) := jw_met (by decide) rfl rfl rfl (Nat.le_of_ble_eq_true rfl) (rX11_fault G M)
abbrev YX11_isHalf : jw_Y := (RX11, cX11_isHalf, 1, 4, "isHalf")
theorem qX11_isHalf : jw_cy YX11_isHalf (some .boolean) yX11_isHalf 1 := ⟨by decide, jt_735, jt_1, by decide, by decide +kernel⟩
theorem dX11_isHalf_0 : decode cX11_isHalf 0 = .ok (.iload_n 0, 1) := by decide +kernel
theorem dX11_isHalf_1 : decode cX11_isHalf 1 = .ok (.ifCond .eq 8, 3) := by decide +kernel
theorem dX11_isHalf_4 : decode cX11_isHalf 4 = .ok (.iload_n 0, 1) := by decide +kernel
theorem dX11_isHalf_5 : decode cX11_isHalf 5 = .ok (.iconst 1, 1) := by decide +kernel
theorem dX11_isHalf_6 : decode cX11_isHalf 6 = .ok (.if_icmp .ne 7, 3) := by decide +kernel
theorem dX11_isHalf_9 : decode cX11_isHalf 9 = .ok (.iconst 1, 1) := by decide +kernel
theorem dX11_isHalf_10 : decode cX11_isHalf 10 = .ok (.goto 4, 3) := by decide +kernel
theorem dX11_isHalf_13 : decode cX11_isHalf 13 = .ok (.iconst 0, 1) := by decide +kernel
theorem dX11_isHalf_14 : decode cX11_isHalf 14 = .ok (.ireturn, 1) := by decide +kernel
def fX11_isHalf_9 (M : jw_M) : Option Int :=
  some 1
set_option maxRecDepth 100000 in
theorem pX11_isHalf_9 (G : jw_G) (M : jw_M) : jw_Rn G YX11_isHalf 1 0 0 true (fun v => (v, M)) 9 [] [] M (fX11_isHalf_9 M) := by
  unfold fX11_isHalf_9
  refine jw_iconst (pc := 9) dX11_isHalf_9 ?_
  refine jw_goto (pc := 10) 14 dX11_isHalf_10 (by decide) ?_
  exact jw_ret (pc := 14) (v := 1) dX11_isHalf_14 (Or.inr rfl) rfl rfl
def fX11_isHalf (a1 : Int) (M : jw_M) : Option Int :=
  if a1 = 0 then (fX11_isHalf_9 M) else (if a1 = 1 then (fX11_isHalf_9 M) else (some 0))
set_option maxRecDepth 100000 in
theorem rX11_isHalf (G : jw_G) (a1 : Int) (ha1 : jw_r a1) (M : jw_M) : jw_Rn G YX11_isHalf 1 0 0 true (fun v => (v, M)) 0 [(0, jI a1)] [] M (fX11_isHalf a1 M) := by
  unfold fX11_isHalf
  refine jw_iload_n (pc := 0) 0 dX11_isHalf_0 rfl ?_
  refine jw_if_eq (pc := 1) 9 dX11_isHalf_1 (by decide) ha1 (fun _ => ?_) (fun _ => ?_)
  · exact jw_few [] rfl (pX11_isHalf_9 G M)
  · refine jw_iload_n (pc := 4) 0 dX11_isHalf_4 rfl ?_
    refine jw_iconst (pc := 5) dX11_isHalf_5 ?_
    refine jw_ic_ne (pc := 6) 13 dX11_isHalf_6 (by decide) ha1 (jw_rc _ rfl) (fun _ => ?_) (fun _ => ?_)
    · exact jw_few [] rfl (pX11_isHalf_9 G M)
    · refine jw_iconst (pc := 13) dX11_isHalf_13 ?_
      exact jw_ret (pc := 14) (v := 0) dX11_isHalf_14 (Or.inl rfl) rfl rfl
theorem kX11_isHalf (G : jw_G) (a1 : Int) (ha1 : jw_r a1) (M : jw_M) : jw_Ct G YX11_isHalf (some .boolean) 1 0 0 true (fun v => (v, M)) yX11_isHalf [jI a1] M (fX11_isHalf a1 M) := jw_met (by decide) rfl rfl rfl (Nat.le_of_ble_eq_true rfl) (rX11_isHalf G a1 ha1 M)
abbrev YX11_orNone : jw_Y := (RX11, cX11_orNone, 1, 2, "orNone")
theorem qX11_orNone : jw_cy YX11_orNone (some .long) yX11_orNone 1 := ⟨by decide, jt_746, jt_1, by decide, by decide +kernel⟩
theorem dX11_orNone_0 : decode cX11_orNone 0 = .ok (.iload_n 0, 1) := by decide +kernel
theorem dX11_orNone_1 : decode cX11_orNone 1 = .ok (.ldc_w 264, 3) := by decide +kernel
theorem dX11_orNone_4 : decode cX11_orNone 4 = .ok (.if_icmp .ge 8, 3) := by decide +kernel
theorem dX11_orNone_7 : decode cX11_orNone 7 = .ok (.iload_n 0, 1) := by decide +kernel
theorem dX11_orNone_8 : decode cX11_orNone 8 = .ok (.i2l, 1) := by decide +kernel
theorem dX11_orNone_9 : decode cX11_orNone 9 = .ok (.goto 6, 3) := by decide +kernel
theorem dX11_orNone_12 : decode cX11_orNone 12 = .ok (.ldc2_w 326, 3) := by decide +kernel
theorem dX11_orNone_15 : decode cX11_orNone 15 = .ok (.lreturn, 1) := by decide +kernel
def fX11_orNone (a1 : Int) (M : jw_M) : Option Int :=
  if a1 < 1000000 then (some a1) else (some (-1000000))
set_option maxRecDepth 100000 in
theorem rX11_orNone (G : jw_G) (a1 : Int) (ha1 : jw_r a1) (M : jw_M) : jw_Rn G YX11_orNone 1 0 0 true (fun v => (v, M)) 0 [(0, jI a1)] [] M (fX11_orNone a1 M) := by
  unfold fX11_orNone
  refine jw_iload_n (pc := 0) 0 dX11_orNone_0 rfl ?_
  refine jw_ldcw (pc := 1) (n := 1000000) dX11_orNone_1 jt_747 (by decide) ?_
  refine jw_ic_ge (pc := 4) 12 dX11_orNone_4 (by decide) ha1 (jw_rc _ rfl) (fun _ => ?_) (fun _ => ?_)
  · refine jw_iload_n (pc := 7) 0 dX11_orNone_7 rfl ?_
    refine jw_i2lr (pc := 8) dX11_orNone_8 ha1 ?_
    refine jw_goto (pc := 9) 15 dX11_orNone_9 (by decide) ?_
    exact jw_ret (pc := 15) (v := a1) dX11_orNone_15 (jw_rq ha1) rfl rfl
  · refine jw_ldc2 (pc := 12) (n := (-1000000)) dX11_orNone_12 jt_748 (by decide) ?_
    exact jw_ret (pc := 15) (v := (-1000000)) dX11_orNone_15 (jw_qc _ rfl) rfl rfl
theorem kX11_orNone (G : jw_G) (a1 : Int) (ha1 : jw_r a1) (M : jw_M) : jw_Ct G YX11_orNone (some .long) 1 0 0 true (fun v => (v, M)) yX11_orNone [jI a1] M (fX11_orNone a1 M) := jw_met (by decide) rfl rfl rfl (Nat.le_of_ble_eq_true rfl) (rX11_orNone G a1 ha1 M)
abbrev YX11_walk : jw_Y := (RX11, cX11_walk, 4, 2, "walk")
theorem qX11_walk : jw_cy YX11_walk (some .long) yX11_walk 3 := ⟨by decide, jt_728, jt_1, by decide, by decide +kernel⟩
theorem dX11_walk_0 : decode cX11_walk 0 = .ok (.aload_n 0, 1) := by decide +kernel
theorem dX11_walk_1 : decode cX11_walk 1 = .ok (.getfield 26, 3) := by decide +kernel
theorem dX11_walk_4 : decode cX11_walk 4 = .ok (.getfield 137, 3) := by decide +kernel
theorem dX11_walk_7 : decode cX11_walk 7 = .ok (.iload_n 1, 1) := by decide +kernel
theorem dX11_walk_8 : decode cX11_walk 8 = .ok (.invokevirtual 146, 3) := by decide +kernel
theorem dX11_walk_11 : decode cX11_walk 11 = .ok (.ifCond .eq 24, 3) := by decide +kernel
theorem dX11_walk_14 : decode cX11_walk 14 = .ok (.aload_n 0, 1) := by decide +kernel
theorem dX11_walk_15 : decode cX11_walk 15 = .ok (.getfield 26, 3) := by decide +kernel
theorem dX11_walk_18 : decode cX11_walk 18 = .ok (.getfield 137, 3) := by decide +kernel
theorem dX11_walk_21 : decode cX11_walk 21 = .ok (.iload_n 2, 1) := by decide +kernel
theorem dX11_walk_22 : decode cX11_walk 22 = .ok (.invokevirtual 146, 3) := by decide +kernel
theorem dX11_walk_25 : decode cX11_walk 25 = .ok (.ifCond .eq 10, 3) := by decide +kernel
theorem dX11_walk_28 : decode cX11_walk 28 = .ok (.iload_n 3, 1) := by decide +kernel
theorem dX11_walk_29 : decode cX11_walk 29 = .ok (.invokestatic 149, 3) := by decide +kernel
theorem dX11_walk_32 : decode cX11_walk 32 = .ok (.ifCond .ne 7, 3) := by decide +kernel
theorem dX11_walk_35 : decode cX11_walk 35 = .ok (.ldc2_w 75, 3) := by decide +kernel
theorem dX11_walk_38 : decode cX11_walk 38 = .ok (.lreturn, 1) := by decide +kernel
theorem dX11_walk_39 : decode cX11_walk 39 = .ok (.iload_n 3, 1) := by decide +kernel
theorem dX11_walk_40 : decode cX11_walk 40 = .ok (.ifCond .ne 18, 3) := by decide +kernel
theorem dX11_walk_43 : decode cX11_walk 43 = .ok (.aload_n 0, 1) := by decide +kernel
theorem dX11_walk_44 : decode cX11_walk 44 = .ok (.getfield 26, 3) := by decide +kernel
theorem dX11_walk_47 : decode cX11_walk 47 = .ok (.getfield 137, 3) := by decide +kernel
theorem dX11_walk_50 : decode cX11_walk 50 = .ok (.iload_n 1, 1) := by decide +kernel
theorem dX11_walk_51 : decode cX11_walk 51 = .ok (.iload_n 2, 1) := by decide +kernel
theorem dX11_walk_52 : decode cX11_walk 52 = .ok (.invokevirtual 152, 3) := by decide +kernel
theorem dX11_walk_55 : decode cX11_walk 55 = .ok (.goto 15, 3) := by decide +kernel
theorem dX11_walk_58 : decode cX11_walk 58 = .ok (.aload_n 0, 1) := by decide +kernel
theorem dX11_walk_59 : decode cX11_walk 59 = .ok (.getfield 26, 3) := by decide +kernel
theorem dX11_walk_62 : decode cX11_walk 62 = .ok (.getfield 137, 3) := by decide +kernel
theorem dX11_walk_65 : decode cX11_walk 65 = .ok (.iload_n 1, 1) := by decide +kernel
theorem dX11_walk_66 : decode cX11_walk 66 = .ok (.iload_n 2, 1) := by decide +kernel
theorem dX11_walk_67 : decode cX11_walk 67 = .ok (.invokevirtual 156, 3) := by decide +kernel
theorem dX11_walk_70 : decode cX11_walk 70 = .ok (.invokestatic 159, 3) := by decide +kernel
theorem dX11_walk_73 : decode cX11_walk 73 = .ok (.lreturn, 1) := by decide +kernel
def fX11_walk_70 (M : jw_M) (xs0 : Int) : Option Int :=
  Option.bind (fX11_orNone xs0 M) (fun v5 => some v5)
set_option maxRecDepth 100000 in
theorem pX11_walk_70 (G : jw_G) (M : jw_M) : ∀ (xs0 : Int) (hxs0 : jw_r xs0), jw_Rn G YX11_walk 2 0 0 true (fun v => (v, M)) 70 [] [jI xs0] M (fX11_walk_70 M xs0) := by
  intro xs0 hxs0
  unfold fX11_walk_70
  refine jw_callSl (pc := 70) (As := [jI xs0]) (st := []) dX11_walk_70 rfl (Nat.le_of_ble_eq_true rfl) qX11_orNone jt_744 jt_745 rfl rfl (Nat.le_of_ble_eq_true rfl) (kX11_orNone G xs0 hxs0 M) (fun v5 hv5 => ?_)
  exact jw_ret (pc := 73) (v := v5) dX11_walk_73 hv5 rfl rfl
def fX11_walk (a1 : Int) (a2 : Int) (a3 : Int) (M : jw_M) : Option Int :=
  Option.bind (fX9_isCorner (9 + 1) a1 M) (fun v1 => if v1 = 0 then (some (-9000000000000000001)) else (Option.bind (fX9_isCorner (9 + 1) a2 M) (fun v2 => if v2 = 0 then (some (-9000000000000000001)) else (Option.bind (fX11_isHalf a3 M) (fun v3 => if v3 = 0 then (some (-9000000000000000001)) else (if a3 = 0 then (Option.bind (fX9_walkTo (9 + 1) a1 a2 M) (fun v4 => fX11_walk_70 M v4)) else (Option.bind (fX9_hearingTo (9 + 1) a1 a2 M) (fun v6 => fX11_walk_70 M v6))))))))
set_option maxRecDepth 100000 in
theorem rX11_walk (G : jw_G) (a1 : Int) (a2 : Int) (a3 : Int) (ha1 : jw_r a1) (ha2 : jw_r a2) (ha3 : jw_r a3) (M : jw_M) : jw_Rn G YX11_walk 2 0 0 true (fun v => (v, M)) 0 [(0, jR G 0), (1, jI a1), (2, jI a2), (3, jI a3)] [] M (fX11_walk a1 a2 a3 M) := by
  unfold fX11_walk
  refine jw_aloadR (pc := 0) 0 dX11_walk_0 rfl ?_
  refine jw_getR (pc := 1) (j := 2) rfl dX11_walk_1 jv_11 ji_11 (Or.inl jt_374) jg_0 jl_0 (by decide) (by decide) rfl jf_11_2 ?_
  refine jw_getR (pc := 4) (j := 1) rfl dX11_walk_4 jv_7 ji_7 (Or.inr ⟨_, jt_264⟩) jg_9 jl_9 (by decide) (by decide) rfl (jf_7_1 jg_9).1 ?_
  refine jw_iload_n (pc := 7) 1 dX11_walk_7 rfl ?_
  refine jw_callVz (pc := 8) (As := [jI a1]) (st := []) dX11_walk_8 rfl (Nat.le_of_ble_eq_true rfl) qX9_isCorner jt_729 jt_730 jt_731 rfl rfl (Nat.le_of_ble_eq_true rfl) jv_9 rfl (jf_7_1 jg_9).2.1 (jf_7_1 jg_9).2.2 (by decide) (jw_ho (jf_7_1 jg_9).2.1 (by decide)) (kX9_isCorner G (9 + 1) a1 ha1 M) (fun v1 hv1 => ?_)
  refine jw_if_eq (pc := 11) 35 dX11_walk_11 (by decide) (jw_bz hv1) (fun _ => ?_) (fun _ => ?_)
  · refine jw_ldc2 (pc := 35) (n := (-9000000000000000001)) dX11_walk_35 jt_414 (by decide) ?_
    exact jw_ret (pc := 38) (v := (-9000000000000000001)) dX11_walk_38 (jw_qc _ rfl) rfl rfl
  · refine jw_aloadR (pc := 14) 0 dX11_walk_14 rfl ?_
    refine jw_getR (pc := 15) (j := 2) rfl dX11_walk_15 jv_11 ji_11 (Or.inl jt_374) jg_0 jl_0 (by decide) (by decide) rfl jf_11_2 ?_
    refine jw_getR (pc := 18) (j := 1) rfl dX11_walk_18 jv_7 ji_7 (Or.inr ⟨_, jt_264⟩) jg_9 jl_9 (by decide) (by decide) rfl (jf_7_1 jg_9).1 ?_
    refine jw_iload_n (pc := 21) 2 dX11_walk_21 rfl ?_
    refine jw_callVz (pc := 22) (As := [jI a2]) (st := []) dX11_walk_22 rfl (Nat.le_of_ble_eq_true rfl) qX9_isCorner jt_729 jt_730 jt_731 rfl rfl (Nat.le_of_ble_eq_true rfl) jv_9 rfl (jf_7_1 jg_9).2.1 (jf_7_1 jg_9).2.2 (by decide) (jw_ho (jf_7_1 jg_9).2.1 (by decide)) (kX9_isCorner G (9 + 1) a2 ha2 M) (fun v2 hv2 => ?_)
    refine jw_if_eq (pc := 25) 35 dX11_walk_25 (by decide) (jw_bz hv2) (fun _ => ?_) (fun _ => ?_)
    · refine jw_ldc2 (pc := 35) (n := (-9000000000000000001)) dX11_walk_35 jt_414 (by decide) ?_
      exact jw_ret (pc := 38) (v := (-9000000000000000001)) dX11_walk_38 (jw_qc _ rfl) rfl rfl
    · refine jw_iload_n (pc := 28) 3 dX11_walk_28 rfl ?_
      refine jw_callSz (pc := 29) (As := [jI a3]) (st := []) dX11_walk_29 rfl (Nat.le_of_ble_eq_true rfl) qX11_isHalf jt_733 jt_734 rfl rfl (Nat.le_of_ble_eq_true rfl) (kX11_isHalf G a3 ha3 M) (fun v3 hv3 => ?_)
      refine jw_if_ne (pc := 32) 39 dX11_walk_32 (by decide) (jw_bz hv3) (fun _ => ?_) (fun _ => ?_)
      · refine jw_ldc2 (pc := 35) (n := (-9000000000000000001)) dX11_walk_35 jt_414 (by decide) ?_
        exact jw_ret (pc := 38) (v := (-9000000000000000001)) dX11_walk_38 (jw_qc _ rfl) rfl rfl
      · refine jw_iload_n (pc := 39) 3 dX11_walk_39 rfl ?_
        refine jw_if_ne (pc := 40) 58 dX11_walk_40 (by decide) ha3 (fun _ => ?_) (fun _ => ?_)
        · refine jw_aloadR (pc := 43) 0 dX11_walk_43 rfl ?_
          refine jw_getR (pc := 44) (j := 2) rfl dX11_walk_44 jv_11 ji_11 (Or.inl jt_374) jg_0 jl_0 (by decide) (by decide) rfl jf_11_2 ?_
          refine jw_getR (pc := 47) (j := 1) rfl dX11_walk_47 jv_7 ji_7 (Or.inr ⟨_, jt_264⟩) jg_9 jl_9 (by decide) (by decide) rfl (jf_7_1 jg_9).1 ?_
          refine jw_iload_n (pc := 50) 1 dX11_walk_50 rfl ?_
          refine jw_iload_n (pc := 51) 2 dX11_walk_51 rfl ?_
          refine jw_callVi (pc := 52) (As := [jI a1, jI a2]) (st := []) dX11_walk_52 rfl (Nat.le_of_ble_eq_true rfl) qX9_walkTo jt_736 jt_737 jt_738 rfl rfl (Nat.le_of_ble_eq_true rfl) jv_9 rfl (jf_7_1 jg_9).2.1 (jf_7_1 jg_9).2.2 (by decide) (jw_ho (jf_7_1 jg_9).2.1 (by decide)) (kX9_walkTo G (9 + 1) a1 a2 ha1 ha2 M) (fun v4 hv4 => ?_)
          refine jw_goto (pc := 55) 70 dX11_walk_55 (by decide) ?_
          exact jw_few [] rfl (pX11_walk_70 G M v4 hv4)
        · refine jw_aloadR (pc := 58) 0 dX11_walk_58 rfl ?_
          refine jw_getR (pc := 59) (j := 2) rfl dX11_walk_59 jv_11 ji_11 (Or.inl jt_374) jg_0 jl_0 (by decide) (by decide) rfl jf_11_2 ?_
          refine jw_getR (pc := 62) (j := 1) rfl dX11_walk_62 jv_7 ji_7 (Or.inr ⟨_, jt_264⟩) jg_9 jl_9 (by decide) (by decide) rfl (jf_7_1 jg_9).1 ?_
          refine jw_iload_n (pc := 65) 1 dX11_walk_65 rfl ?_
          refine jw_iload_n (pc := 66) 2 dX11_walk_66 rfl ?_
          refine jw_callVi (pc := 67) (As := [jI a1, jI a2]) (st := []) dX11_walk_67 rfl (Nat.le_of_ble_eq_true rfl) qX9_hearingTo jt_740 jt_741 jt_742 rfl rfl (Nat.le_of_ble_eq_true rfl) jv_9 rfl (jf_7_1 jg_9).2.1 (jf_7_1 jg_9).2.2 (by decide) (jw_ho (jf_7_1 jg_9).2.1 (by decide)) (kX9_hearingTo G (9 + 1) a1 a2 ha1 ha2 M) (fun v6 hv6 => ?_)
          exact jw_few [] rfl (pX11_walk_70 G M v6 hv6)
theorem kX11_walk (G : jw_G) (a1 : Int) (a2 : Int) (a3 : Int) (ha1 : jw_r a1) (ha2 : jw_r a2) (ha3 : jw_r a3) (M : jw_M) : jw_Ct G YX11_walk (some .long) 2 0 0 true (fun v => (v, M)) yX11_walk [jR G 0, jI a1, jI a2, jI a3] M (fX11_walk a1 a2 a3 M) := jw_met (by decide) rfl rfl rfl (Nat.le_of_ble_eq_true rfl) (rX11_walk G a1 a2 a3 ha1 ha2 ha3 M)
abbrev YX11_goes : jw_Y := (RX11, cX11_goes, 4, 2, "goes")
theorem qX11_goes : jw_cy YX11_goes (some .long) yX11_goes 2 := ⟨by decide, jt_752, jt_1, by decide, by decide +kernel⟩
theorem dX11_goes_0 : decode cX11_goes 0 = .ok (.aload_n 0, 1) := by decide +kernel
theorem dX11_goes_1 : decode cX11_goes 1 = .ok (.getfield 26, 3) := by decide +kernel
theorem dX11_goes_4 : decode cX11_goes 4 = .ok (.getfield 162, 3) := by decide +kernel
theorem dX11_goes_7 : decode cX11_goes 7 = .ok (.iload_n 1, 1) := by decide +kernel
theorem dX11_goes_8 : decode cX11_goes 8 = .ok (.invokevirtual 166, 3) := by decide +kernel
theorem dX11_goes_11 : decode cX11_goes 11 = .ok (.ifCond .eq 17, 3) := by decide +kernel
theorem dX11_goes_14 : decode cX11_goes 14 = .ok (.aload_n 0, 1) := by decide +kernel
theorem dX11_goes_15 : decode cX11_goes 15 = .ok (.getfield 26, 3) := by decide +kernel
theorem dX11_goes_18 : decode cX11_goes 18 = .ok (.getfield 137, 3) := by decide +kernel
theorem dX11_goes_21 : decode cX11_goes 21 = .ok (.iload_n 2, 1) := by decide +kernel
theorem dX11_goes_22 : decode cX11_goes 22 = .ok (.invokevirtual 146, 3) := by decide +kernel
theorem dX11_goes_25 : decode cX11_goes 25 = .ok (.ifCond .ne 7, 3) := by decide +kernel
theorem dX11_goes_28 : decode cX11_goes 28 = .ok (.ldc2_w 75, 3) := by decide +kernel
theorem dX11_goes_31 : decode cX11_goes 31 = .ok (.lreturn, 1) := by decide +kernel
theorem dX11_goes_32 : decode cX11_goes 32 = .ok (.aload_n 0, 1) := by decide +kernel
theorem dX11_goes_33 : decode cX11_goes 33 = .ok (.getfield 26, 3) := by decide +kernel
theorem dX11_goes_36 : decode cX11_goes 36 = .ok (.getfield 162, 3) := by decide +kernel
theorem dX11_goes_39 : decode cX11_goes 39 = .ok (.getfield 171, 3) := by decide +kernel
theorem dX11_goes_42 : decode cX11_goes 42 = .ok (.iload_n 1, 1) := by decide +kernel
theorem dX11_goes_43 : decode cX11_goes 43 = .ok (.iaload, 1) := by decide +kernel
theorem dX11_goes_44 : decode cX11_goes 44 = .ok (.istore_n 3, 1) := by decide +kernel
theorem dX11_goes_45 : decode cX11_goes 45 = .ok (.aload_n 0, 1) := by decide +kernel
theorem dX11_goes_46 : decode cX11_goes 46 = .ok (.getfield 26, 3) := by decide +kernel
theorem dX11_goes_49 : decode cX11_goes 49 = .ok (.getfield 162, 3) := by decide +kernel
theorem dX11_goes_52 : decode cX11_goes 52 = .ok (.getfield 171, 3) := by decide +kernel
theorem dX11_goes_55 : decode cX11_goes 55 = .ok (.iload_n 1, 1) := by decide +kernel
theorem dX11_goes_56 : decode cX11_goes 56 = .ok (.iload_n 2, 1) := by decide +kernel
theorem dX11_goes_57 : decode cX11_goes 57 = .ok (.iastore, 1) := by decide +kernel
theorem dX11_goes_58 : decode cX11_goes 58 = .ok (.iload_n 3, 1) := by decide +kernel
theorem dX11_goes_59 : decode cX11_goes 59 = .ok (.i2l, 1) := by decide +kernel
theorem dX11_goes_60 : decode cX11_goes 60 = .ok (.lreturn, 1) := by decide +kernel
def fX11_goes (a1 : Int) (a2 : Int) (M : jw_M) : Option (Int × jw_M) :=
  Option.bind (fX10_isSeller (9 + 8) a1 M) (fun v1 => if v1 = 0 then (some ((-9000000000000000001), M)) else (Option.bind (fX9_isCorner (9 + 1) a2 M) (fun v2 => if v2 = 0 then (some ((-9000000000000000001), M)) else (if 0 ≤ a1 ∧ a1 < 5 then Option.bind (some (M ((9 + 8) + 5) a1)) (fun v4 => if 0 ≤ a1 ∧ a1 < 5 then Option.bind (some (jw_up M ((9 + 8) + 5) a1 a2)) (fun M5 => some (v4, M5)) else none) else none))))
set_option maxRecDepth 100000 in
theorem rX11_goes (G : jw_G) (a1 : Int) (a2 : Int) (ha1 : jw_r a1) (ha2 : jw_r a2) (M : jw_M) : jw_Rn G YX11_goes 2 0 0 true (fun q => q) 0 [(0, jR G 0), (1, jI a1), (2, jI a2)] [] M (fX11_goes a1 a2 M) := by
  unfold fX11_goes
  refine jw_aloadR (pc := 0) 0 dX11_goes_0 rfl ?_
  refine jw_getR (pc := 1) (j := 2) rfl dX11_goes_1 jv_11 ji_11 (Or.inl jt_374) jg_0 jl_0 (by decide) (by decide) rfl jf_11_2 ?_
  refine jw_getR (pc := 4) (j := 2) rfl dX11_goes_4 jv_7 ji_7 (Or.inr ⟨_, jt_269⟩) jg_9 jl_9 (by decide) (by decide) rfl (jf_7_2 jg_9).1 ?_
  refine jw_iload_n (pc := 7) 1 dX11_goes_7 rfl ?_
  refine jw_callVz (pc := 8) (As := [jI a1]) (st := []) dX11_goes_8 rfl (Nat.le_of_ble_eq_true rfl) qX10_isSeller jt_753 jt_754 jt_755 rfl rfl (Nat.le_of_ble_eq_true rfl) jv_10 rfl (jf_7_2 jg_9).2.1 (jf_7_2 jg_9).2.2 (by decide) (jw_ho (jf_7_2 jg_9).2.1 (by decide)) (kX10_isSeller G (9 + 8) a1 ha1 M) (fun v1 hv1 => ?_)
  refine jw_if_eq (pc := 11) 28 dX11_goes_11 (by decide) (jw_bz hv1) (fun _ => ?_) (fun _ => ?_)
  · refine jw_ldc2 (pc := 28) (n := (-9000000000000000001)) dX11_goes_28 jt_414 (by decide) ?_
    exact jw_ret (pc := 31) (v := (-9000000000000000001)) dX11_goes_31 (jw_qc _ rfl) rfl rfl
  · refine jw_aloadR (pc := 14) 0 dX11_goes_14 rfl ?_
    refine jw_getR (pc := 15) (j := 2) rfl dX11_goes_15 jv_11 ji_11 (Or.inl jt_374) jg_0 jl_0 (by decide) (by decide) rfl jf_11_2 ?_
    refine jw_getR (pc := 18) (j := 1) rfl dX11_goes_18 jv_7 ji_7 (Or.inr ⟨_, jt_264⟩) jg_9 jl_9 (by decide) (by decide) rfl (jf_7_1 jg_9).1 ?_
    refine jw_iload_n (pc := 21) 2 dX11_goes_21 rfl ?_
    refine jw_callVz (pc := 22) (As := [jI a2]) (st := []) dX11_goes_22 rfl (Nat.le_of_ble_eq_true rfl) qX9_isCorner jt_729 jt_730 jt_731 rfl rfl (Nat.le_of_ble_eq_true rfl) jv_9 rfl (jf_7_1 jg_9).2.1 (jf_7_1 jg_9).2.2 (by decide) (jw_ho (jf_7_1 jg_9).2.1 (by decide)) (kX9_isCorner G (9 + 1) a2 ha2 M) (fun v2 hv2 => ?_)
    refine jw_if_ne (pc := 25) 32 dX11_goes_25 (by decide) (jw_bz hv2) (fun _ => ?_) (fun _ => ?_)
    · refine jw_ldc2 (pc := 28) (n := (-9000000000000000001)) dX11_goes_28 jt_414 (by decide) ?_
      exact jw_ret (pc := 31) (v := (-9000000000000000001)) dX11_goes_31 (jw_qc _ rfl) rfl rfl
    · refine jw_aloadR (pc := 32) 0 dX11_goes_32 rfl ?_
      refine jw_getR (pc := 33) (j := 2) rfl dX11_goes_33 jv_11 ji_11 (Or.inl jt_374) jg_0 jl_0 (by decide) (by decide) rfl jf_11_2 ?_
      refine jw_getR (pc := 36) (j := 2) rfl dX11_goes_36 jv_7 ji_7 (Or.inr ⟨_, jt_269⟩) jg_9 jl_9 (by decide) (by decide) rfl (jf_7_2 jg_9).1 ?_
      refine jw_getR (pc := 39) (j := 6) rfl dX11_goes_39 jv_10 ji_10 (Or.inr ⟨_, jt_164⟩) (jf_7_2 jg_9).2.1 (jf_7_2 jg_9).2.2 (by decide) (by decide) rfl (jf_10_6 (jf_7_2 jg_9).2.1).1 ?_
      refine jw_iload_n (pc := 42) 1 dX11_goes_42 rfl ?_
      refine jw_iald (pc := 43) dX11_goes_43 (jf_10_6 (jf_7_2 jg_9).2.1).2.1 (jf_10_6 (jf_7_2 jg_9).2.1).2.2 (jw_ho (jf_10_6 (jf_7_2 jg_9).2.1).2.1 (by decide)) ha1 rfl (fun h3 => ?_)
      refine jw_istore_nL (pc := 44) (lv' := (fun y => [(3, y), (0, jR G 0), (1, jI a1), (2, jI a2)])) dX11_goes_44 h3 (by decide) (fun _ => rfl) (fun v4 hv4 => ?_)
      refine jw_aloadR (pc := 45) 1 dX11_goes_45 rfl ?_
      refine jw_getR (pc := 46) (j := 2) rfl dX11_goes_46 jv_11 ji_11 (Or.inl jt_374) jg_0 jl_0 (by decide) (by decide) rfl jf_11_2 ?_
      refine jw_getR (pc := 49) (j := 2) rfl dX11_goes_49 jv_7 ji_7 (Or.inr ⟨_, jt_269⟩) jg_9 jl_9 (by decide) (by decide) rfl (jf_7_2 jg_9).1 ?_
      refine jw_getR (pc := 52) (j := 6) rfl dX11_goes_52 jv_10 ji_10 (Or.inr ⟨_, jt_164⟩) (jf_7_2 jg_9).2.1 (jf_7_2 jg_9).2.2 (by decide) (by decide) rfl (jf_10_6 (jf_7_2 jg_9).2.1).1 ?_
      refine jw_iload_n (pc := 55) 2 dX11_goes_55 rfl ?_
      refine jw_iload_n (pc := 56) 3 dX11_goes_56 rfl ?_
      refine jw_iast (pc := 57) dX11_goes_57 (jf_10_6 (jf_7_2 jg_9).2.1).2.1 (jf_10_6 (jf_7_2 jg_9).2.1).2.2 (jw_ho (jf_10_6 (jf_7_2 jg_9).2.1).2.1 (by decide)) ha1 ha2 rfl ?_
      refine jw_letM (fun M5 => ?_)
      refine jw_iload_n (pc := 58) 0 dX11_goes_58 rfl ?_
      refine jw_i2lr (pc := 59) dX11_goes_59 hv4 ?_
      exact jw_ret (pc := 60) (v := v4) dX11_goes_60 (jw_rq hv4) rfl rfl
theorem kX11_goes (G : jw_G) (a1 : Int) (a2 : Int) (ha1 : jw_r a1) (ha2 : jw_r a2) (M : jw_M) : jw_Ct G YX11_goes (some .long) 2 0 0 true (fun q => q) yX11_goes [jR G 0, jI a1, jI a2] M (fX11_goes a1 a2 M) := jw_met (by decide) rfl rfl rfl (Nat.le_of_ble_eq_true rfl) (rX11_goes G a1 a2 ha1 ha2 M)
abbrev YX11_seller : jw_Y := (RX11, cX11_seller, 3, 2, "seller")
theorem qX11_seller : jw_cy YX11_seller (some .long) yX11_seller 2 := ⟨by decide, jt_760, jt_1, by decide, by decide +kernel⟩
theorem dX11_seller_0 : decode cX11_seller 0 = .ok (.aload_n 0, 1) := by decide +kernel
theorem dX11_seller_1 : decode cX11_seller 1 = .ok (.getfield 26, 3) := by decide +kernel
theorem dX11_seller_4 : decode cX11_seller 4 = .ok (.getfield 162, 3) := by decide +kernel
theorem dX11_seller_7 : decode cX11_seller 7 = .ok (.iload_n 1, 1) := by decide +kernel
theorem dX11_seller_8 : decode cX11_seller 8 = .ok (.invokevirtual 166, 3) := by decide +kernel
theorem dX11_seller_11 : decode cX11_seller 11 = .ok (.ifCond .ne 7, 3) := by decide +kernel
theorem dX11_seller_14 : decode cX11_seller 14 = .ok (.ldc2_w 75, 3) := by decide +kernel
theorem dX11_seller_17 : decode cX11_seller 17 = .ok (.lreturn, 1) := by decide +kernel
theorem dX11_seller_18 : decode cX11_seller 18 = .ok (.iload_n 2, 1) := by decide +kernel
theorem dX11_seller_19 : decode cX11_seller 19 = .ok (.tableswitch 100 0 4 #[33, 47, 61, 74, 87], 33) := by decide +kernel
theorem dX11_seller_52 : decode cX11_seller 52 = .ok (.aload_n 0, 1) := by decide +kernel
theorem dX11_seller_53 : decode cX11_seller 53 = .ok (.getfield 26, 3) := by decide +kernel
theorem dX11_seller_56 : decode cX11_seller 56 = .ok (.getfield 162, 3) := by decide +kernel
theorem dX11_seller_59 : decode cX11_seller 59 = .ok (.getfield 175, 3) := by decide +kernel
theorem dX11_seller_62 : decode cX11_seller 62 = .ok (.iload_n 1, 1) := by decide +kernel
theorem dX11_seller_63 : decode cX11_seller 63 = .ok (.iaload, 1) := by decide +kernel
theorem dX11_seller_64 : decode cX11_seller 64 = .ok (.i2l, 1) := by decide +kernel
theorem dX11_seller_65 : decode cX11_seller 65 = .ok (.lreturn, 1) := by decide +kernel
theorem dX11_seller_66 : decode cX11_seller 66 = .ok (.aload_n 0, 1) := by decide +kernel
theorem dX11_seller_67 : decode cX11_seller 67 = .ok (.getfield 26, 3) := by decide +kernel
theorem dX11_seller_70 : decode cX11_seller 70 = .ok (.getfield 162, 3) := by decide +kernel
theorem dX11_seller_73 : decode cX11_seller 73 = .ok (.getfield 171, 3) := by decide +kernel
theorem dX11_seller_76 : decode cX11_seller 76 = .ok (.iload_n 1, 1) := by decide +kernel
theorem dX11_seller_77 : decode cX11_seller 77 = .ok (.iaload, 1) := by decide +kernel
theorem dX11_seller_78 : decode cX11_seller 78 = .ok (.i2l, 1) := by decide +kernel
theorem dX11_seller_79 : decode cX11_seller 79 = .ok (.lreturn, 1) := by decide +kernel
theorem dX11_seller_80 : decode cX11_seller 80 = .ok (.aload_n 0, 1) := by decide +kernel
theorem dX11_seller_81 : decode cX11_seller 81 = .ok (.getfield 26, 3) := by decide +kernel
theorem dX11_seller_84 : decode cX11_seller 84 = .ok (.getfield 162, 3) := by decide +kernel
theorem dX11_seller_87 : decode cX11_seller 87 = .ok (.iload_n 1, 1) := by decide +kernel
theorem dX11_seller_88 : decode cX11_seller 88 = .ok (.invokevirtual 178, 3) := by decide +kernel
theorem dX11_seller_91 : decode cX11_seller 91 = .ok (.i2l, 1) := by decide +kernel
theorem dX11_seller_92 : decode cX11_seller 92 = .ok (.lreturn, 1) := by decide +kernel
theorem dX11_seller_93 : decode cX11_seller 93 = .ok (.aload_n 0, 1) := by decide +kernel
theorem dX11_seller_94 : decode cX11_seller 94 = .ok (.getfield 26, 3) := by decide +kernel
theorem dX11_seller_97 : decode cX11_seller 97 = .ok (.getfield 162, 3) := by decide +kernel
theorem dX11_seller_100 : decode cX11_seller 100 = .ok (.iload_n 1, 1) := by decide +kernel
theorem dX11_seller_101 : decode cX11_seller 101 = .ok (.invokevirtual 181, 3) := by decide +kernel
theorem dX11_seller_104 : decode cX11_seller 104 = .ok (.i2l, 1) := by decide +kernel
theorem dX11_seller_105 : decode cX11_seller 105 = .ok (.lreturn, 1) := by decide +kernel
theorem dX11_seller_106 : decode cX11_seller 106 = .ok (.aload_n 0, 1) := by decide +kernel
theorem dX11_seller_107 : decode cX11_seller 107 = .ok (.getfield 26, 3) := by decide +kernel
theorem dX11_seller_110 : decode cX11_seller 110 = .ok (.getfield 162, 3) := by decide +kernel
theorem dX11_seller_113 : decode cX11_seller 113 = .ok (.iload_n 1, 1) := by decide +kernel
theorem dX11_seller_114 : decode cX11_seller 114 = .ok (.invokevirtual 184, 3) := by decide +kernel
theorem dX11_seller_117 : decode cX11_seller 117 = .ok (.i2l, 1) := by decide +kernel
theorem dX11_seller_118 : decode cX11_seller 118 = .ok (.lreturn, 1) := by decide +kernel
theorem dX11_seller_119 : decode cX11_seller 119 = .ok (.ldc2_w 75, 3) := by decide +kernel
theorem dX11_seller_122 : decode cX11_seller 122 = .ok (.lreturn, 1) := by decide +kernel
def fX11_seller (a1 : Int) (a2 : Int) (M : jw_M) : Option Int :=
  Option.bind (fX10_isSeller (9 + 8) a1 M) (fun v1 => if v1 = 0 then (some (-9000000000000000001)) else (if a2 = 0 then (if 0 ≤ a1 ∧ a1 < 5 then some (M ((9 + 8) + 4) a1) else none) else (if a2 = 1 then (if 0 ≤ a1 ∧ a1 < 5 then some (M ((9 + 8) + 5) a1) else none) else (if a2 = 2 then (Option.bind (fX10_foldOf (9 + 8) a1 M) (fun v6 => some v6)) else (if a2 = 3 then (Option.bind (fX10_worthOf (9 + 8) a1 M) (fun v8 => some v8)) else (if a2 = 4 then (Option.bind (fX10_fineOf (9 + 8) a1 M) (fun v10 => some v10)) else (some (-9000000000000000001))))))))
set_option maxRecDepth 100000 in
theorem rX11_seller (G : jw_G) (a1 : Int) (a2 : Int) (ha1 : jw_r a1) (ha2 : jw_r a2) (M : jw_M) : jw_Rn G YX11_seller 2 0 0 true (fun v => (v, M)) 0 [(0, jR G 0), (1, jI a1), (2, jI a2)] [] M (fX11_seller a1 a2 M) := by
  unfold fX11_seller
  refine jw_aloadR (pc := 0) 0 dX11_seller_0 rfl ?_
  refine jw_getR (pc := 1) (j := 2) rfl dX11_seller_1 jv_11 ji_11 (Or.inl jt_374) jg_0 jl_0 (by decide) (by decide) rfl jf_11_2 ?_
  refine jw_getR (pc := 4) (j := 2) rfl dX11_seller_4 jv_7 ji_7 (Or.inr ⟨_, jt_269⟩) jg_9 jl_9 (by decide) (by decide) rfl (jf_7_2 jg_9).1 ?_
  refine jw_iload_n (pc := 7) 1 dX11_seller_7 rfl ?_
  refine jw_callVz (pc := 8) (As := [jI a1]) (st := []) dX11_seller_8 rfl (Nat.le_of_ble_eq_true rfl) qX10_isSeller jt_753 jt_754 jt_755 rfl rfl (Nat.le_of_ble_eq_true rfl) jv_10 rfl (jf_7_2 jg_9).2.1 (jf_7_2 jg_9).2.2 (by decide) (jw_ho (jf_7_2 jg_9).2.1 (by decide)) (kX10_isSeller G (9 + 8) a1 ha1 M) (fun v1 hv1 => ?_)
  refine jw_if_ne (pc := 11) 18 dX11_seller_11 (by decide) (jw_bz hv1) (fun _ => ?_) (fun _ => ?_)
  · refine jw_ldc2 (pc := 14) (n := (-9000000000000000001)) dX11_seller_14 jt_414 (by decide) ?_
    exact jw_ret (pc := 17) (v := (-9000000000000000001)) dX11_seller_17 (jw_qc _ rfl) rfl rfl
  · refine jw_iload_n (pc := 18) 2 dX11_seller_18 rfl ?_
    refine jw_ite (fun c3 => ?_) (fun c3 => ?_)
    · refine jw_tsin (pc := 19) 52 0 dX11_seller_19 ha2 c3 rfl rfl (by decide) ?_
      refine jw_aloadR (pc := 52) 0 dX11_seller_52 rfl ?_
      refine jw_getR (pc := 53) (j := 2) rfl dX11_seller_53 jv_11 ji_11 (Or.inl jt_374) jg_0 jl_0 (by decide) (by decide) rfl jf_11_2 ?_
      refine jw_getR (pc := 56) (j := 2) rfl dX11_seller_56 jv_7 ji_7 (Or.inr ⟨_, jt_269⟩) jg_9 jl_9 (by decide) (by decide) rfl (jf_7_2 jg_9).1 ?_
      refine jw_getR (pc := 59) (j := 5) rfl dX11_seller_59 jv_10 ji_10 (Or.inr ⟨_, jt_158⟩) (jf_7_2 jg_9).2.1 (jf_7_2 jg_9).2.2 (by decide) (by decide) rfl (jf_10_5 (jf_7_2 jg_9).2.1).1 ?_
      refine jw_iload_n (pc := 62) 1 dX11_seller_62 rfl ?_
      refine jw_iald (pc := 63) dX11_seller_63 (jf_10_5 (jf_7_2 jg_9).2.1).2.1 (jf_10_5 (jf_7_2 jg_9).2.1).2.2 (jw_ho (jf_10_5 (jf_7_2 jg_9).2.1).2.1 (by decide)) ha1 rfl (fun h2 => ?_)
      refine jw_i2lr (pc := 64) dX11_seller_64 h2 ?_
      exact jw_ret (pc := 65) (v := M ((9 + 8) + 4) a1) dX11_seller_65 (jw_rq h2) rfl rfl
    · refine jw_ite (fun c5 => ?_) (fun c5 => ?_)
      · refine jw_tsin (pc := 19) 66 1 dX11_seller_19 ha2 c5 rfl rfl (by decide) ?_
        refine jw_aloadR (pc := 66) 0 dX11_seller_66 rfl ?_
        refine jw_getR (pc := 67) (j := 2) rfl dX11_seller_67 jv_11 ji_11 (Or.inl jt_374) jg_0 jl_0 (by decide) (by decide) rfl jf_11_2 ?_
        refine jw_getR (pc := 70) (j := 2) rfl dX11_seller_70 jv_7 ji_7 (Or.inr ⟨_, jt_269⟩) jg_9 jl_9 (by decide) (by decide) rfl (jf_7_2 jg_9).1 ?_
        refine jw_getR (pc := 73) (j := 6) rfl dX11_seller_73 jv_10 ji_10 (Or.inr ⟨_, jt_164⟩) (jf_7_2 jg_9).2.1 (jf_7_2 jg_9).2.2 (by decide) (by decide) rfl (jf_10_6 (jf_7_2 jg_9).2.1).1 ?_
        refine jw_iload_n (pc := 76) 1 dX11_seller_76 rfl ?_
        refine jw_iald (pc := 77) dX11_seller_77 (jf_10_6 (jf_7_2 jg_9).2.1).2.1 (jf_10_6 (jf_7_2 jg_9).2.1).2.2 (jw_ho (jf_10_6 (jf_7_2 jg_9).2.1).2.1 (by decide)) ha1 rfl (fun h4 => ?_)
        refine jw_i2lr (pc := 78) dX11_seller_78 h4 ?_
        exact jw_ret (pc := 79) (v := M ((9 + 8) + 5) a1) dX11_seller_79 (jw_rq h4) rfl rfl
      · refine jw_ite (fun c7 => ?_) (fun c7 => ?_)
        · refine jw_tsin (pc := 19) 80 2 dX11_seller_19 ha2 c7 rfl rfl (by decide) ?_
          refine jw_aloadR (pc := 80) 0 dX11_seller_80 rfl ?_
          refine jw_getR (pc := 81) (j := 2) rfl dX11_seller_81 jv_11 ji_11 (Or.inl jt_374) jg_0 jl_0 (by decide) (by decide) rfl jf_11_2 ?_
          refine jw_getR (pc := 84) (j := 2) rfl dX11_seller_84 jv_7 ji_7 (Or.inr ⟨_, jt_269⟩) jg_9 jl_9 (by decide) (by decide) rfl (jf_7_2 jg_9).1 ?_
          refine jw_iload_n (pc := 87) 1 dX11_seller_87 rfl ?_
          refine jw_callVi (pc := 88) (As := [jI a1]) (st := []) dX11_seller_88 rfl (Nat.le_of_ble_eq_true rfl) qX10_foldOf jt_761 jt_762 jt_763 rfl rfl (Nat.le_of_ble_eq_true rfl) jv_10 rfl (jf_7_2 jg_9).2.1 (jf_7_2 jg_9).2.2 (by decide) (jw_ho (jf_7_2 jg_9).2.1 (by decide)) (kX10_foldOf G (9 + 8) a1 ha1 M) (fun v6 hv6 => ?_)
          refine jw_i2lr (pc := 91) dX11_seller_91 hv6 ?_
          exact jw_ret (pc := 92) (v := v6) dX11_seller_92 (jw_rq hv6) rfl rfl
        · refine jw_ite (fun c9 => ?_) (fun c9 => ?_)
          · refine jw_tsin (pc := 19) 93 3 dX11_seller_19 ha2 c9 rfl rfl (by decide) ?_
            refine jw_aloadR (pc := 93) 0 dX11_seller_93 rfl ?_
            refine jw_getR (pc := 94) (j := 2) rfl dX11_seller_94 jv_11 ji_11 (Or.inl jt_374) jg_0 jl_0 (by decide) (by decide) rfl jf_11_2 ?_
            refine jw_getR (pc := 97) (j := 2) rfl dX11_seller_97 jv_7 ji_7 (Or.inr ⟨_, jt_269⟩) jg_9 jl_9 (by decide) (by decide) rfl (jf_7_2 jg_9).1 ?_
            refine jw_iload_n (pc := 100) 1 dX11_seller_100 rfl ?_
            refine jw_callVi (pc := 101) (As := [jI a1]) (st := []) dX11_seller_101 rfl (Nat.le_of_ble_eq_true rfl) qX10_worthOf jt_765 jt_766 jt_767 rfl rfl (Nat.le_of_ble_eq_true rfl) jv_10 rfl (jf_7_2 jg_9).2.1 (jf_7_2 jg_9).2.2 (by decide) (jw_ho (jf_7_2 jg_9).2.1 (by decide)) (kX10_worthOf G (9 + 8) a1 ha1 M) (fun v8 hv8 => ?_)
            refine jw_i2lr (pc := 104) dX11_seller_104 hv8 ?_
            exact jw_ret (pc := 105) (v := v8) dX11_seller_105 (jw_rq hv8) rfl rfl
          · refine jw_ite (fun c11 => ?_) (fun c11 => ?_)
            · refine jw_tsin (pc := 19) 106 4 dX11_seller_19 ha2 c11 rfl rfl (by decide) ?_
              refine jw_aloadR (pc := 106) 0 dX11_seller_106 rfl ?_
              refine jw_getR (pc := 107) (j := 2) rfl dX11_seller_107 jv_11 ji_11 (Or.inl jt_374) jg_0 jl_0 (by decide) (by decide) rfl jf_11_2 ?_
              refine jw_getR (pc := 110) (j := 2) rfl dX11_seller_110 jv_7 ji_7 (Or.inr ⟨_, jt_269⟩) jg_9 jl_9 (by decide) (by decide) rfl (jf_7_2 jg_9).1 ?_
              refine jw_iload_n (pc := 113) 1 dX11_seller_113 rfl ?_
              refine jw_callVi (pc := 114) (As := [jI a1]) (st := []) dX11_seller_114 rfl (Nat.le_of_ble_eq_true rfl) qX10_fineOf jt_769 jt_770 jt_771 rfl rfl (Nat.le_of_ble_eq_true rfl) jv_10 rfl (jf_7_2 jg_9).2.1 (jf_7_2 jg_9).2.2 (by decide) (jw_ho (jf_7_2 jg_9).2.1 (by decide)) (kX10_fineOf G (9 + 8) a1 ha1 M) (fun v10 hv10 => ?_)
              refine jw_i2lr (pc := 117) dX11_seller_117 hv10 ?_
              exact jw_ret (pc := 118) (v := v10) dX11_seller_118 (jw_rq hv10) rfl rfl
            · refine jw_tsout (pc := 19) 119 dX11_seller_19 ha2 (by omega) (by decide) ?_
              refine jw_ldc2 (pc := 119) (n := (-9000000000000000001)) dX11_seller_119 jt_414 (by decide) ?_
              exact jw_ret (pc := 122) (v := (-9000000000000000001)) dX11_seller_122 (jw_qc _ rfl) rfl rfl
theorem kX11_seller (G : jw_G) (a1 : Int) (a2 : Int) (ha1 : jw_r a1) (ha2 : jw_r a2) (M : jw_M) : jw_Ct G YX11_seller (some .long) 2 0 0 true (fun v => (v, M)) yX11_seller [jR G 0, jI a1, jI a2] M (fX11_seller a1 a2 M) := jw_met (by decide) rfl rfl rfl (Nat.le_of_ble_eq_true rfl) (rX11_seller G a1 a2 ha1 ha2 M)
abbrev YX11_watch : jw_Y := (RX11, cX11_watch, 4, 2, "watch")
theorem qX11_watch : jw_cy YX11_watch (some .long) yX11_watch 2 := ⟨by decide, jt_776, jt_1, by decide, by decide +kernel⟩
theorem dX11_watch_0 : decode cX11_watch 0 = .ok (.aload_n 0, 1) := by decide +kernel
theorem dX11_watch_1 : decode cX11_watch 1 = .ok (.getfield 26, 3) := by decide +kernel
theorem dX11_watch_4 : decode cX11_watch 4 = .ok (.getfield 162, 3) := by decide +kernel
theorem dX11_watch_7 : decode cX11_watch 7 = .ok (.iload_n 1, 1) := by decide +kernel
theorem dX11_watch_8 : decode cX11_watch 8 = .ok (.invokevirtual 187, 3) := by decide +kernel
theorem dX11_watch_11 : decode cX11_watch 11 = .ok (.ifCond .eq 17, 3) := by decide +kernel
theorem dX11_watch_14 : decode cX11_watch 14 = .ok (.aload_n 0, 1) := by decide +kernel
theorem dX11_watch_15 : decode cX11_watch 15 = .ok (.getfield 26, 3) := by decide +kernel
theorem dX11_watch_18 : decode cX11_watch 18 = .ok (.getfield 137, 3) := by decide +kernel
theorem dX11_watch_21 : decode cX11_watch 21 = .ok (.iload_n 2, 1) := by decide +kernel
theorem dX11_watch_22 : decode cX11_watch 22 = .ok (.invokevirtual 146, 3) := by decide +kernel
theorem dX11_watch_25 : decode cX11_watch 25 = .ok (.ifCond .ne 7, 3) := by decide +kernel
theorem dX11_watch_28 : decode cX11_watch 28 = .ok (.ldc2_w 75, 3) := by decide +kernel
theorem dX11_watch_31 : decode cX11_watch 31 = .ok (.lreturn, 1) := by decide +kernel
theorem dX11_watch_32 : decode cX11_watch 32 = .ok (.aload_n 0, 1) := by decide +kernel
theorem dX11_watch_33 : decode cX11_watch 33 = .ok (.getfield 26, 3) := by decide +kernel
theorem dX11_watch_36 : decode cX11_watch 36 = .ok (.getfield 162, 3) := by decide +kernel
theorem dX11_watch_39 : decode cX11_watch 39 = .ok (.getfield 190, 3) := by decide +kernel
theorem dX11_watch_42 : decode cX11_watch 42 = .ok (.iload_n 1, 1) := by decide +kernel
theorem dX11_watch_43 : decode cX11_watch 43 = .ok (.iaload, 1) := by decide +kernel
theorem dX11_watch_44 : decode cX11_watch 44 = .ok (.istore_n 3, 1) := by decide +kernel
theorem dX11_watch_45 : decode cX11_watch 45 = .ok (.aload_n 0, 1) := by decide +kernel
theorem dX11_watch_46 : decode cX11_watch 46 = .ok (.getfield 26, 3) := by decide +kernel
theorem dX11_watch_49 : decode cX11_watch 49 = .ok (.getfield 162, 3) := by decide +kernel
theorem dX11_watch_52 : decode cX11_watch 52 = .ok (.getfield 190, 3) := by decide +kernel
theorem dX11_watch_55 : decode cX11_watch 55 = .ok (.iload_n 1, 1) := by decide +kernel
theorem dX11_watch_56 : decode cX11_watch 56 = .ok (.iload_n 2, 1) := by decide +kernel
theorem dX11_watch_57 : decode cX11_watch 57 = .ok (.iastore, 1) := by decide +kernel
theorem dX11_watch_58 : decode cX11_watch 58 = .ok (.iload_n 3, 1) := by decide +kernel
theorem dX11_watch_59 : decode cX11_watch 59 = .ok (.i2l, 1) := by decide +kernel
theorem dX11_watch_60 : decode cX11_watch 60 = .ok (.lreturn, 1) := by decide +kernel
def fX11_watch (a1 : Int) (a2 : Int) (M : jw_M) : Option (Int × jw_M) :=
  Option.bind (fX10_isWatcher (9 + 8) a1 M) (fun v1 => if v1 = 0 then (some ((-9000000000000000001), M)) else (Option.bind (fX9_isCorner (9 + 1) a2 M) (fun v2 => if v2 = 0 then (some ((-9000000000000000001), M)) else (if 0 ≤ a1 ∧ a1 < 4 then Option.bind (some (M ((9 + 8) + 6) a1)) (fun v4 => if 0 ≤ a1 ∧ a1 < 4 then Option.bind (some (jw_up M ((9 + 8) + 6) a1 a2)) (fun M5 => some (v4, M5)) else none) else none))))
set_option maxRecDepth 100000 in
theorem rX11_watch (G : jw_G) (a1 : Int) (a2 : Int) (ha1 : jw_r a1) (ha2 : jw_r a2) (M : jw_M) : jw_Rn G YX11_watch 2 0 0 true (fun q => q) 0 [(0, jR G 0), (1, jI a1), (2, jI a2)] [] M (fX11_watch a1 a2 M) := by
  unfold fX11_watch
  refine jw_aloadR (pc := 0) 0 dX11_watch_0 rfl ?_
  refine jw_getR (pc := 1) (j := 2) rfl dX11_watch_1 jv_11 ji_11 (Or.inl jt_374) jg_0 jl_0 (by decide) (by decide) rfl jf_11_2 ?_
  refine jw_getR (pc := 4) (j := 2) rfl dX11_watch_4 jv_7 ji_7 (Or.inr ⟨_, jt_269⟩) jg_9 jl_9 (by decide) (by decide) rfl (jf_7_2 jg_9).1 ?_
  refine jw_iload_n (pc := 7) 1 dX11_watch_7 rfl ?_
  refine jw_callVz (pc := 8) (As := [jI a1]) (st := []) dX11_watch_8 rfl (Nat.le_of_ble_eq_true rfl) qX10_isWatcher jt_777 jt_778 jt_779 rfl rfl (Nat.le_of_ble_eq_true rfl) jv_10 rfl (jf_7_2 jg_9).2.1 (jf_7_2 jg_9).2.2 (by decide) (jw_ho (jf_7_2 jg_9).2.1 (by decide)) (kX10_isWatcher G (9 + 8) a1 ha1 M) (fun v1 hv1 => ?_)
  refine jw_if_eq (pc := 11) 28 dX11_watch_11 (by decide) (jw_bz hv1) (fun _ => ?_) (fun _ => ?_)
  · refine jw_ldc2 (pc := 28) (n := (-9000000000000000001)) dX11_watch_28 jt_414 (by decide) ?_
    exact jw_ret (pc := 31) (v := (-9000000000000000001)) dX11_watch_31 (jw_qc _ rfl) rfl rfl
  · refine jw_aloadR (pc := 14) 0 dX11_watch_14 rfl ?_
    refine jw_getR (pc := 15) (j := 2) rfl dX11_watch_15 jv_11 ji_11 (Or.inl jt_374) jg_0 jl_0 (by decide) (by decide) rfl jf_11_2 ?_
    refine jw_getR (pc := 18) (j := 1) rfl dX11_watch_18 jv_7 ji_7 (Or.inr ⟨_, jt_264⟩) jg_9 jl_9 (by decide) (by decide) rfl (jf_7_1 jg_9).1 ?_
    refine jw_iload_n (pc := 21) 2 dX11_watch_21 rfl ?_
    refine jw_callVz (pc := 22) (As := [jI a2]) (st := []) dX11_watch_22 rfl (Nat.le_of_ble_eq_true rfl) qX9_isCorner jt_729 jt_730 jt_731 rfl rfl (Nat.le_of_ble_eq_true rfl) jv_9 rfl (jf_7_1 jg_9).2.1 (jf_7_1 jg_9).2.2 (by decide) (jw_ho (jf_7_1 jg_9).2.1 (by decide)) (kX9_isCorner G (9 + 1) a2 ha2 M) (fun v2 hv2 => ?_)
    refine jw_if_ne (pc := 25) 32 dX11_watch_25 (by decide) (jw_bz hv2) (fun _ => ?_) (fun _ => ?_)
    · refine jw_ldc2 (pc := 28) (n := (-9000000000000000001)) dX11_watch_28 jt_414 (by decide) ?_
      exact jw_ret (pc := 31) (v := (-9000000000000000001)) dX11_watch_31 (jw_qc _ rfl) rfl rfl
    · refine jw_aloadR (pc := 32) 0 dX11_watch_32 rfl ?_
      refine jw_getR (pc := 33) (j := 2) rfl dX11_watch_33 jv_11 ji_11 (Or.inl jt_374) jg_0 jl_0 (by decide) (by decide) rfl jf_11_2 ?_
      refine jw_getR (pc := 36) (j := 2) rfl dX11_watch_36 jv_7 ji_7 (Or.inr ⟨_, jt_269⟩) jg_9 jl_9 (by decide) (by decide) rfl (jf_7_2 jg_9).1 ?_
      refine jw_getR (pc := 39) (j := 8) rfl dX11_watch_39 jv_10 ji_10 (Or.inr ⟨_, jt_170⟩) (jf_7_2 jg_9).2.1 (jf_7_2 jg_9).2.2 (by decide) (by decide) rfl (jf_10_8 (jf_7_2 jg_9).2.1).1 ?_
      refine jw_iload_n (pc := 42) 1 dX11_watch_42 rfl ?_
      refine jw_iald (pc := 43) dX11_watch_43 (jf_10_8 (jf_7_2 jg_9).2.1).2.1 (jf_10_8 (jf_7_2 jg_9).2.1).2.2 (jw_ho (jf_10_8 (jf_7_2 jg_9).2.1).2.1 (by decide)) ha1 rfl (fun h3 => ?_)
      refine jw_istore_nL (pc := 44) (lv' := (fun y => [(3, y), (0, jR G 0), (1, jI a1), (2, jI a2)])) dX11_watch_44 h3 (by decide) (fun _ => rfl) (fun v4 hv4 => ?_)
      refine jw_aloadR (pc := 45) 1 dX11_watch_45 rfl ?_
      refine jw_getR (pc := 46) (j := 2) rfl dX11_watch_46 jv_11 ji_11 (Or.inl jt_374) jg_0 jl_0 (by decide) (by decide) rfl jf_11_2 ?_
      refine jw_getR (pc := 49) (j := 2) rfl dX11_watch_49 jv_7 ji_7 (Or.inr ⟨_, jt_269⟩) jg_9 jl_9 (by decide) (by decide) rfl (jf_7_2 jg_9).1 ?_
      refine jw_getR (pc := 52) (j := 8) rfl dX11_watch_52 jv_10 ji_10 (Or.inr ⟨_, jt_170⟩) (jf_7_2 jg_9).2.1 (jf_7_2 jg_9).2.2 (by decide) (by decide) rfl (jf_10_8 (jf_7_2 jg_9).2.1).1 ?_
      refine jw_iload_n (pc := 55) 2 dX11_watch_55 rfl ?_
      refine jw_iload_n (pc := 56) 3 dX11_watch_56 rfl ?_
      refine jw_iast (pc := 57) dX11_watch_57 (jf_10_8 (jf_7_2 jg_9).2.1).2.1 (jf_10_8 (jf_7_2 jg_9).2.1).2.2 (jw_ho (jf_10_8 (jf_7_2 jg_9).2.1).2.1 (by decide)) ha1 ha2 rfl ?_
      refine jw_letM (fun M5 => ?_)
      refine jw_iload_n (pc := 58) 0 dX11_watch_58 rfl ?_
      refine jw_i2lr (pc := 59) dX11_watch_59 hv4 ?_
      exact jw_ret (pc := 60) (v := v4) dX11_watch_60 (jw_rq hv4) rfl rfl
theorem kX11_watch (G : jw_G) (a1 : Int) (a2 : Int) (ha1 : jw_r a1) (ha2 : jw_r a2) (M : jw_M) : jw_Ct G YX11_watch (some .long) 2 0 0 true (fun q => q) yX11_watch [jR G 0, jI a1, jI a2] M (fX11_watch a1 a2 M) := jw_met (by decide) rfl rfl rfl (Nat.le_of_ble_eq_true rfl) (rX11_watch G a1 a2 ha1 ha2 M)
abbrev YX11_isRoute : jw_Y := (RX11, cX11_isRoute, 6, 4, "isRoute")
theorem qX11_isRoute : jw_cy YX11_isRoute (some .boolean) yX11_isRoute 3 := ⟨by decide, jt_793, jt_1, by decide, by decide +kernel⟩
theorem dX11_isRoute_0 : decode cX11_isRoute 0 = .ok (.iconst 0, 1) := by decide +kernel
theorem dX11_isRoute_1 : decode cX11_isRoute 1 = .ok (.istore 4, 2) := by decide +kernel
theorem dX11_isRoute_3 : decode cX11_isRoute 3 = .ok (.iload 4, 2) := by decide +kernel
theorem dX11_isRoute_5 : decode cX11_isRoute 5 = .ok (.iload_n 3, 1) := by decide +kernel
theorem dX11_isRoute_6 : decode cX11_isRoute 6 = .ok (.if_icmp .ge 76, 3) := by decide +kernel
theorem dX11_isRoute_9 : decode cX11_isRoute 9 = .ok (.aload_n 0, 1) := by decide +kernel
theorem dX11_isRoute_10 : decode cX11_isRoute 10 = .ok (.getfield 12, 3) := by decide +kernel
theorem dX11_isRoute_13 : decode cX11_isRoute 13 = .ok (.iload_n 1, 1) := by decide +kernel
theorem dX11_isRoute_14 : decode cX11_isRoute 14 = .ok (.iload_n 2, 1) := by decide +kernel
theorem dX11_isRoute_15 : decode cX11_isRoute 15 = .ok (.iload 4, 2) := by decide +kernel
theorem dX11_isRoute_17 : decode cX11_isRoute 17 = .ok (.iadd, 1) := by decide +kernel
theorem dX11_isRoute_18 : decode cX11_isRoute 18 = .ok (.invokevirtual 229, 3) := by decide +kernel
theorem dX11_isRoute_21 : decode cX11_isRoute 21 = .ok (.istore 5, 2) := by decide +kernel
theorem dX11_isRoute_23 : decode cX11_isRoute 23 = .ok (.aload_n 0, 1) := by decide +kernel
theorem dX11_isRoute_24 : decode cX11_isRoute 24 = .ok (.getfield 26, 3) := by decide +kernel
theorem dX11_isRoute_27 : decode cX11_isRoute 27 = .ok (.getfield 137, 3) := by decide +kernel
theorem dX11_isRoute_30 : decode cX11_isRoute 30 = .ok (.iload 5, 2) := by decide +kernel
theorem dX11_isRoute_32 : decode cX11_isRoute 32 = .ok (.invokevirtual 146, 3) := by decide +kernel
theorem dX11_isRoute_35 : decode cX11_isRoute 35 = .ok (.ifCond .ne 5, 3) := by decide +kernel
theorem dX11_isRoute_38 : decode cX11_isRoute 38 = .ok (.iconst 0, 1) := by decide +kernel
theorem dX11_isRoute_39 : decode cX11_isRoute 39 = .ok (.ireturn, 1) := by decide +kernel
theorem dX11_isRoute_40 : decode cX11_isRoute 40 = .ok (.iload 4, 2) := by decide +kernel
theorem dX11_isRoute_42 : decode cX11_isRoute 42 = .ok (.ifCond .le 34, 3) := by decide +kernel
theorem dX11_isRoute_45 : decode cX11_isRoute 45 = .ok (.aload_n 0, 1) := by decide +kernel
theorem dX11_isRoute_46 : decode cX11_isRoute 46 = .ok (.getfield 26, 3) := by decide +kernel
theorem dX11_isRoute_49 : decode cX11_isRoute 49 = .ok (.getfield 137, 3) := by decide +kernel
theorem dX11_isRoute_52 : decode cX11_isRoute 52 = .ok (.aload_n 0, 1) := by decide +kernel
theorem dX11_isRoute_53 : decode cX11_isRoute 53 = .ok (.getfield 12, 3) := by decide +kernel
theorem dX11_isRoute_56 : decode cX11_isRoute 56 = .ok (.iload_n 1, 1) := by decide +kernel
theorem dX11_isRoute_57 : decode cX11_isRoute 57 = .ok (.iload_n 2, 1) := by decide +kernel
theorem dX11_isRoute_58 : decode cX11_isRoute 58 = .ok (.iload 4, 2) := by decide +kernel
theorem dX11_isRoute_60 : decode cX11_isRoute 60 = .ok (.iadd, 1) := by decide +kernel
theorem dX11_isRoute_61 : decode cX11_isRoute 61 = .ok (.iconst 1, 1) := by decide +kernel
theorem dX11_isRoute_62 : decode cX11_isRoute 62 = .ok (.isub, 1) := by decide +kernel
theorem dX11_isRoute_63 : decode cX11_isRoute 63 = .ok (.invokevirtual 229, 3) := by decide +kernel
theorem dX11_isRoute_66 : decode cX11_isRoute 66 = .ok (.iload 5, 2) := by decide +kernel
theorem dX11_isRoute_68 : decode cX11_isRoute 68 = .ok (.invokevirtual 232, 3) := by decide +kernel
theorem dX11_isRoute_71 : decode cX11_isRoute 71 = .ok (.ifCond .ne 5, 3) := by decide +kernel
theorem dX11_isRoute_74 : decode cX11_isRoute 74 = .ok (.iconst 0, 1) := by decide +kernel
theorem dX11_isRoute_75 : decode cX11_isRoute 75 = .ok (.ireturn, 1) := by decide +kernel
theorem dX11_isRoute_76 : decode cX11_isRoute 76 = .ok (.iinc 4 1, 3) := by decide +kernel
theorem dX11_isRoute_79 : decode cX11_isRoute 79 = .ok (.goto (-76), 3) := by decide +kernel
theorem dX11_isRoute_82 : decode cX11_isRoute 82 = .ok (.iconst 1, 1) := by decide +kernel
theorem dX11_isRoute_83 : decode cX11_isRoute 83 = .ok (.ireturn, 1) := by decide +kernel
def fX11_isRoute_76 (M : jw_M) (r3 : Int → Int → Int → Int → Option Int) (x1 : Int) (x2 : Int) (x3 : Int) (x4 : Int) : Option Int :=
  Option.bind (some (jw_w (x4 + 1))) (fun v7 => r3 x1 x2 x3 v7)
set_option maxRecDepth 100000 in
theorem pX11_isRoute_76 (G : jw_G) (M : jw_M) (r3 : Int → Int → Int → Int → Option Int) (hr3 : ∀ (x1 : Int) (x2 : Int) (x3 : Int) (x4 : Int) (hx1 : jw_r x1) (hx2 : jw_r x2) (hx3 : jw_r x3) (hx4 : jw_r x4), jw_Rn G YX11_isRoute 2 0 0 true (fun v => (v, M)) 3 [(0, jR G 0), (1, jI x1), (2, jI x2), (3, jI x3), (4, jI x4)] [] M (r3 x1 x2 x3 x4)) : ∀ (x1 : Int) (x2 : Int) (x3 : Int) (x4 : Int) (hx1 : jw_r x1) (hx2 : jw_r x2) (hx3 : jw_r x3) (hx4 : jw_r x4), jw_Rn G YX11_isRoute 2 0 0 true (fun v => (v, M)) 76 [(0, jR G 0), (1, jI x1), (2, jI x2), (3, jI x3), (4, jI x4)] [] M (fX11_isRoute_76 M r3 x1 x2 x3 x4) := by
  intro x1 x2 x3 x4 hx1 hx2 hx3 hx4
  unfold fX11_isRoute_76
  refine jw_iincL (pc := 76) 4 (lv' := (fun y => [(4, y), (0, jR G 0), (1, jI x1), (2, jI x2), (3, jI x3)])) dX11_isRoute_76 rfl (Nat.le_of_ble_eq_true rfl) (fun _ => rfl) (fun v7 hv7 => ?_)
  refine jw_goto (pc := 79) 3 dX11_isRoute_79 (by decide) ?_
  exact jw_few [1, 2, 3, 4, 0] rfl (hr3 x1 x2 x3 v7 hx1 hx2 hx3 hv7)
def fX11_isRoute_3 (M : jw_M) : Nat → Int → Int → Int → Int → Option Int
  | 0, _, _, _, _ => none
  | k + 1, x1, x2, x3, x4 => if x4 < x3 then (Option.bind (fX6_item x1 (jw_w (x2 + x4)) M) (fun v2 => Option.bind (some v2) (fun v3 => Option.bind (fX9_isCorner (9 + 1) v3 M) (fun v4 => if v4 = 0 then (some 0) else (if (0 : Int) < x4 then (Option.bind (fX6_item x1 (jw_w ((jw_w (x2 + x4)) - 1)) M) (fun v5 => Option.bind (fX9_streetTo (9 + 1) v5 v3 M) (fun v6 => if v6 = 0 then (some 0) else (fX11_isRoute_76 M (fX11_isRoute_3 M k) x1 x2 x3 x4)))) else (fX11_isRoute_76 M (fX11_isRoute_3 M k) x1 x2 x3 x4)))))) else (some 1)
set_option maxRecDepth 100000 in
theorem pX11_isRoute_3 (G : jw_G) (M : jw_M) : ∀ (k : Nat) (x1 : Int) (x2 : Int) (x3 : Int) (x4 : Int) (hx1 : jw_r x1) (hx2 : jw_r x2) (hx3 : jw_r x3) (hx4 : jw_r x4), jw_Rn G YX11_isRoute 2 0 0 true (fun v => (v, M)) 3 [(0, jR G 0), (1, jI x1), (2, jI x2), (3, jI x3), (4, jI x4)] [] M (fX11_isRoute_3 M k x1 x2 x3 x4) := by
  intro k
  induction k with
  | zero =>
    intro x1 x2 x3 x4 hx1 hx2 hx3 hx4
    exact jw_none
  | succ k ih =>
    intro x1 x2 x3 x4 hx1 hx2 hx3 hx4
    rw [fX11_isRoute_3]
    refine jw_iload (pc := 3) 4 dX11_isRoute_3 rfl ?_
    refine jw_iload_n (pc := 5) 3 dX11_isRoute_5 rfl ?_
    refine jw_ic_ge (pc := 6) 82 dX11_isRoute_6 (by decide) hx4 hx3 (fun _ => ?_) (fun _ => ?_)
    · refine jw_aloadR (pc := 9) 0 dX11_isRoute_9 rfl ?_
      refine jw_getR (pc := 10) (j := 0) rfl dX11_isRoute_10 jv_11 ji_11 (Or.inl jt_372) jg_0 jl_0 (by decide) (by decide) rfl jf_11_0 ?_
      refine jw_iload_n (pc := 13) 1 dX11_isRoute_13 rfl ?_
      refine jw_iload_n (pc := 14) 2 dX11_isRoute_14 rfl ?_
      refine jw_iload (pc := 15) 4 dX11_isRoute_15 rfl ?_
      refine jw_iadd (pc := 17) dX11_isRoute_17 ?_
      refine jw_callVi (pc := 18) (As := [jI x1, jI (jw_w (x2 + x4))]) (st := []) dX11_isRoute_18 rfl (Nat.le_of_ble_eq_true rfl) qX6_item jt_794 jt_795 jt_796 rfl rfl (Nat.le_of_ble_eq_true rfl) jv_6 rfl jg_1 jl_1 (by decide) (jw_ho jg_1 (by decide)) (kX6_item G x1 (jw_w (x2 + x4)) hx1 (jw_wr _) M) (fun v2 hv2 => ?_)
      refine jw_istoreL (pc := 21) (lv' := (fun y => [(5, y), (0, jR G 0), (1, jI x1), (2, jI x2), (3, jI x3), (4, jI x4)])) dX11_isRoute_21 hv2 (by decide) (fun _ => rfl) (fun v3 hv3 => ?_)
      refine jw_aloadR (pc := 23) 1 dX11_isRoute_23 rfl ?_
      refine jw_getR (pc := 24) (j := 2) rfl dX11_isRoute_24 jv_11 ji_11 (Or.inl jt_374) jg_0 jl_0 (by decide) (by decide) rfl jf_11_2 ?_
      refine jw_getR (pc := 27) (j := 1) rfl dX11_isRoute_27 jv_7 ji_7 (Or.inr ⟨_, jt_264⟩) jg_9 jl_9 (by decide) (by decide) rfl (jf_7_1 jg_9).1 ?_
      refine jw_iload (pc := 30) 0 dX11_isRoute_30 rfl ?_
      refine jw_callVz (pc := 32) (As := [jI v3]) (st := []) dX11_isRoute_32 rfl (Nat.le_of_ble_eq_true rfl) qX9_isCorner jt_729 jt_730 jt_731 rfl rfl (Nat.le_of_ble_eq_true rfl) jv_9 rfl (jf_7_1 jg_9).2.1 (jf_7_1 jg_9).2.2 (by decide) (jw_ho (jf_7_1 jg_9).2.1 (by decide)) (kX9_isCorner G (9 + 1) v3 hv3 M) (fun v4 hv4 => ?_)
      refine jw_if_ne (pc := 35) 40 dX11_isRoute_35 (by decide) (jw_bz hv4) (fun _ => ?_) (fun _ => ?_)
      · refine jw_iconst (pc := 38) dX11_isRoute_38 ?_
        exact jw_ret (pc := 39) (v := 0) dX11_isRoute_39 (Or.inl rfl) rfl rfl
      · refine jw_iload (pc := 40) 5 dX11_isRoute_40 rfl ?_
        refine jw_if_le (pc := 42) 76 dX11_isRoute_42 (by decide) hx4 (fun _ => ?_) (fun _ => ?_)
        · refine jw_aloadR (pc := 45) 1 dX11_isRoute_45 rfl ?_
          refine jw_getR (pc := 46) (j := 2) rfl dX11_isRoute_46 jv_11 ji_11 (Or.inl jt_374) jg_0 jl_0 (by decide) (by decide) rfl jf_11_2 ?_
          refine jw_getR (pc := 49) (j := 1) rfl dX11_isRoute_49 jv_7 ji_7 (Or.inr ⟨_, jt_264⟩) jg_9 jl_9 (by decide) (by decide) rfl (jf_7_1 jg_9).1 ?_
          refine jw_aloadR (pc := 52) 1 dX11_isRoute_52 rfl ?_
          refine jw_getR (pc := 53) (j := 0) rfl dX11_isRoute_53 jv_11 ji_11 (Or.inl jt_372) jg_0 jl_0 (by decide) (by decide) rfl jf_11_0 ?_
          refine jw_iload_n (pc := 56) 2 dX11_isRoute_56 rfl ?_
          refine jw_iload_n (pc := 57) 3 dX11_isRoute_57 rfl ?_
          refine jw_iload (pc := 58) 5 dX11_isRoute_58 rfl ?_
          refine jw_iadd (pc := 60) dX11_isRoute_60 ?_
          refine jw_iconst (pc := 61) dX11_isRoute_61 ?_
          refine jw_isub (pc := 62) dX11_isRoute_62 ?_
          refine jw_callVi (pc := 63) (As := [jI x1, jI (jw_w ((jw_w (x2 + x4)) - 1))]) (st := [jR G (9 + 1)]) dX11_isRoute_63 rfl (Nat.le_of_ble_eq_true rfl) qX6_item jt_794 jt_795 jt_796 rfl rfl (Nat.le_of_ble_eq_true rfl) jv_6 rfl jg_1 jl_1 (by decide) (jw_ho jg_1 (by decide)) (kX6_item G x1 (jw_w ((jw_w (x2 + x4)) - 1)) hx1 (jw_wr _) M) (fun v5 hv5 => ?_)
          refine jw_iload (pc := 66) 0 dX11_isRoute_66 rfl ?_
          refine jw_callVi (pc := 68) (As := [jI v5, jI v3]) (st := []) dX11_isRoute_68 rfl (Nat.le_of_ble_eq_true rfl) qX9_streetTo jt_798 jt_660 jt_661 rfl rfl (Nat.le_of_ble_eq_true rfl) jv_9 rfl (jf_7_1 jg_9).2.1 (jf_7_1 jg_9).2.2 (by decide) (jw_ho (jf_7_1 jg_9).2.1 (by decide)) (kX9_streetTo G (9 + 1) v5 v3 hv5 hv3 M) (fun v6 hv6 => ?_)
          refine jw_if_ne (pc := 71) 76 dX11_isRoute_71 (by decide) hv6 (fun _ => ?_) (fun _ => ?_)
          · refine jw_iconst (pc := 74) dX11_isRoute_74 ?_
            exact jw_ret (pc := 75) (v := 0) dX11_isRoute_75 (Or.inl rfl) rfl rfl
          · exact jw_few [1, 2, 3, 4, 5] rfl (pX11_isRoute_76 G M (fX11_isRoute_3 M k) ih x1 x2 x3 x4 hx1 hx2 hx3 hx4)
        · exact jw_few [1, 2, 3, 4, 5] rfl (pX11_isRoute_76 G M (fX11_isRoute_3 M k) ih x1 x2 x3 x4 hx1 hx2 hx3 hx4)
    · refine jw_iconst (pc := 82) dX11_isRoute_82 ?_
      exact jw_ret (pc := 83) (v := 1) dX11_isRoute_83 (Or.inr rfl) rfl rfl
def fX11_isRoute (a1 : Int) (a2 : Int) (a3 : Int) (M : jw_M) : Option Int :=
  Option.bind (some 0) (fun v1 => fX11_isRoute_3 M jw_fu a1 a2 a3 v1)
set_option maxRecDepth 100000 in
theorem rX11_isRoute (G : jw_G) (a1 : Int) (a2 : Int) (a3 : Int) (ha1 : jw_r a1) (ha2 : jw_r a2) (ha3 : jw_r a3) (M : jw_M) : jw_Rn G YX11_isRoute 2 0 0 true (fun v => (v, M)) 0 [(0, jR G 0), (1, jI a1), (2, jI a2), (3, jI a3)] [] M (fX11_isRoute a1 a2 a3 M) := by
  unfold fX11_isRoute
  refine jw_iconst (pc := 0) dX11_isRoute_0 ?_
  refine jw_istoreL (pc := 1) (lv' := (fun y => [(4, y), (0, jR G 0), (1, jI a1), (2, jI a2), (3, jI a3)])) dX11_isRoute_1 (jw_rc _ rfl) (by decide) (fun _ => rfl) (fun v1 hv1 => ?_)
  exact jw_few [1, 2, 3, 4, 0] rfl (pX11_isRoute_3 G M jw_fu a1 a2 a3 v1 ha1 ha2 ha3 hv1)
theorem kX11_isRoute (G : jw_G) (a1 : Int) (a2 : Int) (a3 : Int) (ha1 : jw_r a1) (ha2 : jw_r a2) (ha3 : jw_r a3) (M : jw_M) : jw_Ct G YX11_isRoute (some .boolean) 2 0 0 true (fun v => (v, M)) yX11_isRoute [jR G 0, jI a1, jI a2, jI a3] M (fX11_isRoute a1 a2 a3 M) := jw_met (by decide) rfl rfl rfl (Nat.le_of_ble_eq_true rfl) (rX11_isRoute G a1 a2 a3 ha1 ha2 ha3 M)
abbrev YX11_walkRoute : jw_Y := (RX11, cX11_walkRoute, 7, 0, "walkRoute")
theorem qX11_walkRoute : jw_cy YX11_walkRoute none yX11_walkRoute 3 := ⟨by decide, jt_803, jt_1, by decide, by decide +kernel⟩
theorem dX11_walkRoute_0 : decode cX11_walkRoute 0 = .ok (.iconst 0, 1) := by decide +kernel
theorem dX11_walkRoute_1 : decode cX11_walkRoute 1 = .ok (.istore 4, 2) := by decide +kernel
theorem dX11_walkRoute_3 : decode cX11_walkRoute 3 = .ok (.iconst 0, 1) := by decide +kernel
theorem dX11_walkRoute_4 : decode cX11_walkRoute 4 = .ok (.istore 5, 2) := by decide +kernel
theorem dX11_walkRoute_6 : decode cX11_walkRoute 6 = .ok (.iload 5, 2) := by decide +kernel
theorem dX11_walkRoute_8 : decode cX11_walkRoute 8 = .ok (.iload_n 3, 1) := by decide +kernel
theorem dX11_walkRoute_9 : decode cX11_walkRoute 9 = .ok (.if_icmp .ge 73, 3) := by decide +kernel
theorem dX11_walkRoute_12 : decode cX11_walkRoute 12 = .ok (.aload_n 0, 1) := by decide +kernel
theorem dX11_walkRoute_13 : decode cX11_walkRoute 13 = .ok (.getfield 12, 3) := by decide +kernel
theorem dX11_walkRoute_16 : decode cX11_walkRoute 16 = .ok (.iload_n 1, 1) := by decide +kernel
theorem dX11_walkRoute_17 : decode cX11_walkRoute 17 = .ok (.iload_n 2, 1) := by decide +kernel
theorem dX11_walkRoute_18 : decode cX11_walkRoute 18 = .ok (.iload 5, 2) := by decide +kernel
theorem dX11_walkRoute_20 : decode cX11_walkRoute 20 = .ok (.iadd, 1) := by decide +kernel
theorem dX11_walkRoute_21 : decode cX11_walkRoute 21 = .ok (.invokevirtual 229, 3) := by decide +kernel
theorem dX11_walkRoute_24 : decode cX11_walkRoute 24 = .ok (.istore 6, 2) := by decide +kernel
theorem dX11_walkRoute_26 : decode cX11_walkRoute 26 = .ok (.iload 5, 2) := by decide +kernel
theorem dX11_walkRoute_28 : decode cX11_walkRoute 28 = .ok (.ifCond .le 34, 3) := by decide +kernel
theorem dX11_walkRoute_31 : decode cX11_walkRoute 31 = .ok (.iload 4, 2) := by decide +kernel
theorem dX11_walkRoute_33 : decode cX11_walkRoute 33 = .ok (.aload_n 0, 1) := by decide +kernel
theorem dX11_walkRoute_34 : decode cX11_walkRoute 34 = .ok (.getfield 26, 3) := by decide +kernel
theorem dX11_walkRoute_37 : decode cX11_walkRoute 37 = .ok (.getfield 137, 3) := by decide +kernel
theorem dX11_walkRoute_40 : decode cX11_walkRoute 40 = .ok (.aload_n 0, 1) := by decide +kernel
theorem dX11_walkRoute_41 : decode cX11_walkRoute 41 = .ok (.getfield 12, 3) := by decide +kernel
theorem dX11_walkRoute_44 : decode cX11_walkRoute 44 = .ok (.iload_n 1, 1) := by decide +kernel
theorem dX11_walkRoute_45 : decode cX11_walkRoute 45 = .ok (.iload_n 2, 1) := by decide +kernel
theorem dX11_walkRoute_46 : decode cX11_walkRoute 46 = .ok (.iload 5, 2) := by decide +kernel
theorem dX11_walkRoute_48 : decode cX11_walkRoute 48 = .ok (.iadd, 1) := by decide +kernel
theorem dX11_walkRoute_49 : decode cX11_walkRoute 49 = .ok (.iconst 1, 1) := by decide +kernel
theorem dX11_walkRoute_50 : decode cX11_walkRoute 50 = .ok (.isub, 1) := by decide +kernel
theorem dX11_walkRoute_51 : decode cX11_walkRoute 51 = .ok (.invokevirtual 229, 3) := by decide +kernel
theorem dX11_walkRoute_54 : decode cX11_walkRoute 54 = .ok (.iload 6, 2) := by decide +kernel
theorem dX11_walkRoute_56 : decode cX11_walkRoute 56 = .ok (.invokevirtual 232, 3) := by decide +kernel
theorem dX11_walkRoute_59 : decode cX11_walkRoute 59 = .ok (.iadd, 1) := by decide +kernel
theorem dX11_walkRoute_60 : decode cX11_walkRoute 60 = .ok (.istore 4, 2) := by decide +kernel
theorem dX11_walkRoute_62 : decode cX11_walkRoute 62 = .ok (.aload_n 0, 1) := by decide +kernel
theorem dX11_walkRoute_63 : decode cX11_walkRoute 63 = .ok (.getfield 26, 3) := by decide +kernel
theorem dX11_walkRoute_66 : decode cX11_walkRoute 66 = .ok (.getfield 206, 3) := by decide +kernel
theorem dX11_walkRoute_69 : decode cX11_walkRoute 69 = .ok (.iload 6, 2) := by decide +kernel
theorem dX11_walkRoute_71 : decode cX11_walkRoute 71 = .ok (.iload 4, 2) := by decide +kernel
theorem dX11_walkRoute_73 : decode cX11_walkRoute 73 = .ok (.invokevirtual 235, 3) := by decide +kernel
theorem dX11_walkRoute_76 : decode cX11_walkRoute 76 = .ok (.iinc 5 1, 3) := by decide +kernel
theorem dX11_walkRoute_79 : decode cX11_walkRoute 79 = .ok (.goto (-73), 3) := by decide +kernel
theorem dX11_walkRoute_82 : decode cX11_walkRoute 82 = .ok (.return_, 1) := by decide +kernel
def fX11_walkRoute_62 (r6 : Int → Int → Int → Int → Int → jw_M → Option jw_M) (x1 : Int) (x2 : Int) (x3 : Int) (x4 : Int) (x5 : Int) (x6 : Int) (M : jw_M) : Option jw_M :=
  Option.bind (fX3_comesTo (9 + 15) x6 x4 M) (fun M8 => Option.bind (some (jw_w (x5 + 1))) (fun v9 => r6 x1 x2 x3 x4 v9 M8))
set_option maxRecDepth 100000 in
theorem pX11_walkRoute_62 (G : jw_G) (r6 : Int → Int → Int → Int → Int → jw_M → Option jw_M) (hr6 : ∀ (x1 : Int) (x2 : Int) (x3 : Int) (x4 : Int) (x5 : Int) (hx1 : jw_r x1) (hx2 : jw_r x2) (hx3 : jw_r x3) (hx4 : jw_r x4) (hx5 : jw_r x5) (M : jw_M), jw_Rn G YX11_walkRoute 2 0 0 true (fun M1 => (0, M1)) 6 [(0, jR G 0), (1, jI x1), (2, jI x2), (3, jI x3), (4, jI x4), (5, jI x5)] [] M (r6 x1 x2 x3 x4 x5 M)) : ∀ (x1 : Int) (x2 : Int) (x3 : Int) (x4 : Int) (x5 : Int) (x6 : Int) (hx1 : jw_r x1) (hx2 : jw_r x2) (hx3 : jw_r x3) (hx4 : jw_r x4) (hx5 : jw_r x5) (hx6 : jw_r x6) (M : jw_M), jw_Rn G YX11_walkRoute 2 0 0 true (fun M1 => (0, M1)) 62 [(0, jR G 0), (1, jI x1), (2, jI x2), (3, jI x3), (4, jI x4), (5, jI x5), (6, jI x6)] [] M (fX11_walkRoute_62 r6 x1 x2 x3 x4 x5 x6 M) := by
  intro x1 x2 x3 x4 x5 x6 hx1 hx2 hx3 hx4 hx5 hx6 M
  unfold fX11_walkRoute_62
  refine jw_aloadR (pc := 62) 0 dX11_walkRoute_62 rfl ?_
  refine jw_getR (pc := 63) (j := 2) rfl dX11_walkRoute_63 jv_11 ji_11 (Or.inl jt_374) jg_0 jl_0 (by decide) (by decide) rfl jf_11_2 ?_
  refine jw_getR (pc := 66) (j := 3) rfl dX11_walkRoute_66 jv_7 ji_7 (Or.inr ⟨_, jt_273⟩) jg_9 jl_9 (by decide) (by decide) rfl (jf_7_3 jg_9).1 ?_
  refine jw_iload (pc := 69) 6 dX11_walkRoute_69 rfl ?_
  refine jw_iload (pc := 71) 4 dX11_walkRoute_71 rfl ?_
  refine jw_callVM (pc := 73) (As := [jI x6, jI x4]) (st := []) dX11_walkRoute_73 rfl (Nat.le_of_ble_eq_true rfl) qX3_comesTo jt_804 jt_805 jt_806 rfl rfl (Nat.le_of_ble_eq_true rfl) jv_3 rfl (jf_7_3 jg_9).2.1 (jf_7_3 jg_9).2.2 (by decide) (jw_ho (jf_7_3 jg_9).2.1 (by decide)) (kX3_comesTo G (9 + 15) x6 x4 hx6 hx4 M) (fun M8 => ?_)
  refine jw_iincL (pc := 76) 5 (lv' := (fun y => [(5, y), (0, jR G 0), (1, jI x1), (2, jI x2), (3, jI x3), (4, jI x4), (6, jI x6)])) dX11_walkRoute_76 rfl (Nat.le_of_ble_eq_true rfl) (fun _ => rfl) (fun v9 hv9 => ?_)
  refine jw_goto (pc := 79) 6 dX11_walkRoute_79 (by decide) ?_
  exact jw_few [1, 2, 3, 4, 5, 0] rfl (hr6 x1 x2 x3 x4 v9 hx1 hx2 hx3 hx4 hv9 M8)
def fX11_walkRoute_6 : Nat → Int → Int → Int → Int → Int → jw_M → Option jw_M
  | 0, _, _, _, _, _, _ => none
  | k + 1, x1, x2, x3, x4, x5, M => if x5 < x3 then (Option.bind (fX6_item x1 (jw_w (x2 + x5)) M) (fun v3 => Option.bind (some v3) (fun v4 => if (0 : Int) < x5 then (Option.bind (fX6_item x1 (jw_w ((jw_w (x2 + x5)) - 1)) M) (fun v5 => Option.bind (fX9_streetTo (9 + 1) v5 v4 M) (fun v6 => Option.bind (some (jw_w (x4 + v6))) (fun v7 => fX11_walkRoute_62 (fX11_walkRoute_6 k) x1 x2 x3 v7 x5 v4 M)))) else (fX11_walkRoute_62 (fX11_walkRoute_6 k) x1 x2 x3 x4 x5 v4 M)))) else (some M)
set_option maxRecDepth 100000 in
theorem pX11_walkRoute_6 (G : jw_G) : ∀ (k : Nat) (x1 : Int) (x2 : Int) (x3 : Int) (x4 : Int) (x5 : Int) (hx1 : jw_r x1) (hx2 : jw_r x2) (hx3 : jw_r x3) (hx4 : jw_r x4) (hx5 : jw_r x5) (M : jw_M), jw_Rn G YX11_walkRoute 2 0 0 true (fun M1 => (0, M1)) 6 [(0, jR G 0), (1, jI x1), (2, jI x2), (3, jI x3), (4, jI x4), (5, jI x5)] [] M (fX11_walkRoute_6 k x1 x2 x3 x4 x5 M) := by
  intro k
  induction k with
  | zero =>
    intro x1 x2 x3 x4 x5 hx1 hx2 hx3 hx4 hx5 M
    exact jw_none
  | succ k ih =>
    intro x1 x2 x3 x4 x5 hx1 hx2 hx3 hx4 hx5 M
    rw [fX11_walkRoute_6]
    refine jw_iload (pc := 6) 5 dX11_walkRoute_6 rfl ?_
    refine jw_iload_n (pc := 8) 3 dX11_walkRoute_8 rfl ?_
    refine jw_ic_ge (pc := 9) 82 dX11_walkRoute_9 (by decide) hx5 hx3 (fun _ => ?_) (fun _ => ?_)
    · refine jw_aloadR (pc := 12) 0 dX11_walkRoute_12 rfl ?_
      refine jw_getR (pc := 13) (j := 0) rfl dX11_walkRoute_13 jv_11 ji_11 (Or.inl jt_372) jg_0 jl_0 (by decide) (by decide) rfl jf_11_0 ?_
      refine jw_iload_n (pc := 16) 1 dX11_walkRoute_16 rfl ?_
      refine jw_iload_n (pc := 17) 2 dX11_walkRoute_17 rfl ?_
      refine jw_iload (pc := 18) 5 dX11_walkRoute_18 rfl ?_
      refine jw_iadd (pc := 20) dX11_walkRoute_20 ?_
      refine jw_callVi (pc := 21) (As := [jI x1, jI (jw_w (x2 + x5))]) (st := []) dX11_walkRoute_21 rfl (Nat.le_of_ble_eq_true rfl) qX6_item jt_794 jt_795 jt_796 rfl rfl (Nat.le_of_ble_eq_true rfl) jv_6 rfl jg_1 jl_1 (by decide) (jw_ho jg_1 (by decide)) (kX6_item G x1 (jw_w (x2 + x5)) hx1 (jw_wr _) M) (fun v3 hv3 => ?_)
      refine jw_istoreL (pc := 24) (lv' := (fun y => [(6, y), (0, jR G 0), (1, jI x1), (2, jI x2), (3, jI x3), (4, jI x4), (5, jI x5)])) dX11_walkRoute_24 hv3 (by decide) (fun _ => rfl) (fun v4 hv4 => ?_)
      refine jw_iload (pc := 26) 6 dX11_walkRoute_26 rfl ?_
      refine jw_if_le (pc := 28) 62 dX11_walkRoute_28 (by decide) hx5 (fun _ => ?_) (fun _ => ?_)
      · refine jw_iload (pc := 31) 5 dX11_walkRoute_31 rfl ?_
        refine jw_aloadR (pc := 33) 1 dX11_walkRoute_33 rfl ?_
        refine jw_getR (pc := 34) (j := 2) rfl dX11_walkRoute_34 jv_11 ji_11 (Or.inl jt_374) jg_0 jl_0 (by decide) (by decide) rfl jf_11_2 ?_
        refine jw_getR (pc := 37) (j := 1) rfl dX11_walkRoute_37 jv_7 ji_7 (Or.inr ⟨_, jt_264⟩) jg_9 jl_9 (by decide) (by decide) rfl (jf_7_1 jg_9).1 ?_
        refine jw_aloadR (pc := 40) 1 dX11_walkRoute_40 rfl ?_
        refine jw_getR (pc := 41) (j := 0) rfl dX11_walkRoute_41 jv_11 ji_11 (Or.inl jt_372) jg_0 jl_0 (by decide) (by decide) rfl jf_11_0 ?_
        refine jw_iload_n (pc := 44) 2 dX11_walkRoute_44 rfl ?_
        refine jw_iload_n (pc := 45) 3 dX11_walkRoute_45 rfl ?_
        refine jw_iload (pc := 46) 6 dX11_walkRoute_46 rfl ?_
        refine jw_iadd (pc := 48) dX11_walkRoute_48 ?_
        refine jw_iconst (pc := 49) dX11_walkRoute_49 ?_
        refine jw_isub (pc := 50) dX11_walkRoute_50 ?_
        refine jw_callVi (pc := 51) (As := [jI x1, jI (jw_w ((jw_w (x2 + x5)) - 1))]) (st := [jR G (9 + 1), jI x4]) dX11_walkRoute_51 rfl (Nat.le_of_ble_eq_true rfl) qX6_item jt_794 jt_795 jt_796 rfl rfl (Nat.le_of_ble_eq_true rfl) jv_6 rfl jg_1 jl_1 (by decide) (jw_ho jg_1 (by decide)) (kX6_item G x1 (jw_w ((jw_w (x2 + x5)) - 1)) hx1 (jw_wr _) M) (fun v5 hv5 => ?_)
        refine jw_iload (pc := 54) 0 dX11_walkRoute_54 rfl ?_
        refine jw_callVi (pc := 56) (As := [jI v5, jI v4]) (st := [jI x4]) dX11_walkRoute_56 rfl (Nat.le_of_ble_eq_true rfl) qX9_streetTo jt_798 jt_660 jt_661 rfl rfl (Nat.le_of_ble_eq_true rfl) jv_9 rfl (jf_7_1 jg_9).2.1 (jf_7_1 jg_9).2.2 (by decide) (jw_ho (jf_7_1 jg_9).2.1 (by decide)) (kX9_streetTo G (9 + 1) v5 v4 hv5 hv4 M) (fun v6 hv6 => ?_)
        refine jw_iadd (pc := 59) dX11_walkRoute_59 ?_
        refine jw_istoreL (pc := 60) (lv' := (fun y => [(4, y), (6, jI v4), (0, jR G 0), (1, jI x1), (2, jI x2), (3, jI x3), (5, jI x5)])) dX11_walkRoute_60 (jw_wr _) (by decide) (fun _ => rfl) (fun v7 hv7 => ?_)
        exact jw_few [2, 3, 4, 5, 0, 6, 1] rfl (pX11_walkRoute_62 G (fX11_walkRoute_6 k) ih x1 x2 x3 v7 x5 v4 hx1 hx2 hx3 hv7 hx5 hv4 M)
      · exact jw_few [1, 2, 3, 4, 5, 6, 0] rfl (pX11_walkRoute_62 G (fX11_walkRoute_6 k) ih x1 x2 x3 x4 x5 v4 hx1 hx2 hx3 hx4 hx5 hv4 M)
    · exact jw_ret (pc := 82) (v := 0) dX11_walkRoute_82 trivial rfl rfl
def fX11_walkRoute (a1 : Int) (a2 : Int) (a3 : Int) (M : jw_M) : Option jw_M :=
  Option.bind (some 0) (fun v1 => Option.bind (some 0) (fun v2 => fX11_walkRoute_6 jw_fu a1 a2 a3 v1 v2 M))
set_option maxRecDepth 100000 in
theorem rX11_walkRoute (G : jw_G) (a1 : Int) (a2 : Int) (a3 : Int) (ha1 : jw_r a1) (ha2 : jw_r a2) (ha3 : jw_r a3) (M : jw_M) : jw_Rn G YX11_walkRoute 2 0 0 true (fun M1 => (0, M1)) 0 [(0, jR G 0), (1, jI a1), (2, jI a2), (3, jI a3)] [] M (fX11_walkRoute a1 a2 a3 M) := by
  unfold fX11_walkRoute
  refine jw_iconst (pc := 0) dX11_walkRoute_0 ?_
  refine jw_istoreL (pc := 1) (lv' := (fun y => [(4, y), (0, jR G 0), (1, jI a1), (2, jI a2), (3, jI a3)])) dX11_walkRoute_1 (jw_rc _ rfl) (by decide) (fun _ => rfl) (fun v1 hv1 => ?_)
  refine jw_iconst (pc := 3) dX11_walkRoute_3 ?_
  refine jw_istoreL (pc := 4) (lv' := (fun y => [(5, y), (4, jI v1), (0, jR G 0), (1, jI a1), (2, jI a2), (3, jI a3)])) dX11_walkRoute_4 (jw_rc _ rfl) (by decide) (fun _ => rfl) (fun v2 hv2 => ?_)
  exact jw_few [2, 3, 4, 5, 1, 0] rfl (pX11_walkRoute_6 G jw_fu a1 a2 a3 v1 v2 ha1 ha2 ha3 hv1 hv2 M)
theorem kX11_walkRoute (G : jw_G) (a1 : Int) (a2 : Int) (a3 : Int) (ha1 : jw_r a1) (ha2 : jw_r a2) (ha3 : jw_r a3) (M : jw_M) : jw_Ct G YX11_walkRoute none 2 0 0 true (fun M1 => (0, M1)) yX11_walkRoute [jR G 0, jI a1, jI a2, jI a3] M (fX11_walkRoute a1 a2 a3 M) := jw_met (by decide) rfl rfl rfl (Nat.le_of_ble_eq_true rfl) (rX11_walkRoute G a1 a2 a3 ha1 ha2 ha3 M)
abbrev YX11_raidFrom : jw_Y := (RX11, cX11_raidFrom, 6, 2, "raidFrom")
theorem qX11_raidFrom : jw_cy YX11_raidFrom (some .long) yX11_raidFrom 5 := ⟨by decide, jt_788, jt_1, by decide, by decide +kernel⟩
theorem dX11_raidFrom_0 : decode cX11_raidFrom 0 = .ok (.aload_n 0, 1) := by decide +kernel
theorem dX11_raidFrom_1 : decode cX11_raidFrom 1 = .ok (.getfield 12, 3) := by decide +kernel
theorem dX11_raidFrom_4 : decode cX11_raidFrom 4 = .ok (.iload_n 1, 1) := by decide +kernel
theorem dX11_raidFrom_5 : decode cX11_raidFrom 5 = .ok (.invokevirtual 71, 3) := by decide +kernel
theorem dX11_raidFrom_8 : decode cX11_raidFrom 8 = .ok (.ifCond .eq 16, 3) := by decide +kernel
theorem dX11_raidFrom_11 : decode cX11_raidFrom 11 = .ok (.iload 4, 2) := by decide +kernel
theorem dX11_raidFrom_13 : decode cX11_raidFrom 13 = .ok (.iconst 1, 1) := by decide +kernel
theorem dX11_raidFrom_14 : decode cX11_raidFrom 14 = .ok (.if_icmp .lt 10, 3) := by decide +kernel
theorem dX11_raidFrom_17 : decode cX11_raidFrom 17 = .ok (.iload 4, 2) := by decide +kernel
theorem dX11_raidFrom_19 : decode cX11_raidFrom 19 = .ok (.bipush 10, 2) := by decide +kernel
theorem dX11_raidFrom_21 : decode cX11_raidFrom 21 = .ok (.if_icmp .le 7, 3) := by decide +kernel
theorem dX11_raidFrom_24 : decode cX11_raidFrom 24 = .ok (.ldc2_w 75, 3) := by decide +kernel
theorem dX11_raidFrom_27 : decode cX11_raidFrom 27 = .ok (.lreturn, 1) := by decide +kernel
theorem dX11_raidFrom_28 : decode cX11_raidFrom 28 = .ok (.aload_n 0, 1) := by decide +kernel
theorem dX11_raidFrom_29 : decode cX11_raidFrom 29 = .ok (.getfield 26, 3) := by decide +kernel
theorem dX11_raidFrom_32 : decode cX11_raidFrom 32 = .ok (.getfield 197, 3) := by decide +kernel
theorem dX11_raidFrom_35 : decode cX11_raidFrom 35 = .ok (.ifCond .ne 7, 3) := by decide +kernel
theorem dX11_raidFrom_38 : decode cX11_raidFrom 38 = .ok (.ldc2_w 201, 3) := by decide +kernel
theorem dX11_raidFrom_41 : decode cX11_raidFrom 41 = .ok (.lreturn, 1) := by decide +kernel
theorem dX11_raidFrom_42 : decode cX11_raidFrom 42 = .ok (.aload_n 0, 1) := by decide +kernel
theorem dX11_raidFrom_43 : decode cX11_raidFrom 43 = .ok (.getfield 12, 3) := by decide +kernel
theorem dX11_raidFrom_46 : decode cX11_raidFrom 46 = .ok (.iload_n 1, 1) := by decide +kernel
theorem dX11_raidFrom_47 : decode cX11_raidFrom 47 = .ok (.invokevirtual 89, 3) := by decide +kernel
theorem dX11_raidFrom_50 : decode cX11_raidFrom 50 = .ok (.ifCond .eq 9, 3) := by decide +kernel
theorem dX11_raidFrom_53 : decode cX11_raidFrom 53 = .ok (.aload_n 0, 1) := by decide +kernel
theorem dX11_raidFrom_54 : decode cX11_raidFrom 54 = .ok (.iconst 1, 1) := by decide +kernel
theorem dX11_raidFrom_55 : decode cX11_raidFrom 55 = .ok (.invokevirtual 77, 3) := by decide +kernel
theorem dX11_raidFrom_58 : decode cX11_raidFrom 58 = .ok (.lreturn, 1) := by decide +kernel
theorem dX11_raidFrom_59 : decode cX11_raidFrom 59 = .ok (.aload_n 0, 1) := by decide +kernel
theorem dX11_raidFrom_60 : decode cX11_raidFrom 60 = .ok (.getfield 12, 3) := by decide +kernel
theorem dX11_raidFrom_63 : decode cX11_raidFrom 63 = .ok (.iload_n 1, 1) := by decide +kernel
theorem dX11_raidFrom_64 : decode cX11_raidFrom 64 = .ok (.iload_n 2, 1) := by decide +kernel
theorem dX11_raidFrom_65 : decode cX11_raidFrom 65 = .ok (.iload 4, 2) := by decide +kernel
theorem dX11_raidFrom_67 : decode cX11_raidFrom 67 = .ok (.invokevirtual 92, 3) := by decide +kernel
theorem dX11_raidFrom_70 : decode cX11_raidFrom 70 = .ok (.ifCond .eq 17, 3) := by decide +kernel
theorem dX11_raidFrom_73 : decode cX11_raidFrom 73 = .ok (.aload_n 0, 1) := by decide +kernel
theorem dX11_raidFrom_74 : decode cX11_raidFrom 74 = .ok (.getfield 12, 3) := by decide +kernel
theorem dX11_raidFrom_77 : decode cX11_raidFrom 77 = .ok (.iload_n 1, 1) := by decide +kernel
theorem dX11_raidFrom_78 : decode cX11_raidFrom 78 = .ok (.iload_n 3, 1) := by decide +kernel
theorem dX11_raidFrom_79 : decode cX11_raidFrom 79 = .ok (.iload 4, 2) := by decide +kernel
theorem dX11_raidFrom_81 : decode cX11_raidFrom 81 = .ok (.invokevirtual 92, 3) := by decide +kernel
theorem dX11_raidFrom_84 : decode cX11_raidFrom 84 = .ok (.ifCond .ne 9, 3) := by decide +kernel
theorem dX11_raidFrom_87 : decode cX11_raidFrom 87 = .ok (.aload_n 0, 1) := by decide +kernel
theorem dX11_raidFrom_88 : decode cX11_raidFrom 88 = .ok (.iconst 2, 1) := by decide +kernel
theorem dX11_raidFrom_89 : decode cX11_raidFrom 89 = .ok (.invokevirtual 77, 3) := by decide +kernel
theorem dX11_raidFrom_92 : decode cX11_raidFrom 92 = .ok (.lreturn, 1) := by decide +kernel
theorem dX11_raidFrom_93 : decode cX11_raidFrom 93 = .ok (.aload_n 0, 1) := by decide +kernel
theorem dX11_raidFrom_94 : decode cX11_raidFrom 94 = .ok (.iload_n 1, 1) := by decide +kernel
theorem dX11_raidFrom_95 : decode cX11_raidFrom 95 = .ok (.iload_n 2, 1) := by decide +kernel
theorem dX11_raidFrom_96 : decode cX11_raidFrom 96 = .ok (.iload 4, 2) := by decide +kernel
theorem dX11_raidFrom_98 : decode cX11_raidFrom 98 = .ok (.invokevirtual 203, 3) := by decide +kernel
theorem dX11_raidFrom_101 : decode cX11_raidFrom 101 = .ok (.ifCond .eq 14, 3) := by decide +kernel
theorem dX11_raidFrom_104 : decode cX11_raidFrom 104 = .ok (.aload_n 0, 1) := by decide +kernel
theorem dX11_raidFrom_105 : decode cX11_raidFrom 105 = .ok (.iload_n 1, 1) := by decide +kernel
theorem dX11_raidFrom_106 : decode cX11_raidFrom 106 = .ok (.iload_n 3, 1) := by decide +kernel
theorem dX11_raidFrom_107 : decode cX11_raidFrom 107 = .ok (.iload 4, 2) := by decide +kernel
theorem dX11_raidFrom_109 : decode cX11_raidFrom 109 = .ok (.invokevirtual 203, 3) := by decide +kernel
theorem dX11_raidFrom_112 : decode cX11_raidFrom 112 = .ok (.ifCond .ne 7, 3) := by decide +kernel
theorem dX11_raidFrom_115 : decode cX11_raidFrom 115 = .ok (.ldc2_w 75, 3) := by decide +kernel
theorem dX11_raidFrom_118 : decode cX11_raidFrom 118 = .ok (.lreturn, 1) := by decide +kernel
theorem dX11_raidFrom_119 : decode cX11_raidFrom 119 = .ok (.aload_n 0, 1) := by decide +kernel
theorem dX11_raidFrom_120 : decode cX11_raidFrom 120 = .ok (.getfield 26, 3) := by decide +kernel
theorem dX11_raidFrom_123 : decode cX11_raidFrom 123 = .ok (.getfield 206, 3) := by decide +kernel
theorem dX11_raidFrom_126 : decode cX11_raidFrom 126 = .ok (.iload 5, 2) := by decide +kernel
theorem dX11_raidFrom_128 : decode cX11_raidFrom 128 = .ok (.invokevirtual 210, 3) := by decide +kernel
theorem dX11_raidFrom_131 : decode cX11_raidFrom 131 = .ok (.aload_n 0, 1) := by decide +kernel
theorem dX11_raidFrom_132 : decode cX11_raidFrom 132 = .ok (.iload_n 1, 1) := by decide +kernel
theorem dX11_raidFrom_133 : decode cX11_raidFrom 133 = .ok (.iload_n 2, 1) := by decide +kernel
theorem dX11_raidFrom_134 : decode cX11_raidFrom 134 = .ok (.iload 4, 2) := by decide +kernel
theorem dX11_raidFrom_136 : decode cX11_raidFrom 136 = .ok (.invokevirtual 216, 3) := by decide +kernel
theorem dX11_raidFrom_139 : decode cX11_raidFrom 139 = .ok (.iload 5, 2) := by decide +kernel
theorem dX11_raidFrom_141 : decode cX11_raidFrom 141 = .ok (.iconst 2, 1) := by decide +kernel
theorem dX11_raidFrom_142 : decode cX11_raidFrom 142 = .ok (.if_icmp .ne 11, 3) := by decide +kernel
theorem dX11_raidFrom_145 : decode cX11_raidFrom 145 = .ok (.aload_n 0, 1) := by decide +kernel
theorem dX11_raidFrom_146 : decode cX11_raidFrom 146 = .ok (.iload_n 1, 1) := by decide +kernel
theorem dX11_raidFrom_147 : decode cX11_raidFrom 147 = .ok (.iload_n 3, 1) := by decide +kernel
theorem dX11_raidFrom_148 : decode cX11_raidFrom 148 = .ok (.iload 4, 2) := by decide +kernel
theorem dX11_raidFrom_150 : decode cX11_raidFrom 150 = .ok (.invokevirtual 216, 3) := by decide +kernel
theorem dX11_raidFrom_153 : decode cX11_raidFrom 153 = .ok (.aload_n 0, 1) := by decide +kernel
theorem dX11_raidFrom_154 : decode cX11_raidFrom 154 = .ok (.getfield 26, 3) := by decide +kernel
theorem dX11_raidFrom_157 : decode cX11_raidFrom 157 = .ok (.getfield 206, 3) := by decide +kernel
theorem dX11_raidFrom_160 : decode cX11_raidFrom 160 = .ok (.aload_n 0, 1) := by decide +kernel
theorem dX11_raidFrom_161 : decode cX11_raidFrom 161 = .ok (.getfield 26, 3) := by decide +kernel
theorem dX11_raidFrom_164 : decode cX11_raidFrom 164 = .ok (.getfield 137, 3) := by decide +kernel
theorem dX11_raidFrom_167 : decode cX11_raidFrom 167 = .ok (.aload_n 0, 1) := by decide +kernel
theorem dX11_raidFrom_168 : decode cX11_raidFrom 168 = .ok (.getfield 26, 3) := by decide +kernel
theorem dX11_raidFrom_171 : decode cX11_raidFrom 171 = .ok (.getfield 162, 3) := by decide +kernel
theorem dX11_raidFrom_174 : decode cX11_raidFrom 174 = .ok (.invokevirtual 219, 3) := by decide +kernel
theorem dX11_raidFrom_177 : decode cX11_raidFrom 177 = .ok (.aload_n 0, 1) := by decide +kernel
theorem dX11_raidFrom_178 : decode cX11_raidFrom 178 = .ok (.aload_n 0, 1) := by decide +kernel
theorem dX11_raidFrom_179 : decode cX11_raidFrom 179 = .ok (.getfield 26, 3) := by decide +kernel
theorem dX11_raidFrom_182 : decode cX11_raidFrom 182 = .ok (.getfield 206, 3) := by decide +kernel
theorem dX11_raidFrom_185 : decode cX11_raidFrom 185 = .ok (.aload_n 0, 1) := by decide +kernel
theorem dX11_raidFrom_186 : decode cX11_raidFrom 186 = .ok (.getfield 26, 3) := by decide +kernel
theorem dX11_raidFrom_189 : decode cX11_raidFrom 189 = .ok (.getfield 162, 3) := by decide +kernel
theorem dX11_raidFrom_192 : decode cX11_raidFrom 192 = .ok (.getfield 223, 3) := by decide +kernel
theorem dX11_raidFrom_195 : decode cX11_raidFrom 195 = .ok (.invokevirtual 226, 3) := by decide +kernel
theorem dX11_raidFrom_198 : decode cX11_raidFrom 198 = .ok (.i2l, 1) := by decide +kernel
theorem dX11_raidFrom_199 : decode cX11_raidFrom 199 = .ok (.invokevirtual 85, 3) := by decide +kernel
theorem dX11_raidFrom_202 : decode cX11_raidFrom 202 = .ok (.lreturn, 1) := by decide +kernel
def fX11_raidFrom_87 (M : jw_M) : Option (Int × jw_M) :=
  jw_b2 (fX11_found 2 M) (fun v5 M6 => some (v5, M6))
set_option maxRecDepth 100000 in
theorem pX11_raidFrom_87 (G : jw_G) : ∀ (M : jw_M), jw_Rn G YX11_raidFrom 5 0 0 true (fun q => q) 87 [(0, jR G 0)] [] M (fX11_raidFrom_87 M) := by
  intro M
  unfold fX11_raidFrom_87
  refine jw_aloadR (pc := 87) 0 dX11_raidFrom_87 rfl ?_
  refine jw_iconst (pc := 88) dX11_raidFrom_88 ?_
  refine jw_callVMl (pc := 89) (As := [jI 2]) (st := []) dX11_raidFrom_89 rfl (Nat.le_of_ble_eq_true rfl) qX11_found jt_415 jt_417 jp_0 rfl rfl (Nat.le_of_ble_eq_true rfl) jv_11 rfl jg_0 jl_0 (by decide) (jw_ho jg_0 (by decide)) (kX11_found G 2 (jw_rc _ rfl) M) (fun v5 M6 hv5 => ?_)
  exact jw_ret (pc := 92) (v := v5) dX11_raidFrom_92 hv5 rfl rfl
def fX11_raidFrom_153 (M : jw_M) : Option (Int × jw_M) :=
  Option.bind (fX3_judge (9 + 15) (9 + 1) (9 + 8) M) (fun M13 => Option.bind (fX3_caughtBits (9 + 15) (M13 (9 + 8) 4) M13) (fun v15 => jw_b2 (fX11_foundNothing v15 M13) (fun v16 M17 => some (v16, M17))))
set_option maxRecDepth 100000 in
theorem pX11_raidFrom_153 (G : jw_G) : ∀ (M : jw_M), jw_Rn G YX11_raidFrom 5 0 0 true (fun q => q) 153 [(0, jR G 0)] [] M (fX11_raidFrom_153 M) := by
  intro M
  unfold fX11_raidFrom_153
  refine jw_aloadR (pc := 153) 0 dX11_raidFrom_153 rfl ?_
  refine jw_getR (pc := 154) (j := 2) rfl dX11_raidFrom_154 jv_11 ji_11 (Or.inl jt_374) jg_0 jl_0 (by decide) (by decide) rfl jf_11_2 ?_
  refine jw_getR (pc := 157) (j := 3) rfl dX11_raidFrom_157 jv_7 ji_7 (Or.inr ⟨_, jt_273⟩) jg_9 jl_9 (by decide) (by decide) rfl (jf_7_3 jg_9).1 ?_
  refine jw_aloadR (pc := 160) 0 dX11_raidFrom_160 rfl ?_
  refine jw_getR (pc := 161) (j := 2) rfl dX11_raidFrom_161 jv_11 ji_11 (Or.inl jt_374) jg_0 jl_0 (by decide) (by decide) rfl jf_11_2 ?_
  refine jw_getR (pc := 164) (j := 1) rfl dX11_raidFrom_164 jv_7 ji_7 (Or.inr ⟨_, jt_264⟩) jg_9 jl_9 (by decide) (by decide) rfl (jf_7_1 jg_9).1 ?_
  refine jw_aloadR (pc := 167) 0 dX11_raidFrom_167 rfl ?_
  refine jw_getR (pc := 168) (j := 2) rfl dX11_raidFrom_168 jv_11 ji_11 (Or.inl jt_374) jg_0 jl_0 (by decide) (by decide) rfl jf_11_2 ?_
  refine jw_getR (pc := 171) (j := 2) rfl dX11_raidFrom_171 jv_7 ji_7 (Or.inr ⟨_, jt_269⟩) jg_9 jl_9 (by decide) (by decide) rfl (jf_7_2 jg_9).1 ?_
  refine jw_callVM (pc := 174) (As := [jR G (9 + 1), jR G (9 + 8)]) (st := []) dX11_raidFrom_174 rfl (Nat.le_of_ble_eq_true rfl) qX3_judge jt_809 jt_810 jt_811 rfl rfl (Nat.le_of_ble_eq_true rfl) jv_3 rfl (jf_7_3 jg_9).2.1 (jf_7_3 jg_9).2.2 (by decide) (jw_ho (jf_7_3 jg_9).2.1 (by decide)) (kX3_judge G (9 + 15) (9 + 1) (9 + 8) M) (fun M13 => ?_)
  refine jw_aloadR (pc := 177) 0 dX11_raidFrom_177 rfl ?_
  refine jw_aloadR (pc := 178) 0 dX11_raidFrom_178 rfl ?_
  refine jw_getR (pc := 179) (j := 2) rfl dX11_raidFrom_179 jv_11 ji_11 (Or.inl jt_374) jg_0 jl_0 (by decide) (by decide) rfl jf_11_2 ?_
  refine jw_getR (pc := 182) (j := 3) rfl dX11_raidFrom_182 jv_7 ji_7 (Or.inr ⟨_, jt_273⟩) jg_9 jl_9 (by decide) (by decide) rfl (jf_7_3 jg_9).1 ?_
  refine jw_aloadR (pc := 185) 0 dX11_raidFrom_185 rfl ?_
  refine jw_getR (pc := 186) (j := 2) rfl dX11_raidFrom_186 jv_11 ji_11 (Or.inl jt_374) jg_0 jl_0 (by decide) (by decide) rfl jf_11_2 ?_
  refine jw_getR (pc := 189) (j := 2) rfl dX11_raidFrom_189 jv_7 ji_7 (Or.inr ⟨_, jt_269⟩) jg_9 jl_9 (by decide) (by decide) rfl (jf_7_2 jg_9).1 ?_
  refine jw_getI (pc := 192) (j := 4) rfl dX11_raidFrom_192 jv_10 ji_10 (Or.inr ⟨_, jt_155⟩) (jf_7_2 jg_9).2.1 (jf_7_2 jg_9).2.2 (by decide) (by decide) (jw_ho (jf_7_2 jg_9).2.1 (by decide)) (Or.inl rfl) rfl (fun h14 => ?_)
  refine jw_callVi (pc := 195) (As := [jI (M13 (9 + 8) 4)]) (st := [jR G 0]) dX11_raidFrom_195 rfl (Nat.le_of_ble_eq_true rfl) qX3_caughtBits jt_833 jt_834 jt_835 rfl rfl (Nat.le_of_ble_eq_true rfl) jv_3 rfl (jf_7_3 jg_9).2.1 (jf_7_3 jg_9).2.2 (by decide) (jw_ho (jf_7_3 jg_9).2.1 (by decide)) (kX3_caughtBits G (9 + 15) (M13 (9 + 8) 4) h14 M13) (fun v15 hv15 => ?_)
  refine jw_i2lr (pc := 198) dX11_raidFrom_198 hv15 ?_
  refine jw_callVMl (pc := 199) (As := [jL v15]) (st := []) dX11_raidFrom_199 rfl (Nat.le_of_ble_eq_true rfl) qX11_foundNothing jt_430 jt_432 jp_1 rfl rfl (Nat.le_of_ble_eq_true rfl) jv_11 rfl jg_0 jl_0 (by decide) (jw_ho jg_0 (by decide)) (kX11_foundNothing G v15 (jw_rq hv15) M13) (fun v16 M17 hv16 => ?_)
  exact jw_ret (pc := 202) (v := v16) dX11_raidFrom_202 hv16 rfl rfl
def fX11_raidFrom (a1 : Int) (a2 : Int) (a3 : Int) (a4 : Int) (a5 : Int) (M : jw_M) : Option (Int × jw_M) :=
  Option.bind (fX6_isRow a1 M) (fun v1 => if v1 = 0 then (some ((-9000000000000000001), M)) else (if a4 < 1 then (some ((-9000000000000000001), M)) else (if (10 : Int) < a4 then (some ((-9000000000000000001), M)) else (if M 9 0 = 0 then (some ((-9000000000000000002), M)) else (Option.bind (fX6_isMissing a1 M) (fun v3 => if v3 = 0 then (Option.bind (fX6_hasPlaces a1 a2 a4 M) (fun v4 => if v4 = 0 then (fX11_raidFrom_87 M) else (Option.bind (fX6_hasPlaces a1 a3 a4 M) (fun v7 => if v7 = 0 then (fX11_raidFrom_87 M) else (Option.bind (fX11_isRoute a1 a2 a4 M) (fun v8 => if v8 = 0 then (some ((-9000000000000000001), M)) else (Option.bind (fX11_isRoute a1 a3 a4 M) (fun v9 => if v9 = 0 then (some ((-9000000000000000001), M)) else (Option.bind (fX3_begin (9 + 15) a5 M) (fun M10 => Option.bind (fX11_walkRoute a1 a2 a4 M10) (fun M11 => if a5 = 2 then (Option.bind (fX11_walkRoute a1 a3 a4 M11) (fun M12 => fX11_raidFrom_153 M12)) else (fX11_raidFrom_153 M11)))))))))))) else (jw_b2 (fX11_found 1 M) (fun v18 M19 => some (v18, M19)))))))))
set_option maxRecDepth 100000 in
theorem rX11_raidFrom (G : jw_G) (a1 : Int) (a2 : Int) (a3 : Int) (a4 : Int) (a5 : Int) (ha1 : jw_r a1) (ha2 : jw_r a2) (ha3 : jw_r a3) (ha4 : jw_r a4) (ha5 : jw_r a5) (M : jw_M) : jw_Rn G YX11_raidFrom 5 0 0 true (fun q => q) 0 [(0, jR G 0), (1, jI a1), (2, jI a2), (3, jI a3), (4, jI a4), (5, jI a5)] [] M (fX11_raidFrom a1 a2 a3 a4 a5 M) := by
  unfold fX11_raidFrom
  refine jw_aloadR (pc := 0) 0 dX11_raidFrom_0 rfl ?_
  refine jw_getR (pc := 1) (j := 0) rfl dX11_raidFrom_1 jv_11 ji_11 (Or.inl jt_372) jg_0 jl_0 (by decide) (by decide) rfl jf_11_0 ?_
  refine jw_iload_n (pc := 4) 1 dX11_raidFrom_4 rfl ?_
  refine jw_callVz (pc := 5) (As := [jI a1]) (st := []) dX11_raidFrom_5 rfl (Nat.le_of_ble_eq_true rfl) qX6_isRow jt_410 jt_411 jt_412 rfl rfl (Nat.le_of_ble_eq_true rfl) jv_6 rfl jg_1 jl_1 (by decide) (jw_ho jg_1 (by decide)) (kX6_isRow G a1 ha1 M) (fun v1 hv1 => ?_)
  refine jw_if_eq (pc := 8) 24 dX11_raidFrom_8 (by decide) (jw_bz hv1) (fun _ => ?_) (fun _ => ?_)
  · refine jw_ldc2 (pc := 24) (n := (-9000000000000000001)) dX11_raidFrom_24 jt_414 (by decide) ?_
    exact jw_ret (pc := 27) (v := (-9000000000000000001)) dX11_raidFrom_27 (jw_qc _ rfl) rfl rfl
  · refine jw_iload (pc := 11) 4 dX11_raidFrom_11 rfl ?_
    refine jw_iconst (pc := 13) dX11_raidFrom_13 ?_
    refine jw_ic_lt (pc := 14) 24 dX11_raidFrom_14 (by decide) ha4 (jw_rc _ rfl) (fun _ => ?_) (fun _ => ?_)
    · refine jw_ldc2 (pc := 24) (n := (-9000000000000000001)) dX11_raidFrom_24 jt_414 (by decide) ?_
      exact jw_ret (pc := 27) (v := (-9000000000000000001)) dX11_raidFrom_27 (jw_qc _ rfl) rfl rfl
    · refine jw_iload (pc := 17) 4 dX11_raidFrom_17 rfl ?_
      refine jw_bipush (pc := 19) dX11_raidFrom_19 rfl ?_
      refine jw_ic_le (pc := 21) 28 dX11_raidFrom_21 (by decide) ha4 (jw_rc _ rfl) (fun _ => ?_) (fun _ => ?_)
      · refine jw_ldc2 (pc := 24) (n := (-9000000000000000001)) dX11_raidFrom_24 jt_414 (by decide) ?_
        exact jw_ret (pc := 27) (v := (-9000000000000000001)) dX11_raidFrom_27 (jw_qc _ rfl) rfl rfl
      · refine jw_aloadR (pc := 28) 0 dX11_raidFrom_28 rfl ?_
        refine jw_getR (pc := 29) (j := 2) rfl dX11_raidFrom_29 jv_11 ji_11 (Or.inl jt_374) jg_0 jl_0 (by decide) (by decide) rfl jf_11_2 ?_
        refine jw_getI (pc := 32) (j := 0) rfl dX11_raidFrom_32 jv_7 ji_7 (Or.inr ⟨_, jt_258⟩) jg_9 jl_9 (by decide) (by decide) (jw_ho jg_9 (by decide)) (Or.inr rfl) rfl (fun h2 => ?_)
        refine jw_if_ne (pc := 35) 42 dX11_raidFrom_35 (by decide) h2 (fun _ => ?_) (fun _ => ?_)
        · refine jw_ldc2 (pc := 38) (n := (-9000000000000000002)) dX11_raidFrom_38 jt_789 (by decide) ?_
          exact jw_ret (pc := 41) (v := (-9000000000000000002)) dX11_raidFrom_41 (jw_qc _ rfl) rfl rfl
        · refine jw_aloadR (pc := 42) 0 dX11_raidFrom_42 rfl ?_
          refine jw_getR (pc := 43) (j := 0) rfl dX11_raidFrom_43 jv_11 ji_11 (Or.inl jt_372) jg_0 jl_0 (by decide) (by decide) rfl jf_11_0 ?_
          refine jw_iload_n (pc := 46) 1 dX11_raidFrom_46 rfl ?_
          refine jw_callVz (pc := 47) (As := [jI a1]) (st := []) dX11_raidFrom_47 rfl (Nat.le_of_ble_eq_true rfl) qX6_isMissing jt_438 jt_439 jt_440 rfl rfl (Nat.le_of_ble_eq_true rfl) jv_6 rfl jg_1 jl_1 (by decide) (jw_ho jg_1 (by decide)) (kX6_isMissing G a1 ha1 M) (fun v3 hv3 => ?_)
          refine jw_if_eq (pc := 50) 59 dX11_raidFrom_50 (by decide) (jw_bz hv3) (fun _ => ?_) (fun _ => ?_)
          · refine jw_aloadR (pc := 59) 0 dX11_raidFrom_59 rfl ?_
            refine jw_getR (pc := 60) (j := 0) rfl dX11_raidFrom_60 jv_11 ji_11 (Or.inl jt_372) jg_0 jl_0 (by decide) (by decide) rfl jf_11_0 ?_
            refine jw_iload_n (pc := 63) 1 dX11_raidFrom_63 rfl ?_
            refine jw_iload_n (pc := 64) 2 dX11_raidFrom_64 rfl ?_
            refine jw_iload (pc := 65) 4 dX11_raidFrom_65 rfl ?_
            refine jw_callVz (pc := 67) (As := [jI a1, jI a2, jI a4]) (st := []) dX11_raidFrom_67 rfl (Nat.le_of_ble_eq_true rfl) qX6_hasPlaces jt_442 jt_443 jt_444 rfl rfl (Nat.le_of_ble_eq_true rfl) jv_6 rfl jg_1 jl_1 (by decide) (jw_ho jg_1 (by decide)) (kX6_hasPlaces G a1 a2 a4 ha1 ha2 ha4 M) (fun v4 hv4 => ?_)
            refine jw_if_eq (pc := 70) 87 dX11_raidFrom_70 (by decide) (jw_bz hv4) (fun _ => ?_) (fun _ => ?_)
            · exact jw_few [0] rfl (pX11_raidFrom_87 G M)
            · refine jw_aloadR (pc := 73) 0 dX11_raidFrom_73 rfl ?_
              refine jw_getR (pc := 74) (j := 0) rfl dX11_raidFrom_74 jv_11 ji_11 (Or.inl jt_372) jg_0 jl_0 (by decide) (by decide) rfl jf_11_0 ?_
              refine jw_iload_n (pc := 77) 1 dX11_raidFrom_77 rfl ?_
              refine jw_iload_n (pc := 78) 3 dX11_raidFrom_78 rfl ?_
              refine jw_iload (pc := 79) 4 dX11_raidFrom_79 rfl ?_
              refine jw_callVz (pc := 81) (As := [jI a1, jI a3, jI a4]) (st := []) dX11_raidFrom_81 rfl (Nat.le_of_ble_eq_true rfl) qX6_hasPlaces jt_442 jt_443 jt_444 rfl rfl (Nat.le_of_ble_eq_true rfl) jv_6 rfl jg_1 jl_1 (by decide) (jw_ho jg_1 (by decide)) (kX6_hasPlaces G a1 a3 a4 ha1 ha3 ha4 M) (fun v7 hv7 => ?_)
              refine jw_if_ne (pc := 84) 93 dX11_raidFrom_84 (by decide) (jw_bz hv7) (fun _ => ?_) (fun _ => ?_)
              · exact jw_few [0] rfl (pX11_raidFrom_87 G M)
              · refine jw_aloadR (pc := 93) 0 dX11_raidFrom_93 rfl ?_
                refine jw_iload_n (pc := 94) 1 dX11_raidFrom_94 rfl ?_
                refine jw_iload_n (pc := 95) 2 dX11_raidFrom_95 rfl ?_
                refine jw_iload (pc := 96) 4 dX11_raidFrom_96 rfl ?_
                refine jw_callVz (pc := 98) (As := [jI a1, jI a2, jI a4]) (st := []) dX11_raidFrom_98 rfl (Nat.le_of_ble_eq_true rfl) qX11_isRoute jt_790 jt_792 jp_13 rfl rfl (Nat.le_of_ble_eq_true rfl) jv_11 rfl jg_0 jl_0 (by decide) (jw_ho jg_0 (by decide)) (kX11_isRoute G a1 a2 a4 ha1 ha2 ha4 M) (fun v8 hv8 => ?_)
                refine jw_if_eq (pc := 101) 115 dX11_raidFrom_101 (by decide) (jw_bz hv8) (fun _ => ?_) (fun _ => ?_)
                · refine jw_ldc2 (pc := 115) (n := (-9000000000000000001)) dX11_raidFrom_115 jt_414 (by decide) ?_
                  exact jw_ret (pc := 118) (v := (-9000000000000000001)) dX11_raidFrom_118 (jw_qc _ rfl) rfl rfl
                · refine jw_aloadR (pc := 104) 0 dX11_raidFrom_104 rfl ?_
                  refine jw_iload_n (pc := 105) 1 dX11_raidFrom_105 rfl ?_
                  refine jw_iload_n (pc := 106) 3 dX11_raidFrom_106 rfl ?_
                  refine jw_iload (pc := 107) 4 dX11_raidFrom_107 rfl ?_
                  refine jw_callVz (pc := 109) (As := [jI a1, jI a3, jI a4]) (st := []) dX11_raidFrom_109 rfl (Nat.le_of_ble_eq_true rfl) qX11_isRoute jt_790 jt_792 jp_13 rfl rfl (Nat.le_of_ble_eq_true rfl) jv_11 rfl jg_0 jl_0 (by decide) (jw_ho jg_0 (by decide)) (kX11_isRoute G a1 a3 a4 ha1 ha3 ha4 M) (fun v9 hv9 => ?_)
                  refine jw_if_ne (pc := 112) 119 dX11_raidFrom_112 (by decide) (jw_bz hv9) (fun _ => ?_) (fun _ => ?_)
                  · refine jw_ldc2 (pc := 115) (n := (-9000000000000000001)) dX11_raidFrom_115 jt_414 (by decide) ?_
                    exact jw_ret (pc := 118) (v := (-9000000000000000001)) dX11_raidFrom_118 (jw_qc _ rfl) rfl rfl
                  · refine jw_aloadR (pc := 119) 0 dX11_raidFrom_119 rfl ?_
                    refine jw_getR (pc := 120) (j := 2) rfl dX11_raidFrom_120 jv_11 ji_11 (Or.inl jt_374) jg_0 jl_0 (by decide) (by decide) rfl jf_11_2 ?_
                    refine jw_getR (pc := 123) (j := 3) rfl dX11_raidFrom_123 jv_7 ji_7 (Or.inr ⟨_, jt_273⟩) jg_9 jl_9 (by decide) (by decide) rfl (jf_7_3 jg_9).1 ?_
                    refine jw_iload (pc := 126) 5 dX11_raidFrom_126 rfl ?_
                    refine jw_callVM (pc := 128) (As := [jI a5]) (st := []) dX11_raidFrom_128 rfl (Nat.le_of_ble_eq_true rfl) qX3_begin jt_799 jt_515 jt_516 rfl rfl (Nat.le_of_ble_eq_true rfl) jv_3 rfl (jf_7_3 jg_9).2.1 (jf_7_3 jg_9).2.2 (by decide) (jw_ho (jf_7_3 jg_9).2.1 (by decide)) (kX3_begin G (9 + 15) a5 ha5 M) (fun M10 => ?_)
                    refine jw_aloadR (pc := 131) 0 dX11_raidFrom_131 rfl ?_
                    refine jw_iload_n (pc := 132) 1 dX11_raidFrom_132 rfl ?_
                    refine jw_iload_n (pc := 133) 2 dX11_raidFrom_133 rfl ?_
                    refine jw_iload (pc := 134) 4 dX11_raidFrom_134 rfl ?_
                    refine jw_callVM (pc := 136) (As := [jI a1, jI a2, jI a4]) (st := []) dX11_raidFrom_136 rfl (Nat.le_of_ble_eq_true rfl) qX11_walkRoute jt_800 jt_802 jp_14 rfl rfl (Nat.le_of_ble_eq_true rfl) jv_11 rfl jg_0 jl_0 (by decide) (jw_ho jg_0 (by decide)) (kX11_walkRoute G a1 a2 a4 ha1 ha2 ha4 M10) (fun M11 => ?_)
                    refine jw_iload (pc := 139) 5 dX11_raidFrom_139 rfl ?_
                    refine jw_iconst (pc := 141) dX11_raidFrom_141 ?_
                    refine jw_ic_ne (pc := 142) 153 dX11_raidFrom_142 (by decide) ha5 (jw_rc _ rfl) (fun _ => ?_) (fun _ => ?_)
                    · refine jw_aloadR (pc := 145) 0 dX11_raidFrom_145 rfl ?_
                      refine jw_iload_n (pc := 146) 1 dX11_raidFrom_146 rfl ?_
                      refine jw_iload_n (pc := 147) 3 dX11_raidFrom_147 rfl ?_
                      refine jw_iload (pc := 148) 4 dX11_raidFrom_148 rfl ?_
                      refine jw_callVM (pc := 150) (As := [jI a1, jI a3, jI a4]) (st := []) dX11_raidFrom_150 rfl (Nat.le_of_ble_eq_true rfl) qX11_walkRoute jt_800 jt_802 jp_14 rfl rfl (Nat.le_of_ble_eq_true rfl) jv_11 rfl jg_0 jl_0 (by decide) (jw_ho jg_0 (by decide)) (kX11_walkRoute G a1 a3 a4 ha1 ha3 ha4 M11) (fun M12 => ?_)
                      exact jw_few [0] rfl (pX11_raidFrom_153 G M12)
                    · exact jw_few [0] rfl (pX11_raidFrom_153 G M11)
          · refine jw_aloadR (pc := 53) 0 dX11_raidFrom_53 rfl ?_
            refine jw_iconst (pc := 54) dX11_raidFrom_54 ?_
            refine jw_callVMl (pc := 55) (As := [jI 1]) (st := []) dX11_raidFrom_55 rfl (Nat.le_of_ble_eq_true rfl) qX11_found jt_415 jt_417 jp_0 rfl rfl (Nat.le_of_ble_eq_true rfl) jv_11 rfl jg_0 jl_0 (by decide) (jw_ho jg_0 (by decide)) (kX11_found G 1 (jw_rc _ rfl) M) (fun v18 M19 hv18 => ?_)
            exact jw_ret (pc := 58) (v := v18) dX11_raidFrom_58 hv18 rfl rfl
theorem kX11_raidFrom (G : jw_G) (a1 : Int) (a2 : Int) (a3 : Int) (a4 : Int) (a5 : Int) (ha1 : jw_r a1) (ha2 : jw_r a2) (ha3 : jw_r a3) (ha4 : jw_r a4) (ha5 : jw_r a5) (M : jw_M) : jw_Ct G YX11_raidFrom (some .long) 5 0 0 true (fun q => q) yX11_raidFrom [jR G 0, jI a1, jI a2, jI a3, jI a4, jI a5] M (fX11_raidFrom a1 a2 a3 a4 a5 M) := jw_met (by decide) rfl rfl rfl (Nat.le_of_ble_eq_true rfl) (rX11_raidFrom G a1 a2 a3 a4 a5 ha1 ha2 ha3 ha4 ha5 M)
abbrev YX11_raid : jw_Y := (RX11, cX11_raid, 4, 2, "raid")
theorem qX11_raid : jw_cy YX11_raid (some .long) yX11_raid 3 := ⟨by decide, jt_784, jt_1, by decide, by decide +kernel⟩
theorem dX11_raid_0 : decode cX11_raid 0 = .ok (.aload_n 0, 1) := by decide +kernel
theorem dX11_raid_1 : decode cX11_raid 1 = .ok (.iload_n 1, 1) := by decide +kernel
theorem dX11_raid_2 : decode cX11_raid 2 = .ok (.iload_n 2, 1) := by decide +kernel
theorem dX11_raid_3 : decode cX11_raid 3 = .ok (.iload_n 2, 1) := by decide +kernel
theorem dX11_raid_4 : decode cX11_raid 4 = .ok (.iload_n 3, 1) := by decide +kernel
theorem dX11_raid_5 : decode cX11_raid 5 = .ok (.iconst 1, 1) := by decide +kernel
theorem dX11_raid_6 : decode cX11_raid 6 = .ok (.invokevirtual 193, 3) := by decide +kernel
theorem dX11_raid_9 : decode cX11_raid 9 = .ok (.lreturn, 1) := by decide +kernel
def fX11_raid (a1 : Int) (a2 : Int) (a3 : Int) (M : jw_M) : Option (Int × jw_M) :=
  jw_b2 (fX11_raidFrom a1 a2 a2 a3 1 M) (fun v1 M2 => some (v1, M2))
set_option maxRecDepth 100000 in
theorem rX11_raid (G : jw_G) (a1 : Int) (a2 : Int) (a3 : Int) (ha1 : jw_r a1) (ha2 : jw_r a2) (ha3 : jw_r a3) (M : jw_M) : jw_Rn G YX11_raid 6 0 0 true (fun q => q) 0 [(0, jR G 0), (1, jI a1), (2, jI a2), (3, jI a3)] [] M (fX11_raid a1 a2 a3 M) := by
  unfold fX11_raid
  refine jw_aloadR (pc := 0) 0 dX11_raid_0 rfl ?_
  refine jw_iload_n (pc := 1) 1 dX11_raid_1 rfl ?_
  refine jw_iload_n (pc := 2) 2 dX11_raid_2 rfl ?_
  refine jw_iload_n (pc := 3) 2 dX11_raid_3 rfl ?_
  refine jw_iload_n (pc := 4) 3 dX11_raid_4 rfl ?_
  refine jw_iconst (pc := 5) dX11_raid_5 ?_
  refine jw_callVMl (pc := 6) (As := [jI a1, jI a2, jI a2, jI a3, jI 1]) (st := []) dX11_raid_6 rfl (Nat.le_of_ble_eq_true rfl) qX11_raidFrom jt_785 jt_787 jp_12 rfl rfl (Nat.le_of_ble_eq_true rfl) jv_11 rfl jg_0 jl_0 (by decide) (jw_ho jg_0 (by decide)) (kX11_raidFrom G a1 a2 a2 a3 1 ha1 ha2 ha2 ha3 (jw_rc _ rfl) M) (fun v1 M2 hv1 => ?_)
  exact jw_ret (pc := 9) (v := v1) dX11_raid_9 hv1 rfl rfl
theorem kX11_raid (G : jw_G) (a1 : Int) (a2 : Int) (a3 : Int) (ha1 : jw_r a1) (ha2 : jw_r a2) (ha3 : jw_r a3) (M : jw_M) : jw_Ct G YX11_raid (some .long) 6 0 0 true (fun q => q) yX11_raid [jR G 0, jI a1, jI a2, jI a3] M (fX11_raid a1 a2 a3 M) := jw_met (by decide) rfl rfl rfl (Nat.le_of_ble_eq_true rfl) (rX11_raid G a1 a2 a3 ha1 ha2 ha3 M)
abbrev YX11_two : jw_Y := (RX11, cX11_two, 5, 2, "two")
theorem qX11_two : jw_cy YX11_two (some .long) yX11_two 4 := ⟨by decide, jt_840, jt_1, by decide, by decide +kernel⟩
theorem dX11_two_0 : decode cX11_two 0 = .ok (.aload_n 0, 1) := by decide +kernel
theorem dX11_two_1 : decode cX11_two 1 = .ok (.iload_n 1, 1) := by decide +kernel
theorem dX11_two_2 : decode cX11_two 2 = .ok (.iload_n 2, 1) := by decide +kernel
theorem dX11_two_3 : decode cX11_two 3 = .ok (.iload_n 3, 1) := by decide +kernel
theorem dX11_two_4 : decode cX11_two 4 = .ok (.iload 4, 2) := by decide +kernel
theorem dX11_two_6 : decode cX11_two 6 = .ok (.iconst 2, 1) := by decide +kernel
theorem dX11_two_7 : decode cX11_two 7 = .ok (.invokevirtual 193, 3) := by decide +kernel
theorem dX11_two_10 : decode cX11_two 10 = .ok (.lreturn, 1) := by decide +kernel
def fX11_two (a1 : Int) (a2 : Int) (a3 : Int) (a4 : Int) (M : jw_M) : Option (Int × jw_M) :=
  jw_b2 (fX11_raidFrom a1 a2 a3 a4 2 M) (fun v1 M2 => some (v1, M2))
set_option maxRecDepth 100000 in
theorem rX11_two (G : jw_G) (a1 : Int) (a2 : Int) (a3 : Int) (a4 : Int) (ha1 : jw_r a1) (ha2 : jw_r a2) (ha3 : jw_r a3) (ha4 : jw_r a4) (M : jw_M) : jw_Rn G YX11_two 6 0 0 true (fun q => q) 0 [(0, jR G 0), (1, jI a1), (2, jI a2), (3, jI a3), (4, jI a4)] [] M (fX11_two a1 a2 a3 a4 M) := by
  unfold fX11_two
  refine jw_aloadR (pc := 0) 0 dX11_two_0 rfl ?_
  refine jw_iload_n (pc := 1) 1 dX11_two_1 rfl ?_
  refine jw_iload_n (pc := 2) 2 dX11_two_2 rfl ?_
  refine jw_iload_n (pc := 3) 3 dX11_two_3 rfl ?_
  refine jw_iload (pc := 4) 4 dX11_two_4 rfl ?_
  refine jw_iconst (pc := 6) dX11_two_6 ?_
  refine jw_callVMl (pc := 7) (As := [jI a1, jI a2, jI a3, jI a4, jI 2]) (st := []) dX11_two_7 rfl (Nat.le_of_ble_eq_true rfl) qX11_raidFrom jt_785 jt_787 jp_12 rfl rfl (Nat.le_of_ble_eq_true rfl) jv_11 rfl jg_0 jl_0 (by decide) (jw_ho jg_0 (by decide)) (kX11_raidFrom G a1 a2 a3 a4 2 ha1 ha2 ha3 ha4 (jw_rc _ rfl) M) (fun v1 M2 hv1 => ?_)
  exact jw_ret (pc := 10) (v := v1) dX11_two_10 hv1 rfl rfl
theorem kX11_two (G : jw_G) (a1 : Int) (a2 : Int) (a3 : Int) (a4 : Int) (ha1 : jw_r a1) (ha2 : jw_r a2) (ha3 : jw_r a3) (ha4 : jw_r a4) (M : jw_M) : jw_Ct G YX11_two (some .long) 6 0 0 true (fun q => q) yX11_two [jR G 0, jI a1, jI a2, jI a3, jI a4] M (fX11_two a1 a2 a3 a4 M) := jw_met (by decide) rfl rfl rfl (Nat.le_of_ble_eq_true rfl) (rX11_two G a1 a2 a3 a4 ha1 ha2 ha3 ha4 M)
abbrev YX11_goneOf : jw_Y := (RX11, cX11_goneOf, 2, 2, "goneOf")
theorem qX11_goneOf : jw_cy YX11_goneOf (some .long) yX11_goneOf 1 := ⟨by decide, jt_848, jt_1, by decide, by decide +kernel⟩
theorem dX11_goneOf_0 : decode cX11_goneOf 0 = .ok (.aload_n 0, 1) := by decide +kernel
theorem dX11_goneOf_1 : decode cX11_goneOf 1 = .ok (.getfield 26, 3) := by decide +kernel
theorem dX11_goneOf_4 : decode cX11_goneOf 4 = .ok (.getfield 206, 3) := by decide +kernel
theorem dX11_goneOf_7 : decode cX11_goneOf 7 = .ok (.getfield 248, 3) := by decide +kernel
theorem dX11_goneOf_10 : decode cX11_goneOf 10 = .ok (.iload_n 1, 1) := by decide +kernel
theorem dX11_goneOf_11 : decode cX11_goneOf 11 = .ok (.iaload, 1) := by decide +kernel
theorem dX11_goneOf_12 : decode cX11_goneOf 12 = .ok (.iconst 1, 1) := by decide +kernel
theorem dX11_goneOf_13 : decode cX11_goneOf 13 = .ok (.if_icmp .ne 15, 3) := by decide +kernel
theorem dX11_goneOf_16 : decode cX11_goneOf 16 = .ok (.aload_n 0, 1) := by decide +kernel
theorem dX11_goneOf_17 : decode cX11_goneOf 17 = .ok (.getfield 26, 3) := by decide +kernel
theorem dX11_goneOf_20 : decode cX11_goneOf 20 = .ok (.iload_n 1, 1) := by decide +kernel
theorem dX11_goneOf_21 : decode cX11_goneOf 21 = .ok (.invokevirtual 258, 3) := by decide +kernel
theorem dX11_goneOf_24 : decode cX11_goneOf 24 = .ok (.i2l, 1) := by decide +kernel
theorem dX11_goneOf_25 : decode cX11_goneOf 25 = .ok (.goto 4, 3) := by decide +kernel
theorem dX11_goneOf_28 : decode cX11_goneOf 28 = .ok (.lconst 0, 1) := by decide +kernel
theorem dX11_goneOf_29 : decode cX11_goneOf 29 = .ok (.lreturn, 1) := by decide +kernel
def fX11_goneOf (a1 : Int) (M : jw_M) : Option Int :=
  if 0 ≤ a1 ∧ a1 < 5 then if M ((9 + 15) + 4) a1 = 1 then (Option.bind (fX7_minutesGone 9 a1 M) (fun v2 => some v2)) else (some 0) else none
set_option maxRecDepth 100000 in
theorem rX11_goneOf (G : jw_G) (a1 : Int) (ha1 : jw_r a1) (M : jw_M) : jw_Rn G YX11_goneOf 3 0 0 true (fun v => (v, M)) 0 [(0, jR G 0), (1, jI a1)] [] M (fX11_goneOf a1 M) := by
  unfold fX11_goneOf
  refine jw_aloadR (pc := 0) 0 dX11_goneOf_0 rfl ?_
  refine jw_getR (pc := 1) (j := 2) rfl dX11_goneOf_1 jv_11 ji_11 (Or.inl jt_374) jg_0 jl_0 (by decide) (by decide) rfl jf_11_2 ?_
  refine jw_getR (pc := 4) (j := 3) rfl dX11_goneOf_4 jv_7 ji_7 (Or.inr ⟨_, jt_273⟩) jg_9 jl_9 (by decide) (by decide) rfl (jf_7_3 jg_9).1 ?_
  refine jw_getR (pc := 7) (j := 5) rfl dX11_goneOf_7 jv_3 ji_3 (Or.inr ⟨_, jt_208⟩) (jf_7_3 jg_9).2.1 (jf_7_3 jg_9).2.2 (by decide) (by decide) rfl (jf_3_5 (jf_7_3 jg_9).2.1).1 ?_
  refine jw_iload_n (pc := 10) 1 dX11_goneOf_10 rfl ?_
  refine jw_iald (pc := 11) dX11_goneOf_11 (jf_3_5 (jf_7_3 jg_9).2.1).2.1 (jf_3_5 (jf_7_3 jg_9).2.1).2.2 (jw_ho (jf_3_5 (jf_7_3 jg_9).2.1).2.1 (by decide)) ha1 rfl (fun h1 => ?_)
  refine jw_iconst (pc := 12) dX11_goneOf_12 ?_
  refine jw_ic_ne (pc := 13) 28 dX11_goneOf_13 (by decide) h1 (jw_rc _ rfl) (fun _ => ?_) (fun _ => ?_)
  · refine jw_aloadR (pc := 16) 0 dX11_goneOf_16 rfl ?_
    refine jw_getR (pc := 17) (j := 2) rfl dX11_goneOf_17 jv_11 ji_11 (Or.inl jt_374) jg_0 jl_0 (by decide) (by decide) rfl jf_11_2 ?_
    refine jw_iload_n (pc := 20) 1 dX11_goneOf_20 rfl ?_
    refine jw_callVi (pc := 21) (As := [jI a1]) (st := []) dX11_goneOf_21 rfl (Nat.le_of_ble_eq_true rfl) qX7_minutesGone jt_849 jt_850 jt_851 rfl rfl (Nat.le_of_ble_eq_true rfl) jv_7 rfl jg_9 jl_9 (by decide) (jw_ho jg_9 (by decide)) (kX7_minutesGone G 9 a1 ha1 M) (fun v2 hv2 => ?_)
    refine jw_i2lr (pc := 24) dX11_goneOf_24 hv2 ?_
    refine jw_goto (pc := 25) 29 dX11_goneOf_25 (by decide) ?_
    exact jw_ret (pc := 29) (v := v2) dX11_goneOf_29 (jw_rq hv2) rfl rfl
  · refine jw_lconst (pc := 28) (z := 0) dX11_goneOf_28 rfl ?_
    exact jw_ret (pc := 29) (v := 0) dX11_goneOf_29 (jw_qc _ rfl) rfl rfl
theorem kX11_goneOf (G : jw_G) (a1 : Int) (ha1 : jw_r a1) (M : jw_M) : jw_Ct G YX11_goneOf (some .long) 3 0 0 true (fun v => (v, M)) yX11_goneOf [jR G 0, jI a1] M (fX11_goneOf a1 M) := jw_met (by decide) rfl rfl rfl (Nat.le_of_ble_eq_true rfl) (rX11_goneOf G a1 ha1 M)
abbrev YX11_lostInAll : jw_Y := (RX11, cX11_lostInAll, 4, 2, "lostInAll")
theorem qX11_lostInAll : jw_cy YX11_lostInAll (some .long) yX11_lostInAll 0 := ⟨by decide, jt_857, jt_1, by decide, by decide +kernel⟩
theorem dX11_lostInAll_0 : decode cX11_lostInAll 0 = .ok (.lconst 0, 1) := by decide +kernel
theorem dX11_lostInAll_1 : decode cX11_lostInAll 1 = .ok (.lstore_n 1, 1) := by decide +kernel
theorem dX11_lostInAll_2 : decode cX11_lostInAll 2 = .ok (.iconst 0, 1) := by decide +kernel
theorem dX11_lostInAll_3 : decode cX11_lostInAll 3 = .ok (.istore_n 3, 1) := by decide +kernel
theorem dX11_lostInAll_4 : decode cX11_lostInAll 4 = .ok (.iload_n 3, 1) := by decide +kernel
theorem dX11_lostInAll_5 : decode cX11_lostInAll 5 = .ok (.aload_n 0, 1) := by decide +kernel
theorem dX11_lostInAll_6 : decode cX11_lostInAll 6 = .ok (.getfield 26, 3) := by decide +kernel
theorem dX11_lostInAll_9 : decode cX11_lostInAll 9 = .ok (.getfield 162, 3) := by decide +kernel
theorem dX11_lostInAll_12 : decode cX11_lostInAll 12 = .ok (.getfield 223, 3) := by decide +kernel
theorem dX11_lostInAll_15 : decode cX11_lostInAll 15 = .ok (.if_icmp .ge 40, 3) := by decide +kernel
theorem dX11_lostInAll_18 : decode cX11_lostInAll 18 = .ok (.aload_n 0, 1) := by decide +kernel
theorem dX11_lostInAll_19 : decode cX11_lostInAll 19 = .ok (.getfield 26, 3) := by decide +kernel
theorem dX11_lostInAll_22 : decode cX11_lostInAll 22 = .ok (.getfield 206, 3) := by decide +kernel
theorem dX11_lostInAll_25 : decode cX11_lostInAll 25 = .ok (.getfield 248, 3) := by decide +kernel
theorem dX11_lostInAll_28 : decode cX11_lostInAll 28 = .ok (.iload_n 3, 1) := by decide +kernel
theorem dX11_lostInAll_29 : decode cX11_lostInAll 29 = .ok (.iaload, 1) := by decide +kernel
theorem dX11_lostInAll_30 : decode cX11_lostInAll 30 = .ok (.iconst 2, 1) := by decide +kernel
theorem dX11_lostInAll_31 : decode cX11_lostInAll 31 = .ok (.if_icmp .ne 18, 3) := by decide +kernel
theorem dX11_lostInAll_34 : decode cX11_lostInAll 34 = .ok (.lload_n 1, 1) := by decide +kernel
theorem dX11_lostInAll_35 : decode cX11_lostInAll 35 = .ok (.aload_n 0, 1) := by decide +kernel
theorem dX11_lostInAll_36 : decode cX11_lostInAll 36 = .ok (.getfield 26, 3) := by decide +kernel
theorem dX11_lostInAll_39 : decode cX11_lostInAll 39 = .ok (.getfield 162, 3) := by decide +kernel
theorem dX11_lostInAll_42 : decode cX11_lostInAll 42 = .ok (.iload_n 3, 1) := by decide +kernel
theorem dX11_lostInAll_43 : decode cX11_lostInAll 43 = .ok (.invokevirtual 261, 3) := by decide +kernel
theorem dX11_lostInAll_46 : decode cX11_lostInAll 46 = .ok (.i2l, 1) := by decide +kernel
theorem dX11_lostInAll_47 : decode cX11_lostInAll 47 = .ok (.ladd, 1) := by decide +kernel
theorem dX11_lostInAll_48 : decode cX11_lostInAll 48 = .ok (.lstore_n 1, 1) := by decide +kernel
theorem dX11_lostInAll_49 : decode cX11_lostInAll 49 = .ok (.iinc 3 1, 3) := by decide +kernel
theorem dX11_lostInAll_52 : decode cX11_lostInAll 52 = .ok (.goto (-48), 3) := by decide +kernel
theorem dX11_lostInAll_55 : decode cX11_lostInAll 55 = .ok (.lload_n 1, 1) := by decide +kernel
theorem dX11_lostInAll_56 : decode cX11_lostInAll 56 = .ok (.lreturn, 1) := by decide +kernel
def fX11_lostInAll_49 (M : jw_M) (r4 : Int → Int → Option Int) (x1 : Int) (x3 : Int) : Option Int :=
  Option.bind (some (jw_w (x3 + 1))) (fun v7 => r4 x1 v7)
set_option maxRecDepth 100000 in
theorem pX11_lostInAll_49 (G : jw_G) (M : jw_M) (r4 : Int → Int → Option Int) (hr4 : ∀ (x1 : Int) (x3 : Int) (hx1 : jw_q x1) (hx3 : jw_r x3), jw_Rn G YX11_lostInAll 2 0 0 true (fun v => (v, M)) 4 [(0, jR G 0), (1, jL x1), (3, jI x3)] [] M (r4 x1 x3)) : ∀ (x1 : Int) (x3 : Int) (hx1 : jw_q x1) (hx3 : jw_r x3), jw_Rn G YX11_lostInAll 2 0 0 true (fun v => (v, M)) 49 [(0, jR G 0), (1, jL x1), (3, jI x3)] [] M (fX11_lostInAll_49 M r4 x1 x3) := by
  intro x1 x3 hx1 hx3
  unfold fX11_lostInAll_49
  refine jw_iincL (pc := 49) 2 (lv' := (fun y => [(3, y), (0, jR G 0), (1, jL x1)])) dX11_lostInAll_49 rfl (Nat.le_of_ble_eq_true rfl) (fun _ => rfl) (fun v7 hv7 => ?_)
  refine jw_goto (pc := 52) 4 dX11_lostInAll_52 (by decide) ?_
  exact jw_few [1, 2, 0] rfl (hr4 x1 v7 hx1 hv7)
def fX11_lostInAll_4 (M : jw_M) : Nat → Int → Int → Option Int
  | 0, _, _ => none
  | k + 1, x1, x3 => if x3 < M (9 + 8) 4 then (if 0 ≤ x3 ∧ x3 < 5 then if M ((9 + 15) + 4) x3 = 2 then (Option.bind (fX10_lossOf (9 + 8) x3 M) (fun v5 => Option.bind (some (jw_v (x1 + v5))) (fun v6 => fX11_lostInAll_49 M (fX11_lostInAll_4 M k) v6 x3))) else (fX11_lostInAll_49 M (fX11_lostInAll_4 M k) x1 x3) else none) else (some x1)
set_option maxRecDepth 100000 in
theorem pX11_lostInAll_4 (G : jw_G) (M : jw_M) : ∀ (k : Nat) (x1 : Int) (x3 : Int) (hx1 : jw_q x1) (hx3 : jw_r x3), jw_Rn G YX11_lostInAll 2 0 0 true (fun v => (v, M)) 4 [(0, jR G 0), (1, jL x1), (3, jI x3)] [] M (fX11_lostInAll_4 M k x1 x3) := by
  intro k
  induction k with
  | zero =>
    intro x1 x3 hx1 hx3
    exact jw_none
  | succ k ih =>
    intro x1 x3 hx1 hx3
    rw [fX11_lostInAll_4]
    refine jw_iload_n (pc := 4) 2 dX11_lostInAll_4 rfl ?_
    refine jw_aloadR (pc := 5) 0 dX11_lostInAll_5 rfl ?_
    refine jw_getR (pc := 6) (j := 2) rfl dX11_lostInAll_6 jv_11 ji_11 (Or.inl jt_374) jg_0 jl_0 (by decide) (by decide) rfl jf_11_2 ?_
    refine jw_getR (pc := 9) (j := 2) rfl dX11_lostInAll_9 jv_7 ji_7 (Or.inr ⟨_, jt_269⟩) jg_9 jl_9 (by decide) (by decide) rfl (jf_7_2 jg_9).1 ?_
    refine jw_getI (pc := 12) (j := 4) rfl dX11_lostInAll_12 jv_10 ji_10 (Or.inr ⟨_, jt_155⟩) (jf_7_2 jg_9).2.1 (jf_7_2 jg_9).2.2 (by decide) (by decide) (jw_ho (jf_7_2 jg_9).2.1 (by decide)) (Or.inl rfl) rfl (fun h3 => ?_)
    refine jw_ic_ge (pc := 15) 55 dX11_lostInAll_15 (by decide) hx3 h3 (fun _ => ?_) (fun _ => ?_)
    · refine jw_aloadR (pc := 18) 0 dX11_lostInAll_18 rfl ?_
      refine jw_getR (pc := 19) (j := 2) rfl dX11_lostInAll_19 jv_11 ji_11 (Or.inl jt_374) jg_0 jl_0 (by decide) (by decide) rfl jf_11_2 ?_
      refine jw_getR (pc := 22) (j := 3) rfl dX11_lostInAll_22 jv_7 ji_7 (Or.inr ⟨_, jt_273⟩) jg_9 jl_9 (by decide) (by decide) rfl (jf_7_3 jg_9).1 ?_
      refine jw_getR (pc := 25) (j := 5) rfl dX11_lostInAll_25 jv_3 ji_3 (Or.inr ⟨_, jt_208⟩) (jf_7_3 jg_9).2.1 (jf_7_3 jg_9).2.2 (by decide) (by decide) rfl (jf_3_5 (jf_7_3 jg_9).2.1).1 ?_
      refine jw_iload_n (pc := 28) 2 dX11_lostInAll_28 rfl ?_
      refine jw_iald (pc := 29) dX11_lostInAll_29 (jf_3_5 (jf_7_3 jg_9).2.1).2.1 (jf_3_5 (jf_7_3 jg_9).2.1).2.2 (jw_ho (jf_3_5 (jf_7_3 jg_9).2.1).2.1 (by decide)) hx3 rfl (fun h4 => ?_)
      refine jw_iconst (pc := 30) dX11_lostInAll_30 ?_
      refine jw_ic_ne (pc := 31) 49 dX11_lostInAll_31 (by decide) h4 (jw_rc _ rfl) (fun _ => ?_) (fun _ => ?_)
      · refine jw_lload_n (pc := 34) 1 dX11_lostInAll_34 rfl ?_
        refine jw_aloadR (pc := 35) 0 dX11_lostInAll_35 rfl ?_
        refine jw_getR (pc := 36) (j := 2) rfl dX11_lostInAll_36 jv_11 ji_11 (Or.inl jt_374) jg_0 jl_0 (by decide) (by decide) rfl jf_11_2 ?_
        refine jw_getR (pc := 39) (j := 2) rfl dX11_lostInAll_39 jv_7 ji_7 (Or.inr ⟨_, jt_269⟩) jg_9 jl_9 (by decide) (by decide) rfl (jf_7_2 jg_9).1 ?_
        refine jw_iload_n (pc := 42) 2 dX11_lostInAll_42 rfl ?_
        refine jw_callVi (pc := 43) (As := [jI x3]) (st := [jL x1]) dX11_lostInAll_43 rfl (Nat.le_of_ble_eq_true rfl) qX10_lossOf jt_858 jt_830 jt_831 rfl rfl (Nat.le_of_ble_eq_true rfl) jv_10 rfl (jf_7_2 jg_9).2.1 (jf_7_2 jg_9).2.2 (by decide) (jw_ho (jf_7_2 jg_9).2.1 (by decide)) (kX10_lossOf G (9 + 8) x3 hx3 M) (fun v5 hv5 => ?_)
        refine jw_i2lr (pc := 46) dX11_lostInAll_46 hv5 ?_
        refine jw_ladd (pc := 47) dX11_lostInAll_47 ?_
        refine jw_lstore_nL (pc := 48) (lv' := (fun y => [(1, y), (0, jR G 0), (3, jI x3)])) dX11_lostInAll_48 (jw_vr _) (by decide) (fun _ => rfl) (fun v6 hv6 => ?_)
        exact jw_few [1, 0, 2] rfl (pX11_lostInAll_49 G M (fX11_lostInAll_4 M k) ih v6 x3 hv6 hx3)
      · exact jw_few [0, 1, 2] rfl (pX11_lostInAll_49 G M (fX11_lostInAll_4 M k) ih x1 x3 hx1 hx3)
    · refine jw_lload_n (pc := 55) 1 dX11_lostInAll_55 rfl ?_
      exact jw_ret (pc := 56) (v := x1) dX11_lostInAll_56 hx1 rfl rfl
def fX11_lostInAll (M : jw_M) : Option Int :=
  Option.bind (some 0) (fun v1 => Option.bind (some 0) (fun v2 => fX11_lostInAll_4 M jw_fu v1 v2))
set_option maxRecDepth 100000 in
theorem rX11_lostInAll (G : jw_G) (M : jw_M) : jw_Rn G YX11_lostInAll 2 0 0 true (fun v => (v, M)) 0 [(0, jR G 0)] [] M (fX11_lostInAll M) := by
  unfold fX11_lostInAll
  refine jw_lconst (pc := 0) (z := 0) dX11_lostInAll_0 rfl ?_
  refine jw_lstore_nL (pc := 1) (lv' := (fun y => [(1, y), (0, jR G 0)])) dX11_lostInAll_1 (jw_qc _ rfl) (by decide) (fun _ => rfl) (fun v1 hv1 => ?_)
  refine jw_iconst (pc := 2) dX11_lostInAll_2 ?_
  refine jw_istore_nL (pc := 3) (lv' := (fun y => [(3, y), (1, jL v1), (0, jR G 0)])) dX11_lostInAll_3 (jw_rc _ rfl) (by decide) (fun _ => rfl) (fun v2 hv2 => ?_)
  exact jw_few [2, 1, 0] rfl (pX11_lostInAll_4 G M jw_fu v1 v2 hv1 hv2)
theorem kX11_lostInAll (G : jw_G) (M : jw_M) : jw_Ct G YX11_lostInAll (some .long) 2 0 0 true (fun v => (v, M)) yX11_lostInAll [jR G 0] M (fX11_lostInAll M) := jw_met (by decide) rfl rfl rfl (Nat.le_of_ble_eq_true rfl) (rX11_lostInAll G M)
abbrev YX11_after : jw_Y := (RX11, cX11_after, 5, 2, "after")
theorem qX11_after : jw_cy YX11_after (some .long) yX11_after 2 := ⟨by decide, jt_844, jt_1, by decide, by decide +kernel⟩
theorem dX11_after_0 : decode cX11_after 0 = .ok (.iload_n 1, 1) := by decide +kernel
theorem dX11_after_1 : decode cX11_after 1 = .ok (.iconst (-1), 1) := by decide +kernel
theorem dX11_after_2 : decode cX11_after 2 = .ok (.if_icmp .ne 12, 3) := by decide +kernel
theorem dX11_after_5 : decode cX11_after 5 = .ok (.iload_n 2, 1) := by decide +kernel
theorem dX11_after_6 : decode cX11_after 6 = .ok (.iconst 4, 1) := by decide +kernel
theorem dX11_after_7 : decode cX11_after 7 = .ok (.if_icmp .ne 7, 3) := by decide +kernel
theorem dX11_after_10 : decode cX11_after 10 = .ok (.iconst 1, 1) := by decide +kernel
theorem dX11_after_11 : decode cX11_after 11 = .ok (.goto 4, 3) := by decide +kernel
theorem dX11_after_14 : decode cX11_after 14 = .ok (.iconst 0, 1) := by decide +kernel
theorem dX11_after_15 : decode cX11_after 15 = .ok (.istore_n 3, 1) := by decide +kernel
theorem dX11_after_16 : decode cX11_after 16 = .ok (.aload_n 0, 1) := by decide +kernel
theorem dX11_after_17 : decode cX11_after 17 = .ok (.getfield 26, 3) := by decide +kernel
theorem dX11_after_20 : decode cX11_after 20 = .ok (.getfield 162, 3) := by decide +kernel
theorem dX11_after_23 : decode cX11_after 23 = .ok (.iload_n 1, 1) := by decide +kernel
theorem dX11_after_24 : decode cX11_after 24 = .ok (.invokevirtual 166, 3) := by decide +kernel
theorem dX11_after_27 : decode cX11_after 27 = .ok (.ifCond .eq 16, 3) := by decide +kernel
theorem dX11_after_30 : decode cX11_after 30 = .ok (.iload_n 2, 1) := by decide +kernel
theorem dX11_after_31 : decode cX11_after 31 = .ok (.ifCond .lt 12, 3) := by decide +kernel
theorem dX11_after_34 : decode cX11_after 34 = .ok (.iload_n 2, 1) := by decide +kernel
theorem dX11_after_35 : decode cX11_after 35 = .ok (.iconst 3, 1) := by decide +kernel
theorem dX11_after_36 : decode cX11_after 36 = .ok (.if_icmp .gt 7, 3) := by decide +kernel
theorem dX11_after_39 : decode cX11_after 39 = .ok (.iconst 1, 1) := by decide +kernel
theorem dX11_after_40 : decode cX11_after 40 = .ok (.goto 4, 3) := by decide +kernel
theorem dX11_after_43 : decode cX11_after 43 = .ok (.iconst 0, 1) := by decide +kernel
theorem dX11_after_44 : decode cX11_after 44 = .ok (.istore 4, 2) := by decide +kernel
theorem dX11_after_46 : decode cX11_after 46 = .ok (.iload_n 3, 1) := by decide +kernel
theorem dX11_after_47 : decode cX11_after 47 = .ok (.ifCond .ne 12, 3) := by decide +kernel
theorem dX11_after_50 : decode cX11_after 50 = .ok (.iload 4, 2) := by decide +kernel
theorem dX11_after_52 : decode cX11_after 52 = .ok (.ifCond .ne 7, 3) := by decide +kernel
theorem dX11_after_55 : decode cX11_after 55 = .ok (.ldc2_w 75, 3) := by decide +kernel
theorem dX11_after_58 : decode cX11_after 58 = .ok (.lreturn, 1) := by decide +kernel
theorem dX11_after_59 : decode cX11_after 59 = .ok (.aload_n 0, 1) := by decide +kernel
theorem dX11_after_60 : decode cX11_after 60 = .ok (.getfield 26, 3) := by decide +kernel
theorem dX11_after_63 : decode cX11_after 63 = .ok (.getfield 206, 3) := by decide +kernel
theorem dX11_after_66 : decode cX11_after 66 = .ok (.getfield 239, 3) := by decide +kernel
theorem dX11_after_69 : decode cX11_after 69 = .ok (.ifCond .ne 7, 3) := by decide +kernel
theorem dX11_after_72 : decode cX11_after 72 = .ok (.ldc2_w 201, 3) := by decide +kernel
theorem dX11_after_75 : decode cX11_after 75 = .ok (.lreturn, 1) := by decide +kernel
theorem dX11_after_76 : decode cX11_after 76 = .ok (.iload_n 2, 1) := by decide +kernel
theorem dX11_after_77 : decode cX11_after 77 = .ok (.tableswitch 83 0 3 #[31, 47, 63, 77], 31) := by decide +kernel
theorem dX11_after_108 : decode cX11_after 108 = .ok (.aload_n 0, 1) := by decide +kernel
theorem dX11_after_109 : decode cX11_after 109 = .ok (.getfield 26, 3) := by decide +kernel
theorem dX11_after_112 : decode cX11_after 112 = .ok (.getfield 206, 3) := by decide +kernel
theorem dX11_after_115 : decode cX11_after 115 = .ok (.getfield 242, 3) := by decide +kernel
theorem dX11_after_118 : decode cX11_after 118 = .ok (.iload_n 1, 1) := by decide +kernel
theorem dX11_after_119 : decode cX11_after 119 = .ok (.iaload, 1) := by decide +kernel
theorem dX11_after_120 : decode cX11_after 120 = .ok (.invokestatic 159, 3) := by decide +kernel
theorem dX11_after_123 : decode cX11_after 123 = .ok (.lreturn, 1) := by decide +kernel
theorem dX11_after_124 : decode cX11_after 124 = .ok (.aload_n 0, 1) := by decide +kernel
theorem dX11_after_125 : decode cX11_after 125 = .ok (.getfield 26, 3) := by decide +kernel
theorem dX11_after_128 : decode cX11_after 128 = .ok (.getfield 206, 3) := by decide +kernel
theorem dX11_after_131 : decode cX11_after 131 = .ok (.getfield 245, 3) := by decide +kernel
theorem dX11_after_134 : decode cX11_after 134 = .ok (.iload_n 1, 1) := by decide +kernel
theorem dX11_after_135 : decode cX11_after 135 = .ok (.iaload, 1) := by decide +kernel
theorem dX11_after_136 : decode cX11_after 136 = .ok (.invokestatic 159, 3) := by decide +kernel
theorem dX11_after_139 : decode cX11_after 139 = .ok (.lreturn, 1) := by decide +kernel
theorem dX11_after_140 : decode cX11_after 140 = .ok (.aload_n 0, 1) := by decide +kernel
theorem dX11_after_141 : decode cX11_after 141 = .ok (.getfield 26, 3) := by decide +kernel
theorem dX11_after_144 : decode cX11_after 144 = .ok (.getfield 206, 3) := by decide +kernel
theorem dX11_after_147 : decode cX11_after 147 = .ok (.getfield 248, 3) := by decide +kernel
theorem dX11_after_150 : decode cX11_after 150 = .ok (.iload_n 1, 1) := by decide +kernel
theorem dX11_after_151 : decode cX11_after 151 = .ok (.iaload, 1) := by decide +kernel
theorem dX11_after_152 : decode cX11_after 152 = .ok (.i2l, 1) := by decide +kernel
theorem dX11_after_153 : decode cX11_after 153 = .ok (.lreturn, 1) := by decide +kernel
theorem dX11_after_154 : decode cX11_after 154 = .ok (.aload_n 0, 1) := by decide +kernel
theorem dX11_after_155 : decode cX11_after 155 = .ok (.iload_n 1, 1) := by decide +kernel
theorem dX11_after_156 : decode cX11_after 156 = .ok (.invokevirtual 251, 3) := by decide +kernel
theorem dX11_after_159 : decode cX11_after 159 = .ok (.lreturn, 1) := by decide +kernel
theorem dX11_after_160 : decode cX11_after 160 = .ok (.aload_n 0, 1) := by decide +kernel
theorem dX11_after_161 : decode cX11_after 161 = .ok (.invokevirtual 254, 3) := by decide +kernel
theorem dX11_after_164 : decode cX11_after 164 = .ok (.lreturn, 1) := by decide +kernel
def fX11_after_59 (M : jw_M) (x1 : Int) (x2 : Int) : Option Int :=
  if M (9 + 15) 0 = 0 then (some (-9000000000000000002)) else (if x2 = 0 then (if 0 ≤ x1 ∧ x1 < 5 then Option.bind (fX11_orNone (M ((9 + 15) + 2) x1) M) (fun v6 => some v6) else none) else (if x2 = 1 then (if 0 ≤ x1 ∧ x1 < 5 then Option.bind (fX11_orNone (M ((9 + 15) + 3) x1) M) (fun v9 => some v9) else none) else (if x2 = 2 then (if 0 ≤ x1 ∧ x1 < 5 then some (M ((9 + 15) + 4) x1) else none) else (if x2 = 3 then (Option.bind (fX11_goneOf x1 M) (fun v13 => some v13)) else (Option.bind (fX11_lostInAll  M) (fun v15 => some v15))))))
set_option maxRecDepth 100000 in
theorem pX11_after_59 (G : jw_G) (M : jw_M) : ∀ (x1 : Int) (x2 : Int) (hx1 : jw_r x1) (hx2 : jw_r x2), jw_Rn G YX11_after 4 0 0 true (fun v => (v, M)) 59 [(0, jR G 0), (1, jI x1), (2, jI x2)] [] M (fX11_after_59 M x1 x2) := by
  intro x1 x2 hx1 hx2
  unfold fX11_after_59
  refine jw_aloadR (pc := 59) 0 dX11_after_59 rfl ?_
  refine jw_getR (pc := 60) (j := 2) rfl dX11_after_60 jv_11 ji_11 (Or.inl jt_374) jg_0 jl_0 (by decide) (by decide) rfl jf_11_2 ?_
  refine jw_getR (pc := 63) (j := 3) rfl dX11_after_63 jv_7 ji_7 (Or.inr ⟨_, jt_273⟩) jg_9 jl_9 (by decide) (by decide) rfl (jf_7_3 jg_9).1 ?_
  refine jw_getI (pc := 66) (j := 0) rfl dX11_after_66 jv_3 ji_3 (Or.inr ⟨_, jt_198⟩) (jf_7_3 jg_9).2.1 (jf_7_3 jg_9).2.2 (by decide) (by decide) (jw_ho (jf_7_3 jg_9).2.1 (by decide)) (Or.inl rfl) rfl (fun h4 => ?_)
  refine jw_if_ne (pc := 69) 76 dX11_after_69 (by decide) h4 (fun _ => ?_) (fun _ => ?_)
  · refine jw_ldc2 (pc := 72) (n := (-9000000000000000002)) dX11_after_72 jt_789 (by decide) ?_
    exact jw_ret (pc := 75) (v := (-9000000000000000002)) dX11_after_75 (jw_qc _ rfl) rfl rfl
  · refine jw_iload_n (pc := 76) 2 dX11_after_76 rfl ?_
    refine jw_ite (fun c7 => ?_) (fun c7 => ?_)
    · refine jw_tsin (pc := 77) 108 0 dX11_after_77 hx2 c7 rfl rfl (by decide) ?_
      refine jw_aloadR (pc := 108) 0 dX11_after_108 rfl ?_
      refine jw_getR (pc := 109) (j := 2) rfl dX11_after_109 jv_11 ji_11 (Or.inl jt_374) jg_0 jl_0 (by decide) (by decide) rfl jf_11_2 ?_
      refine jw_getR (pc := 112) (j := 3) rfl dX11_after_112 jv_7 ji_7 (Or.inr ⟨_, jt_273⟩) jg_9 jl_9 (by decide) (by decide) rfl (jf_7_3 jg_9).1 ?_
      refine jw_getR (pc := 115) (j := 3) rfl dX11_after_115 jv_3 ji_3 (Or.inr ⟨_, jt_203⟩) (jf_7_3 jg_9).2.1 (jf_7_3 jg_9).2.2 (by decide) (by decide) rfl (jf_3_3 (jf_7_3 jg_9).2.1).1 ?_
      refine jw_iload_n (pc := 118) 1 dX11_after_118 rfl ?_
      refine jw_iald (pc := 119) dX11_after_119 (jf_3_3 (jf_7_3 jg_9).2.1).2.1 (jf_3_3 (jf_7_3 jg_9).2.1).2.2 (jw_ho (jf_3_3 (jf_7_3 jg_9).2.1).2.1 (by decide)) hx1 rfl (fun h5 => ?_)
      refine jw_callSl (pc := 120) (As := [jI (M ((9 + 15) + 2) x1)]) (st := []) dX11_after_120 rfl (Nat.le_of_ble_eq_true rfl) qX11_orNone jt_744 jt_745 rfl rfl (Nat.le_of_ble_eq_true rfl) (kX11_orNone G (M ((9 + 15) + 2) x1) h5 M) (fun v6 hv6 => ?_)
      exact jw_ret (pc := 123) (v := v6) dX11_after_123 hv6 rfl rfl
    · refine jw_ite (fun c10 => ?_) (fun c10 => ?_)
      · refine jw_tsin (pc := 77) 124 1 dX11_after_77 hx2 c10 rfl rfl (by decide) ?_
        refine jw_aloadR (pc := 124) 0 dX11_after_124 rfl ?_
        refine jw_getR (pc := 125) (j := 2) rfl dX11_after_125 jv_11 ji_11 (Or.inl jt_374) jg_0 jl_0 (by decide) (by decide) rfl jf_11_2 ?_
        refine jw_getR (pc := 128) (j := 3) rfl dX11_after_128 jv_7 ji_7 (Or.inr ⟨_, jt_273⟩) jg_9 jl_9 (by decide) (by decide) rfl (jf_7_3 jg_9).1 ?_
        refine jw_getR (pc := 131) (j := 4) rfl dX11_after_131 jv_3 ji_3 (Or.inr ⟨_, jt_205⟩) (jf_7_3 jg_9).2.1 (jf_7_3 jg_9).2.2 (by decide) (by decide) rfl (jf_3_4 (jf_7_3 jg_9).2.1).1 ?_
        refine jw_iload_n (pc := 134) 1 dX11_after_134 rfl ?_
        refine jw_iald (pc := 135) dX11_after_135 (jf_3_4 (jf_7_3 jg_9).2.1).2.1 (jf_3_4 (jf_7_3 jg_9).2.1).2.2 (jw_ho (jf_3_4 (jf_7_3 jg_9).2.1).2.1 (by decide)) hx1 rfl (fun h8 => ?_)
        refine jw_callSl (pc := 136) (As := [jI (M ((9 + 15) + 3) x1)]) (st := []) dX11_after_136 rfl (Nat.le_of_ble_eq_true rfl) qX11_orNone jt_744 jt_745 rfl rfl (Nat.le_of_ble_eq_true rfl) (kX11_orNone G (M ((9 + 15) + 3) x1) h8 M) (fun v9 hv9 => ?_)
        exact jw_ret (pc := 139) (v := v9) dX11_after_139 hv9 rfl rfl
      · refine jw_ite (fun c12 => ?_) (fun c12 => ?_)
        · refine jw_tsin (pc := 77) 140 2 dX11_after_77 hx2 c12 rfl rfl (by decide) ?_
          refine jw_aloadR (pc := 140) 0 dX11_after_140 rfl ?_
          refine jw_getR (pc := 141) (j := 2) rfl dX11_after_141 jv_11 ji_11 (Or.inl jt_374) jg_0 jl_0 (by decide) (by decide) rfl jf_11_2 ?_
          refine jw_getR (pc := 144) (j := 3) rfl dX11_after_144 jv_7 ji_7 (Or.inr ⟨_, jt_273⟩) jg_9 jl_9 (by decide) (by decide) rfl (jf_7_3 jg_9).1 ?_
          refine jw_getR (pc := 147) (j := 5) rfl dX11_after_147 jv_3 ji_3 (Or.inr ⟨_, jt_208⟩) (jf_7_3 jg_9).2.1 (jf_7_3 jg_9).2.2 (by decide) (by decide) rfl (jf_3_5 (jf_7_3 jg_9).2.1).1 ?_
          refine jw_iload_n (pc := 150) 1 dX11_after_150 rfl ?_
          refine jw_iald (pc := 151) dX11_after_151 (jf_3_5 (jf_7_3 jg_9).2.1).2.1 (jf_3_5 (jf_7_3 jg_9).2.1).2.2 (jw_ho (jf_3_5 (jf_7_3 jg_9).2.1).2.1 (by decide)) hx1 rfl (fun h11 => ?_)
          refine jw_i2lr (pc := 152) dX11_after_152 h11 ?_
          exact jw_ret (pc := 153) (v := M ((9 + 15) + 4) x1) dX11_after_153 (jw_rq h11) rfl rfl
        · refine jw_ite (fun c14 => ?_) (fun c14 => ?_)
          · refine jw_tsin (pc := 77) 154 3 dX11_after_77 hx2 c14 rfl rfl (by decide) ?_
            refine jw_aloadR (pc := 154) 0 dX11_after_154 rfl ?_
            refine jw_iload_n (pc := 155) 1 dX11_after_155 rfl ?_
            refine jw_callVl (pc := 156) (As := [jI x1]) (st := []) dX11_after_156 rfl (Nat.le_of_ble_eq_true rfl) qX11_goneOf jt_845 jt_847 jp_17 rfl rfl (Nat.le_of_ble_eq_true rfl) jv_11 rfl jg_0 jl_0 (by decide) (jw_ho jg_0 (by decide)) (kX11_goneOf G x1 hx1 M) (fun v13 hv13 => ?_)
            exact jw_ret (pc := 159) (v := v13) dX11_after_159 hv13 rfl rfl
          · refine jw_tsout (pc := 77) 160 dX11_after_77 hx2 (by omega) (by decide) ?_
            refine jw_aloadR (pc := 160) 0 dX11_after_160 rfl ?_
            refine jw_callVl (pc := 161) (As := []) (st := []) dX11_after_161 rfl (Nat.le_of_ble_eq_true rfl) qX11_lostInAll jt_854 jt_856 jp_18 rfl rfl (Nat.le_of_ble_eq_true rfl) jv_11 rfl jg_0 jl_0 (by decide) (jw_ho jg_0 (by decide)) (kX11_lostInAll G  M) (fun v15 hv15 => ?_)
            exact jw_ret (pc := 164) (v := v15) dX11_after_164 hv15 rfl rfl
def fX11_after_44 (M : jw_M) (x1 : Int) (x2 : Int) (x3 : Int) (xs0 : Int) : Option Int :=
  Option.bind (some xs0) (fun v3 => if x3 = 0 then (if v3 = 0 then (some (-9000000000000000001)) else (fX11_after_59 M x1 x2)) else (fX11_after_59 M x1 x2))
set_option maxRecDepth 100000 in
theorem pX11_after_44 (G : jw_G) (M : jw_M) : ∀ (x1 : Int) (x2 : Int) (x3 : Int) (xs0 : Int) (hx1 : jw_r x1) (hx2 : jw_r x2) (hx3 : jw_r x3) (hxs0 : jw_r xs0), jw_Rn G YX11_after 4 0 0 true (fun v => (v, M)) 44 [(0, jR G 0), (1, jI x1), (2, jI x2), (3, jI x3)] [jI xs0] M (fX11_after_44 M x1 x2 x3 xs0) := by
  intro x1 x2 x3 xs0 hx1 hx2 hx3 hxs0
  unfold fX11_after_44
  refine jw_istoreL (pc := 44) (lv' := (fun y => [(4, y), (0, jR G 0), (1, jI x1), (2, jI x2), (3, jI x3)])) dX11_after_44 hxs0 (by decide) (fun _ => rfl) (fun v3 hv3 => ?_)
  refine jw_iload_n (pc := 46) 4 dX11_after_46 rfl ?_
  refine jw_if_ne (pc := 47) 59 dX11_after_47 (by decide) hx3 (fun _ => ?_) (fun _ => ?_)
  · refine jw_iload (pc := 50) 0 dX11_after_50 rfl ?_
    refine jw_if_ne (pc := 52) 59 dX11_after_52 (by decide) hv3 (fun _ => ?_) (fun _ => ?_)
    · refine jw_ldc2 (pc := 55) (n := (-9000000000000000001)) dX11_after_55 jt_414 (by decide) ?_
      exact jw_ret (pc := 58) (v := (-9000000000000000001)) dX11_after_58 (jw_qc _ rfl) rfl rfl
    · exact jw_few [1, 2, 3] rfl (pX11_after_59 G M x1 x2 hx1 hx2)
  · exact jw_few [1, 2, 3] rfl (pX11_after_59 G M x1 x2 hx1 hx2)
def fX11_after_43 (M : jw_M) (x1 : Int) (x2 : Int) (x3 : Int) : Option Int :=
  fX11_after_44 M x1 x2 x3 0
set_option maxRecDepth 100000 in
theorem pX11_after_43 (G : jw_G) (M : jw_M) : ∀ (x1 : Int) (x2 : Int) (x3 : Int) (hx1 : jw_r x1) (hx2 : jw_r x2) (hx3 : jw_r x3), jw_Rn G YX11_after 4 0 0 true (fun v => (v, M)) 43 [(0, jR G 0), (1, jI x1), (2, jI x2), (3, jI x3)] [] M (fX11_after_43 M x1 x2 x3) := by
  intro x1 x2 x3 hx1 hx2 hx3
  unfold fX11_after_43
  refine jw_iconst (pc := 43) dX11_after_43 ?_
  exact jw_few [0, 1, 2, 3] rfl (pX11_after_44 G M x1 x2 x3 0 hx1 hx2 hx3 (jw_rc _ rfl))
def fX11_after_15 (M : jw_M) (x1 : Int) (x2 : Int) (xs0 : Int) : Option Int :=
  Option.bind (some xs0) (fun v1 => Option.bind (fX10_isSeller (9 + 8) x1 M) (fun v2 => if v2 = 0 then (fX11_after_43 M x1 x2 v1) else (if x2 < 0 then (fX11_after_43 M x1 x2 v1) else (if (3 : Int) < x2 then (fX11_after_43 M x1 x2 v1) else (fX11_after_44 M x1 x2 v1 1)))))
set_option maxRecDepth 100000 in
theorem pX11_after_15 (G : jw_G) (M : jw_M) : ∀ (x1 : Int) (x2 : Int) (xs0 : Int) (hx1 : jw_r x1) (hx2 : jw_r x2) (hxs0 : jw_r xs0), jw_Rn G YX11_after 4 0 0 true (fun v => (v, M)) 15 [(0, jR G 0), (1, jI x1), (2, jI x2)] [jI xs0] M (fX11_after_15 M x1 x2 xs0) := by
  intro x1 x2 xs0 hx1 hx2 hxs0
  unfold fX11_after_15
  refine jw_istore_nL (pc := 15) (lv' := (fun y => [(3, y), (0, jR G 0), (1, jI x1), (2, jI x2)])) dX11_after_15 hxs0 (by decide) (fun _ => rfl) (fun v1 hv1 => ?_)
  refine jw_aloadR (pc := 16) 1 dX11_after_16 rfl ?_
  refine jw_getR (pc := 17) (j := 2) rfl dX11_after_17 jv_11 ji_11 (Or.inl jt_374) jg_0 jl_0 (by decide) (by decide) rfl jf_11_2 ?_
  refine jw_getR (pc := 20) (j := 2) rfl dX11_after_20 jv_7 ji_7 (Or.inr ⟨_, jt_269⟩) jg_9 jl_9 (by decide) (by decide) rfl (jf_7_2 jg_9).1 ?_
  refine jw_iload_n (pc := 23) 2 dX11_after_23 rfl ?_
  refine jw_callVz (pc := 24) (As := [jI x1]) (st := []) dX11_after_24 rfl (Nat.le_of_ble_eq_true rfl) qX10_isSeller jt_753 jt_754 jt_755 rfl rfl (Nat.le_of_ble_eq_true rfl) jv_10 rfl (jf_7_2 jg_9).2.1 (jf_7_2 jg_9).2.2 (by decide) (jw_ho (jf_7_2 jg_9).2.1 (by decide)) (kX10_isSeller G (9 + 8) x1 hx1 M) (fun v2 hv2 => ?_)
  refine jw_if_eq (pc := 27) 43 dX11_after_27 (by decide) (jw_bz hv2) (fun _ => ?_) (fun _ => ?_)
  · exact jw_few [1, 2, 3, 0] rfl (pX11_after_43 G M x1 x2 v1 hx1 hx2 hv1)
  · refine jw_iload_n (pc := 30) 3 dX11_after_30 rfl ?_
    refine jw_if_lt (pc := 31) 43 dX11_after_31 (by decide) hx2 (fun _ => ?_) (fun _ => ?_)
    · exact jw_few [1, 2, 3, 0] rfl (pX11_after_43 G M x1 x2 v1 hx1 hx2 hv1)
    · refine jw_iload_n (pc := 34) 3 dX11_after_34 rfl ?_
      refine jw_iconst (pc := 35) dX11_after_35 ?_
      refine jw_ic_gt (pc := 36) 43 dX11_after_36 (by decide) hx2 (jw_rc _ rfl) (fun _ => ?_) (fun _ => ?_)
      · exact jw_few [1, 2, 3, 0] rfl (pX11_after_43 G M x1 x2 v1 hx1 hx2 hv1)
      · refine jw_iconst (pc := 39) dX11_after_39 ?_
        refine jw_goto (pc := 40) 44 dX11_after_40 (by decide) ?_
        exact jw_few [1, 2, 3, 0] rfl (pX11_after_44 G M x1 x2 v1 1 hx1 hx2 hv1 (jw_rc _ rfl))
def fX11_after_14 (M : jw_M) (x1 : Int) (x2 : Int) : Option Int :=
  fX11_after_15 M x1 x2 0
set_option maxRecDepth 100000 in
theorem pX11_after_14 (G : jw_G) (M : jw_M) : ∀ (x1 : Int) (x2 : Int) (hx1 : jw_r x1) (hx2 : jw_r x2), jw_Rn G YX11_after 4 0 0 true (fun v => (v, M)) 14 [(0, jR G 0), (1, jI x1), (2, jI x2)] [] M (fX11_after_14 M x1 x2) := by
  intro x1 x2 hx1 hx2
  unfold fX11_after_14
  refine jw_iconst (pc := 14) dX11_after_14 ?_
  exact jw_few [0, 1, 2] rfl (pX11_after_15 G M x1 x2 0 hx1 hx2 (jw_rc _ rfl))
def fX11_after (a1 : Int) (a2 : Int) (M : jw_M) : Option Int :=
  if a1 = (-1) then (if a2 = 4 then (fX11_after_15 M a1 a2 1) else (fX11_after_14 M a1 a2)) else (fX11_after_14 M a1 a2)
set_option maxRecDepth 100000 in
theorem rX11_after (G : jw_G) (a1 : Int) (a2 : Int) (ha1 : jw_r a1) (ha2 : jw_r a2) (M : jw_M) : jw_Rn G YX11_after 4 0 0 true (fun v => (v, M)) 0 [(0, jR G 0), (1, jI a1), (2, jI a2)] [] M (fX11_after a1 a2 M) := by
  unfold fX11_after
  refine jw_iload_n (pc := 0) 1 dX11_after_0 rfl ?_
  refine jw_iconst (pc := 1) dX11_after_1 ?_
  refine jw_ic_ne (pc := 2) 14 dX11_after_2 (by decide) ha1 (jw_rc _ rfl) (fun _ => ?_) (fun _ => ?_)
  · refine jw_iload_n (pc := 5) 2 dX11_after_5 rfl ?_
    refine jw_iconst (pc := 6) dX11_after_6 ?_
    refine jw_ic_ne (pc := 7) 14 dX11_after_7 (by decide) ha2 (jw_rc _ rfl) (fun _ => ?_) (fun _ => ?_)
    · refine jw_iconst (pc := 10) dX11_after_10 ?_
      refine jw_goto (pc := 11) 15 dX11_after_11 (by decide) ?_
      exact jw_few [0, 1, 2] rfl (pX11_after_15 G M a1 a2 1 ha1 ha2 (jw_rc _ rfl))
    · exact jw_few [0, 1, 2] rfl (pX11_after_14 G M a1 a2 ha1 ha2)
  · exact jw_few [0, 1, 2] rfl (pX11_after_14 G M a1 a2 ha1 ha2)
theorem kX11_after (G : jw_G) (a1 : Int) (a2 : Int) (ha1 : jw_r a1) (ha2 : jw_r a2) (M : jw_M) : jw_Ct G YX11_after (some .long) 4 0 0 true (fun v => (v, M)) yX11_after [jR G 0, jI a1, jI a2] M (fX11_after a1 a2 M) := jw_met (by decide) rfl rfl rfl (Nat.le_of_ble_eq_true rfl) (rX11_after G a1 a2 ha1 ha2 M)
abbrev YX11_nothing : jw_Y := (RX11, cX11_nothing, 6, 2, "nothing")
theorem qX11_nothing : jw_cy YX11_nothing (some .long) yX11_nothing 1 := ⟨by decide, jt_862, jt_1, by decide, by decide +kernel⟩
theorem dX11_nothing_0 : decode cX11_nothing 0 = .ok (.aload_n 0, 1) := by decide +kernel
theorem dX11_nothing_1 : decode cX11_nothing 1 = .ok (.getfield 26, 3) := by decide +kernel
theorem dX11_nothing_4 : decode cX11_nothing 4 = .ok (.getfield 162, 3) := by decide +kernel
theorem dX11_nothing_7 : decode cX11_nothing 7 = .ok (.iload_n 1, 1) := by decide +kernel
theorem dX11_nothing_8 : decode cX11_nothing 8 = .ok (.invokevirtual 187, 3) := by decide +kernel
theorem dX11_nothing_11 : decode cX11_nothing 11 = .ok (.ifCond .ne 7, 3) := by decide +kernel
theorem dX11_nothing_14 : decode cX11_nothing 14 = .ok (.ldc2_w 75, 3) := by decide +kernel
theorem dX11_nothing_17 : decode cX11_nothing 17 = .ok (.lreturn, 1) := by decide +kernel
theorem dX11_nothing_18 : decode cX11_nothing 18 = .ok (.lconst 0, 1) := by decide +kernel
theorem dX11_nothing_19 : decode cX11_nothing 19 = .ok (.lstore_n 2, 1) := by decide +kernel
theorem dX11_nothing_20 : decode cX11_nothing 20 = .ok (.aload_n 0, 1) := by decide +kernel
theorem dX11_nothing_21 : decode cX11_nothing 21 = .ok (.getfield 26, 3) := by decide +kernel
theorem dX11_nothing_24 : decode cX11_nothing 24 = .ok (.getfield 162, 3) := by decide +kernel
theorem dX11_nothing_27 : decode cX11_nothing 27 = .ok (.getfield 190, 3) := by decide +kernel
theorem dX11_nothing_30 : decode cX11_nothing 30 = .ok (.iload_n 1, 1) := by decide +kernel
theorem dX11_nothing_31 : decode cX11_nothing 31 = .ok (.iaload, 1) := by decide +kernel
theorem dX11_nothing_32 : decode cX11_nothing 32 = .ok (.istore 4, 2) := by decide +kernel
theorem dX11_nothing_34 : decode cX11_nothing 34 = .ok (.iconst 0, 1) := by decide +kernel
theorem dX11_nothing_35 : decode cX11_nothing 35 = .ok (.istore 5, 2) := by decide +kernel
theorem dX11_nothing_37 : decode cX11_nothing 37 = .ok (.iload 5, 2) := by decide +kernel
theorem dX11_nothing_39 : decode cX11_nothing 39 = .ok (.aload_n 0, 1) := by decide +kernel
theorem dX11_nothing_40 : decode cX11_nothing 40 = .ok (.getfield 26, 3) := by decide +kernel
theorem dX11_nothing_43 : decode cX11_nothing 43 = .ok (.getfield 162, 3) := by decide +kernel
theorem dX11_nothing_46 : decode cX11_nothing 46 = .ok (.getfield 223, 3) := by decide +kernel
theorem dX11_nothing_49 : decode cX11_nothing 49 = .ok (.if_icmp .ge 53, 3) := by decide +kernel
theorem dX11_nothing_52 : decode cX11_nothing 52 = .ok (.aload_n 0, 1) := by decide +kernel
theorem dX11_nothing_53 : decode cX11_nothing 53 = .ok (.getfield 26, 3) := by decide +kernel
theorem dX11_nothing_56 : decode cX11_nothing 56 = .ok (.getfield 137, 3) := by decide +kernel
theorem dX11_nothing_59 : decode cX11_nothing 59 = .ok (.iload 4, 2) := by decide +kernel
theorem dX11_nothing_61 : decode cX11_nothing 61 = .ok (.aload_n 0, 1) := by decide +kernel
theorem dX11_nothing_62 : decode cX11_nothing 62 = .ok (.getfield 26, 3) := by decide +kernel
theorem dX11_nothing_65 : decode cX11_nothing 65 = .ok (.getfield 162, 3) := by decide +kernel
theorem dX11_nothing_68 : decode cX11_nothing 68 = .ok (.getfield 171, 3) := by decide +kernel
theorem dX11_nothing_71 : decode cX11_nothing 71 = .ok (.iload 5, 2) := by decide +kernel
theorem dX11_nothing_73 : decode cX11_nothing 73 = .ok (.iaload, 1) := by decide +kernel
theorem dX11_nothing_74 : decode cX11_nothing 74 = .ok (.invokevirtual 156, 3) := by decide +kernel
theorem dX11_nothing_77 : decode cX11_nothing 77 = .ok (.ldc_w 264, 3) := by decide +kernel
theorem dX11_nothing_80 : decode cX11_nothing 80 = .ok (.if_icmp .ge 16, 3) := by decide +kernel
theorem dX11_nothing_83 : decode cX11_nothing 83 = .ok (.lload_n 2, 1) := by decide +kernel
theorem dX11_nothing_84 : decode cX11_nothing 84 = .ok (.aload_n 0, 1) := by decide +kernel
theorem dX11_nothing_85 : decode cX11_nothing 85 = .ok (.getfield 26, 3) := by decide +kernel
theorem dX11_nothing_88 : decode cX11_nothing 88 = .ok (.iload 5, 2) := by decide +kernel
theorem dX11_nothing_90 : decode cX11_nothing 90 = .ok (.invokevirtual 258, 3) := by decide +kernel
theorem dX11_nothing_93 : decode cX11_nothing 93 = .ok (.i2l, 1) := by decide +kernel
theorem dX11_nothing_94 : decode cX11_nothing 94 = .ok (.ladd, 1) := by decide +kernel
theorem dX11_nothing_95 : decode cX11_nothing 95 = .ok (.lstore_n 2, 1) := by decide +kernel
theorem dX11_nothing_96 : decode cX11_nothing 96 = .ok (.iinc 5 1, 3) := by decide +kernel
theorem dX11_nothing_99 : decode cX11_nothing 99 = .ok (.goto (-62), 3) := by decide +kernel
theorem dX11_nothing_102 : decode cX11_nothing 102 = .ok (.lload_n 2, 1) := by decide +kernel
theorem dX11_nothing_103 : decode cX11_nothing 103 = .ok (.lreturn, 1) := by decide +kernel
def fX11_nothing_96 (M : jw_M) (r37 : Int → Int → Int → Option Int) (x2 : Int) (x4 : Int) (x5 : Int) : Option Int :=
  Option.bind (some (jw_w (x5 + 1))) (fun v11 => r37 x2 x4 v11)
set_option maxRecDepth 100000 in
theorem pX11_nothing_96 (G : jw_G) (M : jw_M) (r37 : Int → Int → Int → Option Int) (hr37 : ∀ (x2 : Int) (x4 : Int) (x5 : Int) (hx2 : jw_q x2) (hx4 : jw_r x4) (hx5 : jw_r x5), jw_Rn G YX11_nothing 3 0 0 true (fun v => (v, M)) 37 [(0, jR G 0), (2, jL x2), (4, jI x4), (5, jI x5)] [] M (r37 x2 x4 x5)) : ∀ (x2 : Int) (x4 : Int) (x5 : Int) (hx2 : jw_q x2) (hx4 : jw_r x4) (hx5 : jw_r x5), jw_Rn G YX11_nothing 3 0 0 true (fun v => (v, M)) 96 [(0, jR G 0), (2, jL x2), (4, jI x4), (5, jI x5)] [] M (fX11_nothing_96 M r37 x2 x4 x5) := by
  intro x2 x4 x5 hx2 hx4 hx5
  unfold fX11_nothing_96
  refine jw_iincL (pc := 96) 3 (lv' := (fun y => [(5, y), (0, jR G 0), (2, jL x2), (4, jI x4)])) dX11_nothing_96 rfl (Nat.le_of_ble_eq_true rfl) (fun _ => rfl) (fun v11 hv11 => ?_)
  refine jw_goto (pc := 99) 37 dX11_nothing_99 (by decide) ?_
  exact jw_few [1, 2, 3, 0] rfl (hr37 x2 x4 v11 hx2 hx4 hv11)
def fX11_nothing_37 (M : jw_M) : Nat → Int → Int → Int → Option Int
  | 0, _, _, _ => none
  | k + 1, x2, x4, x5 => if x5 < M (9 + 8) 4 then (if 0 ≤ x5 ∧ x5 < 5 then Option.bind (fX9_hearingTo (9 + 1) x4 (M ((9 + 8) + 5) x5) M) (fun v8 => if v8 < 1000000 then (Option.bind (fX7_minutesGone 9 x5 M) (fun v9 => Option.bind (some (jw_v (x2 + v9))) (fun v10 => fX11_nothing_96 M (fX11_nothing_37 M k) v10 x4 x5))) else (fX11_nothing_96 M (fX11_nothing_37 M k) x2 x4 x5)) else none) else (some x2)
set_option maxRecDepth 100000 in
theorem pX11_nothing_37 (G : jw_G) (M : jw_M) : ∀ (k : Nat) (x2 : Int) (x4 : Int) (x5 : Int) (hx2 : jw_q x2) (hx4 : jw_r x4) (hx5 : jw_r x5), jw_Rn G YX11_nothing 3 0 0 true (fun v => (v, M)) 37 [(0, jR G 0), (2, jL x2), (4, jI x4), (5, jI x5)] [] M (fX11_nothing_37 M k x2 x4 x5) := by
  intro k
  induction k with
  | zero =>
    intro x2 x4 x5 hx2 hx4 hx5
    exact jw_none
  | succ k ih =>
    intro x2 x4 x5 hx2 hx4 hx5
    rw [fX11_nothing_37]
    refine jw_iload (pc := 37) 3 dX11_nothing_37 rfl ?_
    refine jw_aloadR (pc := 39) 0 dX11_nothing_39 rfl ?_
    refine jw_getR (pc := 40) (j := 2) rfl dX11_nothing_40 jv_11 ji_11 (Or.inl jt_374) jg_0 jl_0 (by decide) (by decide) rfl jf_11_2 ?_
    refine jw_getR (pc := 43) (j := 2) rfl dX11_nothing_43 jv_7 ji_7 (Or.inr ⟨_, jt_269⟩) jg_9 jl_9 (by decide) (by decide) rfl (jf_7_2 jg_9).1 ?_
    refine jw_getI (pc := 46) (j := 4) rfl dX11_nothing_46 jv_10 ji_10 (Or.inr ⟨_, jt_155⟩) (jf_7_2 jg_9).2.1 (jf_7_2 jg_9).2.2 (by decide) (by decide) (jw_ho (jf_7_2 jg_9).2.1 (by decide)) (Or.inl rfl) rfl (fun h6 => ?_)
    refine jw_ic_ge (pc := 49) 102 dX11_nothing_49 (by decide) hx5 h6 (fun _ => ?_) (fun _ => ?_)
    · refine jw_aloadR (pc := 52) 0 dX11_nothing_52 rfl ?_
      refine jw_getR (pc := 53) (j := 2) rfl dX11_nothing_53 jv_11 ji_11 (Or.inl jt_374) jg_0 jl_0 (by decide) (by decide) rfl jf_11_2 ?_
      refine jw_getR (pc := 56) (j := 1) rfl dX11_nothing_56 jv_7 ji_7 (Or.inr ⟨_, jt_264⟩) jg_9 jl_9 (by decide) (by decide) rfl (jf_7_1 jg_9).1 ?_
      refine jw_iload (pc := 59) 2 dX11_nothing_59 rfl ?_
      refine jw_aloadR (pc := 61) 0 dX11_nothing_61 rfl ?_
      refine jw_getR (pc := 62) (j := 2) rfl dX11_nothing_62 jv_11 ji_11 (Or.inl jt_374) jg_0 jl_0 (by decide) (by decide) rfl jf_11_2 ?_
      refine jw_getR (pc := 65) (j := 2) rfl dX11_nothing_65 jv_7 ji_7 (Or.inr ⟨_, jt_269⟩) jg_9 jl_9 (by decide) (by decide) rfl (jf_7_2 jg_9).1 ?_
      refine jw_getR (pc := 68) (j := 6) rfl dX11_nothing_68 jv_10 ji_10 (Or.inr ⟨_, jt_164⟩) (jf_7_2 jg_9).2.1 (jf_7_2 jg_9).2.2 (by decide) (by decide) rfl (jf_10_6 (jf_7_2 jg_9).2.1).1 ?_
      refine jw_iload (pc := 71) 3 dX11_nothing_71 rfl ?_
      refine jw_iald (pc := 73) dX11_nothing_73 (jf_10_6 (jf_7_2 jg_9).2.1).2.1 (jf_10_6 (jf_7_2 jg_9).2.1).2.2 (jw_ho (jf_10_6 (jf_7_2 jg_9).2.1).2.1 (by decide)) hx5 rfl (fun h7 => ?_)
      refine jw_callVi (pc := 74) (As := [jI x4, jI (M ((9 + 8) + 5) x5)]) (st := []) dX11_nothing_74 rfl (Nat.le_of_ble_eq_true rfl) qX9_hearingTo jt_740 jt_741 jt_742 rfl rfl (Nat.le_of_ble_eq_true rfl) jv_9 rfl (jf_7_1 jg_9).2.1 (jf_7_1 jg_9).2.2 (by decide) (jw_ho (jf_7_1 jg_9).2.1 (by decide)) (kX9_hearingTo G (9 + 1) x4 (M ((9 + 8) + 5) x5) hx4 h7 M) (fun v8 hv8 => ?_)
      refine jw_ldcw (pc := 77) (n := 1000000) dX11_nothing_77 jt_747 (by decide) ?_
      refine jw_ic_ge (pc := 80) 96 dX11_nothing_80 (by decide) hv8 (jw_rc _ rfl) (fun _ => ?_) (fun _ => ?_)
      · refine jw_lload_n (pc := 83) 1 dX11_nothing_83 rfl ?_
        refine jw_aloadR (pc := 84) 0 dX11_nothing_84 rfl ?_
        refine jw_getR (pc := 85) (j := 2) rfl dX11_nothing_85 jv_11 ji_11 (Or.inl jt_374) jg_0 jl_0 (by decide) (by decide) rfl jf_11_2 ?_
        refine jw_iload (pc := 88) 3 dX11_nothing_88 rfl ?_
        refine jw_callVi (pc := 90) (As := [jI x5]) (st := [jL x2]) dX11_nothing_90 rfl (Nat.le_of_ble_eq_true rfl) qX7_minutesGone jt_849 jt_850 jt_851 rfl rfl (Nat.le_of_ble_eq_true rfl) jv_7 rfl jg_9 jl_9 (by decide) (jw_ho jg_9 (by decide)) (kX7_minutesGone G 9 x5 hx5 M) (fun v9 hv9 => ?_)
        refine jw_i2lr (pc := 93) dX11_nothing_93 hv9 ?_
        refine jw_ladd (pc := 94) dX11_nothing_94 ?_
        refine jw_lstore_nL (pc := 95) (lv' := (fun y => [(2, y), (0, jR G 0), (4, jI x4), (5, jI x5)])) dX11_nothing_95 (jw_vr _) (by decide) (fun _ => rfl) (fun v10 hv10 => ?_)
        exact jw_few [1, 0, 2, 3] rfl (pX11_nothing_96 G M (fX11_nothing_37 M k) ih v10 x4 x5 hv10 hx4 hx5)
      · exact jw_few [0, 1, 2, 3] rfl (pX11_nothing_96 G M (fX11_nothing_37 M k) ih x2 x4 x5 hx2 hx4 hx5)
    · refine jw_lload_n (pc := 102) 1 dX11_nothing_102 rfl ?_
      exact jw_ret (pc := 103) (v := x2) dX11_nothing_103 hx2 rfl rfl
def fX11_nothing (a1 : Int) (M : jw_M) : Option Int :=
  Option.bind (fX10_isWatcher (9 + 8) a1 M) (fun v1 => if v1 = 0 then (some (-9000000000000000001)) else (Option.bind (some 0) (fun v2 => if 0 ≤ a1 ∧ a1 < 4 then Option.bind (some (M ((9 + 8) + 6) a1)) (fun v4 => Option.bind (some 0) (fun v5 => fX11_nothing_37 M jw_fu v2 v4 v5)) else none)))
set_option maxRecDepth 100000 in
theorem rX11_nothing (G : jw_G) (a1 : Int) (ha1 : jw_r a1) (M : jw_M) : jw_Rn G YX11_nothing 3 0 0 true (fun v => (v, M)) 0 [(0, jR G 0), (1, jI a1)] [] M (fX11_nothing a1 M) := by
  unfold fX11_nothing
  refine jw_aloadR (pc := 0) 0 dX11_nothing_0 rfl ?_
  refine jw_getR (pc := 1) (j := 2) rfl dX11_nothing_1 jv_11 ji_11 (Or.inl jt_374) jg_0 jl_0 (by decide) (by decide) rfl jf_11_2 ?_
  refine jw_getR (pc := 4) (j := 2) rfl dX11_nothing_4 jv_7 ji_7 (Or.inr ⟨_, jt_269⟩) jg_9 jl_9 (by decide) (by decide) rfl (jf_7_2 jg_9).1 ?_
  refine jw_iload_n (pc := 7) 1 dX11_nothing_7 rfl ?_
  refine jw_callVz (pc := 8) (As := [jI a1]) (st := []) dX11_nothing_8 rfl (Nat.le_of_ble_eq_true rfl) qX10_isWatcher jt_777 jt_778 jt_779 rfl rfl (Nat.le_of_ble_eq_true rfl) jv_10 rfl (jf_7_2 jg_9).2.1 (jf_7_2 jg_9).2.2 (by decide) (jw_ho (jf_7_2 jg_9).2.1 (by decide)) (kX10_isWatcher G (9 + 8) a1 ha1 M) (fun v1 hv1 => ?_)
  refine jw_if_ne (pc := 11) 18 dX11_nothing_11 (by decide) (jw_bz hv1) (fun _ => ?_) (fun _ => ?_)
  · refine jw_ldc2 (pc := 14) (n := (-9000000000000000001)) dX11_nothing_14 jt_414 (by decide) ?_
    exact jw_ret (pc := 17) (v := (-9000000000000000001)) dX11_nothing_17 (jw_qc _ rfl) rfl rfl
  · refine jw_lconst (pc := 18) (z := 0) dX11_nothing_18 rfl ?_
    refine jw_lstore_nL (pc := 19) (lv' := (fun y => [(2, y), (0, jR G 0), (1, jI a1)])) dX11_nothing_19 (jw_qc _ rfl) (by decide) (fun _ => rfl) (fun v2 hv2 => ?_)
    refine jw_aloadR (pc := 20) 1 dX11_nothing_20 rfl ?_
    refine jw_getR (pc := 21) (j := 2) rfl dX11_nothing_21 jv_11 ji_11 (Or.inl jt_374) jg_0 jl_0 (by decide) (by decide) rfl jf_11_2 ?_
    refine jw_getR (pc := 24) (j := 2) rfl dX11_nothing_24 jv_7 ji_7 (Or.inr ⟨_, jt_269⟩) jg_9 jl_9 (by decide) (by decide) rfl (jf_7_2 jg_9).1 ?_
    refine jw_getR (pc := 27) (j := 8) rfl dX11_nothing_27 jv_10 ji_10 (Or.inr ⟨_, jt_170⟩) (jf_7_2 jg_9).2.1 (jf_7_2 jg_9).2.2 (by decide) (by decide) rfl (jf_10_8 (jf_7_2 jg_9).2.1).1 ?_
    refine jw_iload_n (pc := 30) 2 dX11_nothing_30 rfl ?_
    refine jw_iald (pc := 31) dX11_nothing_31 (jf_10_8 (jf_7_2 jg_9).2.1).2.1 (jf_10_8 (jf_7_2 jg_9).2.1).2.2 (jw_ho (jf_10_8 (jf_7_2 jg_9).2.1).2.1 (by decide)) ha1 rfl (fun h3 => ?_)
    refine jw_istoreL (pc := 32) (lv' := (fun y => [(4, y), (2, jL v2), (0, jR G 0), (1, jI a1)])) dX11_nothing_32 h3 (by decide) (fun _ => rfl) (fun v4 hv4 => ?_)
    refine jw_iconst (pc := 34) dX11_nothing_34 ?_
    refine jw_istoreL (pc := 35) (lv' := (fun y => [(5, y), (4, jI v4), (2, jL v2), (0, jR G 0), (1, jI a1)])) dX11_nothing_35 (jw_rc _ rfl) (by decide) (fun _ => rfl) (fun v5 hv5 => ?_)
    exact jw_few [3, 2, 1, 0] rfl (pX11_nothing_37 G M jw_fu v2 v4 v5 hv2 hv4 hv5)
theorem kX11_nothing (G : jw_G) (a1 : Int) (ha1 : jw_r a1) (M : jw_M) : jw_Ct G YX11_nothing (some .long) 3 0 0 true (fun v => (v, M)) yX11_nothing [jR G 0, jI a1] M (fX11_nothing a1 M) := jw_met (by decide) rfl rfl rfl (Nat.le_of_ble_eq_true rfl) (rX11_nothing G a1 ha1 M)
abbrev YX11_keep : jw_Y := (RX11, cX11_keep, 1, 2, "keep")
theorem qX11_keep : jw_cy YX11_keep (some .long) yX11_keep 0 := ⟨by decide, jt_866, jt_1, by decide, by decide +kernel⟩
theorem dX11_keep_0 : decode cX11_keep 0 = .ok (.aload_n 0, 1) := by decide +kernel
theorem dX11_keep_1 : decode cX11_keep 1 = .ok (.getfield 26, 3) := by decide +kernel
theorem dX11_keep_4 : decode cX11_keep 4 = .ok (.getfield 206, 3) := by decide +kernel
theorem dX11_keep_7 : decode cX11_keep 7 = .ok (.getfield 239, 3) := by decide +kernel
theorem dX11_keep_10 : decode cX11_keep 10 = .ok (.iconst 1, 1) := by decide +kernel
theorem dX11_keep_11 : decode cX11_keep 11 = .ok (.if_icmp .ne 16, 3) := by decide +kernel
theorem dX11_keep_14 : decode cX11_keep 14 = .ok (.aload_n 0, 1) := by decide +kernel
theorem dX11_keep_15 : decode cX11_keep 15 = .ok (.getfield 26, 3) := by decide +kernel
theorem dX11_keep_18 : decode cX11_keep 18 = .ok (.getfield 206, 3) := by decide +kernel
theorem dX11_keep_21 : decode cX11_keep 21 = .ok (.getfield 265, 3) := by decide +kernel
theorem dX11_keep_24 : decode cX11_keep 24 = .ok (.ifCond .eq 7, 3) := by decide +kernel
theorem dX11_keep_27 : decode cX11_keep 27 = .ok (.ldc2_w 201, 3) := by decide +kernel
theorem dX11_keep_30 : decode cX11_keep 30 = .ok (.lreturn, 1) := by decide +kernel
theorem dX11_keep_31 : decode cX11_keep 31 = .ok (.aload_n 0, 1) := by decide +kernel
theorem dX11_keep_32 : decode cX11_keep 32 = .ok (.getfield 26, 3) := by decide +kernel
theorem dX11_keep_35 : decode cX11_keep 35 = .ok (.getfield 268, 3) := by decide +kernel
theorem dX11_keep_38 : decode cX11_keep 38 = .ok (.getfield 272, 3) := by decide +kernel
theorem dX11_keep_41 : decode cX11_keep 41 = .ok (.bipush 12, 2) := by decide +kernel
theorem dX11_keep_43 : decode cX11_keep 43 = .ok (.if_icmp .lt 7, 3) := by decide +kernel
theorem dX11_keep_46 : decode cX11_keep 46 = .ok (.ldc2_w 115, 3) := by decide +kernel
theorem dX11_keep_49 : decode cX11_keep 49 = .ok (.lreturn, 1) := by decide +kernel
theorem dX11_keep_50 : decode cX11_keep 50 = .ok (.aload_n 0, 1) := by decide +kernel
theorem dX11_keep_51 : decode cX11_keep 51 = .ok (.getfield 26, 3) := by decide +kernel
theorem dX11_keep_54 : decode cX11_keep 54 = .ok (.getfield 268, 3) := by decide +kernel
theorem dX11_keep_57 : decode cX11_keep 57 = .ok (.aload_n 0, 1) := by decide +kernel
theorem dX11_keep_58 : decode cX11_keep 58 = .ok (.getfield 26, 3) := by decide +kernel
theorem dX11_keep_61 : decode cX11_keep 61 = .ok (.getfield 206, 3) := by decide +kernel
theorem dX11_keep_64 : decode cX11_keep 64 = .ok (.invokevirtual 277, 3) := by decide +kernel
theorem dX11_keep_67 : decode cX11_keep 67 = .ok (.aload_n 0, 1) := by decide +kernel
theorem dX11_keep_68 : decode cX11_keep 68 = .ok (.getfield 26, 3) := by decide +kernel
theorem dX11_keep_71 : decode cX11_keep 71 = .ok (.getfield 206, 3) := by decide +kernel
theorem dX11_keep_74 : decode cX11_keep 74 = .ok (.iconst 1, 1) := by decide +kernel
theorem dX11_keep_75 : decode cX11_keep 75 = .ok (.putfield 265, 3) := by decide +kernel
theorem dX11_keep_78 : decode cX11_keep 78 = .ok (.aload_n 0, 1) := by decide +kernel
theorem dX11_keep_79 : decode cX11_keep 79 = .ok (.getfield 26, 3) := by decide +kernel
theorem dX11_keep_82 : decode cX11_keep 82 = .ok (.getfield 268, 3) := by decide +kernel
theorem dX11_keep_85 : decode cX11_keep 85 = .ok (.getfield 272, 3) := by decide +kernel
theorem dX11_keep_88 : decode cX11_keep 88 = .ok (.i2l, 1) := by decide +kernel
theorem dX11_keep_89 : decode cX11_keep 89 = .ok (.lreturn, 1) := by decide +kernel
def fX11_keep (M : jw_M) : Option (Int × jw_M) :=
  if M (9 + 15) 0 = 1 then (if M (9 + 15) 1 = 0 then (if M (9 + 21) 0 < 12 then (Option.bind (fX1_add (9 + 21) (9 + 15) M) (fun M4 => Option.bind (some (jw_up M4 (9 + 15) 1 1)) (fun M5 => some (M5 (9 + 21) 0, M5)))) else (some ((-9000000000000000003), M))) else (some ((-9000000000000000002), M))) else (some ((-9000000000000000002), M))
set_option maxRecDepth 100000 in
theorem rX11_keep (G : jw_G) (M : jw_M) : jw_Rn G YX11_keep 3 0 0 true (fun q => q) 0 [(0, jR G 0)] [] M (fX11_keep M) := by
  unfold fX11_keep
  refine jw_aloadR (pc := 0) 0 dX11_keep_0 rfl ?_
  refine jw_getR (pc := 1) (j := 2) rfl dX11_keep_1 jv_11 ji_11 (Or.inl jt_374) jg_0 jl_0 (by decide) (by decide) rfl jf_11_2 ?_
  refine jw_getR (pc := 4) (j := 3) rfl dX11_keep_4 jv_7 ji_7 (Or.inr ⟨_, jt_273⟩) jg_9 jl_9 (by decide) (by decide) rfl (jf_7_3 jg_9).1 ?_
  refine jw_getI (pc := 7) (j := 0) rfl dX11_keep_7 jv_3 ji_3 (Or.inr ⟨_, jt_198⟩) (jf_7_3 jg_9).2.1 (jf_7_3 jg_9).2.2 (by decide) (by decide) (jw_ho (jf_7_3 jg_9).2.1 (by decide)) (Or.inl rfl) rfl (fun h1 => ?_)
  refine jw_iconst (pc := 10) dX11_keep_10 ?_
  refine jw_ic_ne (pc := 11) 27 dX11_keep_11 (by decide) h1 (jw_rc _ rfl) (fun _ => ?_) (fun _ => ?_)
  · refine jw_aloadR (pc := 14) 0 dX11_keep_14 rfl ?_
    refine jw_getR (pc := 15) (j := 2) rfl dX11_keep_15 jv_11 ji_11 (Or.inl jt_374) jg_0 jl_0 (by decide) (by decide) rfl jf_11_2 ?_
    refine jw_getR (pc := 18) (j := 3) rfl dX11_keep_18 jv_7 ji_7 (Or.inr ⟨_, jt_273⟩) jg_9 jl_9 (by decide) (by decide) rfl (jf_7_3 jg_9).1 ?_
    refine jw_getI (pc := 21) (j := 1) rfl dX11_keep_21 jv_3 ji_3 (Or.inr ⟨_, jt_200⟩) (jf_7_3 jg_9).2.1 (jf_7_3 jg_9).2.2 (by decide) (by decide) (jw_ho (jf_7_3 jg_9).2.1 (by decide)) (Or.inr rfl) rfl (fun h2 => ?_)
    refine jw_if_eq (pc := 24) 31 dX11_keep_24 (by decide) h2 (fun _ => ?_) (fun _ => ?_)
    · refine jw_aloadR (pc := 31) 0 dX11_keep_31 rfl ?_
      refine jw_getR (pc := 32) (j := 2) rfl dX11_keep_32 jv_11 ji_11 (Or.inl jt_374) jg_0 jl_0 (by decide) (by decide) rfl jf_11_2 ?_
      refine jw_getR (pc := 35) (j := 4) rfl dX11_keep_35 jv_7 ji_7 (Or.inr ⟨_, jt_277⟩) jg_9 jl_9 (by decide) (by decide) rfl (jf_7_4 jg_9).1 ?_
      refine jw_getI (pc := 38) (j := 0) rfl dX11_keep_38 jv_1 ji_1 (Or.inr ⟨_, jt_233⟩) (jf_7_4 jg_9).2.1 (jf_7_4 jg_9).2.2 (by decide) (by decide) (jw_ho (jf_7_4 jg_9).2.1 (by decide)) (Or.inl rfl) rfl (fun h3 => ?_)
      refine jw_bipush (pc := 41) dX11_keep_41 rfl ?_
      refine jw_ic_lt (pc := 43) 50 dX11_keep_43 (by decide) h3 (jw_rc _ rfl) (fun _ => ?_) (fun _ => ?_)
      · refine jw_aloadR (pc := 50) 0 dX11_keep_50 rfl ?_
        refine jw_getR (pc := 51) (j := 2) rfl dX11_keep_51 jv_11 ji_11 (Or.inl jt_374) jg_0 jl_0 (by decide) (by decide) rfl jf_11_2 ?_
        refine jw_getR (pc := 54) (j := 4) rfl dX11_keep_54 jv_7 ji_7 (Or.inr ⟨_, jt_277⟩) jg_9 jl_9 (by decide) (by decide) rfl (jf_7_4 jg_9).1 ?_
        refine jw_aloadR (pc := 57) 0 dX11_keep_57 rfl ?_
        refine jw_getR (pc := 58) (j := 2) rfl dX11_keep_58 jv_11 ji_11 (Or.inl jt_374) jg_0 jl_0 (by decide) (by decide) rfl jf_11_2 ?_
        refine jw_getR (pc := 61) (j := 3) rfl dX11_keep_61 jv_7 ji_7 (Or.inr ⟨_, jt_273⟩) jg_9 jl_9 (by decide) (by decide) rfl (jf_7_3 jg_9).1 ?_
        refine jw_callVM (pc := 64) (As := [jR G (9 + 15)]) (st := []) dX11_keep_64 rfl (Nat.le_of_ble_eq_true rfl) qX1_add jt_867 jt_868 jt_869 rfl rfl (Nat.le_of_ble_eq_true rfl) jv_1 rfl (jf_7_4 jg_9).2.1 (jf_7_4 jg_9).2.2 (by decide) (jw_ho (jf_7_4 jg_9).2.1 (by decide)) (kX1_add G (9 + 21) (9 + 15) M) (fun M4 => ?_)
        refine jw_aloadR (pc := 67) 0 dX11_keep_67 rfl ?_
        refine jw_getR (pc := 68) (j := 2) rfl dX11_keep_68 jv_11 ji_11 (Or.inl jt_374) jg_0 jl_0 (by decide) (by decide) rfl jf_11_2 ?_
        refine jw_getR (pc := 71) (j := 3) rfl dX11_keep_71 jv_7 ji_7 (Or.inr ⟨_, jt_273⟩) jg_9 jl_9 (by decide) (by decide) rfl (jf_7_3 jg_9).1 ?_
        refine jw_iconst (pc := 74) dX11_keep_74 ?_
        refine jw_putZ (pc := 75) (j := 1) tyX3 rfl dX11_keep_75 jv_3 ji_3 tyX3_ok nmX3 (Or.inr ⟨_, jt_200⟩) rfl (jf_7_3 jg_9).2.1 (jf_7_3 jg_9).2.2 (by decide) (by decide) (jw_ho (jf_7_3 jg_9).2.1 (by decide)) rfl rfl (Or.inr rfl) rfl ?_
        refine jw_letM (fun M5 => ?_)
        refine jw_aloadR (pc := 78) 0 dX11_keep_78 rfl ?_
        refine jw_getR (pc := 79) (j := 2) rfl dX11_keep_79 jv_11 ji_11 (Or.inl jt_374) jg_0 jl_0 (by decide) (by decide) rfl jf_11_2 ?_
        refine jw_getR (pc := 82) (j := 4) rfl dX11_keep_82 jv_7 ji_7 (Or.inr ⟨_, jt_277⟩) jg_9 jl_9 (by decide) (by decide) rfl (jf_7_4 jg_9).1 ?_
        refine jw_getI (pc := 85) (j := 0) rfl dX11_keep_85 jv_1 ji_1 (Or.inr ⟨_, jt_233⟩) (jf_7_4 jg_9).2.1 (jf_7_4 jg_9).2.2 (by decide) (by decide) (jw_ho (jf_7_4 jg_9).2.1 (by decide)) (Or.inl rfl) rfl (fun h6 => ?_)
        refine jw_i2lr (pc := 88) dX11_keep_88 h6 ?_
        exact jw_ret (pc := 89) (v := M5 (9 + 21) 0) dX11_keep_89 (jw_rq h6) rfl rfl
      · refine jw_ldc2 (pc := 46) (n := (-9000000000000000003)) dX11_keep_46 jt_484 (by decide) ?_
        exact jw_ret (pc := 49) (v := (-9000000000000000003)) dX11_keep_49 (jw_qc _ rfl) rfl rfl
    · refine jw_ldc2 (pc := 27) (n := (-9000000000000000002)) dX11_keep_27 jt_789 (by decide) ?_
      exact jw_ret (pc := 30) (v := (-9000000000000000002)) dX11_keep_30 (jw_qc _ rfl) rfl rfl
  · refine jw_ldc2 (pc := 27) (n := (-9000000000000000002)) dX11_keep_27 jt_789 (by decide) ?_
    exact jw_ret (pc := 30) (v := (-9000000000000000002)) dX11_keep_30 (jw_qc _ rfl) rfl rfl
theorem kX11_keep (G : jw_G) (M : jw_M) : jw_Ct G YX11_keep (some .long) 3 0 0 true (fun q => q) yX11_keep [jR G 0] M (fX11_keep M) := jw_met (by decide) rfl rfl rfl (Nat.le_of_ble_eq_true rfl) (rX11_keep G M)
abbrev YX11_commonDivisor : jw_Y := (RX11, cX11_commonDivisor, 11, 2, "commonDivisor")
theorem qX11_commonDivisor : jw_cy YX11_commonDivisor (some .long) yX11_commonDivisor 2 := ⟨by decide, jt_895, jt_1, by decide, by decide +kernel⟩
theorem dX11_commonDivisor_0 : decode cX11_commonDivisor 0 = .ok (.lload_n 0, 1) := by decide +kernel
theorem dX11_commonDivisor_1 : decode cX11_commonDivisor 1 = .ok (.lstore 4, 2) := by decide +kernel
theorem dX11_commonDivisor_3 : decode cX11_commonDivisor 3 = .ok (.lload_n 2, 1) := by decide +kernel
theorem dX11_commonDivisor_4 : decode cX11_commonDivisor 4 = .ok (.lstore 6, 2) := by decide +kernel
theorem dX11_commonDivisor_6 : decode cX11_commonDivisor 6 = .ok (.iconst 0, 1) := by decide +kernel
theorem dX11_commonDivisor_7 : decode cX11_commonDivisor 7 = .ok (.istore 8, 2) := by decide +kernel
theorem dX11_commonDivisor_9 : decode cX11_commonDivisor 9 = .ok (.iload 8, 2) := by decide +kernel
theorem dX11_commonDivisor_11 : decode cX11_commonDivisor 11 = .ok (.sipush 200, 3) := by decide +kernel
theorem dX11_commonDivisor_14 : decode cX11_commonDivisor 14 = .ok (.if_icmp .ge 31, 3) := by decide +kernel
theorem dX11_commonDivisor_17 : decode cX11_commonDivisor 17 = .ok (.lload 6, 2) := by decide +kernel
theorem dX11_commonDivisor_19 : decode cX11_commonDivisor 19 = .ok (.lconst 0, 1) := by decide +kernel
theorem dX11_commonDivisor_20 : decode cX11_commonDivisor 20 = .ok (.lcmp, 1) := by decide +kernel
theorem dX11_commonDivisor_21 : decode cX11_commonDivisor 21 = .ok (.ifCond .eq 24, 3) := by decide +kernel
theorem dX11_commonDivisor_24 : decode cX11_commonDivisor 24 = .ok (.lload 4, 2) := by decide +kernel
theorem dX11_commonDivisor_26 : decode cX11_commonDivisor 26 = .ok (.lload 6, 2) := by decide +kernel
theorem dX11_commonDivisor_28 : decode cX11_commonDivisor 28 = .ok (.lrem, 1) := by decide +kernel
theorem dX11_commonDivisor_29 : decode cX11_commonDivisor 29 = .ok (.lstore 9, 2) := by decide +kernel
theorem dX11_commonDivisor_31 : decode cX11_commonDivisor 31 = .ok (.lload 6, 2) := by decide +kernel
theorem dX11_commonDivisor_33 : decode cX11_commonDivisor 33 = .ok (.lstore 4, 2) := by decide +kernel
theorem dX11_commonDivisor_35 : decode cX11_commonDivisor 35 = .ok (.lload 9, 2) := by decide +kernel
theorem dX11_commonDivisor_37 : decode cX11_commonDivisor 37 = .ok (.lstore 6, 2) := by decide +kernel
theorem dX11_commonDivisor_39 : decode cX11_commonDivisor 39 = .ok (.iinc 8 1, 3) := by decide +kernel
theorem dX11_commonDivisor_42 : decode cX11_commonDivisor 42 = .ok (.goto (-33), 3) := by decide +kernel
theorem dX11_commonDivisor_45 : decode cX11_commonDivisor 45 = .ok (.lload 4, 2) := by decide +kernel
theorem dX11_commonDivisor_47 : decode cX11_commonDivisor 47 = .ok (.lreturn, 1) := by decide +kernel
def fX11_commonDivisor_9 (M : jw_M) : Nat → Int → Int → Int → Option Int
  | 0, _, _, _ => none
  | k + 1, x4, x6, x8 => if x8 < 200 then (if jw_cmp x6 0 = 0 then (some x4) else (if x6 ≠ 0 then Option.bind (some (jw_v (Int.tmod x4 x6))) (fun v4 => Option.bind (some x6) (fun v5 => Option.bind (some v4) (fun v6 => Option.bind (some (jw_w (x8 + 1))) (fun v7 => fX11_commonDivisor_9 M k v5 v6 v7)))) else none)) else (some x4)
set_option maxRecDepth 100000 in
theorem pX11_commonDivisor_9 (G : jw_G) (M : jw_M) : ∀ (k : Nat) (x4 : Int) (x6 : Int) (x8 : Int) (hx4 : jw_q x4) (hx6 : jw_q x6) (hx8 : jw_r x8), jw_Rn G YX11_commonDivisor 1 0 0 true (fun v => (v, M)) 9 [(4, jL x4), (6, jL x6), (8, jI x8)] [] M (fX11_commonDivisor_9 M k x4 x6 x8) := by
  intro k
  induction k with
  | zero =>
    intro x4 x6 x8 hx4 hx6 hx8
    exact jw_none
  | succ k ih =>
    intro x4 x6 x8 hx4 hx6 hx8
    rw [fX11_commonDivisor_9]
    refine jw_iload (pc := 9) 2 dX11_commonDivisor_9 rfl ?_
    refine jw_sipush (pc := 11) dX11_commonDivisor_11 rfl ?_
    refine jw_ic_ge (pc := 14) 45 dX11_commonDivisor_14 (by decide) hx8 (jw_rc _ rfl) (fun _ => ?_) (fun _ => ?_)
    · refine jw_lload (pc := 17) 1 dX11_commonDivisor_17 rfl ?_
      refine jw_lconst (pc := 19) (z := 0) dX11_commonDivisor_19 rfl ?_
      refine jw_lcmp (pc := 20) dX11_commonDivisor_20 hx6 (jw_qc _ rfl) ?_
      refine jw_if_eq (pc := 21) 45 dX11_commonDivisor_21 (by decide) (jw_cmpr _ _) (fun _ => ?_) (fun _ => ?_)
      · refine jw_lload (pc := 45) 0 dX11_commonDivisor_45 rfl ?_
        exact jw_ret (pc := 47) (v := x4) dX11_commonDivisor_47 hx4 rfl rfl
      · refine jw_lload (pc := 24) 0 dX11_commonDivisor_24 rfl ?_
        refine jw_lload (pc := 26) 1 dX11_commonDivisor_26 rfl ?_
        refine jw_lrem (pc := 28) dX11_commonDivisor_28 hx4 hx6 ?_
        refine jw_lstoreL (pc := 29) (lv' := (fun y => [(9, y), (4, jL x4), (6, jL x6), (8, jI x8)])) dX11_commonDivisor_29 (jw_vr _) (by decide) (fun _ => rfl) (fun v4 hv4 => ?_)
        refine jw_lload (pc := 31) 2 dX11_commonDivisor_31 rfl ?_
        refine jw_lstoreL (pc := 33) (lv' := (fun y => [(4, y), (9, jL v4), (6, jL x6), (8, jI x8)])) dX11_commonDivisor_33 hx6 (by decide) (fun _ => rfl) (fun v5 hv5 => ?_)
        refine jw_lload (pc := 35) 1 dX11_commonDivisor_35 rfl ?_
        refine jw_lstoreL (pc := 37) (lv' := (fun y => [(6, y), (4, jL v5), (9, jL v4), (8, jI x8)])) dX11_commonDivisor_37 hv4 (by decide) (fun _ => rfl) (fun v6 hv6 => ?_)
        refine jw_iincL (pc := 39) 3 (lv' := (fun y => [(8, y), (6, jL v6), (4, jL v5), (9, jL v4)])) dX11_commonDivisor_39 rfl (Nat.le_of_ble_eq_true rfl) (fun _ => rfl) (fun v7 hv7 => ?_)
        refine jw_goto (pc := 42) 9 dX11_commonDivisor_42 (by decide) ?_
        exact jw_few [2, 1, 0] rfl (ih v5 v6 v7 hv5 hv6 hv7)
    · refine jw_lload (pc := 45) 0 dX11_commonDivisor_45 rfl ?_
      exact jw_ret (pc := 47) (v := x4) dX11_commonDivisor_47 hx4 rfl rfl
def fX11_commonDivisor (a1 : Int) (a2 : Int) (M : jw_M) : Option Int :=
  Option.bind (some a1) (fun v1 => Option.bind (some a2) (fun v2 => Option.bind (some 0) (fun v3 => fX11_commonDivisor_9 M jw_fu v1 v2 v3)))
set_option maxRecDepth 100000 in
theorem rX11_commonDivisor (G : jw_G) (a1 : Int) (a2 : Int) (ha1 : jw_q a1) (ha2 : jw_q a2) (M : jw_M) : jw_Rn G YX11_commonDivisor 1 0 0 true (fun v => (v, M)) 0 [(0, jL a1), (2, jL a2)] [] M (fX11_commonDivisor a1 a2 M) := by
  unfold fX11_commonDivisor
  refine jw_lload_n (pc := 0) 0 dX11_commonDivisor_0 rfl ?_
  refine jw_lstoreL (pc := 1) (lv' := (fun y => [(4, y), (0, jL a1), (2, jL a2)])) dX11_commonDivisor_1 ha1 (by decide) (fun _ => rfl) (fun v1 hv1 => ?_)
  refine jw_lload_n (pc := 3) 2 dX11_commonDivisor_3 rfl ?_
  refine jw_lstoreL (pc := 4) (lv' := (fun y => [(6, y), (4, jL v1), (0, jL a1), (2, jL a2)])) dX11_commonDivisor_4 ha2 (by decide) (fun _ => rfl) (fun v2 hv2 => ?_)
  refine jw_iconst (pc := 6) dX11_commonDivisor_6 ?_
  refine jw_istoreL (pc := 7) (lv' := (fun y => [(8, y), (6, jL v2), (4, jL v1), (0, jL a1), (2, jL a2)])) dX11_commonDivisor_7 (jw_rc _ rfl) (by decide) (fun _ => rfl) (fun v3 hv3 => ?_)
  exact jw_few [2, 1, 0] rfl (pX11_commonDivisor_9 G M jw_fu v1 v2 v3 hv1 hv2 hv3)
theorem kX11_commonDivisor (G : jw_G) (a1 : Int) (a2 : Int) (ha1 : jw_q a1) (ha2 : jw_q a2) (M : jw_M) : jw_Ct G YX11_commonDivisor (some .long) 1 0 0 true (fun v => (v, M)) yX11_commonDivisor [jL a1, jL a2] M (fX11_commonDivisor a1 a2 M) := jw_met (by decide) rfl rfl rfl (Nat.le_of_ble_eq_true rfl) (rX11_commonDivisor G a1 a2 ha1 ha2 M)
abbrev YX11_half : jw_Y := (RX11, cX11_half, 7, 2, "half")
theorem qX11_half : jw_cy YX11_half (some .long) yX11_half 3 := ⟨by decide, jt_889, jt_1, by decide, by decide +kernel⟩
theorem dX11_half_0 : decode cX11_half 0 = .ok (.lload_n 0, 1) := by decide +kernel
theorem dX11_half_1 : decode cX11_half 1 = .ok (.invokestatic 389, 3) := by decide +kernel
theorem dX11_half_4 : decode cX11_half 4 = .ok (.lload_n 2, 1) := by decide +kernel
theorem dX11_half_5 : decode cX11_half 5 = .ok (.invokestatic 394, 3) := by decide +kernel
theorem dX11_half_8 : decode cX11_half 8 = .ok (.lstore 5, 2) := by decide +kernel
theorem dX11_half_10 : decode cX11_half 10 = .ok (.lload 5, 2) := by decide +kernel
theorem dX11_half_12 : decode cX11_half 12 = .ok (.lconst 0, 1) := by decide +kernel
theorem dX11_half_13 : decode cX11_half 13 = .ok (.lcmp, 1) := by decide +kernel
theorem dX11_half_14 : decode cX11_half 14 = .ok (.ifCond .ne 5, 3) := by decide +kernel
theorem dX11_half_17 : decode cX11_half 17 = .ok (.lconst 0, 1) := by decide +kernel
theorem dX11_half_18 : decode cX11_half 18 = .ok (.lreturn, 1) := by decide +kernel
theorem dX11_half_19 : decode cX11_half 19 = .ok (.iload 4, 2) := by decide +kernel
theorem dX11_half_21 : decode cX11_half 21 = .ok (.ifCond .ne 7, 3) := by decide +kernel
theorem dX11_half_24 : decode cX11_half 24 = .ok (.lload_n 0, 1) := by decide +kernel
theorem dX11_half_25 : decode cX11_half 25 = .ok (.goto 4, 3) := by decide +kernel
theorem dX11_half_28 : decode cX11_half 28 = .ok (.lload_n 2, 1) := by decide +kernel
theorem dX11_half_29 : decode cX11_half 29 = .ok (.lload 5, 2) := by decide +kernel
theorem dX11_half_31 : decode cX11_half 31 = .ok (.ldiv, 1) := by decide +kernel
theorem dX11_half_32 : decode cX11_half 32 = .ok (.lreturn, 1) := by decide +kernel
def fX11_half_29 (M : jw_M) (x5 : Int) (xs0 : Int) : Option Int :=
  if x5 ≠ 0 then some (jw_v (Int.tdiv xs0 x5)) else none
set_option maxRecDepth 100000 in
theorem pX11_half_29 (G : jw_G) (M : jw_M) : ∀ (x5 : Int) (xs0 : Int) (hx5 : jw_q x5) (hxs0 : jw_q xs0), jw_Rn G YX11_half 2 0 0 true (fun v => (v, M)) 29 [(5, jL x5)] [jL xs0] M (fX11_half_29 M x5 xs0) := by
  intro x5 xs0 hx5 hxs0
  unfold fX11_half_29
  refine jw_lload (pc := 29) 0 dX11_half_29 rfl ?_
  refine jw_ldiv (pc := 31) dX11_half_31 hxs0 hx5 ?_
  exact jw_ret (pc := 32) (v := jw_v (Int.tdiv xs0 x5)) dX11_half_32 (jw_vr _) rfl rfl
def fX11_half (a1 : Int) (a2 : Int) (a3 : Int) (M : jw_M) : Option Int :=
  Option.bind (fX11_commonDivisor (jw_abs a1) a2 M) (fun v1 => Option.bind (some v1) (fun v2 => if jw_cmp v2 0 = 0 then (some 0) else (if a3 = 0 then (fX11_half_29 M v2 a1) else (fX11_half_29 M v2 a2))))
set_option maxRecDepth 100000 in
theorem rX11_half (G : jw_G) (a1 : Int) (a2 : Int) (a3 : Int) (ha1 : jw_q a1) (ha2 : jw_q a2) (ha3 : jw_r a3) (M : jw_M) : jw_Rn G YX11_half 2 0 0 true (fun v => (v, M)) 0 [(0, jL a1), (2, jL a2), (4, jI a3)] [] M (fX11_half a1 a2 a3 M) := by
  unfold fX11_half
  refine jw_lload_n (pc := 0) 0 dX11_half_0 rfl ?_
  refine jw_mabsL (pc := 1) dX11_half_1 jt_890 jt_891 jt_20 jt_892 (by decide) (Nat.le_of_ble_eq_true rfl) ha1 ?_
  refine jw_lload_n (pc := 4) 1 dX11_half_4 rfl ?_
  refine jw_callSl (pc := 5) (As := [jL (jw_abs a1), jL a2]) (st := []) dX11_half_5 rfl (Nat.le_of_ble_eq_true rfl) qX11_commonDivisor jt_893 jt_894 rfl rfl (Nat.le_of_ble_eq_true rfl) (kX11_commonDivisor G (jw_abs a1) a2 (jw_absq ha1) ha2 M) (fun v1 hv1 => ?_)
  refine jw_lstoreL (pc := 8) (lv' := (fun y => [(5, y), (0, jL a1), (2, jL a2), (4, jI a3)])) dX11_half_8 hv1 (by decide) (fun _ => rfl) (fun v2 hv2 => ?_)
  refine jw_lload (pc := 10) 0 dX11_half_10 rfl ?_
  refine jw_lconst (pc := 12) (z := 0) dX11_half_12 rfl ?_
  refine jw_lcmp (pc := 13) dX11_half_13 hv2 (jw_qc _ rfl) ?_
  refine jw_if_ne (pc := 14) 19 dX11_half_14 (by decide) (jw_cmpr _ _) (fun _ => ?_) (fun _ => ?_)
  · refine jw_lconst (pc := 17) (z := 0) dX11_half_17 rfl ?_
    exact jw_ret (pc := 18) (v := 0) dX11_half_18 (jw_qc _ rfl) rfl rfl
  · refine jw_iload (pc := 19) 3 dX11_half_19 rfl ?_
    refine jw_if_ne (pc := 21) 28 dX11_half_21 (by decide) ha3 (fun _ => ?_) (fun _ => ?_)
    · refine jw_lload_n (pc := 24) 1 dX11_half_24 rfl ?_
      refine jw_goto (pc := 25) 29 dX11_half_25 (by decide) ?_
      exact jw_few [0] rfl (pX11_half_29 G M v2 a1 hv2 ha1)
    · refine jw_lload_n (pc := 28) 2 dX11_half_28 rfl ?_
      exact jw_few [0] rfl (pX11_half_29 G M v2 a2 hv2 ha2)
theorem kX11_half (G : jw_G) (a1 : Int) (a2 : Int) (a3 : Int) (ha1 : jw_q a1) (ha2 : jw_q a2) (ha3 : jw_r a3) (M : jw_M) : jw_Ct G YX11_half (some .long) 2 0 0 true (fun v => (v, M)) yX11_half [jL a1, jL a2, jI a3] M (fX11_half a1 a2 a3 M) := jw_met (by decide) rfl rfl rfl (Nat.le_of_ble_eq_true rfl) (rX11_half G a1 a2 a3 ha1 ha2 ha3 M)
abbrev YX11_feared : jw_Y := (RX11, cX11_feared, 3, 2, "feared")
theorem qX11_feared : jw_cy YX11_feared (some .long) yX11_feared 2 := ⟨by decide, jt_878, jt_1, by decide, by decide +kernel⟩
theorem dX11_feared_0 : decode cX11_feared 0 = .ok (.aload_n 0, 1) := by decide +kernel
theorem dX11_feared_1 : decode cX11_feared 1 = .ok (.getfield 26, 3) := by decide +kernel
theorem dX11_feared_4 : decode cX11_feared 4 = .ok (.getfield 137, 3) := by decide +kernel
theorem dX11_feared_7 : decode cX11_feared 7 = .ok (.iload_n 1, 1) := by decide +kernel
theorem dX11_feared_8 : decode cX11_feared 8 = .ok (.invokevirtual 146, 3) := by decide +kernel
theorem dX11_feared_11 : decode cX11_feared 11 = .ok (.ifCond .eq 10, 3) := by decide +kernel
theorem dX11_feared_14 : decode cX11_feared 14 = .ok (.iload_n 2, 1) := by decide +kernel
theorem dX11_feared_15 : decode cX11_feared 15 = .ok (.invokestatic 149, 3) := by decide +kernel
theorem dX11_feared_18 : decode cX11_feared 18 = .ok (.ifCond .ne 7, 3) := by decide +kernel
theorem dX11_feared_21 : decode cX11_feared 21 = .ok (.ldc2_w 75, 3) := by decide +kernel
theorem dX11_feared_24 : decode cX11_feared 24 = .ok (.lreturn, 1) := by decide +kernel
theorem dX11_feared_25 : decode cX11_feared 25 = .ok (.aload_n 0, 1) := by decide +kernel
theorem dX11_feared_26 : decode cX11_feared 26 = .ok (.getfield 26, 3) := by decide +kernel
theorem dX11_feared_29 : decode cX11_feared 29 = .ok (.getfield 268, 3) := by decide +kernel
theorem dX11_feared_32 : decode cX11_feared 32 = .ok (.iload_n 1, 1) := by decide +kernel
theorem dX11_feared_33 : decode cX11_feared 33 = .ok (.invokevirtual 281, 3) := by decide +kernel
theorem dX11_feared_36 : decode cX11_feared 36 = .ok (.i2l, 1) := by decide +kernel
theorem dX11_feared_37 : decode cX11_feared 37 = .ok (.aload_n 0, 1) := by decide +kernel
theorem dX11_feared_38 : decode cX11_feared 38 = .ok (.getfield 26, 3) := by decide +kernel
theorem dX11_feared_41 : decode cX11_feared 41 = .ok (.getfield 268, 3) := by decide +kernel
theorem dX11_feared_44 : decode cX11_feared 44 = .ok (.invokevirtual 284, 3) := by decide +kernel
theorem dX11_feared_47 : decode cX11_feared 47 = .ok (.i2l, 1) := by decide +kernel
theorem dX11_feared_48 : decode cX11_feared 48 = .ok (.iload_n 2, 1) := by decide +kernel
theorem dX11_feared_49 : decode cX11_feared 49 = .ok (.invokestatic 287, 3) := by decide +kernel
theorem dX11_feared_52 : decode cX11_feared 52 = .ok (.lreturn, 1) := by decide +kernel
def fX11_feared (a1 : Int) (a2 : Int) (M : jw_M) : Option Int :=
  Option.bind (fX9_isCorner (9 + 1) a1 M) (fun v1 => if v1 = 0 then (some (-9000000000000000001)) else (Option.bind (fX11_isHalf a2 M) (fun v2 => if v2 = 0 then (some (-9000000000000000001)) else (Option.bind (fX1_fearedAbove (9 + 21) a1 M) (fun v3 => Option.bind (fX1_fearedBelow (9 + 21) M) (fun v4 => Option.bind (fX11_half v3 v4 a2 M) (fun v5 => some v5)))))))
set_option maxRecDepth 100000 in
theorem rX11_feared (G : jw_G) (a1 : Int) (a2 : Int) (ha1 : jw_r a1) (ha2 : jw_r a2) (M : jw_M) : jw_Rn G YX11_feared 3 0 0 true (fun v => (v, M)) 0 [(0, jR G 0), (1, jI a1), (2, jI a2)] [] M (fX11_feared a1 a2 M) := by
  unfold fX11_feared
  refine jw_aloadR (pc := 0) 0 dX11_feared_0 rfl ?_
  refine jw_getR (pc := 1) (j := 2) rfl dX11_feared_1 jv_11 ji_11 (Or.inl jt_374) jg_0 jl_0 (by decide) (by decide) rfl jf_11_2 ?_
  refine jw_getR (pc := 4) (j := 1) rfl dX11_feared_4 jv_7 ji_7 (Or.inr ⟨_, jt_264⟩) jg_9 jl_9 (by decide) (by decide) rfl (jf_7_1 jg_9).1 ?_
  refine jw_iload_n (pc := 7) 1 dX11_feared_7 rfl ?_
  refine jw_callVz (pc := 8) (As := [jI a1]) (st := []) dX11_feared_8 rfl (Nat.le_of_ble_eq_true rfl) qX9_isCorner jt_729 jt_730 jt_731 rfl rfl (Nat.le_of_ble_eq_true rfl) jv_9 rfl (jf_7_1 jg_9).2.1 (jf_7_1 jg_9).2.2 (by decide) (jw_ho (jf_7_1 jg_9).2.1 (by decide)) (kX9_isCorner G (9 + 1) a1 ha1 M) (fun v1 hv1 => ?_)
  refine jw_if_eq (pc := 11) 21 dX11_feared_11 (by decide) (jw_bz hv1) (fun _ => ?_) (fun _ => ?_)
  · refine jw_ldc2 (pc := 21) (n := (-9000000000000000001)) dX11_feared_21 jt_414 (by decide) ?_
    exact jw_ret (pc := 24) (v := (-9000000000000000001)) dX11_feared_24 (jw_qc _ rfl) rfl rfl
  · refine jw_iload_n (pc := 14) 2 dX11_feared_14 rfl ?_
    refine jw_callSz (pc := 15) (As := [jI a2]) (st := []) dX11_feared_15 rfl (Nat.le_of_ble_eq_true rfl) qX11_isHalf jt_733 jt_734 rfl rfl (Nat.le_of_ble_eq_true rfl) (kX11_isHalf G a2 ha2 M) (fun v2 hv2 => ?_)
    refine jw_if_ne (pc := 18) 25 dX11_feared_18 (by decide) (jw_bz hv2) (fun _ => ?_) (fun _ => ?_)
    · refine jw_ldc2 (pc := 21) (n := (-9000000000000000001)) dX11_feared_21 jt_414 (by decide) ?_
      exact jw_ret (pc := 24) (v := (-9000000000000000001)) dX11_feared_24 (jw_qc _ rfl) rfl rfl
    · refine jw_aloadR (pc := 25) 0 dX11_feared_25 rfl ?_
      refine jw_getR (pc := 26) (j := 2) rfl dX11_feared_26 jv_11 ji_11 (Or.inl jt_374) jg_0 jl_0 (by decide) (by decide) rfl jf_11_2 ?_
      refine jw_getR (pc := 29) (j := 4) rfl dX11_feared_29 jv_7 ji_7 (Or.inr ⟨_, jt_277⟩) jg_9 jl_9 (by decide) (by decide) rfl (jf_7_4 jg_9).1 ?_
      refine jw_iload_n (pc := 32) 1 dX11_feared_32 rfl ?_
      refine jw_callVi (pc := 33) (As := [jI a1]) (st := []) dX11_feared_33 rfl (Nat.le_of_ble_eq_true rfl) qX1_fearedAbove jt_879 jt_880 jt_881 rfl rfl (Nat.le_of_ble_eq_true rfl) jv_1 rfl (jf_7_4 jg_9).2.1 (jf_7_4 jg_9).2.2 (by decide) (jw_ho (jf_7_4 jg_9).2.1 (by decide)) (kX1_fearedAbove G (9 + 21) a1 ha1 M) (fun v3 hv3 => ?_)
      refine jw_i2lr (pc := 36) dX11_feared_36 hv3 ?_
      refine jw_aloadR (pc := 37) 0 dX11_feared_37 rfl ?_
      refine jw_getR (pc := 38) (j := 2) rfl dX11_feared_38 jv_11 ji_11 (Or.inl jt_374) jg_0 jl_0 (by decide) (by decide) rfl jf_11_2 ?_
      refine jw_getR (pc := 41) (j := 4) rfl dX11_feared_41 jv_7 ji_7 (Or.inr ⟨_, jt_277⟩) jg_9 jl_9 (by decide) (by decide) rfl (jf_7_4 jg_9).1 ?_
      refine jw_callVi (pc := 44) (As := []) (st := [jL v3]) dX11_feared_44 rfl (Nat.le_of_ble_eq_true rfl) qX1_fearedBelow jt_883 jt_884 jt_885 rfl rfl (Nat.le_of_ble_eq_true rfl) jv_1 rfl (jf_7_4 jg_9).2.1 (jf_7_4 jg_9).2.2 (by decide) (jw_ho (jf_7_4 jg_9).2.1 (by decide)) (kX1_fearedBelow G (9 + 21) M) (fun v4 hv4 => ?_)
      refine jw_i2lr (pc := 47) dX11_feared_47 hv4 ?_
      refine jw_iload_n (pc := 48) 2 dX11_feared_48 rfl ?_
      refine jw_callSl (pc := 49) (As := [jL v3, jL v4, jI a2]) (st := []) dX11_feared_49 rfl (Nat.le_of_ble_eq_true rfl) qX11_half jt_887 jt_888 rfl rfl (Nat.le_of_ble_eq_true rfl) (kX11_half G v3 v4 a2 (jw_rq hv3) (jw_rq hv4) ha2 M) (fun v5 hv5 => ?_)
      exact jw_ret (pc := 52) (v := v5) dX11_feared_52 hv5 rfl rfl
theorem kX11_feared (G : jw_G) (a1 : Int) (a2 : Int) (ha1 : jw_r a1) (ha2 : jw_r a2) (M : jw_M) : jw_Ct G YX11_feared (some .long) 3 0 0 true (fun v => (v, M)) yX11_feared [jR G 0, jI a1, jI a2] M (fX11_feared a1 a2 M) := jw_met (by decide) rfl rfl rfl (Nat.le_of_ble_eq_true rfl) (rX11_feared G a1 a2 ha1 ha2 M)
abbrev YX11_score : jw_Y := (RX11, cX11_score, 3, 2, "score")
theorem qX11_score : jw_cy YX11_score (some .long) yX11_score 2 := ⟨by decide, jt_899, jt_1, by decide, by decide +kernel⟩
theorem dX11_score_0 : decode cX11_score 0 = .ok (.aload_n 0, 1) := by decide +kernel
theorem dX11_score_1 : decode cX11_score 1 = .ok (.getfield 26, 3) := by decide +kernel
theorem dX11_score_4 : decode cX11_score 4 = .ok (.getfield 162, 3) := by decide +kernel
theorem dX11_score_7 : decode cX11_score 7 = .ok (.iload_n 1, 1) := by decide +kernel
theorem dX11_score_8 : decode cX11_score 8 = .ok (.invokevirtual 166, 3) := by decide +kernel
theorem dX11_score_11 : decode cX11_score 11 = .ok (.ifCond .eq 17, 3) := by decide +kernel
theorem dX11_score_14 : decode cX11_score 14 = .ok (.aload_n 0, 1) := by decide +kernel
theorem dX11_score_15 : decode cX11_score 15 = .ok (.getfield 26, 3) := by decide +kernel
theorem dX11_score_18 : decode cX11_score 18 = .ok (.getfield 137, 3) := by decide +kernel
theorem dX11_score_21 : decode cX11_score 21 = .ok (.iload_n 2, 1) := by decide +kernel
theorem dX11_score_22 : decode cX11_score 22 = .ok (.invokevirtual 146, 3) := by decide +kernel
theorem dX11_score_25 : decode cX11_score 25 = .ok (.ifCond .ne 7, 3) := by decide +kernel
theorem dX11_score_28 : decode cX11_score 28 = .ok (.ldc2_w 75, 3) := by decide +kernel
theorem dX11_score_31 : decode cX11_score 31 = .ok (.lreturn, 1) := by decide +kernel
theorem dX11_score_32 : decode cX11_score 32 = .ok (.aload_n 0, 1) := by decide +kernel
theorem dX11_score_33 : decode cX11_score 33 = .ok (.getfield 46, 3) := by decide +kernel
theorem dX11_score_36 : decode cX11_score 36 = .ok (.iload_n 1, 1) := by decide +kernel
theorem dX11_score_37 : decode cX11_score 37 = .ok (.iload_n 2, 1) := by decide +kernel
theorem dX11_score_38 : decode cX11_score 38 = .ok (.invokevirtual 291, 3) := by decide +kernel
theorem dX11_score_41 : decode cX11_score 41 = .ok (.i2l, 1) := by decide +kernel
theorem dX11_score_42 : decode cX11_score 42 = .ok (.lreturn, 1) := by decide +kernel
def fX11_score (a1 : Int) (a2 : Int) (M : jw_M) : Option Int :=
  Option.bind (fX10_isSeller (9 + 8) a1 M) (fun v1 => if v1 = 0 then (some (-9000000000000000001)) else (Option.bind (fX9_isCorner (9 + 1) a2 M) (fun v2 => if v2 = 0 then (some (-9000000000000000001)) else (Option.bind (fX8_scoreAt a1 a2 M) (fun v3 => some v3)))))
set_option maxRecDepth 100000 in
theorem rX11_score (G : jw_G) (a1 : Int) (a2 : Int) (ha1 : jw_r a1) (ha2 : jw_r a2) (M : jw_M) : jw_Rn G YX11_score 4 0 0 true (fun v => (v, M)) 0 [(0, jR G 0), (1, jI a1), (2, jI a2)] [] M (fX11_score a1 a2 M) := by
  unfold fX11_score
  refine jw_aloadR (pc := 0) 0 dX11_score_0 rfl ?_
  refine jw_getR (pc := 1) (j := 2) rfl dX11_score_1 jv_11 ji_11 (Or.inl jt_374) jg_0 jl_0 (by decide) (by decide) rfl jf_11_2 ?_
  refine jw_getR (pc := 4) (j := 2) rfl dX11_score_4 jv_7 ji_7 (Or.inr ⟨_, jt_269⟩) jg_9 jl_9 (by decide) (by decide) rfl (jf_7_2 jg_9).1 ?_
  refine jw_iload_n (pc := 7) 1 dX11_score_7 rfl ?_
  refine jw_callVz (pc := 8) (As := [jI a1]) (st := []) dX11_score_8 rfl (Nat.le_of_ble_eq_true rfl) qX10_isSeller jt_753 jt_754 jt_755 rfl rfl (Nat.le_of_ble_eq_true rfl) jv_10 rfl (jf_7_2 jg_9).2.1 (jf_7_2 jg_9).2.2 (by decide) (jw_ho (jf_7_2 jg_9).2.1 (by decide)) (kX10_isSeller G (9 + 8) a1 ha1 M) (fun v1 hv1 => ?_)
  refine jw_if_eq (pc := 11) 28 dX11_score_11 (by decide) (jw_bz hv1) (fun _ => ?_) (fun _ => ?_)
  · refine jw_ldc2 (pc := 28) (n := (-9000000000000000001)) dX11_score_28 jt_414 (by decide) ?_
    exact jw_ret (pc := 31) (v := (-9000000000000000001)) dX11_score_31 (jw_qc _ rfl) rfl rfl
  · refine jw_aloadR (pc := 14) 0 dX11_score_14 rfl ?_
    refine jw_getR (pc := 15) (j := 2) rfl dX11_score_15 jv_11 ji_11 (Or.inl jt_374) jg_0 jl_0 (by decide) (by decide) rfl jf_11_2 ?_
    refine jw_getR (pc := 18) (j := 1) rfl dX11_score_18 jv_7 ji_7 (Or.inr ⟨_, jt_264⟩) jg_9 jl_9 (by decide) (by decide) rfl (jf_7_1 jg_9).1 ?_
    refine jw_iload_n (pc := 21) 2 dX11_score_21 rfl ?_
    refine jw_callVz (pc := 22) (As := [jI a2]) (st := []) dX11_score_22 rfl (Nat.le_of_ble_eq_true rfl) qX9_isCorner jt_729 jt_730 jt_731 rfl rfl (Nat.le_of_ble_eq_true rfl) jv_9 rfl (jf_7_1 jg_9).2.1 (jf_7_1 jg_9).2.2 (by decide) (jw_ho (jf_7_1 jg_9).2.1 (by decide)) (kX9_isCorner G (9 + 1) a2 ha2 M) (fun v2 hv2 => ?_)
    refine jw_if_ne (pc := 25) 32 dX11_score_25 (by decide) (jw_bz hv2) (fun _ => ?_) (fun _ => ?_)
    · refine jw_ldc2 (pc := 28) (n := (-9000000000000000001)) dX11_score_28 jt_414 (by decide) ?_
      exact jw_ret (pc := 31) (v := (-9000000000000000001)) dX11_score_31 (jw_qc _ rfl) rfl rfl
    · refine jw_aloadR (pc := 32) 0 dX11_score_32 rfl ?_
      refine jw_getR (pc := 33) (j := 6) rfl dX11_score_33 jv_11 ji_11 (Or.inl jt_378) jg_0 jl_0 (by decide) (by decide) rfl jf_11_6 ?_
      refine jw_iload_n (pc := 36) 1 dX11_score_36 rfl ?_
      refine jw_iload_n (pc := 37) 2 dX11_score_37 rfl ?_
      refine jw_callVi (pc := 38) (As := [jI a1, jI a2]) (st := []) dX11_score_38 rfl (Nat.le_of_ble_eq_true rfl) qX8_scoreAt jt_900 jt_901 jt_902 rfl rfl (Nat.le_of_ble_eq_true rfl) jv_8 rfl jg_119 jl_119 (by decide) (jw_ho jg_119 (by decide)) (kX8_scoreAt G a1 a2 ha1 ha2 M) (fun v3 hv3 => ?_)
      refine jw_i2lr (pc := 41) dX11_score_41 hv3 ?_
      exact jw_ret (pc := 42) (v := v3) dX11_score_42 (jw_rq hv3) rfl rfl
theorem kX11_score (G : jw_G) (a1 : Int) (a2 : Int) (ha1 : jw_r a1) (ha2 : jw_r a2) (M : jw_M) : jw_Ct G YX11_score (some .long) 4 0 0 true (fun v => (v, M)) yX11_score [jR G 0, jI a1, jI a2] M (fX11_score a1 a2 M) := jw_met (by decide) rfl rfl rfl (Nat.le_of_ble_eq_true rfl) (rX11_score G a1 a2 ha1 ha2 M)
abbrev YX11_may : jw_Y := (RX11, cX11_may, 2, 2, "may")
theorem qX11_may : jw_cy YX11_may (some .long) yX11_may 1 := ⟨by decide, jt_914, jt_1, by decide, by decide +kernel⟩
theorem dX11_may_0 : decode cX11_may 0 = .ok (.aload_n 0, 1) := by decide +kernel
theorem dX11_may_1 : decode cX11_may 1 = .ok (.getfield 26, 3) := by decide +kernel
theorem dX11_may_4 : decode cX11_may 4 = .ok (.getfield 162, 3) := by decide +kernel
theorem dX11_may_7 : decode cX11_may 7 = .ok (.iload_n 1, 1) := by decide +kernel
theorem dX11_may_8 : decode cX11_may 8 = .ok (.invokevirtual 166, 3) := by decide +kernel
theorem dX11_may_11 : decode cX11_may 11 = .ok (.ifCond .ne 7, 3) := by decide +kernel
theorem dX11_may_14 : decode cX11_may 14 = .ok (.ldc2_w 75, 3) := by decide +kernel
theorem dX11_may_17 : decode cX11_may 17 = .ok (.lreturn, 1) := by decide +kernel
theorem dX11_may_18 : decode cX11_may 18 = .ok (.aload_n 0, 1) := by decide +kernel
theorem dX11_may_19 : decode cX11_may 19 = .ok (.getfield 46, 3) := by decide +kernel
theorem dX11_may_22 : decode cX11_may 22 = .ok (.aload_n 0, 1) := by decide +kernel
theorem dX11_may_23 : decode cX11_may 23 = .ok (.getfield 26, 3) := by decide +kernel
theorem dX11_may_26 : decode cX11_may 26 = .ok (.getfield 162, 3) := by decide +kernel
theorem dX11_may_29 : decode cX11_may 29 = .ok (.getfield 175, 3) := by decide +kernel
theorem dX11_may_32 : decode cX11_may 32 = .ok (.iload_n 1, 1) := by decide +kernel
theorem dX11_may_33 : decode cX11_may 33 = .ok (.iaload, 1) := by decide +kernel
theorem dX11_may_34 : decode cX11_may 34 = .ok (.iload_n 1, 1) := by decide +kernel
theorem dX11_may_35 : decode cX11_may 35 = .ok (.invokevirtual 294, 3) := by decide +kernel
theorem dX11_may_38 : decode cX11_may 38 = .ok (.i2l, 1) := by decide +kernel
theorem dX11_may_39 : decode cX11_may 39 = .ok (.lreturn, 1) := by decide +kernel
def fX11_may (a1 : Int) (M : jw_M) : Option Int :=
  Option.bind (fX10_isSeller (9 + 8) a1 M) (fun v1 => if v1 = 0 then (some (-9000000000000000001)) else (if 0 ≤ a1 ∧ a1 < 5 then Option.bind (fX8_lawfulCorners (M ((9 + 8) + 4) a1) a1 M) (fun v3 => some v3) else none))
set_option maxRecDepth 100000 in
theorem rX11_may (G : jw_G) (a1 : Int) (ha1 : jw_r a1) (M : jw_M) : jw_Rn G YX11_may 4 0 0 true (fun v => (v, M)) 0 [(0, jR G 0), (1, jI a1)] [] M (fX11_may a1 M) := by
  unfold fX11_may
  refine jw_aloadR (pc := 0) 0 dX11_may_0 rfl ?_
  refine jw_getR (pc := 1) (j := 2) rfl dX11_may_1 jv_11 ji_11 (Or.inl jt_374) jg_0 jl_0 (by decide) (by decide) rfl jf_11_2 ?_
  refine jw_getR (pc := 4) (j := 2) rfl dX11_may_4 jv_7 ji_7 (Or.inr ⟨_, jt_269⟩) jg_9 jl_9 (by decide) (by decide) rfl (jf_7_2 jg_9).1 ?_
  refine jw_iload_n (pc := 7) 1 dX11_may_7 rfl ?_
  refine jw_callVz (pc := 8) (As := [jI a1]) (st := []) dX11_may_8 rfl (Nat.le_of_ble_eq_true rfl) qX10_isSeller jt_753 jt_754 jt_755 rfl rfl (Nat.le_of_ble_eq_true rfl) jv_10 rfl (jf_7_2 jg_9).2.1 (jf_7_2 jg_9).2.2 (by decide) (jw_ho (jf_7_2 jg_9).2.1 (by decide)) (kX10_isSeller G (9 + 8) a1 ha1 M) (fun v1 hv1 => ?_)
  refine jw_if_ne (pc := 11) 18 dX11_may_11 (by decide) (jw_bz hv1) (fun _ => ?_) (fun _ => ?_)
  · refine jw_ldc2 (pc := 14) (n := (-9000000000000000001)) dX11_may_14 jt_414 (by decide) ?_
    exact jw_ret (pc := 17) (v := (-9000000000000000001)) dX11_may_17 (jw_qc _ rfl) rfl rfl
  · refine jw_aloadR (pc := 18) 0 dX11_may_18 rfl ?_
    refine jw_getR (pc := 19) (j := 6) rfl dX11_may_19 jv_11 ji_11 (Or.inl jt_378) jg_0 jl_0 (by decide) (by decide) rfl jf_11_6 ?_
    refine jw_aloadR (pc := 22) 0 dX11_may_22 rfl ?_
    refine jw_getR (pc := 23) (j := 2) rfl dX11_may_23 jv_11 ji_11 (Or.inl jt_374) jg_0 jl_0 (by decide) (by decide) rfl jf_11_2 ?_
    refine jw_getR (pc := 26) (j := 2) rfl dX11_may_26 jv_7 ji_7 (Or.inr ⟨_, jt_269⟩) jg_9 jl_9 (by decide) (by decide) rfl (jf_7_2 jg_9).1 ?_
    refine jw_getR (pc := 29) (j := 5) rfl dX11_may_29 jv_10 ji_10 (Or.inr ⟨_, jt_158⟩) (jf_7_2 jg_9).2.1 (jf_7_2 jg_9).2.2 (by decide) (by decide) rfl (jf_10_5 (jf_7_2 jg_9).2.1).1 ?_
    refine jw_iload_n (pc := 32) 1 dX11_may_32 rfl ?_
    refine jw_iald (pc := 33) dX11_may_33 (jf_10_5 (jf_7_2 jg_9).2.1).2.1 (jf_10_5 (jf_7_2 jg_9).2.1).2.2 (jw_ho (jf_10_5 (jf_7_2 jg_9).2.1).2.1 (by decide)) ha1 rfl (fun h2 => ?_)
    refine jw_iload_n (pc := 34) 1 dX11_may_34 rfl ?_
    refine jw_callVi (pc := 35) (As := [jI (M ((9 + 8) + 4) a1), jI a1]) (st := []) dX11_may_35 rfl (Nat.le_of_ble_eq_true rfl) qX8_lawfulCorners jt_915 jt_916 jt_917 rfl rfl (Nat.le_of_ble_eq_true rfl) jv_8 rfl jg_119 jl_119 (by decide) (jw_ho jg_119 (by decide)) (kX8_lawfulCorners G (M ((9 + 8) + 4) a1) a1 h2 ha1 M) (fun v3 hv3 => ?_)
    refine jw_i2lr (pc := 38) dX11_may_38 hv3 ?_
    exact jw_ret (pc := 39) (v := v3) dX11_may_39 (jw_rq hv3) rfl rfl
theorem kX11_may (G : jw_G) (a1 : Int) (ha1 : jw_r a1) (M : jw_M) : jw_Ct G YX11_may (some .long) 4 0 0 true (fun v => (v, M)) yX11_may [jR G 0, jI a1] M (fX11_may a1 M) := jw_met (by decide) rfl rfl rfl (Nat.le_of_ble_eq_true rfl) (rX11_may G a1 ha1 M)
abbrev YX11_newcomer : jw_Y := (RX11, cX11_newcomer, 2, 2, "newcomer")
theorem qX11_newcomer : jw_cy YX11_newcomer (some .long) yX11_newcomer 1 := ⟨by decide, jt_927, jt_1, by decide, by decide +kernel⟩
theorem dX11_newcomer_0 : decode cX11_newcomer 0 = .ok (.aload_n 0, 1) := by decide +kernel
theorem dX11_newcomer_1 : decode cX11_newcomer 1 = .ok (.getfield 26, 3) := by decide +kernel
theorem dX11_newcomer_4 : decode cX11_newcomer 4 = .ok (.getfield 162, 3) := by decide +kernel
theorem dX11_newcomer_7 : decode cX11_newcomer 7 = .ok (.iload_n 1, 1) := by decide +kernel
theorem dX11_newcomer_8 : decode cX11_newcomer 8 = .ok (.invokevirtual 297, 3) := by decide +kernel
theorem dX11_newcomer_11 : decode cX11_newcomer 11 = .ok (.ifCond .ne 7, 3) := by decide +kernel
theorem dX11_newcomer_14 : decode cX11_newcomer 14 = .ok (.ldc2_w 75, 3) := by decide +kernel
theorem dX11_newcomer_17 : decode cX11_newcomer 17 = .ok (.lreturn, 1) := by decide +kernel
theorem dX11_newcomer_18 : decode cX11_newcomer 18 = .ok (.aload_n 0, 1) := by decide +kernel
theorem dX11_newcomer_19 : decode cX11_newcomer 19 = .ok (.getfield 46, 3) := by decide +kernel
theorem dX11_newcomer_22 : decode cX11_newcomer 22 = .ok (.iload_n 1, 1) := by decide +kernel
theorem dX11_newcomer_23 : decode cX11_newcomer 23 = .ok (.iconst (-1), 1) := by decide +kernel
theorem dX11_newcomer_24 : decode cX11_newcomer 24 = .ok (.invokevirtual 294, 3) := by decide +kernel
theorem dX11_newcomer_27 : decode cX11_newcomer 27 = .ok (.i2l, 1) := by decide +kernel
theorem dX11_newcomer_28 : decode cX11_newcomer 28 = .ok (.lreturn, 1) := by decide +kernel
def fX11_newcomer (a1 : Int) (M : jw_M) : Option Int :=
  Option.bind (fX10_isGoods (9 + 8) a1 M) (fun v1 => if v1 = 0 then (some (-9000000000000000001)) else (Option.bind (fX8_lawfulCorners a1 (-1) M) (fun v2 => some v2)))
set_option maxRecDepth 100000 in
theorem rX11_newcomer (G : jw_G) (a1 : Int) (ha1 : jw_r a1) (M : jw_M) : jw_Rn G YX11_newcomer 4 0 0 true (fun v => (v, M)) 0 [(0, jR G 0), (1, jI a1)] [] M (fX11_newcomer a1 M) := by
  unfold fX11_newcomer
  refine jw_aloadR (pc := 0) 0 dX11_newcomer_0 rfl ?_
  refine jw_getR (pc := 1) (j := 2) rfl dX11_newcomer_1 jv_11 ji_11 (Or.inl jt_374) jg_0 jl_0 (by decide) (by decide) rfl jf_11_2 ?_
  refine jw_getR (pc := 4) (j := 2) rfl dX11_newcomer_4 jv_7 ji_7 (Or.inr ⟨_, jt_269⟩) jg_9 jl_9 (by decide) (by decide) rfl (jf_7_2 jg_9).1 ?_
  refine jw_iload_n (pc := 7) 1 dX11_newcomer_7 rfl ?_
  refine jw_callVz (pc := 8) (As := [jI a1]) (st := []) dX11_newcomer_8 rfl (Nat.le_of_ble_eq_true rfl) qX10_isGoods jt_928 jt_929 jt_930 rfl rfl (Nat.le_of_ble_eq_true rfl) jv_10 rfl (jf_7_2 jg_9).2.1 (jf_7_2 jg_9).2.2 (by decide) (jw_ho (jf_7_2 jg_9).2.1 (by decide)) (kX10_isGoods G (9 + 8) a1 ha1 M) (fun v1 hv1 => ?_)
  refine jw_if_ne (pc := 11) 18 dX11_newcomer_11 (by decide) (jw_bz hv1) (fun _ => ?_) (fun _ => ?_)
  · refine jw_ldc2 (pc := 14) (n := (-9000000000000000001)) dX11_newcomer_14 jt_414 (by decide) ?_
    exact jw_ret (pc := 17) (v := (-9000000000000000001)) dX11_newcomer_17 (jw_qc _ rfl) rfl rfl
  · refine jw_aloadR (pc := 18) 0 dX11_newcomer_18 rfl ?_
    refine jw_getR (pc := 19) (j := 6) rfl dX11_newcomer_19 jv_11 ji_11 (Or.inl jt_378) jg_0 jl_0 (by decide) (by decide) rfl jf_11_6 ?_
    refine jw_iload_n (pc := 22) 1 dX11_newcomer_22 rfl ?_
    refine jw_iconst (pc := 23) dX11_newcomer_23 ?_
    refine jw_callVi (pc := 24) (As := [jI a1, jI (-1)]) (st := []) dX11_newcomer_24 rfl (Nat.le_of_ble_eq_true rfl) qX8_lawfulCorners jt_915 jt_916 jt_917 rfl rfl (Nat.le_of_ble_eq_true rfl) jv_8 rfl jg_119 jl_119 (by decide) (jw_ho jg_119 (by decide)) (kX8_lawfulCorners G a1 (-1) ha1 (jw_rc _ rfl) M) (fun v2 hv2 => ?_)
    refine jw_i2lr (pc := 27) dX11_newcomer_27 hv2 ?_
    exact jw_ret (pc := 28) (v := v2) dX11_newcomer_28 (jw_rq hv2) rfl rfl
theorem kX11_newcomer (G : jw_G) (a1 : Int) (ha1 : jw_r a1) (M : jw_M) : jw_Ct G YX11_newcomer (some .long) 4 0 0 true (fun v => (v, M)) yX11_newcomer [jR G 0, jI a1] M (fX11_newcomer a1 M) := jw_met (by decide) rfl rfl rfl (Nat.le_of_ble_eq_true rfl) (rX11_newcomer G a1 ha1 M)
abbrev YX11_rest : jw_Y := (RX11, cX11_rest, 1, 2, "rest")
theorem qX11_rest : jw_cy YX11_rest (some .long) yX11_rest 0 := ⟨by decide, jt_935, jt_1, by decide, by decide +kernel⟩
theorem dX11_rest_0 : decode cX11_rest 0 = .ok (.aload_n 0, 1) := by decide +kernel
theorem dX11_rest_1 : decode cX11_rest 1 = .ok (.getfield 26, 3) := by decide +kernel
theorem dX11_rest_4 : decode cX11_rest 4 = .ok (.getfield 197, 3) := by decide +kernel
theorem dX11_rest_7 : decode cX11_rest 7 = .ok (.ifCond .ne 7, 3) := by decide +kernel
theorem dX11_rest_10 : decode cX11_rest 10 = .ok (.ldc2_w 201, 3) := by decide +kernel
theorem dX11_rest_13 : decode cX11_rest 13 = .ok (.lreturn, 1) := by decide +kernel
theorem dX11_rest_14 : decode cX11_rest 14 = .ok (.aload_n 0, 1) := by decide +kernel
theorem dX11_rest_15 : decode cX11_rest 15 = .ok (.getfield 46, 3) := by decide +kernel
theorem dX11_rest_18 : decode cX11_rest 18 = .ok (.invokevirtual 300, 3) := by decide +kernel
theorem dX11_rest_21 : decode cX11_rest 21 = .ok (.ifCond .eq 7, 3) := by decide +kernel
theorem dX11_rest_24 : decode cX11_rest 24 = .ok (.lconst 1, 1) := by decide +kernel
theorem dX11_rest_25 : decode cX11_rest 25 = .ok (.goto 4, 3) := by decide +kernel
theorem dX11_rest_28 : decode cX11_rest 28 = .ok (.lconst 0, 1) := by decide +kernel
theorem dX11_rest_29 : decode cX11_rest 29 = .ok (.lreturn, 1) := by decide +kernel
def fX11_rest (M : jw_M) : Option Int :=
  if M 9 0 = 0 then (some (-9000000000000000002)) else (Option.bind (fX8_allAtRest  M) (fun v2 => if v2 = 0 then (some 0) else (some 1)))
set_option maxRecDepth 100000 in
theorem rX11_rest (G : jw_G) (M : jw_M) : jw_Rn G YX11_rest 6 0 0 true (fun v => (v, M)) 0 [(0, jR G 0)] [] M (fX11_rest M) := by
  unfold fX11_rest
  refine jw_aloadR (pc := 0) 0 dX11_rest_0 rfl ?_
  refine jw_getR (pc := 1) (j := 2) rfl dX11_rest_1 jv_11 ji_11 (Or.inl jt_374) jg_0 jl_0 (by decide) (by decide) rfl jf_11_2 ?_
  refine jw_getI (pc := 4) (j := 0) rfl dX11_rest_4 jv_7 ji_7 (Or.inr ⟨_, jt_258⟩) jg_9 jl_9 (by decide) (by decide) (jw_ho jg_9 (by decide)) (Or.inr rfl) rfl (fun h1 => ?_)
  refine jw_if_ne (pc := 7) 14 dX11_rest_7 (by decide) h1 (fun _ => ?_) (fun _ => ?_)
  · refine jw_ldc2 (pc := 10) (n := (-9000000000000000002)) dX11_rest_10 jt_789 (by decide) ?_
    exact jw_ret (pc := 13) (v := (-9000000000000000002)) dX11_rest_13 (jw_qc _ rfl) rfl rfl
  · refine jw_aloadR (pc := 14) 0 dX11_rest_14 rfl ?_
    refine jw_getR (pc := 15) (j := 6) rfl dX11_rest_15 jv_11 ji_11 (Or.inl jt_378) jg_0 jl_0 (by decide) (by decide) rfl jf_11_6 ?_
    refine jw_callVz (pc := 18) (As := []) (st := []) dX11_rest_18 rfl (Nat.le_of_ble_eq_true rfl) qX8_allAtRest jt_936 jt_937 jt_938 rfl rfl (Nat.le_of_ble_eq_true rfl) jv_8 rfl jg_119 jl_119 (by decide) (jw_ho jg_119 (by decide)) (kX8_allAtRest G  M) (fun v2 hv2 => ?_)
    refine jw_if_eq (pc := 21) 28 dX11_rest_21 (by decide) (jw_bz hv2) (fun _ => ?_) (fun _ => ?_)
    · refine jw_lconst (pc := 28) (z := 0) dX11_rest_28 rfl ?_
      exact jw_ret (pc := 29) (v := 0) dX11_rest_29 (jw_qc _ rfl) rfl rfl
    · refine jw_lconst (pc := 24) (z := 1) dX11_rest_24 rfl ?_
      refine jw_goto (pc := 25) 29 dX11_rest_25 (by decide) ?_
      exact jw_ret (pc := 29) (v := 1) dX11_rest_29 (jw_qc _ rfl) rfl rfl
theorem kX11_rest (G : jw_G) (M : jw_M) : jw_Ct G YX11_rest (some .long) 6 0 0 true (fun v => (v, M)) yX11_rest [jR G 0] M (fX11_rest M) := jw_met (by decide) rfl rfl rfl (Nat.le_of_ble_eq_true rfl) (rX11_rest G M)
abbrev YX11_settle : jw_Y := (RX11, cX11_settle, 1, 2, "settle")
theorem qX11_settle : jw_cy YX11_settle (some .long) yX11_settle 0 := ⟨by decide, jt_948, jt_1, by decide, by decide +kernel⟩
theorem dX11_settle_0 : decode cX11_settle 0 = .ok (.aload_n 0, 1) := by decide +kernel
theorem dX11_settle_1 : decode cX11_settle 1 = .ok (.getfield 26, 3) := by decide +kernel
theorem dX11_settle_4 : decode cX11_settle 4 = .ok (.getfield 197, 3) := by decide +kernel
theorem dX11_settle_7 : decode cX11_settle 7 = .ok (.ifCond .ne 7, 3) := by decide +kernel
theorem dX11_settle_10 : decode cX11_settle 10 = .ok (.ldc2_w 201, 3) := by decide +kernel
theorem dX11_settle_13 : decode cX11_settle 13 = .ok (.lreturn, 1) := by decide +kernel
theorem dX11_settle_14 : decode cX11_settle 14 = .ok (.aload_n 0, 1) := by decide +kernel
theorem dX11_settle_15 : decode cX11_settle 15 = .ok (.getfield 46, 3) := by decide +kernel
theorem dX11_settle_18 : decode cX11_settle 18 = .ok (.invokevirtual 304, 3) := by decide +kernel
theorem dX11_settle_21 : decode cX11_settle 21 = .ok (.i2l, 1) := by decide +kernel
theorem dX11_settle_22 : decode cX11_settle 22 = .ok (.lreturn, 1) := by decide +kernel
def fX11_settle (M : jw_M) : Option (Int × jw_M) :=
  if M 9 0 = 0 then (some ((-9000000000000000002), M)) else (jw_b2 (fX8_moveTillRest  M) (fun v2 M3 => some (v2, M3)))
set_option maxRecDepth 100000 in
theorem rX11_settle (G : jw_G) (M : jw_M) : jw_Rn G YX11_settle 7 0 0 true (fun q => q) 0 [(0, jR G 0)] [] M (fX11_settle M) := by
  unfold fX11_settle
  refine jw_aloadR (pc := 0) 0 dX11_settle_0 rfl ?_
  refine jw_getR (pc := 1) (j := 2) rfl dX11_settle_1 jv_11 ji_11 (Or.inl jt_374) jg_0 jl_0 (by decide) (by decide) rfl jf_11_2 ?_
  refine jw_getI (pc := 4) (j := 0) rfl dX11_settle_4 jv_7 ji_7 (Or.inr ⟨_, jt_258⟩) jg_9 jl_9 (by decide) (by decide) (jw_ho jg_9 (by decide)) (Or.inr rfl) rfl (fun h1 => ?_)
  refine jw_if_ne (pc := 7) 14 dX11_settle_7 (by decide) h1 (fun _ => ?_) (fun _ => ?_)
  · refine jw_ldc2 (pc := 10) (n := (-9000000000000000002)) dX11_settle_10 jt_789 (by decide) ?_
    exact jw_ret (pc := 13) (v := (-9000000000000000002)) dX11_settle_13 (jw_qc _ rfl) rfl rfl
  · refine jw_aloadR (pc := 14) 0 dX11_settle_14 rfl ?_
    refine jw_getR (pc := 15) (j := 6) rfl dX11_settle_15 jv_11 ji_11 (Or.inl jt_378) jg_0 jl_0 (by decide) (by decide) rfl jf_11_6 ?_
    refine jw_callVMi (pc := 18) (As := []) (st := []) dX11_settle_18 rfl (Nat.le_of_ble_eq_true rfl) qX8_moveTillRest jt_949 jt_950 jt_951 rfl rfl (Nat.le_of_ble_eq_true rfl) jv_8 rfl jg_119 jl_119 (by decide) (jw_ho jg_119 (by decide)) (kX8_moveTillRest G  M) (fun v2 M3 hv2 => ?_)
    refine jw_i2lr (pc := 21) dX11_settle_21 hv2 ?_
    exact jw_ret (pc := 22) (v := v2) dX11_settle_22 (jw_rq hv2) rfl rfl
theorem kX11_settle (G : jw_G) (M : jw_M) : jw_Ct G YX11_settle (some .long) 7 0 0 true (fun q => q) yX11_settle [jR G 0] M (fX11_settle M) := jw_met (by decide) rfl rfl rfl (Nat.le_of_ble_eq_true rfl) (rX11_settle G M)
abbrev YX11_rests : jw_Y := (RX11, cX11_rests, 2, 2, "rests")
theorem qX11_rests : jw_cy YX11_rests (some .long) yX11_rests 1 := ⟨by decide, jt_961, jt_1, by decide, by decide +kernel⟩
theorem dX11_rests_0 : decode cX11_rests 0 = .ok (.iload_n 1, 1) := by decide +kernel
theorem dX11_rests_1 : decode cX11_rests 1 = .ok (.iconst (-1), 1) := by decide +kernel
theorem dX11_rests_2 : decode cX11_rests 2 = .ok (.if_icmp .ge 7, 3) := by decide +kernel
theorem dX11_rests_5 : decode cX11_rests 5 = .ok (.ldc2_w 75, 3) := by decide +kernel
theorem dX11_rests_8 : decode cX11_rests 8 = .ok (.lreturn, 1) := by decide +kernel
theorem dX11_rests_9 : decode cX11_rests 9 = .ok (.aload_n 0, 1) := by decide +kernel
theorem dX11_rests_10 : decode cX11_rests 10 = .ok (.getfield 26, 3) := by decide +kernel
theorem dX11_rests_13 : decode cX11_rests 13 = .ok (.getfield 197, 3) := by decide +kernel
theorem dX11_rests_16 : decode cX11_rests 16 = .ok (.ifCond .ne 7, 3) := by decide +kernel
theorem dX11_rests_19 : decode cX11_rests 19 = .ok (.ldc2_w 201, 3) := by decide +kernel
theorem dX11_rests_22 : decode cX11_rests 22 = .ok (.lreturn, 1) := by decide +kernel
theorem dX11_rests_23 : decode cX11_rests 23 = .ok (.aload_n 0, 1) := by decide +kernel
theorem dX11_rests_24 : decode cX11_rests 24 = .ok (.getfield 46, 3) := by decide +kernel
theorem dX11_rests_27 : decode cX11_rests 27 = .ok (.iload_n 1, 1) := by decide +kernel
theorem dX11_rests_28 : decode cX11_rests 28 = .ok (.invokevirtual 307, 3) := by decide +kernel
theorem dX11_rests_31 : decode cX11_rests 31 = .ok (.i2l, 1) := by decide +kernel
theorem dX11_rests_32 : decode cX11_rests 32 = .ok (.lreturn, 1) := by decide +kernel
def fX11_rests (a1 : Int) (M : jw_M) : Option (Int × jw_M) :=
  if a1 < (-1) then (some ((-9000000000000000001), M)) else (if M 9 0 = 0 then (some ((-9000000000000000002), M)) else (jw_b2 (fX8_findRest a1 M) (fun v2 M3 => some (v2, M3))))
set_option maxRecDepth 100000 in
theorem rX11_rests (G : jw_G) (a1 : Int) (ha1 : jw_r a1) (M : jw_M) : jw_Rn G YX11_rests 31 0 0 true (fun q => q) 0 [(0, jR G 0), (1, jI a1)] [] M (fX11_rests a1 M) := by
  unfold fX11_rests
  refine jw_iload_n (pc := 0) 1 dX11_rests_0 rfl ?_
  refine jw_iconst (pc := 1) dX11_rests_1 ?_
  refine jw_ic_ge (pc := 2) 9 dX11_rests_2 (by decide) ha1 (jw_rc _ rfl) (fun _ => ?_) (fun _ => ?_)
  · refine jw_ldc2 (pc := 5) (n := (-9000000000000000001)) dX11_rests_5 jt_414 (by decide) ?_
    exact jw_ret (pc := 8) (v := (-9000000000000000001)) dX11_rests_8 (jw_qc _ rfl) rfl rfl
  · refine jw_aloadR (pc := 9) 0 dX11_rests_9 rfl ?_
    refine jw_getR (pc := 10) (j := 2) rfl dX11_rests_10 jv_11 ji_11 (Or.inl jt_374) jg_0 jl_0 (by decide) (by decide) rfl jf_11_2 ?_
    refine jw_getI (pc := 13) (j := 0) rfl dX11_rests_13 jv_7 ji_7 (Or.inr ⟨_, jt_258⟩) jg_9 jl_9 (by decide) (by decide) (jw_ho jg_9 (by decide)) (Or.inr rfl) rfl (fun h1 => ?_)
    refine jw_if_ne (pc := 16) 23 dX11_rests_16 (by decide) h1 (fun _ => ?_) (fun _ => ?_)
    · refine jw_ldc2 (pc := 19) (n := (-9000000000000000002)) dX11_rests_19 jt_789 (by decide) ?_
      exact jw_ret (pc := 22) (v := (-9000000000000000002)) dX11_rests_22 (jw_qc _ rfl) rfl rfl
    · refine jw_aloadR (pc := 23) 0 dX11_rests_23 rfl ?_
      refine jw_getR (pc := 24) (j := 6) rfl dX11_rests_24 jv_11 ji_11 (Or.inl jt_378) jg_0 jl_0 (by decide) (by decide) rfl jf_11_6 ?_
      refine jw_iload_n (pc := 27) 1 dX11_rests_27 rfl ?_
      refine jw_callVMi (pc := 28) (As := [jI a1]) (st := []) dX11_rests_28 rfl (Nat.le_of_ble_eq_true rfl) qX8_findRest jt_962 jt_963 jt_964 rfl rfl (Nat.le_of_ble_eq_true rfl) jv_8 rfl jg_119 jl_119 (by decide) (jw_ho jg_119 (by decide)) (kX8_findRest G a1 ha1 M) (fun v2 M3 hv2 => ?_)
      refine jw_i2lr (pc := 31) dX11_rests_31 hv2 ?_
      exact jw_ret (pc := 32) (v := v2) dX11_rests_32 (jw_rq hv2) rfl rfl
theorem kX11_rests (G : jw_G) (a1 : Int) (ha1 : jw_r a1) (M : jw_M) : jw_Ct G YX11_rests (some .long) 31 0 0 true (fun q => q) yX11_rests [jR G 0, jI a1] M (fX11_rests a1 M) := jw_met (by decide) rfl rfl rfl (Nat.le_of_ble_eq_true rfl) (rX11_rests G a1 ha1 M)
abbrev YX11_saved : jw_Y := (RX11, cX11_saved, 3, 2, "saved")
theorem qX11_saved : jw_cy YX11_saved (some .long) yX11_saved 2 := ⟨by decide, jt_998, jt_1, by decide, by decide +kernel⟩
theorem dX11_saved_0 : decode cX11_saved 0 = .ok (.aload_n 0, 1) := by decide +kernel
theorem dX11_saved_1 : decode cX11_saved 1 = .ok (.getfield 26, 3) := by decide +kernel
theorem dX11_saved_4 : decode cX11_saved 4 = .ok (.getfield 162, 3) := by decide +kernel
theorem dX11_saved_7 : decode cX11_saved 7 = .ok (.iload_n 1, 1) := by decide +kernel
theorem dX11_saved_8 : decode cX11_saved 8 = .ok (.invokevirtual 187, 3) := by decide +kernel
theorem dX11_saved_11 : decode cX11_saved 11 = .ok (.ifCond .eq 17, 3) := by decide +kernel
theorem dX11_saved_14 : decode cX11_saved 14 = .ok (.aload_n 0, 1) := by decide +kernel
theorem dX11_saved_15 : decode cX11_saved 15 = .ok (.getfield 26, 3) := by decide +kernel
theorem dX11_saved_18 : decode cX11_saved 18 = .ok (.getfield 162, 3) := by decide +kernel
theorem dX11_saved_21 : decode cX11_saved 21 = .ok (.iload_n 2, 1) := by decide +kernel
theorem dX11_saved_22 : decode cX11_saved 22 = .ok (.invokevirtual 166, 3) := by decide +kernel
theorem dX11_saved_25 : decode cX11_saved 25 = .ok (.ifCond .ne 7, 3) := by decide +kernel
theorem dX11_saved_28 : decode cX11_saved 28 = .ok (.ldc2_w 75, 3) := by decide +kernel
theorem dX11_saved_31 : decode cX11_saved 31 = .ok (.lreturn, 1) := by decide +kernel
theorem dX11_saved_32 : decode cX11_saved 32 = .ok (.aload_n 0, 1) := by decide +kernel
theorem dX11_saved_33 : decode cX11_saved 33 = .ok (.getfield 26, 3) := by decide +kernel
theorem dX11_saved_36 : decode cX11_saved 36 = .ok (.getfield 268, 3) := by decide +kernel
theorem dX11_saved_39 : decode cX11_saved 39 = .ok (.iload_n 1, 1) := by decide +kernel
theorem dX11_saved_40 : decode cX11_saved 40 = .ok (.iload_n 2, 1) := by decide +kernel
theorem dX11_saved_41 : decode cX11_saved 41 = .ok (.invokevirtual 310, 3) := by decide +kernel
theorem dX11_saved_44 : decode cX11_saved 44 = .ok (.i2l, 1) := by decide +kernel
theorem dX11_saved_45 : decode cX11_saved 45 = .ok (.lreturn, 1) := by decide +kernel
def fX11_saved (a1 : Int) (a2 : Int) (M : jw_M) : Option Int :=
  Option.bind (fX10_isWatcher (9 + 8) a1 M) (fun v1 => if v1 = 0 then (some (-9000000000000000001)) else (Option.bind (fX10_isSeller (9 + 8) a2 M) (fun v2 => if v2 = 0 then (some (-9000000000000000001)) else (Option.bind (fX1_savedBy (9 + 21) a1 a2 M) (fun v3 => some v3)))))
set_option maxRecDepth 100000 in
theorem rX11_saved (G : jw_G) (a1 : Int) (a2 : Int) (ha1 : jw_r a1) (ha2 : jw_r a2) (M : jw_M) : jw_Rn G YX11_saved 2 0 0 true (fun v => (v, M)) 0 [(0, jR G 0), (1, jI a1), (2, jI a2)] [] M (fX11_saved a1 a2 M) := by
  unfold fX11_saved
  refine jw_aloadR (pc := 0) 0 dX11_saved_0 rfl ?_
  refine jw_getR (pc := 1) (j := 2) rfl dX11_saved_1 jv_11 ji_11 (Or.inl jt_374) jg_0 jl_0 (by decide) (by decide) rfl jf_11_2 ?_
  refine jw_getR (pc := 4) (j := 2) rfl dX11_saved_4 jv_7 ji_7 (Or.inr ⟨_, jt_269⟩) jg_9 jl_9 (by decide) (by decide) rfl (jf_7_2 jg_9).1 ?_
  refine jw_iload_n (pc := 7) 1 dX11_saved_7 rfl ?_
  refine jw_callVz (pc := 8) (As := [jI a1]) (st := []) dX11_saved_8 rfl (Nat.le_of_ble_eq_true rfl) qX10_isWatcher jt_777 jt_778 jt_779 rfl rfl (Nat.le_of_ble_eq_true rfl) jv_10 rfl (jf_7_2 jg_9).2.1 (jf_7_2 jg_9).2.2 (by decide) (jw_ho (jf_7_2 jg_9).2.1 (by decide)) (kX10_isWatcher G (9 + 8) a1 ha1 M) (fun v1 hv1 => ?_)
  refine jw_if_eq (pc := 11) 28 dX11_saved_11 (by decide) (jw_bz hv1) (fun _ => ?_) (fun _ => ?_)
  · refine jw_ldc2 (pc := 28) (n := (-9000000000000000001)) dX11_saved_28 jt_414 (by decide) ?_
    exact jw_ret (pc := 31) (v := (-9000000000000000001)) dX11_saved_31 (jw_qc _ rfl) rfl rfl
  · refine jw_aloadR (pc := 14) 0 dX11_saved_14 rfl ?_
    refine jw_getR (pc := 15) (j := 2) rfl dX11_saved_15 jv_11 ji_11 (Or.inl jt_374) jg_0 jl_0 (by decide) (by decide) rfl jf_11_2 ?_
    refine jw_getR (pc := 18) (j := 2) rfl dX11_saved_18 jv_7 ji_7 (Or.inr ⟨_, jt_269⟩) jg_9 jl_9 (by decide) (by decide) rfl (jf_7_2 jg_9).1 ?_
    refine jw_iload_n (pc := 21) 2 dX11_saved_21 rfl ?_
    refine jw_callVz (pc := 22) (As := [jI a2]) (st := []) dX11_saved_22 rfl (Nat.le_of_ble_eq_true rfl) qX10_isSeller jt_753 jt_754 jt_755 rfl rfl (Nat.le_of_ble_eq_true rfl) jv_10 rfl (jf_7_2 jg_9).2.1 (jf_7_2 jg_9).2.2 (by decide) (jw_ho (jf_7_2 jg_9).2.1 (by decide)) (kX10_isSeller G (9 + 8) a2 ha2 M) (fun v2 hv2 => ?_)
    refine jw_if_ne (pc := 25) 32 dX11_saved_25 (by decide) (jw_bz hv2) (fun _ => ?_) (fun _ => ?_)
    · refine jw_ldc2 (pc := 28) (n := (-9000000000000000001)) dX11_saved_28 jt_414 (by decide) ?_
      exact jw_ret (pc := 31) (v := (-9000000000000000001)) dX11_saved_31 (jw_qc _ rfl) rfl rfl
    · refine jw_aloadR (pc := 32) 0 dX11_saved_32 rfl ?_
      refine jw_getR (pc := 33) (j := 2) rfl dX11_saved_33 jv_11 ji_11 (Or.inl jt_374) jg_0 jl_0 (by decide) (by decide) rfl jf_11_2 ?_
      refine jw_getR (pc := 36) (j := 4) rfl dX11_saved_36 jv_7 ji_7 (Or.inr ⟨_, jt_277⟩) jg_9 jl_9 (by decide) (by decide) rfl (jf_7_4 jg_9).1 ?_
      refine jw_iload_n (pc := 39) 1 dX11_saved_39 rfl ?_
      refine jw_iload_n (pc := 40) 2 dX11_saved_40 rfl ?_
      refine jw_callVi (pc := 41) (As := [jI a1, jI a2]) (st := []) dX11_saved_41 rfl (Nat.le_of_ble_eq_true rfl) qX1_savedBy jt_999 jt_1000 jt_1001 rfl rfl (Nat.le_of_ble_eq_true rfl) jv_1 rfl (jf_7_4 jg_9).2.1 (jf_7_4 jg_9).2.2 (by decide) (jw_ho (jf_7_4 jg_9).2.1 (by decide)) (kX1_savedBy G (9 + 21) a1 a2 ha1 ha2 M) (fun v3 hv3 => ?_)
      refine jw_i2lr (pc := 44) dX11_saved_44 hv3 ?_
      exact jw_ret (pc := 45) (v := v3) dX11_saved_45 (jw_rq hv3) rfl rfl
theorem kX11_saved (G : jw_G) (a1 : Int) (a2 : Int) (ha1 : jw_r a1) (ha2 : jw_r a2) (M : jw_M) : jw_Ct G YX11_saved (some .long) 2 0 0 true (fun v => (v, M)) yX11_saved [jR G 0, jI a1, jI a2] M (fX11_saved a1 a2 M) := jw_met (by decide) rfl rfl rfl (Nat.le_of_ble_eq_true rfl) (rX11_saved G a1 a2 ha1 ha2 M)
abbrev YX11_pays : jw_Y := (RX11, cX11_pays, 5, 2, "pays")
theorem qX11_pays : jw_cy YX11_pays (some .long) yX11_pays 4 := ⟨by decide, jt_1006, jt_1, by decide, by decide +kernel⟩
theorem dX11_pays_0 : decode cX11_pays 0 = .ok (.aload_n 0, 1) := by decide +kernel
theorem dX11_pays_1 : decode cX11_pays 1 = .ok (.getfield 26, 3) := by decide +kernel
theorem dX11_pays_4 : decode cX11_pays 4 = .ok (.getfield 162, 3) := by decide +kernel
theorem dX11_pays_7 : decode cX11_pays 7 = .ok (.iload_n 1, 1) := by decide +kernel
theorem dX11_pays_8 : decode cX11_pays 8 = .ok (.invokevirtual 187, 3) := by decide +kernel
theorem dX11_pays_11 : decode cX11_pays 11 = .ok (.ifCond .eq 17, 3) := by decide +kernel
theorem dX11_pays_14 : decode cX11_pays 14 = .ok (.aload_n 0, 1) := by decide +kernel
theorem dX11_pays_15 : decode cX11_pays 15 = .ok (.getfield 26, 3) := by decide +kernel
theorem dX11_pays_18 : decode cX11_pays 18 = .ok (.getfield 162, 3) := by decide +kernel
theorem dX11_pays_21 : decode cX11_pays 21 = .ok (.iload_n 3, 1) := by decide +kernel
theorem dX11_pays_22 : decode cX11_pays 22 = .ok (.invokevirtual 166, 3) := by decide +kernel
theorem dX11_pays_25 : decode cX11_pays 25 = .ok (.ifCond .ne 7, 3) := by decide +kernel
theorem dX11_pays_28 : decode cX11_pays 28 = .ok (.ldc2_w 75, 3) := by decide +kernel
theorem dX11_pays_31 : decode cX11_pays 31 = .ok (.lreturn, 1) := by decide +kernel
theorem dX11_pays_32 : decode cX11_pays 32 = .ok (.iload_n 2, 1) := by decide +kernel
theorem dX11_pays_33 : decode cX11_pays 33 = .ok (.iconst 1, 1) := by decide +kernel
theorem dX11_pays_34 : decode cX11_pays 34 = .ok (.if_icmp .lt 18, 3) := by decide +kernel
theorem dX11_pays_37 : decode cX11_pays 37 = .ok (.iload_n 2, 1) := by decide +kernel
theorem dX11_pays_38 : decode cX11_pays 38 = .ok (.sipush 9999, 3) := by decide +kernel
theorem dX11_pays_41 : decode cX11_pays 41 = .ok (.if_icmp .gt 11, 3) := by decide +kernel
theorem dX11_pays_44 : decode cX11_pays 44 = .ok (.iload 4, 2) := by decide +kernel
theorem dX11_pays_46 : decode cX11_pays 46 = .ok (.invokestatic 149, 3) := by decide +kernel
theorem dX11_pays_49 : decode cX11_pays 49 = .ok (.ifCond .ne 7, 3) := by decide +kernel
theorem dX11_pays_52 : decode cX11_pays 52 = .ok (.ldc2_w 75, 3) := by decide +kernel
theorem dX11_pays_55 : decode cX11_pays 55 = .ok (.lreturn, 1) := by decide +kernel
theorem dX11_pays_56 : decode cX11_pays 56 = .ok (.aload_n 0, 1) := by decide +kernel
theorem dX11_pays_57 : decode cX11_pays 57 = .ok (.getfield 53, 3) := by decide +kernel
theorem dX11_pays_60 : decode cX11_pays 60 = .ok (.iload_n 1, 1) := by decide +kernel
theorem dX11_pays_61 : decode cX11_pays 61 = .ok (.iload_n 2, 1) := by decide +kernel
theorem dX11_pays_62 : decode cX11_pays 62 = .ok (.iload_n 3, 1) := by decide +kernel
theorem dX11_pays_63 : decode cX11_pays 63 = .ok (.invokevirtual 313, 3) := by decide +kernel
theorem dX11_pays_66 : decode cX11_pays 66 = .ok (.aload_n 0, 1) := by decide +kernel
theorem dX11_pays_67 : decode cX11_pays 67 = .ok (.getfield 53, 3) := by decide +kernel
theorem dX11_pays_70 : decode cX11_pays 70 = .ok (.getfield 316, 3) := by decide +kernel
theorem dX11_pays_73 : decode cX11_pays 73 = .ok (.aload_n 0, 1) := by decide +kernel
theorem dX11_pays_74 : decode cX11_pays 74 = .ok (.getfield 53, 3) := by decide +kernel
theorem dX11_pays_77 : decode cX11_pays 77 = .ok (.getfield 320, 3) := by decide +kernel
theorem dX11_pays_80 : decode cX11_pays 80 = .ok (.iload 4, 2) := by decide +kernel
theorem dX11_pays_82 : decode cX11_pays 82 = .ok (.invokestatic 287, 3) := by decide +kernel
theorem dX11_pays_85 : decode cX11_pays 85 = .ok (.lreturn, 1) := by decide +kernel
def fX11_pays (a1 : Int) (a2 : Int) (a3 : Int) (a4 : Int) (M : jw_M) : Option (Int × jw_M) :=
  Option.bind (fX10_isWatcher (9 + 8) a1 M) (fun v1 => if v1 = 0 then (some ((-9000000000000000001), M)) else (Option.bind (fX10_isSeller (9 + 8) a3 M) (fun v2 => if v2 = 0 then (some ((-9000000000000000001), M)) else (if a2 < 1 then (some ((-9000000000000000001), M)) else (if (9999 : Int) < a2 then (some ((-9000000000000000001), M)) else (Option.bind (fX11_isHalf a4 M) (fun v3 => if v3 = 0 then (some ((-9000000000000000001), M)) else (Option.bind (fX5_share a1 a2 a3 M) (fun M4 => Option.bind (fX11_half (M4 123 4) (M4 123 5) a4 M4) (fun v7 => some (v7, M4)))))))))))
set_option maxRecDepth 100000 in
theorem rX11_pays (G : jw_G) (a1 : Int) (a2 : Int) (a3 : Int) (a4 : Int) (ha1 : jw_r a1) (ha2 : jw_r a2) (ha3 : jw_r a3) (ha4 : jw_r a4) (M : jw_M) : jw_Rn G YX11_pays 4 0 0 true (fun q => q) 0 [(0, jR G 0), (1, jI a1), (2, jI a2), (3, jI a3), (4, jI a4)] [] M (fX11_pays a1 a2 a3 a4 M) := by
  unfold fX11_pays
  refine jw_aloadR (pc := 0) 0 dX11_pays_0 rfl ?_
  refine jw_getR (pc := 1) (j := 2) rfl dX11_pays_1 jv_11 ji_11 (Or.inl jt_374) jg_0 jl_0 (by decide) (by decide) rfl jf_11_2 ?_
  refine jw_getR (pc := 4) (j := 2) rfl dX11_pays_4 jv_7 ji_7 (Or.inr ⟨_, jt_269⟩) jg_9 jl_9 (by decide) (by decide) rfl (jf_7_2 jg_9).1 ?_
  refine jw_iload_n (pc := 7) 1 dX11_pays_7 rfl ?_
  refine jw_callVz (pc := 8) (As := [jI a1]) (st := []) dX11_pays_8 rfl (Nat.le_of_ble_eq_true rfl) qX10_isWatcher jt_777 jt_778 jt_779 rfl rfl (Nat.le_of_ble_eq_true rfl) jv_10 rfl (jf_7_2 jg_9).2.1 (jf_7_2 jg_9).2.2 (by decide) (jw_ho (jf_7_2 jg_9).2.1 (by decide)) (kX10_isWatcher G (9 + 8) a1 ha1 M) (fun v1 hv1 => ?_)
  refine jw_if_eq (pc := 11) 28 dX11_pays_11 (by decide) (jw_bz hv1) (fun _ => ?_) (fun _ => ?_)
  · refine jw_ldc2 (pc := 28) (n := (-9000000000000000001)) dX11_pays_28 jt_414 (by decide) ?_
    exact jw_ret (pc := 31) (v := (-9000000000000000001)) dX11_pays_31 (jw_qc _ rfl) rfl rfl
  · refine jw_aloadR (pc := 14) 0 dX11_pays_14 rfl ?_
    refine jw_getR (pc := 15) (j := 2) rfl dX11_pays_15 jv_11 ji_11 (Or.inl jt_374) jg_0 jl_0 (by decide) (by decide) rfl jf_11_2 ?_
    refine jw_getR (pc := 18) (j := 2) rfl dX11_pays_18 jv_7 ji_7 (Or.inr ⟨_, jt_269⟩) jg_9 jl_9 (by decide) (by decide) rfl (jf_7_2 jg_9).1 ?_
    refine jw_iload_n (pc := 21) 3 dX11_pays_21 rfl ?_
    refine jw_callVz (pc := 22) (As := [jI a3]) (st := []) dX11_pays_22 rfl (Nat.le_of_ble_eq_true rfl) qX10_isSeller jt_753 jt_754 jt_755 rfl rfl (Nat.le_of_ble_eq_true rfl) jv_10 rfl (jf_7_2 jg_9).2.1 (jf_7_2 jg_9).2.2 (by decide) (jw_ho (jf_7_2 jg_9).2.1 (by decide)) (kX10_isSeller G (9 + 8) a3 ha3 M) (fun v2 hv2 => ?_)
    refine jw_if_ne (pc := 25) 32 dX11_pays_25 (by decide) (jw_bz hv2) (fun _ => ?_) (fun _ => ?_)
    · refine jw_ldc2 (pc := 28) (n := (-9000000000000000001)) dX11_pays_28 jt_414 (by decide) ?_
      exact jw_ret (pc := 31) (v := (-9000000000000000001)) dX11_pays_31 (jw_qc _ rfl) rfl rfl
    · refine jw_iload_n (pc := 32) 2 dX11_pays_32 rfl ?_
      refine jw_iconst (pc := 33) dX11_pays_33 ?_
      refine jw_ic_lt (pc := 34) 52 dX11_pays_34 (by decide) ha2 (jw_rc _ rfl) (fun _ => ?_) (fun _ => ?_)
      · refine jw_ldc2 (pc := 52) (n := (-9000000000000000001)) dX11_pays_52 jt_414 (by decide) ?_
        exact jw_ret (pc := 55) (v := (-9000000000000000001)) dX11_pays_55 (jw_qc _ rfl) rfl rfl
      · refine jw_iload_n (pc := 37) 2 dX11_pays_37 rfl ?_
        refine jw_sipush (pc := 38) dX11_pays_38 rfl ?_
        refine jw_ic_gt (pc := 41) 52 dX11_pays_41 (by decide) ha2 (jw_rc _ rfl) (fun _ => ?_) (fun _ => ?_)
        · refine jw_ldc2 (pc := 52) (n := (-9000000000000000001)) dX11_pays_52 jt_414 (by decide) ?_
          exact jw_ret (pc := 55) (v := (-9000000000000000001)) dX11_pays_55 (jw_qc _ rfl) rfl rfl
        · refine jw_iload (pc := 44) 4 dX11_pays_44 rfl ?_
          refine jw_callSz (pc := 46) (As := [jI a4]) (st := []) dX11_pays_46 rfl (Nat.le_of_ble_eq_true rfl) qX11_isHalf jt_733 jt_734 rfl rfl (Nat.le_of_ble_eq_true rfl) (kX11_isHalf G a4 ha4 M) (fun v3 hv3 => ?_)
          refine jw_if_ne (pc := 49) 56 dX11_pays_49 (by decide) (jw_bz hv3) (fun _ => ?_) (fun _ => ?_)
          · refine jw_ldc2 (pc := 52) (n := (-9000000000000000001)) dX11_pays_52 jt_414 (by decide) ?_
            exact jw_ret (pc := 55) (v := (-9000000000000000001)) dX11_pays_55 (jw_qc _ rfl) rfl rfl
          · refine jw_aloadR (pc := 56) 0 dX11_pays_56 rfl ?_
            refine jw_getR (pc := 57) (j := 7) rfl dX11_pays_57 jv_11 ji_11 (Or.inl jt_379) jg_0 jl_0 (by decide) (by decide) rfl jf_11_7 ?_
            refine jw_iload_n (pc := 60) 1 dX11_pays_60 rfl ?_
            refine jw_iload_n (pc := 61) 2 dX11_pays_61 rfl ?_
            refine jw_iload_n (pc := 62) 3 dX11_pays_62 rfl ?_
            refine jw_callVM (pc := 63) (As := [jI a1, jI a2, jI a3]) (st := []) dX11_pays_63 rfl (Nat.le_of_ble_eq_true rfl) qX5_share jt_1007 jt_1008 jt_1009 rfl rfl (Nat.le_of_ble_eq_true rfl) jv_5 rfl jg_123 jl_123 (by decide) (jw_ho jg_123 (by decide)) (kX5_share G a1 a2 a3 ha1 ha2 ha3 M) (fun M4 => ?_)
            refine jw_aloadR (pc := 66) 0 dX11_pays_66 rfl ?_
            refine jw_getR (pc := 67) (j := 7) rfl dX11_pays_67 jv_11 ji_11 (Or.inl jt_379) jg_0 jl_0 (by decide) (by decide) rfl jf_11_7 ?_
            refine jw_getL (pc := 70) (j := 4) rfl dX11_pays_70 jv_5 ji_5 (Or.inr ⟨_, jt_340⟩) jg_123 jl_123 (by decide) (by decide) (jw_ho jg_123 (by decide)) rfl rfl (fun h5 => ?_)
            refine jw_aloadR (pc := 73) 0 dX11_pays_73 rfl ?_
            refine jw_getR (pc := 74) (j := 7) rfl dX11_pays_74 jv_11 ji_11 (Or.inl jt_379) jg_0 jl_0 (by decide) (by decide) rfl jf_11_7 ?_
            refine jw_getL (pc := 77) (j := 5) rfl dX11_pays_77 jv_5 ji_5 (Or.inr ⟨_, jt_342⟩) jg_123 jl_123 (by decide) (by decide) (jw_ho jg_123 (by decide)) rfl rfl (fun h6 => ?_)
            refine jw_iload (pc := 80) 4 dX11_pays_80 rfl ?_
            refine jw_callSl (pc := 82) (As := [jL (M4 123 4), jL (M4 123 5), jI a4]) (st := []) dX11_pays_82 rfl (Nat.le_of_ble_eq_true rfl) qX11_half jt_887 jt_888 rfl rfl (Nat.le_of_ble_eq_true rfl) (kX11_half G (M4 123 4) (M4 123 5) a4 h5 h6 ha4 M4) (fun v7 hv7 => ?_)
            exact jw_ret (pc := 85) (v := v7) dX11_pays_85 hv7 rfl rfl
theorem kX11_pays (G : jw_G) (a1 : Int) (a2 : Int) (a3 : Int) (a4 : Int) (ha1 : jw_r a1) (ha2 : jw_r a2) (ha3 : jw_r a3) (ha4 : jw_r a4) (M : jw_M) : jw_Ct G YX11_pays (some .long) 4 0 0 true (fun q => q) yX11_pays [jR G 0, jI a1, jI a2, jI a3, jI a4] M (fX11_pays a1 a2 a3 a4 M) := jw_met (by decide) rfl rfl rfl (Nat.le_of_ble_eq_true rfl) (rX11_pays G a1 a2 a3 a4 ha1 ha2 ha3 ha4 M)
abbrev YX11_stored : jw_Y := (RX11, cX11_stored, 3, 2, "stored")
theorem qX11_stored : jw_cy YX11_stored (some .long) yX11_stored 1 := ⟨by decide, jt_1030, jt_1, by decide, by decide +kernel⟩
theorem dX11_stored_0 : decode cX11_stored 0 = .ok (.iload_n 1, 1) := by decide +kernel
theorem dX11_stored_1 : decode cX11_stored 1 = .ok (.iconst (-1), 1) := by decide +kernel
theorem dX11_stored_2 : decode cX11_stored 2 = .ok (.if_icmp .ge 7, 3) := by decide +kernel
theorem dX11_stored_5 : decode cX11_stored 5 = .ok (.ldc2_w 75, 3) := by decide +kernel
theorem dX11_stored_8 : decode cX11_stored 8 = .ok (.lreturn, 1) := by decide +kernel
theorem dX11_stored_9 : decode cX11_stored 9 = .ok (.aload_n 0, 1) := by decide +kernel
theorem dX11_stored_10 : decode cX11_stored 10 = .ok (.getfield 26, 3) := by decide +kernel
theorem dX11_stored_13 : decode cX11_stored 13 = .ok (.getfield 197, 3) := by decide +kernel
theorem dX11_stored_16 : decode cX11_stored 16 = .ok (.ifCond .ne 7, 3) := by decide +kernel
theorem dX11_stored_19 : decode cX11_stored 19 = .ok (.ldc2_w 201, 3) := by decide +kernel
theorem dX11_stored_22 : decode cX11_stored 22 = .ok (.lreturn, 1) := by decide +kernel
theorem dX11_stored_23 : decode cX11_stored 23 = .ok (.aload_n 0, 1) := by decide +kernel
theorem dX11_stored_24 : decode cX11_stored 24 = .ok (.getfield 53, 3) := by decide +kernel
theorem dX11_stored_27 : decode cX11_stored 27 = .ok (.invokevirtual 323, 3) := by decide +kernel
theorem dX11_stored_30 : decode cX11_stored 30 = .ok (.istore_n 2, 1) := by decide +kernel
theorem dX11_stored_31 : decode cX11_stored 31 = .ok (.iload_n 2, 1) := by decide +kernel
theorem dX11_stored_32 : decode cX11_stored 32 = .ok (.ldc_w 264, 3) := by decide +kernel
theorem dX11_stored_35 : decode cX11_stored 35 = .ok (.if_icmp .ge 17, 3) := by decide +kernel
theorem dX11_stored_38 : decode cX11_stored 38 = .ok (.iload_n 1, 1) := by decide +kernel
theorem dX11_stored_39 : decode cX11_stored 39 = .ok (.aload_n 0, 1) := by decide +kernel
theorem dX11_stored_40 : decode cX11_stored 40 = .ok (.getfield 26, 3) := by decide +kernel
theorem dX11_stored_43 : decode cX11_stored 43 = .ok (.getfield 162, 3) := by decide +kernel
theorem dX11_stored_46 : decode cX11_stored 46 = .ok (.getfield 223, 3) := by decide +kernel
theorem dX11_stored_49 : decode cX11_stored 49 = .ok (.if_icmp .lt 7, 3) := by decide +kernel
theorem dX11_stored_52 : decode cX11_stored 52 = .ok (.ldc2_w 326, 3) := by decide +kernel
theorem dX11_stored_55 : decode cX11_stored 55 = .ok (.lreturn, 1) := by decide +kernel
theorem dX11_stored_56 : decode cX11_stored 56 = .ok (.iload_n 1, 1) := by decide +kernel
theorem dX11_stored_57 : decode cX11_stored 57 = .ok (.iconst (-1), 1) := by decide +kernel
theorem dX11_stored_58 : decode cX11_stored 58 = .ok (.if_icmp .ne 8, 3) := by decide +kernel
theorem dX11_stored_61 : decode cX11_stored 61 = .ok (.iload_n 2, 1) := by decide +kernel
theorem dX11_stored_62 : decode cX11_stored 62 = .ok (.i2l, 1) := by decide +kernel
theorem dX11_stored_63 : decode cX11_stored 63 = .ok (.goto 12, 3) := by decide +kernel
theorem dX11_stored_66 : decode cX11_stored 66 = .ok (.aload_n 0, 1) := by decide +kernel
theorem dX11_stored_67 : decode cX11_stored 67 = .ok (.getfield 53, 3) := by decide +kernel
theorem dX11_stored_70 : decode cX11_stored 70 = .ok (.iload_n 1, 1) := by decide +kernel
theorem dX11_stored_71 : decode cX11_stored 71 = .ok (.invokevirtual 328, 3) := by decide +kernel
theorem dX11_stored_74 : decode cX11_stored 74 = .ok (.i2l, 1) := by decide +kernel
theorem dX11_stored_75 : decode cX11_stored 75 = .ok (.lreturn, 1) := by decide +kernel
def fX11_stored (a1 : Int) (M : jw_M) : Option (Int × jw_M) :=
  if a1 < (-1) then (some ((-9000000000000000001), M)) else (if M 9 0 = 0 then (some ((-9000000000000000002), M)) else (jw_b2 (fX5_leastStorage  M) (fun v2 M3 => Option.bind (some v2) (fun v4 => if v4 < 1000000 then (if a1 < M3 (9 + 8) 4 then (if a1 = (-1) then (some (v4, M3)) else (Option.bind (fX5_cellarFor a1 M3) (fun v6 => some (v6, M3)))) else (some ((-1000000), M3))) else (some ((-1000000), M3))))))
set_option maxRecDepth 100000 in
theorem rX11_stored (G : jw_G) (a1 : Int) (ha1 : jw_r a1) (M : jw_M) : jw_Rn G YX11_stored 5 0 0 true (fun q => q) 0 [(0, jR G 0), (1, jI a1)] [] M (fX11_stored a1 M) := by
  unfold fX11_stored
  refine jw_iload_n (pc := 0) 1 dX11_stored_0 rfl ?_
  refine jw_iconst (pc := 1) dX11_stored_1 ?_
  refine jw_ic_ge (pc := 2) 9 dX11_stored_2 (by decide) ha1 (jw_rc _ rfl) (fun _ => ?_) (fun _ => ?_)
  · refine jw_ldc2 (pc := 5) (n := (-9000000000000000001)) dX11_stored_5 jt_414 (by decide) ?_
    exact jw_ret (pc := 8) (v := (-9000000000000000001)) dX11_stored_8 (jw_qc _ rfl) rfl rfl
  · refine jw_aloadR (pc := 9) 0 dX11_stored_9 rfl ?_
    refine jw_getR (pc := 10) (j := 2) rfl dX11_stored_10 jv_11 ji_11 (Or.inl jt_374) jg_0 jl_0 (by decide) (by decide) rfl jf_11_2 ?_
    refine jw_getI (pc := 13) (j := 0) rfl dX11_stored_13 jv_7 ji_7 (Or.inr ⟨_, jt_258⟩) jg_9 jl_9 (by decide) (by decide) (jw_ho jg_9 (by decide)) (Or.inr rfl) rfl (fun h1 => ?_)
    refine jw_if_ne (pc := 16) 23 dX11_stored_16 (by decide) h1 (fun _ => ?_) (fun _ => ?_)
    · refine jw_ldc2 (pc := 19) (n := (-9000000000000000002)) dX11_stored_19 jt_789 (by decide) ?_
      exact jw_ret (pc := 22) (v := (-9000000000000000002)) dX11_stored_22 (jw_qc _ rfl) rfl rfl
    · refine jw_aloadR (pc := 23) 0 dX11_stored_23 rfl ?_
      refine jw_getR (pc := 24) (j := 7) rfl dX11_stored_24 jv_11 ji_11 (Or.inl jt_379) jg_0 jl_0 (by decide) (by decide) rfl jf_11_7 ?_
      refine jw_callVMi (pc := 27) (As := []) (st := []) dX11_stored_27 rfl (Nat.le_of_ble_eq_true rfl) qX5_leastStorage jt_1031 jt_1032 jt_1033 rfl rfl (Nat.le_of_ble_eq_true rfl) jv_5 rfl jg_123 jl_123 (by decide) (jw_ho jg_123 (by decide)) (kX5_leastStorage G  M) (fun v2 M3 hv2 => ?_)
      refine jw_istore_nL (pc := 30) (lv' := (fun y => [(2, y), (0, jR G 0), (1, jI a1)])) dX11_stored_30 hv2 (by decide) (fun _ => rfl) (fun v4 hv4 => ?_)
      refine jw_iload_n (pc := 31) 0 dX11_stored_31 rfl ?_
      refine jw_ldcw (pc := 32) (n := 1000000) dX11_stored_32 jt_747 (by decide) ?_
      refine jw_ic_ge (pc := 35) 52 dX11_stored_35 (by decide) hv4 (jw_rc _ rfl) (fun _ => ?_) (fun _ => ?_)
      · refine jw_iload_n (pc := 38) 2 dX11_stored_38 rfl ?_
        refine jw_aloadR (pc := 39) 1 dX11_stored_39 rfl ?_
        refine jw_getR (pc := 40) (j := 2) rfl dX11_stored_40 jv_11 ji_11 (Or.inl jt_374) jg_0 jl_0 (by decide) (by decide) rfl jf_11_2 ?_
        refine jw_getR (pc := 43) (j := 2) rfl dX11_stored_43 jv_7 ji_7 (Or.inr ⟨_, jt_269⟩) jg_9 jl_9 (by decide) (by decide) rfl (jf_7_2 jg_9).1 ?_
        refine jw_getI (pc := 46) (j := 4) rfl dX11_stored_46 jv_10 ji_10 (Or.inr ⟨_, jt_155⟩) (jf_7_2 jg_9).2.1 (jf_7_2 jg_9).2.2 (by decide) (by decide) (jw_ho (jf_7_2 jg_9).2.1 (by decide)) (Or.inl rfl) rfl (fun h5 => ?_)
        refine jw_ic_lt (pc := 49) 56 dX11_stored_49 (by decide) ha1 h5 (fun _ => ?_) (fun _ => ?_)
        · refine jw_iload_n (pc := 56) 2 dX11_stored_56 rfl ?_
          refine jw_iconst (pc := 57) dX11_stored_57 ?_
          refine jw_ic_ne (pc := 58) 66 dX11_stored_58 (by decide) ha1 (jw_rc _ rfl) (fun _ => ?_) (fun _ => ?_)
          · refine jw_iload_n (pc := 61) 0 dX11_stored_61 rfl ?_
            refine jw_i2lr (pc := 62) dX11_stored_62 hv4 ?_
            refine jw_goto (pc := 63) 75 dX11_stored_63 (by decide) ?_
            exact jw_ret (pc := 75) (v := v4) dX11_stored_75 (jw_rq hv4) rfl rfl
          · refine jw_aloadR (pc := 66) 1 dX11_stored_66 rfl ?_
            refine jw_getR (pc := 67) (j := 7) rfl dX11_stored_67 jv_11 ji_11 (Or.inl jt_379) jg_0 jl_0 (by decide) (by decide) rfl jf_11_7 ?_
            refine jw_iload_n (pc := 70) 2 dX11_stored_70 rfl ?_
            refine jw_callVi (pc := 71) (As := [jI a1]) (st := []) dX11_stored_71 rfl (Nat.le_of_ble_eq_true rfl) qX5_cellarFor jt_1047 jt_1048 jt_1049 rfl rfl (Nat.le_of_ble_eq_true rfl) jv_5 rfl jg_123 jl_123 (by decide) (jw_ho jg_123 (by decide)) (kX5_cellarFor G a1 ha1 M3) (fun v6 hv6 => ?_)
            refine jw_i2lr (pc := 74) dX11_stored_74 hv6 ?_
            exact jw_ret (pc := 75) (v := v6) dX11_stored_75 (jw_rq hv6) rfl rfl
        · refine jw_ldc2 (pc := 52) (n := (-1000000)) dX11_stored_52 jt_748 (by decide) ?_
          exact jw_ret (pc := 55) (v := (-1000000)) dX11_stored_55 (jw_qc _ rfl) rfl rfl
      · refine jw_ldc2 (pc := 52) (n := (-1000000)) dX11_stored_52 jt_748 (by decide) ?_
        exact jw_ret (pc := 55) (v := (-1000000)) dX11_stored_55 (jw_qc _ rfl) rfl rfl
theorem kX11_stored (G : jw_G) (a1 : Int) (ha1 : jw_r a1) (M : jw_M) : jw_Ct G YX11_stored (some .long) 5 0 0 true (fun q => q) yX11_stored [jR G 0, jI a1] M (fX11_stored a1 M) := jw_met (by decide) rfl rfl rfl (Nat.le_of_ble_eq_true rfl) (rX11_stored G a1 ha1 M)
abbrev YX11_escapes : jw_Y := (RX11, cX11_escapes, 3, 2, "escapes")
theorem qX11_escapes : jw_cy YX11_escapes (some .long) yX11_escapes 2 := ⟨by decide, jt_1059, jt_1, by decide, by decide +kernel⟩
theorem dX11_escapes_0 : decode cX11_escapes 0 = .ok (.aload_n 0, 1) := by decide +kernel
theorem dX11_escapes_1 : decode cX11_escapes 1 = .ok (.getfield 26, 3) := by decide +kernel
theorem dX11_escapes_4 : decode cX11_escapes 4 = .ok (.getfield 137, 3) := by decide +kernel
theorem dX11_escapes_7 : decode cX11_escapes 7 = .ok (.iload_n 1, 1) := by decide +kernel
theorem dX11_escapes_8 : decode cX11_escapes 8 = .ok (.invokevirtual 146, 3) := by decide +kernel
theorem dX11_escapes_11 : decode cX11_escapes 11 = .ok (.ifCond .eq 22, 3) := by decide +kernel
theorem dX11_escapes_14 : decode cX11_escapes 14 = .ok (.aload_n 0, 1) := by decide +kernel
theorem dX11_escapes_15 : decode cX11_escapes 15 = .ok (.getfield 26, 3) := by decide +kernel
theorem dX11_escapes_18 : decode cX11_escapes 18 = .ok (.getfield 137, 3) := by decide +kernel
theorem dX11_escapes_21 : decode cX11_escapes 21 = .ok (.iload_n 2, 1) := by decide +kernel
theorem dX11_escapes_22 : decode cX11_escapes 22 = .ok (.invokevirtual 146, 3) := by decide +kernel
theorem dX11_escapes_25 : decode cX11_escapes 25 = .ok (.ifCond .eq 8, 3) := by decide +kernel
theorem dX11_escapes_28 : decode cX11_escapes 28 = .ok (.iload_n 1, 1) := by decide +kernel
theorem dX11_escapes_29 : decode cX11_escapes 29 = .ok (.iload_n 2, 1) := by decide +kernel
theorem dX11_escapes_30 : decode cX11_escapes 30 = .ok (.if_icmp .ne 7, 3) := by decide +kernel
theorem dX11_escapes_33 : decode cX11_escapes 33 = .ok (.ldc2_w 75, 3) := by decide +kernel
theorem dX11_escapes_36 : decode cX11_escapes 36 = .ok (.lreturn, 1) := by decide +kernel
theorem dX11_escapes_37 : decode cX11_escapes 37 = .ok (.aload_n 0, 1) := by decide +kernel
theorem dX11_escapes_38 : decode cX11_escapes 38 = .ok (.getfield 26, 3) := by decide +kernel
theorem dX11_escapes_41 : decode cX11_escapes 41 = .ok (.getfield 137, 3) := by decide +kernel
theorem dX11_escapes_44 : decode cX11_escapes 44 = .ok (.iload_n 1, 1) := by decide +kernel
theorem dX11_escapes_45 : decode cX11_escapes 45 = .ok (.iload_n 2, 1) := by decide +kernel
theorem dX11_escapes_46 : decode cX11_escapes 46 = .ok (.invokevirtual 331, 3) := by decide +kernel
theorem dX11_escapes_49 : decode cX11_escapes 49 = .ok (.i2l, 1) := by decide +kernel
theorem dX11_escapes_50 : decode cX11_escapes 50 = .ok (.lreturn, 1) := by decide +kernel
def fX11_escapes (a1 : Int) (a2 : Int) (M : jw_M) : Option Int :=
  Option.bind (fX9_isCorner (9 + 1) a1 M) (fun v1 => if v1 = 0 then (some (-9000000000000000001)) else (Option.bind (fX9_isCorner (9 + 1) a2 M) (fun v2 => if v2 = 0 then (some (-9000000000000000001)) else (if a1 = a2 then (some (-9000000000000000001)) else (Option.bind (fX9_waysApart (9 + 1) a1 a2 M) (fun v3 => some v3))))))
set_option maxRecDepth 100000 in
theorem rX11_escapes (G : jw_G) (a1 : Int) (a2 : Int) (ha1 : jw_r a1) (ha2 : jw_r a2) (M : jw_M) : jw_Rn G YX11_escapes 5 0 0 true (fun v => (v, M)) 0 [(0, jR G 0), (1, jI a1), (2, jI a2)] [] M (fX11_escapes a1 a2 M) := by
  unfold fX11_escapes
  refine jw_aloadR (pc := 0) 0 dX11_escapes_0 rfl ?_
  refine jw_getR (pc := 1) (j := 2) rfl dX11_escapes_1 jv_11 ji_11 (Or.inl jt_374) jg_0 jl_0 (by decide) (by decide) rfl jf_11_2 ?_
  refine jw_getR (pc := 4) (j := 1) rfl dX11_escapes_4 jv_7 ji_7 (Or.inr ⟨_, jt_264⟩) jg_9 jl_9 (by decide) (by decide) rfl (jf_7_1 jg_9).1 ?_
  refine jw_iload_n (pc := 7) 1 dX11_escapes_7 rfl ?_
  refine jw_callVz (pc := 8) (As := [jI a1]) (st := []) dX11_escapes_8 rfl (Nat.le_of_ble_eq_true rfl) qX9_isCorner jt_729 jt_730 jt_731 rfl rfl (Nat.le_of_ble_eq_true rfl) jv_9 rfl (jf_7_1 jg_9).2.1 (jf_7_1 jg_9).2.2 (by decide) (jw_ho (jf_7_1 jg_9).2.1 (by decide)) (kX9_isCorner G (9 + 1) a1 ha1 M) (fun v1 hv1 => ?_)
  refine jw_if_eq (pc := 11) 33 dX11_escapes_11 (by decide) (jw_bz hv1) (fun _ => ?_) (fun _ => ?_)
  · refine jw_ldc2 (pc := 33) (n := (-9000000000000000001)) dX11_escapes_33 jt_414 (by decide) ?_
    exact jw_ret (pc := 36) (v := (-9000000000000000001)) dX11_escapes_36 (jw_qc _ rfl) rfl rfl
  · refine jw_aloadR (pc := 14) 0 dX11_escapes_14 rfl ?_
    refine jw_getR (pc := 15) (j := 2) rfl dX11_escapes_15 jv_11 ji_11 (Or.inl jt_374) jg_0 jl_0 (by decide) (by decide) rfl jf_11_2 ?_
    refine jw_getR (pc := 18) (j := 1) rfl dX11_escapes_18 jv_7 ji_7 (Or.inr ⟨_, jt_264⟩) jg_9 jl_9 (by decide) (by decide) rfl (jf_7_1 jg_9).1 ?_
    refine jw_iload_n (pc := 21) 2 dX11_escapes_21 rfl ?_
    refine jw_callVz (pc := 22) (As := [jI a2]) (st := []) dX11_escapes_22 rfl (Nat.le_of_ble_eq_true rfl) qX9_isCorner jt_729 jt_730 jt_731 rfl rfl (Nat.le_of_ble_eq_true rfl) jv_9 rfl (jf_7_1 jg_9).2.1 (jf_7_1 jg_9).2.2 (by decide) (jw_ho (jf_7_1 jg_9).2.1 (by decide)) (kX9_isCorner G (9 + 1) a2 ha2 M) (fun v2 hv2 => ?_)
    refine jw_if_eq (pc := 25) 33 dX11_escapes_25 (by decide) (jw_bz hv2) (fun _ => ?_) (fun _ => ?_)
    · refine jw_ldc2 (pc := 33) (n := (-9000000000000000001)) dX11_escapes_33 jt_414 (by decide) ?_
      exact jw_ret (pc := 36) (v := (-9000000000000000001)) dX11_escapes_36 (jw_qc _ rfl) rfl rfl
    · refine jw_iload_n (pc := 28) 1 dX11_escapes_28 rfl ?_
      refine jw_iload_n (pc := 29) 2 dX11_escapes_29 rfl ?_
      refine jw_ic_ne (pc := 30) 37 dX11_escapes_30 (by decide) ha1 ha2 (fun _ => ?_) (fun _ => ?_)
      · refine jw_ldc2 (pc := 33) (n := (-9000000000000000001)) dX11_escapes_33 jt_414 (by decide) ?_
        exact jw_ret (pc := 36) (v := (-9000000000000000001)) dX11_escapes_36 (jw_qc _ rfl) rfl rfl
      · refine jw_aloadR (pc := 37) 0 dX11_escapes_37 rfl ?_
        refine jw_getR (pc := 38) (j := 2) rfl dX11_escapes_38 jv_11 ji_11 (Or.inl jt_374) jg_0 jl_0 (by decide) (by decide) rfl jf_11_2 ?_
        refine jw_getR (pc := 41) (j := 1) rfl dX11_escapes_41 jv_7 ji_7 (Or.inr ⟨_, jt_264⟩) jg_9 jl_9 (by decide) (by decide) rfl (jf_7_1 jg_9).1 ?_
        refine jw_iload_n (pc := 44) 1 dX11_escapes_44 rfl ?_
        refine jw_iload_n (pc := 45) 2 dX11_escapes_45 rfl ?_
        refine jw_callVi (pc := 46) (As := [jI a1, jI a2]) (st := []) dX11_escapes_46 rfl (Nat.le_of_ble_eq_true rfl) qX9_waysApart jt_1060 jt_1061 jt_1062 rfl rfl (Nat.le_of_ble_eq_true rfl) jv_9 rfl (jf_7_1 jg_9).2.1 (jf_7_1 jg_9).2.2 (by decide) (jw_ho (jf_7_1 jg_9).2.1 (by decide)) (kX9_waysApart G (9 + 1) a1 a2 ha1 ha2 M) (fun v3 hv3 => ?_)
        refine jw_i2lr (pc := 49) dX11_escapes_49 hv3 ?_
        exact jw_ret (pc := 50) (v := v3) dX11_escapes_50 (jw_rq hv3) rfl rfl
theorem kX11_escapes (G : jw_G) (a1 : Int) (a2 : Int) (ha1 : jw_r a1) (ha2 : jw_r a2) (M : jw_M) : jw_Ct G YX11_escapes (some .long) 5 0 0 true (fun v => (v, M)) yX11_escapes [jR G 0, jI a1, jI a2] M (fX11_escapes a1 a2 M) := jw_met (by decide) rfl rfl rfl (Nat.le_of_ble_eq_true rfl) (rX11_escapes G a1 a2 ha1 ha2 M)
abbrev YX11_value : jw_Y := (RX11, cX11_value, 3, 2, "value")
theorem qX11_value : jw_cy YX11_value (some .long) yX11_value 2 := ⟨by decide, jt_1076, jt_1, by decide, by decide +kernel⟩
theorem dX11_value_0 : decode cX11_value 0 = .ok (.iload_n 1, 1) := by decide +kernel
theorem dX11_value_1 : decode cX11_value 1 = .ok (.iconst 1, 1) := by decide +kernel
theorem dX11_value_2 : decode cX11_value 2 = .ok (.if_icmp .lt 16, 3) := by decide +kernel
theorem dX11_value_5 : decode cX11_value 5 = .ok (.iload_n 1, 1) := by decide +kernel
theorem dX11_value_6 : decode cX11_value 6 = .ok (.bipush 99, 2) := by decide +kernel
theorem dX11_value_8 : decode cX11_value 8 = .ok (.if_icmp .gt 10, 3) := by decide +kernel
theorem dX11_value_11 : decode cX11_value 11 = .ok (.iload_n 2, 1) := by decide +kernel
theorem dX11_value_12 : decode cX11_value 12 = .ok (.invokestatic 149, 3) := by decide +kernel
theorem dX11_value_15 : decode cX11_value 15 = .ok (.ifCond .ne 7, 3) := by decide +kernel
theorem dX11_value_18 : decode cX11_value 18 = .ok (.ldc2_w 75, 3) := by decide +kernel
theorem dX11_value_21 : decode cX11_value 21 = .ok (.lreturn, 1) := by decide +kernel
theorem dX11_value_22 : decode cX11_value 22 = .ok (.aload_n 0, 1) := by decide +kernel
theorem dX11_value_23 : decode cX11_value 23 = .ok (.getfield 26, 3) := by decide +kernel
theorem dX11_value_26 : decode cX11_value 26 = .ok (.getfield 197, 3) := by decide +kernel
theorem dX11_value_29 : decode cX11_value 29 = .ok (.ifCond .ne 7, 3) := by decide +kernel
theorem dX11_value_32 : decode cX11_value 32 = .ok (.ldc2_w 201, 3) := by decide +kernel
theorem dX11_value_35 : decode cX11_value 35 = .ok (.lreturn, 1) := by decide +kernel
theorem dX11_value_36 : decode cX11_value 36 = .ok (.aload_n 0, 1) := by decide +kernel
theorem dX11_value_37 : decode cX11_value 37 = .ok (.getfield 53, 3) := by decide +kernel
theorem dX11_value_40 : decode cX11_value 40 = .ok (.iload_n 1, 1) := by decide +kernel
theorem dX11_value_41 : decode cX11_value 41 = .ok (.invokevirtual 334, 3) := by decide +kernel
theorem dX11_value_44 : decode cX11_value 44 = .ok (.aload_n 0, 1) := by decide +kernel
theorem dX11_value_45 : decode cX11_value 45 = .ok (.getfield 53, 3) := by decide +kernel
theorem dX11_value_48 : decode cX11_value 48 = .ok (.getfield 316, 3) := by decide +kernel
theorem dX11_value_51 : decode cX11_value 51 = .ok (.aload_n 0, 1) := by decide +kernel
theorem dX11_value_52 : decode cX11_value 52 = .ok (.getfield 53, 3) := by decide +kernel
theorem dX11_value_55 : decode cX11_value 55 = .ok (.getfield 320, 3) := by decide +kernel
theorem dX11_value_58 : decode cX11_value 58 = .ok (.iload_n 2, 1) := by decide +kernel
theorem dX11_value_59 : decode cX11_value 59 = .ok (.invokestatic 287, 3) := by decide +kernel
theorem dX11_value_62 : decode cX11_value 62 = .ok (.lreturn, 1) := by decide +kernel
def fX11_value (a1 : Int) (a2 : Int) (M : jw_M) : Option (Int × jw_M) :=
  if a1 < 1 then (some ((-9000000000000000001), M)) else (if (99 : Int) < a1 then (some ((-9000000000000000001), M)) else (Option.bind (fX11_isHalf a2 M) (fun v1 => if v1 = 0 then (some ((-9000000000000000001), M)) else (if M 9 0 = 0 then (some ((-9000000000000000002), M)) else (Option.bind (fX5_mixRounds a1 M) (fun M3 => Option.bind (fX11_half (M3 123 4) (M3 123 5) a2 M3) (fun v6 => some (v6, M3))))))))
set_option maxRecDepth 100000 in
theorem rX11_value (G : jw_G) (a1 : Int) (a2 : Int) (ha1 : jw_r a1) (ha2 : jw_r a2) (M : jw_M) : jw_Rn G YX11_value 3 0 0 true (fun q => q) 0 [(0, jR G 0), (1, jI a1), (2, jI a2)] [] M (fX11_value a1 a2 M) := by
  unfold fX11_value
  refine jw_iload_n (pc := 0) 1 dX11_value_0 rfl ?_
  refine jw_iconst (pc := 1) dX11_value_1 ?_
  refine jw_ic_lt (pc := 2) 18 dX11_value_2 (by decide) ha1 (jw_rc _ rfl) (fun _ => ?_) (fun _ => ?_)
  · refine jw_ldc2 (pc := 18) (n := (-9000000000000000001)) dX11_value_18 jt_414 (by decide) ?_
    exact jw_ret (pc := 21) (v := (-9000000000000000001)) dX11_value_21 (jw_qc _ rfl) rfl rfl
  · refine jw_iload_n (pc := 5) 1 dX11_value_5 rfl ?_
    refine jw_bipush (pc := 6) dX11_value_6 rfl ?_
    refine jw_ic_gt (pc := 8) 18 dX11_value_8 (by decide) ha1 (jw_rc _ rfl) (fun _ => ?_) (fun _ => ?_)
    · refine jw_ldc2 (pc := 18) (n := (-9000000000000000001)) dX11_value_18 jt_414 (by decide) ?_
      exact jw_ret (pc := 21) (v := (-9000000000000000001)) dX11_value_21 (jw_qc _ rfl) rfl rfl
    · refine jw_iload_n (pc := 11) 2 dX11_value_11 rfl ?_
      refine jw_callSz (pc := 12) (As := [jI a2]) (st := []) dX11_value_12 rfl (Nat.le_of_ble_eq_true rfl) qX11_isHalf jt_733 jt_734 rfl rfl (Nat.le_of_ble_eq_true rfl) (kX11_isHalf G a2 ha2 M) (fun v1 hv1 => ?_)
      refine jw_if_ne (pc := 15) 22 dX11_value_15 (by decide) (jw_bz hv1) (fun _ => ?_) (fun _ => ?_)
      · refine jw_ldc2 (pc := 18) (n := (-9000000000000000001)) dX11_value_18 jt_414 (by decide) ?_
        exact jw_ret (pc := 21) (v := (-9000000000000000001)) dX11_value_21 (jw_qc _ rfl) rfl rfl
      · refine jw_aloadR (pc := 22) 0 dX11_value_22 rfl ?_
        refine jw_getR (pc := 23) (j := 2) rfl dX11_value_23 jv_11 ji_11 (Or.inl jt_374) jg_0 jl_0 (by decide) (by decide) rfl jf_11_2 ?_
        refine jw_getI (pc := 26) (j := 0) rfl dX11_value_26 jv_7 ji_7 (Or.inr ⟨_, jt_258⟩) jg_9 jl_9 (by decide) (by decide) (jw_ho jg_9 (by decide)) (Or.inr rfl) rfl (fun h2 => ?_)
        refine jw_if_ne (pc := 29) 36 dX11_value_29 (by decide) h2 (fun _ => ?_) (fun _ => ?_)
        · refine jw_ldc2 (pc := 32) (n := (-9000000000000000002)) dX11_value_32 jt_789 (by decide) ?_
          exact jw_ret (pc := 35) (v := (-9000000000000000002)) dX11_value_35 (jw_qc _ rfl) rfl rfl
        · refine jw_aloadR (pc := 36) 0 dX11_value_36 rfl ?_
          refine jw_getR (pc := 37) (j := 7) rfl dX11_value_37 jv_11 ji_11 (Or.inl jt_379) jg_0 jl_0 (by decide) (by decide) rfl jf_11_7 ?_
          refine jw_iload_n (pc := 40) 1 dX11_value_40 rfl ?_
          refine jw_callVM (pc := 41) (As := [jI a1]) (st := []) dX11_value_41 rfl (Nat.le_of_ble_eq_true rfl) qX5_mixRounds jt_1077 jt_1078 jt_1079 rfl rfl (Nat.le_of_ble_eq_true rfl) jv_5 rfl jg_123 jl_123 (by decide) (jw_ho jg_123 (by decide)) (kX5_mixRounds G a1 ha1 M) (fun M3 => ?_)
          refine jw_aloadR (pc := 44) 0 dX11_value_44 rfl ?_
          refine jw_getR (pc := 45) (j := 7) rfl dX11_value_45 jv_11 ji_11 (Or.inl jt_379) jg_0 jl_0 (by decide) (by decide) rfl jf_11_7 ?_
          refine jw_getL (pc := 48) (j := 4) rfl dX11_value_48 jv_5 ji_5 (Or.inr ⟨_, jt_340⟩) jg_123 jl_123 (by decide) (by decide) (jw_ho jg_123 (by decide)) rfl rfl (fun h4 => ?_)
          refine jw_aloadR (pc := 51) 0 dX11_value_51 rfl ?_
          refine jw_getR (pc := 52) (j := 7) rfl dX11_value_52 jv_11 ji_11 (Or.inl jt_379) jg_0 jl_0 (by decide) (by decide) rfl jf_11_7 ?_
          refine jw_getL (pc := 55) (j := 5) rfl dX11_value_55 jv_5 ji_5 (Or.inr ⟨_, jt_342⟩) jg_123 jl_123 (by decide) (by decide) (jw_ho jg_123 (by decide)) rfl rfl (fun h5 => ?_)
          refine jw_iload_n (pc := 58) 2 dX11_value_58 rfl ?_
          refine jw_callSl (pc := 59) (As := [jL (M3 123 4), jL (M3 123 5), jI a2]) (st := []) dX11_value_59 rfl (Nat.le_of_ble_eq_true rfl) qX11_half jt_887 jt_888 rfl rfl (Nat.le_of_ble_eq_true rfl) (kX11_half G (M3 123 4) (M3 123 5) a2 h4 h5 ha2 M3) (fun v6 hv6 => ?_)
          exact jw_ret (pc := 62) (v := v6) dX11_value_62 hv6 rfl rfl
theorem kX11_value (G : jw_G) (a1 : Int) (a2 : Int) (ha1 : jw_r a1) (ha2 : jw_r a2) (M : jw_M) : jw_Ct G YX11_value (some .long) 3 0 0 true (fun q => q) yX11_value [jR G 0, jI a1, jI a2] M (fX11_value a1 a2 M) := jw_met (by decide) rfl rfl rfl (Nat.le_of_ble_eq_true rfl) (rX11_value G a1 a2 ha1 ha2 M)
abbrev YX11_odds : jw_Y := (RX11, cX11_odds, 4, 2, "odds")
theorem qX11_odds : jw_cy YX11_odds (some .long) yX11_odds 3 := ⟨by decide, jt_1088, jt_1, by decide, by decide +kernel⟩
theorem dX11_odds_0 : decode cX11_odds 0 = .ok (.iload_n 1, 1) := by decide +kernel
theorem dX11_odds_1 : decode cX11_odds 1 = .ok (.iconst 1, 1) := by decide +kernel
theorem dX11_odds_2 : decode cX11_odds 2 = .ok (.if_icmp .lt 30, 3) := by decide +kernel
theorem dX11_odds_5 : decode cX11_odds 5 = .ok (.iload_n 1, 1) := by decide +kernel
theorem dX11_odds_6 : decode cX11_odds 6 = .ok (.bipush 99, 2) := by decide +kernel
theorem dX11_odds_8 : decode cX11_odds 8 = .ok (.if_icmp .gt 24, 3) := by decide +kernel
theorem dX11_odds_11 : decode cX11_odds 11 = .ok (.aload_n 0, 1) := by decide +kernel
theorem dX11_odds_12 : decode cX11_odds 12 = .ok (.getfield 26, 3) := by decide +kernel
theorem dX11_odds_15 : decode cX11_odds 15 = .ok (.getfield 137, 3) := by decide +kernel
theorem dX11_odds_18 : decode cX11_odds 18 = .ok (.iload_n 2, 1) := by decide +kernel
theorem dX11_odds_19 : decode cX11_odds 19 = .ok (.invokevirtual 146, 3) := by decide +kernel
theorem dX11_odds_22 : decode cX11_odds 22 = .ok (.ifCond .eq 10, 3) := by decide +kernel
theorem dX11_odds_25 : decode cX11_odds 25 = .ok (.iload_n 3, 1) := by decide +kernel
theorem dX11_odds_26 : decode cX11_odds 26 = .ok (.invokestatic 149, 3) := by decide +kernel
theorem dX11_odds_29 : decode cX11_odds 29 = .ok (.ifCond .ne 7, 3) := by decide +kernel
theorem dX11_odds_32 : decode cX11_odds 32 = .ok (.ldc2_w 75, 3) := by decide +kernel
theorem dX11_odds_35 : decode cX11_odds 35 = .ok (.lreturn, 1) := by decide +kernel
theorem dX11_odds_36 : decode cX11_odds 36 = .ok (.aload_n 0, 1) := by decide +kernel
theorem dX11_odds_37 : decode cX11_odds 37 = .ok (.getfield 53, 3) := by decide +kernel
theorem dX11_odds_40 : decode cX11_odds 40 = .ok (.iload_n 1, 1) := by decide +kernel
theorem dX11_odds_41 : decode cX11_odds 41 = .ok (.invokevirtual 334, 3) := by decide +kernel
theorem dX11_odds_44 : decode cX11_odds 44 = .ok (.aload_n 0, 1) := by decide +kernel
theorem dX11_odds_45 : decode cX11_odds 45 = .ok (.getfield 53, 3) := by decide +kernel
theorem dX11_odds_48 : decode cX11_odds 48 = .ok (.iload_n 1, 1) := by decide +kernel
theorem dX11_odds_49 : decode cX11_odds 49 = .ok (.iload_n 2, 1) := by decide +kernel
theorem dX11_odds_50 : decode cX11_odds 50 = .ok (.invokevirtual 337, 3) := by decide +kernel
theorem dX11_odds_53 : decode cX11_odds 53 = .ok (.aload_n 0, 1) := by decide +kernel
theorem dX11_odds_54 : decode cX11_odds 54 = .ok (.getfield 53, 3) := by decide +kernel
theorem dX11_odds_57 : decode cX11_odds 57 = .ok (.getfield 316, 3) := by decide +kernel
theorem dX11_odds_60 : decode cX11_odds 60 = .ok (.aload_n 0, 1) := by decide +kernel
theorem dX11_odds_61 : decode cX11_odds 61 = .ok (.getfield 53, 3) := by decide +kernel
theorem dX11_odds_64 : decode cX11_odds 64 = .ok (.getfield 320, 3) := by decide +kernel
theorem dX11_odds_67 : decode cX11_odds 67 = .ok (.iload_n 3, 1) := by decide +kernel
theorem dX11_odds_68 : decode cX11_odds 68 = .ok (.invokestatic 287, 3) := by decide +kernel
theorem dX11_odds_71 : decode cX11_odds 71 = .ok (.lreturn, 1) := by decide +kernel
def fX11_odds (a1 : Int) (a2 : Int) (a3 : Int) (M : jw_M) : Option (Int × jw_M) :=
  if a1 < 1 then (some ((-9000000000000000001), M)) else (if (99 : Int) < a1 then (some ((-9000000000000000001), M)) else (Option.bind (fX9_isCorner (9 + 1) a2 M) (fun v1 => if v1 = 0 then (some ((-9000000000000000001), M)) else (Option.bind (fX11_isHalf a3 M) (fun v2 => if v2 = 0 then (some ((-9000000000000000001), M)) else (Option.bind (fX5_mixRounds a1 M) (fun M3 => Option.bind (fX5_oddsFromValue a1 a2 M3) (fun M4 => Option.bind (fX11_half (M4 123 4) (M4 123 5) a3 M4) (fun v7 => some (v7, M4))))))))))
set_option maxRecDepth 100000 in
theorem rX11_odds (G : jw_G) (a1 : Int) (a2 : Int) (a3 : Int) (ha1 : jw_r a1) (ha2 : jw_r a2) (ha3 : jw_r a3) (M : jw_M) : jw_Rn G YX11_odds 3 0 0 true (fun q => q) 0 [(0, jR G 0), (1, jI a1), (2, jI a2), (3, jI a3)] [] M (fX11_odds a1 a2 a3 M) := by
  unfold fX11_odds
  refine jw_iload_n (pc := 0) 1 dX11_odds_0 rfl ?_
  refine jw_iconst (pc := 1) dX11_odds_1 ?_
  refine jw_ic_lt (pc := 2) 32 dX11_odds_2 (by decide) ha1 (jw_rc _ rfl) (fun _ => ?_) (fun _ => ?_)
  · refine jw_ldc2 (pc := 32) (n := (-9000000000000000001)) dX11_odds_32 jt_414 (by decide) ?_
    exact jw_ret (pc := 35) (v := (-9000000000000000001)) dX11_odds_35 (jw_qc _ rfl) rfl rfl
  · refine jw_iload_n (pc := 5) 1 dX11_odds_5 rfl ?_
    refine jw_bipush (pc := 6) dX11_odds_6 rfl ?_
    refine jw_ic_gt (pc := 8) 32 dX11_odds_8 (by decide) ha1 (jw_rc _ rfl) (fun _ => ?_) (fun _ => ?_)
    · refine jw_ldc2 (pc := 32) (n := (-9000000000000000001)) dX11_odds_32 jt_414 (by decide) ?_
      exact jw_ret (pc := 35) (v := (-9000000000000000001)) dX11_odds_35 (jw_qc _ rfl) rfl rfl
    · refine jw_aloadR (pc := 11) 0 dX11_odds_11 rfl ?_
      refine jw_getR (pc := 12) (j := 2) rfl dX11_odds_12 jv_11 ji_11 (Or.inl jt_374) jg_0 jl_0 (by decide) (by decide) rfl jf_11_2 ?_
      refine jw_getR (pc := 15) (j := 1) rfl dX11_odds_15 jv_7 ji_7 (Or.inr ⟨_, jt_264⟩) jg_9 jl_9 (by decide) (by decide) rfl (jf_7_1 jg_9).1 ?_
      refine jw_iload_n (pc := 18) 2 dX11_odds_18 rfl ?_
      refine jw_callVz (pc := 19) (As := [jI a2]) (st := []) dX11_odds_19 rfl (Nat.le_of_ble_eq_true rfl) qX9_isCorner jt_729 jt_730 jt_731 rfl rfl (Nat.le_of_ble_eq_true rfl) jv_9 rfl (jf_7_1 jg_9).2.1 (jf_7_1 jg_9).2.2 (by decide) (jw_ho (jf_7_1 jg_9).2.1 (by decide)) (kX9_isCorner G (9 + 1) a2 ha2 M) (fun v1 hv1 => ?_)
      refine jw_if_eq (pc := 22) 32 dX11_odds_22 (by decide) (jw_bz hv1) (fun _ => ?_) (fun _ => ?_)
      · refine jw_ldc2 (pc := 32) (n := (-9000000000000000001)) dX11_odds_32 jt_414 (by decide) ?_
        exact jw_ret (pc := 35) (v := (-9000000000000000001)) dX11_odds_35 (jw_qc _ rfl) rfl rfl
      · refine jw_iload_n (pc := 25) 3 dX11_odds_25 rfl ?_
        refine jw_callSz (pc := 26) (As := [jI a3]) (st := []) dX11_odds_26 rfl (Nat.le_of_ble_eq_true rfl) qX11_isHalf jt_733 jt_734 rfl rfl (Nat.le_of_ble_eq_true rfl) (kX11_isHalf G a3 ha3 M) (fun v2 hv2 => ?_)
        refine jw_if_ne (pc := 29) 36 dX11_odds_29 (by decide) (jw_bz hv2) (fun _ => ?_) (fun _ => ?_)
        · refine jw_ldc2 (pc := 32) (n := (-9000000000000000001)) dX11_odds_32 jt_414 (by decide) ?_
          exact jw_ret (pc := 35) (v := (-9000000000000000001)) dX11_odds_35 (jw_qc _ rfl) rfl rfl
        · refine jw_aloadR (pc := 36) 0 dX11_odds_36 rfl ?_
          refine jw_getR (pc := 37) (j := 7) rfl dX11_odds_37 jv_11 ji_11 (Or.inl jt_379) jg_0 jl_0 (by decide) (by decide) rfl jf_11_7 ?_
          refine jw_iload_n (pc := 40) 1 dX11_odds_40 rfl ?_
          refine jw_callVM (pc := 41) (As := [jI a1]) (st := []) dX11_odds_41 rfl (Nat.le_of_ble_eq_true rfl) qX5_mixRounds jt_1077 jt_1078 jt_1079 rfl rfl (Nat.le_of_ble_eq_true rfl) jv_5 rfl jg_123 jl_123 (by decide) (jw_ho jg_123 (by decide)) (kX5_mixRounds G a1 ha1 M) (fun M3 => ?_)
          refine jw_aloadR (pc := 44) 0 dX11_odds_44 rfl ?_
          refine jw_getR (pc := 45) (j := 7) rfl dX11_odds_45 jv_11 ji_11 (Or.inl jt_379) jg_0 jl_0 (by decide) (by decide) rfl jf_11_7 ?_
          refine jw_iload_n (pc := 48) 1 dX11_odds_48 rfl ?_
          refine jw_iload_n (pc := 49) 2 dX11_odds_49 rfl ?_
          refine jw_callVM (pc := 50) (As := [jI a1, jI a2]) (st := []) dX11_odds_50 rfl (Nat.le_of_ble_eq_true rfl) qX5_oddsFromValue jt_1089 jt_1090 jt_1091 rfl rfl (Nat.le_of_ble_eq_true rfl) jv_5 rfl jg_123 jl_123 (by decide) (jw_ho jg_123 (by decide)) (kX5_oddsFromValue G a1 a2 ha1 ha2 M3) (fun M4 => ?_)
          refine jw_aloadR (pc := 53) 0 dX11_odds_53 rfl ?_
          refine jw_getR (pc := 54) (j := 7) rfl dX11_odds_54 jv_11 ji_11 (Or.inl jt_379) jg_0 jl_0 (by decide) (by decide) rfl jf_11_7 ?_
          refine jw_getL (pc := 57) (j := 4) rfl dX11_odds_57 jv_5 ji_5 (Or.inr ⟨_, jt_340⟩) jg_123 jl_123 (by decide) (by decide) (jw_ho jg_123 (by decide)) rfl rfl (fun h5 => ?_)
          refine jw_aloadR (pc := 60) 0 dX11_odds_60 rfl ?_
          refine jw_getR (pc := 61) (j := 7) rfl dX11_odds_61 jv_11 ji_11 (Or.inl jt_379) jg_0 jl_0 (by decide) (by decide) rfl jf_11_7 ?_
          refine jw_getL (pc := 64) (j := 5) rfl dX11_odds_64 jv_5 ji_5 (Or.inr ⟨_, jt_342⟩) jg_123 jl_123 (by decide) (by decide) (jw_ho jg_123 (by decide)) rfl rfl (fun h6 => ?_)
          refine jw_iload_n (pc := 67) 3 dX11_odds_67 rfl ?_
          refine jw_callSl (pc := 68) (As := [jL (M4 123 4), jL (M4 123 5), jI a3]) (st := []) dX11_odds_68 rfl (Nat.le_of_ble_eq_true rfl) qX11_half jt_887 jt_888 rfl rfl (Nat.le_of_ble_eq_true rfl) (kX11_half G (M4 123 4) (M4 123 5) a3 h5 h6 ha3 M4) (fun v7 hv7 => ?_)
          exact jw_ret (pc := 71) (v := v7) dX11_odds_71 hv7 rfl rfl
theorem kX11_odds (G : jw_G) (a1 : Int) (a2 : Int) (a3 : Int) (ha1 : jw_r a1) (ha2 : jw_r a2) (ha3 : jw_r a3) (M : jw_M) : jw_Ct G YX11_odds (some .long) 3 0 0 true (fun q => q) yX11_odds [jR G 0, jI a1, jI a2, jI a3] M (fX11_odds a1 a2 a3 M) := jw_met (by decide) rfl rfl rfl (Nat.le_of_ble_eq_true rfl) (rX11_odds G a1 a2 a3 ha1 ha2 ha3 M)
abbrev YX11_arePair : jw_Y := (RX11, cX11_arePair, 3, 4, "arePair")
theorem qX11_arePair : jw_cy YX11_arePair (some .boolean) yX11_arePair 2 := ⟨by decide, jt_1103, jt_1, by decide, by decide +kernel⟩
theorem dX11_arePair_0 : decode cX11_arePair 0 = .ok (.aload_n 0, 1) := by decide +kernel
theorem dX11_arePair_1 : decode cX11_arePair 1 = .ok (.getfield 26, 3) := by decide +kernel
theorem dX11_arePair_4 : decode cX11_arePair 4 = .ok (.getfield 162, 3) := by decide +kernel
theorem dX11_arePair_7 : decode cX11_arePair 7 = .ok (.iload_n 1, 1) := by decide +kernel
theorem dX11_arePair_8 : decode cX11_arePair 8 = .ok (.invokevirtual 166, 3) := by decide +kernel
theorem dX11_arePair_11 : decode cX11_arePair 11 = .ok (.ifCond .eq 26, 3) := by decide +kernel
theorem dX11_arePair_14 : decode cX11_arePair 14 = .ok (.aload_n 0, 1) := by decide +kernel
theorem dX11_arePair_15 : decode cX11_arePair 15 = .ok (.getfield 26, 3) := by decide +kernel
theorem dX11_arePair_18 : decode cX11_arePair 18 = .ok (.getfield 162, 3) := by decide +kernel
theorem dX11_arePair_21 : decode cX11_arePair 21 = .ok (.iload_n 2, 1) := by decide +kernel
theorem dX11_arePair_22 : decode cX11_arePair 22 = .ok (.invokevirtual 166, 3) := by decide +kernel
theorem dX11_arePair_25 : decode cX11_arePair 25 = .ok (.ifCond .eq 12, 3) := by decide +kernel
theorem dX11_arePair_28 : decode cX11_arePair 28 = .ok (.iload_n 1, 1) := by decide +kernel
theorem dX11_arePair_29 : decode cX11_arePair 29 = .ok (.iload_n 2, 1) := by decide +kernel
theorem dX11_arePair_30 : decode cX11_arePair 30 = .ok (.if_icmp .eq 7, 3) := by decide +kernel
theorem dX11_arePair_33 : decode cX11_arePair 33 = .ok (.iconst 1, 1) := by decide +kernel
theorem dX11_arePair_34 : decode cX11_arePair 34 = .ok (.goto 4, 3) := by decide +kernel
theorem dX11_arePair_37 : decode cX11_arePair 37 = .ok (.iconst 0, 1) := by decide +kernel
theorem dX11_arePair_38 : decode cX11_arePair 38 = .ok (.ireturn, 1) := by decide +kernel
def fX11_arePair (a1 : Int) (a2 : Int) (M : jw_M) : Option Int :=
  Option.bind (fX10_isSeller (9 + 8) a1 M) (fun v1 => if v1 = 0 then (some 0) else (Option.bind (fX10_isSeller (9 + 8) a2 M) (fun v2 => if v2 = 0 then (some 0) else (if a1 = a2 then (some 0) else (some 1)))))
set_option maxRecDepth 100000 in
theorem rX11_arePair (G : jw_G) (a1 : Int) (a2 : Int) (ha1 : jw_r a1) (ha2 : jw_r a2) (M : jw_M) : jw_Rn G YX11_arePair 2 0 0 true (fun v => (v, M)) 0 [(0, jR G 0), (1, jI a1), (2, jI a2)] [] M (fX11_arePair a1 a2 M) := by
  unfold fX11_arePair
  refine jw_aloadR (pc := 0) 0 dX11_arePair_0 rfl ?_
  refine jw_getR (pc := 1) (j := 2) rfl dX11_arePair_1 jv_11 ji_11 (Or.inl jt_374) jg_0 jl_0 (by decide) (by decide) rfl jf_11_2 ?_
  refine jw_getR (pc := 4) (j := 2) rfl dX11_arePair_4 jv_7 ji_7 (Or.inr ⟨_, jt_269⟩) jg_9 jl_9 (by decide) (by decide) rfl (jf_7_2 jg_9).1 ?_
  refine jw_iload_n (pc := 7) 1 dX11_arePair_7 rfl ?_
  refine jw_callVz (pc := 8) (As := [jI a1]) (st := []) dX11_arePair_8 rfl (Nat.le_of_ble_eq_true rfl) qX10_isSeller jt_753 jt_754 jt_755 rfl rfl (Nat.le_of_ble_eq_true rfl) jv_10 rfl (jf_7_2 jg_9).2.1 (jf_7_2 jg_9).2.2 (by decide) (jw_ho (jf_7_2 jg_9).2.1 (by decide)) (kX10_isSeller G (9 + 8) a1 ha1 M) (fun v1 hv1 => ?_)
  refine jw_if_eq (pc := 11) 37 dX11_arePair_11 (by decide) (jw_bz hv1) (fun _ => ?_) (fun _ => ?_)
  · refine jw_iconst (pc := 37) dX11_arePair_37 ?_
    exact jw_ret (pc := 38) (v := 0) dX11_arePair_38 (Or.inl rfl) rfl rfl
  · refine jw_aloadR (pc := 14) 0 dX11_arePair_14 rfl ?_
    refine jw_getR (pc := 15) (j := 2) rfl dX11_arePair_15 jv_11 ji_11 (Or.inl jt_374) jg_0 jl_0 (by decide) (by decide) rfl jf_11_2 ?_
    refine jw_getR (pc := 18) (j := 2) rfl dX11_arePair_18 jv_7 ji_7 (Or.inr ⟨_, jt_269⟩) jg_9 jl_9 (by decide) (by decide) rfl (jf_7_2 jg_9).1 ?_
    refine jw_iload_n (pc := 21) 2 dX11_arePair_21 rfl ?_
    refine jw_callVz (pc := 22) (As := [jI a2]) (st := []) dX11_arePair_22 rfl (Nat.le_of_ble_eq_true rfl) qX10_isSeller jt_753 jt_754 jt_755 rfl rfl (Nat.le_of_ble_eq_true rfl) jv_10 rfl (jf_7_2 jg_9).2.1 (jf_7_2 jg_9).2.2 (by decide) (jw_ho (jf_7_2 jg_9).2.1 (by decide)) (kX10_isSeller G (9 + 8) a2 ha2 M) (fun v2 hv2 => ?_)
    refine jw_if_eq (pc := 25) 37 dX11_arePair_25 (by decide) (jw_bz hv2) (fun _ => ?_) (fun _ => ?_)
    · refine jw_iconst (pc := 37) dX11_arePair_37 ?_
      exact jw_ret (pc := 38) (v := 0) dX11_arePair_38 (Or.inl rfl) rfl rfl
    · refine jw_iload_n (pc := 28) 1 dX11_arePair_28 rfl ?_
      refine jw_iload_n (pc := 29) 2 dX11_arePair_29 rfl ?_
      refine jw_ic_eq (pc := 30) 37 dX11_arePair_30 (by decide) ha1 ha2 (fun _ => ?_) (fun _ => ?_)
      · refine jw_iconst (pc := 37) dX11_arePair_37 ?_
        exact jw_ret (pc := 38) (v := 0) dX11_arePair_38 (Or.inl rfl) rfl rfl
      · refine jw_iconst (pc := 33) dX11_arePair_33 ?_
        refine jw_goto (pc := 34) 38 dX11_arePair_34 (by decide) ?_
        exact jw_ret (pc := 38) (v := 1) dX11_arePair_38 (Or.inr rfl) rfl rfl
theorem kX11_arePair (G : jw_G) (a1 : Int) (a2 : Int) (ha1 : jw_r a1) (ha2 : jw_r a2) (M : jw_M) : jw_Ct G YX11_arePair (some .boolean) 2 0 0 true (fun v => (v, M)) yX11_arePair [jR G 0, jI a1, jI a2] M (fX11_arePair a1 a2 M) := jw_met (by decide) rfl rfl rfl (Nat.le_of_ble_eq_true rfl) (rX11_arePair G a1 a2 ha1 ha2 M)
abbrev YX11_owe : jw_Y := (RX11, cX11_owe, 4, 2, "owe")
theorem qX11_owe : jw_cy YX11_owe (some .long) yX11_owe 3 := ⟨by decide, jt_1099, jt_1, by decide, by decide +kernel⟩
theorem dX11_owe_0 : decode cX11_owe 0 = .ok (.aload_n 0, 1) := by decide +kernel
theorem dX11_owe_1 : decode cX11_owe 1 = .ok (.iload_n 1, 1) := by decide +kernel
theorem dX11_owe_2 : decode cX11_owe 2 = .ok (.iload_n 2, 1) := by decide +kernel
theorem dX11_owe_3 : decode cX11_owe 3 = .ok (.invokevirtual 340, 3) := by decide +kernel
theorem dX11_owe_6 : decode cX11_owe 6 = .ok (.ifCond .eq 15, 3) := by decide +kernel
theorem dX11_owe_9 : decode cX11_owe 9 = .ok (.iload_n 3, 1) := by decide +kernel
theorem dX11_owe_10 : decode cX11_owe 10 = .ok (.iconst 1, 1) := by decide +kernel
theorem dX11_owe_11 : decode cX11_owe 11 = .ok (.if_icmp .lt 10, 3) := by decide +kernel
theorem dX11_owe_14 : decode cX11_owe 14 = .ok (.iload_n 3, 1) := by decide +kernel
theorem dX11_owe_15 : decode cX11_owe 15 = .ok (.sipush 9999, 3) := by decide +kernel
theorem dX11_owe_18 : decode cX11_owe 18 = .ok (.if_icmp .le 7, 3) := by decide +kernel
theorem dX11_owe_21 : decode cX11_owe 21 = .ok (.ldc2_w 75, 3) := by decide +kernel
theorem dX11_owe_24 : decode cX11_owe 24 = .ok (.lreturn, 1) := by decide +kernel
theorem dX11_owe_25 : decode cX11_owe 25 = .ok (.aload_n 0, 1) := by decide +kernel
theorem dX11_owe_26 : decode cX11_owe 26 = .ok (.getfield 26, 3) := by decide +kernel
theorem dX11_owe_29 : decode cX11_owe 29 = .ok (.getfield 343, 3) := by decide +kernel
theorem dX11_owe_32 : decode cX11_owe 32 = .ok (.iload_n 1, 1) := by decide +kernel
theorem dX11_owe_33 : decode cX11_owe 33 = .ok (.iload_n 2, 1) := by decide +kernel
theorem dX11_owe_34 : decode cX11_owe 34 = .ok (.invokevirtual 347, 3) := by decide +kernel
theorem dX11_owe_37 : decode cX11_owe 37 = .ok (.iload_n 3, 1) := by decide +kernel
theorem dX11_owe_38 : decode cX11_owe 38 = .ok (.iadd, 1) := by decide +kernel
theorem dX11_owe_39 : decode cX11_owe 39 = .ok (.sipush 9999, 3) := by decide +kernel
theorem dX11_owe_42 : decode cX11_owe 42 = .ok (.if_icmp .le 7, 3) := by decide +kernel
theorem dX11_owe_45 : decode cX11_owe 45 = .ok (.ldc2_w 115, 3) := by decide +kernel
theorem dX11_owe_48 : decode cX11_owe 48 = .ok (.lreturn, 1) := by decide +kernel
theorem dX11_owe_49 : decode cX11_owe 49 = .ok (.aload_n 0, 1) := by decide +kernel
theorem dX11_owe_50 : decode cX11_owe 50 = .ok (.getfield 26, 3) := by decide +kernel
theorem dX11_owe_53 : decode cX11_owe 53 = .ok (.getfield 343, 3) := by decide +kernel
theorem dX11_owe_56 : decode cX11_owe 56 = .ok (.iload_n 1, 1) := by decide +kernel
theorem dX11_owe_57 : decode cX11_owe 57 = .ok (.iload_n 2, 1) := by decide +kernel
theorem dX11_owe_58 : decode cX11_owe 58 = .ok (.iload_n 3, 1) := by decide +kernel
theorem dX11_owe_59 : decode cX11_owe 59 = .ok (.invokevirtual 352, 3) := by decide +kernel
theorem dX11_owe_62 : decode cX11_owe 62 = .ok (.aload_n 0, 1) := by decide +kernel
theorem dX11_owe_63 : decode cX11_owe 63 = .ok (.getfield 26, 3) := by decide +kernel
theorem dX11_owe_66 : decode cX11_owe 66 = .ok (.getfield 343, 3) := by decide +kernel
theorem dX11_owe_69 : decode cX11_owe 69 = .ok (.iload_n 1, 1) := by decide +kernel
theorem dX11_owe_70 : decode cX11_owe 70 = .ok (.iload_n 2, 1) := by decide +kernel
theorem dX11_owe_71 : decode cX11_owe 71 = .ok (.invokevirtual 347, 3) := by decide +kernel
theorem dX11_owe_74 : decode cX11_owe 74 = .ok (.i2l, 1) := by decide +kernel
theorem dX11_owe_75 : decode cX11_owe 75 = .ok (.lreturn, 1) := by decide +kernel
def fX11_owe (a1 : Int) (a2 : Int) (a3 : Int) (M : jw_M) : Option (Int × jw_M) :=
  Option.bind (fX11_arePair a1 a2 M) (fun v1 => if v1 = 0 then (some ((-9000000000000000001), M)) else (if a3 < 1 then (some ((-9000000000000000001), M)) else (if (9999 : Int) < a3 then (some ((-9000000000000000001), M)) else (Option.bind (fX2_sumOf (9 + 24) a1 a2 M) (fun v2 => if (9999 : Int) < jw_w (v2 + a3) then (some ((-9000000000000000003), M)) else (Option.bind (fX2_change (9 + 24) a1 a2 a3 M) (fun M3 => Option.bind (fX2_sumOf (9 + 24) a1 a2 M3) (fun v4 => some (v4, M3)))))))))
set_option maxRecDepth 100000 in
theorem rX11_owe (G : jw_G) (a1 : Int) (a2 : Int) (a3 : Int) (ha1 : jw_r a1) (ha2 : jw_r a2) (ha3 : jw_r a3) (M : jw_M) : jw_Rn G YX11_owe 3 0 0 true (fun q => q) 0 [(0, jR G 0), (1, jI a1), (2, jI a2), (3, jI a3)] [] M (fX11_owe a1 a2 a3 M) := by
  unfold fX11_owe
  refine jw_aloadR (pc := 0) 0 dX11_owe_0 rfl ?_
  refine jw_iload_n (pc := 1) 1 dX11_owe_1 rfl ?_
  refine jw_iload_n (pc := 2) 2 dX11_owe_2 rfl ?_
  refine jw_callVz (pc := 3) (As := [jI a1, jI a2]) (st := []) dX11_owe_3 rfl (Nat.le_of_ble_eq_true rfl) qX11_arePair jt_1100 jt_1102 jp_35 rfl rfl (Nat.le_of_ble_eq_true rfl) jv_11 rfl jg_0 jl_0 (by decide) (jw_ho jg_0 (by decide)) (kX11_arePair G a1 a2 ha1 ha2 M) (fun v1 hv1 => ?_)
  refine jw_if_eq (pc := 6) 21 dX11_owe_6 (by decide) (jw_bz hv1) (fun _ => ?_) (fun _ => ?_)
  · refine jw_ldc2 (pc := 21) (n := (-9000000000000000001)) dX11_owe_21 jt_414 (by decide) ?_
    exact jw_ret (pc := 24) (v := (-9000000000000000001)) dX11_owe_24 (jw_qc _ rfl) rfl rfl
  · refine jw_iload_n (pc := 9) 3 dX11_owe_9 rfl ?_
    refine jw_iconst (pc := 10) dX11_owe_10 ?_
    refine jw_ic_lt (pc := 11) 21 dX11_owe_11 (by decide) ha3 (jw_rc _ rfl) (fun _ => ?_) (fun _ => ?_)
    · refine jw_ldc2 (pc := 21) (n := (-9000000000000000001)) dX11_owe_21 jt_414 (by decide) ?_
      exact jw_ret (pc := 24) (v := (-9000000000000000001)) dX11_owe_24 (jw_qc _ rfl) rfl rfl
    · refine jw_iload_n (pc := 14) 3 dX11_owe_14 rfl ?_
      refine jw_sipush (pc := 15) dX11_owe_15 rfl ?_
      refine jw_ic_le (pc := 18) 25 dX11_owe_18 (by decide) ha3 (jw_rc _ rfl) (fun _ => ?_) (fun _ => ?_)
      · refine jw_ldc2 (pc := 21) (n := (-9000000000000000001)) dX11_owe_21 jt_414 (by decide) ?_
        exact jw_ret (pc := 24) (v := (-9000000000000000001)) dX11_owe_24 (jw_qc _ rfl) rfl rfl
      · refine jw_aloadR (pc := 25) 0 dX11_owe_25 rfl ?_
        refine jw_getR (pc := 26) (j := 2) rfl dX11_owe_26 jv_11 ji_11 (Or.inl jt_374) jg_0 jl_0 (by decide) (by decide) rfl jf_11_2 ?_
        refine jw_getR (pc := 29) (j := 5) rfl dX11_owe_29 jv_7 ji_7 (Or.inr ⟨_, jt_279⟩) jg_9 jl_9 (by decide) (by decide) rfl (jf_7_5 jg_9).1 ?_
        refine jw_iload_n (pc := 32) 1 dX11_owe_32 rfl ?_
        refine jw_iload_n (pc := 33) 2 dX11_owe_33 rfl ?_
        refine jw_callVi (pc := 34) (As := [jI a1, jI a2]) (st := []) dX11_owe_34 rfl (Nat.le_of_ble_eq_true rfl) qX2_sumOf jt_1104 jt_1105 jt_1106 rfl rfl (Nat.le_of_ble_eq_true rfl) jv_2 rfl (jf_7_5 jg_9).2.1 (jf_7_5 jg_9).2.2 (by decide) (jw_ho (jf_7_5 jg_9).2.1 (by decide)) (kX2_sumOf G (9 + 24) a1 a2 ha1 ha2 M) (fun v2 hv2 => ?_)
        refine jw_iload_n (pc := 37) 3 dX11_owe_37 rfl ?_
        refine jw_iadd (pc := 38) dX11_owe_38 ?_
        refine jw_sipush (pc := 39) dX11_owe_39 rfl ?_
        refine jw_ic_le (pc := 42) 49 dX11_owe_42 (by decide) (jw_wr _) (jw_rc _ rfl) (fun _ => ?_) (fun _ => ?_)
        · refine jw_ldc2 (pc := 45) (n := (-9000000000000000003)) dX11_owe_45 jt_484 (by decide) ?_
          exact jw_ret (pc := 48) (v := (-9000000000000000003)) dX11_owe_48 (jw_qc _ rfl) rfl rfl
        · refine jw_aloadR (pc := 49) 0 dX11_owe_49 rfl ?_
          refine jw_getR (pc := 50) (j := 2) rfl dX11_owe_50 jv_11 ji_11 (Or.inl jt_374) jg_0 jl_0 (by decide) (by decide) rfl jf_11_2 ?_
          refine jw_getR (pc := 53) (j := 5) rfl dX11_owe_53 jv_7 ji_7 (Or.inr ⟨_, jt_279⟩) jg_9 jl_9 (by decide) (by decide) rfl (jf_7_5 jg_9).1 ?_
          refine jw_iload_n (pc := 56) 1 dX11_owe_56 rfl ?_
          refine jw_iload_n (pc := 57) 2 dX11_owe_57 rfl ?_
          refine jw_iload_n (pc := 58) 3 dX11_owe_58 rfl ?_
          refine jw_callVM (pc := 59) (As := [jI a1, jI a2, jI a3]) (st := []) dX11_owe_59 rfl (Nat.le_of_ble_eq_true rfl) qX2_change jt_1108 jt_1109 jt_1110 rfl rfl (Nat.le_of_ble_eq_true rfl) jv_2 rfl (jf_7_5 jg_9).2.1 (jf_7_5 jg_9).2.2 (by decide) (jw_ho (jf_7_5 jg_9).2.1 (by decide)) (kX2_change G (9 + 24) a1 a2 a3 ha1 ha2 ha3 M) (fun M3 => ?_)
          refine jw_aloadR (pc := 62) 0 dX11_owe_62 rfl ?_
          refine jw_getR (pc := 63) (j := 2) rfl dX11_owe_63 jv_11 ji_11 (Or.inl jt_374) jg_0 jl_0 (by decide) (by decide) rfl jf_11_2 ?_
          refine jw_getR (pc := 66) (j := 5) rfl dX11_owe_66 jv_7 ji_7 (Or.inr ⟨_, jt_279⟩) jg_9 jl_9 (by decide) (by decide) rfl (jf_7_5 jg_9).1 ?_
          refine jw_iload_n (pc := 69) 1 dX11_owe_69 rfl ?_
          refine jw_iload_n (pc := 70) 2 dX11_owe_70 rfl ?_
          refine jw_callVi (pc := 71) (As := [jI a1, jI a2]) (st := []) dX11_owe_71 rfl (Nat.le_of_ble_eq_true rfl) qX2_sumOf jt_1104 jt_1105 jt_1106 rfl rfl (Nat.le_of_ble_eq_true rfl) jv_2 rfl (jf_7_5 jg_9).2.1 (jf_7_5 jg_9).2.2 (by decide) (jw_ho (jf_7_5 jg_9).2.1 (by decide)) (kX2_sumOf G (9 + 24) a1 a2 ha1 ha2 M3) (fun v4 hv4 => ?_)
          refine jw_i2lr (pc := 74) dX11_owe_74 hv4 ?_
          exact jw_ret (pc := 75) (v := v4) dX11_owe_75 (jw_rq hv4) rfl rfl
theorem kX11_owe (G : jw_G) (a1 : Int) (a2 : Int) (a3 : Int) (ha1 : jw_r a1) (ha2 : jw_r a2) (ha3 : jw_r a3) (M : jw_M) : jw_Ct G YX11_owe (some .long) 3 0 0 true (fun q => q) yX11_owe [jR G 0, jI a1, jI a2, jI a3] M (fX11_owe a1 a2 a3 M) := jw_met (by decide) rfl rfl rfl (Nat.le_of_ble_eq_true rfl) (rX11_owe G a1 a2 a3 ha1 ha2 ha3 M)
abbrev YX11_owed : jw_Y := (RX11, cX11_owed, 3, 2, "owed")
theorem qX11_owed : jw_cy YX11_owed (some .long) yX11_owed 2 := ⟨by decide, jt_1115, jt_1, by decide, by decide +kernel⟩
theorem dX11_owed_0 : decode cX11_owed 0 = .ok (.aload_n 0, 1) := by decide +kernel
theorem dX11_owed_1 : decode cX11_owed 1 = .ok (.iload_n 1, 1) := by decide +kernel
theorem dX11_owed_2 : decode cX11_owed 2 = .ok (.iload_n 2, 1) := by decide +kernel
theorem dX11_owed_3 : decode cX11_owed 3 = .ok (.invokevirtual 340, 3) := by decide +kernel
theorem dX11_owed_6 : decode cX11_owed 6 = .ok (.ifCond .ne 7, 3) := by decide +kernel
theorem dX11_owed_9 : decode cX11_owed 9 = .ok (.ldc2_w 75, 3) := by decide +kernel
theorem dX11_owed_12 : decode cX11_owed 12 = .ok (.lreturn, 1) := by decide +kernel
theorem dX11_owed_13 : decode cX11_owed 13 = .ok (.aload_n 0, 1) := by decide +kernel
theorem dX11_owed_14 : decode cX11_owed 14 = .ok (.getfield 26, 3) := by decide +kernel
theorem dX11_owed_17 : decode cX11_owed 17 = .ok (.getfield 343, 3) := by decide +kernel
theorem dX11_owed_20 : decode cX11_owed 20 = .ok (.iload_n 1, 1) := by decide +kernel
theorem dX11_owed_21 : decode cX11_owed 21 = .ok (.iload_n 2, 1) := by decide +kernel
theorem dX11_owed_22 : decode cX11_owed 22 = .ok (.invokevirtual 347, 3) := by decide +kernel
theorem dX11_owed_25 : decode cX11_owed 25 = .ok (.i2l, 1) := by decide +kernel
theorem dX11_owed_26 : decode cX11_owed 26 = .ok (.lreturn, 1) := by decide +kernel
def fX11_owed (a1 : Int) (a2 : Int) (M : jw_M) : Option Int :=
  Option.bind (fX11_arePair a1 a2 M) (fun v1 => if v1 = 0 then (some (-9000000000000000001)) else (Option.bind (fX2_sumOf (9 + 24) a1 a2 M) (fun v2 => some v2)))
set_option maxRecDepth 100000 in
theorem rX11_owed (G : jw_G) (a1 : Int) (a2 : Int) (ha1 : jw_r a1) (ha2 : jw_r a2) (M : jw_M) : jw_Rn G YX11_owed 3 0 0 true (fun v => (v, M)) 0 [(0, jR G 0), (1, jI a1), (2, jI a2)] [] M (fX11_owed a1 a2 M) := by
  unfold fX11_owed
  refine jw_aloadR (pc := 0) 0 dX11_owed_0 rfl ?_
  refine jw_iload_n (pc := 1) 1 dX11_owed_1 rfl ?_
  refine jw_iload_n (pc := 2) 2 dX11_owed_2 rfl ?_
  refine jw_callVz (pc := 3) (As := [jI a1, jI a2]) (st := []) dX11_owed_3 rfl (Nat.le_of_ble_eq_true rfl) qX11_arePair jt_1100 jt_1102 jp_35 rfl rfl (Nat.le_of_ble_eq_true rfl) jv_11 rfl jg_0 jl_0 (by decide) (jw_ho jg_0 (by decide)) (kX11_arePair G a1 a2 ha1 ha2 M) (fun v1 hv1 => ?_)
  refine jw_if_ne (pc := 6) 13 dX11_owed_6 (by decide) (jw_bz hv1) (fun _ => ?_) (fun _ => ?_)
  · refine jw_ldc2 (pc := 9) (n := (-9000000000000000001)) dX11_owed_9 jt_414 (by decide) ?_
    exact jw_ret (pc := 12) (v := (-9000000000000000001)) dX11_owed_12 (jw_qc _ rfl) rfl rfl
  · refine jw_aloadR (pc := 13) 0 dX11_owed_13 rfl ?_
    refine jw_getR (pc := 14) (j := 2) rfl dX11_owed_14 jv_11 ji_11 (Or.inl jt_374) jg_0 jl_0 (by decide) (by decide) rfl jf_11_2 ?_
    refine jw_getR (pc := 17) (j := 5) rfl dX11_owed_17 jv_7 ji_7 (Or.inr ⟨_, jt_279⟩) jg_9 jl_9 (by decide) (by decide) rfl (jf_7_5 jg_9).1 ?_
    refine jw_iload_n (pc := 20) 1 dX11_owed_20 rfl ?_
    refine jw_iload_n (pc := 21) 2 dX11_owed_21 rfl ?_
    refine jw_callVi (pc := 22) (As := [jI a1, jI a2]) (st := []) dX11_owed_22 rfl (Nat.le_of_ble_eq_true rfl) qX2_sumOf jt_1104 jt_1105 jt_1106 rfl rfl (Nat.le_of_ble_eq_true rfl) jv_2 rfl (jf_7_5 jg_9).2.1 (jf_7_5 jg_9).2.2 (by decide) (jw_ho (jf_7_5 jg_9).2.1 (by decide)) (kX2_sumOf G (9 + 24) a1 a2 ha1 ha2 M) (fun v2 hv2 => ?_)
    refine jw_i2lr (pc := 25) dX11_owed_25 hv2 ?_
    exact jw_ret (pc := 26) (v := v2) dX11_owed_26 (jw_rq hv2) rfl rfl
theorem kX11_owed (G : jw_G) (a1 : Int) (a2 : Int) (ha1 : jw_r a1) (ha2 : jw_r a2) (M : jw_M) : jw_Ct G YX11_owed (some .long) 3 0 0 true (fun v => (v, M)) yX11_owed [jR G 0, jI a1, jI a2] M (fX11_owed a1 a2 M) := jw_met (by decide) rfl rfl rfl (Nat.le_of_ble_eq_true rfl) (rX11_owed G a1 a2 ha1 ha2 M)
abbrev YX11_passed : jw_Y := (RX11, cX11_passed, 1, 2, "passed")
theorem qX11_passed : jw_cy YX11_passed (some .long) yX11_passed 0 := ⟨by decide, jt_1119, jt_1, by decide, by decide +kernel⟩
theorem dX11_passed_0 : decode cX11_passed 0 = .ok (.aload_n 0, 1) := by decide +kernel
theorem dX11_passed_1 : decode cX11_passed 1 = .ok (.getfield 26, 3) := by decide +kernel
theorem dX11_passed_4 : decode cX11_passed 4 = .ok (.getfield 197, 3) := by decide +kernel
theorem dX11_passed_7 : decode cX11_passed 7 = .ok (.ifCond .ne 7, 3) := by decide +kernel
theorem dX11_passed_10 : decode cX11_passed 10 = .ok (.ldc2_w 201, 3) := by decide +kernel
theorem dX11_passed_13 : decode cX11_passed 13 = .ok (.lreturn, 1) := by decide +kernel
theorem dX11_passed_14 : decode cX11_passed 14 = .ok (.aload_n 0, 1) := by decide +kernel
theorem dX11_passed_15 : decode cX11_passed 15 = .ok (.getfield 26, 3) := by decide +kernel
theorem dX11_passed_18 : decode cX11_passed 18 = .ok (.getfield 343, 3) := by decide +kernel
theorem dX11_passed_21 : decode cX11_passed 21 = .ok (.aload_n 0, 1) := by decide +kernel
theorem dX11_passed_22 : decode cX11_passed 22 = .ok (.getfield 26, 3) := by decide +kernel
theorem dX11_passed_25 : decode cX11_passed 25 = .ok (.getfield 162, 3) := by decide +kernel
theorem dX11_passed_28 : decode cX11_passed 28 = .ok (.getfield 223, 3) := by decide +kernel
theorem dX11_passed_31 : decode cX11_passed 31 = .ok (.invokevirtual 355, 3) := by decide +kernel
theorem dX11_passed_34 : decode cX11_passed 34 = .ok (.i2l, 1) := by decide +kernel
theorem dX11_passed_35 : decode cX11_passed 35 = .ok (.lreturn, 1) := by decide +kernel
def fX11_passed (M : jw_M) : Option (Int × jw_M) :=
  if M 9 0 = 0 then (some ((-9000000000000000002), M)) else (jw_b2 (fX2_passRound (9 + 24) (M (9 + 8) 4) M) (fun v3 M4 => some (v3, M4)))
set_option maxRecDepth 100000 in
theorem rX11_passed (G : jw_G) (M : jw_M) : jw_Rn G YX11_passed 29 0 0 true (fun q => q) 0 [(0, jR G 0)] [] M (fX11_passed M) := by
  unfold fX11_passed
  refine jw_aloadR (pc := 0) 0 dX11_passed_0 rfl ?_
  refine jw_getR (pc := 1) (j := 2) rfl dX11_passed_1 jv_11 ji_11 (Or.inl jt_374) jg_0 jl_0 (by decide) (by decide) rfl jf_11_2 ?_
  refine jw_getI (pc := 4) (j := 0) rfl dX11_passed_4 jv_7 ji_7 (Or.inr ⟨_, jt_258⟩) jg_9 jl_9 (by decide) (by decide) (jw_ho jg_9 (by decide)) (Or.inr rfl) rfl (fun h1 => ?_)
  refine jw_if_ne (pc := 7) 14 dX11_passed_7 (by decide) h1 (fun _ => ?_) (fun _ => ?_)
  · refine jw_ldc2 (pc := 10) (n := (-9000000000000000002)) dX11_passed_10 jt_789 (by decide) ?_
    exact jw_ret (pc := 13) (v := (-9000000000000000002)) dX11_passed_13 (jw_qc _ rfl) rfl rfl
  · refine jw_aloadR (pc := 14) 0 dX11_passed_14 rfl ?_
    refine jw_getR (pc := 15) (j := 2) rfl dX11_passed_15 jv_11 ji_11 (Or.inl jt_374) jg_0 jl_0 (by decide) (by decide) rfl jf_11_2 ?_
    refine jw_getR (pc := 18) (j := 5) rfl dX11_passed_18 jv_7 ji_7 (Or.inr ⟨_, jt_279⟩) jg_9 jl_9 (by decide) (by decide) rfl (jf_7_5 jg_9).1 ?_
    refine jw_aloadR (pc := 21) 0 dX11_passed_21 rfl ?_
    refine jw_getR (pc := 22) (j := 2) rfl dX11_passed_22 jv_11 ji_11 (Or.inl jt_374) jg_0 jl_0 (by decide) (by decide) rfl jf_11_2 ?_
    refine jw_getR (pc := 25) (j := 2) rfl dX11_passed_25 jv_7 ji_7 (Or.inr ⟨_, jt_269⟩) jg_9 jl_9 (by decide) (by decide) rfl (jf_7_2 jg_9).1 ?_
    refine jw_getI (pc := 28) (j := 4) rfl dX11_passed_28 jv_10 ji_10 (Or.inr ⟨_, jt_155⟩) (jf_7_2 jg_9).2.1 (jf_7_2 jg_9).2.2 (by decide) (by decide) (jw_ho (jf_7_2 jg_9).2.1 (by decide)) (Or.inl rfl) rfl (fun h2 => ?_)
    refine jw_callVMi (pc := 31) (As := [jI (M (9 + 8) 4)]) (st := []) dX11_passed_31 rfl (Nat.le_of_ble_eq_true rfl) qX2_passRound jt_1120 jt_1121 jt_1122 rfl rfl (Nat.le_of_ble_eq_true rfl) jv_2 rfl (jf_7_5 jg_9).2.1 (jf_7_5 jg_9).2.2 (by decide) (jw_ho (jf_7_5 jg_9).2.1 (by decide)) (kX2_passRound G (9 + 24) (M (9 + 8) 4) h2 M) (fun v3 M4 hv3 => ?_)
    refine jw_i2lr (pc := 34) dX11_passed_34 hv3 ?_
    exact jw_ret (pc := 35) (v := v3) dX11_passed_35 (jw_rq hv3) rfl rfl
theorem kX11_passed (G : jw_G) (M : jw_M) : jw_Ct G YX11_passed (some .long) 29 0 0 true (fun q => q) yX11_passed [jR G 0] M (fX11_passed M) := jw_met (by decide) rfl rfl rfl (Nat.le_of_ble_eq_true rfl) (rX11_passed G M)
abbrev YX11_image : jw_Y := (RX11, cX11_image, 2, 2, "image")
theorem qX11_image : jw_cy YX11_image (some .long) yX11_image 1 := ⟨by decide, jt_1150, jt_1, by decide, by decide +kernel⟩
theorem dX11_image_0 : decode cX11_image 0 = .ok (.iload_n 1, 1) := by decide +kernel
theorem dX11_image_1 : decode cX11_image 1 = .ok (.ifCond .lt 8, 3) := by decide +kernel
theorem dX11_image_4 : decode cX11_image 4 = .ok (.iload_n 1, 1) := by decide +kernel
theorem dX11_image_5 : decode cX11_image 5 = .ok (.iconst 2, 1) := by decide +kernel
theorem dX11_image_6 : decode cX11_image 6 = .ok (.if_icmp .lt 7, 3) := by decide +kernel
theorem dX11_image_9 : decode cX11_image 9 = .ok (.ldc2_w 75, 3) := by decide +kernel
theorem dX11_image_12 : decode cX11_image 12 = .ok (.lreturn, 1) := by decide +kernel
theorem dX11_image_13 : decode cX11_image 13 = .ok (.aload_n 0, 1) := by decide +kernel
theorem dX11_image_14 : decode cX11_image 14 = .ok (.getfield 26, 3) := by decide +kernel
theorem dX11_image_17 : decode cX11_image 17 = .ok (.getfield 197, 3) := by decide +kernel
theorem dX11_image_20 : decode cX11_image 20 = .ok (.ifCond .ne 7, 3) := by decide +kernel
theorem dX11_image_23 : decode cX11_image 23 = .ok (.ldc2_w 201, 3) := by decide +kernel
theorem dX11_image_26 : decode cX11_image 26 = .ok (.lreturn, 1) := by decide +kernel
theorem dX11_image_27 : decode cX11_image 27 = .ok (.aload_n 0, 1) := by decide +kernel
theorem dX11_image_28 : decode cX11_image 28 = .ok (.getfield 33, 3) := by decide +kernel
theorem dX11_image_31 : decode cX11_image 31 = .ok (.iload_n 1, 1) := by decide +kernel
theorem dX11_image_32 : decode cX11_image 32 = .ok (.aaload, 1) := by decide +kernel
theorem dX11_image_33 : decode cX11_image 33 = .ok (.aload_n 0, 1) := by decide +kernel
theorem dX11_image_34 : decode cX11_image 34 = .ok (.getfield 26, 3) := by decide +kernel
theorem dX11_image_37 : decode cX11_image 37 = .ok (.invokevirtual 134, 3) := by decide +kernel
theorem dX11_image_40 : decode cX11_image 40 = .ok (.aload_n 0, 1) := by decide +kernel
theorem dX11_image_41 : decode cX11_image 41 = .ok (.getfield 37, 3) := by decide +kernel
theorem dX11_image_44 : decode cX11_image 44 = .ok (.iload_n 1, 1) := by decide +kernel
theorem dX11_image_45 : decode cX11_image 45 = .ok (.iconst 1, 1) := by decide +kernel
theorem dX11_image_46 : decode cX11_image 46 = .ok (.bastore, 1) := by decide +kernel
theorem dX11_image_47 : decode cX11_image 47 = .ok (.lconst 1, 1) := by decide +kernel
theorem dX11_image_48 : decode cX11_image 48 = .ok (.lreturn, 1) := by decide +kernel
def fX11_image (a1 : Int) (M : jw_M) : Option (Int × jw_M) :=
  if a1 < 0 then (some ((-9000000000000000001), M)) else (if a1 < 2 then (if M 9 0 = 0 then (some ((-9000000000000000002), M)) else (if 0 ≤ a1 ∧ a1 < 2 then if jw_tag (64 + 27 * (a1).toNat) = 7 then Option.bind (fX7_takeFrom (64 + 27 * (a1).toNat) 9 M) (fun M2 => if 0 ≤ a1 ∧ a1 < 2 then Option.bind (some (jw_up M2 118 a1 1)) (fun M3 => some (1, M3)) else none) else none else none)) else (some ((-9000000000000000001), M)))
set_option maxRecDepth 100000 in
theorem rX11_image (G : jw_G) (a1 : Int) (ha1 : jw_r a1) (M : jw_M) : jw_Rn G YX11_image 4 0 0 true (fun q => q) 0 [(0, jR G 0), (1, jI a1)] [] M (fX11_image a1 M) := by
  unfold fX11_image
  refine jw_iload_n (pc := 0) 1 dX11_image_0 rfl ?_
  refine jw_if_lt (pc := 1) 9 dX11_image_1 (by decide) ha1 (fun _ => ?_) (fun _ => ?_)
  · refine jw_ldc2 (pc := 9) (n := (-9000000000000000001)) dX11_image_9 jt_414 (by decide) ?_
    exact jw_ret (pc := 12) (v := (-9000000000000000001)) dX11_image_12 (jw_qc _ rfl) rfl rfl
  · refine jw_iload_n (pc := 4) 1 dX11_image_4 rfl ?_
    refine jw_iconst (pc := 5) dX11_image_5 ?_
    refine jw_ic_lt (pc := 6) 13 dX11_image_6 (by decide) ha1 (jw_rc _ rfl) (fun _ => ?_) (fun _ => ?_)
    · refine jw_aloadR (pc := 13) 0 dX11_image_13 rfl ?_
      refine jw_getR (pc := 14) (j := 2) rfl dX11_image_14 jv_11 ji_11 (Or.inl jt_374) jg_0 jl_0 (by decide) (by decide) rfl jf_11_2 ?_
      refine jw_getI (pc := 17) (j := 0) rfl dX11_image_17 jv_7 ji_7 (Or.inr ⟨_, jt_258⟩) jg_9 jl_9 (by decide) (by decide) (jw_ho jg_9 (by decide)) (Or.inr rfl) rfl (fun h1 => ?_)
      refine jw_if_ne (pc := 20) 27 dX11_image_20 (by decide) h1 (fun _ => ?_) (fun _ => ?_)
      · refine jw_ldc2 (pc := 23) (n := (-9000000000000000002)) dX11_image_23 jt_789 (by decide) ?_
        exact jw_ret (pc := 26) (v := (-9000000000000000002)) dX11_image_26 (jw_qc _ rfl) rfl rfl
      · refine jw_aloadR (pc := 27) 0 dX11_image_27 rfl ?_
        refine jw_getR (pc := 28) (j := 4) rfl dX11_image_28 jv_11 ji_11 (Or.inl jt_376) jg_0 jl_0 (by decide) (by decide) rfl jf_11_4 ?_
        refine jw_iload_n (pc := 31) 1 dX11_image_31 rfl ?_
        refine jw_aald (pc := 32) (64 + 27 * (a1).toNat) dX11_image_32 jg_63 jl_63 ha1 rfl jw_im1 ?_
        refine jw_ck (fun hi32 => ?_)
        refine jw_aloadR (pc := 33) 0 dX11_image_33 rfl ?_
        refine jw_getR (pc := 34) (j := 2) rfl dX11_image_34 jv_11 ji_11 (Or.inl jt_374) jg_0 jl_0 (by decide) (by decide) rfl jf_11_2 ?_
        refine jw_callVM (pc := 37) (As := [jR G 9]) (st := []) dX11_image_37 rfl (Nat.le_of_ble_eq_true rfl) qX7_takeFrom jt_692 jt_693 jt_694 rfl rfl (Nat.le_of_ble_eq_true rfl) jv_7 rfl hi32 (jn_7 hi32) (by decide) (jw_ho hi32 (by decide)) (kX7_takeFrom G (64 + 27 * (a1).toNat) 9 M) (fun M2 => ?_)
        refine jw_aloadR (pc := 40) 0 dX11_image_40 rfl ?_
        refine jw_getR (pc := 41) (j := 5) rfl dX11_image_41 jv_11 ji_11 (Or.inl jt_377) jg_0 jl_0 (by decide) (by decide) rfl jf_11_5 ?_
        refine jw_iload_n (pc := 44) 1 dX11_image_44 rfl ?_
        refine jw_iconst (pc := 45) dX11_image_45 ?_
        refine jw_zast (pc := 46) dX11_image_46 jg_118 jl_118 (jw_ho jg_118 (by decide)) ha1 (Or.inr rfl) rfl ?_
        refine jw_letM (fun M3 => ?_)
        refine jw_lconst (pc := 47) (z := 1) dX11_image_47 rfl ?_
        exact jw_ret (pc := 48) (v := 1) dX11_image_48 (jw_qc _ rfl) rfl rfl
    · refine jw_ldc2 (pc := 9) (n := (-9000000000000000001)) dX11_image_9 jt_414 (by decide) ?_
      exact jw_ret (pc := 12) (v := (-9000000000000000001)) dX11_image_12 (jw_qc _ rfl) rfl rfl
theorem kX11_image (G : jw_G) (a1 : Int) (ha1 : jw_r a1) (M : jw_M) : jw_Ct G YX11_image (some .long) 4 0 0 true (fun q => q) yX11_image [jR G 0, jI a1] M (fX11_image a1 M) := jw_met (by decide) rfl rfl rfl (Nat.le_of_ble_eq_true rfl) (rX11_image G a1 ha1 M)
