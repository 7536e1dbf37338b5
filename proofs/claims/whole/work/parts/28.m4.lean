abbrev YX12_owed : jw_Y := (RX12, cX12_owed, 3, 2, "owed")
theorem qX12_owed : jw_cy YX12_owed (some .long) yX12_owed 2 := ⟨by decide, jt_1697, jt_14, by decide, by decide +kernel⟩
theorem dX12_owed_0 : decode cX12_owed 0 = .ok (.aload_n 0, 1) := by decide +kernel
theorem dX12_owed_1 : decode cX12_owed 1 = .ok (.iconst 0, 1) := by decide +kernel
theorem dX12_owed_2 : decode cX12_owed 2 = .ok (.putfield 71, 3) := by decide +kernel
theorem dX12_owed_5 : decode cX12_owed 5 = .ok (.aload_n 0, 1) := by decide +kernel
theorem dX12_owed_6 : decode cX12_owed 6 = .ok (.iload_n 1, 1) := by decide +kernel
theorem dX12_owed_7 : decode cX12_owed 7 = .ok (.invokevirtual 229, 3) := by decide +kernel
theorem dX12_owed_10 : decode cX12_owed 10 = .ok (.ifCond .eq 26, 3) := by decide +kernel
theorem dX12_owed_13 : decode cX12_owed 13 = .ok (.aload_n 0, 1) := by decide +kernel
theorem dX12_owed_14 : decode cX12_owed 14 = .ok (.iload_n 2, 1) := by decide +kernel
theorem dX12_owed_15 : decode cX12_owed 15 = .ok (.invokevirtual 229, 3) := by decide +kernel
theorem dX12_owed_18 : decode cX12_owed 18 = .ok (.ifCond .eq 18, 3) := by decide +kernel
theorem dX12_owed_21 : decode cX12_owed 21 = .ok (.iload_n 1, 1) := by decide +kernel
theorem dX12_owed_22 : decode cX12_owed 22 = .ok (.iload_n 2, 1) := by decide +kernel
theorem dX12_owed_23 : decode cX12_owed 23 = .ok (.if_icmp .eq 13, 3) := by decide +kernel
theorem dX12_owed_26 : decode cX12_owed 26 = .ok (.aload_n 0, 1) := by decide +kernel
theorem dX12_owed_27 : decode cX12_owed 27 = .ok (.iload_n 1, 1) := by decide +kernel
theorem dX12_owed_28 : decode cX12_owed 28 = .ok (.iload_n 2, 1) := by decide +kernel
theorem dX12_owed_29 : decode cX12_owed 29 = .ok (.invokevirtual 340, 3) := by decide +kernel
theorem dX12_owed_32 : decode cX12_owed 32 = .ok (.i2l, 1) := by decide +kernel
theorem dX12_owed_33 : decode cX12_owed 33 = .ok (.goto 6, 3) := by decide +kernel
theorem dX12_owed_36 : decode cX12_owed 36 = .ok (.ldc2_w 92, 3) := by decide +kernel
theorem dX12_owed_39 : decode cX12_owed 39 = .ok (.lreturn, 1) := by decide +kernel
def fX12_owed (a1 : Int) (a2 : Int) (M : jw_M) : Option (Int × jw_M) :=
  Option.bind (some (jw_up M 127 0 0)) (fun M1 => Option.bind (fX12_isSeller a1 M1) (fun v2 => if v2 = 0 then (some ((-9000000000000000001), M1)) else (Option.bind (fX12_isSeller a2 M1) (fun v3 => if v3 = 0 then (some ((-9000000000000000001), M1)) else (if a1 = a2 then (some ((-9000000000000000001), M1)) else (Option.bind (fX12_owes a1 a2 M1) (fun v4 => some (v4, M1))))))))
set_option maxRecDepth 100000 in
theorem rX12_owed (G : jw_G) (a1 : Int) (a2 : Int) (ha1 : jw_r a1) (ha2 : jw_r a2) (M : jw_M) : jw_Rn G YX12_owed 3 0 0 true (fun q => q) 0 [(0, jR G 127), (1, jI a1), (2, jI a2)] [] M (fX12_owed a1 a2 M) := by
  unfold fX12_owed
  refine jw_aloadR (pc := 0) 0 dX12_owed_0 rfl ?_
  refine jw_iconst (pc := 1) dX12_owed_1 ?_
  refine jw_putI (pc := 2) (j := 0) tyX12 rfl dX12_owed_2 jv_12 ji_12 tyX12_ok nmX12 (Or.inl jt_1231) rfl jg_127 jl_127 (by decide) (by decide) (jw_ho jg_127 (by decide)) rfl rfl (jw_rc _ rfl) rfl ?_
  refine jw_letM (fun M1 => ?_)
  refine jw_aloadR (pc := 5) 0 dX12_owed_5 rfl ?_
  refine jw_iload_n (pc := 6) 1 dX12_owed_6 rfl ?_
  refine jw_callVz (pc := 7) (As := [jI a1]) (st := []) dX12_owed_7 rfl (Nat.le_of_ble_eq_true rfl) qX12_isSeller jt_1487 jt_1489 jp_64 rfl rfl (Nat.le_of_ble_eq_true rfl) jv_12 rfl jg_127 jl_127 (by decide) (jw_ho jg_127 (by decide)) (kX12_isSeller G a1 ha1 M1) (fun v2 hv2 => ?_)
  refine jw_if_eq (pc := 10) 36 dX12_owed_10 (by decide) (jw_bz hv2) (fun _ => ?_) (fun _ => ?_)
  · refine jw_ldc2 (pc := 36) (n := (-9000000000000000001)) dX12_owed_36 jt_1349 (by decide) ?_
    exact jw_ret (pc := 39) (v := (-9000000000000000001)) dX12_owed_39 (jw_qc _ rfl) rfl rfl
  · refine jw_aloadR (pc := 13) 0 dX12_owed_13 rfl ?_
    refine jw_iload_n (pc := 14) 2 dX12_owed_14 rfl ?_
    refine jw_callVz (pc := 15) (As := [jI a2]) (st := []) dX12_owed_15 rfl (Nat.le_of_ble_eq_true rfl) qX12_isSeller jt_1487 jt_1489 jp_64 rfl rfl (Nat.le_of_ble_eq_true rfl) jv_12 rfl jg_127 jl_127 (by decide) (jw_ho jg_127 (by decide)) (kX12_isSeller G a2 ha2 M1) (fun v3 hv3 => ?_)
    refine jw_if_eq (pc := 18) 36 dX12_owed_18 (by decide) (jw_bz hv3) (fun _ => ?_) (fun _ => ?_)
    · refine jw_ldc2 (pc := 36) (n := (-9000000000000000001)) dX12_owed_36 jt_1349 (by decide) ?_
      exact jw_ret (pc := 39) (v := (-9000000000000000001)) dX12_owed_39 (jw_qc _ rfl) rfl rfl
    · refine jw_iload_n (pc := 21) 1 dX12_owed_21 rfl ?_
      refine jw_iload_n (pc := 22) 2 dX12_owed_22 rfl ?_
      refine jw_ic_eq (pc := 23) 36 dX12_owed_23 (by decide) ha1 ha2 (fun _ => ?_) (fun _ => ?_)
      · refine jw_ldc2 (pc := 36) (n := (-9000000000000000001)) dX12_owed_36 jt_1349 (by decide) ?_
        exact jw_ret (pc := 39) (v := (-9000000000000000001)) dX12_owed_39 (jw_qc _ rfl) rfl rfl
      · refine jw_aloadR (pc := 26) 0 dX12_owed_26 rfl ?_
        refine jw_iload_n (pc := 27) 1 dX12_owed_27 rfl ?_
        refine jw_iload_n (pc := 28) 2 dX12_owed_28 rfl ?_
        refine jw_callVi (pc := 29) (As := [jI a1, jI a2]) (st := []) dX12_owed_29 rfl (Nat.le_of_ble_eq_true rfl) qX12_owes jt_1690 jt_1692 jp_90 rfl rfl (Nat.le_of_ble_eq_true rfl) jv_12 rfl jg_127 jl_127 (by decide) (jw_ho jg_127 (by decide)) (kX12_owes G a1 a2 ha1 ha2 M1) (fun v4 hv4 => ?_)
        refine jw_i2lr (pc := 32) dX12_owed_32 hv4 ?_
        refine jw_goto (pc := 33) 39 dX12_owed_33 (by decide) ?_
        exact jw_ret (pc := 39) (v := v4) dX12_owed_39 (jw_rq hv4) rfl rfl
theorem kX12_owed (G : jw_G) (a1 : Int) (a2 : Int) (ha1 : jw_r a1) (ha2 : jw_r a2) (M : jw_M) : jw_Ct G YX12_owed (some .long) 3 0 0 true (fun q => q) yX12_owed [jR G 127, jI a1, jI a2] M (fX12_owed a1 a2 M) := jw_met (by decide) rfl rfl rfl (Nat.le_of_ble_eq_true rfl) (rX12_owed G a1 a2 ha1 ha2 M)
abbrev YX12_layRing : jw_Y := (RX12, cX12_layRing, 7, 4, "layRing")
theorem qX12_layRing : jw_cy YX12_layRing (some .boolean) yX12_layRing 2 := ⟨by decide, jt_1709, jt_14, by decide, by decide +kernel⟩
theorem dX12_layRing_0 : decode cX12_layRing 0 = .ok (.iload_n 1, 1) := by decide +kernel
theorem dX12_layRing_1 : decode cX12_layRing 1 = .ok (.istore_n 3, 1) := by decide +kernel
theorem dX12_layRing_2 : decode cX12_layRing 2 = .ok (.iload_n 2, 1) := by decide +kernel
theorem dX12_layRing_3 : decode cX12_layRing 3 = .ok (.iconst 1, 1) := by decide +kernel
theorem dX12_layRing_4 : decode cX12_layRing 4 = .ok (.isub, 1) := by decide +kernel
theorem dX12_layRing_5 : decode cX12_layRing 5 = .ok (.istore 4, 2) := by decide +kernel
theorem dX12_layRing_7 : decode cX12_layRing 7 = .ok (.iload 4, 2) := by decide +kernel
theorem dX12_layRing_9 : decode cX12_layRing 9 = .ok (.ifCond .lt 23, 3) := by decide +kernel
theorem dX12_layRing_12 : decode cX12_layRing 12 = .ok (.aload_n 0, 1) := by decide +kernel
theorem dX12_layRing_13 : decode cX12_layRing 13 = .ok (.getfield 55, 3) := by decide +kernel
theorem dX12_layRing_16 : decode cX12_layRing 16 = .ok (.iload 4, 2) := by decide +kernel
theorem dX12_layRing_18 : decode cX12_layRing 18 = .ok (.iload_n 3, 1) := by decide +kernel
theorem dX12_layRing_19 : decode cX12_layRing 19 = .ok (.iconst 5, 1) := by decide +kernel
theorem dX12_layRing_20 : decode cX12_layRing 20 = .ok (.irem, 1) := by decide +kernel
theorem dX12_layRing_21 : decode cX12_layRing 21 = .ok (.iastore, 1) := by decide +kernel
theorem dX12_layRing_22 : decode cX12_layRing 22 = .ok (.iload_n 3, 1) := by decide +kernel
theorem dX12_layRing_23 : decode cX12_layRing 23 = .ok (.iconst 5, 1) := by decide +kernel
theorem dX12_layRing_24 : decode cX12_layRing 24 = .ok (.idiv, 1) := by decide +kernel
theorem dX12_layRing_25 : decode cX12_layRing 25 = .ok (.istore_n 3, 1) := by decide +kernel
theorem dX12_layRing_26 : decode cX12_layRing 26 = .ok (.iinc 4 (-1), 3) := by decide +kernel
theorem dX12_layRing_29 : decode cX12_layRing 29 = .ok (.goto (-22), 3) := by decide +kernel
theorem dX12_layRing_32 : decode cX12_layRing 32 = .ok (.iconst 0, 1) := by decide +kernel
theorem dX12_layRing_33 : decode cX12_layRing 33 = .ok (.istore 4, 2) := by decide +kernel
theorem dX12_layRing_35 : decode cX12_layRing 35 = .ok (.iconst 1, 1) := by decide +kernel
theorem dX12_layRing_36 : decode cX12_layRing 36 = .ok (.istore 5, 2) := by decide +kernel
theorem dX12_layRing_38 : decode cX12_layRing 38 = .ok (.iconst 0, 1) := by decide +kernel
theorem dX12_layRing_39 : decode cX12_layRing 39 = .ok (.istore 6, 2) := by decide +kernel
theorem dX12_layRing_41 : decode cX12_layRing 41 = .ok (.iload 6, 2) := by decide +kernel
theorem dX12_layRing_43 : decode cX12_layRing 43 = .ok (.iload_n 2, 1) := by decide +kernel
theorem dX12_layRing_44 : decode cX12_layRing 44 = .ok (.if_icmp .ge 91, 3) := by decide +kernel
theorem dX12_layRing_47 : decode cX12_layRing 47 = .ok (.iload 5, 2) := by decide +kernel
theorem dX12_layRing_49 : decode cX12_layRing 49 = .ok (.ifCond .eq 86, 3) := by decide +kernel
theorem dX12_layRing_52 : decode cX12_layRing 52 = .ok (.iload 4, 2) := by decide +kernel
theorem dX12_layRing_54 : decode cX12_layRing 54 = .ok (.aload_n 0, 1) := by decide +kernel
theorem dX12_layRing_55 : decode cX12_layRing 55 = .ok (.getfield 55, 3) := by decide +kernel
theorem dX12_layRing_58 : decode cX12_layRing 58 = .ok (.iload 6, 2) := by decide +kernel
theorem dX12_layRing_60 : decode cX12_layRing 60 = .ok (.iaload, 1) := by decide +kernel
theorem dX12_layRing_61 : decode cX12_layRing 61 = .ok (.ishr, 1) := by decide +kernel
theorem dX12_layRing_62 : decode cX12_layRing 62 = .ok (.iconst 1, 1) := by decide +kernel
theorem dX12_layRing_63 : decode cX12_layRing 63 = .ok (.iand, 1) := by decide +kernel
theorem dX12_layRing_64 : decode cX12_layRing 64 = .ok (.ifCond .ne 48, 3) := by decide +kernel
theorem dX12_layRing_67 : decode cX12_layRing 67 = .ok (.aload_n 0, 1) := by decide +kernel
theorem dX12_layRing_68 : decode cX12_layRing 68 = .ok (.getfield 55, 3) := by decide +kernel
theorem dX12_layRing_71 : decode cX12_layRing 71 = .ok (.iload 6, 2) := by decide +kernel
theorem dX12_layRing_73 : decode cX12_layRing 73 = .ok (.iaload, 1) := by decide +kernel
theorem dX12_layRing_74 : decode cX12_layRing 74 = .ok (.aload_n 0, 1) := by decide +kernel
theorem dX12_layRing_75 : decode cX12_layRing 75 = .ok (.getfield 55, 3) := by decide +kernel
theorem dX12_layRing_78 : decode cX12_layRing 78 = .ok (.iconst 0, 1) := by decide +kernel
theorem dX12_layRing_79 : decode cX12_layRing 79 = .ok (.iaload, 1) := by decide +kernel
theorem dX12_layRing_80 : decode cX12_layRing 80 = .ok (.if_icmp .lt 32, 3) := by decide +kernel
theorem dX12_layRing_83 : decode cX12_layRing 83 = .ok (.aload_n 0, 1) := by decide +kernel
theorem dX12_layRing_84 : decode cX12_layRing 84 = .ok (.aload_n 0, 1) := by decide +kernel
theorem dX12_layRing_85 : decode cX12_layRing 85 = .ok (.getfield 55, 3) := by decide +kernel
theorem dX12_layRing_88 : decode cX12_layRing 88 = .ok (.iload 6, 2) := by decide +kernel
theorem dX12_layRing_90 : decode cX12_layRing 90 = .ok (.iaload, 1) := by decide +kernel
theorem dX12_layRing_91 : decode cX12_layRing 91 = .ok (.aload_n 0, 1) := by decide +kernel
theorem dX12_layRing_92 : decode cX12_layRing 92 = .ok (.getfield 55, 3) := by decide +kernel
theorem dX12_layRing_95 : decode cX12_layRing 95 = .ok (.iload 6, 2) := by decide +kernel
theorem dX12_layRing_97 : decode cX12_layRing 97 = .ok (.iconst 1, 1) := by decide +kernel
theorem dX12_layRing_98 : decode cX12_layRing 98 = .ok (.iadd, 1) := by decide +kernel
theorem dX12_layRing_99 : decode cX12_layRing 99 = .ok (.iload_n 2, 1) := by decide +kernel
theorem dX12_layRing_100 : decode cX12_layRing 100 = .ok (.irem, 1) := by decide +kernel
theorem dX12_layRing_101 : decode cX12_layRing 101 = .ok (.iaload, 1) := by decide +kernel
theorem dX12_layRing_102 : decode cX12_layRing 102 = .ok (.invokevirtual 340, 3) := by decide +kernel
theorem dX12_layRing_105 : decode cX12_layRing 105 = .ok (.ifCond .le 7, 3) := by decide +kernel
theorem dX12_layRing_108 : decode cX12_layRing 108 = .ok (.iconst 1, 1) := by decide +kernel
theorem dX12_layRing_109 : decode cX12_layRing 109 = .ok (.goto 4, 3) := by decide +kernel
theorem dX12_layRing_112 : decode cX12_layRing 112 = .ok (.iconst 0, 1) := by decide +kernel
theorem dX12_layRing_113 : decode cX12_layRing 113 = .ok (.istore 5, 2) := by decide +kernel
theorem dX12_layRing_115 : decode cX12_layRing 115 = .ok (.iload 4, 2) := by decide +kernel
theorem dX12_layRing_117 : decode cX12_layRing 117 = .ok (.iconst 1, 1) := by decide +kernel
theorem dX12_layRing_118 : decode cX12_layRing 118 = .ok (.aload_n 0, 1) := by decide +kernel
theorem dX12_layRing_119 : decode cX12_layRing 119 = .ok (.getfield 55, 3) := by decide +kernel
theorem dX12_layRing_122 : decode cX12_layRing 122 = .ok (.iload 6, 2) := by decide +kernel
theorem dX12_layRing_124 : decode cX12_layRing 124 = .ok (.iaload, 1) := by decide +kernel
theorem dX12_layRing_125 : decode cX12_layRing 125 = .ok (.ishl, 1) := by decide +kernel
theorem dX12_layRing_126 : decode cX12_layRing 126 = .ok (.ior, 1) := by decide +kernel
theorem dX12_layRing_127 : decode cX12_layRing 127 = .ok (.istore 4, 2) := by decide +kernel
theorem dX12_layRing_129 : decode cX12_layRing 129 = .ok (.iinc 6 1, 3) := by decide +kernel
theorem dX12_layRing_132 : decode cX12_layRing 132 = .ok (.goto (-91), 3) := by decide +kernel
theorem dX12_layRing_135 : decode cX12_layRing 135 = .ok (.iload 5, 2) := by decide +kernel
theorem dX12_layRing_137 : decode cX12_layRing 137 = .ok (.ireturn, 1) := by decide +kernel
def fX12_layRing_113 (r41 : Int → Int → Int → Int → jw_M → Option (Int × jw_M)) (x2 : Int) (x4 : Int) (x6 : Int) (xs0 : Int) (M : jw_M) : Option (Int × jw_M) :=
  Option.bind (some xs0) (fun v10 => if 0 ≤ x6 ∧ x6 < 5 then Option.bind (some (jw_ior x4 (jw_ishl 1 (M 143 x6)))) (fun v12 => Option.bind (some (jw_w (x6 + 1))) (fun v13 => r41 x2 v12 v10 v13 M)) else none)
set_option maxRecDepth 100000 in
theorem pX12_layRing_113 (G : jw_G) (r41 : Int → Int → Int → Int → jw_M → Option (Int × jw_M)) (hr41 : ∀ (x2 : Int) (x4 : Int) (x5 : Int) (x6 : Int) (hx2 : jw_r x2) (hx4 : jw_r x4) (hx5 : jw_r x5) (hx6 : jw_r x6) (M : jw_M), jw_Rn G YX12_layRing 2 0 0 true (fun q => q) 41 [(0, jR G 127), (2, jI x2), (4, jI x4), (5, jI x5), (6, jI x6)] [] M (r41 x2 x4 x5 x6 M)) : ∀ (x2 : Int) (x4 : Int) (x6 : Int) (xs0 : Int) (hx2 : jw_r x2) (hx4 : jw_r x4) (hx6 : jw_r x6) (hxs0 : jw_r xs0) (M : jw_M), jw_Rn G YX12_layRing 2 0 0 true (fun q => q) 113 [(0, jR G 127), (2, jI x2), (4, jI x4), (6, jI x6)] [jI xs0] M (fX12_layRing_113 r41 x2 x4 x6 xs0 M) := by
  intro x2 x4 x6 xs0 hx2 hx4 hx6 hxs0 M
  unfold fX12_layRing_113
  refine jw_istoreL (pc := 113) (lv' := (fun y => [(5, y), (0, jR G 127), (2, jI x2), (4, jI x4), (6, jI x6)])) dX12_layRing_113 hxs0 (by decide) (fun _ => rfl) (fun v10 hv10 => ?_)
  refine jw_iload (pc := 115) 3 dX12_layRing_115 rfl ?_
  refine jw_iconst (pc := 117) dX12_layRing_117 ?_
  refine jw_aloadR (pc := 118) 1 dX12_layRing_118 rfl ?_
  refine jw_getR (pc := 119) (j := 29) rfl dX12_layRing_119 jv_12 ji_12 (Or.inl jt_1260) jg_127 jl_127 (by decide) (by decide) rfl jf_12_29 ?_
  refine jw_iload (pc := 122) 4 dX12_layRing_122 rfl ?_
  refine jw_iald (pc := 124) dX12_layRing_124 jg_143 jl_143 (jw_ho jg_143 (by decide)) hx6 rfl (fun h11 => ?_)
  refine jw_ishlr (pc := 125) dX12_layRing_125 ?_
  refine jw_iorr (pc := 126) dX12_layRing_126 ?_
  refine jw_istoreL (pc := 127) (lv' := (fun y => [(4, y), (5, jI v10), (0, jR G 127), (2, jI x2), (6, jI x6)])) dX12_layRing_127 (jw_rI _) (by decide) (fun _ => rfl) (fun v12 hv12 => ?_)
  refine jw_iincL (pc := 129) 4 (lv' := (fun y => [(6, y), (4, jI v12), (5, jI v10), (0, jR G 127), (2, jI x2)])) dX12_layRing_129 rfl (Nat.le_of_ble_eq_true rfl) (fun _ => rfl) (fun v13 hv13 => ?_)
  refine jw_goto (pc := 132) 41 dX12_layRing_132 (by decide) ?_
  exact jw_few [3, 4, 1, 2, 0] rfl (hr41 x2 v12 v10 v13 hx2 hv12 hv10 hv13 M)
def fX12_layRing_112 (r41 : Int → Int → Int → Int → jw_M → Option (Int × jw_M)) (x2 : Int) (x4 : Int) (x6 : Int) (M : jw_M) : Option (Int × jw_M) :=
  fX12_layRing_113 r41 x2 x4 x6 0 M
set_option maxRecDepth 100000 in
theorem pX12_layRing_112 (G : jw_G) (r41 : Int → Int → Int → Int → jw_M → Option (Int × jw_M)) (hr41 : ∀ (x2 : Int) (x4 : Int) (x5 : Int) (x6 : Int) (hx2 : jw_r x2) (hx4 : jw_r x4) (hx5 : jw_r x5) (hx6 : jw_r x6) (M : jw_M), jw_Rn G YX12_layRing 2 0 0 true (fun q => q) 41 [(0, jR G 127), (2, jI x2), (4, jI x4), (5, jI x5), (6, jI x6)] [] M (r41 x2 x4 x5 x6 M)) : ∀ (x2 : Int) (x4 : Int) (x6 : Int) (hx2 : jw_r x2) (hx4 : jw_r x4) (hx6 : jw_r x6) (M : jw_M), jw_Rn G YX12_layRing 2 0 0 true (fun q => q) 112 [(0, jR G 127), (2, jI x2), (4, jI x4), (6, jI x6)] [] M (fX12_layRing_112 r41 x2 x4 x6 M) := by
  intro x2 x4 x6 hx2 hx4 hx6 M
  unfold fX12_layRing_112
  refine jw_iconst (pc := 112) dX12_layRing_112 ?_
  exact jw_few [0, 1, 2, 3] rfl (pX12_layRing_113 G r41 hr41 x2 x4 x6 0 hx2 hx4 hx6 (jw_rc _ rfl) M)
def fX12_layRing_41 : Nat → Int → Int → Int → Int → jw_M → Option (Int × jw_M)
  | 0, _, _, _, _, _ => none
  | k + 1, x2, x4, x5, x6, M => if x6 < x2 then (if x5 = 0 then (if x5 = 0 ∨ x5 = 1 then some (x5, M) else none) else (if 0 ≤ x6 ∧ x6 < 5 then if jw_iand (jw_ishr x4 (M 143 x6)) 1 = 0 then (if 0 ≤ x6 ∧ x6 < 5 then if 0 ≤ (0 : Int) ∧ (0 : Int) < 5 then if M 143 x6 < M 143 0 then (fX12_layRing_112 (fX12_layRing_41 k) x2 x4 x6 M) else (if 0 ≤ x6 ∧ x6 < 5 then if x2 ≠ 0 then if 0 ≤ jw_w (Int.tmod (jw_w (x6 + 1)) x2) ∧ jw_w (Int.tmod (jw_w (x6 + 1)) x2) < 5 then Option.bind (fX12_owes (M 143 x6) (M 143 (jw_w (Int.tmod (jw_w (x6 + 1)) x2))) M) (fun v16 => if (0 : Int) < v16 then (fX12_layRing_113 (fX12_layRing_41 k) x2 x4 x6 1 M) else (fX12_layRing_112 (fX12_layRing_41 k) x2 x4 x6 M)) else none else none else none) else none else none) else (fX12_layRing_112 (fX12_layRing_41 k) x2 x4 x6 M) else none)) else (if x5 = 0 ∨ x5 = 1 then some (x5, M) else none)
set_option maxRecDepth 100000 in
theorem pX12_layRing_41 (G : jw_G) : ∀ (k : Nat) (x2 : Int) (x4 : Int) (x5 : Int) (x6 : Int) (hx2 : jw_r x2) (hx4 : jw_r x4) (hx5 : jw_r x5) (hx6 : jw_r x6) (M : jw_M), jw_Rn G YX12_layRing 2 0 0 true (fun q => q) 41 [(0, jR G 127), (2, jI x2), (4, jI x4), (5, jI x5), (6, jI x6)] [] M (fX12_layRing_41 k x2 x4 x5 x6 M) := by
  intro k
  induction k with
  | zero =>
    intro x2 x4 x5 x6 hx2 hx4 hx5 hx6 M
    exact jw_none
  | succ k ih =>
    intro x2 x4 x5 x6 hx2 hx4 hx5 hx6 M
    rw [fX12_layRing_41]
    refine jw_iload (pc := 41) 4 dX12_layRing_41 rfl ?_
    refine jw_iload_n (pc := 43) 1 dX12_layRing_43 rfl ?_
    refine jw_ic_ge (pc := 44) 135 dX12_layRing_44 (by decide) hx6 hx2 (fun _ => ?_) (fun _ => ?_)
    · refine jw_iload (pc := 47) 3 dX12_layRing_47 rfl ?_
      refine jw_if_eq (pc := 49) 135 dX12_layRing_49 (by decide) hx5 (fun _ => ?_) (fun _ => ?_)
      · refine jw_iload (pc := 135) 3 dX12_layRing_135 rfl ?_
        refine jw_ck (fun h6 => ?_)
        exact jw_ret (pc := 137) (v := x5) dX12_layRing_137 h6 rfl rfl
      · refine jw_iload (pc := 52) 2 dX12_layRing_52 rfl ?_
        refine jw_aloadR (pc := 54) 0 dX12_layRing_54 rfl ?_
        refine jw_getR (pc := 55) (j := 29) rfl dX12_layRing_55 jv_12 ji_12 (Or.inl jt_1260) jg_127 jl_127 (by decide) (by decide) rfl jf_12_29 ?_
        refine jw_iload (pc := 58) 4 dX12_layRing_58 rfl ?_
        refine jw_iald (pc := 60) dX12_layRing_60 jg_143 jl_143 (jw_ho jg_143 (by decide)) hx6 rfl (fun h7 => ?_)
        refine jw_ishrr (pc := 61) dX12_layRing_61 ?_
        refine jw_iconst (pc := 62) dX12_layRing_62 ?_
        refine jw_iandr (pc := 63) dX12_layRing_63 ?_
        refine jw_if_ne (pc := 64) 112 dX12_layRing_64 (by decide) (jw_rI _) (fun _ => ?_) (fun _ => ?_)
        · refine jw_aloadR (pc := 67) 0 dX12_layRing_67 rfl ?_
          refine jw_getR (pc := 68) (j := 29) rfl dX12_layRing_68 jv_12 ji_12 (Or.inl jt_1260) jg_127 jl_127 (by decide) (by decide) rfl jf_12_29 ?_
          refine jw_iload (pc := 71) 4 dX12_layRing_71 rfl ?_
          refine jw_iald (pc := 73) dX12_layRing_73 jg_143 jl_143 (jw_ho jg_143 (by decide)) hx6 rfl (fun h8 => ?_)
          refine jw_aloadR (pc := 74) 0 dX12_layRing_74 rfl ?_
          refine jw_getR (pc := 75) (j := 29) rfl dX12_layRing_75 jv_12 ji_12 (Or.inl jt_1260) jg_127 jl_127 (by decide) (by decide) rfl jf_12_29 ?_
          refine jw_iconst (pc := 78) dX12_layRing_78 ?_
          refine jw_iald (pc := 79) dX12_layRing_79 jg_143 jl_143 (jw_ho jg_143 (by decide)) (jw_rc _ rfl) rfl (fun h9 => ?_)
          refine jw_ic_lt (pc := 80) 112 dX12_layRing_80 (by decide) h8 h9 (fun _ => ?_) (fun _ => ?_)
          · exact jw_few [0, 1, 2, 4] rfl (pX12_layRing_112 G (fX12_layRing_41 k) ih x2 x4 x6 hx2 hx4 hx6 M)
          · refine jw_aloadR (pc := 83) 0 dX12_layRing_83 rfl ?_
            refine jw_aloadR (pc := 84) 0 dX12_layRing_84 rfl ?_
            refine jw_getR (pc := 85) (j := 29) rfl dX12_layRing_85 jv_12 ji_12 (Or.inl jt_1260) jg_127 jl_127 (by decide) (by decide) rfl jf_12_29 ?_
            refine jw_iload (pc := 88) 4 dX12_layRing_88 rfl ?_
            refine jw_iald (pc := 90) dX12_layRing_90 jg_143 jl_143 (jw_ho jg_143 (by decide)) hx6 rfl (fun h14 => ?_)
            refine jw_aloadR (pc := 91) 0 dX12_layRing_91 rfl ?_
            refine jw_getR (pc := 92) (j := 29) rfl dX12_layRing_92 jv_12 ji_12 (Or.inl jt_1260) jg_127 jl_127 (by decide) (by decide) rfl jf_12_29 ?_
            refine jw_iload (pc := 95) 4 dX12_layRing_95 rfl ?_
            refine jw_iconst (pc := 97) dX12_layRing_97 ?_
            refine jw_iadd (pc := 98) dX12_layRing_98 ?_
            refine jw_iload_n (pc := 99) 1 dX12_layRing_99 rfl ?_
            refine jw_irem (pc := 100) dX12_layRing_100 (jw_wr _) hx2 ?_
            refine jw_iald (pc := 101) dX12_layRing_101 jg_143 jl_143 (jw_ho jg_143 (by decide)) (jw_wr _) rfl (fun h15 => ?_)
            refine jw_callVi (pc := 102) (As := [jI (M 143 x6), jI (M 143 (jw_w (Int.tmod (jw_w (x6 + 1)) x2)))]) (st := []) dX12_layRing_102 rfl (Nat.le_of_ble_eq_true rfl) qX12_owes jt_1690 jt_1692 jp_90 rfl rfl (Nat.le_of_ble_eq_true rfl) jv_12 rfl jg_127 jl_127 (by decide) (jw_ho jg_127 (by decide)) (kX12_owes G (M 143 x6) (M 143 (jw_w (Int.tmod (jw_w (x6 + 1)) x2))) h14 h15 M) (fun v16 hv16 => ?_)
            refine jw_if_le (pc := 105) 112 dX12_layRing_105 (by decide) hv16 (fun _ => ?_) (fun _ => ?_)
            · refine jw_iconst (pc := 108) dX12_layRing_108 ?_
              refine jw_goto (pc := 109) 113 dX12_layRing_109 (by decide) ?_
              exact jw_few [0, 1, 2, 4] rfl (pX12_layRing_113 G (fX12_layRing_41 k) ih x2 x4 x6 1 hx2 hx4 hx6 (jw_rc _ rfl) M)
            · exact jw_few [0, 1, 2, 4] rfl (pX12_layRing_112 G (fX12_layRing_41 k) ih x2 x4 x6 hx2 hx4 hx6 M)
        · exact jw_few [0, 1, 2, 4] rfl (pX12_layRing_112 G (fX12_layRing_41 k) ih x2 x4 x6 hx2 hx4 hx6 M)
    · refine jw_iload (pc := 135) 3 dX12_layRing_135 rfl ?_
      refine jw_ck (fun h17 => ?_)
      exact jw_ret (pc := 137) (v := x5) dX12_layRing_137 h17 rfl rfl
def fX12_layRing_7 : Nat → Int → Int → Int → jw_M → Option (Int × jw_M)
  | 0, _, _, _, _ => none
  | k + 1, x2, x3, x4, M => if x4 < 0 then (Option.bind (some 0) (fun v3 => Option.bind (some 1) (fun v4 => Option.bind (some 0) (fun v5 => fX12_layRing_41 jw_fu x2 v3 v4 v5 M)))) else (if (5 : Int) ≠ 0 then if 0 ≤ x4 ∧ x4 < 5 then Option.bind (some (jw_up M 143 x4 (jw_w (Int.tmod x3 5)))) (fun M18 => if (5 : Int) ≠ 0 then Option.bind (some (jw_w (Int.tdiv x3 5))) (fun v19 => Option.bind (some (jw_w (x4 + (-1)))) (fun v20 => fX12_layRing_7 k x2 v19 v20 M18)) else none) else none else none)
set_option maxRecDepth 100000 in
theorem pX12_layRing_7 (G : jw_G) : ∀ (k : Nat) (x2 : Int) (x3 : Int) (x4 : Int) (hx2 : jw_r x2) (hx3 : jw_r x3) (hx4 : jw_r x4) (M : jw_M), jw_Rn G YX12_layRing 2 0 0 true (fun q => q) 7 [(0, jR G 127), (2, jI x2), (3, jI x3), (4, jI x4)] [] M (fX12_layRing_7 k x2 x3 x4 M) := by
  intro k
  induction k with
  | zero =>
    intro x2 x3 x4 hx2 hx3 hx4 M
    exact jw_none
  | succ k ih =>
    intro x2 x3 x4 hx2 hx3 hx4 M
    rw [fX12_layRing_7]
    refine jw_iload (pc := 7) 3 dX12_layRing_7 rfl ?_
    refine jw_if_lt (pc := 9) 32 dX12_layRing_9 (by decide) hx4 (fun _ => ?_) (fun _ => ?_)
    · refine jw_iconst (pc := 32) dX12_layRing_32 ?_
      refine jw_istoreL (pc := 33) (lv' := (fun y => [(4, y), (0, jR G 127), (2, jI x2), (3, jI x3)])) dX12_layRing_33 (jw_rc _ rfl) (by decide) (fun _ => rfl) (fun v3 hv3 => ?_)
      refine jw_iconst (pc := 35) dX12_layRing_35 ?_
      refine jw_istoreL (pc := 36) (lv' := (fun y => [(5, y), (4, jI v3), (0, jR G 127), (2, jI x2), (3, jI x3)])) dX12_layRing_36 (jw_rc _ rfl) (by decide) (fun _ => rfl) (fun v4 hv4 => ?_)
      refine jw_iconst (pc := 38) dX12_layRing_38 ?_
      refine jw_istoreL (pc := 39) (lv' := (fun y => [(6, y), (5, jI v4), (4, jI v3), (0, jR G 127), (2, jI x2), (3, jI x3)])) dX12_layRing_39 (jw_rc _ rfl) (by decide) (fun _ => rfl) (fun v5 hv5 => ?_)
      exact jw_few [3, 4, 2, 1, 0] rfl (pX12_layRing_41 G jw_fu x2 v3 v4 v5 hx2 hv3 hv4 hv5 M)
    · refine jw_aloadR (pc := 12) 0 dX12_layRing_12 rfl ?_
      refine jw_getR (pc := 13) (j := 29) rfl dX12_layRing_13 jv_12 ji_12 (Or.inl jt_1260) jg_127 jl_127 (by decide) (by decide) rfl jf_12_29 ?_
      refine jw_iload (pc := 16) 3 dX12_layRing_16 rfl ?_
      refine jw_iload_n (pc := 18) 2 dX12_layRing_18 rfl ?_
      refine jw_iconst (pc := 19) dX12_layRing_19 ?_
      refine jw_irem (pc := 20) dX12_layRing_20 hx3 (jw_rc _ rfl) ?_
      refine jw_iast (pc := 21) dX12_layRing_21 jg_143 jl_143 (jw_ho jg_143 (by decide)) hx4 (jw_wr _) rfl ?_
      refine jw_letM (fun M18 => ?_)
      refine jw_iload_n (pc := 22) 2 dX12_layRing_22 rfl ?_
      refine jw_iconst (pc := 23) dX12_layRing_23 ?_
      refine jw_idiv (pc := 24) dX12_layRing_24 hx3 (jw_rc _ rfl) ?_
      refine jw_istore_nL (pc := 25) (lv' := (fun y => [(3, y), (0, jR G 127), (2, jI x2), (4, jI x4)])) dX12_layRing_25 (jw_wr _) (by decide) (fun _ => rfl) (fun v19 hv19 => ?_)
      refine jw_iincL (pc := 26) 3 (lv' := (fun y => [(4, y), (3, jI v19), (0, jR G 127), (2, jI x2)])) dX12_layRing_26 rfl (Nat.le_of_ble_eq_true rfl) (fun _ => rfl) (fun v20 hv20 => ?_)
      refine jw_goto (pc := 29) 7 dX12_layRing_29 (by decide) ?_
      exact jw_few [2, 3, 1, 0] rfl (ih x2 v19 v20 hx2 hv19 hv20 M18)
def fX12_layRing (a1 : Int) (a2 : Int) (M : jw_M) : Option (Int × jw_M) :=
  Option.bind (some a1) (fun v1 => Option.bind (some (jw_w (a2 - 1))) (fun v2 => fX12_layRing_7 jw_fu a2 v1 v2 M))
set_option maxRecDepth 100000 in
theorem rX12_layRing (G : jw_G) (a1 : Int) (a2 : Int) (ha1 : jw_r a1) (ha2 : jw_r a2) (M : jw_M) : jw_Rn G YX12_layRing 2 0 0 true (fun q => q) 0 [(0, jR G 127), (1, jI a1), (2, jI a2)] [] M (fX12_layRing a1 a2 M) := by
  unfold fX12_layRing
  refine jw_iload_n (pc := 0) 1 dX12_layRing_0 rfl ?_
  refine jw_istore_nL (pc := 1) (lv' := (fun y => [(3, y), (0, jR G 127), (1, jI a1), (2, jI a2)])) dX12_layRing_1 ha1 (by decide) (fun _ => rfl) (fun v1 hv1 => ?_)
  refine jw_iload_n (pc := 2) 3 dX12_layRing_2 rfl ?_
  refine jw_iconst (pc := 3) dX12_layRing_3 ?_
  refine jw_isub (pc := 4) dX12_layRing_4 ?_
  refine jw_istoreL (pc := 5) (lv' := (fun y => [(4, y), (3, jI v1), (0, jR G 127), (1, jI a1), (2, jI a2)])) dX12_layRing_5 (jw_wr _) (by decide) (fun _ => rfl) (fun v2 hv2 => ?_)
  exact jw_few [2, 4, 1, 0] rfl (pX12_layRing_7 G jw_fu a2 v1 v2 ha2 hv1 hv2 M)
theorem kX12_layRing (G : jw_G) (a1 : Int) (a2 : Int) (ha1 : jw_r a1) (ha2 : jw_r a2) (M : jw_M) : jw_Ct G YX12_layRing (some .boolean) 2 0 0 true (fun q => q) yX12_layRing [jR G 127, jI a1, jI a2] M (fX12_layRing a1 a2 M) := jw_met (by decide) rfl rfl rfl (Nat.le_of_ble_eq_true rfl) (rX12_layRing G a1 a2 ha1 ha2 M)
abbrev YX12_takesRing : jw_Y := (RX12, cX12_takesRing, 7, 4, "takesRing")
theorem qX12_takesRing : jw_cy YX12_takesRing (some .boolean) yX12_takesRing 0 := ⟨by decide, jt_1705, jt_14, by decide, by decide +kernel⟩
theorem dX12_takesRing_0 : decode cX12_takesRing 0 = .ok (.iconst 5, 1) := by decide +kernel
theorem dX12_takesRing_1 : decode cX12_takesRing 1 = .ok (.istore_n 1, 1) := by decide +kernel
theorem dX12_takesRing_2 : decode cX12_takesRing 2 = .ok (.iconst 2, 1) := by decide +kernel
theorem dX12_takesRing_3 : decode cX12_takesRing 3 = .ok (.istore_n 2, 1) := by decide +kernel
theorem dX12_takesRing_4 : decode cX12_takesRing 4 = .ok (.iload_n 2, 1) := by decide +kernel
theorem dX12_takesRing_5 : decode cX12_takesRing 5 = .ok (.aload_n 0, 1) := by decide +kernel
theorem dX12_takesRing_6 : decode cX12_takesRing 6 = .ok (.getfield 19, 3) := by decide +kernel
theorem dX12_takesRing_9 : decode cX12_takesRing 9 = .ok (.iconst 3, 1) := by decide +kernel
theorem dX12_takesRing_10 : decode cX12_takesRing 10 = .ok (.iaload, 1) := by decide +kernel
theorem dX12_takesRing_11 : decode cX12_takesRing 11 = .ok (.if_icmp .gt 146, 3) := by decide +kernel
theorem dX12_takesRing_14 : decode cX12_takesRing 14 = .ok (.iload_n 1, 1) := by decide +kernel
theorem dX12_takesRing_15 : decode cX12_takesRing 15 = .ok (.iconst 5, 1) := by decide +kernel
theorem dX12_takesRing_16 : decode cX12_takesRing 16 = .ok (.imul, 1) := by decide +kernel
theorem dX12_takesRing_17 : decode cX12_takesRing 17 = .ok (.istore_n 1, 1) := by decide +kernel
theorem dX12_takesRing_18 : decode cX12_takesRing 18 = .ok (.iconst 0, 1) := by decide +kernel
theorem dX12_takesRing_19 : decode cX12_takesRing 19 = .ok (.istore_n 3, 1) := by decide +kernel
theorem dX12_takesRing_20 : decode cX12_takesRing 20 = .ok (.iload_n 3, 1) := by decide +kernel
theorem dX12_takesRing_21 : decode cX12_takesRing 21 = .ok (.iload_n 1, 1) := by decide +kernel
theorem dX12_takesRing_22 : decode cX12_takesRing 22 = .ok (.if_icmp .ge 129, 3) := by decide +kernel
theorem dX12_takesRing_25 : decode cX12_takesRing 25 = .ok (.aload_n 0, 1) := by decide +kernel
theorem dX12_takesRing_26 : decode cX12_takesRing 26 = .ok (.iload_n 3, 1) := by decide +kernel
theorem dX12_takesRing_27 : decode cX12_takesRing 27 = .ok (.iload_n 2, 1) := by decide +kernel
theorem dX12_takesRing_28 : decode cX12_takesRing 28 = .ok (.invokevirtual 343, 3) := by decide +kernel
theorem dX12_takesRing_31 : decode cX12_takesRing 31 = .ok (.ifCond .eq 114, 3) := by decide +kernel
theorem dX12_takesRing_34 : decode cX12_takesRing 34 = .ok (.sipush 9999, 3) := by decide +kernel
theorem dX12_takesRing_37 : decode cX12_takesRing 37 = .ok (.istore 4, 2) := by decide +kernel
theorem dX12_takesRing_39 : decode cX12_takesRing 39 = .ok (.iconst 0, 1) := by decide +kernel
theorem dX12_takesRing_40 : decode cX12_takesRing 40 = .ok (.istore 5, 2) := by decide +kernel
theorem dX12_takesRing_42 : decode cX12_takesRing 42 = .ok (.iload 5, 2) := by decide +kernel
theorem dX12_takesRing_44 : decode cX12_takesRing 44 = .ok (.iload_n 2, 1) := by decide +kernel
theorem dX12_takesRing_45 : decode cX12_takesRing 45 = .ok (.if_icmp .ge 49, 3) := by decide +kernel
theorem dX12_takesRing_48 : decode cX12_takesRing 48 = .ok (.aload_n 0, 1) := by decide +kernel
theorem dX12_takesRing_49 : decode cX12_takesRing 49 = .ok (.aload_n 0, 1) := by decide +kernel
theorem dX12_takesRing_50 : decode cX12_takesRing 50 = .ok (.getfield 55, 3) := by decide +kernel
theorem dX12_takesRing_53 : decode cX12_takesRing 53 = .ok (.iload 5, 2) := by decide +kernel
theorem dX12_takesRing_55 : decode cX12_takesRing 55 = .ok (.iaload, 1) := by decide +kernel
theorem dX12_takesRing_56 : decode cX12_takesRing 56 = .ok (.aload_n 0, 1) := by decide +kernel
theorem dX12_takesRing_57 : decode cX12_takesRing 57 = .ok (.getfield 55, 3) := by decide +kernel
theorem dX12_takesRing_60 : decode cX12_takesRing 60 = .ok (.iload 5, 2) := by decide +kernel
theorem dX12_takesRing_62 : decode cX12_takesRing 62 = .ok (.iconst 1, 1) := by decide +kernel
theorem dX12_takesRing_63 : decode cX12_takesRing 63 = .ok (.iadd, 1) := by decide +kernel
theorem dX12_takesRing_64 : decode cX12_takesRing 64 = .ok (.iload_n 2, 1) := by decide +kernel
theorem dX12_takesRing_65 : decode cX12_takesRing 65 = .ok (.irem, 1) := by decide +kernel
theorem dX12_takesRing_66 : decode cX12_takesRing 66 = .ok (.iaload, 1) := by decide +kernel
theorem dX12_takesRing_67 : decode cX12_takesRing 67 = .ok (.invokevirtual 340, 3) := by decide +kernel
theorem dX12_takesRing_70 : decode cX12_takesRing 70 = .ok (.istore 6, 2) := by decide +kernel
theorem dX12_takesRing_72 : decode cX12_takesRing 72 = .ok (.iload 6, 2) := by decide +kernel
theorem dX12_takesRing_74 : decode cX12_takesRing 74 = .ok (.iload 4, 2) := by decide +kernel
theorem dX12_takesRing_76 : decode cX12_takesRing 76 = .ok (.if_icmp .ge 8, 3) := by decide +kernel
theorem dX12_takesRing_79 : decode cX12_takesRing 79 = .ok (.iload 6, 2) := by decide +kernel
theorem dX12_takesRing_81 : decode cX12_takesRing 81 = .ok (.goto 5, 3) := by decide +kernel
theorem dX12_takesRing_84 : decode cX12_takesRing 84 = .ok (.iload 4, 2) := by decide +kernel
theorem dX12_takesRing_86 : decode cX12_takesRing 86 = .ok (.istore 4, 2) := by decide +kernel
theorem dX12_takesRing_88 : decode cX12_takesRing 88 = .ok (.iinc 5 1, 3) := by decide +kernel
theorem dX12_takesRing_91 : decode cX12_takesRing 91 = .ok (.goto (-49), 3) := by decide +kernel
theorem dX12_takesRing_94 : decode cX12_takesRing 94 = .ok (.iconst 0, 1) := by decide +kernel
theorem dX12_takesRing_95 : decode cX12_takesRing 95 = .ok (.istore 5, 2) := by decide +kernel
theorem dX12_takesRing_97 : decode cX12_takesRing 97 = .ok (.iload 5, 2) := by decide +kernel
theorem dX12_takesRing_99 : decode cX12_takesRing 99 = .ok (.iload_n 2, 1) := by decide +kernel
theorem dX12_takesRing_100 : decode cX12_takesRing 100 = .ok (.if_icmp .ge 43, 3) := by decide +kernel
theorem dX12_takesRing_103 : decode cX12_takesRing 103 = .ok (.aload_n 0, 1) := by decide +kernel
theorem dX12_takesRing_104 : decode cX12_takesRing 104 = .ok (.getfield 25, 3) := by decide +kernel
theorem dX12_takesRing_107 : decode cX12_takesRing 107 = .ok (.bipush 79, 2) := by decide +kernel
theorem dX12_takesRing_109 : decode cX12_takesRing 109 = .ok (.iconst 5, 1) := by decide +kernel
theorem dX12_takesRing_110 : decode cX12_takesRing 110 = .ok (.aload_n 0, 1) := by decide +kernel
theorem dX12_takesRing_111 : decode cX12_takesRing 111 = .ok (.getfield 55, 3) := by decide +kernel
theorem dX12_takesRing_114 : decode cX12_takesRing 114 = .ok (.iload 5, 2) := by decide +kernel
theorem dX12_takesRing_116 : decode cX12_takesRing 116 = .ok (.iaload, 1) := by decide +kernel
theorem dX12_takesRing_117 : decode cX12_takesRing 117 = .ok (.imul, 1) := by decide +kernel
theorem dX12_takesRing_118 : decode cX12_takesRing 118 = .ok (.iadd, 1) := by decide +kernel
theorem dX12_takesRing_119 : decode cX12_takesRing 119 = .ok (.aload_n 0, 1) := by decide +kernel
theorem dX12_takesRing_120 : decode cX12_takesRing 120 = .ok (.getfield 55, 3) := by decide +kernel
theorem dX12_takesRing_123 : decode cX12_takesRing 123 = .ok (.iload 5, 2) := by decide +kernel
theorem dX12_takesRing_125 : decode cX12_takesRing 125 = .ok (.iconst 1, 1) := by decide +kernel
theorem dX12_takesRing_126 : decode cX12_takesRing 126 = .ok (.iadd, 1) := by decide +kernel
theorem dX12_takesRing_127 : decode cX12_takesRing 127 = .ok (.iload_n 2, 1) := by decide +kernel
theorem dX12_takesRing_128 : decode cX12_takesRing 128 = .ok (.irem, 1) := by decide +kernel
theorem dX12_takesRing_129 : decode cX12_takesRing 129 = .ok (.iaload, 1) := by decide +kernel
theorem dX12_takesRing_130 : decode cX12_takesRing 130 = .ok (.iadd, 1) := by decide +kernel
theorem dX12_takesRing_131 : decode cX12_takesRing 131 = .ok (.dup2, 1) := by decide +kernel
theorem dX12_takesRing_132 : decode cX12_takesRing 132 = .ok (.iaload, 1) := by decide +kernel
theorem dX12_takesRing_133 : decode cX12_takesRing 133 = .ok (.iload 4, 2) := by decide +kernel
theorem dX12_takesRing_135 : decode cX12_takesRing 135 = .ok (.isub, 1) := by decide +kernel
theorem dX12_takesRing_136 : decode cX12_takesRing 136 = .ok (.iastore, 1) := by decide +kernel
theorem dX12_takesRing_137 : decode cX12_takesRing 137 = .ok (.iinc 5 1, 3) := by decide +kernel
theorem dX12_takesRing_140 : decode cX12_takesRing 140 = .ok (.goto (-43), 3) := by decide +kernel
theorem dX12_takesRing_143 : decode cX12_takesRing 143 = .ok (.iconst 1, 1) := by decide +kernel
theorem dX12_takesRing_144 : decode cX12_takesRing 144 = .ok (.ireturn, 1) := by decide +kernel
theorem dX12_takesRing_145 : decode cX12_takesRing 145 = .ok (.iinc 3 1, 3) := by decide +kernel
theorem dX12_takesRing_148 : decode cX12_takesRing 148 = .ok (.goto (-128), 3) := by decide +kernel
theorem dX12_takesRing_151 : decode cX12_takesRing 151 = .ok (.iinc 2 1, 3) := by decide +kernel
theorem dX12_takesRing_154 : decode cX12_takesRing 154 = .ok (.goto (-150), 3) := by decide +kernel
theorem dX12_takesRing_157 : decode cX12_takesRing 157 = .ok (.iconst 0, 1) := by decide +kernel
theorem dX12_takesRing_158 : decode cX12_takesRing 158 = .ok (.ireturn, 1) := by decide +kernel
def fX12_takesRing_86 (r42 : Int → Int → Int → jw_M → Option (Int × jw_M)) (x2 : Int) (x5 : Int) (xs0 : Int) (M : jw_M) : Option (Int × jw_M) :=
  Option.bind (some xs0) (fun v15 => Option.bind (some (jw_w (x5 + 1))) (fun v16 => r42 x2 v15 v16 M))
set_option maxRecDepth 100000 in
theorem pX12_takesRing_86 (G : jw_G) (r42 : Int → Int → Int → jw_M → Option (Int × jw_M)) (hr42 : ∀ (x2 : Int) (x4 : Int) (x5 : Int) (hx2 : jw_r x2) (hx4 : jw_r x4) (hx5 : jw_r x5) (M : jw_M), jw_Rn G YX12_takesRing 3 0 0 true (fun q => q) 42 [(0, jR G 127), (2, jI x2), (4, jI x4), (5, jI x5)] [] M (r42 x2 x4 x5 M)) : ∀ (x2 : Int) (x5 : Int) (xs0 : Int) (hx2 : jw_r x2) (hx5 : jw_r x5) (hxs0 : jw_r xs0) (M : jw_M), jw_Rn G YX12_takesRing 3 0 0 true (fun q => q) 86 [(0, jR G 127), (2, jI x2), (5, jI x5)] [jI xs0] M (fX12_takesRing_86 r42 x2 x5 xs0 M) := by
  intro x2 x5 xs0 hx2 hx5 hxs0 M
  unfold fX12_takesRing_86
  refine jw_istoreL (pc := 86) (lv' := (fun y => [(4, y), (0, jR G 127), (2, jI x2), (5, jI x5)])) dX12_takesRing_86 hxs0 (by decide) (fun _ => rfl) (fun v15 hv15 => ?_)
  refine jw_iincL (pc := 88) 3 (lv' := (fun y => [(5, y), (4, jI v15), (0, jR G 127), (2, jI x2)])) dX12_takesRing_88 rfl (Nat.le_of_ble_eq_true rfl) (fun _ => rfl) (fun v16 hv16 => ?_)
  refine jw_goto (pc := 91) 42 dX12_takesRing_91 (by decide) ?_
  exact jw_few [2, 3, 1, 0] rfl (hr42 x2 v15 v16 hx2 hv15 hv16 M)
def fX12_takesRing_97 : Nat → Int → Int → Int → jw_M → Option (Int × jw_M)
  | 0, _, _, _, _ => none
  | k + 1, x2, x4, x5, M => if x5 < x2 then (if 0 ≤ x5 ∧ x5 < 5 then if x2 ≠ 0 then if 0 ≤ jw_w (Int.tmod (jw_w (x5 + 1)) x2) ∧ jw_w (Int.tmod (jw_w (x5 + 1)) x2) < 5 then if 0 ≤ jw_w ((jw_w (79 + (jw_w (5 * (M 143 x5))))) + (M 143 (jw_w (Int.tmod (jw_w (x5 + 1)) x2)))) ∧ jw_w ((jw_w (79 + (jw_w (5 * (M 143 x5))))) + (M 143 (jw_w (Int.tmod (jw_w (x5 + 1)) x2)))) < 104 then if 0 ≤ jw_w ((jw_w (79 + (jw_w (5 * (M 143 x5))))) + (M 143 (jw_w (Int.tmod (jw_w (x5 + 1)) x2)))) ∧ jw_w ((jw_w (79 + (jw_w (5 * (M 143 x5))))) + (M 143 (jw_w (Int.tmod (jw_w (x5 + 1)) x2)))) < 104 then Option.bind (some (jw_up M 133 (jw_w ((jw_w (79 + (jw_w (5 * (M 143 x5))))) + (M 143 (jw_w (Int.tmod (jw_w (x5 + 1)) x2))))) (jw_w ((M 133 (jw_w ((jw_w (79 + (jw_w (5 * (M 143 x5))))) + (M 143 (jw_w (Int.tmod (jw_w (x5 + 1)) x2)))))) - x4)))) (fun M21 => Option.bind (some (jw_w (x5 + 1))) (fun v22 => fX12_takesRing_97 k x2 x4 v22 M21)) else none else none else none else none else none) else (some (1, M))
set_option maxRecDepth 100000 in
theorem pX12_takesRing_97 (G : jw_G) : ∀ (k : Nat) (x2 : Int) (x4 : Int) (x5 : Int) (hx2 : jw_r x2) (hx4 : jw_r x4) (hx5 : jw_r x5) (M : jw_M), jw_Rn G YX12_takesRing 3 0 0 true (fun q => q) 97 [(0, jR G 127), (2, jI x2), (4, jI x4), (5, jI x5)] [] M (fX12_takesRing_97 k x2 x4 x5 M) := by
  intro k
  induction k with
  | zero =>
    intro x2 x4 x5 hx2 hx4 hx5 M
    exact jw_none
  | succ k ih =>
    intro x2 x4 x5 hx2 hx4 hx5 M
    rw [fX12_takesRing_97]
    refine jw_iload (pc := 97) 3 dX12_takesRing_97 rfl ?_
    refine jw_iload_n (pc := 99) 1 dX12_takesRing_99 rfl ?_
    refine jw_ic_ge (pc := 100) 143 dX12_takesRing_100 (by decide) hx5 hx2 (fun _ => ?_) (fun _ => ?_)
    · refine jw_aloadR (pc := 103) 0 dX12_takesRing_103 rfl ?_
      refine jw_getR (pc := 104) (j := 8) rfl dX12_takesRing_104 jv_12 ji_12 (Or.inl jt_1239) jg_127 jl_127 (by decide) (by decide) rfl jf_12_8 ?_
      refine jw_bipush (pc := 107) dX12_takesRing_107 rfl ?_
      refine jw_iconst (pc := 109) dX12_takesRing_109 ?_
      refine jw_aloadR (pc := 110) 0 dX12_takesRing_110 rfl ?_
      refine jw_getR (pc := 111) (j := 29) rfl dX12_takesRing_111 jv_12 ji_12 (Or.inl jt_1260) jg_127 jl_127 (by decide) (by decide) rfl jf_12_29 ?_
      refine jw_iload (pc := 114) 3 dX12_takesRing_114 rfl ?_
      refine jw_iald (pc := 116) dX12_takesRing_116 jg_143 jl_143 (jw_ho jg_143 (by decide)) hx5 rfl (fun h18 => ?_)
      refine jw_imul (pc := 117) dX12_takesRing_117 ?_
      refine jw_iadd (pc := 118) dX12_takesRing_118 ?_
      refine jw_aloadR (pc := 119) 0 dX12_takesRing_119 rfl ?_
      refine jw_getR (pc := 120) (j := 29) rfl dX12_takesRing_120 jv_12 ji_12 (Or.inl jt_1260) jg_127 jl_127 (by decide) (by decide) rfl jf_12_29 ?_
      refine jw_iload (pc := 123) 3 dX12_takesRing_123 rfl ?_
      refine jw_iconst (pc := 125) dX12_takesRing_125 ?_
      refine jw_iadd (pc := 126) dX12_takesRing_126 ?_
      refine jw_iload_n (pc := 127) 1 dX12_takesRing_127 rfl ?_
      refine jw_irem (pc := 128) dX12_takesRing_128 (jw_wr _) hx2 ?_
      refine jw_iald (pc := 129) dX12_takesRing_129 jg_143 jl_143 (jw_ho jg_143 (by decide)) (jw_wr _) rfl (fun h19 => ?_)
      refine jw_iadd (pc := 130) dX12_takesRing_130 ?_
      refine jw_dup2 (pc := 131) dX12_takesRing_131 rfl rfl ?_
      refine jw_iald (pc := 132) dX12_takesRing_132 jg_133 jl_133 (jw_ho jg_133 (by decide)) (jw_wr _) rfl (fun h20 => ?_)
      refine jw_iload (pc := 133) 2 dX12_takesRing_133 rfl ?_
      refine jw_isub (pc := 135) dX12_takesRing_135 ?_
      refine jw_iast (pc := 136) dX12_takesRing_136 jg_133 jl_133 (jw_ho jg_133 (by decide)) (jw_wr _) (jw_wr _) rfl ?_
      refine jw_letM (fun M21 => ?_)
      refine jw_iincL (pc := 137) 3 (lv' := (fun y => [(5, y), (0, jR G 127), (2, jI x2), (4, jI x4)])) dX12_takesRing_137 rfl (Nat.le_of_ble_eq_true rfl) (fun _ => rfl) (fun v22 hv22 => ?_)
      refine jw_goto (pc := 140) 97 dX12_takesRing_140 (by decide) ?_
      exact jw_few [1, 2, 3, 0] rfl (ih x2 x4 v22 hx2 hx4 hv22 M21)
    · refine jw_iconst (pc := 143) dX12_takesRing_143 ?_
      exact jw_ret (pc := 144) (v := 1) dX12_takesRing_144 (Or.inr rfl) rfl rfl
def fX12_takesRing_42 : Nat → Int → Int → Int → jw_M → Option (Int × jw_M)
  | 0, _, _, _, _ => none
  | k + 1, x2, x4, x5, M => if x5 < x2 then (if 0 ≤ x5 ∧ x5 < 5 then if x2 ≠ 0 then if 0 ≤ jw_w (Int.tmod (jw_w (x5 + 1)) x2) ∧ jw_w (Int.tmod (jw_w (x5 + 1)) x2) < 5 then Option.bind (fX12_owes (M 143 x5) (M 143 (jw_w (Int.tmod (jw_w (x5 + 1)) x2))) M) (fun v13 => Option.bind (some v13) (fun v14 => if v14 < x4 then (fX12_takesRing_86 (fX12_takesRing_42 k) x2 x5 v14 M) else (fX12_takesRing_86 (fX12_takesRing_42 k) x2 x5 x4 M))) else none else none else none) else (Option.bind (some 0) (fun v17 => fX12_takesRing_97 jw_fu x2 x4 v17 M))
set_option maxRecDepth 100000 in
theorem pX12_takesRing_42 (G : jw_G) : ∀ (k : Nat) (x2 : Int) (x4 : Int) (x5 : Int) (hx2 : jw_r x2) (hx4 : jw_r x4) (hx5 : jw_r x5) (M : jw_M), jw_Rn G YX12_takesRing 3 0 0 true (fun q => q) 42 [(0, jR G 127), (2, jI x2), (4, jI x4), (5, jI x5)] [] M (fX12_takesRing_42 k x2 x4 x5 M) := by
  intro k
  induction k with
  | zero =>
    intro x2 x4 x5 hx2 hx4 hx5 M
    exact jw_none
  | succ k ih =>
    intro x2 x4 x5 hx2 hx4 hx5 M
    rw [fX12_takesRing_42]
    refine jw_iload (pc := 42) 3 dX12_takesRing_42 rfl ?_
    refine jw_iload_n (pc := 44) 1 dX12_takesRing_44 rfl ?_
    refine jw_ic_ge (pc := 45) 94 dX12_takesRing_45 (by decide) hx5 hx2 (fun _ => ?_) (fun _ => ?_)
    · refine jw_aloadR (pc := 48) 0 dX12_takesRing_48 rfl ?_
      refine jw_aloadR (pc := 49) 0 dX12_takesRing_49 rfl ?_
      refine jw_getR (pc := 50) (j := 29) rfl dX12_takesRing_50 jv_12 ji_12 (Or.inl jt_1260) jg_127 jl_127 (by decide) (by decide) rfl jf_12_29 ?_
      refine jw_iload (pc := 53) 3 dX12_takesRing_53 rfl ?_
      refine jw_iald (pc := 55) dX12_takesRing_55 jg_143 jl_143 (jw_ho jg_143 (by decide)) hx5 rfl (fun h11 => ?_)
      refine jw_aloadR (pc := 56) 0 dX12_takesRing_56 rfl ?_
      refine jw_getR (pc := 57) (j := 29) rfl dX12_takesRing_57 jv_12 ji_12 (Or.inl jt_1260) jg_127 jl_127 (by decide) (by decide) rfl jf_12_29 ?_
      refine jw_iload (pc := 60) 3 dX12_takesRing_60 rfl ?_
      refine jw_iconst (pc := 62) dX12_takesRing_62 ?_
      refine jw_iadd (pc := 63) dX12_takesRing_63 ?_
      refine jw_iload_n (pc := 64) 1 dX12_takesRing_64 rfl ?_
      refine jw_irem (pc := 65) dX12_takesRing_65 (jw_wr _) hx2 ?_
      refine jw_iald (pc := 66) dX12_takesRing_66 jg_143 jl_143 (jw_ho jg_143 (by decide)) (jw_wr _) rfl (fun h12 => ?_)
      refine jw_callVi (pc := 67) (As := [jI (M 143 x5), jI (M 143 (jw_w (Int.tmod (jw_w (x5 + 1)) x2)))]) (st := []) dX12_takesRing_67 rfl (Nat.le_of_ble_eq_true rfl) qX12_owes jt_1690 jt_1692 jp_90 rfl rfl (Nat.le_of_ble_eq_true rfl) jv_12 rfl jg_127 jl_127 (by decide) (jw_ho jg_127 (by decide)) (kX12_owes G (M 143 x5) (M 143 (jw_w (Int.tmod (jw_w (x5 + 1)) x2))) h11 h12 M) (fun v13 hv13 => ?_)
      refine jw_istoreL (pc := 70) (lv' := (fun y => [(6, y), (0, jR G 127), (2, jI x2), (4, jI x4), (5, jI x5)])) dX12_takesRing_70 hv13 (by decide) (fun _ => rfl) (fun v14 hv14 => ?_)
      refine jw_iload (pc := 72) 0 dX12_takesRing_72 rfl ?_
      refine jw_iload (pc := 74) 3 dX12_takesRing_74 rfl ?_
      refine jw_ic_ge (pc := 76) 84 dX12_takesRing_76 (by decide) hv14 hx4 (fun _ => ?_) (fun _ => ?_)
      · refine jw_iload (pc := 79) 0 dX12_takesRing_79 rfl ?_
        refine jw_goto (pc := 81) 86 dX12_takesRing_81 (by decide) ?_
        exact jw_few [1, 2, 4] rfl (pX12_takesRing_86 G (fX12_takesRing_42 k) ih x2 x5 v14 hx2 hx5 hv14 M)
      · refine jw_iload (pc := 84) 3 dX12_takesRing_84 rfl ?_
        exact jw_few [1, 2, 4] rfl (pX12_takesRing_86 G (fX12_takesRing_42 k) ih x2 x5 x4 hx2 hx5 hx4 M)
    · refine jw_iconst (pc := 94) dX12_takesRing_94 ?_
      refine jw_istoreL (pc := 95) (lv' := (fun y => [(5, y), (0, jR G 127), (2, jI x2), (4, jI x4)])) dX12_takesRing_95 (jw_rc _ rfl) (by decide) (fun _ => rfl) (fun v17 hv17 => ?_)
      exact jw_few [1, 2, 3, 0] rfl (pX12_takesRing_97 G jw_fu x2 x4 v17 hx2 hx4 hv17 M)
def fX12_takesRing_20 (r4 : Int → Int → jw_M → Option (Int × jw_M)) : Nat → Int → Int → Int → jw_M → Option (Int × jw_M)
  | 0, _, _, _, _ => none
  | k + 1, x1, x2, x3, M => if x3 < x1 then (jw_b2 (fX12_layRing x3 x2 M) (fun v6 M7 => if v6 = 0 then (Option.bind (some (jw_w (x3 + 1))) (fun v8 => fX12_takesRing_20 r4 k x1 x2 v8 M7)) else (Option.bind (some 9999) (fun v9 => Option.bind (some 0) (fun v10 => fX12_takesRing_42 jw_fu x2 v9 v10 M7))))) else (Option.bind (some (jw_w (x2 + 1))) (fun v23 => r4 x1 v23 M))
set_option maxRecDepth 100000 in
theorem pX12_takesRing_20 (G : jw_G) (r4 : Int → Int → jw_M → Option (Int × jw_M)) (hr4 : ∀ (x1 : Int) (x2 : Int) (hx1 : jw_r x1) (hx2 : jw_r x2) (M : jw_M), jw_Rn G YX12_takesRing 3 0 0 true (fun q => q) 4 [(0, jR G 127), (1, jI x1), (2, jI x2)] [] M (r4 x1 x2 M)) : ∀ (k : Nat) (x1 : Int) (x2 : Int) (x3 : Int) (hx1 : jw_r x1) (hx2 : jw_r x2) (hx3 : jw_r x3) (M : jw_M), jw_Rn G YX12_takesRing 3 0 0 true (fun q => q) 20 [(0, jR G 127), (1, jI x1), (2, jI x2), (3, jI x3)] [] M (fX12_takesRing_20 r4 k x1 x2 x3 M) := by
  intro k
  induction k with
  | zero =>
    intro x1 x2 x3 hx1 hx2 hx3 M
    exact jw_none
  | succ k ih =>
    intro x1 x2 x3 hx1 hx2 hx3 M
    rw [fX12_takesRing_20]
    refine jw_iload_n (pc := 20) 3 dX12_takesRing_20 rfl ?_
    refine jw_iload_n (pc := 21) 1 dX12_takesRing_21 rfl ?_
    refine jw_ic_ge (pc := 22) 151 dX12_takesRing_22 (by decide) hx3 hx1 (fun _ => ?_) (fun _ => ?_)
    · refine jw_aloadR (pc := 25) 0 dX12_takesRing_25 rfl ?_
      refine jw_iload_n (pc := 26) 3 dX12_takesRing_26 rfl ?_
      refine jw_iload_n (pc := 27) 2 dX12_takesRing_27 rfl ?_
      refine jw_callVMz (pc := 28) (As := [jI x3, jI x2]) (st := []) dX12_takesRing_28 rfl (Nat.le_of_ble_eq_true rfl) qX12_layRing jt_1706 jt_1708 jp_92 rfl rfl (Nat.le_of_ble_eq_true rfl) jv_12 rfl jg_127 jl_127 (by decide) (jw_ho jg_127 (by decide)) (kX12_layRing G x3 x2 hx3 hx2 M) (fun v6 M7 hv6 => ?_)
      refine jw_if_eq (pc := 31) 145 dX12_takesRing_31 (by decide) (jw_bz hv6) (fun _ => ?_) (fun _ => ?_)
      · refine jw_iincL (pc := 145) 3 (lv' := (fun y => [(3, y), (0, jR G 127), (1, jI x1), (2, jI x2)])) dX12_takesRing_145 rfl (Nat.le_of_ble_eq_true rfl) (fun _ => rfl) (fun v8 hv8 => ?_)
        refine jw_goto (pc := 148) 20 dX12_takesRing_148 (by decide) ?_
        exact jw_few [1, 2, 3, 0] rfl (ih x1 x2 v8 hx1 hx2 hv8 M7)
      · refine jw_sipush (pc := 34) dX12_takesRing_34 rfl ?_
        refine jw_istoreL (pc := 37) (lv' := (fun y => [(4, y), (0, jR G 127), (1, jI x1), (2, jI x2), (3, jI x3)])) dX12_takesRing_37 (jw_rc _ rfl) (by decide) (fun _ => rfl) (fun v9 hv9 => ?_)
        refine jw_iconst (pc := 39) dX12_takesRing_39 ?_
        refine jw_istoreL (pc := 40) (lv' := (fun y => [(5, y), (4, jI v9), (0, jR G 127), (1, jI x1), (2, jI x2), (3, jI x3)])) dX12_takesRing_40 (jw_rc _ rfl) (by decide) (fun _ => rfl) (fun v10 hv10 => ?_)
        exact jw_few [2, 4, 1, 0] rfl (pX12_takesRing_42 G jw_fu x2 v9 v10 hx2 hv9 hv10 M7)
    · refine jw_iincL (pc := 151) 2 (lv' := (fun y => [(2, y), (0, jR G 127), (1, jI x1), (3, jI x3)])) dX12_takesRing_151 rfl (Nat.le_of_ble_eq_true rfl) (fun _ => rfl) (fun v23 hv23 => ?_)
      refine jw_goto (pc := 154) 4 dX12_takesRing_154 (by decide) ?_
      exact jw_few [1, 2, 0] rfl (hr4 x1 v23 hx1 hv23 M)
def fX12_takesRing_4 : Nat → Int → Int → jw_M → Option (Int × jw_M)
  | 0, _, _, _ => none
  | k + 1, x1, x2, M => if 0 ≤ (3 : Int) ∧ (3 : Int) < 104 then if M 131 3 < x2 then (some (0, M)) else (Option.bind (some (jw_w (x1 * 5))) (fun v4 => Option.bind (some 0) (fun v5 => fX12_takesRing_20 (fX12_takesRing_4 k) jw_fu v4 x2 v5 M))) else none
set_option maxRecDepth 100000 in
theorem pX12_takesRing_4 (G : jw_G) : ∀ (k : Nat) (x1 : Int) (x2 : Int) (hx1 : jw_r x1) (hx2 : jw_r x2) (M : jw_M), jw_Rn G YX12_takesRing 3 0 0 true (fun q => q) 4 [(0, jR G 127), (1, jI x1), (2, jI x2)] [] M (fX12_takesRing_4 k x1 x2 M) := by
  intro k
  induction k with
  | zero =>
    intro x1 x2 hx1 hx2 M
    exact jw_none
  | succ k ih =>
    intro x1 x2 hx1 hx2 M
    rw [fX12_takesRing_4]
    refine jw_iload_n (pc := 4) 2 dX12_takesRing_4 rfl ?_
    refine jw_aloadR (pc := 5) 0 dX12_takesRing_5 rfl ?_
    refine jw_getR (pc := 6) (j := 5) rfl dX12_takesRing_6 jv_12 ji_12 (Or.inl jt_1236) jg_127 jl_127 (by decide) (by decide) rfl jf_12_5 ?_
    refine jw_iconst (pc := 9) dX12_takesRing_9 ?_
    refine jw_iald (pc := 10) dX12_takesRing_10 jg_131 jl_131 (jw_ho jg_131 (by decide)) (jw_rc _ rfl) rfl (fun h3 => ?_)
    refine jw_ic_gt (pc := 11) 157 dX12_takesRing_11 (by decide) hx2 h3 (fun _ => ?_) (fun _ => ?_)
    · refine jw_iconst (pc := 157) dX12_takesRing_157 ?_
      exact jw_ret (pc := 158) (v := 0) dX12_takesRing_158 (Or.inl rfl) rfl rfl
    · refine jw_iload_n (pc := 14) 1 dX12_takesRing_14 rfl ?_
      refine jw_iconst (pc := 15) dX12_takesRing_15 ?_
      refine jw_imul (pc := 16) dX12_takesRing_16 ?_
      refine jw_istore_nL (pc := 17) (lv' := (fun y => [(1, y), (0, jR G 127), (2, jI x2)])) dX12_takesRing_17 (jw_wr _) (by decide) (fun _ => rfl) (fun v4 hv4 => ?_)
      refine jw_iconst (pc := 18) dX12_takesRing_18 ?_
      refine jw_istore_nL (pc := 19) (lv' := (fun y => [(3, y), (1, jI v4), (0, jR G 127), (2, jI x2)])) dX12_takesRing_19 (jw_rc _ rfl) (by decide) (fun _ => rfl) (fun v5 hv5 => ?_)
      exact jw_few [2, 1, 3, 0] rfl (pX12_takesRing_20 G (fX12_takesRing_4 k) ih jw_fu v4 x2 v5 hv4 hx2 hv5 M)
def fX12_takesRing (M : jw_M) : Option (Int × jw_M) :=
  Option.bind (some 5) (fun v1 => Option.bind (some 2) (fun v2 => fX12_takesRing_4 jw_fu v1 v2 M))
set_option maxRecDepth 100000 in
theorem rX12_takesRing (G : jw_G) (M : jw_M) : jw_Rn G YX12_takesRing 3 0 0 true (fun q => q) 0 [(0, jR G 127)] [] M (fX12_takesRing M) := by
  unfold fX12_takesRing
  refine jw_iconst (pc := 0) dX12_takesRing_0 ?_
  refine jw_istore_nL (pc := 1) (lv' := (fun y => [(1, y), (0, jR G 127)])) dX12_takesRing_1 (jw_rc _ rfl) (by decide) (fun _ => rfl) (fun v1 hv1 => ?_)
  refine jw_iconst (pc := 2) dX12_takesRing_2 ?_
  refine jw_istore_nL (pc := 3) (lv' := (fun y => [(2, y), (1, jI v1), (0, jR G 127)])) dX12_takesRing_3 (jw_rc _ rfl) (by decide) (fun _ => rfl) (fun v2 hv2 => ?_)
  exact jw_few [2, 1, 0] rfl (pX12_takesRing_4 G jw_fu v1 v2 hv1 hv2 M)
theorem kX12_takesRing (G : jw_G) (M : jw_M) : jw_Ct G YX12_takesRing (some .boolean) 3 0 0 true (fun q => q) yX12_takesRing [jR G 127] M (fX12_takesRing M) := jw_met (by decide) rfl rfl rfl (Nat.le_of_ble_eq_true rfl) (rX12_takesRing G M)
abbrev YX12_passed : jw_Y := (RX12, cX12_passed, 2, 2, "passed")
theorem qX12_passed : jw_cy YX12_passed (some .long) yX12_passed 0 := ⟨by decide, jt_1701, jt_14, by decide, by decide +kernel⟩
theorem dX12_passed_0 : decode cX12_passed 0 = .ok (.aload_n 0, 1) := by decide +kernel
theorem dX12_passed_1 : decode cX12_passed 1 = .ok (.iconst 0, 1) := by decide +kernel
theorem dX12_passed_2 : decode cX12_passed 2 = .ok (.putfield 71, 3) := by decide +kernel
theorem dX12_passed_5 : decode cX12_passed 5 = .ok (.aload_n 0, 1) := by decide +kernel
theorem dX12_passed_6 : decode cX12_passed 6 = .ok (.getfield 216, 3) := by decide +kernel
theorem dX12_passed_9 : decode cX12_passed 9 = .ok (.ifCond .ne 7, 3) := by decide +kernel
theorem dX12_passed_12 : decode cX12_passed 12 = .ok (.ldc2_w 252, 3) := by decide +kernel
theorem dX12_passed_15 : decode cX12_passed 15 = .ok (.lreturn, 1) := by decide +kernel
theorem dX12_passed_16 : decode cX12_passed 16 = .ok (.iconst 0, 1) := by decide +kernel
theorem dX12_passed_17 : decode cX12_passed 17 = .ok (.istore_n 1, 1) := by decide +kernel
theorem dX12_passed_18 : decode cX12_passed 18 = .ok (.aload_n 0, 1) := by decide +kernel
theorem dX12_passed_19 : decode cX12_passed 19 = .ok (.invokevirtual 346, 3) := by decide +kernel
theorem dX12_passed_22 : decode cX12_passed 22 = .ok (.ifCond .eq 9, 3) := by decide +kernel
theorem dX12_passed_25 : decode cX12_passed 25 = .ok (.iinc 1 1, 3) := by decide +kernel
theorem dX12_passed_28 : decode cX12_passed 28 = .ok (.goto (-10), 3) := by decide +kernel
theorem dX12_passed_31 : decode cX12_passed 31 = .ok (.iload_n 1, 1) := by decide +kernel
theorem dX12_passed_32 : decode cX12_passed 32 = .ok (.i2l, 1) := by decide +kernel
theorem dX12_passed_33 : decode cX12_passed 33 = .ok (.lreturn, 1) := by decide +kernel
def fX12_passed_18 : Nat → Int → jw_M → Option (Int × jw_M)
  | 0, _, _ => none
  | k + 1, x1, M => jw_b2 (fX12_takesRing  M) (fun v4 M5 => if v4 = 0 then (some (x1, M5)) else (Option.bind (some (jw_w (x1 + 1))) (fun v6 => fX12_passed_18 k v6 M5)))
set_option maxRecDepth 100000 in
theorem pX12_passed_18 (G : jw_G) : ∀ (k : Nat) (x1 : Int) (hx1 : jw_r x1) (M : jw_M), jw_Rn G YX12_passed 4 0 0 true (fun q => q) 18 [(0, jR G 127), (1, jI x1)] [] M (fX12_passed_18 k x1 M) := by
  intro k
  induction k with
  | zero =>
    intro x1 hx1 M
    exact jw_none
  | succ k ih =>
    intro x1 hx1 M
    rw [fX12_passed_18]
    refine jw_aloadR (pc := 18) 0 dX12_passed_18 rfl ?_
    refine jw_callVMz (pc := 19) (As := []) (st := []) dX12_passed_19 rfl (Nat.le_of_ble_eq_true rfl) qX12_takesRing jt_1702 jt_1704 jp_91 rfl rfl (Nat.le_of_ble_eq_true rfl) jv_12 rfl jg_127 jl_127 (by decide) (jw_ho jg_127 (by decide)) (kX12_takesRing G  M) (fun v4 M5 hv4 => ?_)
    refine jw_if_eq (pc := 22) 31 dX12_passed_22 (by decide) (jw_bz hv4) (fun _ => ?_) (fun _ => ?_)
    · refine jw_iload_n (pc := 31) 1 dX12_passed_31 rfl ?_
      refine jw_i2lr (pc := 32) dX12_passed_32 hx1 ?_
      exact jw_ret (pc := 33) (v := x1) dX12_passed_33 (jw_rq hx1) rfl rfl
    · refine jw_iincL (pc := 25) 1 (lv' := (fun y => [(1, y), (0, jR G 127)])) dX12_passed_25 rfl (Nat.le_of_ble_eq_true rfl) (fun _ => rfl) (fun v6 hv6 => ?_)
      refine jw_goto (pc := 28) 18 dX12_passed_28 (by decide) ?_
      exact jw_few [1, 0] rfl (ih v6 hv6 M5)
def fX12_passed (M : jw_M) : Option (Int × jw_M) :=
  Option.bind (some (jw_up M 127 0 0)) (fun M1 => if M1 127 7 = 0 then (some ((-9000000000000000002), M1)) else (Option.bind (some 0) (fun v3 => fX12_passed_18 jw_fu v3 M1)))
set_option maxRecDepth 100000 in
theorem rX12_passed (G : jw_G) (M : jw_M) : jw_Rn G YX12_passed 4 0 0 true (fun q => q) 0 [(0, jR G 127)] [] M (fX12_passed M) := by
  unfold fX12_passed
  refine jw_aloadR (pc := 0) 0 dX12_passed_0 rfl ?_
  refine jw_iconst (pc := 1) dX12_passed_1 ?_
  refine jw_putI (pc := 2) (j := 0) tyX12 rfl dX12_passed_2 jv_12 ji_12 tyX12_ok nmX12 (Or.inl jt_1231) rfl jg_127 jl_127 (by decide) (by decide) (jw_ho jg_127 (by decide)) rfl rfl (jw_rc _ rfl) rfl ?_
  refine jw_letM (fun M1 => ?_)
  refine jw_aloadR (pc := 5) 0 dX12_passed_5 rfl ?_
  refine jw_getI (pc := 6) (j := 7) rfl dX12_passed_6 jv_12 ji_12 (Or.inl jt_1238) jg_127 jl_127 (by decide) (by decide) (jw_ho jg_127 (by decide)) (Or.inr rfl) rfl (fun h2 => ?_)
  refine jw_if_ne (pc := 9) 16 dX12_passed_9 (by decide) h2 (fun _ => ?_) (fun _ => ?_)
  · refine jw_ldc2 (pc := 12) (n := (-9000000000000000002)) dX12_passed_12 jt_1513 (by decide) ?_
    exact jw_ret (pc := 15) (v := (-9000000000000000002)) dX12_passed_15 (jw_qc _ rfl) rfl rfl
  · refine jw_iconst (pc := 16) dX12_passed_16 ?_
    refine jw_istore_nL (pc := 17) (lv' := (fun y => [(1, y), (0, jR G 127)])) dX12_passed_17 (jw_rc _ rfl) (by decide) (fun _ => rfl) (fun v3 hv3 => ?_)
    exact jw_few [1, 0] rfl (pX12_passed_18 G jw_fu v3 hv3 M1)
theorem kX12_passed (G : jw_G) (M : jw_M) : jw_Ct G YX12_passed (some .long) 4 0 0 true (fun q => q) yX12_passed [jR G 127] M (fX12_passed M) := jw_met (by decide) rfl rfl rfl (Nat.le_of_ble_eq_true rfl) (rX12_passed G M)
abbrev YX12_image : jw_Y := (RX12, cX12_image, 3, 2, "image")
theorem qX12_image : jw_cy YX12_image (some .long) yX12_image 1 := ⟨by decide, jt_1713, jt_14, by decide, by decide +kernel⟩
theorem dX12_image_0 : decode cX12_image 0 = .ok (.aload_n 0, 1) := by decide +kernel
theorem dX12_image_1 : decode cX12_image 1 = .ok (.iconst 0, 1) := by decide +kernel
theorem dX12_image_2 : decode cX12_image 2 = .ok (.putfield 71, 3) := by decide +kernel
theorem dX12_image_5 : decode cX12_image 5 = .ok (.iload_n 1, 1) := by decide +kernel
theorem dX12_image_6 : decode cX12_image 6 = .ok (.i2l, 1) := by decide +kernel
theorem dX12_image_7 : decode cX12_image 7 = .ok (.lconst 0, 1) := by decide +kernel
theorem dX12_image_8 : decode cX12_image 8 = .ok (.lconst 1, 1) := by decide +kernel
theorem dX12_image_9 : decode cX12_image 9 = .ok (.invokestatic 82, 3) := by decide +kernel
theorem dX12_image_12 : decode cX12_image 12 = .ok (.ifCond .ne 7, 3) := by decide +kernel
theorem dX12_image_15 : decode cX12_image 15 = .ok (.ldc2_w 92, 3) := by decide +kernel
theorem dX12_image_18 : decode cX12_image 18 = .ok (.lreturn, 1) := by decide +kernel
theorem dX12_image_19 : decode cX12_image 19 = .ok (.aload_n 0, 1) := by decide +kernel
theorem dX12_image_20 : decode cX12_image 20 = .ok (.getfield 216, 3) := by decide +kernel
theorem dX12_image_23 : decode cX12_image 23 = .ok (.ifCond .ne 7, 3) := by decide +kernel
theorem dX12_image_26 : decode cX12_image 26 = .ok (.ldc2_w 252, 3) := by decide +kernel
theorem dX12_image_29 : decode cX12_image 29 = .ok (.lreturn, 1) := by decide +kernel
theorem dX12_image_30 : decode cX12_image 30 = .ok (.iconst 0, 1) := by decide +kernel
theorem dX12_image_31 : decode cX12_image 31 = .ok (.istore_n 2, 1) := by decide +kernel
theorem dX12_image_32 : decode cX12_image 32 = .ok (.iload_n 2, 1) := by decide +kernel
theorem dX12_image_33 : decode cX12_image 33 = .ok (.bipush 104, 2) := by decide +kernel
theorem dX12_image_35 : decode cX12_image 35 = .ok (.if_icmp .ge 26, 3) := by decide +kernel
theorem dX12_image_38 : decode cX12_image 38 = .ok (.aload_n 0, 1) := by decide +kernel
theorem dX12_image_39 : decode cX12_image 39 = .ok (.getfield 62, 3) := by decide +kernel
theorem dX12_image_42 : decode cX12_image 42 = .ok (.bipush 104, 2) := by decide +kernel
theorem dX12_image_44 : decode cX12_image 44 = .ok (.iload_n 1, 1) := by decide +kernel
theorem dX12_image_45 : decode cX12_image 45 = .ok (.imul, 1) := by decide +kernel
theorem dX12_image_46 : decode cX12_image 46 = .ok (.iload_n 2, 1) := by decide +kernel
theorem dX12_image_47 : decode cX12_image 47 = .ok (.iadd, 1) := by decide +kernel
theorem dX12_image_48 : decode cX12_image 48 = .ok (.aload_n 0, 1) := by decide +kernel
theorem dX12_image_49 : decode cX12_image 49 = .ok (.getfield 19, 3) := by decide +kernel
theorem dX12_image_52 : decode cX12_image 52 = .ok (.iload_n 2, 1) := by decide +kernel
theorem dX12_image_53 : decode cX12_image 53 = .ok (.iaload, 1) := by decide +kernel
theorem dX12_image_54 : decode cX12_image 54 = .ok (.iastore, 1) := by decide +kernel
theorem dX12_image_55 : decode cX12_image 55 = .ok (.iinc 2 1, 3) := by decide +kernel
theorem dX12_image_58 : decode cX12_image 58 = .ok (.goto (-26), 3) := by decide +kernel
theorem dX12_image_61 : decode cX12_image 61 = .ok (.iconst 0, 1) := by decide +kernel
theorem dX12_image_62 : decode cX12_image 62 = .ok (.istore_n 2, 1) := by decide +kernel
theorem dX12_image_63 : decode cX12_image 63 = .ok (.iload_n 2, 1) := by decide +kernel
theorem dX12_image_64 : decode cX12_image 64 = .ok (.bipush 104, 2) := by decide +kernel
theorem dX12_image_66 : decode cX12_image 66 = .ok (.if_icmp .ge 26, 3) := by decide +kernel
theorem dX12_image_69 : decode cX12_image 69 = .ok (.aload_n 0, 1) := by decide +kernel
theorem dX12_image_70 : decode cX12_image 70 = .ok (.getfield 65, 3) := by decide +kernel
theorem dX12_image_73 : decode cX12_image 73 = .ok (.bipush 104, 2) := by decide +kernel
theorem dX12_image_75 : decode cX12_image 75 = .ok (.iload_n 1, 1) := by decide +kernel
theorem dX12_image_76 : decode cX12_image 76 = .ok (.imul, 1) := by decide +kernel
theorem dX12_image_77 : decode cX12_image 77 = .ok (.iload_n 2, 1) := by decide +kernel
theorem dX12_image_78 : decode cX12_image 78 = .ok (.iadd, 1) := by decide +kernel
theorem dX12_image_79 : decode cX12_image 79 = .ok (.aload_n 0, 1) := by decide +kernel
theorem dX12_image_80 : decode cX12_image 80 = .ok (.getfield 25, 3) := by decide +kernel
theorem dX12_image_83 : decode cX12_image 83 = .ok (.iload_n 2, 1) := by decide +kernel
theorem dX12_image_84 : decode cX12_image 84 = .ok (.iaload, 1) := by decide +kernel
theorem dX12_image_85 : decode cX12_image 85 = .ok (.iastore, 1) := by decide +kernel
theorem dX12_image_86 : decode cX12_image 86 = .ok (.iinc 2 1, 3) := by decide +kernel
theorem dX12_image_89 : decode cX12_image 89 = .ok (.goto (-26), 3) := by decide +kernel
theorem dX12_image_92 : decode cX12_image 92 = .ok (.aload_n 0, 1) := by decide +kernel
theorem dX12_image_93 : decode cX12_image 93 = .ok (.getfield 58, 3) := by decide +kernel
theorem dX12_image_96 : decode cX12_image 96 = .ok (.iload_n 1, 1) := by decide +kernel
theorem dX12_image_97 : decode cX12_image 97 = .ok (.iconst 1, 1) := by decide +kernel
theorem dX12_image_98 : decode cX12_image 98 = .ok (.bastore, 1) := by decide +kernel
theorem dX12_image_99 : decode cX12_image 99 = .ok (.lconst 1, 1) := by decide +kernel
theorem dX12_image_100 : decode cX12_image 100 = .ok (.lreturn, 1) := by decide +kernel
def fX12_image_63 : Nat → Int → Int → jw_M → Option (Int × jw_M)
  | 0, _, _, _ => none
  | k + 1, x1, x2, M => if x2 < 104 then (if 0 ≤ x2 ∧ x2 < 104 then if 0 ≤ jw_w ((jw_w (104 * x1)) + x2) ∧ jw_w ((jw_w (104 * x1)) + x2) < 208 then Option.bind (some (jw_up M 146 (jw_w ((jw_w (104 * x1)) + x2)) (M 133 x2))) (fun M10 => Option.bind (some (jw_w (x2 + 1))) (fun v11 => fX12_image_63 k x1 v11 M10)) else none else none) else (if 0 ≤ x1 ∧ x1 < 2 then Option.bind (some (jw_up M 144 x1 1)) (fun M12 => some (1, M12)) else none)
set_option maxRecDepth 100000 in
theorem pX12_image_63 (G : jw_G) : ∀ (k : Nat) (x1 : Int) (x2 : Int) (hx1 : jw_r x1) (hx2 : jw_r x2) (M : jw_M), jw_Rn G YX12_image 2 0 0 true (fun q => q) 63 [(0, jR G 127), (1, jI x1), (2, jI x2)] [] M (fX12_image_63 k x1 x2 M) := by
  intro k
  induction k with
  | zero =>
    intro x1 x2 hx1 hx2 M
    exact jw_none
  | succ k ih =>
    intro x1 x2 hx1 hx2 M
    rw [fX12_image_63]
    refine jw_iload_n (pc := 63) 2 dX12_image_63 rfl ?_
    refine jw_bipush (pc := 64) dX12_image_64 rfl ?_
    refine jw_ic_ge (pc := 66) 92 dX12_image_66 (by decide) hx2 (jw_rc _ rfl) (fun _ => ?_) (fun _ => ?_)
    · refine jw_aloadR (pc := 69) 0 dX12_image_69 rfl ?_
      refine jw_getR (pc := 70) (j := 32) rfl dX12_image_70 jv_12 ji_12 (Or.inl jt_1263) jg_127 jl_127 (by decide) (by decide) rfl jf_12_32 ?_
      refine jw_bipush (pc := 73) dX12_image_73 rfl ?_
      refine jw_iload_n (pc := 75) 1 dX12_image_75 rfl ?_
      refine jw_imul (pc := 76) dX12_image_76 ?_
      refine jw_iload_n (pc := 77) 2 dX12_image_77 rfl ?_
      refine jw_iadd (pc := 78) dX12_image_78 ?_
      refine jw_aloadR (pc := 79) 0 dX12_image_79 rfl ?_
      refine jw_getR (pc := 80) (j := 8) rfl dX12_image_80 jv_12 ji_12 (Or.inl jt_1239) jg_127 jl_127 (by decide) (by decide) rfl jf_12_8 ?_
      refine jw_iload_n (pc := 83) 2 dX12_image_83 rfl ?_
      refine jw_iald (pc := 84) dX12_image_84 jg_133 jl_133 (jw_ho jg_133 (by decide)) hx2 rfl (fun h9 => ?_)
      refine jw_iast (pc := 85) dX12_image_85 jg_146 jl_146 (jw_ho jg_146 (by decide)) (jw_wr _) h9 rfl ?_
      refine jw_letM (fun M10 => ?_)
      refine jw_iincL (pc := 86) 2 (lv' := (fun y => [(2, y), (0, jR G 127), (1, jI x1)])) dX12_image_86 rfl (Nat.le_of_ble_eq_true rfl) (fun _ => rfl) (fun v11 hv11 => ?_)
      refine jw_goto (pc := 89) 63 dX12_image_89 (by decide) ?_
      exact jw_few [1, 2, 0] rfl (ih x1 v11 hx1 hv11 M10)
    · refine jw_aloadR (pc := 92) 0 dX12_image_92 rfl ?_
      refine jw_getR (pc := 93) (j := 30) rfl dX12_image_93 jv_12 ji_12 (Or.inl jt_1261) jg_127 jl_127 (by decide) (by decide) rfl jf_12_30 ?_
      refine jw_iload_n (pc := 96) 1 dX12_image_96 rfl ?_
      refine jw_iconst (pc := 97) dX12_image_97 ?_
      refine jw_zast (pc := 98) dX12_image_98 jg_144 jl_144 (jw_ho jg_144 (by decide)) hx1 (Or.inr rfl) rfl ?_
      refine jw_letM (fun M12 => ?_)
      refine jw_lconst (pc := 99) (z := 1) dX12_image_99 rfl ?_
      exact jw_ret (pc := 100) (v := 1) dX12_image_100 (jw_qc _ rfl) rfl rfl
def fX12_image_32 : Nat → Int → Int → jw_M → Option (Int × jw_M)
  | 0, _, _, _ => none
  | k + 1, x1, x2, M => if x2 < 104 then (if 0 ≤ x2 ∧ x2 < 104 then if 0 ≤ jw_w ((jw_w (104 * x1)) + x2) ∧ jw_w ((jw_w (104 * x1)) + x2) < 208 then Option.bind (some (jw_up M 145 (jw_w ((jw_w (104 * x1)) + x2)) (M 131 x2))) (fun M6 => Option.bind (some (jw_w (x2 + 1))) (fun v7 => fX12_image_32 k x1 v7 M6)) else none else none) else (Option.bind (some 0) (fun v8 => fX12_image_63 jw_fu x1 v8 M))
set_option maxRecDepth 100000 in
theorem pX12_image_32 (G : jw_G) : ∀ (k : Nat) (x1 : Int) (x2 : Int) (hx1 : jw_r x1) (hx2 : jw_r x2) (M : jw_M), jw_Rn G YX12_image 2 0 0 true (fun q => q) 32 [(0, jR G 127), (1, jI x1), (2, jI x2)] [] M (fX12_image_32 k x1 x2 M) := by
  intro k
  induction k with
  | zero =>
    intro x1 x2 hx1 hx2 M
    exact jw_none
  | succ k ih =>
    intro x1 x2 hx1 hx2 M
    rw [fX12_image_32]
    refine jw_iload_n (pc := 32) 2 dX12_image_32 rfl ?_
    refine jw_bipush (pc := 33) dX12_image_33 rfl ?_
    refine jw_ic_ge (pc := 35) 61 dX12_image_35 (by decide) hx2 (jw_rc _ rfl) (fun _ => ?_) (fun _ => ?_)
    · refine jw_aloadR (pc := 38) 0 dX12_image_38 rfl ?_
      refine jw_getR (pc := 39) (j := 31) rfl dX12_image_39 jv_12 ji_12 (Or.inl jt_1262) jg_127 jl_127 (by decide) (by decide) rfl jf_12_31 ?_
      refine jw_bipush (pc := 42) dX12_image_42 rfl ?_
      refine jw_iload_n (pc := 44) 1 dX12_image_44 rfl ?_
      refine jw_imul (pc := 45) dX12_image_45 ?_
      refine jw_iload_n (pc := 46) 2 dX12_image_46 rfl ?_
      refine jw_iadd (pc := 47) dX12_image_47 ?_
      refine jw_aloadR (pc := 48) 0 dX12_image_48 rfl ?_
      refine jw_getR (pc := 49) (j := 5) rfl dX12_image_49 jv_12 ji_12 (Or.inl jt_1236) jg_127 jl_127 (by decide) (by decide) rfl jf_12_5 ?_
      refine jw_iload_n (pc := 52) 2 dX12_image_52 rfl ?_
      refine jw_iald (pc := 53) dX12_image_53 jg_131 jl_131 (jw_ho jg_131 (by decide)) hx2 rfl (fun h5 => ?_)
      refine jw_iast (pc := 54) dX12_image_54 jg_145 jl_145 (jw_ho jg_145 (by decide)) (jw_wr _) h5 rfl ?_
      refine jw_letM (fun M6 => ?_)
      refine jw_iincL (pc := 55) 2 (lv' := (fun y => [(2, y), (0, jR G 127), (1, jI x1)])) dX12_image_55 rfl (Nat.le_of_ble_eq_true rfl) (fun _ => rfl) (fun v7 hv7 => ?_)
      refine jw_goto (pc := 58) 32 dX12_image_58 (by decide) ?_
      exact jw_few [1, 2, 0] rfl (ih x1 v7 hx1 hv7 M6)
    · refine jw_iconst (pc := 61) dX12_image_61 ?_
      refine jw_istore_nL (pc := 62) (lv' := (fun y => [(2, y), (0, jR G 127), (1, jI x1)])) dX12_image_62 (jw_rc _ rfl) (by decide) (fun _ => rfl) (fun v8 hv8 => ?_)
      exact jw_few [1, 2, 0] rfl (pX12_image_63 G jw_fu x1 v8 hx1 hv8 M)
def fX12_image (a1 : Int) (M : jw_M) : Option (Int × jw_M) :=
  Option.bind (some (jw_up M 127 0 0)) (fun M1 => Option.bind (fX12_in a1 0 1 M1) (fun v2 => if v2 = 0 then (some ((-9000000000000000001), M1)) else (if M1 127 7 = 0 then (some ((-9000000000000000002), M1)) else (Option.bind (some 0) (fun v4 => fX12_image_32 jw_fu a1 v4 M1)))))
set_option maxRecDepth 100000 in
theorem rX12_image (G : jw_G) (a1 : Int) (ha1 : jw_r a1) (M : jw_M) : jw_Rn G YX12_image 2 0 0 true (fun q => q) 0 [(0, jR G 127), (1, jI a1)] [] M (fX12_image a1 M) := by
  unfold fX12_image
  refine jw_aloadR (pc := 0) 0 dX12_image_0 rfl ?_
  refine jw_iconst (pc := 1) dX12_image_1 ?_
  refine jw_putI (pc := 2) (j := 0) tyX12 rfl dX12_image_2 jv_12 ji_12 tyX12_ok nmX12 (Or.inl jt_1231) rfl jg_127 jl_127 (by decide) (by decide) (jw_ho jg_127 (by decide)) rfl rfl (jw_rc _ rfl) rfl ?_
  refine jw_letM (fun M1 => ?_)
  refine jw_iload_n (pc := 5) 1 dX12_image_5 rfl ?_
  refine jw_i2lr (pc := 6) dX12_image_6 ha1 ?_
  refine jw_lconst (pc := 7) (z := 0) dX12_image_7 rfl ?_
  refine jw_lconst (pc := 8) (z := 1) dX12_image_8 rfl ?_
  refine jw_callSz (pc := 9) (As := [jL a1, jL 0, jL 1]) (st := []) dX12_image_9 rfl (Nat.le_of_ble_eq_true rfl) qX12_in jt_1345 jt_1346 rfl rfl (Nat.le_of_ble_eq_true rfl) (kX12_in G a1 0 1 (jw_rq ha1) (jw_qc _ rfl) (jw_qc _ rfl) M1) (fun v2 hv2 => ?_)
  refine jw_if_ne (pc := 12) 19 dX12_image_12 (by decide) (jw_bz hv2) (fun _ => ?_) (fun _ => ?_)
  · refine jw_ldc2 (pc := 15) (n := (-9000000000000000001)) dX12_image_15 jt_1349 (by decide) ?_
    exact jw_ret (pc := 18) (v := (-9000000000000000001)) dX12_image_18 (jw_qc _ rfl) rfl rfl
  · refine jw_aloadR (pc := 19) 0 dX12_image_19 rfl ?_
    refine jw_getI (pc := 20) (j := 7) rfl dX12_image_20 jv_12 ji_12 (Or.inl jt_1238) jg_127 jl_127 (by decide) (by decide) (jw_ho jg_127 (by decide)) (Or.inr rfl) rfl (fun h3 => ?_)
    refine jw_if_ne (pc := 23) 30 dX12_image_23 (by decide) h3 (fun _ => ?_) (fun _ => ?_)
    · refine jw_ldc2 (pc := 26) (n := (-9000000000000000002)) dX12_image_26 jt_1513 (by decide) ?_
      exact jw_ret (pc := 29) (v := (-9000000000000000002)) dX12_image_29 (jw_qc _ rfl) rfl rfl
    · refine jw_iconst (pc := 30) dX12_image_30 ?_
      refine jw_istore_nL (pc := 31) (lv' := (fun y => [(2, y), (0, jR G 127), (1, jI a1)])) dX12_image_31 (jw_rc _ rfl) (by decide) (fun _ => rfl) (fun v4 hv4 => ?_)
      exact jw_few [1, 2, 0] rfl (pX12_image_32 G jw_fu a1 v4 ha1 hv4 M1)
theorem kX12_image (G : jw_G) (a1 : Int) (ha1 : jw_r a1) (M : jw_M) : jw_Ct G YX12_image (some .long) 2 0 0 true (fun q => q) yX12_image [jR G 127, jI a1] M (fX12_image a1 M) := jw_met (by decide) rfl rfl rfl (Nat.le_of_ble_eq_true rfl) (rX12_image G a1 ha1 M)
abbrev YX12_restore : jw_Y := (RX12, cX12_restore, 3, 2, "restore")
theorem qX12_restore : jw_cy YX12_restore (some .long) yX12_restore 1 := ⟨by decide, jt_1717, jt_14, by decide, by decide +kernel⟩
theorem dX12_restore_0 : decode cX12_restore 0 = .ok (.aload_n 0, 1) := by decide +kernel
theorem dX12_restore_1 : decode cX12_restore 1 = .ok (.iconst 0, 1) := by decide +kernel
theorem dX12_restore_2 : decode cX12_restore 2 = .ok (.putfield 71, 3) := by decide +kernel
theorem dX12_restore_5 : decode cX12_restore 5 = .ok (.iload_n 1, 1) := by decide +kernel
theorem dX12_restore_6 : decode cX12_restore 6 = .ok (.i2l, 1) := by decide +kernel
theorem dX12_restore_7 : decode cX12_restore 7 = .ok (.lconst 0, 1) := by decide +kernel
theorem dX12_restore_8 : decode cX12_restore 8 = .ok (.lconst 1, 1) := by decide +kernel
theorem dX12_restore_9 : decode cX12_restore 9 = .ok (.invokestatic 82, 3) := by decide +kernel
theorem dX12_restore_12 : decode cX12_restore 12 = .ok (.ifCond .ne 7, 3) := by decide +kernel
theorem dX12_restore_15 : decode cX12_restore 15 = .ok (.ldc2_w 92, 3) := by decide +kernel
theorem dX12_restore_18 : decode cX12_restore 18 = .ok (.lreturn, 1) := by decide +kernel
theorem dX12_restore_19 : decode cX12_restore 19 = .ok (.aload_n 0, 1) := by decide +kernel
theorem dX12_restore_20 : decode cX12_restore 20 = .ok (.getfield 58, 3) := by decide +kernel
theorem dX12_restore_23 : decode cX12_restore 23 = .ok (.iload_n 1, 1) := by decide +kernel
theorem dX12_restore_24 : decode cX12_restore 24 = .ok (.baload, 1) := by decide +kernel
theorem dX12_restore_25 : decode cX12_restore 25 = .ok (.ifCond .ne 7, 3) := by decide +kernel
theorem dX12_restore_28 : decode cX12_restore 28 = .ok (.ldc2_w 252, 3) := by decide +kernel
theorem dX12_restore_31 : decode cX12_restore 31 = .ok (.lreturn, 1) := by decide +kernel
theorem dX12_restore_32 : decode cX12_restore 32 = .ok (.iconst 0, 1) := by decide +kernel
theorem dX12_restore_33 : decode cX12_restore 33 = .ok (.istore_n 2, 1) := by decide +kernel
theorem dX12_restore_34 : decode cX12_restore 34 = .ok (.iload_n 2, 1) := by decide +kernel
theorem dX12_restore_35 : decode cX12_restore 35 = .ok (.bipush 104, 2) := by decide +kernel
theorem dX12_restore_37 : decode cX12_restore 37 = .ok (.if_icmp .ge 26, 3) := by decide +kernel
theorem dX12_restore_40 : decode cX12_restore 40 = .ok (.aload_n 0, 1) := by decide +kernel
theorem dX12_restore_41 : decode cX12_restore 41 = .ok (.getfield 19, 3) := by decide +kernel
theorem dX12_restore_44 : decode cX12_restore 44 = .ok (.iload_n 2, 1) := by decide +kernel
theorem dX12_restore_45 : decode cX12_restore 45 = .ok (.aload_n 0, 1) := by decide +kernel
theorem dX12_restore_46 : decode cX12_restore 46 = .ok (.getfield 62, 3) := by decide +kernel
theorem dX12_restore_49 : decode cX12_restore 49 = .ok (.bipush 104, 2) := by decide +kernel
theorem dX12_restore_51 : decode cX12_restore 51 = .ok (.iload_n 1, 1) := by decide +kernel
theorem dX12_restore_52 : decode cX12_restore 52 = .ok (.imul, 1) := by decide +kernel
theorem dX12_restore_53 : decode cX12_restore 53 = .ok (.iload_n 2, 1) := by decide +kernel
theorem dX12_restore_54 : decode cX12_restore 54 = .ok (.iadd, 1) := by decide +kernel
theorem dX12_restore_55 : decode cX12_restore 55 = .ok (.iaload, 1) := by decide +kernel
theorem dX12_restore_56 : decode cX12_restore 56 = .ok (.iastore, 1) := by decide +kernel
theorem dX12_restore_57 : decode cX12_restore 57 = .ok (.iinc 2 1, 3) := by decide +kernel
theorem dX12_restore_60 : decode cX12_restore 60 = .ok (.goto (-26), 3) := by decide +kernel
theorem dX12_restore_63 : decode cX12_restore 63 = .ok (.iconst 0, 1) := by decide +kernel
theorem dX12_restore_64 : decode cX12_restore 64 = .ok (.istore_n 2, 1) := by decide +kernel
theorem dX12_restore_65 : decode cX12_restore 65 = .ok (.iload_n 2, 1) := by decide +kernel
theorem dX12_restore_66 : decode cX12_restore 66 = .ok (.bipush 104, 2) := by decide +kernel
theorem dX12_restore_68 : decode cX12_restore 68 = .ok (.if_icmp .ge 26, 3) := by decide +kernel
theorem dX12_restore_71 : decode cX12_restore 71 = .ok (.aload_n 0, 1) := by decide +kernel
theorem dX12_restore_72 : decode cX12_restore 72 = .ok (.getfield 25, 3) := by decide +kernel
theorem dX12_restore_75 : decode cX12_restore 75 = .ok (.iload_n 2, 1) := by decide +kernel
theorem dX12_restore_76 : decode cX12_restore 76 = .ok (.aload_n 0, 1) := by decide +kernel
theorem dX12_restore_77 : decode cX12_restore 77 = .ok (.getfield 65, 3) := by decide +kernel
theorem dX12_restore_80 : decode cX12_restore 80 = .ok (.bipush 104, 2) := by decide +kernel
theorem dX12_restore_82 : decode cX12_restore 82 = .ok (.iload_n 1, 1) := by decide +kernel
theorem dX12_restore_83 : decode cX12_restore 83 = .ok (.imul, 1) := by decide +kernel
theorem dX12_restore_84 : decode cX12_restore 84 = .ok (.iload_n 2, 1) := by decide +kernel
theorem dX12_restore_85 : decode cX12_restore 85 = .ok (.iadd, 1) := by decide +kernel
theorem dX12_restore_86 : decode cX12_restore 86 = .ok (.iaload, 1) := by decide +kernel
theorem dX12_restore_87 : decode cX12_restore 87 = .ok (.iastore, 1) := by decide +kernel
theorem dX12_restore_88 : decode cX12_restore 88 = .ok (.iinc 2 1, 3) := by decide +kernel
theorem dX12_restore_91 : decode cX12_restore 91 = .ok (.goto (-26), 3) := by decide +kernel
theorem dX12_restore_94 : decode cX12_restore 94 = .ok (.aload_n 0, 1) := by decide +kernel
theorem dX12_restore_95 : decode cX12_restore 95 = .ok (.invokevirtual 220, 3) := by decide +kernel
theorem dX12_restore_98 : decode cX12_restore 98 = .ok (.lconst 1, 1) := by decide +kernel
theorem dX12_restore_99 : decode cX12_restore 99 = .ok (.lreturn, 1) := by decide +kernel
def fX12_restore_65 : Nat → Int → Int → jw_M → Option (Int × jw_M)
  | 0, _, _, _ => none
  | k + 1, x1, x2, M => if x2 < 104 then (if 0 ≤ jw_w ((jw_w (104 * x1)) + x2) ∧ jw_w ((jw_w (104 * x1)) + x2) < 208 then if 0 ≤ x2 ∧ x2 < 104 then Option.bind (some (jw_up M 133 x2 (M 146 (jw_w ((jw_w (104 * x1)) + x2))))) (fun M10 => Option.bind (some (jw_w (x2 + 1))) (fun v11 => fX12_restore_65 k x1 v11 M10)) else none else none) else (Option.bind (fX12_layWays  M) (fun M12 => some (1, M12)))
set_option maxRecDepth 100000 in
theorem pX12_restore_65 (G : jw_G) : ∀ (k : Nat) (x1 : Int) (x2 : Int) (hx1 : jw_r x1) (hx2 : jw_r x2) (M : jw_M), jw_Rn G YX12_restore 2 0 0 true (fun q => q) 65 [(0, jR G 127), (1, jI x1), (2, jI x2)] [] M (fX12_restore_65 k x1 x2 M) := by
  intro k
  induction k with
  | zero =>
    intro x1 x2 hx1 hx2 M
    exact jw_none
  | succ k ih =>
    intro x1 x2 hx1 hx2 M
    rw [fX12_restore_65]
    refine jw_iload_n (pc := 65) 2 dX12_restore_65 rfl ?_
    refine jw_bipush (pc := 66) dX12_restore_66 rfl ?_
    refine jw_ic_ge (pc := 68) 94 dX12_restore_68 (by decide) hx2 (jw_rc _ rfl) (fun _ => ?_) (fun _ => ?_)
    · refine jw_aloadR (pc := 71) 0 dX12_restore_71 rfl ?_
      refine jw_getR (pc := 72) (j := 8) rfl dX12_restore_72 jv_12 ji_12 (Or.inl jt_1239) jg_127 jl_127 (by decide) (by decide) rfl jf_12_8 ?_
      refine jw_iload_n (pc := 75) 2 dX12_restore_75 rfl ?_
      refine jw_aloadR (pc := 76) 0 dX12_restore_76 rfl ?_
      refine jw_getR (pc := 77) (j := 32) rfl dX12_restore_77 jv_12 ji_12 (Or.inl jt_1263) jg_127 jl_127 (by decide) (by decide) rfl jf_12_32 ?_
      refine jw_bipush (pc := 80) dX12_restore_80 rfl ?_
      refine jw_iload_n (pc := 82) 1 dX12_restore_82 rfl ?_
      refine jw_imul (pc := 83) dX12_restore_83 ?_
      refine jw_iload_n (pc := 84) 2 dX12_restore_84 rfl ?_
      refine jw_iadd (pc := 85) dX12_restore_85 ?_
      refine jw_iald (pc := 86) dX12_restore_86 jg_146 jl_146 (jw_ho jg_146 (by decide)) (jw_wr _) rfl (fun h9 => ?_)
      refine jw_iast (pc := 87) dX12_restore_87 jg_133 jl_133 (jw_ho jg_133 (by decide)) hx2 h9 rfl ?_
      refine jw_letM (fun M10 => ?_)
      refine jw_iincL (pc := 88) 2 (lv' := (fun y => [(2, y), (0, jR G 127), (1, jI x1)])) dX12_restore_88 rfl (Nat.le_of_ble_eq_true rfl) (fun _ => rfl) (fun v11 hv11 => ?_)
      refine jw_goto (pc := 91) 65 dX12_restore_91 (by decide) ?_
      exact jw_few [1, 2, 0] rfl (ih x1 v11 hx1 hv11 M10)
    · refine jw_aloadR (pc := 94) 0 dX12_restore_94 rfl ?_
      refine jw_callVM (pc := 95) (As := []) (st := []) dX12_restore_95 rfl (Nat.le_of_ble_eq_true rfl) qX12_layWays jt_1465 jt_1467 jp_62 rfl rfl (Nat.le_of_ble_eq_true rfl) jv_12 rfl jg_127 jl_127 (by decide) (jw_ho jg_127 (by decide)) (kX12_layWays G  M) (fun M12 => ?_)
      refine jw_lconst (pc := 98) (z := 1) dX12_restore_98 rfl ?_
      exact jw_ret (pc := 99) (v := 1) dX12_restore_99 (jw_qc _ rfl) rfl rfl
def fX12_restore_34 : Nat → Int → Int → jw_M → Option (Int × jw_M)
  | 0, _, _, _ => none
  | k + 1, x1, x2, M => if x2 < 104 then (if 0 ≤ jw_w ((jw_w (104 * x1)) + x2) ∧ jw_w ((jw_w (104 * x1)) + x2) < 208 then if 0 ≤ x2 ∧ x2 < 104 then Option.bind (some (jw_up M 131 x2 (M 145 (jw_w ((jw_w (104 * x1)) + x2))))) (fun M6 => Option.bind (some (jw_w (x2 + 1))) (fun v7 => fX12_restore_34 k x1 v7 M6)) else none else none) else (Option.bind (some 0) (fun v8 => fX12_restore_65 jw_fu x1 v8 M))
set_option maxRecDepth 100000 in
theorem pX12_restore_34 (G : jw_G) : ∀ (k : Nat) (x1 : Int) (x2 : Int) (hx1 : jw_r x1) (hx2 : jw_r x2) (M : jw_M), jw_Rn G YX12_restore 2 0 0 true (fun q => q) 34 [(0, jR G 127), (1, jI x1), (2, jI x2)] [] M (fX12_restore_34 k x1 x2 M) := by
  intro k
  induction k with
  | zero =>
    intro x1 x2 hx1 hx2 M
    exact jw_none
  | succ k ih =>
    intro x1 x2 hx1 hx2 M
    rw [fX12_restore_34]
    refine jw_iload_n (pc := 34) 2 dX12_restore_34 rfl ?_
    refine jw_bipush (pc := 35) dX12_restore_35 rfl ?_
    refine jw_ic_ge (pc := 37) 63 dX12_restore_37 (by decide) hx2 (jw_rc _ rfl) (fun _ => ?_) (fun _ => ?_)
    · refine jw_aloadR (pc := 40) 0 dX12_restore_40 rfl ?_
      refine jw_getR (pc := 41) (j := 5) rfl dX12_restore_41 jv_12 ji_12 (Or.inl jt_1236) jg_127 jl_127 (by decide) (by decide) rfl jf_12_5 ?_
      refine jw_iload_n (pc := 44) 2 dX12_restore_44 rfl ?_
      refine jw_aloadR (pc := 45) 0 dX12_restore_45 rfl ?_
      refine jw_getR (pc := 46) (j := 31) rfl dX12_restore_46 jv_12 ji_12 (Or.inl jt_1262) jg_127 jl_127 (by decide) (by decide) rfl jf_12_31 ?_
      refine jw_bipush (pc := 49) dX12_restore_49 rfl ?_
      refine jw_iload_n (pc := 51) 1 dX12_restore_51 rfl ?_
      refine jw_imul (pc := 52) dX12_restore_52 ?_
      refine jw_iload_n (pc := 53) 2 dX12_restore_53 rfl ?_
      refine jw_iadd (pc := 54) dX12_restore_54 ?_
      refine jw_iald (pc := 55) dX12_restore_55 jg_145 jl_145 (jw_ho jg_145 (by decide)) (jw_wr _) rfl (fun h5 => ?_)
      refine jw_iast (pc := 56) dX12_restore_56 jg_131 jl_131 (jw_ho jg_131 (by decide)) hx2 h5 rfl ?_
      refine jw_letM (fun M6 => ?_)
      refine jw_iincL (pc := 57) 2 (lv' := (fun y => [(2, y), (0, jR G 127), (1, jI x1)])) dX12_restore_57 rfl (Nat.le_of_ble_eq_true rfl) (fun _ => rfl) (fun v7 hv7 => ?_)
      refine jw_goto (pc := 60) 34 dX12_restore_60 (by decide) ?_
      exact jw_few [1, 2, 0] rfl (ih x1 v7 hx1 hv7 M6)
    · refine jw_iconst (pc := 63) dX12_restore_63 ?_
      refine jw_istore_nL (pc := 64) (lv' := (fun y => [(2, y), (0, jR G 127), (1, jI x1)])) dX12_restore_64 (jw_rc _ rfl) (by decide) (fun _ => rfl) (fun v8 hv8 => ?_)
      exact jw_few [1, 2, 0] rfl (pX12_restore_65 G jw_fu x1 v8 hx1 hv8 M)
def fX12_restore (a1 : Int) (M : jw_M) : Option (Int × jw_M) :=
  Option.bind (some (jw_up M 127 0 0)) (fun M1 => Option.bind (fX12_in a1 0 1 M1) (fun v2 => if v2 = 0 then (some ((-9000000000000000001), M1)) else (if 0 ≤ a1 ∧ a1 < 2 then if M1 144 a1 = 0 then (some ((-9000000000000000002), M1)) else (Option.bind (some 0) (fun v4 => fX12_restore_34 jw_fu a1 v4 M1)) else none)))
set_option maxRecDepth 100000 in
theorem rX12_restore (G : jw_G) (a1 : Int) (ha1 : jw_r a1) (M : jw_M) : jw_Rn G YX12_restore 2 0 0 true (fun q => q) 0 [(0, jR G 127), (1, jI a1)] [] M (fX12_restore a1 M) := by
  unfold fX12_restore
  refine jw_aloadR (pc := 0) 0 dX12_restore_0 rfl ?_
  refine jw_iconst (pc := 1) dX12_restore_1 ?_
  refine jw_putI (pc := 2) (j := 0) tyX12 rfl dX12_restore_2 jv_12 ji_12 tyX12_ok nmX12 (Or.inl jt_1231) rfl jg_127 jl_127 (by decide) (by decide) (jw_ho jg_127 (by decide)) rfl rfl (jw_rc _ rfl) rfl ?_
  refine jw_letM (fun M1 => ?_)
  refine jw_iload_n (pc := 5) 1 dX12_restore_5 rfl ?_
  refine jw_i2lr (pc := 6) dX12_restore_6 ha1 ?_
  refine jw_lconst (pc := 7) (z := 0) dX12_restore_7 rfl ?_
  refine jw_lconst (pc := 8) (z := 1) dX12_restore_8 rfl ?_
  refine jw_callSz (pc := 9) (As := [jL a1, jL 0, jL 1]) (st := []) dX12_restore_9 rfl (Nat.le_of_ble_eq_true rfl) qX12_in jt_1345 jt_1346 rfl rfl (Nat.le_of_ble_eq_true rfl) (kX12_in G a1 0 1 (jw_rq ha1) (jw_qc _ rfl) (jw_qc _ rfl) M1) (fun v2 hv2 => ?_)
  refine jw_if_ne (pc := 12) 19 dX12_restore_12 (by decide) (jw_bz hv2) (fun _ => ?_) (fun _ => ?_)
  · refine jw_ldc2 (pc := 15) (n := (-9000000000000000001)) dX12_restore_15 jt_1349 (by decide) ?_
    exact jw_ret (pc := 18) (v := (-9000000000000000001)) dX12_restore_18 (jw_qc _ rfl) rfl rfl
  · refine jw_aloadR (pc := 19) 0 dX12_restore_19 rfl ?_
    refine jw_getR (pc := 20) (j := 30) rfl dX12_restore_20 jv_12 ji_12 (Or.inl jt_1261) jg_127 jl_127 (by decide) (by decide) rfl jf_12_30 ?_
    refine jw_iload_n (pc := 23) 1 dX12_restore_23 rfl ?_
    refine jw_zald (pc := 24) dX12_restore_24 jg_144 jl_144 (jw_ho jg_144 (by decide)) ha1 rfl (fun h3 => ?_)
    refine jw_if_ne (pc := 25) 32 dX12_restore_25 (by decide) h3 (fun _ => ?_) (fun _ => ?_)
    · refine jw_ldc2 (pc := 28) (n := (-9000000000000000002)) dX12_restore_28 jt_1513 (by decide) ?_
      exact jw_ret (pc := 31) (v := (-9000000000000000002)) dX12_restore_31 (jw_qc _ rfl) rfl rfl
    · refine jw_iconst (pc := 32) dX12_restore_32 ?_
      refine jw_istore_nL (pc := 33) (lv' := (fun y => [(2, y), (0, jR G 127), (1, jI a1)])) dX12_restore_33 (jw_rc _ rfl) (by decide) (fun _ => rfl) (fun v4 hv4 => ?_)
      exact jw_few [1, 2, 0] rfl (pX12_restore_34 G jw_fu a1 v4 ha1 hv4 M1)
theorem kX12_restore (G : jw_G) (a1 : Int) (ha1 : jw_r a1) (M : jw_M) : jw_Ct G YX12_restore (some .long) 2 0 0 true (fun q => q) yX12_restore [jR G 127, jI a1] M (fX12_restore a1 M) := jw_met (by decide) rfl rfl rfl (Nat.le_of_ble_eq_true rfl) (rX12_restore G a1 ha1 M)
abbrev YX12_kindOf : jw_Y := (RX12, cX12_kindOf, 3, 1, "kindOf")
theorem qX12_kindOf : jw_cy YX12_kindOf (some .int) yX12_kindOf 1 := ⟨by decide, jt_1725, jt_14, by decide, by decide +kernel⟩
theorem dX12_kindOf_0 : decode cX12_kindOf 0 = .ok (.aload_n 0, 1) := by decide +kernel
theorem dX12_kindOf_1 : decode cX12_kindOf 1 = .ok (.getfield 25, 3) := by decide +kernel
theorem dX12_kindOf_4 : decode cX12_kindOf 4 = .ok (.bipush 42, 2) := by decide +kernel
theorem dX12_kindOf_6 : decode cX12_kindOf 6 = .ok (.iaload, 1) := by decide +kernel
theorem dX12_kindOf_7 : decode cX12_kindOf 7 = .ok (.ifCond .ne 7, 3) := by decide +kernel
theorem dX12_kindOf_10 : decode cX12_kindOf 10 = .ok (.iconst 0, 1) := by decide +kernel
theorem dX12_kindOf_11 : decode cX12_kindOf 11 = .ok (.goto 8, 3) := by decide +kernel
theorem dX12_kindOf_14 : decode cX12_kindOf 14 = .ok (.aload_n 0, 1) := by decide +kernel
theorem dX12_kindOf_15 : decode cX12_kindOf 15 = .ok (.iload_n 1, 1) := by decide +kernel
theorem dX12_kindOf_16 : decode cX12_kindOf 16 = .ok (.invokevirtual 263, 3) := by decide +kernel
theorem dX12_kindOf_19 : decode cX12_kindOf 19 = .ok (.istore_n 2, 1) := by decide +kernel
theorem dX12_kindOf_20 : decode cX12_kindOf 20 = .ok (.iload_n 2, 1) := by decide +kernel
theorem dX12_kindOf_21 : decode cX12_kindOf 21 = .ok (.ifCond .ne 7, 3) := by decide +kernel
theorem dX12_kindOf_24 : decode cX12_kindOf 24 = .ok (.iconst 1, 1) := by decide +kernel
theorem dX12_kindOf_25 : decode cX12_kindOf 25 = .ok (.goto 44, 3) := by decide +kernel
theorem dX12_kindOf_28 : decode cX12_kindOf 28 = .ok (.iload_n 2, 1) := by decide +kernel
theorem dX12_kindOf_29 : decode cX12_kindOf 29 = .ok (.iconst 1, 1) := by decide +kernel
theorem dX12_kindOf_30 : decode cX12_kindOf 30 = .ok (.if_icmp .ne 7, 3) := by decide +kernel
theorem dX12_kindOf_33 : decode cX12_kindOf 33 = .ok (.iconst 2, 1) := by decide +kernel
theorem dX12_kindOf_34 : decode cX12_kindOf 34 = .ok (.goto 35, 3) := by decide +kernel
theorem dX12_kindOf_37 : decode cX12_kindOf 37 = .ok (.aload_n 0, 1) := by decide +kernel
theorem dX12_kindOf_38 : decode cX12_kindOf 38 = .ok (.iload_n 1, 1) := by decide +kernel
theorem dX12_kindOf_39 : decode cX12_kindOf 39 = .ok (.invokevirtual 268, 3) := by decide +kernel
theorem dX12_kindOf_42 : decode cX12_kindOf 42 = .ok (.bipush 60, 2) := by decide +kernel
theorem dX12_kindOf_44 : decode cX12_kindOf 44 = .ok (.aload_n 0, 1) := by decide +kernel
theorem dX12_kindOf_45 : decode cX12_kindOf 45 = .ok (.getfield 19, 3) := by decide +kernel
theorem dX12_kindOf_48 : decode cX12_kindOf 48 = .ok (.bipush 7, 2) := by decide +kernel
theorem dX12_kindOf_50 : decode cX12_kindOf 50 = .ok (.aload_n 0, 1) := by decide +kernel
theorem dX12_kindOf_51 : decode cX12_kindOf 51 = .ok (.getfield 25, 3) := by decide +kernel
theorem dX12_kindOf_54 : decode cX12_kindOf 54 = .ok (.iconst 0, 1) := by decide +kernel
theorem dX12_kindOf_55 : decode cX12_kindOf 55 = .ok (.iload_n 1, 1) := by decide +kernel
theorem dX12_kindOf_56 : decode cX12_kindOf 56 = .ok (.iadd, 1) := by decide +kernel
theorem dX12_kindOf_57 : decode cX12_kindOf 57 = .ok (.iaload, 1) := by decide +kernel
theorem dX12_kindOf_58 : decode cX12_kindOf 58 = .ok (.iadd, 1) := by decide +kernel
theorem dX12_kindOf_59 : decode cX12_kindOf 59 = .ok (.iaload, 1) := by decide +kernel
theorem dX12_kindOf_60 : decode cX12_kindOf 60 = .ok (.imul, 1) := by decide +kernel
theorem dX12_kindOf_61 : decode cX12_kindOf 61 = .ok (.if_icmp .le 7, 3) := by decide +kernel
theorem dX12_kindOf_64 : decode cX12_kindOf 64 = .ok (.iconst 4, 1) := by decide +kernel
theorem dX12_kindOf_65 : decode cX12_kindOf 65 = .ok (.goto 4, 3) := by decide +kernel
theorem dX12_kindOf_68 : decode cX12_kindOf 68 = .ok (.iconst 3, 1) := by decide +kernel
theorem dX12_kindOf_69 : decode cX12_kindOf 69 = .ok (.ireturn, 1) := by decide +kernel
def fX12_kindOf_19 (M : jw_M) (x1 : Int) (xs0 : Int) : Option Int :=
  Option.bind (some xs0) (fun v2 => if v2 = 0 then (some 1) else (if v2 = 1 then (some 2) else (Option.bind (fX12_lostOf x1 M) (fun v3 => if 0 ≤ jw_w (0 + x1) ∧ jw_w (0 + x1) < 104 then if 0 ≤ jw_w (7 + (M 133 (jw_w (0 + x1)))) ∧ jw_w (7 + (M 133 (jw_w (0 + x1)))) < 104 then if jw_w (60 * (M 131 (jw_w (7 + (M 133 (jw_w (0 + x1))))))) < v3 then (some 4) else (some 3) else none else none))))
set_option maxRecDepth 100000 in
theorem pX12_kindOf_19 (G : jw_G) (M : jw_M) : ∀ (x1 : Int) (xs0 : Int) (hx1 : jw_r x1) (hxs0 : jw_r xs0), jw_Rn G YX12_kindOf 3 0 0 true (fun v => (v, M)) 19 [(0, jR G 127), (1, jI x1)] [jI xs0] M (fX12_kindOf_19 M x1 xs0) := by
  intro x1 xs0 hx1 hxs0
  unfold fX12_kindOf_19
  refine jw_istore_nL (pc := 19) (lv' := (fun y => [(2, y), (0, jR G 127), (1, jI x1)])) dX12_kindOf_19 hxs0 (by decide) (fun _ => rfl) (fun v2 hv2 => ?_)
  refine jw_iload_n (pc := 20) 0 dX12_kindOf_20 rfl ?_
  refine jw_if_ne (pc := 21) 28 dX12_kindOf_21 (by decide) hv2 (fun _ => ?_) (fun _ => ?_)
  · refine jw_iconst (pc := 24) dX12_kindOf_24 ?_
    refine jw_goto (pc := 25) 69 dX12_kindOf_25 (by decide) ?_
    exact jw_ret (pc := 69) (v := 1) dX12_kindOf_69 (jw_rc _ rfl) rfl rfl
  · refine jw_iload_n (pc := 28) 0 dX12_kindOf_28 rfl ?_
    refine jw_iconst (pc := 29) dX12_kindOf_29 ?_
    refine jw_ic_ne (pc := 30) 37 dX12_kindOf_30 (by decide) hv2 (jw_rc _ rfl) (fun _ => ?_) (fun _ => ?_)
    · refine jw_iconst (pc := 33) dX12_kindOf_33 ?_
      refine jw_goto (pc := 34) 69 dX12_kindOf_34 (by decide) ?_
      exact jw_ret (pc := 69) (v := 2) dX12_kindOf_69 (jw_rc _ rfl) rfl rfl
    · refine jw_aloadR (pc := 37) 1 dX12_kindOf_37 rfl ?_
      refine jw_iload_n (pc := 38) 2 dX12_kindOf_38 rfl ?_
      refine jw_callVi (pc := 39) (As := [jI x1]) (st := []) dX12_kindOf_39 rfl (Nat.le_of_ble_eq_true rfl) qX12_lostOf jt_1551 jt_1553 jp_74 rfl rfl (Nat.le_of_ble_eq_true rfl) jv_12 rfl jg_127 jl_127 (by decide) (jw_ho jg_127 (by decide)) (kX12_lostOf G x1 hx1 M) (fun v3 hv3 => ?_)
      refine jw_bipush (pc := 42) dX12_kindOf_42 rfl ?_
      refine jw_aloadR (pc := 44) 1 dX12_kindOf_44 rfl ?_
      refine jw_getR (pc := 45) (j := 5) rfl dX12_kindOf_45 jv_12 ji_12 (Or.inl jt_1236) jg_127 jl_127 (by decide) (by decide) rfl jf_12_5 ?_
      refine jw_bipush (pc := 48) dX12_kindOf_48 rfl ?_
      refine jw_aloadR (pc := 50) 1 dX12_kindOf_50 rfl ?_
      refine jw_getR (pc := 51) (j := 8) rfl dX12_kindOf_51 jv_12 ji_12 (Or.inl jt_1239) jg_127 jl_127 (by decide) (by decide) rfl jf_12_8 ?_
      refine jw_iconst (pc := 54) dX12_kindOf_54 ?_
      refine jw_iload_n (pc := 55) 2 dX12_kindOf_55 rfl ?_
      refine jw_iadd (pc := 56) dX12_kindOf_56 ?_
      refine jw_iald (pc := 57) dX12_kindOf_57 jg_133 jl_133 (jw_ho jg_133 (by decide)) (jw_wr _) rfl (fun h4 => ?_)
      refine jw_iadd (pc := 58) dX12_kindOf_58 ?_
      refine jw_iald (pc := 59) dX12_kindOf_59 jg_131 jl_131 (jw_ho jg_131 (by decide)) (jw_wr _) rfl (fun h5 => ?_)
      refine jw_imul (pc := 60) dX12_kindOf_60 ?_
      refine jw_ic_le (pc := 61) 68 dX12_kindOf_61 (by decide) hv3 (jw_wr _) (fun _ => ?_) (fun _ => ?_)
      · refine jw_iconst (pc := 64) dX12_kindOf_64 ?_
        refine jw_goto (pc := 65) 69 dX12_kindOf_65 (by decide) ?_
        exact jw_ret (pc := 69) (v := 4) dX12_kindOf_69 (jw_rc _ rfl) rfl rfl
      · refine jw_iconst (pc := 68) dX12_kindOf_68 ?_
        exact jw_ret (pc := 69) (v := 3) dX12_kindOf_69 (jw_rc _ rfl) rfl rfl
def fX12_kindOf (a1 : Int) (M : jw_M) : Option Int :=
  if 0 ≤ (42 : Int) ∧ (42 : Int) < 104 then if M 133 42 = 0 then (fX12_kindOf_19 M a1 0) else (Option.bind (fX12_becameOf a1 M) (fun v6 => fX12_kindOf_19 M a1 v6)) else none
set_option maxRecDepth 100000 in
theorem rX12_kindOf (G : jw_G) (a1 : Int) (ha1 : jw_r a1) (M : jw_M) : jw_Rn G YX12_kindOf 3 0 0 true (fun v => (v, M)) 0 [(0, jR G 127), (1, jI a1)] [] M (fX12_kindOf a1 M) := by
  unfold fX12_kindOf
  refine jw_aloadR (pc := 0) 0 dX12_kindOf_0 rfl ?_
  refine jw_getR (pc := 1) (j := 8) rfl dX12_kindOf_1 jv_12 ji_12 (Or.inl jt_1239) jg_127 jl_127 (by decide) (by decide) rfl jf_12_8 ?_
  refine jw_bipush (pc := 4) dX12_kindOf_4 rfl ?_
  refine jw_iald (pc := 6) dX12_kindOf_6 jg_133 jl_133 (jw_ho jg_133 (by decide)) (jw_rc _ rfl) rfl (fun h1 => ?_)
  refine jw_if_ne (pc := 7) 14 dX12_kindOf_7 (by decide) h1 (fun _ => ?_) (fun _ => ?_)
  · refine jw_iconst (pc := 10) dX12_kindOf_10 ?_
    refine jw_goto (pc := 11) 19 dX12_kindOf_11 (by decide) ?_
    exact jw_few [0, 1] rfl (pX12_kindOf_19 G M a1 0 ha1 (jw_rc _ rfl))
  · refine jw_aloadR (pc := 14) 0 dX12_kindOf_14 rfl ?_
    refine jw_iload_n (pc := 15) 1 dX12_kindOf_15 rfl ?_
    refine jw_callVi (pc := 16) (As := [jI a1]) (st := []) dX12_kindOf_16 rfl (Nat.le_of_ble_eq_true rfl) qX12_becameOf jt_1547 jt_1549 jp_73 rfl rfl (Nat.le_of_ble_eq_true rfl) jv_12 rfl jg_127 jl_127 (by decide) (jw_ho jg_127 (by decide)) (kX12_becameOf G a1 ha1 M) (fun v6 hv6 => ?_)
    exact jw_few [0, 1] rfl (pX12_kindOf_19 G M a1 v6 ha1 hv6)
theorem kX12_kindOf (G : jw_G) (a1 : Int) (ha1 : jw_r a1) (M : jw_M) : jw_Ct G YX12_kindOf (some .int) 3 0 0 true (fun v => (v, M)) yX12_kindOf [jR G 127, jI a1] M (fX12_kindOf a1 M) := jw_met (by decide) rfl rfl rfl (Nat.le_of_ble_eq_true rfl) (rX12_kindOf G a1 ha1 M)
abbrev YX12_isOf : jw_Y := (RX12, cX12_isOf, 2, 4, "isOf")
theorem qX12_isOf : jw_cy YX12_isOf (some .boolean) yX12_isOf 2 := ⟨by decide, jt_1732, jt_14, by decide, by decide +kernel⟩
theorem dX12_isOf_0 : decode cX12_isOf 0 = .ok (.iload_n 1, 1) := by decide +kernel
theorem dX12_isOf_1 : decode cX12_isOf 1 = .ok (.ifCond .eq 28, 3) := by decide +kernel
theorem dX12_isOf_4 : decode cX12_isOf 4 = .ok (.iload_n 0, 1) := by decide +kernel
theorem dX12_isOf_5 : decode cX12_isOf 5 = .ok (.iload_n 1, 1) := by decide +kernel
theorem dX12_isOf_6 : decode cX12_isOf 6 = .ok (.if_icmp .eq 23, 3) := by decide +kernel
theorem dX12_isOf_9 : decode cX12_isOf 9 = .ok (.iload_n 1, 1) := by decide +kernel
theorem dX12_isOf_10 : decode cX12_isOf 10 = .ok (.iconst 1, 1) := by decide +kernel
theorem dX12_isOf_11 : decode cX12_isOf 11 = .ok (.if_icmp .ne 8, 3) := by decide +kernel
theorem dX12_isOf_14 : decode cX12_isOf 14 = .ok (.iload_n 0, 1) := by decide +kernel
theorem dX12_isOf_15 : decode cX12_isOf 15 = .ok (.iconst 2, 1) := by decide +kernel
theorem dX12_isOf_16 : decode cX12_isOf 16 = .ok (.if_icmp .eq 13, 3) := by decide +kernel
theorem dX12_isOf_19 : decode cX12_isOf 19 = .ok (.iload_n 1, 1) := by decide +kernel
theorem dX12_isOf_20 : decode cX12_isOf 20 = .ok (.iconst 3, 1) := by decide +kernel
theorem dX12_isOf_21 : decode cX12_isOf 21 = .ok (.if_icmp .ne 12, 3) := by decide +kernel
theorem dX12_isOf_24 : decode cX12_isOf 24 = .ok (.iload_n 0, 1) := by decide +kernel
theorem dX12_isOf_25 : decode cX12_isOf 25 = .ok (.iconst 4, 1) := by decide +kernel
theorem dX12_isOf_26 : decode cX12_isOf 26 = .ok (.if_icmp .ne 7, 3) := by decide +kernel
theorem dX12_isOf_29 : decode cX12_isOf 29 = .ok (.iconst 1, 1) := by decide +kernel
theorem dX12_isOf_30 : decode cX12_isOf 30 = .ok (.goto 4, 3) := by decide +kernel
theorem dX12_isOf_33 : decode cX12_isOf 33 = .ok (.iconst 0, 1) := by decide +kernel
theorem dX12_isOf_34 : decode cX12_isOf 34 = .ok (.ireturn, 1) := by decide +kernel
def fX12_isOf_29 (M : jw_M) : Option Int :=
  some 1
set_option maxRecDepth 100000 in
theorem pX12_isOf_29 (G : jw_G) (M : jw_M) : jw_Rn G YX12_isOf 1 0 0 true (fun v => (v, M)) 29 [] [] M (fX12_isOf_29 M) := by
  unfold fX12_isOf_29
  refine jw_iconst (pc := 29) dX12_isOf_29 ?_
  refine jw_goto (pc := 30) 34 dX12_isOf_30 (by decide) ?_
  exact jw_ret (pc := 34) (v := 1) dX12_isOf_34 (Or.inr rfl) rfl rfl
def fX12_isOf_19 (M : jw_M) (x0 : Int) (x1 : Int) : Option Int :=
  if x1 = 3 then (if x0 = 4 then (fX12_isOf_29 M) else (some 0)) else (some 0)
set_option maxRecDepth 100000 in
theorem pX12_isOf_19 (G : jw_G) (M : jw_M) : ∀ (x0 : Int) (x1 : Int) (hx0 : jw_r x0) (hx1 : jw_r x1), jw_Rn G YX12_isOf 1 0 0 true (fun v => (v, M)) 19 [(0, jI x0), (1, jI x1)] [] M (fX12_isOf_19 M x0 x1) := by
  intro x0 x1 hx0 hx1
  unfold fX12_isOf_19
  refine jw_iload_n (pc := 19) 1 dX12_isOf_19 rfl ?_
  refine jw_iconst (pc := 20) dX12_isOf_20 ?_
  refine jw_ic_ne (pc := 21) 33 dX12_isOf_21 (by decide) hx1 (jw_rc _ rfl) (fun _ => ?_) (fun _ => ?_)
  · refine jw_iload_n (pc := 24) 0 dX12_isOf_24 rfl ?_
    refine jw_iconst (pc := 25) dX12_isOf_25 ?_
    refine jw_ic_ne (pc := 26) 33 dX12_isOf_26 (by decide) hx0 (jw_rc _ rfl) (fun _ => ?_) (fun _ => ?_)
    · exact jw_few [] rfl (pX12_isOf_29 G M)
    · refine jw_iconst (pc := 33) dX12_isOf_33 ?_
      exact jw_ret (pc := 34) (v := 0) dX12_isOf_34 (Or.inl rfl) rfl rfl
  · refine jw_iconst (pc := 33) dX12_isOf_33 ?_
    exact jw_ret (pc := 34) (v := 0) dX12_isOf_34 (Or.inl rfl) rfl rfl
def fX12_isOf (a1 : Int) (a2 : Int) (M : jw_M) : Option Int :=
  if a2 = 0 then (fX12_isOf_29 M) else (if a1 = a2 then (fX12_isOf_29 M) else (if a2 = 1 then (if a1 = 2 then (fX12_isOf_29 M) else (fX12_isOf_19 M a1 a2)) else (fX12_isOf_19 M a1 a2)))
set_option maxRecDepth 100000 in
theorem rX12_isOf (G : jw_G) (a1 : Int) (a2 : Int) (ha1 : jw_r a1) (ha2 : jw_r a2) (M : jw_M) : jw_Rn G YX12_isOf 1 0 0 true (fun v => (v, M)) 0 [(0, jI a1), (1, jI a2)] [] M (fX12_isOf a1 a2 M) := by
  unfold fX12_isOf
  refine jw_iload_n (pc := 0) 1 dX12_isOf_0 rfl ?_
  refine jw_if_eq (pc := 1) 29 dX12_isOf_1 (by decide) ha2 (fun _ => ?_) (fun _ => ?_)
  · exact jw_few [] rfl (pX12_isOf_29 G M)
  · refine jw_iload_n (pc := 4) 0 dX12_isOf_4 rfl ?_
    refine jw_iload_n (pc := 5) 1 dX12_isOf_5 rfl ?_
    refine jw_ic_eq (pc := 6) 29 dX12_isOf_6 (by decide) ha1 ha2 (fun _ => ?_) (fun _ => ?_)
    · exact jw_few [] rfl (pX12_isOf_29 G M)
    · refine jw_iload_n (pc := 9) 1 dX12_isOf_9 rfl ?_
      refine jw_iconst (pc := 10) dX12_isOf_10 ?_
      refine jw_ic_ne (pc := 11) 19 dX12_isOf_11 (by decide) ha2 (jw_rc _ rfl) (fun _ => ?_) (fun _ => ?_)
      · refine jw_iload_n (pc := 14) 0 dX12_isOf_14 rfl ?_
        refine jw_iconst (pc := 15) dX12_isOf_15 ?_
        refine jw_ic_eq (pc := 16) 29 dX12_isOf_16 (by decide) ha1 (jw_rc _ rfl) (fun _ => ?_) (fun _ => ?_)
        · exact jw_few [] rfl (pX12_isOf_29 G M)
        · exact jw_few [0, 1] rfl (pX12_isOf_19 G M a1 a2 ha1 ha2)
      · exact jw_few [0, 1] rfl (pX12_isOf_19 G M a1 a2 ha1 ha2)
theorem kX12_isOf (G : jw_G) (a1 : Int) (a2 : Int) (ha1 : jw_r a1) (ha2 : jw_r a2) (M : jw_M) : jw_Ct G YX12_isOf (some .boolean) 1 0 0 true (fun v => (v, M)) yX12_isOf [jI a1, jI a2] M (fX12_isOf a1 a2 M) := jw_met (by decide) rfl rfl rfl (Nat.le_of_ble_eq_true rfl) (rX12_isOf G a1 a2 ha1 ha2 M)
abbrev YX12_kind : jw_Y := (RX12, cX12_kind, 2, 2, "kind")
theorem qX12_kind : jw_cy YX12_kind (some .long) yX12_kind 1 := ⟨by decide, jt_1721, jt_14, by decide, by decide +kernel⟩
theorem dX12_kind_0 : decode cX12_kind 0 = .ok (.aload_n 0, 1) := by decide +kernel
theorem dX12_kind_1 : decode cX12_kind 1 = .ok (.iconst 0, 1) := by decide +kernel
theorem dX12_kind_2 : decode cX12_kind 2 = .ok (.putfield 71, 3) := by decide +kernel
theorem dX12_kind_5 : decode cX12_kind 5 = .ok (.aload_n 0, 1) := by decide +kernel
theorem dX12_kind_6 : decode cX12_kind 6 = .ok (.iload_n 1, 1) := by decide +kernel
theorem dX12_kind_7 : decode cX12_kind 7 = .ok (.invokevirtual 229, 3) := by decide +kernel
theorem dX12_kind_10 : decode cX12_kind 10 = .ok (.ifCond .eq 12, 3) := by decide +kernel
theorem dX12_kind_13 : decode cX12_kind 13 = .ok (.aload_n 0, 1) := by decide +kernel
theorem dX12_kind_14 : decode cX12_kind 14 = .ok (.iload_n 1, 1) := by decide +kernel
theorem dX12_kind_15 : decode cX12_kind 15 = .ok (.invokevirtual 349, 3) := by decide +kernel
theorem dX12_kind_18 : decode cX12_kind 18 = .ok (.i2l, 1) := by decide +kernel
theorem dX12_kind_19 : decode cX12_kind 19 = .ok (.goto 6, 3) := by decide +kernel
theorem dX12_kind_22 : decode cX12_kind 22 = .ok (.ldc2_w 92, 3) := by decide +kernel
theorem dX12_kind_25 : decode cX12_kind 25 = .ok (.lreturn, 1) := by decide +kernel
def fX12_kind (a1 : Int) (M : jw_M) : Option (Int × jw_M) :=
  Option.bind (some (jw_up M 127 0 0)) (fun M1 => Option.bind (fX12_isSeller a1 M1) (fun v2 => if v2 = 0 then (some ((-9000000000000000001), M1)) else (Option.bind (fX12_kindOf a1 M1) (fun v3 => some (v3, M1)))))
set_option maxRecDepth 100000 in
theorem rX12_kind (G : jw_G) (a1 : Int) (ha1 : jw_r a1) (M : jw_M) : jw_Rn G YX12_kind 4 0 0 true (fun q => q) 0 [(0, jR G 127), (1, jI a1)] [] M (fX12_kind a1 M) := by
  unfold fX12_kind
  refine jw_aloadR (pc := 0) 0 dX12_kind_0 rfl ?_
  refine jw_iconst (pc := 1) dX12_kind_1 ?_
  refine jw_putI (pc := 2) (j := 0) tyX12 rfl dX12_kind_2 jv_12 ji_12 tyX12_ok nmX12 (Or.inl jt_1231) rfl jg_127 jl_127 (by decide) (by decide) (jw_ho jg_127 (by decide)) rfl rfl (jw_rc _ rfl) rfl ?_
  refine jw_letM (fun M1 => ?_)
  refine jw_aloadR (pc := 5) 0 dX12_kind_5 rfl ?_
  refine jw_iload_n (pc := 6) 1 dX12_kind_6 rfl ?_
  refine jw_callVz (pc := 7) (As := [jI a1]) (st := []) dX12_kind_7 rfl (Nat.le_of_ble_eq_true rfl) qX12_isSeller jt_1487 jt_1489 jp_64 rfl rfl (Nat.le_of_ble_eq_true rfl) jv_12 rfl jg_127 jl_127 (by decide) (jw_ho jg_127 (by decide)) (kX12_isSeller G a1 ha1 M1) (fun v2 hv2 => ?_)
  refine jw_if_eq (pc := 10) 22 dX12_kind_10 (by decide) (jw_bz hv2) (fun _ => ?_) (fun _ => ?_)
  · refine jw_ldc2 (pc := 22) (n := (-9000000000000000001)) dX12_kind_22 jt_1349 (by decide) ?_
    exact jw_ret (pc := 25) (v := (-9000000000000000001)) dX12_kind_25 (jw_qc _ rfl) rfl rfl
  · refine jw_aloadR (pc := 13) 0 dX12_kind_13 rfl ?_
    refine jw_iload_n (pc := 14) 1 dX12_kind_14 rfl ?_
    refine jw_callVi (pc := 15) (As := [jI a1]) (st := []) dX12_kind_15 rfl (Nat.le_of_ble_eq_true rfl) qX12_kindOf jt_1722 jt_1724 jp_93 rfl rfl (Nat.le_of_ble_eq_true rfl) jv_12 rfl jg_127 jl_127 (by decide) (jw_ho jg_127 (by decide)) (kX12_kindOf G a1 ha1 M1) (fun v3 hv3 => ?_)
    refine jw_i2lr (pc := 18) dX12_kind_18 hv3 ?_
    refine jw_goto (pc := 19) 25 dX12_kind_19 (by decide) ?_
    exact jw_ret (pc := 25) (v := v3) dX12_kind_25 (jw_rq hv3) rfl rfl
theorem kX12_kind (G : jw_G) (a1 : Int) (ha1 : jw_r a1) (M : jw_M) : jw_Ct G YX12_kind (some .long) 4 0 0 true (fun q => q) yX12_kind [jR G 127, jI a1] M (fX12_kind a1 M) := jw_met (by decide) rfl rfl rfl (Nat.le_of_ble_eq_true rfl) (rX12_kind G a1 ha1 M)
abbrev YX12_as : jw_Y := (RX12, cX12_as, 3, 2, "as")
theorem qX12_as : jw_cy YX12_as (some .long) yX12_as 2 := ⟨by decide, jt_1729, jt_14, by decide, by decide +kernel⟩
theorem dX12_as_0 : decode cX12_as 0 = .ok (.aload_n 0, 1) := by decide +kernel
theorem dX12_as_1 : decode cX12_as 1 = .ok (.iconst 0, 1) := by decide +kernel
theorem dX12_as_2 : decode cX12_as 2 = .ok (.putfield 71, 3) := by decide +kernel
theorem dX12_as_5 : decode cX12_as 5 = .ok (.aload_n 0, 1) := by decide +kernel
theorem dX12_as_6 : decode cX12_as 6 = .ok (.iload_n 1, 1) := by decide +kernel
theorem dX12_as_7 : decode cX12_as 7 = .ok (.invokevirtual 229, 3) := by decide +kernel
theorem dX12_as_10 : decode cX12_as 10 = .ok (.ifCond .eq 15, 3) := by decide +kernel
theorem dX12_as_13 : decode cX12_as 13 = .ok (.iload_n 2, 1) := by decide +kernel
theorem dX12_as_14 : decode cX12_as 14 = .ok (.i2l, 1) := by decide +kernel
theorem dX12_as_15 : decode cX12_as 15 = .ok (.lconst 0, 1) := by decide +kernel
theorem dX12_as_16 : decode cX12_as 16 = .ok (.ldc2_w 232, 3) := by decide +kernel
theorem dX12_as_19 : decode cX12_as 19 = .ok (.invokestatic 82, 3) := by decide +kernel
theorem dX12_as_22 : decode cX12_as 22 = .ok (.ifCond .ne 7, 3) := by decide +kernel
theorem dX12_as_25 : decode cX12_as 25 = .ok (.ldc2_w 92, 3) := by decide +kernel
theorem dX12_as_28 : decode cX12_as 28 = .ok (.lreturn, 1) := by decide +kernel
theorem dX12_as_29 : decode cX12_as 29 = .ok (.aload_n 0, 1) := by decide +kernel
theorem dX12_as_30 : decode cX12_as 30 = .ok (.iconst 0, 1) := by decide +kernel
theorem dX12_as_31 : decode cX12_as 31 = .ok (.putfield 75, 3) := by decide +kernel
theorem dX12_as_34 : decode cX12_as 34 = .ok (.aload_n 0, 1) := by decide +kernel
theorem dX12_as_35 : decode cX12_as 35 = .ok (.iload_n 1, 1) := by decide +kernel
theorem dX12_as_36 : decode cX12_as 36 = .ok (.invokevirtual 349, 3) := by decide +kernel
theorem dX12_as_39 : decode cX12_as 39 = .ok (.iload_n 2, 1) := by decide +kernel
theorem dX12_as_40 : decode cX12_as 40 = .ok (.invokestatic 352, 3) := by decide +kernel
theorem dX12_as_43 : decode cX12_as 43 = .ok (.ifCond .eq 8, 3) := by decide +kernel
theorem dX12_as_46 : decode cX12_as 46 = .ok (.iload_n 1, 1) := by decide +kernel
theorem dX12_as_47 : decode cX12_as 47 = .ok (.i2l, 1) := by decide +kernel
theorem dX12_as_48 : decode cX12_as 48 = .ok (.goto 8, 3) := by decide +kernel
theorem dX12_as_51 : decode cX12_as 51 = .ok (.aload_n 0, 1) := by decide +kernel
theorem dX12_as_52 : decode cX12_as 52 = .ok (.iconst 3, 1) := by decide +kernel
theorem dX12_as_53 : decode cX12_as 53 = .ok (.invokevirtual 94, 3) := by decide +kernel
theorem dX12_as_56 : decode cX12_as 56 = .ok (.lreturn, 1) := by decide +kernel
def fX12_as (a1 : Int) (a2 : Int) (M : jw_M) : Option (Int × jw_M) :=
  Option.bind (some (jw_up M 127 0 0)) (fun M1 => Option.bind (fX12_isSeller a1 M1) (fun v2 => if v2 = 0 then (some ((-9000000000000000001), M1)) else (Option.bind (fX12_in a2 0 4 M1) (fun v3 => if v3 = 0 then (some ((-9000000000000000001), M1)) else (Option.bind (some (jw_up M1 127 1 0)) (fun M4 => Option.bind (fX12_kindOf a1 M4) (fun v5 => Option.bind (fX12_isOf v5 a2 M4) (fun v6 => if v6 = 0 then (jw_b2 (fX12_finding 3 M4) (fun v7 M8 => some (v7, M8))) else (some (a1, M4))))))))))
set_option maxRecDepth 100000 in
theorem rX12_as (G : jw_G) (a1 : Int) (a2 : Int) (ha1 : jw_r a1) (ha2 : jw_r a2) (M : jw_M) : jw_Rn G YX12_as 4 0 0 true (fun q => q) 0 [(0, jR G 127), (1, jI a1), (2, jI a2)] [] M (fX12_as a1 a2 M) := by
  unfold fX12_as
  refine jw_aloadR (pc := 0) 0 dX12_as_0 rfl ?_
  refine jw_iconst (pc := 1) dX12_as_1 ?_
  refine jw_putI (pc := 2) (j := 0) tyX12 rfl dX12_as_2 jv_12 ji_12 tyX12_ok nmX12 (Or.inl jt_1231) rfl jg_127 jl_127 (by decide) (by decide) (jw_ho jg_127 (by decide)) rfl rfl (jw_rc _ rfl) rfl ?_
  refine jw_letM (fun M1 => ?_)
  refine jw_aloadR (pc := 5) 0 dX12_as_5 rfl ?_
  refine jw_iload_n (pc := 6) 1 dX12_as_6 rfl ?_
  refine jw_callVz (pc := 7) (As := [jI a1]) (st := []) dX12_as_7 rfl (Nat.le_of_ble_eq_true rfl) qX12_isSeller jt_1487 jt_1489 jp_64 rfl rfl (Nat.le_of_ble_eq_true rfl) jv_12 rfl jg_127 jl_127 (by decide) (jw_ho jg_127 (by decide)) (kX12_isSeller G a1 ha1 M1) (fun v2 hv2 => ?_)
  refine jw_if_eq (pc := 10) 25 dX12_as_10 (by decide) (jw_bz hv2) (fun _ => ?_) (fun _ => ?_)
  · refine jw_ldc2 (pc := 25) (n := (-9000000000000000001)) dX12_as_25 jt_1349 (by decide) ?_
    exact jw_ret (pc := 28) (v := (-9000000000000000001)) dX12_as_28 (jw_qc _ rfl) rfl rfl
  · refine jw_iload_n (pc := 13) 2 dX12_as_13 rfl ?_
    refine jw_i2lr (pc := 14) dX12_as_14 ha2 ?_
    refine jw_lconst (pc := 15) (z := 0) dX12_as_15 rfl ?_
    refine jw_ldc2 (pc := 16) (n := 4) dX12_as_16 jt_1495 (by decide) ?_
    refine jw_callSz (pc := 19) (As := [jL a2, jL 0, jL 4]) (st := []) dX12_as_19 rfl (Nat.le_of_ble_eq_true rfl) qX12_in jt_1345 jt_1346 rfl rfl (Nat.le_of_ble_eq_true rfl) (kX12_in G a2 0 4 (jw_rq ha2) (jw_qc _ rfl) (jw_qc _ rfl) M1) (fun v3 hv3 => ?_)
    refine jw_if_ne (pc := 22) 29 dX12_as_22 (by decide) (jw_bz hv3) (fun _ => ?_) (fun _ => ?_)
    · refine jw_ldc2 (pc := 25) (n := (-9000000000000000001)) dX12_as_25 jt_1349 (by decide) ?_
      exact jw_ret (pc := 28) (v := (-9000000000000000001)) dX12_as_28 (jw_qc _ rfl) rfl rfl
    · refine jw_aloadR (pc := 29) 0 dX12_as_29 rfl ?_
      refine jw_iconst (pc := 30) dX12_as_30 ?_
      refine jw_putI (pc := 31) (j := 1) tyX12 rfl dX12_as_31 jv_12 ji_12 tyX12_ok nmX12 (Or.inl jt_1232) rfl jg_127 jl_127 (by decide) (by decide) (jw_ho jg_127 (by decide)) rfl rfl (jw_rc _ rfl) rfl ?_
      refine jw_letM (fun M4 => ?_)
      refine jw_aloadR (pc := 34) 0 dX12_as_34 rfl ?_
      refine jw_iload_n (pc := 35) 1 dX12_as_35 rfl ?_
      refine jw_callVi (pc := 36) (As := [jI a1]) (st := []) dX12_as_36 rfl (Nat.le_of_ble_eq_true rfl) qX12_kindOf jt_1722 jt_1724 jp_93 rfl rfl (Nat.le_of_ble_eq_true rfl) jv_12 rfl jg_127 jl_127 (by decide) (jw_ho jg_127 (by decide)) (kX12_kindOf G a1 ha1 M4) (fun v5 hv5 => ?_)
      refine jw_iload_n (pc := 39) 2 dX12_as_39 rfl ?_
      refine jw_callSz (pc := 40) (As := [jI v5, jI a2]) (st := []) dX12_as_40 rfl (Nat.le_of_ble_eq_true rfl) qX12_isOf jt_1730 jt_1731 rfl rfl (Nat.le_of_ble_eq_true rfl) (kX12_isOf G v5 a2 hv5 ha2 M4) (fun v6 hv6 => ?_)
      refine jw_if_eq (pc := 43) 51 dX12_as_43 (by decide) (jw_bz hv6) (fun _ => ?_) (fun _ => ?_)
      · refine jw_aloadR (pc := 51) 0 dX12_as_51 rfl ?_
        refine jw_iconst (pc := 52) dX12_as_52 ?_
        refine jw_callVMl (pc := 53) (As := [jI 3]) (st := []) dX12_as_53 rfl (Nat.le_of_ble_eq_true rfl) qX12_finding jt_1350 jt_1352 jp_43 rfl rfl (Nat.le_of_ble_eq_true rfl) jv_12 rfl jg_127 jl_127 (by decide) (jw_ho jg_127 (by decide)) (kX12_finding G 3 (jw_rc _ rfl) M4) (fun v7 M8 hv7 => ?_)
        exact jw_ret (pc := 56) (v := v7) dX12_as_56 hv7 rfl rfl
      · refine jw_iload_n (pc := 46) 1 dX12_as_46 rfl ?_
        refine jw_i2lr (pc := 47) dX12_as_47 ha1 ?_
        refine jw_goto (pc := 48) 56 dX12_as_48 (by decide) ?_
        exact jw_ret (pc := 56) (v := a1) dX12_as_56 (jw_rq ha1) rfl rfl
theorem kX12_as (G : jw_G) (a1 : Int) (a2 : Int) (ha1 : jw_r a1) (ha2 : jw_r a2) (M : jw_M) : jw_Ct G YX12_as (some .long) 4 0 0 true (fun q => q) yX12_as [jR G 127, jI a1, jI a2] M (fX12_as a1 a2 M) := jw_met (by decide) rfl rfl rfl (Nat.le_of_ble_eq_true rfl) (rX12_as G a1 a2 ha1 ha2 M)
abbrev YX12_began : jw_Y := (RX12, cX12_began, 2, 0, "began")
theorem qX12_began : jw_cy YX12_began none yX12_began 1 := ⟨by decide, jt_1748, jt_14, by decide, by decide +kernel⟩
theorem dX12_began_0 : decode cX12_began 0 = .ok (.aload_n 0, 1) := by decide +kernel
theorem dX12_began_1 : decode cX12_began 1 = .ok (.getfield 355, 3) := by decide +kernel
theorem dX12_began_4 : decode cX12_began 4 = .ok (.bipush 16, 2) := by decide +kernel
theorem dX12_began_6 : decode cX12_began 6 = .ok (.if_icmp .ge 23, 3) := by decide +kernel
theorem dX12_began_9 : decode cX12_began 9 = .ok (.aload_n 0, 1) := by decide +kernel
theorem dX12_began_10 : decode cX12_began 10 = .ok (.getfield 68, 3) := by decide +kernel
theorem dX12_began_13 : decode cX12_began 13 = .ok (.aload_n 0, 1) := by decide +kernel
theorem dX12_began_14 : decode cX12_began 14 = .ok (.getfield 355, 3) := by decide +kernel
theorem dX12_began_17 : decode cX12_began 17 = .ok (.iload_n 1, 1) := by decide +kernel
theorem dX12_began_18 : decode cX12_began 18 = .ok (.iastore, 1) := by decide +kernel
theorem dX12_began_19 : decode cX12_began 19 = .ok (.aload_n 0, 1) := by decide +kernel
theorem dX12_began_20 : decode cX12_began 20 = .ok (.dup, 1) := by decide +kernel
theorem dX12_began_21 : decode cX12_began 21 = .ok (.getfield 355, 3) := by decide +kernel
theorem dX12_began_24 : decode cX12_began 24 = .ok (.iconst 1, 1) := by decide +kernel
theorem dX12_began_25 : decode cX12_began 25 = .ok (.iadd, 1) := by decide +kernel
theorem dX12_began_26 : decode cX12_began 26 = .ok (.putfield 355, 3) := by decide +kernel
theorem dX12_began_29 : decode cX12_began 29 = .ok (.return_, 1) := by decide +kernel
def fX12_began (a1 : Int) (M : jw_M) : Option jw_M :=
  if M 127 34 < 16 then (if 0 ≤ M 127 34 ∧ M 127 34 < 16 then Option.bind (some (jw_up M 147 (M 127 34) a1)) (fun M3 => Option.bind (some (jw_up M3 127 34 (jw_w ((M3 127 34) + 1)))) (fun M5 => some M5)) else none) else (some M)
set_option maxRecDepth 100000 in
theorem rX12_began (G : jw_G) (a1 : Int) (ha1 : jw_r a1) (M : jw_M) : jw_Rn G YX12_began 1 0 0 true (fun M1 => (0, M1)) 0 [(0, jR G 127), (1, jI a1)] [] M (fX12_began a1 M) := by
  unfold fX12_began
  refine jw_aloadR (pc := 0) 0 dX12_began_0 rfl ?_
  refine jw_getI (pc := 1) (j := 34) rfl dX12_began_1 jv_12 ji_12 (Or.inl jt_1265) jg_127 jl_127 (by decide) (by decide) (jw_ho jg_127 (by decide)) (Or.inl rfl) rfl (fun h1 => ?_)
  refine jw_bipush (pc := 4) dX12_began_4 rfl ?_
  refine jw_ic_ge (pc := 6) 29 dX12_began_6 (by decide) h1 (jw_rc _ rfl) (fun _ => ?_) (fun _ => ?_)
  · refine jw_aloadR (pc := 9) 0 dX12_began_9 rfl ?_
    refine jw_getR (pc := 10) (j := 33) rfl dX12_began_10 jv_12 ji_12 (Or.inl jt_1264) jg_127 jl_127 (by decide) (by decide) rfl jf_12_33 ?_
    refine jw_aloadR (pc := 13) 0 dX12_began_13 rfl ?_
    refine jw_getI (pc := 14) (j := 34) rfl dX12_began_14 jv_12 ji_12 (Or.inl jt_1265) jg_127 jl_127 (by decide) (by decide) (jw_ho jg_127 (by decide)) (Or.inl rfl) rfl (fun h2 => ?_)
    refine jw_iload_n (pc := 17) 1 dX12_began_17 rfl ?_
    refine jw_iast (pc := 18) dX12_began_18 jg_147 jl_147 (jw_ho jg_147 (by decide)) h2 ha1 rfl ?_
    refine jw_letM (fun M3 => ?_)
    refine jw_aloadR (pc := 19) 0 dX12_began_19 rfl ?_
    refine jw_dup (pc := 20) dX12_began_20 rfl ?_
    refine jw_getI (pc := 21) (j := 34) rfl dX12_began_21 jv_12 ji_12 (Or.inl jt_1265) jg_127 jl_127 (by decide) (by decide) (jw_ho jg_127 (by decide)) (Or.inl rfl) rfl (fun h4 => ?_)
    refine jw_iconst (pc := 24) dX12_began_24 ?_
    refine jw_iadd (pc := 25) dX12_began_25 ?_
    refine jw_putI (pc := 26) (j := 34) tyX12 rfl dX12_began_26 jv_12 ji_12 tyX12_ok nmX12 (Or.inl jt_1265) rfl jg_127 jl_127 (by decide) (by decide) (jw_ho jg_127 (by decide)) rfl rfl (jw_wr _) rfl ?_
    refine jw_letM (fun M5 => ?_)
    exact jw_ret (pc := 29) (v := 0) dX12_began_29 trivial rfl rfl
  · exact jw_ret (pc := 29) (v := 0) dX12_began_29 trivial rfl rfl
theorem kX12_began (G : jw_G) (a1 : Int) (ha1 : jw_r a1) (M : jw_M) : jw_Ct G YX12_began none 1 0 0 true (fun M1 => (0, M1)) yX12_began [jR G 127, jI a1] M (fX12_began a1 M) := jw_met (by decide) rfl rfl rfl (Nat.le_of_ble_eq_true rfl) (rX12_began G a1 ha1 M)
abbrev YX12_caughtSize : jw_Y := (RX12, cX12_caughtSize, 3, 1, "caughtSize")
theorem qX12_caughtSize : jw_cy YX12_caughtSize (some .int) yX12_caughtSize 2 := ⟨by decide, jt_1744, jt_14, by decide, by decide +kernel⟩
theorem dX12_caughtSize_0 : decode cX12_caughtSize 0 = .ok (.iload_n 2, 1) := by decide +kernel
theorem dX12_caughtSize_1 : decode cX12_caughtSize 1 = .ok (.iconst 4, 1) := by decide +kernel
theorem dX12_caughtSize_2 : decode cX12_caughtSize 2 = .ok (.if_icmp .ne 9, 3) := by decide +kernel
theorem dX12_caughtSize_5 : decode cX12_caughtSize 5 = .ok (.aload_n 0, 1) := by decide +kernel
theorem dX12_caughtSize_6 : decode cX12_caughtSize 6 = .ok (.bipush 14, 2) := by decide +kernel
theorem dX12_caughtSize_8 : decode cX12_caughtSize 8 = .ok (.invokevirtual 358, 3) := by decide +kernel
theorem dX12_caughtSize_11 : decode cX12_caughtSize 11 = .ok (.aload_n 0, 1) := by decide +kernel
theorem dX12_caughtSize_12 : decode cX12_caughtSize 12 = .ok (.bipush 13, 2) := by decide +kernel
theorem dX12_caughtSize_14 : decode cX12_caughtSize 14 = .ok (.invokevirtual 358, 3) := by decide +kernel
theorem dX12_caughtSize_17 : decode cX12_caughtSize 17 = .ok (.aload_n 0, 1) := by decide +kernel
theorem dX12_caughtSize_18 : decode cX12_caughtSize 18 = .ok (.bipush 10, 2) := by decide +kernel
theorem dX12_caughtSize_20 : decode cX12_caughtSize 20 = .ok (.invokevirtual 358, 3) := by decide +kernel
theorem dX12_caughtSize_23 : decode cX12_caughtSize 23 = .ok (.iload_n 2, 1) := by decide +kernel
theorem dX12_caughtSize_24 : decode cX12_caughtSize 24 = .ok (.iconst 4, 1) := by decide +kernel
theorem dX12_caughtSize_25 : decode cX12_caughtSize 25 = .ok (.if_icmp .ne 14, 3) := by decide +kernel
theorem dX12_caughtSize_28 : decode cX12_caughtSize 28 = .ok (.bipush (-2), 2) := by decide +kernel
theorem dX12_caughtSize_30 : decode cX12_caughtSize 30 = .ok (.aload_n 0, 1) := by decide +kernel
theorem dX12_caughtSize_31 : decode cX12_caughtSize 31 = .ok (.iload_n 1, 1) := by decide +kernel
theorem dX12_caughtSize_32 : decode cX12_caughtSize 32 = .ok (.invokevirtual 268, 3) := by decide +kernel
theorem dX12_caughtSize_35 : decode cX12_caughtSize 35 = .ok (.imul, 1) := by decide +kernel
theorem dX12_caughtSize_36 : decode cX12_caughtSize 36 = .ok (.goto 9, 3) := by decide +kernel
theorem dX12_caughtSize_39 : decode cX12_caughtSize 39 = .ok (.aload_n 0, 1) := by decide +kernel
theorem dX12_caughtSize_40 : decode cX12_caughtSize 40 = .ok (.iload_n 1, 1) := by decide +kernel
theorem dX12_caughtSize_41 : decode cX12_caughtSize 41 = .ok (.invokevirtual 268, 3) := by decide +kernel
theorem dX12_caughtSize_44 : decode cX12_caughtSize 44 = .ok (.ineg, 1) := by decide +kernel
theorem dX12_caughtSize_45 : decode cX12_caughtSize 45 = .ok (.ireturn, 1) := by decide +kernel
def fX12_caughtSize_11 (x1 : Int) (x2 : Int) (M : jw_M) : Option (Int × jw_M) :=
  Option.bind (fX12_began 13 M) (fun M2 => Option.bind (fX12_began 10 M2) (fun M3 => if x2 = 4 then (Option.bind (fX12_lostOf x1 M3) (fun v4 => some (jw_w ((-2) * v4), M3))) else (Option.bind (fX12_lostOf x1 M3) (fun v5 => some (jw_w (-v5), M3)))))
set_option maxRecDepth 100000 in
theorem pX12_caughtSize_11 (G : jw_G) : ∀ (x1 : Int) (x2 : Int) (hx1 : jw_r x1) (hx2 : jw_r x2) (M : jw_M), jw_Rn G YX12_caughtSize 3 0 0 true (fun q => q) 11 [(0, jR G 127), (1, jI x1), (2, jI x2)] [] M (fX12_caughtSize_11 x1 x2 M) := by
  intro x1 x2 hx1 hx2 M
  unfold fX12_caughtSize_11
  refine jw_aloadR (pc := 11) 0 dX12_caughtSize_11 rfl ?_
  refine jw_bipush (pc := 12) dX12_caughtSize_12 rfl ?_
  refine jw_callVM (pc := 14) (As := [jI 13]) (st := []) dX12_caughtSize_14 rfl (Nat.le_of_ble_eq_true rfl) qX12_began jt_1745 jt_1747 jp_96 rfl rfl (Nat.le_of_ble_eq_true rfl) jv_12 rfl jg_127 jl_127 (by decide) (jw_ho jg_127 (by decide)) (kX12_began G 13 (jw_rc _ rfl) M) (fun M2 => ?_)
  refine jw_aloadR (pc := 17) 0 dX12_caughtSize_17 rfl ?_
  refine jw_bipush (pc := 18) dX12_caughtSize_18 rfl ?_
  refine jw_callVM (pc := 20) (As := [jI 10]) (st := []) dX12_caughtSize_20 rfl (Nat.le_of_ble_eq_true rfl) qX12_began jt_1745 jt_1747 jp_96 rfl rfl (Nat.le_of_ble_eq_true rfl) jv_12 rfl jg_127 jl_127 (by decide) (jw_ho jg_127 (by decide)) (kX12_began G 10 (jw_rc _ rfl) M2) (fun M3 => ?_)
  refine jw_iload_n (pc := 23) 2 dX12_caughtSize_23 rfl ?_
  refine jw_iconst (pc := 24) dX12_caughtSize_24 ?_
  refine jw_ic_ne (pc := 25) 39 dX12_caughtSize_25 (by decide) hx2 (jw_rc _ rfl) (fun _ => ?_) (fun _ => ?_)
  · refine jw_bipush (pc := 28) dX12_caughtSize_28 rfl ?_
    refine jw_aloadR (pc := 30) 0 dX12_caughtSize_30 rfl ?_
    refine jw_iload_n (pc := 31) 1 dX12_caughtSize_31 rfl ?_
    refine jw_callVi (pc := 32) (As := [jI x1]) (st := [jI (-2)]) dX12_caughtSize_32 rfl (Nat.le_of_ble_eq_true rfl) qX12_lostOf jt_1551 jt_1553 jp_74 rfl rfl (Nat.le_of_ble_eq_true rfl) jv_12 rfl jg_127 jl_127 (by decide) (jw_ho jg_127 (by decide)) (kX12_lostOf G x1 hx1 M3) (fun v4 hv4 => ?_)
    refine jw_imul (pc := 35) dX12_caughtSize_35 ?_
    refine jw_goto (pc := 36) 45 dX12_caughtSize_36 (by decide) ?_
    exact jw_ret (pc := 45) (v := jw_w ((-2) * v4)) dX12_caughtSize_45 (jw_wr _) rfl rfl
  · refine jw_aloadR (pc := 39) 0 dX12_caughtSize_39 rfl ?_
    refine jw_iload_n (pc := 40) 1 dX12_caughtSize_40 rfl ?_
    refine jw_callVi (pc := 41) (As := [jI x1]) (st := []) dX12_caughtSize_41 rfl (Nat.le_of_ble_eq_true rfl) qX12_lostOf jt_1551 jt_1553 jp_74 rfl rfl (Nat.le_of_ble_eq_true rfl) jv_12 rfl jg_127 jl_127 (by decide) (jw_ho jg_127 (by decide)) (kX12_lostOf G x1 hx1 M3) (fun v5 hv5 => ?_)
    refine jw_ineg (pc := 44) dX12_caughtSize_44 ?_
    exact jw_ret (pc := 45) (v := jw_w (-v5)) dX12_caughtSize_45 (jw_wr _) rfl rfl
def fX12_caughtSize (a1 : Int) (a2 : Int) (M : jw_M) : Option (Int × jw_M) :=
  if a2 = 4 then (Option.bind (fX12_began 14 M) (fun M1 => fX12_caughtSize_11 a1 a2 M1)) else (fX12_caughtSize_11 a1 a2 M)
set_option maxRecDepth 100000 in
theorem rX12_caughtSize (G : jw_G) (a1 : Int) (a2 : Int) (ha1 : jw_r a1) (ha2 : jw_r a2) (M : jw_M) : jw_Rn G YX12_caughtSize 3 0 0 true (fun q => q) 0 [(0, jR G 127), (1, jI a1), (2, jI a2)] [] M (fX12_caughtSize a1 a2 M) := by
  unfold fX12_caughtSize
  refine jw_iload_n (pc := 0) 2 dX12_caughtSize_0 rfl ?_
  refine jw_iconst (pc := 1) dX12_caughtSize_1 ?_
  refine jw_ic_ne (pc := 2) 11 dX12_caughtSize_2 (by decide) ha2 (jw_rc _ rfl) (fun _ => ?_) (fun _ => ?_)
  · refine jw_aloadR (pc := 5) 0 dX12_caughtSize_5 rfl ?_
    refine jw_bipush (pc := 6) dX12_caughtSize_6 rfl ?_
    refine jw_callVM (pc := 8) (As := [jI 14]) (st := []) dX12_caughtSize_8 rfl (Nat.le_of_ble_eq_true rfl) qX12_began jt_1745 jt_1747 jp_96 rfl rfl (Nat.le_of_ble_eq_true rfl) jv_12 rfl jg_127 jl_127 (by decide) (jw_ho jg_127 (by decide)) (kX12_began G 14 (jw_rc _ rfl) M) (fun M1 => ?_)
    exact jw_few [0, 1, 2] rfl (pX12_caughtSize_11 G a1 a2 ha1 ha2 M1)
  · exact jw_few [0, 1, 2] rfl (pX12_caughtSize_11 G a1 a2 ha1 ha2 M)
theorem kX12_caughtSize (G : jw_G) (a1 : Int) (a2 : Int) (ha1 : jw_r a1) (ha2 : jw_r a2) (M : jw_M) : jw_Ct G YX12_caughtSize (some .int) 3 0 0 true (fun q => q) yX12_caughtSize [jR G 127, jI a1, jI a2] M (fX12_caughtSize a1 a2 M) := jw_met (by decide) rfl rfl rfl (Nat.le_of_ble_eq_true rfl) (rX12_caughtSize G a1 a2 ha1 ha2 M)
abbrev YX12_ownMark : jw_Y := (RX12, cX12_ownMark, 3, 1, "ownMark")
theorem qX12_ownMark : jw_cy YX12_ownMark (some .int) yX12_ownMark 2 := ⟨by decide, jt_1752, jt_14, by decide, by decide +kernel⟩
theorem dX12_ownMark_0 : decode cX12_ownMark 0 = .ok (.iload_n 2, 1) := by decide +kernel
theorem dX12_ownMark_1 : decode cX12_ownMark 1 = .ok (.iconst 3, 1) := by decide +kernel
theorem dX12_ownMark_2 : decode cX12_ownMark 2 = .ok (.invokestatic 352, 3) := by decide +kernel
theorem dX12_ownMark_5 : decode cX12_ownMark 5 = .ok (.ifCond .eq 24, 3) := by decide +kernel
theorem dX12_ownMark_8 : decode cX12_ownMark 8 = .ok (.aload_n 0, 1) := by decide +kernel
theorem dX12_ownMark_9 : decode cX12_ownMark 9 = .ok (.bipush 22, 2) := by decide +kernel
theorem dX12_ownMark_11 : decode cX12_ownMark 11 = .ok (.invokevirtual 358, 3) := by decide +kernel
theorem dX12_ownMark_14 : decode cX12_ownMark 14 = .ok (.aload_n 0, 1) := by decide +kernel
theorem dX12_ownMark_15 : decode cX12_ownMark 15 = .ok (.bipush 20, 2) := by decide +kernel
theorem dX12_ownMark_17 : decode cX12_ownMark 17 = .ok (.invokevirtual 358, 3) := by decide +kernel
theorem dX12_ownMark_20 : decode cX12_ownMark 20 = .ok (.iload_n 1, 1) := by decide +kernel
theorem dX12_ownMark_21 : decode cX12_ownMark 21 = .ok (.aload_n 0, 1) := by decide +kernel
theorem dX12_ownMark_22 : decode cX12_ownMark 22 = .ok (.iload_n 1, 1) := by decide +kernel
theorem dX12_ownMark_23 : decode cX12_ownMark 23 = .ok (.iload_n 2, 1) := by decide +kernel
theorem dX12_ownMark_24 : decode cX12_ownMark 24 = .ok (.invokevirtual 361, 3) := by decide +kernel
theorem dX12_ownMark_27 : decode cX12_ownMark 27 = .ok (.isub, 1) := by decide +kernel
theorem dX12_ownMark_28 : decode cX12_ownMark 28 = .ok (.ireturn, 1) := by decide +kernel
theorem dX12_ownMark_29 : decode cX12_ownMark 29 = .ok (.iload_n 2, 1) := by decide +kernel
theorem dX12_ownMark_30 : decode cX12_ownMark 30 = .ok (.iconst 2, 1) := by decide +kernel
theorem dX12_ownMark_31 : decode cX12_ownMark 31 = .ok (.if_icmp .ne 9, 3) := by decide +kernel
theorem dX12_ownMark_34 : decode cX12_ownMark 34 = .ok (.aload_n 0, 1) := by decide +kernel
theorem dX12_ownMark_35 : decode cX12_ownMark 35 = .ok (.bipush 23, 2) := by decide +kernel
theorem dX12_ownMark_37 : decode cX12_ownMark 37 = .ok (.invokevirtual 358, 3) := by decide +kernel
theorem dX12_ownMark_40 : decode cX12_ownMark 40 = .ok (.aload_n 0, 1) := by decide +kernel
theorem dX12_ownMark_41 : decode cX12_ownMark 41 = .ok (.bipush 21, 2) := by decide +kernel
theorem dX12_ownMark_43 : decode cX12_ownMark 43 = .ok (.invokevirtual 358, 3) := by decide +kernel
theorem dX12_ownMark_46 : decode cX12_ownMark 46 = .ok (.aload_n 0, 1) := by decide +kernel
theorem dX12_ownMark_47 : decode cX12_ownMark 47 = .ok (.bipush 20, 2) := by decide +kernel
theorem dX12_ownMark_49 : decode cX12_ownMark 49 = .ok (.invokevirtual 358, 3) := by decide +kernel
theorem dX12_ownMark_52 : decode cX12_ownMark 52 = .ok (.iload_n 1, 1) := by decide +kernel
theorem dX12_ownMark_53 : decode cX12_ownMark 53 = .ok (.bipush 10, 2) := by decide +kernel
theorem dX12_ownMark_55 : decode cX12_ownMark 55 = .ok (.aload_n 0, 1) := by decide +kernel
theorem dX12_ownMark_56 : decode cX12_ownMark 56 = .ok (.getfield 25, 3) := by decide +kernel
theorem dX12_ownMark_59 : decode cX12_ownMark 59 = .ok (.iconst 0, 1) := by decide +kernel
theorem dX12_ownMark_60 : decode cX12_ownMark 60 = .ok (.iload_n 1, 1) := by decide +kernel
theorem dX12_ownMark_61 : decode cX12_ownMark 61 = .ok (.iadd, 1) := by decide +kernel
theorem dX12_ownMark_62 : decode cX12_ownMark 62 = .ok (.iaload, 1) := by decide +kernel
theorem dX12_ownMark_63 : decode cX12_ownMark 63 = .ok (.imul, 1) := by decide +kernel
theorem dX12_ownMark_64 : decode cX12_ownMark 64 = .ok (.iadd, 1) := by decide +kernel
theorem dX12_ownMark_65 : decode cX12_ownMark 65 = .ok (.iload_n 2, 1) := by decide +kernel
theorem dX12_ownMark_66 : decode cX12_ownMark 66 = .ok (.iconst 2, 1) := by decide +kernel
theorem dX12_ownMark_67 : decode cX12_ownMark 67 = .ok (.if_icmp .ne 9, 3) := by decide +kernel
theorem dX12_ownMark_70 : decode cX12_ownMark 70 = .ok (.sipush 500, 3) := by decide +kernel
theorem dX12_ownMark_73 : decode cX12_ownMark 73 = .ok (.goto 4, 3) := by decide +kernel
theorem dX12_ownMark_76 : decode cX12_ownMark 76 = .ok (.iconst 0, 1) := by decide +kernel
theorem dX12_ownMark_77 : decode cX12_ownMark 77 = .ok (.iadd, 1) := by decide +kernel
theorem dX12_ownMark_78 : decode cX12_ownMark 78 = .ok (.ireturn, 1) := by decide +kernel
def fX12_ownMark_77 (xs0 : Int) (xs1 : Int) (M : jw_M) : Option (Int × jw_M) :=
  some (jw_w (xs1 + xs0), M)
set_option maxRecDepth 100000 in
theorem pX12_ownMark_77 (G : jw_G) : ∀ (xs0 : Int) (xs1 : Int) (hxs0 : jw_r xs0) (hxs1 : jw_r xs1) (M : jw_M), jw_Rn G YX12_ownMark 4 0 0 true (fun q => q) 77 [] [jI xs0, jI xs1] M (fX12_ownMark_77 xs0 xs1 M) := by
  intro xs0 xs1 hxs0 hxs1 M
  unfold fX12_ownMark_77
  refine jw_iadd (pc := 77) dX12_ownMark_77 ?_
  exact jw_ret (pc := 78) (v := jw_w (xs1 + xs0)) dX12_ownMark_78 (jw_wr _) rfl rfl
def fX12_ownMark_40 (x1 : Int) (x2 : Int) (M : jw_M) : Option (Int × jw_M) :=
  Option.bind (fX12_began 21 M) (fun M3 => Option.bind (fX12_began 20 M3) (fun M4 => if 0 ≤ jw_w (0 + x1) ∧ jw_w (0 + x1) < 104 then if x2 = 2 then (fX12_ownMark_77 500 (jw_w (x1 + (jw_w (10 * (M4 133 (jw_w (0 + x1))))))) M4) else (fX12_ownMark_77 0 (jw_w (x1 + (jw_w (10 * (M4 133 (jw_w (0 + x1))))))) M4) else none))
set_option maxRecDepth 100000 in
theorem pX12_ownMark_40 (G : jw_G) : ∀ (x1 : Int) (x2 : Int) (hx1 : jw_r x1) (hx2 : jw_r x2) (M : jw_M), jw_Rn G YX12_ownMark 4 0 0 true (fun q => q) 40 [(0, jR G 127), (1, jI x1), (2, jI x2)] [] M (fX12_ownMark_40 x1 x2 M) := by
  intro x1 x2 hx1 hx2 M
  unfold fX12_ownMark_40
  refine jw_aloadR (pc := 40) 0 dX12_ownMark_40 rfl ?_
  refine jw_bipush (pc := 41) dX12_ownMark_41 rfl ?_
  refine jw_callVM (pc := 43) (As := [jI 21]) (st := []) dX12_ownMark_43 rfl (Nat.le_of_ble_eq_true rfl) qX12_began jt_1745 jt_1747 jp_96 rfl rfl (Nat.le_of_ble_eq_true rfl) jv_12 rfl jg_127 jl_127 (by decide) (jw_ho jg_127 (by decide)) (kX12_began G 21 (jw_rc _ rfl) M) (fun M3 => ?_)
  refine jw_aloadR (pc := 46) 0 dX12_ownMark_46 rfl ?_
  refine jw_bipush (pc := 47) dX12_ownMark_47 rfl ?_
  refine jw_callVM (pc := 49) (As := [jI 20]) (st := []) dX12_ownMark_49 rfl (Nat.le_of_ble_eq_true rfl) qX12_began jt_1745 jt_1747 jp_96 rfl rfl (Nat.le_of_ble_eq_true rfl) jv_12 rfl jg_127 jl_127 (by decide) (jw_ho jg_127 (by decide)) (kX12_began G 20 (jw_rc _ rfl) M3) (fun M4 => ?_)
  refine jw_iload_n (pc := 52) 1 dX12_ownMark_52 rfl ?_
  refine jw_bipush (pc := 53) dX12_ownMark_53 rfl ?_
  refine jw_aloadR (pc := 55) 0 dX12_ownMark_55 rfl ?_
  refine jw_getR (pc := 56) (j := 8) rfl dX12_ownMark_56 jv_12 ji_12 (Or.inl jt_1239) jg_127 jl_127 (by decide) (by decide) rfl jf_12_8 ?_
  refine jw_iconst (pc := 59) dX12_ownMark_59 ?_
  refine jw_iload_n (pc := 60) 1 dX12_ownMark_60 rfl ?_
  refine jw_iadd (pc := 61) dX12_ownMark_61 ?_
  refine jw_iald (pc := 62) dX12_ownMark_62 jg_133 jl_133 (jw_ho jg_133 (by decide)) (jw_wr _) rfl (fun h5 => ?_)
  refine jw_imul (pc := 63) dX12_ownMark_63 ?_
  refine jw_iadd (pc := 64) dX12_ownMark_64 ?_
  refine jw_iload_n (pc := 65) 2 dX12_ownMark_65 rfl ?_
  refine jw_iconst (pc := 66) dX12_ownMark_66 ?_
  refine jw_ic_ne (pc := 67) 76 dX12_ownMark_67 (by decide) hx2 (jw_rc _ rfl) (fun _ => ?_) (fun _ => ?_)
  · refine jw_sipush (pc := 70) dX12_ownMark_70 rfl ?_
    refine jw_goto (pc := 73) 77 dX12_ownMark_73 (by decide) ?_
    exact jw_few [] rfl (pX12_ownMark_77 G 500 (jw_w (x1 + (jw_w (10 * (M4 133 (jw_w (0 + x1))))))) (jw_rc _ rfl) (jw_wr _) M4)
  · refine jw_iconst (pc := 76) dX12_ownMark_76 ?_
    exact jw_few [] rfl (pX12_ownMark_77 G 0 (jw_w (x1 + (jw_w (10 * (M4 133 (jw_w (0 + x1))))))) (jw_rc _ rfl) (jw_wr _) M4)
def fX12_ownMark (a1 : Int) (a2 : Int) (M : jw_M) : Option (Int × jw_M) :=
  Option.bind (fX12_isOf a2 3 M) (fun v1 => if v1 = 0 then (if a2 = 2 then (Option.bind (fX12_began 23 M) (fun M2 => fX12_ownMark_40 a1 a2 M2)) else (fX12_ownMark_40 a1 a2 M)) else (Option.bind (fX12_began 22 M) (fun M6 => Option.bind (fX12_began 20 M6) (fun M7 => jw_b2 (fX12_caughtSize a1 a2 M7) (fun v8 M9 => some (jw_w (a1 - v8), M9))))))
set_option maxRecDepth 100000 in
theorem rX12_ownMark (G : jw_G) (a1 : Int) (a2 : Int) (ha1 : jw_r a1) (ha2 : jw_r a2) (M : jw_M) : jw_Rn G YX12_ownMark 4 0 0 true (fun q => q) 0 [(0, jR G 127), (1, jI a1), (2, jI a2)] [] M (fX12_ownMark a1 a2 M) := by
  unfold fX12_ownMark
  refine jw_iload_n (pc := 0) 2 dX12_ownMark_0 rfl ?_
  refine jw_iconst (pc := 1) dX12_ownMark_1 ?_
  refine jw_callSz (pc := 2) (As := [jI a2, jI 3]) (st := []) dX12_ownMark_2 rfl (Nat.le_of_ble_eq_true rfl) qX12_isOf jt_1730 jt_1731 rfl rfl (Nat.le_of_ble_eq_true rfl) (kX12_isOf G a2 3 ha2 (jw_rc _ rfl) M) (fun v1 hv1 => ?_)
  refine jw_if_eq (pc := 5) 29 dX12_ownMark_5 (by decide) (jw_bz hv1) (fun _ => ?_) (fun _ => ?_)
  · refine jw_iload_n (pc := 29) 2 dX12_ownMark_29 rfl ?_
    refine jw_iconst (pc := 30) dX12_ownMark_30 ?_
    refine jw_ic_ne (pc := 31) 40 dX12_ownMark_31 (by decide) ha2 (jw_rc _ rfl) (fun _ => ?_) (fun _ => ?_)
    · refine jw_aloadR (pc := 34) 0 dX12_ownMark_34 rfl ?_
      refine jw_bipush (pc := 35) dX12_ownMark_35 rfl ?_
      refine jw_callVM (pc := 37) (As := [jI 23]) (st := []) dX12_ownMark_37 rfl (Nat.le_of_ble_eq_true rfl) qX12_began jt_1745 jt_1747 jp_96 rfl rfl (Nat.le_of_ble_eq_true rfl) jv_12 rfl jg_127 jl_127 (by decide) (jw_ho jg_127 (by decide)) (kX12_began G 23 (jw_rc _ rfl) M) (fun M2 => ?_)
      exact jw_few [0, 1, 2] rfl (pX12_ownMark_40 G a1 a2 ha1 ha2 M2)
    · exact jw_few [0, 1, 2] rfl (pX12_ownMark_40 G a1 a2 ha1 ha2 M)
  · refine jw_aloadR (pc := 8) 0 dX12_ownMark_8 rfl ?_
    refine jw_bipush (pc := 9) dX12_ownMark_9 rfl ?_
    refine jw_callVM (pc := 11) (As := [jI 22]) (st := []) dX12_ownMark_11 rfl (Nat.le_of_ble_eq_true rfl) qX12_began jt_1745 jt_1747 jp_96 rfl rfl (Nat.le_of_ble_eq_true rfl) jv_12 rfl jg_127 jl_127 (by decide) (jw_ho jg_127 (by decide)) (kX12_began G 22 (jw_rc _ rfl) M) (fun M6 => ?_)
    refine jw_aloadR (pc := 14) 0 dX12_ownMark_14 rfl ?_
    refine jw_bipush (pc := 15) dX12_ownMark_15 rfl ?_
    refine jw_callVM (pc := 17) (As := [jI 20]) (st := []) dX12_ownMark_17 rfl (Nat.le_of_ble_eq_true rfl) qX12_began jt_1745 jt_1747 jp_96 rfl rfl (Nat.le_of_ble_eq_true rfl) jv_12 rfl jg_127 jl_127 (by decide) (jw_ho jg_127 (by decide)) (kX12_began G 20 (jw_rc _ rfl) M6) (fun M7 => ?_)
    refine jw_iload_n (pc := 20) 1 dX12_ownMark_20 rfl ?_
    refine jw_aloadR (pc := 21) 0 dX12_ownMark_21 rfl ?_
    refine jw_iload_n (pc := 22) 1 dX12_ownMark_22 rfl ?_
    refine jw_iload_n (pc := 23) 2 dX12_ownMark_23 rfl ?_
    refine jw_callVMi (pc := 24) (As := [jI a1, jI a2]) (st := [jI a1]) dX12_ownMark_24 rfl (Nat.le_of_ble_eq_true rfl) qX12_caughtSize jt_1741 jt_1743 jp_95 rfl rfl (Nat.le_of_ble_eq_true rfl) jv_12 rfl jg_127 jl_127 (by decide) (jw_ho jg_127 (by decide)) (kX12_caughtSize G a1 a2 ha1 ha2 M7) (fun v8 M9 hv8 => ?_)
    refine jw_isub (pc := 27) dX12_ownMark_27 ?_
    exact jw_ret (pc := 28) (v := jw_w (a1 - v8)) dX12_ownMark_28 (jw_wr _) rfl rfl
theorem kX12_ownMark (G : jw_G) (a1 : Int) (a2 : Int) (ha1 : jw_r a1) (ha2 : jw_r a2) (M : jw_M) : jw_Ct G YX12_ownMark (some .int) 4 0 0 true (fun q => q) yX12_ownMark [jR G 127, jI a1, jI a2] M (fX12_ownMark a1 a2 M) := jw_met (by decide) rfl rfl rfl (Nat.le_of_ble_eq_true rfl) (rX12_ownMark G a1 a2 ha1 ha2 M)
abbrev YX12_ownSize : jw_Y := (RX12, cX12_ownSize, 4, 1, "ownSize")
theorem qX12_ownSize : jw_cy YX12_ownSize (some .int) yX12_ownSize 2 := ⟨by decide, jt_1740, jt_14, by decide, by decide +kernel⟩
theorem dX12_ownSize_0 : decode cX12_ownSize 0 = .ok (.iload_n 2, 1) := by decide +kernel
theorem dX12_ownSize_1 : decode cX12_ownSize 1 = .ok (.iconst 3, 1) := by decide +kernel
theorem dX12_ownSize_2 : decode cX12_ownSize 2 = .ok (.invokestatic 352, 3) := by decide +kernel
theorem dX12_ownSize_5 : decode cX12_ownSize 5 = .ok (.ifCond .eq 10, 3) := by decide +kernel
theorem dX12_ownSize_8 : decode cX12_ownSize 8 = .ok (.aload_n 0, 1) := by decide +kernel
theorem dX12_ownSize_9 : decode cX12_ownSize 9 = .ok (.iload_n 1, 1) := by decide +kernel
theorem dX12_ownSize_10 : decode cX12_ownSize 10 = .ok (.iload_n 2, 1) := by decide +kernel
theorem dX12_ownSize_11 : decode cX12_ownSize 11 = .ok (.invokevirtual 361, 3) := by decide +kernel
theorem dX12_ownSize_14 : decode cX12_ownSize 14 = .ok (.ireturn, 1) := by decide +kernel
theorem dX12_ownSize_15 : decode cX12_ownSize 15 = .ok (.iload_n 2, 1) := by decide +kernel
theorem dX12_ownSize_16 : decode cX12_ownSize 16 = .ok (.iconst 2, 1) := by decide +kernel
theorem dX12_ownSize_17 : decode cX12_ownSize 17 = .ok (.if_icmp .ne 9, 3) := by decide +kernel
theorem dX12_ownSize_20 : decode cX12_ownSize 20 = .ok (.aload_n 0, 1) := by decide +kernel
theorem dX12_ownSize_21 : decode cX12_ownSize 21 = .ok (.bipush 12, 2) := by decide +kernel
theorem dX12_ownSize_23 : decode cX12_ownSize 23 = .ok (.invokevirtual 358, 3) := by decide +kernel
theorem dX12_ownSize_26 : decode cX12_ownSize 26 = .ok (.aload_n 0, 1) := by decide +kernel
theorem dX12_ownSize_27 : decode cX12_ownSize 27 = .ok (.bipush 11, 2) := by decide +kernel
theorem dX12_ownSize_29 : decode cX12_ownSize 29 = .ok (.invokevirtual 358, 3) := by decide +kernel
theorem dX12_ownSize_32 : decode cX12_ownSize 32 = .ok (.aload_n 0, 1) := by decide +kernel
theorem dX12_ownSize_33 : decode cX12_ownSize 33 = .ok (.bipush 10, 2) := by decide +kernel
theorem dX12_ownSize_35 : decode cX12_ownSize 35 = .ok (.invokevirtual 358, 3) := by decide +kernel
theorem dX12_ownSize_38 : decode cX12_ownSize 38 = .ok (.aload_n 0, 1) := by decide +kernel
theorem dX12_ownSize_39 : decode cX12_ownSize 39 = .ok (.iload_n 1, 1) := by decide +kernel
theorem dX12_ownSize_40 : decode cX12_ownSize 40 = .ok (.iconst 1, 1) := by decide +kernel
theorem dX12_ownSize_41 : decode cX12_ownSize 41 = .ok (.invokevirtual 234, 3) := by decide +kernel
theorem dX12_ownSize_44 : decode cX12_ownSize 44 = .ok (.aload_n 0, 1) := by decide +kernel
theorem dX12_ownSize_45 : decode cX12_ownSize 45 = .ok (.iload_n 1, 1) := by decide +kernel
theorem dX12_ownSize_46 : decode cX12_ownSize 46 = .ok (.iload_n 2, 1) := by decide +kernel
theorem dX12_ownSize_47 : decode cX12_ownSize 47 = .ok (.invokevirtual 364, 3) := by decide +kernel
theorem dX12_ownSize_50 : decode cX12_ownSize 50 = .ok (.iadd, 1) := by decide +kernel
theorem dX12_ownSize_51 : decode cX12_ownSize 51 = .ok (.istore_n 3, 1) := by decide +kernel
theorem dX12_ownSize_52 : decode cX12_ownSize 52 = .ok (.iload_n 2, 1) := by decide +kernel
theorem dX12_ownSize_53 : decode cX12_ownSize 53 = .ok (.iconst 2, 1) := by decide +kernel
theorem dX12_ownSize_54 : decode cX12_ownSize 54 = .ok (.if_icmp .ne 13, 3) := by decide +kernel
theorem dX12_ownSize_57 : decode cX12_ownSize 57 = .ok (.iload_n 3, 1) := by decide +kernel
theorem dX12_ownSize_58 : decode cX12_ownSize 58 = .ok (.aload_n 0, 1) := by decide +kernel
theorem dX12_ownSize_59 : decode cX12_ownSize 59 = .ok (.iload_n 1, 1) := by decide +kernel
theorem dX12_ownSize_60 : decode cX12_ownSize 60 = .ok (.invokevirtual 271, 3) := by decide +kernel
theorem dX12_ownSize_63 : decode cX12_ownSize 63 = .ok (.isub, 1) := by decide +kernel
theorem dX12_ownSize_64 : decode cX12_ownSize 64 = .ok (.goto 4, 3) := by decide +kernel
theorem dX12_ownSize_67 : decode cX12_ownSize 67 = .ok (.iload_n 3, 1) := by decide +kernel
theorem dX12_ownSize_68 : decode cX12_ownSize 68 = .ok (.ireturn, 1) := by decide +kernel
def fX12_ownSize_26 (x1 : Int) (x2 : Int) (M : jw_M) : Option (Int × jw_M) :=
  Option.bind (fX12_began 11 M) (fun M3 => Option.bind (fX12_began 10 M3) (fun M4 => Option.bind (fX12_goodsOf x1 1 M4) (fun v5 => jw_b2 (fX12_ownMark x1 x2 M4) (fun v6 M7 => Option.bind (some (jw_w (v5 + v6))) (fun v8 => if x2 = 2 then (Option.bind (fX12_goneOf x1 M7) (fun v9 => some (jw_w (v8 - v9), M7))) else (some (v8, M7)))))))
set_option maxRecDepth 100000 in
theorem pX12_ownSize_26 (G : jw_G) : ∀ (x1 : Int) (x2 : Int) (hx1 : jw_r x1) (hx2 : jw_r x2) (M : jw_M), jw_Rn G YX12_ownSize 5 0 0 true (fun q => q) 26 [(0, jR G 127), (1, jI x1), (2, jI x2)] [] M (fX12_ownSize_26 x1 x2 M) := by
  intro x1 x2 hx1 hx2 M
  unfold fX12_ownSize_26
  refine jw_aloadR (pc := 26) 0 dX12_ownSize_26 rfl ?_
  refine jw_bipush (pc := 27) dX12_ownSize_27 rfl ?_
  refine jw_callVM (pc := 29) (As := [jI 11]) (st := []) dX12_ownSize_29 rfl (Nat.le_of_ble_eq_true rfl) qX12_began jt_1745 jt_1747 jp_96 rfl rfl (Nat.le_of_ble_eq_true rfl) jv_12 rfl jg_127 jl_127 (by decide) (jw_ho jg_127 (by decide)) (kX12_began G 11 (jw_rc _ rfl) M) (fun M3 => ?_)
  refine jw_aloadR (pc := 32) 0 dX12_ownSize_32 rfl ?_
  refine jw_bipush (pc := 33) dX12_ownSize_33 rfl ?_
  refine jw_callVM (pc := 35) (As := [jI 10]) (st := []) dX12_ownSize_35 rfl (Nat.le_of_ble_eq_true rfl) qX12_began jt_1745 jt_1747 jp_96 rfl rfl (Nat.le_of_ble_eq_true rfl) jv_12 rfl jg_127 jl_127 (by decide) (jw_ho jg_127 (by decide)) (kX12_began G 10 (jw_rc _ rfl) M3) (fun M4 => ?_)
  refine jw_aloadR (pc := 38) 0 dX12_ownSize_38 rfl ?_
  refine jw_iload_n (pc := 39) 1 dX12_ownSize_39 rfl ?_
  refine jw_iconst (pc := 40) dX12_ownSize_40 ?_
  refine jw_callVi (pc := 41) (As := [jI x1, jI 1]) (st := []) dX12_ownSize_41 rfl (Nat.le_of_ble_eq_true rfl) qX12_goodsOf jt_1496 jt_1498 jp_65 rfl rfl (Nat.le_of_ble_eq_true rfl) jv_12 rfl jg_127 jl_127 (by decide) (jw_ho jg_127 (by decide)) (kX12_goodsOf G x1 1 hx1 (jw_rc _ rfl) M4) (fun v5 hv5 => ?_)
  refine jw_aloadR (pc := 44) 0 dX12_ownSize_44 rfl ?_
  refine jw_iload_n (pc := 45) 1 dX12_ownSize_45 rfl ?_
  refine jw_iload_n (pc := 46) 2 dX12_ownSize_46 rfl ?_
  refine jw_callVMi (pc := 47) (As := [jI x1, jI x2]) (st := [jI v5]) dX12_ownSize_47 rfl (Nat.le_of_ble_eq_true rfl) qX12_ownMark jt_1749 jt_1751 jp_97 rfl rfl (Nat.le_of_ble_eq_true rfl) jv_12 rfl jg_127 jl_127 (by decide) (jw_ho jg_127 (by decide)) (kX12_ownMark G x1 x2 hx1 hx2 M4) (fun v6 M7 hv6 => ?_)
  refine jw_iadd (pc := 50) dX12_ownSize_50 ?_
  refine jw_istore_nL (pc := 51) (lv' := (fun y => [(3, y), (0, jR G 127), (1, jI x1), (2, jI x2)])) dX12_ownSize_51 (jw_wr _) (by decide) (fun _ => rfl) (fun v8 hv8 => ?_)
  refine jw_iload_n (pc := 52) 3 dX12_ownSize_52 rfl ?_
  refine jw_iconst (pc := 53) dX12_ownSize_53 ?_
  refine jw_ic_ne (pc := 54) 67 dX12_ownSize_54 (by decide) hx2 (jw_rc _ rfl) (fun _ => ?_) (fun _ => ?_)
  · refine jw_iload_n (pc := 57) 0 dX12_ownSize_57 rfl ?_
    refine jw_aloadR (pc := 58) 1 dX12_ownSize_58 rfl ?_
    refine jw_iload_n (pc := 59) 2 dX12_ownSize_59 rfl ?_
    refine jw_callVi (pc := 60) (As := [jI x1]) (st := [jI v8]) dX12_ownSize_60 rfl (Nat.le_of_ble_eq_true rfl) qX12_goneOf jt_1555 jt_1557 jp_75 rfl rfl (Nat.le_of_ble_eq_true rfl) jv_12 rfl jg_127 jl_127 (by decide) (jw_ho jg_127 (by decide)) (kX12_goneOf G x1 hx1 M7) (fun v9 hv9 => ?_)
    refine jw_isub (pc := 63) dX12_ownSize_63 ?_
    refine jw_goto (pc := 64) 68 dX12_ownSize_64 (by decide) ?_
    exact jw_ret (pc := 68) (v := jw_w (v8 - v9)) dX12_ownSize_68 (jw_wr _) rfl rfl
  · refine jw_iload_n (pc := 67) 0 dX12_ownSize_67 rfl ?_
    exact jw_ret (pc := 68) (v := v8) dX12_ownSize_68 hv8 rfl rfl
def fX12_ownSize (a1 : Int) (a2 : Int) (M : jw_M) : Option (Int × jw_M) :=
  Option.bind (fX12_isOf a2 3 M) (fun v1 => if v1 = 0 then (if a2 = 2 then (Option.bind (fX12_began 12 M) (fun M2 => fX12_ownSize_26 a1 a2 M2)) else (fX12_ownSize_26 a1 a2 M)) else (jw_b2 (fX12_caughtSize a1 a2 M) (fun v10 M11 => some (v10, M11))))
set_option maxRecDepth 100000 in
theorem rX12_ownSize (G : jw_G) (a1 : Int) (a2 : Int) (ha1 : jw_r a1) (ha2 : jw_r a2) (M : jw_M) : jw_Rn G YX12_ownSize 5 0 0 true (fun q => q) 0 [(0, jR G 127), (1, jI a1), (2, jI a2)] [] M (fX12_ownSize a1 a2 M) := by
  unfold fX12_ownSize
  refine jw_iload_n (pc := 0) 2 dX12_ownSize_0 rfl ?_
  refine jw_iconst (pc := 1) dX12_ownSize_1 ?_
  refine jw_callSz (pc := 2) (As := [jI a2, jI 3]) (st := []) dX12_ownSize_2 rfl (Nat.le_of_ble_eq_true rfl) qX12_isOf jt_1730 jt_1731 rfl rfl (Nat.le_of_ble_eq_true rfl) (kX12_isOf G a2 3 ha2 (jw_rc _ rfl) M) (fun v1 hv1 => ?_)
  refine jw_if_eq (pc := 5) 15 dX12_ownSize_5 (by decide) (jw_bz hv1) (fun _ => ?_) (fun _ => ?_)
  · refine jw_iload_n (pc := 15) 2 dX12_ownSize_15 rfl ?_
    refine jw_iconst (pc := 16) dX12_ownSize_16 ?_
    refine jw_ic_ne (pc := 17) 26 dX12_ownSize_17 (by decide) ha2 (jw_rc _ rfl) (fun _ => ?_) (fun _ => ?_)
    · refine jw_aloadR (pc := 20) 0 dX12_ownSize_20 rfl ?_
      refine jw_bipush (pc := 21) dX12_ownSize_21 rfl ?_
      refine jw_callVM (pc := 23) (As := [jI 12]) (st := []) dX12_ownSize_23 rfl (Nat.le_of_ble_eq_true rfl) qX12_began jt_1745 jt_1747 jp_96 rfl rfl (Nat.le_of_ble_eq_true rfl) jv_12 rfl jg_127 jl_127 (by decide) (jw_ho jg_127 (by decide)) (kX12_began G 12 (jw_rc _ rfl) M) (fun M2 => ?_)
      exact jw_few [0, 1, 2] rfl (pX12_ownSize_26 G a1 a2 ha1 ha2 M2)
    · exact jw_few [0, 1, 2] rfl (pX12_ownSize_26 G a1 a2 ha1 ha2 M)
  · refine jw_aloadR (pc := 8) 0 dX12_ownSize_8 rfl ?_
    refine jw_iload_n (pc := 9) 1 dX12_ownSize_9 rfl ?_
    refine jw_iload_n (pc := 10) 2 dX12_ownSize_10 rfl ?_
    refine jw_callVMi (pc := 11) (As := [jI a1, jI a2]) (st := []) dX12_ownSize_11 rfl (Nat.le_of_ble_eq_true rfl) qX12_caughtSize jt_1741 jt_1743 jp_95 rfl rfl (Nat.le_of_ble_eq_true rfl) jv_12 rfl jg_127 jl_127 (by decide) (jw_ho jg_127 (by decide)) (kX12_caughtSize G a1 a2 ha1 ha2 M) (fun v10 M11 hv10 => ?_)
    exact jw_ret (pc := 14) (v := v10) dX12_ownSize_14 hv10 rfl rfl
theorem kX12_ownSize (G : jw_G) (a1 : Int) (a2 : Int) (ha1 : jw_r a1) (ha2 : jw_r a2) (M : jw_M) : jw_Ct G YX12_ownSize (some .int) 5 0 0 true (fun q => q) yX12_ownSize [jR G 127, jI a1, jI a2] M (fX12_ownSize a1 a2 M) := jw_met (by decide) rfl rfl rfl (Nat.le_of_ble_eq_true rfl) (rX12_ownSize G a1 a2 ha1 ha2 M)
abbrev YX12_ask : jw_Y := (RX12, cX12_ask, 3, 2, "ask")
theorem qX12_ask : jw_cy YX12_ask (some .long) yX12_ask 2 := ⟨by decide, jt_1736, jt_14, by decide, by decide +kernel⟩
theorem dX12_ask_0 : decode cX12_ask 0 = .ok (.aload_n 0, 1) := by decide +kernel
theorem dX12_ask_1 : decode cX12_ask 1 = .ok (.iconst 0, 1) := by decide +kernel
theorem dX12_ask_2 : decode cX12_ask 2 = .ok (.putfield 71, 3) := by decide +kernel
theorem dX12_ask_5 : decode cX12_ask 5 = .ok (.aload_n 0, 1) := by decide +kernel
theorem dX12_ask_6 : decode cX12_ask 6 = .ok (.iload_n 1, 1) := by decide +kernel
theorem dX12_ask_7 : decode cX12_ask 7 = .ok (.invokevirtual 229, 3) := by decide +kernel
theorem dX12_ask_10 : decode cX12_ask 10 = .ok (.ifCond .eq 13, 3) := by decide +kernel
theorem dX12_ask_13 : decode cX12_ask 13 = .ok (.iload_n 2, 1) := by decide +kernel
theorem dX12_ask_14 : decode cX12_ask 14 = .ok (.i2l, 1) := by decide +kernel
theorem dX12_ask_15 : decode cX12_ask 15 = .ok (.lconst 0, 1) := by decide +kernel
theorem dX12_ask_16 : decode cX12_ask 16 = .ok (.lconst 1, 1) := by decide +kernel
theorem dX12_ask_17 : decode cX12_ask 17 = .ok (.invokestatic 82, 3) := by decide +kernel
theorem dX12_ask_20 : decode cX12_ask 20 = .ok (.ifCond .ne 7, 3) := by decide +kernel
theorem dX12_ask_23 : decode cX12_ask 23 = .ok (.ldc2_w 92, 3) := by decide +kernel
theorem dX12_ask_26 : decode cX12_ask 26 = .ok (.lreturn, 1) := by decide +kernel
theorem dX12_ask_27 : decode cX12_ask 27 = .ok (.aload_n 0, 1) := by decide +kernel
theorem dX12_ask_28 : decode cX12_ask 28 = .ok (.iconst 0, 1) := by decide +kernel
theorem dX12_ask_29 : decode cX12_ask 29 = .ok (.putfield 355, 3) := by decide +kernel
theorem dX12_ask_32 : decode cX12_ask 32 = .ok (.iload_n 2, 1) := by decide +kernel
theorem dX12_ask_33 : decode cX12_ask 33 = .ok (.ifCond .ne 17, 3) := by decide +kernel
theorem dX12_ask_36 : decode cX12_ask 36 = .ok (.aload_n 0, 1) := by decide +kernel
theorem dX12_ask_37 : decode cX12_ask 37 = .ok (.iload_n 1, 1) := by decide +kernel
theorem dX12_ask_38 : decode cX12_ask 38 = .ok (.aload_n 0, 1) := by decide +kernel
theorem dX12_ask_39 : decode cX12_ask 39 = .ok (.iload_n 1, 1) := by decide +kernel
theorem dX12_ask_40 : decode cX12_ask 40 = .ok (.invokevirtual 349, 3) := by decide +kernel
theorem dX12_ask_43 : decode cX12_ask 43 = .ok (.invokevirtual 367, 3) := by decide +kernel
theorem dX12_ask_46 : decode cX12_ask 46 = .ok (.i2l, 1) := by decide +kernel
theorem dX12_ask_47 : decode cX12_ask 47 = .ok (.goto 14, 3) := by decide +kernel
theorem dX12_ask_50 : decode cX12_ask 50 = .ok (.aload_n 0, 1) := by decide +kernel
theorem dX12_ask_51 : decode cX12_ask 51 = .ok (.iload_n 1, 1) := by decide +kernel
theorem dX12_ask_52 : decode cX12_ask 52 = .ok (.aload_n 0, 1) := by decide +kernel
theorem dX12_ask_53 : decode cX12_ask 53 = .ok (.iload_n 1, 1) := by decide +kernel
theorem dX12_ask_54 : decode cX12_ask 54 = .ok (.invokevirtual 349, 3) := by decide +kernel
theorem dX12_ask_57 : decode cX12_ask 57 = .ok (.invokevirtual 364, 3) := by decide +kernel
theorem dX12_ask_60 : decode cX12_ask 60 = .ok (.i2l, 1) := by decide +kernel
theorem dX12_ask_61 : decode cX12_ask 61 = .ok (.lreturn, 1) := by decide +kernel
def fX12_ask (a1 : Int) (a2 : Int) (M : jw_M) : Option (Int × jw_M) :=
  Option.bind (some (jw_up M 127 0 0)) (fun M1 => Option.bind (fX12_isSeller a1 M1) (fun v2 => if v2 = 0 then (some ((-9000000000000000001), M1)) else (Option.bind (fX12_in a2 0 1 M1) (fun v3 => if v3 = 0 then (some ((-9000000000000000001), M1)) else (Option.bind (some (jw_up M1 127 34 0)) (fun M4 => if a2 = 0 then (Option.bind (fX12_kindOf a1 M4) (fun v5 => jw_b2 (fX12_ownSize a1 v5 M4) (fun v6 M7 => some (v6, M7)))) else (Option.bind (fX12_kindOf a1 M4) (fun v8 => jw_b2 (fX12_ownMark a1 v8 M4) (fun v9 M10 => some (v9, M10))))))))))
set_option maxRecDepth 100000 in
theorem rX12_ask (G : jw_G) (a1 : Int) (a2 : Int) (ha1 : jw_r a1) (ha2 : jw_r a2) (M : jw_M) : jw_Rn G YX12_ask 6 0 0 true (fun q => q) 0 [(0, jR G 127), (1, jI a1), (2, jI a2)] [] M (fX12_ask a1 a2 M) := by
  unfold fX12_ask
  refine jw_aloadR (pc := 0) 0 dX12_ask_0 rfl ?_
  refine jw_iconst (pc := 1) dX12_ask_1 ?_
  refine jw_putI (pc := 2) (j := 0) tyX12 rfl dX12_ask_2 jv_12 ji_12 tyX12_ok nmX12 (Or.inl jt_1231) rfl jg_127 jl_127 (by decide) (by decide) (jw_ho jg_127 (by decide)) rfl rfl (jw_rc _ rfl) rfl ?_
  refine jw_letM (fun M1 => ?_)
  refine jw_aloadR (pc := 5) 0 dX12_ask_5 rfl ?_
  refine jw_iload_n (pc := 6) 1 dX12_ask_6 rfl ?_
  refine jw_callVz (pc := 7) (As := [jI a1]) (st := []) dX12_ask_7 rfl (Nat.le_of_ble_eq_true rfl) qX12_isSeller jt_1487 jt_1489 jp_64 rfl rfl (Nat.le_of_ble_eq_true rfl) jv_12 rfl jg_127 jl_127 (by decide) (jw_ho jg_127 (by decide)) (kX12_isSeller G a1 ha1 M1) (fun v2 hv2 => ?_)
  refine jw_if_eq (pc := 10) 23 dX12_ask_10 (by decide) (jw_bz hv2) (fun _ => ?_) (fun _ => ?_)
  · refine jw_ldc2 (pc := 23) (n := (-9000000000000000001)) dX12_ask_23 jt_1349 (by decide) ?_
    exact jw_ret (pc := 26) (v := (-9000000000000000001)) dX12_ask_26 (jw_qc _ rfl) rfl rfl
  · refine jw_iload_n (pc := 13) 2 dX12_ask_13 rfl ?_
    refine jw_i2lr (pc := 14) dX12_ask_14 ha2 ?_
    refine jw_lconst (pc := 15) (z := 0) dX12_ask_15 rfl ?_
    refine jw_lconst (pc := 16) (z := 1) dX12_ask_16 rfl ?_
    refine jw_callSz (pc := 17) (As := [jL a2, jL 0, jL 1]) (st := []) dX12_ask_17 rfl (Nat.le_of_ble_eq_true rfl) qX12_in jt_1345 jt_1346 rfl rfl (Nat.le_of_ble_eq_true rfl) (kX12_in G a2 0 1 (jw_rq ha2) (jw_qc _ rfl) (jw_qc _ rfl) M1) (fun v3 hv3 => ?_)
    refine jw_if_ne (pc := 20) 27 dX12_ask_20 (by decide) (jw_bz hv3) (fun _ => ?_) (fun _ => ?_)
    · refine jw_ldc2 (pc := 23) (n := (-9000000000000000001)) dX12_ask_23 jt_1349 (by decide) ?_
      exact jw_ret (pc := 26) (v := (-9000000000000000001)) dX12_ask_26 (jw_qc _ rfl) rfl rfl
    · refine jw_aloadR (pc := 27) 0 dX12_ask_27 rfl ?_
      refine jw_iconst (pc := 28) dX12_ask_28 ?_
      refine jw_putI (pc := 29) (j := 34) tyX12 rfl dX12_ask_29 jv_12 ji_12 tyX12_ok nmX12 (Or.inl jt_1265) rfl jg_127 jl_127 (by decide) (by decide) (jw_ho jg_127 (by decide)) rfl rfl (jw_rc _ rfl) rfl ?_
      refine jw_letM (fun M4 => ?_)
      refine jw_iload_n (pc := 32) 2 dX12_ask_32 rfl ?_
      refine jw_if_ne (pc := 33) 50 dX12_ask_33 (by decide) ha2 (fun _ => ?_) (fun _ => ?_)
      · refine jw_aloadR (pc := 36) 0 dX12_ask_36 rfl ?_
        refine jw_iload_n (pc := 37) 1 dX12_ask_37 rfl ?_
        refine jw_aloadR (pc := 38) 0 dX12_ask_38 rfl ?_
        refine jw_iload_n (pc := 39) 1 dX12_ask_39 rfl ?_
        refine jw_callVi (pc := 40) (As := [jI a1]) (st := [jI a1, jR G 127]) dX12_ask_40 rfl (Nat.le_of_ble_eq_true rfl) qX12_kindOf jt_1722 jt_1724 jp_93 rfl rfl (Nat.le_of_ble_eq_true rfl) jv_12 rfl jg_127 jl_127 (by decide) (jw_ho jg_127 (by decide)) (kX12_kindOf G a1 ha1 M4) (fun v5 hv5 => ?_)
        refine jw_callVMi (pc := 43) (As := [jI a1, jI v5]) (st := []) dX12_ask_43 rfl (Nat.le_of_ble_eq_true rfl) qX12_ownSize jt_1737 jt_1739 jp_94 rfl rfl (Nat.le_of_ble_eq_true rfl) jv_12 rfl jg_127 jl_127 (by decide) (jw_ho jg_127 (by decide)) (kX12_ownSize G a1 v5 ha1 hv5 M4) (fun v6 M7 hv6 => ?_)
        refine jw_i2lr (pc := 46) dX12_ask_46 hv6 ?_
        refine jw_goto (pc := 47) 61 dX12_ask_47 (by decide) ?_
        exact jw_ret (pc := 61) (v := v6) dX12_ask_61 (jw_rq hv6) rfl rfl
      · refine jw_aloadR (pc := 50) 0 dX12_ask_50 rfl ?_
        refine jw_iload_n (pc := 51) 1 dX12_ask_51 rfl ?_
        refine jw_aloadR (pc := 52) 0 dX12_ask_52 rfl ?_
        refine jw_iload_n (pc := 53) 1 dX12_ask_53 rfl ?_
        refine jw_callVi (pc := 54) (As := [jI a1]) (st := [jI a1, jR G 127]) dX12_ask_54 rfl (Nat.le_of_ble_eq_true rfl) qX12_kindOf jt_1722 jt_1724 jp_93 rfl rfl (Nat.le_of_ble_eq_true rfl) jv_12 rfl jg_127 jl_127 (by decide) (jw_ho jg_127 (by decide)) (kX12_kindOf G a1 ha1 M4) (fun v8 hv8 => ?_)
        refine jw_callVMi (pc := 57) (As := [jI a1, jI v8]) (st := []) dX12_ask_57 rfl (Nat.le_of_ble_eq_true rfl) qX12_ownMark jt_1749 jt_1751 jp_97 rfl rfl (Nat.le_of_ble_eq_true rfl) jv_12 rfl jg_127 jl_127 (by decide) (jw_ho jg_127 (by decide)) (kX12_ownMark G a1 v8 ha1 hv8 M4) (fun v9 M10 hv9 => ?_)
        refine jw_i2lr (pc := 60) dX12_ask_60 hv9 ?_
        exact jw_ret (pc := 61) (v := v9) dX12_ask_61 (jw_rq hv9) rfl rfl
theorem kX12_ask (G : jw_G) (a1 : Int) (a2 : Int) (ha1 : jw_r a1) (ha2 : jw_r a2) (M : jw_M) : jw_Ct G YX12_ask (some .long) 6 0 0 true (fun q => q) yX12_ask [jR G 127, jI a1, jI a2] M (fX12_ask a1 a2 M) := jw_met (by decide) rfl rfl rfl (Nat.le_of_ble_eq_true rfl) (rX12_ask G a1 a2 ha1 ha2 M)
abbrev YX12_trace : jw_Y := (RX12, cX12_trace, 2, 1, "trace")
theorem qX12_trace : jw_cy YX12_trace (some .int) yX12_trace 1 := ⟨by decide, jt_1756, jt_14, by decide, by decide +kernel⟩
theorem dX12_trace_0 : decode cX12_trace 0 = .ok (.aload_n 0, 1) := by decide +kernel
theorem dX12_trace_1 : decode cX12_trace 1 = .ok (.iconst 0, 1) := by decide +kernel
theorem dX12_trace_2 : decode cX12_trace 2 = .ok (.putfield 71, 3) := by decide +kernel
theorem dX12_trace_5 : decode cX12_trace 5 = .ok (.iload_n 1, 1) := by decide +kernel
theorem dX12_trace_6 : decode cX12_trace 6 = .ok (.i2l, 1) := by decide +kernel
theorem dX12_trace_7 : decode cX12_trace 7 = .ok (.lconst 0, 1) := by decide +kernel
theorem dX12_trace_8 : decode cX12_trace 8 = .ok (.aload_n 0, 1) := by decide +kernel
theorem dX12_trace_9 : decode cX12_trace 9 = .ok (.getfield 355, 3) := by decide +kernel
theorem dX12_trace_12 : decode cX12_trace 12 = .ok (.iconst 1, 1) := by decide +kernel
theorem dX12_trace_13 : decode cX12_trace 13 = .ok (.isub, 1) := by decide +kernel
theorem dX12_trace_14 : decode cX12_trace 14 = .ok (.i2l, 1) := by decide +kernel
theorem dX12_trace_15 : decode cX12_trace 15 = .ok (.invokestatic 82, 3) := by decide +kernel
theorem dX12_trace_18 : decode cX12_trace 18 = .ok (.ifCond .eq 12, 3) := by decide +kernel
theorem dX12_trace_21 : decode cX12_trace 21 = .ok (.aload_n 0, 1) := by decide +kernel
theorem dX12_trace_22 : decode cX12_trace 22 = .ok (.getfield 68, 3) := by decide +kernel
theorem dX12_trace_25 : decode cX12_trace 25 = .ok (.iload_n 1, 1) := by decide +kernel
theorem dX12_trace_26 : decode cX12_trace 26 = .ok (.iaload, 1) := by decide +kernel
theorem dX12_trace_27 : decode cX12_trace 27 = .ok (.goto 5, 3) := by decide +kernel
theorem dX12_trace_30 : decode cX12_trace 30 = .ok (.ldc 110, 2) := by decide +kernel
theorem dX12_trace_32 : decode cX12_trace 32 = .ok (.ireturn, 1) := by decide +kernel
def fX12_trace (a1 : Int) (M : jw_M) : Option (Int × jw_M) :=
  Option.bind (some (jw_up M 127 0 0)) (fun M1 => Option.bind (fX12_in a1 0 (jw_w ((M1 127 34) - 1)) M1) (fun v3 => if v3 = 0 then (some ((-1000000), M1)) else (if 0 ≤ a1 ∧ a1 < 16 then some (M1 147 a1, M1) else none)))
set_option maxRecDepth 100000 in
theorem rX12_trace (G : jw_G) (a1 : Int) (ha1 : jw_r a1) (M : jw_M) : jw_Rn G YX12_trace 2 0 0 true (fun q => q) 0 [(0, jR G 127), (1, jI a1)] [] M (fX12_trace a1 M) := by
  unfold fX12_trace
  refine jw_aloadR (pc := 0) 0 dX12_trace_0 rfl ?_
  refine jw_iconst (pc := 1) dX12_trace_1 ?_
  refine jw_putI (pc := 2) (j := 0) tyX12 rfl dX12_trace_2 jv_12 ji_12 tyX12_ok nmX12 (Or.inl jt_1231) rfl jg_127 jl_127 (by decide) (by decide) (jw_ho jg_127 (by decide)) rfl rfl (jw_rc _ rfl) rfl ?_
  refine jw_letM (fun M1 => ?_)
  refine jw_iload_n (pc := 5) 1 dX12_trace_5 rfl ?_
  refine jw_i2lr (pc := 6) dX12_trace_6 ha1 ?_
  refine jw_lconst (pc := 7) (z := 0) dX12_trace_7 rfl ?_
  refine jw_aloadR (pc := 8) 0 dX12_trace_8 rfl ?_
  refine jw_getI (pc := 9) (j := 34) rfl dX12_trace_9 jv_12 ji_12 (Or.inl jt_1265) jg_127 jl_127 (by decide) (by decide) (jw_ho jg_127 (by decide)) (Or.inl rfl) rfl (fun h2 => ?_)
  refine jw_iconst (pc := 12) dX12_trace_12 ?_
  refine jw_isub (pc := 13) dX12_trace_13 ?_
  refine jw_i2lr (pc := 14) dX12_trace_14 (jw_wr _) ?_
  refine jw_callSz (pc := 15) (As := [jL a1, jL 0, jL (jw_w ((M1 127 34) - 1))]) (st := []) dX12_trace_15 rfl (Nat.le_of_ble_eq_true rfl) qX12_in jt_1345 jt_1346 rfl rfl (Nat.le_of_ble_eq_true rfl) (kX12_in G a1 0 (jw_w ((M1 127 34) - 1)) (jw_rq ha1) (jw_qc _ rfl) (jw_rq (jw_wr _)) M1) (fun v3 hv3 => ?_)
  refine jw_if_eq (pc := 18) 30 dX12_trace_18 (by decide) (jw_bz hv3) (fun _ => ?_) (fun _ => ?_)
  · refine jw_ldc (pc := 30) (n := (-1000000)) dX12_trace_30 jt_1386 (by decide) ?_
    exact jw_ret (pc := 32) (v := (-1000000)) dX12_trace_32 (jw_rc _ rfl) rfl rfl
  · refine jw_aloadR (pc := 21) 0 dX12_trace_21 rfl ?_
    refine jw_getR (pc := 22) (j := 33) rfl dX12_trace_22 jv_12 ji_12 (Or.inl jt_1264) jg_127 jl_127 (by decide) (by decide) rfl jf_12_33 ?_
    refine jw_iload_n (pc := 25) 1 dX12_trace_25 rfl ?_
    refine jw_iald (pc := 26) dX12_trace_26 jg_147 jl_147 (jw_ho jg_147 (by decide)) ha1 rfl (fun h4 => ?_)
    refine jw_goto (pc := 27) 32 dX12_trace_27 (by decide) ?_
    exact jw_ret (pc := 32) (v := M1 147 a1) dX12_trace_32 h4 rfl rfl
theorem kX12_trace (G : jw_G) (a1 : Int) (ha1 : jw_r a1) (M : jw_M) : jw_Ct G YX12_trace (some .int) 2 0 0 true (fun q => q) yX12_trace [jR G 127, jI a1] M (fX12_trace a1 M) := jw_met (by decide) rfl rfl rfl (Nat.le_of_ble_eq_true rfl) (rX12_trace G a1 ha1 M)
abbrev YX12_count : jw_Y := (RX12, cX12_count, 4, 2, "count")
theorem qX12_count : jw_cy YX12_count (some .long) yX12_count 1 := ⟨by decide, jt_1760, jt_14, by decide, by decide +kernel⟩
theorem dX12_count_0 : decode cX12_count 0 = .ok (.aload_n 0, 1) := by decide +kernel
theorem dX12_count_1 : decode cX12_count 1 = .ok (.iconst 0, 1) := by decide +kernel
theorem dX12_count_2 : decode cX12_count 2 = .ok (.putfield 71, 3) := by decide +kernel
theorem dX12_count_5 : decode cX12_count 5 = .ok (.iconst 0, 1) := by decide +kernel
theorem dX12_count_6 : decode cX12_count 6 = .ok (.istore_n 2, 1) := by decide +kernel
theorem dX12_count_7 : decode cX12_count 7 = .ok (.iload_n 1, 1) := by decide +kernel
theorem dX12_count_8 : decode cX12_count 8 = .ok (.tableswitch 167 0 8 #[52, 86, 94, 142, 142, 142, 142, 152, 161], 52) := by decide +kernel
theorem dX12_count_60 : decode cX12_count 60 = .ok (.iconst 0, 1) := by decide +kernel
theorem dX12_count_61 : decode cX12_count 61 = .ok (.istore_n 3, 1) := by decide +kernel
theorem dX12_count_62 : decode cX12_count 62 = .ok (.iload_n 3, 1) := by decide +kernel
theorem dX12_count_63 : decode cX12_count 63 = .ok (.bipush 8, 2) := by decide +kernel
theorem dX12_count_65 : decode cX12_count 65 = .ok (.if_icmp .ge 26, 3) := by decide +kernel
theorem dX12_count_68 : decode cX12_count 68 = .ok (.iload_n 2, 1) := by decide +kernel
theorem dX12_count_69 : decode cX12_count 69 = .ok (.aload_n 0, 1) := by decide +kernel
theorem dX12_count_70 : decode cX12_count 70 = .ok (.getfield 9, 3) := by decide +kernel
theorem dX12_count_73 : decode cX12_count 73 = .ok (.iload_n 3, 1) := by decide +kernel
theorem dX12_count_74 : decode cX12_count 74 = .ok (.iaload, 1) := by decide +kernel
theorem dX12_count_75 : decode cX12_count 75 = .ok (.ifCond .lt 7, 3) := by decide +kernel
theorem dX12_count_78 : decode cX12_count 78 = .ok (.iconst 1, 1) := by decide +kernel
theorem dX12_count_79 : decode cX12_count 79 = .ok (.goto 4, 3) := by decide +kernel
theorem dX12_count_82 : decode cX12_count 82 = .ok (.iconst 0, 1) := by decide +kernel
theorem dX12_count_83 : decode cX12_count 83 = .ok (.iadd, 1) := by decide +kernel
theorem dX12_count_84 : decode cX12_count 84 = .ok (.istore_n 2, 1) := by decide +kernel
theorem dX12_count_85 : decode cX12_count 85 = .ok (.iinc 3 1, 3) := by decide +kernel
theorem dX12_count_88 : decode cX12_count 88 = .ok (.goto (-26), 3) := by decide +kernel
theorem dX12_count_91 : decode cX12_count 91 = .ok (.iload_n 2, 1) := by decide +kernel
theorem dX12_count_92 : decode cX12_count 92 = .ok (.i2l, 1) := by decide +kernel
theorem dX12_count_93 : decode cX12_count 93 = .ok (.lreturn, 1) := by decide +kernel
theorem dX12_count_94 : decode cX12_count 94 = .ok (.aload_n 0, 1) := by decide +kernel
theorem dX12_count_95 : decode cX12_count 95 = .ok (.getfield 19, 3) := by decide +kernel
theorem dX12_count_98 : decode cX12_count 98 = .ok (.iconst 0, 1) := by decide +kernel
theorem dX12_count_99 : decode cX12_count 99 = .ok (.iaload, 1) := by decide +kernel
theorem dX12_count_100 : decode cX12_count 100 = .ok (.i2l, 1) := by decide +kernel
theorem dX12_count_101 : decode cX12_count 101 = .ok (.lreturn, 1) := by decide +kernel
theorem dX12_count_102 : decode cX12_count 102 = .ok (.iconst 0, 1) := by decide +kernel
theorem dX12_count_103 : decode cX12_count 103 = .ok (.istore_n 3, 1) := by decide +kernel
theorem dX12_count_104 : decode cX12_count 104 = .ok (.iload_n 3, 1) := by decide +kernel
theorem dX12_count_105 : decode cX12_count 105 = .ok (.bipush 49, 2) := by decide +kernel
theorem dX12_count_107 : decode cX12_count 107 = .ok (.if_icmp .ge 40, 3) := by decide +kernel
theorem dX12_count_110 : decode cX12_count 110 = .ok (.iload_n 2, 1) := by decide +kernel
theorem dX12_count_111 : decode cX12_count 111 = .ok (.iload_n 3, 1) := by decide +kernel
theorem dX12_count_112 : decode cX12_count 112 = .ok (.bipush 7, 2) := by decide +kernel
theorem dX12_count_114 : decode cX12_count 114 = .ok (.idiv, 1) := by decide +kernel
theorem dX12_count_115 : decode cX12_count 115 = .ok (.iload_n 3, 1) := by decide +kernel
theorem dX12_count_116 : decode cX12_count 116 = .ok (.bipush 7, 2) := by decide +kernel
theorem dX12_count_118 : decode cX12_count 118 = .ok (.irem, 1) := by decide +kernel
theorem dX12_count_119 : decode cX12_count 119 = .ok (.if_icmp .ge 19, 3) := by decide +kernel
theorem dX12_count_122 : decode cX12_count 122 = .ok (.aload_n 0, 1) := by decide +kernel
theorem dX12_count_123 : decode cX12_count 123 = .ok (.getfield 19, 3) := by decide +kernel
theorem dX12_count_126 : decode cX12_count 126 = .ok (.bipush 14, 2) := by decide +kernel
theorem dX12_count_128 : decode cX12_count 128 = .ok (.iload_n 3, 1) := by decide +kernel
theorem dX12_count_129 : decode cX12_count 129 = .ok (.iadd, 1) := by decide +kernel
theorem dX12_count_130 : decode cX12_count 130 = .ok (.iaload, 1) := by decide +kernel
theorem dX12_count_131 : decode cX12_count 131 = .ok (.ifCond .le 7, 3) := by decide +kernel
theorem dX12_count_134 : decode cX12_count 134 = .ok (.iconst 1, 1) := by decide +kernel
theorem dX12_count_135 : decode cX12_count 135 = .ok (.goto 4, 3) := by decide +kernel
theorem dX12_count_138 : decode cX12_count 138 = .ok (.iconst 0, 1) := by decide +kernel
theorem dX12_count_139 : decode cX12_count 139 = .ok (.iadd, 1) := by decide +kernel
theorem dX12_count_140 : decode cX12_count 140 = .ok (.istore_n 2, 1) := by decide +kernel
theorem dX12_count_141 : decode cX12_count 141 = .ok (.iinc 3 1, 3) := by decide +kernel
theorem dX12_count_144 : decode cX12_count 144 = .ok (.goto (-40), 3) := by decide +kernel
theorem dX12_count_147 : decode cX12_count 147 = .ok (.iload_n 2, 1) := by decide +kernel
theorem dX12_count_148 : decode cX12_count 148 = .ok (.i2l, 1) := by decide +kernel
theorem dX12_count_149 : decode cX12_count 149 = .ok (.lreturn, 1) := by decide +kernel
theorem dX12_count_150 : decode cX12_count 150 = .ok (.aload_n 0, 1) := by decide +kernel
theorem dX12_count_151 : decode cX12_count 151 = .ok (.getfield 19, 3) := by decide +kernel
theorem dX12_count_154 : decode cX12_count 154 = .ok (.iload_n 1, 1) := by decide +kernel
theorem dX12_count_155 : decode cX12_count 155 = .ok (.iconst 1, 1) := by decide +kernel
theorem dX12_count_156 : decode cX12_count 156 = .ok (.isub, 1) := by decide +kernel
theorem dX12_count_157 : decode cX12_count 157 = .ok (.iaload, 1) := by decide +kernel
theorem dX12_count_158 : decode cX12_count 158 = .ok (.i2l, 1) := by decide +kernel
theorem dX12_count_159 : decode cX12_count 159 = .ok (.lreturn, 1) := by decide +kernel
theorem dX12_count_160 : decode cX12_count 160 = .ok (.aload_n 0, 1) := by decide +kernel
theorem dX12_count_161 : decode cX12_count 161 = .ok (.getfield 25, 3) := by decide +kernel
theorem dX12_count_164 : decode cX12_count 164 = .ok (.bipush 9, 2) := by decide +kernel
theorem dX12_count_166 : decode cX12_count 166 = .ok (.iaload, 1) := by decide +kernel
theorem dX12_count_167 : decode cX12_count 167 = .ok (.i2l, 1) := by decide +kernel
theorem dX12_count_168 : decode cX12_count 168 = .ok (.lreturn, 1) := by decide +kernel
theorem dX12_count_169 : decode cX12_count 169 = .ok (.aload_n 0, 1) := by decide +kernel
theorem dX12_count_170 : decode cX12_count 170 = .ok (.getfield 100, 3) := by decide +kernel
theorem dX12_count_173 : decode cX12_count 173 = .ok (.i2l, 1) := by decide +kernel
theorem dX12_count_174 : decode cX12_count 174 = .ok (.lreturn, 1) := by decide +kernel
theorem dX12_count_175 : decode cX12_count 175 = .ok (.ldc2_w 92, 3) := by decide +kernel
theorem dX12_count_178 : decode cX12_count 178 = .ok (.lreturn, 1) := by decide +kernel
def fX12_count_83 (r62 : Int → Int → jw_M → Option (Int × jw_M)) (x3 : Int) (xs0 : Int) (xs1 : Int) (M : jw_M) : Option (Int × jw_M) :=
  Option.bind (some (jw_w (xs1 + xs0))) (fun v5 => Option.bind (some (jw_w (x3 + 1))) (fun v6 => r62 v5 v6 M))
set_option maxRecDepth 100000 in
theorem pX12_count_83 (G : jw_G) (r62 : Int → Int → jw_M → Option (Int × jw_M)) (hr62 : ∀ (x2 : Int) (x3 : Int) (hx2 : jw_r x2) (hx3 : jw_r x3) (M : jw_M), jw_Rn G YX12_count 1 0 0 true (fun q => q) 62 [(0, jR G 127), (2, jI x2), (3, jI x3)] [] M (r62 x2 x3 M)) : ∀ (x3 : Int) (xs0 : Int) (xs1 : Int) (hx3 : jw_r x3) (hxs0 : jw_r xs0) (hxs1 : jw_r xs1) (M : jw_M), jw_Rn G YX12_count 1 0 0 true (fun q => q) 83 [(0, jR G 127), (3, jI x3)] [jI xs0, jI xs1] M (fX12_count_83 r62 x3 xs0 xs1 M) := by
  intro x3 xs0 xs1 hx3 hxs0 hxs1 M
  unfold fX12_count_83
  refine jw_iadd (pc := 83) dX12_count_83 ?_
  refine jw_istore_nL (pc := 84) (lv' := (fun y => [(2, y), (0, jR G 127), (3, jI x3)])) dX12_count_84 (jw_wr _) (by decide) (fun _ => rfl) (fun v5 hv5 => ?_)
  refine jw_iincL (pc := 85) 2 (lv' := (fun y => [(3, y), (2, jI v5), (0, jR G 127)])) dX12_count_85 rfl (Nat.le_of_ble_eq_true rfl) (fun _ => rfl) (fun v6 hv6 => ?_)
  refine jw_goto (pc := 88) 62 dX12_count_88 (by decide) ?_
  exact jw_few [2, 1, 0] rfl (hr62 v5 v6 hv5 hv6 M)
def fX12_count_62 : Nat → Int → Int → jw_M → Option (Int × jw_M)
  | 0, _, _, _ => none
  | k + 1, x2, x3, M => if x3 < 8 then (if 0 ≤ x3 ∧ x3 < 8 then if M 128 x3 < 0 then (fX12_count_83 (fX12_count_62 k) x3 0 x2 M) else (fX12_count_83 (fX12_count_62 k) x3 1 x2 M) else none) else (some (x2, M))
set_option maxRecDepth 100000 in
theorem pX12_count_62 (G : jw_G) : ∀ (k : Nat) (x2 : Int) (x3 : Int) (hx2 : jw_r x2) (hx3 : jw_r x3) (M : jw_M), jw_Rn G YX12_count 1 0 0 true (fun q => q) 62 [(0, jR G 127), (2, jI x2), (3, jI x3)] [] M (fX12_count_62 k x2 x3 M) := by
  intro k
  induction k with
  | zero =>
    intro x2 x3 hx2 hx3 M
    exact jw_none
  | succ k ih =>
    intro x2 x3 hx2 hx3 M
    rw [fX12_count_62]
    refine jw_iload_n (pc := 62) 2 dX12_count_62 rfl ?_
    refine jw_bipush (pc := 63) dX12_count_63 rfl ?_
    refine jw_ic_ge (pc := 65) 91 dX12_count_65 (by decide) hx3 (jw_rc _ rfl) (fun _ => ?_) (fun _ => ?_)
    · refine jw_iload_n (pc := 68) 1 dX12_count_68 rfl ?_
      refine jw_aloadR (pc := 69) 0 dX12_count_69 rfl ?_
      refine jw_getR (pc := 70) (j := 2) rfl dX12_count_70 jv_12 ji_12 (Or.inl jt_1233) jg_127 jl_127 (by decide) (by decide) rfl jf_12_2 ?_
      refine jw_iload_n (pc := 73) 2 dX12_count_73 rfl ?_
      refine jw_iald (pc := 74) dX12_count_74 jg_128 jl_128 (jw_ho jg_128 (by decide)) hx3 rfl (fun h4 => ?_)
      refine jw_if_lt (pc := 75) 82 dX12_count_75 (by decide) h4 (fun _ => ?_) (fun _ => ?_)
      · refine jw_iconst (pc := 82) dX12_count_82 ?_
        exact jw_few [0, 2] rfl (pX12_count_83 G (fX12_count_62 k) ih x3 0 x2 hx3 (jw_rc _ rfl) hx2 M)
      · refine jw_iconst (pc := 78) dX12_count_78 ?_
        refine jw_goto (pc := 79) 83 dX12_count_79 (by decide) ?_
        exact jw_few [0, 2] rfl (pX12_count_83 G (fX12_count_62 k) ih x3 1 x2 hx3 (jw_rc _ rfl) hx2 M)
    · refine jw_iload_n (pc := 91) 1 dX12_count_91 rfl ?_
      refine jw_i2lr (pc := 92) dX12_count_92 hx2 ?_
      exact jw_ret (pc := 93) (v := x2) dX12_count_93 (jw_rq hx2) rfl rfl
def fX12_count_139 (r104 : Int → Int → jw_M → Option (Int × jw_M)) (x3 : Int) (xs0 : Int) (xs1 : Int) (M : jw_M) : Option (Int × jw_M) :=
  Option.bind (some (jw_w (xs1 + xs0))) (fun v12 => Option.bind (some (jw_w (x3 + 1))) (fun v13 => r104 v12 v13 M))
set_option maxRecDepth 100000 in
theorem pX12_count_139 (G : jw_G) (r104 : Int → Int → jw_M → Option (Int × jw_M)) (hr104 : ∀ (x2 : Int) (x3 : Int) (hx2 : jw_r x2) (hx3 : jw_r x3) (M : jw_M), jw_Rn G YX12_count 1 0 0 true (fun q => q) 104 [(0, jR G 127), (2, jI x2), (3, jI x3)] [] M (r104 x2 x3 M)) : ∀ (x3 : Int) (xs0 : Int) (xs1 : Int) (hx3 : jw_r x3) (hxs0 : jw_r xs0) (hxs1 : jw_r xs1) (M : jw_M), jw_Rn G YX12_count 1 0 0 true (fun q => q) 139 [(0, jR G 127), (3, jI x3)] [jI xs0, jI xs1] M (fX12_count_139 r104 x3 xs0 xs1 M) := by
  intro x3 xs0 xs1 hx3 hxs0 hxs1 M
  unfold fX12_count_139
  refine jw_iadd (pc := 139) dX12_count_139 ?_
  refine jw_istore_nL (pc := 140) (lv' := (fun y => [(2, y), (0, jR G 127), (3, jI x3)])) dX12_count_140 (jw_wr _) (by decide) (fun _ => rfl) (fun v12 hv12 => ?_)
  refine jw_iincL (pc := 141) 2 (lv' := (fun y => [(3, y), (2, jI v12), (0, jR G 127)])) dX12_count_141 rfl (Nat.le_of_ble_eq_true rfl) (fun _ => rfl) (fun v13 hv13 => ?_)
  refine jw_goto (pc := 144) 104 dX12_count_144 (by decide) ?_
  exact jw_few [2, 1, 0] rfl (hr104 v12 v13 hv12 hv13 M)
def fX12_count_138 (r104 : Int → Int → jw_M → Option (Int × jw_M)) (x3 : Int) (xs0 : Int) (M : jw_M) : Option (Int × jw_M) :=
  fX12_count_139 r104 x3 0 xs0 M
set_option maxRecDepth 100000 in
theorem pX12_count_138 (G : jw_G) (r104 : Int → Int → jw_M → Option (Int × jw_M)) (hr104 : ∀ (x2 : Int) (x3 : Int) (hx2 : jw_r x2) (hx3 : jw_r x3) (M : jw_M), jw_Rn G YX12_count 1 0 0 true (fun q => q) 104 [(0, jR G 127), (2, jI x2), (3, jI x3)] [] M (r104 x2 x3 M)) : ∀ (x3 : Int) (xs0 : Int) (hx3 : jw_r x3) (hxs0 : jw_r xs0) (M : jw_M), jw_Rn G YX12_count 1 0 0 true (fun q => q) 138 [(0, jR G 127), (3, jI x3)] [jI xs0] M (fX12_count_138 r104 x3 xs0 M) := by
  intro x3 xs0 hx3 hxs0 M
  unfold fX12_count_138
  refine jw_iconst (pc := 138) dX12_count_138 ?_
  exact jw_few [0, 1] rfl (pX12_count_139 G r104 hr104 x3 0 xs0 hx3 (jw_rc _ rfl) hxs0 M)
def fX12_count_104 : Nat → Int → Int → jw_M → Option (Int × jw_M)
  | 0, _, _, _ => none
  | k + 1, x2, x3, M => if x3 < 49 then (if (7 : Int) ≠ 0 then if (7 : Int) ≠ 0 then if jw_w (Int.tdiv x3 7) < jw_w (Int.tmod x3 7) then (if 0 ≤ jw_w (14 + x3) ∧ jw_w (14 + x3) < 104 then if (0 : Int) < M 131 (jw_w (14 + x3)) then (fX12_count_139 (fX12_count_104 k) x3 1 x2 M) else (fX12_count_138 (fX12_count_104 k) x3 x2 M) else none) else (fX12_count_138 (fX12_count_104 k) x3 x2 M) else none else none) else (some (x2, M))
set_option maxRecDepth 100000 in
theorem pX12_count_104 (G : jw_G) : ∀ (k : Nat) (x2 : Int) (x3 : Int) (hx2 : jw_r x2) (hx3 : jw_r x3) (M : jw_M), jw_Rn G YX12_count 1 0 0 true (fun q => q) 104 [(0, jR G 127), (2, jI x2), (3, jI x3)] [] M (fX12_count_104 k x2 x3 M) := by
  intro k
  induction k with
  | zero =>
    intro x2 x3 hx2 hx3 M
    exact jw_none
  | succ k ih =>
    intro x2 x3 hx2 hx3 M
    rw [fX12_count_104]
    refine jw_iload_n (pc := 104) 2 dX12_count_104 rfl ?_
    refine jw_bipush (pc := 105) dX12_count_105 rfl ?_
    refine jw_ic_ge (pc := 107) 147 dX12_count_107 (by decide) hx3 (jw_rc _ rfl) (fun _ => ?_) (fun _ => ?_)
    · refine jw_iload_n (pc := 110) 1 dX12_count_110 rfl ?_
      refine jw_iload_n (pc := 111) 2 dX12_count_111 rfl ?_
      refine jw_bipush (pc := 112) dX12_count_112 rfl ?_
      refine jw_idiv (pc := 114) dX12_count_114 hx3 (jw_rc _ rfl) ?_
      refine jw_iload_n (pc := 115) 2 dX12_count_115 rfl ?_
      refine jw_bipush (pc := 116) dX12_count_116 rfl ?_
      refine jw_irem (pc := 118) dX12_count_118 hx3 (jw_rc _ rfl) ?_
      refine jw_ic_ge (pc := 119) 138 dX12_count_119 (by decide) (jw_wr _) (jw_wr _) (fun _ => ?_) (fun _ => ?_)
      · refine jw_aloadR (pc := 122) 0 dX12_count_122 rfl ?_
        refine jw_getR (pc := 123) (j := 5) rfl dX12_count_123 jv_12 ji_12 (Or.inl jt_1236) jg_127 jl_127 (by decide) (by decide) rfl jf_12_5 ?_
        refine jw_bipush (pc := 126) dX12_count_126 rfl ?_
        refine jw_iload_n (pc := 128) 2 dX12_count_128 rfl ?_
        refine jw_iadd (pc := 129) dX12_count_129 ?_
        refine jw_iald (pc := 130) dX12_count_130 jg_131 jl_131 (jw_ho jg_131 (by decide)) (jw_wr _) rfl (fun h11 => ?_)
        refine jw_if_le (pc := 131) 138 dX12_count_131 (by decide) h11 (fun _ => ?_) (fun _ => ?_)
        · refine jw_iconst (pc := 134) dX12_count_134 ?_
          refine jw_goto (pc := 135) 139 dX12_count_135 (by decide) ?_
          exact jw_few [0, 2] rfl (pX12_count_139 G (fX12_count_104 k) ih x3 1 x2 hx3 (jw_rc _ rfl) hx2 M)
        · exact jw_few [0, 2] rfl (pX12_count_138 G (fX12_count_104 k) ih x3 x2 hx3 hx2 M)
      · exact jw_few [0, 2] rfl (pX12_count_138 G (fX12_count_104 k) ih x3 x2 hx3 hx2 M)
    · refine jw_iload_n (pc := 147) 1 dX12_count_147 rfl ?_
      refine jw_i2lr (pc := 148) dX12_count_148 hx2 ?_
      exact jw_ret (pc := 149) (v := x2) dX12_count_149 (jw_rq hx2) rfl rfl
def fX12_count (a1 : Int) (M : jw_M) : Option (Int × jw_M) :=
  Option.bind (some (jw_up M 127 0 0)) (fun M1 => Option.bind (some 0) (fun v2 => if a1 = 0 then (Option.bind (some 0) (fun v3 => fX12_count_62 jw_fu v2 v3 M1)) else (if a1 = 1 then (if 0 ≤ (0 : Int) ∧ (0 : Int) < 104 then some (M1 131 0, M1) else none) else (if a1 = 2 then (Option.bind (some 0) (fun v10 => fX12_count_104 jw_fu v2 v10 M1)) else (if a1 = 3 then (if 0 ≤ jw_w (a1 - 1) ∧ jw_w (a1 - 1) < 104 then some (M1 131 (jw_w (a1 - 1)), M1) else none) else (if a1 = 4 then (if 0 ≤ jw_w (a1 - 1) ∧ jw_w (a1 - 1) < 104 then some (M1 131 (jw_w (a1 - 1)), M1) else none) else (if a1 = 5 then (if 0 ≤ jw_w (a1 - 1) ∧ jw_w (a1 - 1) < 104 then some (M1 131 (jw_w (a1 - 1)), M1) else none) else (if a1 = 6 then (if 0 ≤ jw_w (a1 - 1) ∧ jw_w (a1 - 1) < 104 then some (M1 131 (jw_w (a1 - 1)), M1) else none) else (if a1 = 7 then (if 0 ≤ (9 : Int) ∧ (9 : Int) < 104 then some (M1 133 9, M1) else none) else (if a1 = 8 then (some (M1 127 10, M1)) else (some ((-9000000000000000001), M1))))))))))))
set_option maxRecDepth 100000 in
theorem rX12_count (G : jw_G) (a1 : Int) (ha1 : jw_r a1) (M : jw_M) : jw_Rn G YX12_count 1 0 0 true (fun q => q) 0 [(0, jR G 127), (1, jI a1)] [] M (fX12_count a1 M) := by
  unfold fX12_count
  refine jw_aloadR (pc := 0) 0 dX12_count_0 rfl ?_
  refine jw_iconst (pc := 1) dX12_count_1 ?_
  refine jw_putI (pc := 2) (j := 0) tyX12 rfl dX12_count_2 jv_12 ji_12 tyX12_ok nmX12 (Or.inl jt_1231) rfl jg_127 jl_127 (by decide) (by decide) (jw_ho jg_127 (by decide)) rfl rfl (jw_rc _ rfl) rfl ?_
  refine jw_letM (fun M1 => ?_)
  refine jw_iconst (pc := 5) dX12_count_5 ?_
  refine jw_istore_nL (pc := 6) (lv' := (fun y => [(2, y), (0, jR G 127), (1, jI a1)])) dX12_count_6 (jw_rc _ rfl) (by decide) (fun _ => rfl) (fun v2 hv2 => ?_)
  refine jw_iload_n (pc := 7) 2 dX12_count_7 rfl ?_
  refine jw_ite (fun c7 => ?_) (fun c7 => ?_)
  · refine jw_tsin (pc := 8) 60 0 dX12_count_8 ha1 c7 rfl rfl (by decide) ?_
    refine jw_iconst (pc := 60) dX12_count_60 ?_
    refine jw_istore_nL (pc := 61) (lv' := (fun y => [(3, y), (2, jI v2), (0, jR G 127), (1, jI a1)])) dX12_count_61 (jw_rc _ rfl) (by decide) (fun _ => rfl) (fun v3 hv3 => ?_)
    exact jw_few [2, 1, 0] rfl (pX12_count_62 G jw_fu v2 v3 hv2 hv3 M1)
  · refine jw_ite (fun c9 => ?_) (fun c9 => ?_)
    · refine jw_tsin (pc := 8) 94 1 dX12_count_8 ha1 c9 rfl rfl (by decide) ?_
      refine jw_aloadR (pc := 94) 1 dX12_count_94 rfl ?_
      refine jw_getR (pc := 95) (j := 5) rfl dX12_count_95 jv_12 ji_12 (Or.inl jt_1236) jg_127 jl_127 (by decide) (by decide) rfl jf_12_5 ?_
      refine jw_iconst (pc := 98) dX12_count_98 ?_
      refine jw_iald (pc := 99) dX12_count_99 jg_131 jl_131 (jw_ho jg_131 (by decide)) (jw_rc _ rfl) rfl (fun h8 => ?_)
      refine jw_i2lr (pc := 100) dX12_count_100 h8 ?_
      exact jw_ret (pc := 101) (v := M1 131 0) dX12_count_101 (jw_rq h8) rfl rfl
    · refine jw_ite (fun c14 => ?_) (fun c14 => ?_)
      · refine jw_tsin (pc := 8) 102 2 dX12_count_8 ha1 c14 rfl rfl (by decide) ?_
        refine jw_iconst (pc := 102) dX12_count_102 ?_
        refine jw_istore_nL (pc := 103) (lv' := (fun y => [(3, y), (2, jI v2), (0, jR G 127), (1, jI a1)])) dX12_count_103 (jw_rc _ rfl) (by decide) (fun _ => rfl) (fun v10 hv10 => ?_)
        exact jw_few [2, 1, 0] rfl (pX12_count_104 G jw_fu v2 v10 hv2 hv10 M1)
      · refine jw_ite (fun c16 => ?_) (fun c16 => ?_)
        · refine jw_tsin (pc := 8) 150 3 dX12_count_8 ha1 c16 rfl rfl (by decide) ?_
          refine jw_aloadR (pc := 150) 1 dX12_count_150 rfl ?_
          refine jw_getR (pc := 151) (j := 5) rfl dX12_count_151 jv_12 ji_12 (Or.inl jt_1236) jg_127 jl_127 (by decide) (by decide) rfl jf_12_5 ?_
          refine jw_iload_n (pc := 154) 2 dX12_count_154 rfl ?_
          refine jw_iconst (pc := 155) dX12_count_155 ?_
          refine jw_isub (pc := 156) dX12_count_156 ?_
          refine jw_iald (pc := 157) dX12_count_157 jg_131 jl_131 (jw_ho jg_131 (by decide)) (jw_wr _) rfl (fun h15 => ?_)
          refine jw_i2lr (pc := 158) dX12_count_158 h15 ?_
          exact jw_ret (pc := 159) (v := M1 131 (jw_w (a1 - 1))) dX12_count_159 (jw_rq h15) rfl rfl
        · refine jw_ite (fun c18 => ?_) (fun c18 => ?_)
          · refine jw_tsin (pc := 8) 150 4 dX12_count_8 ha1 c18 rfl rfl (by decide) ?_
            refine jw_aloadR (pc := 150) 1 dX12_count_150 rfl ?_
            refine jw_getR (pc := 151) (j := 5) rfl dX12_count_151 jv_12 ji_12 (Or.inl jt_1236) jg_127 jl_127 (by decide) (by decide) rfl jf_12_5 ?_
            refine jw_iload_n (pc := 154) 2 dX12_count_154 rfl ?_
            refine jw_iconst (pc := 155) dX12_count_155 ?_
            refine jw_isub (pc := 156) dX12_count_156 ?_
            refine jw_iald (pc := 157) dX12_count_157 jg_131 jl_131 (jw_ho jg_131 (by decide)) (jw_wr _) rfl (fun h17 => ?_)
            refine jw_i2lr (pc := 158) dX12_count_158 h17 ?_
            exact jw_ret (pc := 159) (v := M1 131 (jw_w (a1 - 1))) dX12_count_159 (jw_rq h17) rfl rfl
          · refine jw_ite (fun c20 => ?_) (fun c20 => ?_)
            · refine jw_tsin (pc := 8) 150 5 dX12_count_8 ha1 c20 rfl rfl (by decide) ?_
              refine jw_aloadR (pc := 150) 1 dX12_count_150 rfl ?_
              refine jw_getR (pc := 151) (j := 5) rfl dX12_count_151 jv_12 ji_12 (Or.inl jt_1236) jg_127 jl_127 (by decide) (by decide) rfl jf_12_5 ?_
              refine jw_iload_n (pc := 154) 2 dX12_count_154 rfl ?_
              refine jw_iconst (pc := 155) dX12_count_155 ?_
              refine jw_isub (pc := 156) dX12_count_156 ?_
              refine jw_iald (pc := 157) dX12_count_157 jg_131 jl_131 (jw_ho jg_131 (by decide)) (jw_wr _) rfl (fun h19 => ?_)
              refine jw_i2lr (pc := 158) dX12_count_158 h19 ?_
              exact jw_ret (pc := 159) (v := M1 131 (jw_w (a1 - 1))) dX12_count_159 (jw_rq h19) rfl rfl
            · refine jw_ite (fun c22 => ?_) (fun c22 => ?_)
              · refine jw_tsin (pc := 8) 150 6 dX12_count_8 ha1 c22 rfl rfl (by decide) ?_
                refine jw_aloadR (pc := 150) 1 dX12_count_150 rfl ?_
                refine jw_getR (pc := 151) (j := 5) rfl dX12_count_151 jv_12 ji_12 (Or.inl jt_1236) jg_127 jl_127 (by decide) (by decide) rfl jf_12_5 ?_
                refine jw_iload_n (pc := 154) 2 dX12_count_154 rfl ?_
                refine jw_iconst (pc := 155) dX12_count_155 ?_
                refine jw_isub (pc := 156) dX12_count_156 ?_
                refine jw_iald (pc := 157) dX12_count_157 jg_131 jl_131 (jw_ho jg_131 (by decide)) (jw_wr _) rfl (fun h21 => ?_)
                refine jw_i2lr (pc := 158) dX12_count_158 h21 ?_
                exact jw_ret (pc := 159) (v := M1 131 (jw_w (a1 - 1))) dX12_count_159 (jw_rq h21) rfl rfl
              · refine jw_ite (fun c24 => ?_) (fun c24 => ?_)
                · refine jw_tsin (pc := 8) 160 7 dX12_count_8 ha1 c24 rfl rfl (by decide) ?_
                  refine jw_aloadR (pc := 160) 1 dX12_count_160 rfl ?_
                  refine jw_getR (pc := 161) (j := 8) rfl dX12_count_161 jv_12 ji_12 (Or.inl jt_1239) jg_127 jl_127 (by decide) (by decide) rfl jf_12_8 ?_
                  refine jw_bipush (pc := 164) dX12_count_164 rfl ?_
                  refine jw_iald (pc := 166) dX12_count_166 jg_133 jl_133 (jw_ho jg_133 (by decide)) (jw_rc _ rfl) rfl (fun h23 => ?_)
                  refine jw_i2lr (pc := 167) dX12_count_167 h23 ?_
                  exact jw_ret (pc := 168) (v := M1 133 9) dX12_count_168 (jw_rq h23) rfl rfl
                · refine jw_ite (fun c26 => ?_) (fun c26 => ?_)
                  · refine jw_tsin (pc := 8) 169 8 dX12_count_8 ha1 c26 rfl rfl (by decide) ?_
                    refine jw_aloadR (pc := 169) 1 dX12_count_169 rfl ?_
                    refine jw_getI (pc := 170) (j := 10) rfl dX12_count_170 jv_12 ji_12 (Or.inl jt_1241) jg_127 jl_127 (by decide) (by decide) (jw_ho jg_127 (by decide)) (Or.inl rfl) rfl (fun h25 => ?_)
                    refine jw_i2lr (pc := 173) dX12_count_173 h25 ?_
                    exact jw_ret (pc := 174) (v := M1 127 10) dX12_count_174 (jw_rq h25) rfl rfl
                  · refine jw_tsout (pc := 8) 175 dX12_count_8 ha1 (by omega) (by decide) ?_
                    refine jw_ldc2 (pc := 175) (n := (-9000000000000000001)) dX12_count_175 jt_1349 (by decide) ?_
                    exact jw_ret (pc := 178) (v := (-9000000000000000001)) dX12_count_178 (jw_qc _ rfl) rfl rfl
theorem kX12_count (G : jw_G) (a1 : Int) (ha1 : jw_r a1) (M : jw_M) : jw_Ct G YX12_count (some .long) 1 0 0 true (fun q => q) yX12_count [jR G 127, jI a1] M (fX12_count a1 M) := jw_met (by decide) rfl rfl rfl (Nat.le_of_ble_eq_true rfl) (rX12_count G a1 ha1 M)
abbrev YX12_status : jw_Y := (RX12, cX12_status, 1, 1, "status")
theorem qX12_status : jw_cy YX12_status (some .int) yX12_status 0 := ⟨by decide, jt_1764, jt_14, by decide, by decide +kernel⟩
theorem dX12_status_0 : decode cX12_status 0 = .ok (.aload_n 0, 1) := by decide +kernel
theorem dX12_status_1 : decode cX12_status 1 = .ok (.iconst 0, 1) := by decide +kernel
theorem dX12_status_2 : decode cX12_status 2 = .ok (.putfield 71, 3) := by decide +kernel
theorem dX12_status_5 : decode cX12_status 5 = .ok (.aload_n 0, 1) := by decide +kernel
theorem dX12_status_6 : decode cX12_status 6 = .ok (.getfield 75, 3) := by decide +kernel
theorem dX12_status_9 : decode cX12_status 9 = .ok (.ireturn, 1) := by decide +kernel
def fX12_status (M : jw_M) : Option (Int × jw_M) :=
  Option.bind (some (jw_up M 127 0 0)) (fun M1 => some (M1 127 1, M1))
set_option maxRecDepth 100000 in
theorem rX12_status (G : jw_G) (M : jw_M) : jw_Rn G YX12_status 1 0 0 true (fun q => q) 0 [(0, jR G 127)] [] M (fX12_status M) := by
  unfold fX12_status
  refine jw_aloadR (pc := 0) 0 dX12_status_0 rfl ?_
  refine jw_iconst (pc := 1) dX12_status_1 ?_
  refine jw_putI (pc := 2) (j := 0) tyX12 rfl dX12_status_2 jv_12 ji_12 tyX12_ok nmX12 (Or.inl jt_1231) rfl jg_127 jl_127 (by decide) (by decide) (jw_ho jg_127 (by decide)) rfl rfl (jw_rc _ rfl) rfl ?_
  refine jw_letM (fun M1 => ?_)
  refine jw_aloadR (pc := 5) 0 dX12_status_5 rfl ?_
  refine jw_getI (pc := 6) (j := 1) rfl dX12_status_6 jv_12 ji_12 (Or.inl jt_1232) jg_127 jl_127 (by decide) (by decide) (jw_ho jg_127 (by decide)) (Or.inl rfl) rfl (fun h2 => ?_)
  exact jw_ret (pc := 9) (v := M1 127 1) dX12_status_9 h2 rfl rfl
theorem kX12_status (G : jw_G) (M : jw_M) : jw_Ct G YX12_status (some .int) 1 0 0 true (fun q => q) yX12_status [jR G 127] M (fX12_status M) := jw_met (by decide) rfl rfl rfl (Nat.le_of_ble_eq_true rfl) (rX12_status G M)
