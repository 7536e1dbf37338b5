abbrev YJ6_bitCount_0f7a4 : jw_Y := (RJ6, cJ6_bitCount_0f7a4, 1, 1, "bitCount")
theorem qJ6_bitCount_0f7a4 : jw_cy YJ6_bitCount_0f7a4 (some .int) yJ6_bitCount_0f7a4 1 := ⟨by decide, jt_1013, jt_21, by decide, by decide +kernel⟩
theorem dJ6_bitCount_0f7a4_0 : decode cJ6_bitCount_0f7a4 0 = .ok (.iload_n 0, 1) := by decide +kernel
theorem dJ6_bitCount_0f7a4_1 : decode cJ6_bitCount_0f7a4 1 = .ok (.iload_n 0, 1) := by decide +kernel
theorem dJ6_bitCount_0f7a4_2 : decode cJ6_bitCount_0f7a4 2 = .ok (.iconst 1, 1) := by decide +kernel
theorem dJ6_bitCount_0f7a4_3 : decode cJ6_bitCount_0f7a4 3 = .ok (.iushr, 1) := by decide +kernel
theorem dJ6_bitCount_0f7a4_4 : decode cJ6_bitCount_0f7a4 4 = .ok (.ldc_w 265, 3) := by decide +kernel
theorem dJ6_bitCount_0f7a4_7 : decode cJ6_bitCount_0f7a4 7 = .ok (.iand, 1) := by decide +kernel
theorem dJ6_bitCount_0f7a4_8 : decode cJ6_bitCount_0f7a4 8 = .ok (.isub, 1) := by decide +kernel
theorem dJ6_bitCount_0f7a4_9 : decode cJ6_bitCount_0f7a4 9 = .ok (.istore_n 0, 1) := by decide +kernel
theorem dJ6_bitCount_0f7a4_10 : decode cJ6_bitCount_0f7a4 10 = .ok (.iload_n 0, 1) := by decide +kernel
theorem dJ6_bitCount_0f7a4_11 : decode cJ6_bitCount_0f7a4 11 = .ok (.ldc_w 266, 3) := by decide +kernel
theorem dJ6_bitCount_0f7a4_14 : decode cJ6_bitCount_0f7a4 14 = .ok (.iand, 1) := by decide +kernel
theorem dJ6_bitCount_0f7a4_15 : decode cJ6_bitCount_0f7a4 15 = .ok (.iload_n 0, 1) := by decide +kernel
theorem dJ6_bitCount_0f7a4_16 : decode cJ6_bitCount_0f7a4 16 = .ok (.iconst 2, 1) := by decide +kernel
theorem dJ6_bitCount_0f7a4_17 : decode cJ6_bitCount_0f7a4 17 = .ok (.iushr, 1) := by decide +kernel
theorem dJ6_bitCount_0f7a4_18 : decode cJ6_bitCount_0f7a4 18 = .ok (.ldc_w 266, 3) := by decide +kernel
theorem dJ6_bitCount_0f7a4_21 : decode cJ6_bitCount_0f7a4 21 = .ok (.iand, 1) := by decide +kernel
theorem dJ6_bitCount_0f7a4_22 : decode cJ6_bitCount_0f7a4 22 = .ok (.iadd, 1) := by decide +kernel
theorem dJ6_bitCount_0f7a4_23 : decode cJ6_bitCount_0f7a4 23 = .ok (.istore_n 0, 1) := by decide +kernel
theorem dJ6_bitCount_0f7a4_24 : decode cJ6_bitCount_0f7a4 24 = .ok (.iload_n 0, 1) := by decide +kernel
theorem dJ6_bitCount_0f7a4_25 : decode cJ6_bitCount_0f7a4 25 = .ok (.iload_n 0, 1) := by decide +kernel
theorem dJ6_bitCount_0f7a4_26 : decode cJ6_bitCount_0f7a4 26 = .ok (.iconst 4, 1) := by decide +kernel
theorem dJ6_bitCount_0f7a4_27 : decode cJ6_bitCount_0f7a4 27 = .ok (.iushr, 1) := by decide +kernel
theorem dJ6_bitCount_0f7a4_28 : decode cJ6_bitCount_0f7a4 28 = .ok (.iadd, 1) := by decide +kernel
theorem dJ6_bitCount_0f7a4_29 : decode cJ6_bitCount_0f7a4 29 = .ok (.ldc_w 267, 3) := by decide +kernel
theorem dJ6_bitCount_0f7a4_32 : decode cJ6_bitCount_0f7a4 32 = .ok (.iand, 1) := by decide +kernel
theorem dJ6_bitCount_0f7a4_33 : decode cJ6_bitCount_0f7a4 33 = .ok (.istore_n 0, 1) := by decide +kernel
theorem dJ6_bitCount_0f7a4_34 : decode cJ6_bitCount_0f7a4 34 = .ok (.iload_n 0, 1) := by decide +kernel
theorem dJ6_bitCount_0f7a4_35 : decode cJ6_bitCount_0f7a4 35 = .ok (.iload_n 0, 1) := by decide +kernel
theorem dJ6_bitCount_0f7a4_36 : decode cJ6_bitCount_0f7a4 36 = .ok (.bipush 8, 2) := by decide +kernel
theorem dJ6_bitCount_0f7a4_38 : decode cJ6_bitCount_0f7a4 38 = .ok (.iushr, 1) := by decide +kernel
theorem dJ6_bitCount_0f7a4_39 : decode cJ6_bitCount_0f7a4 39 = .ok (.iadd, 1) := by decide +kernel
theorem dJ6_bitCount_0f7a4_40 : decode cJ6_bitCount_0f7a4 40 = .ok (.istore_n 0, 1) := by decide +kernel
theorem dJ6_bitCount_0f7a4_41 : decode cJ6_bitCount_0f7a4 41 = .ok (.iload_n 0, 1) := by decide +kernel
theorem dJ6_bitCount_0f7a4_42 : decode cJ6_bitCount_0f7a4 42 = .ok (.iload_n 0, 1) := by decide +kernel
theorem dJ6_bitCount_0f7a4_43 : decode cJ6_bitCount_0f7a4 43 = .ok (.bipush 16, 2) := by decide +kernel
theorem dJ6_bitCount_0f7a4_45 : decode cJ6_bitCount_0f7a4 45 = .ok (.iushr, 1) := by decide +kernel
theorem dJ6_bitCount_0f7a4_46 : decode cJ6_bitCount_0f7a4 46 = .ok (.iadd, 1) := by decide +kernel
theorem dJ6_bitCount_0f7a4_47 : decode cJ6_bitCount_0f7a4 47 = .ok (.istore_n 0, 1) := by decide +kernel
theorem dJ6_bitCount_0f7a4_48 : decode cJ6_bitCount_0f7a4 48 = .ok (.iload_n 0, 1) := by decide +kernel
theorem dJ6_bitCount_0f7a4_49 : decode cJ6_bitCount_0f7a4 49 = .ok (.bipush 63, 2) := by decide +kernel
theorem dJ6_bitCount_0f7a4_51 : decode cJ6_bitCount_0f7a4 51 = .ok (.iand, 1) := by decide +kernel
theorem dJ6_bitCount_0f7a4_52 : decode cJ6_bitCount_0f7a4 52 = .ok (.ireturn, 1) := by decide +kernel
def fJ6_bitCount_0f7a4 (a1 : Int) (M : jw_M) : Option Int :=
  Option.bind (some (jw_w (a1 - (jw_iand (jw_iushr a1 1) 1431655765)))) (fun v1 => Option.bind (some (jw_w ((jw_iand v1 858993459) + (jw_iand (jw_iushr v1 2) 858993459)))) (fun v2 => Option.bind (some (jw_iand (jw_w (v2 + (jw_iushr v2 4))) 252645135)) (fun v3 => Option.bind (some (jw_w (v3 + (jw_iushr v3 8)))) (fun v4 => Option.bind (some (jw_w (v4 + (jw_iushr v4 16)))) (fun v5 => some (jw_iand v5 63))))))
set_option maxRecDepth 100000 in
theorem rJ6_bitCount_0f7a4 (G : jw_G) (a1 : Int) (ha1 : jw_r a1) (M : jw_M) : jw_Rn G YJ6_bitCount_0f7a4 1 0 0 true (fun v => (v, M)) 0 [(0, jI a1)] [] M (fJ6_bitCount_0f7a4 a1 M) := by
  unfold fJ6_bitCount_0f7a4
  refine jw_iload_n (pc := 0) 0 dJ6_bitCount_0f7a4_0 rfl ?_
  refine jw_iload_n (pc := 1) 0 dJ6_bitCount_0f7a4_1 rfl ?_
  refine jw_iconst (pc := 2) dJ6_bitCount_0f7a4_2 ?_
  refine jw_iushrr (pc := 3) dJ6_bitCount_0f7a4_3 ?_
  refine jw_ldcw (pc := 4) (n := 1431655765) dJ6_bitCount_0f7a4_4 jt_1014 (by decide) ?_
  refine jw_iandr (pc := 7) dJ6_bitCount_0f7a4_7 ?_
  refine jw_isub (pc := 8) dJ6_bitCount_0f7a4_8 ?_
  refine jw_istore_nL (pc := 9) (lv' := (fun y => [(0, y)])) dJ6_bitCount_0f7a4_9 (jw_wr _) (by decide) (fun _ => rfl) (fun v1 hv1 => ?_)
  refine jw_iload_n (pc := 10) 0 dJ6_bitCount_0f7a4_10 rfl ?_
  refine jw_ldcw (pc := 11) (n := 858993459) dJ6_bitCount_0f7a4_11 jt_1015 (by decide) ?_
  refine jw_iandr (pc := 14) dJ6_bitCount_0f7a4_14 ?_
  refine jw_iload_n (pc := 15) 0 dJ6_bitCount_0f7a4_15 rfl ?_
  refine jw_iconst (pc := 16) dJ6_bitCount_0f7a4_16 ?_
  refine jw_iushrr (pc := 17) dJ6_bitCount_0f7a4_17 ?_
  refine jw_ldcw (pc := 18) (n := 858993459) dJ6_bitCount_0f7a4_18 jt_1015 (by decide) ?_
  refine jw_iandr (pc := 21) dJ6_bitCount_0f7a4_21 ?_
  refine jw_iadd (pc := 22) dJ6_bitCount_0f7a4_22 ?_
  refine jw_istore_nL (pc := 23) (lv' := (fun y => [(0, y)])) dJ6_bitCount_0f7a4_23 (jw_wr _) (by decide) (fun _ => rfl) (fun v2 hv2 => ?_)
  refine jw_iload_n (pc := 24) 0 dJ6_bitCount_0f7a4_24 rfl ?_
  refine jw_iload_n (pc := 25) 0 dJ6_bitCount_0f7a4_25 rfl ?_
  refine jw_iconst (pc := 26) dJ6_bitCount_0f7a4_26 ?_
  refine jw_iushrr (pc := 27) dJ6_bitCount_0f7a4_27 ?_
  refine jw_iadd (pc := 28) dJ6_bitCount_0f7a4_28 ?_
  refine jw_ldcw (pc := 29) (n := 252645135) dJ6_bitCount_0f7a4_29 jt_1016 (by decide) ?_
  refine jw_iandr (pc := 32) dJ6_bitCount_0f7a4_32 ?_
  refine jw_istore_nL (pc := 33) (lv' := (fun y => [(0, y)])) dJ6_bitCount_0f7a4_33 (jw_rI _) (by decide) (fun _ => rfl) (fun v3 hv3 => ?_)
  refine jw_iload_n (pc := 34) 0 dJ6_bitCount_0f7a4_34 rfl ?_
  refine jw_iload_n (pc := 35) 0 dJ6_bitCount_0f7a4_35 rfl ?_
  refine jw_bipush (pc := 36) dJ6_bitCount_0f7a4_36 rfl ?_
  refine jw_iushrr (pc := 38) dJ6_bitCount_0f7a4_38 ?_
  refine jw_iadd (pc := 39) dJ6_bitCount_0f7a4_39 ?_
  refine jw_istore_nL (pc := 40) (lv' := (fun y => [(0, y)])) dJ6_bitCount_0f7a4_40 (jw_wr _) (by decide) (fun _ => rfl) (fun v4 hv4 => ?_)
  refine jw_iload_n (pc := 41) 0 dJ6_bitCount_0f7a4_41 rfl ?_
  refine jw_iload_n (pc := 42) 0 dJ6_bitCount_0f7a4_42 rfl ?_
  refine jw_bipush (pc := 43) dJ6_bitCount_0f7a4_43 rfl ?_
  refine jw_iushrr (pc := 45) dJ6_bitCount_0f7a4_45 ?_
  refine jw_iadd (pc := 46) dJ6_bitCount_0f7a4_46 ?_
  refine jw_istore_nL (pc := 47) (lv' := (fun y => [(0, y)])) dJ6_bitCount_0f7a4_47 (jw_wr _) (by decide) (fun _ => rfl) (fun v5 hv5 => ?_)
  refine jw_iload_n (pc := 48) 0 dJ6_bitCount_0f7a4_48 rfl ?_
  refine jw_bipush (pc := 49) dJ6_bitCount_0f7a4_49 rfl ?_
  refine jw_iandr (pc := 51) dJ6_bitCount_0f7a4_51 ?_
  exact jw_ret (pc := 52) (v := jw_iand v5 63) dJ6_bitCount_0f7a4_52 (jw_rI _) rfl rfl
theorem kJ6_bitCount_0f7a4 (G : jw_G) (a1 : Int) (ha1 : jw_r a1) (M : jw_M) : jw_Ct G YJ6_bitCount_0f7a4 (some .int) 1 0 0 true (fun v => (v, M)) yJ6_bitCount_0f7a4 [jI a1] M (fJ6_bitCount_0f7a4 a1 M) := jw_met (by decide) rfl rfl rfl (Nat.le_of_ble_eq_true rfl) (rJ6_bitCount_0f7a4 G a1 ha1 M)
abbrev YJ7_rangeCheck_23922 : jw_Y := (RJ7, cJ7_rangeCheck_23922, 3, 0, "rangeCheck")
theorem qJ7_rangeCheck_23922 : jw_cy YJ7_rangeCheck_23922 none yJ7_rangeCheck_23922 3 := ⟨by decide, jt_429, jt_3, by decide, by decide +kernel⟩
theorem dJ7_rangeCheck_23922_0 : decode cJ7_rangeCheck_23922 0 = .ok (.iload_n 1, 1) := by decide +kernel
theorem dJ7_rangeCheck_23922_1 : decode cJ7_rangeCheck_23922 1 = .ok (.iload_n 2, 1) := by decide +kernel
theorem dJ7_rangeCheck_23922_2 : decode cJ7_rangeCheck_23922 2 = .ok (.if_icmp .le 44, 3) := by decide +kernel
theorem dJ7_rangeCheck_23922_5 : decode cJ7_rangeCheck_23922 5 = .ok (.new 43, 3) := by decide +kernel
theorem dJ7_rangeCheck_23922_46 : decode cJ7_rangeCheck_23922 46 = .ok (.iload_n 1, 1) := by decide +kernel
theorem dJ7_rangeCheck_23922_47 : decode cJ7_rangeCheck_23922 47 = .ok (.ifCond .ge 12, 3) := by decide +kernel
theorem dJ7_rangeCheck_23922_50 : decode cJ7_rangeCheck_23922 50 = .ok (.new 68, 3) := by decide +kernel
theorem dJ7_rangeCheck_23922_59 : decode cJ7_rangeCheck_23922 59 = .ok (.iload_n 2, 1) := by decide +kernel
theorem dJ7_rangeCheck_23922_60 : decode cJ7_rangeCheck_23922 60 = .ok (.iload_n 0, 1) := by decide +kernel
theorem dJ7_rangeCheck_23922_61 : decode cJ7_rangeCheck_23922 61 = .ok (.if_icmp .le 12, 3) := by decide +kernel
theorem dJ7_rangeCheck_23922_64 : decode cJ7_rangeCheck_23922 64 = .ok (.new 68, 3) := by decide +kernel
theorem dJ7_rangeCheck_23922_73 : decode cJ7_rangeCheck_23922 73 = .ok (.return_, 1) := by decide +kernel
def fJ7_rangeCheck_23922 (a1 : Int) (a2 : Int) (a3 : Int) (M : jw_M) : Option jw_M :=
  if a3 < a2 then none else (if a2 < 0 then none else (if a1 < a3 then none else (some M)))
set_option maxRecDepth 100000 in
theorem rJ7_rangeCheck_23922 (G : jw_G) (a1 : Int) (a2 : Int) (a3 : Int) (ha1 : jw_r a1) (ha2 : jw_r a2) (ha3 : jw_r a3) (M : jw_M) : jw_Rn G YJ7_rangeCheck_23922 1 0 0 true (fun M1 => (0, M1)) 0 [(0, jI a1), (1, jI a2), (2, jI a3)] [] M (fJ7_rangeCheck_23922 a1 a2 a3 M) := by
  unfold fJ7_rangeCheck_23922
  refine jw_iload_n (pc := 0) 1 dJ7_rangeCheck_23922_0 rfl ?_
  refine jw_iload_n (pc := 1) 2 dJ7_rangeCheck_23922_1 rfl ?_
  refine jw_ic_le (pc := 2) 46 dJ7_rangeCheck_23922_2 (by decide) ha2 ha3 (fun _ => ?_) (fun _ => ?_)
  · exact jw_none
  · refine jw_iload_n (pc := 46) 1 dJ7_rangeCheck_23922_46 rfl ?_
    refine jw_if_ge (pc := 47) 59 dJ7_rangeCheck_23922_47 (by decide) ha2 (fun _ => ?_) (fun _ => ?_)
    · exact jw_none
    · refine jw_iload_n (pc := 59) 2 dJ7_rangeCheck_23922_59 rfl ?_
      refine jw_iload_n (pc := 60) 0 dJ7_rangeCheck_23922_60 rfl ?_
      refine jw_ic_le (pc := 61) 73 dJ7_rangeCheck_23922_61 (by decide) ha3 ha1 (fun _ => ?_) (fun _ => ?_)
      · exact jw_none
      · exact jw_ret (pc := 73) (v := 0) dJ7_rangeCheck_23922_73 trivial rfl rfl
theorem kJ7_rangeCheck_23922 (G : jw_G) (a1 : Int) (a2 : Int) (a3 : Int) (ha1 : jw_r a1) (ha2 : jw_r a2) (ha3 : jw_r a3) (M : jw_M) : jw_Ct G YJ7_rangeCheck_23922 none 1 0 0 true (fun M1 => (0, M1)) yJ7_rangeCheck_23922 [jI a1, jI a2, jI a3] M (fJ7_rangeCheck_23922 a1 a2 a3 M) := jw_met (by decide) rfl rfl rfl (Nat.le_of_ble_eq_true rfl) (rJ7_rangeCheck_23922 G a1 a2 a3 ha1 ha2 ha3 M)
abbrev YJ7_fill_53178 : jw_Y := (RJ7, cJ7_fill_53178, 4, 0, "fill")
theorem qJ7_fill_53178 : jw_cy YJ7_fill_53178 none yJ7_fill_53178 2 := ⟨by decide, jt_38, jt_3, by decide, by decide +kernel⟩
theorem dJ7_fill_53178_0 : decode cJ7_fill_53178 0 = .ok (.iconst 0, 1) := by decide +kernel
theorem dJ7_fill_53178_1 : decode cJ7_fill_53178 1 = .ok (.istore_n 2, 1) := by decide +kernel
theorem dJ7_fill_53178_2 : decode cJ7_fill_53178 2 = .ok (.aload_n 0, 1) := by decide +kernel
theorem dJ7_fill_53178_3 : decode cJ7_fill_53178 3 = .ok (.arraylength, 1) := by decide +kernel
theorem dJ7_fill_53178_4 : decode cJ7_fill_53178 4 = .ok (.istore_n 3, 1) := by decide +kernel
theorem dJ7_fill_53178_5 : decode cJ7_fill_53178 5 = .ok (.iload_n 2, 1) := by decide +kernel
theorem dJ7_fill_53178_6 : decode cJ7_fill_53178 6 = .ok (.iload_n 3, 1) := by decide +kernel
theorem dJ7_fill_53178_7 : decode cJ7_fill_53178 7 = .ok (.if_icmp .ge 13, 3) := by decide +kernel
theorem dJ7_fill_53178_10 : decode cJ7_fill_53178 10 = .ok (.aload_n 0, 1) := by decide +kernel
theorem dJ7_fill_53178_11 : decode cJ7_fill_53178 11 = .ok (.iload_n 2, 1) := by decide +kernel
theorem dJ7_fill_53178_12 : decode cJ7_fill_53178 12 = .ok (.iload_n 1, 1) := by decide +kernel
theorem dJ7_fill_53178_13 : decode cJ7_fill_53178 13 = .ok (.iastore, 1) := by decide +kernel
theorem dJ7_fill_53178_14 : decode cJ7_fill_53178 14 = .ok (.iinc 2 1, 3) := by decide +kernel
theorem dJ7_fill_53178_17 : decode cJ7_fill_53178 17 = .ok (.goto (-12), 3) := by decide +kernel
theorem dJ7_fill_53178_20 : decode cJ7_fill_53178 20 = .ok (.return_, 1) := by decide +kernel
def fJ7_fill_53178_5 (a1 : Nat) : Nat → Int → Int → Int → jw_M → Option jw_M
  | 0, _, _, _, _ => none
  | k + 1, x1, x2, x3, M => if x2 < x3 then (if 0 ≤ x2 ∧ x2 < (jw_len a1 : Int) then Option.bind (some (jw_up M a1 x2 x1)) (fun M3 => Option.bind (some (jw_w (x2 + 1))) (fun v4 => fJ7_fill_53178_5 a1 k x1 v4 x3 M3)) else none) else (some M)
set_option maxRecDepth 100000 in
theorem pJ7_fill_53178_5 (G : jw_G) (a1 : Nat) (ha1 : jw_tag a1 = 20) : ∀ (k : Nat) (x1 : Int) (x2 : Int) (x3 : Int) (hx1 : jw_r x1) (hx2 : jw_r x2) (hx3 : jw_r x3) (M : jw_M), jw_Rn G YJ7_fill_53178 1 0 0 true (fun M1 => (0, M1)) 5 [(0, jR G a1), (1, jI x1), (2, jI x2), (3, jI x3)] [] M (fJ7_fill_53178_5 a1 k x1 x2 x3 M) := by
  intro k
  induction k with
  | zero =>
    intro x1 x2 x3 hx1 hx2 hx3 M
    exact jw_none
  | succ k ih =>
    intro x1 x2 x3 hx1 hx2 hx3 M
    rw [fJ7_fill_53178_5]
    refine jw_iload_n (pc := 5) 2 dJ7_fill_53178_5 rfl ?_
    refine jw_iload_n (pc := 6) 3 dJ7_fill_53178_6 rfl ?_
    refine jw_ic_ge (pc := 7) 20 dJ7_fill_53178_7 (by decide) hx2 hx3 (fun _ => ?_) (fun _ => ?_)
    · refine jw_aloadR (pc := 10) 0 dJ7_fill_53178_10 rfl ?_
      refine jw_iload_n (pc := 11) 2 dJ7_fill_53178_11 rfl ?_
      refine jw_iload_n (pc := 12) 1 dJ7_fill_53178_12 rfl ?_
      refine jw_iast (pc := 13) dJ7_fill_53178_13 ha1 rfl (jw_ho ha1 (by decide)) hx2 hx1 rfl ?_
      refine jw_letM (fun M3 => ?_)
      refine jw_iincL (pc := 14) 2 (lv' := (fun y => [(2, y), (0, jR G a1), (1, jI x1), (3, jI x3)])) dJ7_fill_53178_14 rfl (Nat.le_of_ble_eq_true rfl) (fun _ => rfl) (fun v4 hv4 => ?_)
      refine jw_goto (pc := 17) 5 dJ7_fill_53178_17 (by decide) ?_
      exact jw_few [1, 2, 0, 3] rfl (ih x1 v4 x3 hx1 hv4 hx3 M3)
    · exact jw_ret (pc := 20) (v := 0) dJ7_fill_53178_20 trivial rfl rfl
def fJ7_fill_53178 (a1 : Nat) (a2 : Int) (M : jw_M) : Option jw_M :=
  if jw_tag a1 = 20 then (Option.bind (some 0) (fun v1 => Option.bind (some (jw_len a1 : Int)) (fun v2 => fJ7_fill_53178_5 a1 jw_fu a2 v1 v2 M))) else none
set_option maxRecDepth 100000 in
theorem rJ7_fill_53178 (G : jw_G) (a1 : Nat) (a2 : Int) (ha2 : jw_r a2) (M : jw_M) : jw_Rn G YJ7_fill_53178 1 0 0 true (fun M1 => (0, M1)) 0 [(0, jR G a1), (1, jI a2)] [] M (fJ7_fill_53178 a1 a2 M) := by
  unfold fJ7_fill_53178
  refine jw_ck (fun ha1 => ?_)
  refine jw_iconst (pc := 0) dJ7_fill_53178_0 ?_
  refine jw_istore_nL (pc := 1) (lv' := (fun y => [(2, y), (0, jR G a1), (1, jI a2)])) dJ7_fill_53178_1 (jw_rc _ rfl) (by decide) (fun _ => rfl) (fun v1 hv1 => ?_)
  refine jw_aloadR (pc := 2) 1 dJ7_fill_53178_2 rfl ?_
  refine jw_alen (pc := 3) dJ7_fill_53178_3 ha1 rfl (jw_ho ha1 (by decide)) rfl ?_
  refine jw_istore_nL (pc := 4) (lv' := (fun y => [(3, y), (2, jI v1), (0, jR G a1), (1, jI a2)])) dJ7_fill_53178_4 (jw_lr ha1) (by decide) (fun _ => rfl) (fun v2 hv2 => ?_)
  exact jw_few [2, 3, 1, 0] rfl (pJ7_fill_53178_5 G a1 ha1 jw_fu a2 v1 v2 ha2 hv1 hv2 M)
theorem kJ7_fill_53178 (G : jw_G) (a1 : Nat) (a2 : Int) (ha2 : jw_r a2) (M : jw_M) : jw_Ct G YJ7_fill_53178 none 1 0 0 true (fun M1 => (0, M1)) yJ7_fill_53178 [jR G a1, jI a2] M (fJ7_fill_53178 a1 a2 M) := jw_met (by decide) rfl rfl rfl (Nat.le_of_ble_eq_true rfl) (rJ7_fill_53178 G a1 a2 ha2 M)
abbrev YJ7_fill_fda19 : jw_Y := (RJ7, cJ7_fill_fda19, 5, 0, "fill")
theorem qJ7_fill_fda19 : jw_cy YJ7_fill_fda19 none yJ7_fill_fda19 4 := ⟨by decide, jt_426, jt_3, by decide, by decide +kernel⟩
theorem dJ7_fill_fda19_0 : decode cJ7_fill_fda19 0 = .ok (.aload_n 0, 1) := by decide +kernel
theorem dJ7_fill_fda19_1 : decode cJ7_fill_fda19 1 = .ok (.arraylength, 1) := by decide +kernel
theorem dJ7_fill_fda19_2 : decode cJ7_fill_fda19 2 = .ok (.iload_n 1, 1) := by decide +kernel
theorem dJ7_fill_fda19_3 : decode cJ7_fill_fda19 3 = .ok (.iload_n 2, 1) := by decide +kernel
theorem dJ7_fill_fda19_4 : decode cJ7_fill_fda19 4 = .ok (.invokestatic 13, 3) := by decide +kernel
theorem dJ7_fill_fda19_7 : decode cJ7_fill_fda19 7 = .ok (.iload_n 1, 1) := by decide +kernel
theorem dJ7_fill_fda19_8 : decode cJ7_fill_fda19 8 = .ok (.istore 4, 2) := by decide +kernel
theorem dJ7_fill_fda19_10 : decode cJ7_fill_fda19 10 = .ok (.iload 4, 2) := by decide +kernel
theorem dJ7_fill_fda19_12 : decode cJ7_fill_fda19 12 = .ok (.iload_n 2, 1) := by decide +kernel
theorem dJ7_fill_fda19_13 : decode cJ7_fill_fda19 13 = .ok (.if_icmp .ge 14, 3) := by decide +kernel
theorem dJ7_fill_fda19_16 : decode cJ7_fill_fda19 16 = .ok (.aload_n 0, 1) := by decide +kernel
theorem dJ7_fill_fda19_17 : decode cJ7_fill_fda19 17 = .ok (.iload 4, 2) := by decide +kernel
theorem dJ7_fill_fda19_19 : decode cJ7_fill_fda19 19 = .ok (.iload_n 3, 1) := by decide +kernel
theorem dJ7_fill_fda19_20 : decode cJ7_fill_fda19 20 = .ok (.iastore, 1) := by decide +kernel
theorem dJ7_fill_fda19_21 : decode cJ7_fill_fda19 21 = .ok (.iinc 4 1, 3) := by decide +kernel
theorem dJ7_fill_fda19_24 : decode cJ7_fill_fda19 24 = .ok (.goto (-14), 3) := by decide +kernel
theorem dJ7_fill_fda19_27 : decode cJ7_fill_fda19 27 = .ok (.return_, 1) := by decide +kernel
def fJ7_fill_fda19_10 (a1 : Nat) : Nat → Int → Int → Int → jw_M → Option jw_M
  | 0, _, _, _, _ => none
  | k + 1, x2, x3, x4, M => if x4 < x2 then (if 0 ≤ x4 ∧ x4 < (jw_len a1 : Int) then Option.bind (some (jw_up M a1 x4 x3)) (fun M3 => Option.bind (some (jw_w (x4 + 1))) (fun v4 => fJ7_fill_fda19_10 a1 k x2 x3 v4 M3)) else none) else (some M)
set_option maxRecDepth 100000 in
theorem pJ7_fill_fda19_10 (G : jw_G) (a1 : Nat) (ha1 : jw_tag a1 = 20) : ∀ (k : Nat) (x2 : Int) (x3 : Int) (x4 : Int) (hx2 : jw_r x2) (hx3 : jw_r x3) (hx4 : jw_r x4) (M : jw_M), jw_Rn G YJ7_fill_fda19 2 0 0 true (fun M1 => (0, M1)) 10 [(0, jR G a1), (2, jI x2), (3, jI x3), (4, jI x4)] [] M (fJ7_fill_fda19_10 a1 k x2 x3 x4 M) := by
  intro k
  induction k with
  | zero =>
    intro x2 x3 x4 hx2 hx3 hx4 M
    exact jw_none
  | succ k ih =>
    intro x2 x3 x4 hx2 hx3 hx4 M
    rw [fJ7_fill_fda19_10]
    refine jw_iload (pc := 10) 3 dJ7_fill_fda19_10 rfl ?_
    refine jw_iload_n (pc := 12) 1 dJ7_fill_fda19_12 rfl ?_
    refine jw_ic_ge (pc := 13) 27 dJ7_fill_fda19_13 (by decide) hx4 hx2 (fun _ => ?_) (fun _ => ?_)
    · refine jw_aloadR (pc := 16) 0 dJ7_fill_fda19_16 rfl ?_
      refine jw_iload (pc := 17) 3 dJ7_fill_fda19_17 rfl ?_
      refine jw_iload_n (pc := 19) 2 dJ7_fill_fda19_19 rfl ?_
      refine jw_iast (pc := 20) dJ7_fill_fda19_20 ha1 rfl (jw_ho ha1 (by decide)) hx4 hx3 rfl ?_
      refine jw_letM (fun M3 => ?_)
      refine jw_iincL (pc := 21) 3 (lv' := (fun y => [(4, y), (0, jR G a1), (2, jI x2), (3, jI x3)])) dJ7_fill_fda19_21 rfl (Nat.le_of_ble_eq_true rfl) (fun _ => rfl) (fun v4 hv4 => ?_)
      refine jw_goto (pc := 24) 10 dJ7_fill_fda19_24 (by decide) ?_
      exact jw_few [1, 2, 3, 0] rfl (ih x2 x3 v4 hx2 hx3 hv4 M3)
    · exact jw_ret (pc := 27) (v := 0) dJ7_fill_fda19_27 trivial rfl rfl
def fJ7_fill_fda19 (a1 : Nat) (a2 : Int) (a3 : Int) (a4 : Int) (M : jw_M) : Option jw_M :=
  if jw_tag a1 = 20 then (Option.bind (fJ7_rangeCheck_23922 (jw_len a1 : Int) a2 a3 M) (fun M1 => Option.bind (some a2) (fun v2 => fJ7_fill_fda19_10 a1 jw_fu a3 a4 v2 M1))) else none
set_option maxRecDepth 100000 in
theorem rJ7_fill_fda19 (G : jw_G) (a1 : Nat) (a2 : Int) (a3 : Int) (a4 : Int) (ha2 : jw_r a2) (ha3 : jw_r a3) (ha4 : jw_r a4) (M : jw_M) : jw_Rn G YJ7_fill_fda19 2 0 0 true (fun M1 => (0, M1)) 0 [(0, jR G a1), (1, jI a2), (2, jI a3), (3, jI a4)] [] M (fJ7_fill_fda19 a1 a2 a3 a4 M) := by
  unfold fJ7_fill_fda19
  refine jw_ck (fun ha1 => ?_)
  refine jw_aloadR (pc := 0) 0 dJ7_fill_fda19_0 rfl ?_
  refine jw_alen (pc := 1) dJ7_fill_fda19_1 ha1 rfl (jw_ho ha1 (by decide)) rfl ?_
  refine jw_iload_n (pc := 2) 1 dJ7_fill_fda19_2 rfl ?_
  refine jw_iload_n (pc := 3) 2 dJ7_fill_fda19_3 rfl ?_
  refine jw_callSM (pc := 4) (As := [jI (jw_len a1 : Int), jI a2, jI a3]) (st := []) dJ7_fill_fda19_4 rfl (Nat.le_of_ble_eq_true rfl) qJ7_rangeCheck_23922 jt_427 jt_428 rfl rfl (Nat.le_of_ble_eq_true rfl) (kJ7_rangeCheck_23922 G (jw_len a1 : Int) a2 a3 (jw_lr ha1) ha2 ha3 M) (fun M1 => ?_)
  refine jw_iload_n (pc := 7) 1 dJ7_fill_fda19_7 rfl ?_
  refine jw_istoreL (pc := 8) (lv' := (fun y => [(4, y), (0, jR G a1), (1, jI a2), (2, jI a3), (3, jI a4)])) dJ7_fill_fda19_8 ha2 (by decide) (fun _ => rfl) (fun v2 hv2 => ?_)
  exact jw_few [1, 3, 4, 0] rfl (pJ7_fill_fda19_10 G a1 ha1 jw_fu a3 a4 v2 ha3 ha4 hv2 M1)
theorem kJ7_fill_fda19 (G : jw_G) (a1 : Nat) (a2 : Int) (a3 : Int) (a4 : Int) (ha2 : jw_r a2) (ha3 : jw_r a3) (ha4 : jw_r a4) (M : jw_M) : jw_Ct G YJ7_fill_fda19 none 2 0 0 true (fun M1 => (0, M1)) yJ7_fill_fda19 [jR G a1, jI a2, jI a3, jI a4] M (fJ7_fill_fda19 a1 a2 a3 a4 M) := jw_met (by decide) rfl rfl rfl (Nat.le_of_ble_eq_true rfl) (rJ7_fill_fda19 G a1 a2 a3 a4 ha2 ha3 ha4 M)
