abbrev YX1_clear : jw_Y := (RX1, cX1_clear, 1, 0, "clear")
theorem qX1_clear : jw_cy YX1_clear none yX1_clear 0 := ⟨by decide, jt_523, jt_9, by decide, by decide +kernel⟩
theorem dX1_clear_0 : decode cX1_clear 0 = .ok (.aload_n 0, 1) := by decide +kernel
theorem dX1_clear_1 : decode cX1_clear 1 = .ok (.iconst 0, 1) := by decide +kernel
theorem dX1_clear_2 : decode cX1_clear 2 = .ok (.putfield 18, 3) := by decide +kernel
theorem dX1_clear_5 : decode cX1_clear 5 = .ok (.aload_n 0, 1) := by decide +kernel
theorem dX1_clear_6 : decode cX1_clear 6 = .ok (.getfield 9, 3) := by decide +kernel
theorem dX1_clear_9 : decode cX1_clear 9 = .ok (.iconst 0, 1) := by decide +kernel
theorem dX1_clear_10 : decode cX1_clear 10 = .ok (.invokestatic 22, 3) := by decide +kernel
theorem dX1_clear_13 : decode cX1_clear 13 = .ok (.aload_n 0, 1) := by decide +kernel
theorem dX1_clear_14 : decode cX1_clear 14 = .ok (.getfield 15, 3) := by decide +kernel
theorem dX1_clear_17 : decode cX1_clear 17 = .ok (.iconst 0, 1) := by decide +kernel
theorem dX1_clear_18 : decode cX1_clear 18 = .ok (.invokestatic 22, 3) := by decide +kernel
theorem dX1_clear_21 : decode cX1_clear 21 = .ok (.return_, 1) := by decide +kernel
def fX1_clear (t : Nat) (M : jw_M) : Option jw_M :=
  if jw_tag t = 1 then (Option.bind (some (jw_up M t 0 0)) (fun M1 => Option.bind (fJ7_fill_53178 (t + 1) 0 M1) (fun M2 => Option.bind (fJ7_fill_53178 (t + 2) 0 M2) (fun M3 => some M3)))) else none
set_option maxRecDepth 100000 in
theorem rX1_clear (G : jw_G) (t : Nat) (M : jw_M) : jw_Rn G YX1_clear 2 0 0 true (fun M1 => (0, M1)) 0 [(0, jR G t)] [] M (fX1_clear t M) := by
  unfold fX1_clear
  refine jw_ck (fun ht => ?_)
  refine jw_aloadR (pc := 0) 0 dX1_clear_0 rfl ?_
  refine jw_iconst (pc := 1) dX1_clear_1 ?_
  refine jw_putI (pc := 2) (j := 0) tyX1 rfl dX1_clear_2 jv_1 ji_1 tyX1_ok nmX1 (Or.inl jt_232) rfl ht (jn_1 ht) (by decide) (by decide) (jw_ho ht (by decide)) rfl rfl (jw_rc _ rfl) rfl ?_
  refine jw_letM (fun M1 => ?_)
  refine jw_aloadR (pc := 5) 0 dX1_clear_5 rfl ?_
  refine jw_getR (pc := 6) (j := 1) rfl dX1_clear_6 jv_1 ji_1 (Or.inl jt_234) ht (jn_1 ht) (by decide) (by decide) rfl (jf_1_1 ht).1 ?_
  refine jw_iconst (pc := 9) dX1_clear_9 ?_
  refine jw_callSM (pc := 10) (As := [jR G (t + 1), jI 0]) (st := []) dX1_clear_10 rfl (Nat.le_of_ble_eq_true rfl) qJ7_fill_53178 jt_524 jt_37 rfl rfl (Nat.le_of_ble_eq_true rfl) (kJ7_fill_53178 G (t + 1) 0 (jw_rc _ rfl) M1) (fun M2 => ?_)
  refine jw_aloadR (pc := 13) 0 dX1_clear_13 rfl ?_
  refine jw_getR (pc := 14) (j := 2) rfl dX1_clear_14 jv_1 ji_1 (Or.inl jt_235) ht (jn_1 ht) (by decide) (by decide) rfl (jf_1_2 ht).1 ?_
  refine jw_iconst (pc := 17) dX1_clear_17 ?_
  refine jw_callSM (pc := 18) (As := [jR G (t + 2), jI 0]) (st := []) dX1_clear_18 rfl (Nat.le_of_ble_eq_true rfl) qJ7_fill_53178 jt_524 jt_37 rfl rfl (Nat.le_of_ble_eq_true rfl) (kJ7_fill_53178 G (t + 2) 0 (jw_rc _ rfl) M2) (fun M3 => ?_)
  exact jw_ret (pc := 21) (v := 0) dX1_clear_21 trivial rfl rfl
theorem kX1_clear (G : jw_G) (t : Nat) (M : jw_M) : jw_Ct G YX1_clear none 2 0 0 true (fun M1 => (0, M1)) yX1_clear [jR G t] M (fX1_clear t M) := jw_met (by decide) rfl rfl rfl (Nat.le_of_ble_eq_true rfl) (rX1_clear G t M)
abbrev YX1_takeFrom : jw_Y := (RX1, cX1_takeFrom, 2, 0, "takeFrom")
theorem qX1_takeFrom : jw_cy YX1_takeFrom none yX1_takeFrom 1 := ⟨by decide, jt_714, jt_9, by decide, by decide +kernel⟩
theorem dX1_takeFrom_0 : decode cX1_takeFrom 0 = .ok (.aload_n 0, 1) := by decide +kernel
theorem dX1_takeFrom_1 : decode cX1_takeFrom 1 = .ok (.aload_n 1, 1) := by decide +kernel
theorem dX1_takeFrom_2 : decode cX1_takeFrom 2 = .ok (.getfield 18, 3) := by decide +kernel
theorem dX1_takeFrom_5 : decode cX1_takeFrom 5 = .ok (.putfield 18, 3) := by decide +kernel
theorem dX1_takeFrom_8 : decode cX1_takeFrom 8 = .ok (.aload_n 1, 1) := by decide +kernel
theorem dX1_takeFrom_9 : decode cX1_takeFrom 9 = .ok (.getfield 9, 3) := by decide +kernel
theorem dX1_takeFrom_12 : decode cX1_takeFrom 12 = .ok (.iconst 0, 1) := by decide +kernel
theorem dX1_takeFrom_13 : decode cX1_takeFrom 13 = .ok (.aload_n 0, 1) := by decide +kernel
theorem dX1_takeFrom_14 : decode cX1_takeFrom 14 = .ok (.getfield 9, 3) := by decide +kernel
theorem dX1_takeFrom_17 : decode cX1_takeFrom 17 = .ok (.iconst 0, 1) := by decide +kernel
theorem dX1_takeFrom_18 : decode cX1_takeFrom 18 = .ok (.aload_n 0, 1) := by decide +kernel
theorem dX1_takeFrom_19 : decode cX1_takeFrom 19 = .ok (.getfield 9, 3) := by decide +kernel
theorem dX1_takeFrom_22 : decode cX1_takeFrom 22 = .ok (.arraylength, 1) := by decide +kernel
theorem dX1_takeFrom_23 : decode cX1_takeFrom 23 = .ok (.invokestatic 28, 3) := by decide +kernel
theorem dX1_takeFrom_26 : decode cX1_takeFrom 26 = .ok (.aload_n 1, 1) := by decide +kernel
theorem dX1_takeFrom_27 : decode cX1_takeFrom 27 = .ok (.getfield 15, 3) := by decide +kernel
theorem dX1_takeFrom_30 : decode cX1_takeFrom 30 = .ok (.iconst 0, 1) := by decide +kernel
theorem dX1_takeFrom_31 : decode cX1_takeFrom 31 = .ok (.aload_n 0, 1) := by decide +kernel
theorem dX1_takeFrom_32 : decode cX1_takeFrom 32 = .ok (.getfield 15, 3) := by decide +kernel
theorem dX1_takeFrom_35 : decode cX1_takeFrom 35 = .ok (.iconst 0, 1) := by decide +kernel
theorem dX1_takeFrom_36 : decode cX1_takeFrom 36 = .ok (.aload_n 0, 1) := by decide +kernel
theorem dX1_takeFrom_37 : decode cX1_takeFrom 37 = .ok (.getfield 15, 3) := by decide +kernel
theorem dX1_takeFrom_40 : decode cX1_takeFrom 40 = .ok (.arraylength, 1) := by decide +kernel
theorem dX1_takeFrom_41 : decode cX1_takeFrom 41 = .ok (.invokestatic 28, 3) := by decide +kernel
theorem dX1_takeFrom_44 : decode cX1_takeFrom 44 = .ok (.return_, 1) := by decide +kernel
def fX1_takeFrom (t : Nat) (a1 : Nat) (M : jw_M) : Option jw_M :=
  if jw_tag t = 1 then (if jw_tag a1 = 1 then (Option.bind (some (jw_up M t 0 (M a1 0))) (fun M2 => if 0 ≤ (0 : Int) ∧ 0 ≤ (0 : Int) ∧ 0 ≤ (7 : Int) ∧ (0 : Int) + 7 ≤ 7 ∧ (0 : Int) + 7 ≤ 7 then Option.bind (some (jw_cp M2 (a1 + 1) 0 (t + 1) 0 7)) (fun M3 => if 0 ≤ (0 : Int) ∧ 0 ≤ (0 : Int) ∧ 0 ≤ (20 : Int) ∧ (0 : Int) + 20 ≤ 20 ∧ (0 : Int) + 20 ≤ 20 then Option.bind (some (jw_cp M3 (a1 + 2) 0 (t + 2) 0 20)) (fun M4 => some M4) else none) else none)) else none) else none
set_option maxRecDepth 100000 in
theorem rX1_takeFrom (G : jw_G) (t : Nat) (a1 : Nat) (M : jw_M) : jw_Rn G YX1_takeFrom 2 0 0 true (fun M1 => (0, M1)) 0 [(0, jR G t), (1, jR G a1)] [] M (fX1_takeFrom t a1 M) := by
  unfold fX1_takeFrom
  refine jw_ck (fun ht => ?_)
  refine jw_ck (fun ha1 => ?_)
  refine jw_aloadR (pc := 0) 0 dX1_takeFrom_0 rfl ?_
  refine jw_aloadR (pc := 1) 1 dX1_takeFrom_1 rfl ?_
  refine jw_getI (pc := 2) (j := 0) rfl dX1_takeFrom_2 jv_1 ji_1 (Or.inl jt_232) ha1 (jn_1 ha1) (by decide) (by decide) (jw_ho ha1 (by decide)) (Or.inl rfl) rfl (fun h1 => ?_)
  refine jw_putI (pc := 5) (j := 0) tyX1 rfl dX1_takeFrom_5 jv_1 ji_1 tyX1_ok nmX1 (Or.inl jt_232) rfl ht (jn_1 ht) (by decide) (by decide) (jw_ho ht (by decide)) rfl rfl h1 rfl ?_
  refine jw_letM (fun M2 => ?_)
  refine jw_aloadR (pc := 8) 1 dX1_takeFrom_8 rfl ?_
  refine jw_getR (pc := 9) (j := 1) rfl dX1_takeFrom_9 jv_1 ji_1 (Or.inl jt_234) ha1 (jn_1 ha1) (by decide) (by decide) rfl (jf_1_1 ha1).1 ?_
  refine jw_iconst (pc := 12) dX1_takeFrom_12 ?_
  refine jw_aloadR (pc := 13) 0 dX1_takeFrom_13 rfl ?_
  refine jw_getR (pc := 14) (j := 1) rfl dX1_takeFrom_14 jv_1 ji_1 (Or.inl jt_234) ht (jn_1 ht) (by decide) (by decide) rfl (jf_1_1 ht).1 ?_
  refine jw_iconst (pc := 17) dX1_takeFrom_17 ?_
  refine jw_aloadR (pc := 18) 0 dX1_takeFrom_18 rfl ?_
  refine jw_getR (pc := 19) (j := 1) rfl dX1_takeFrom_19 jv_1 ji_1 (Or.inl jt_234) ht (jn_1 ht) (by decide) (by decide) rfl (jf_1_1 ht).1 ?_
  refine jw_alen (pc := 22) dX1_takeFrom_22 (jf_1_1 ht).2.1 (jf_1_1 ht).2.2 (jw_ho (jf_1_1 ht).2.1 (by decide)) rfl ?_
  refine jw_acopy (pc := 23) rfl dX1_takeFrom_23 jt_715 jt_467 jt_466 jt_15 (jf_1_1 ha1).2.1 (jf_1_1 ht).2.1 (jf_1_1 ha1).2.2 (jf_1_1 ht).2.2 (jw_ho (jf_1_1 ha1).2.1 (by decide)) (jw_ho (jf_1_1 ht).2.1 (by decide)) (jw_rc _ rfl) (jw_rc _ rfl) (jw_rc _ rfl) rfl rfl (by decide) (Nat.le_of_ble_eq_true rfl) ?_
  refine jw_letM (fun M3 => ?_)
  refine jw_aloadR (pc := 26) 1 dX1_takeFrom_26 rfl ?_
  refine jw_getR (pc := 27) (j := 2) rfl dX1_takeFrom_27 jv_1 ji_1 (Or.inl jt_235) ha1 (jn_1 ha1) (by decide) (by decide) rfl (jf_1_2 ha1).1 ?_
  refine jw_iconst (pc := 30) dX1_takeFrom_30 ?_
  refine jw_aloadR (pc := 31) 0 dX1_takeFrom_31 rfl ?_
  refine jw_getR (pc := 32) (j := 2) rfl dX1_takeFrom_32 jv_1 ji_1 (Or.inl jt_235) ht (jn_1 ht) (by decide) (by decide) rfl (jf_1_2 ht).1 ?_
  refine jw_iconst (pc := 35) dX1_takeFrom_35 ?_
  refine jw_aloadR (pc := 36) 0 dX1_takeFrom_36 rfl ?_
  refine jw_getR (pc := 37) (j := 2) rfl dX1_takeFrom_37 jv_1 ji_1 (Or.inl jt_235) ht (jn_1 ht) (by decide) (by decide) rfl (jf_1_2 ht).1 ?_
  refine jw_alen (pc := 40) dX1_takeFrom_40 (jf_1_2 ht).2.1 (jf_1_2 ht).2.2 (jw_ho (jf_1_2 ht).2.1 (by decide)) rfl ?_
  refine jw_acopy (pc := 41) rfl dX1_takeFrom_41 jt_715 jt_467 jt_466 jt_15 (jf_1_2 ha1).2.1 (jf_1_2 ht).2.1 (jf_1_2 ha1).2.2 (jf_1_2 ht).2.2 (jw_ho (jf_1_2 ha1).2.1 (by decide)) (jw_ho (jf_1_2 ht).2.1 (by decide)) (jw_rc _ rfl) (jw_rc _ rfl) (jw_rc _ rfl) rfl rfl (by decide) (Nat.le_of_ble_eq_true rfl) ?_
  refine jw_letM (fun M4 => ?_)
  exact jw_ret (pc := 44) (v := 0) dX1_takeFrom_44 trivial rfl rfl
theorem kX1_takeFrom (G : jw_G) (t : Nat) (a1 : Nat) (M : jw_M) : jw_Ct G YX1_takeFrom none 2 0 0 true (fun M1 => (0, M1)) yX1_takeFrom [jR G t, jR G a1] M (fX1_takeFrom t a1 M) := jw_met (by decide) rfl rfl rfl (Nat.le_of_ble_eq_true rfl) (rX1_takeFrom G t a1 M)
abbrev YX3_cameTo : jw_Y := (RX3, cX3_cameTo, 2, 4, "cameTo")
theorem qX3_cameTo : jw_cy YX3_cameTo (some .boolean) yX3_cameTo 1 := ⟨by decide, jt_874, jt_8, by decide, by decide +kernel⟩
theorem dX3_cameTo_0 : decode cX3_cameTo 0 = .ok (.aload_n 0, 1) := by decide +kernel
theorem dX3_cameTo_1 : decode cX3_cameTo 1 = .ok (.getfield 9, 3) := by decide +kernel
theorem dX3_cameTo_4 : decode cX3_cameTo 4 = .ok (.iload_n 1, 1) := by decide +kernel
theorem dX3_cameTo_5 : decode cX3_cameTo 5 = .ok (.iaload, 1) := by decide +kernel
theorem dX3_cameTo_6 : decode cX3_cameTo 6 = .ok (.ldc 35, 2) := by decide +kernel
theorem dX3_cameTo_8 : decode cX3_cameTo 8 = .ok (.if_icmp .ge 7, 3) := by decide +kernel
theorem dX3_cameTo_11 : decode cX3_cameTo 11 = .ok (.iconst 1, 1) := by decide +kernel
theorem dX3_cameTo_12 : decode cX3_cameTo 12 = .ok (.goto 4, 3) := by decide +kernel
theorem dX3_cameTo_15 : decode cX3_cameTo 15 = .ok (.iconst 0, 1) := by decide +kernel
theorem dX3_cameTo_16 : decode cX3_cameTo 16 = .ok (.ireturn, 1) := by decide +kernel
def fX3_cameTo (t : Nat) (a1 : Int) (M : jw_M) : Option Int :=
  if jw_tag t = 3 then (if 0 ≤ a1 ∧ a1 < 7 then if M (t + 1) a1 < 1000000 then (some 1) else (some 0) else none) else none
set_option maxRecDepth 100000 in
theorem rX3_cameTo (G : jw_G) (t : Nat) (a1 : Int) (ha1 : jw_r a1) (M : jw_M) : jw_Rn G YX3_cameTo 1 0 0 true (fun v => (v, M)) 0 [(0, jR G t), (1, jI a1)] [] M (fX3_cameTo t a1 M) := by
  unfold fX3_cameTo
  refine jw_ck (fun ht => ?_)
  refine jw_aloadR (pc := 0) 0 dX3_cameTo_0 rfl ?_
  refine jw_getR (pc := 1) (j := 2) rfl dX3_cameTo_1 jv_3 ji_3 (Or.inl jt_201) ht (jn_3 ht) (by decide) (by decide) rfl (jf_3_2 ht).1 ?_
  refine jw_iload_n (pc := 4) 1 dX3_cameTo_4 rfl ?_
  refine jw_iald (pc := 5) dX3_cameTo_5 (jf_3_2 ht).2.1 (jf_3_2 ht).2.2 (jw_ho (jf_3_2 ht).2.1 (by decide)) ha1 rfl (fun h1 => ?_)
  refine jw_ldc (pc := 6) (n := 1000000) dX3_cameTo_6 jt_518 (by decide) ?_
  refine jw_ic_ge (pc := 8) 15 dX3_cameTo_8 (by decide) h1 (jw_rc _ rfl) (fun _ => ?_) (fun _ => ?_)
  · refine jw_iconst (pc := 11) dX3_cameTo_11 ?_
    refine jw_goto (pc := 12) 16 dX3_cameTo_12 (by decide) ?_
    exact jw_ret (pc := 16) (v := 1) dX3_cameTo_16 (Or.inr rfl) rfl rfl
  · refine jw_iconst (pc := 15) dX3_cameTo_15 ?_
    exact jw_ret (pc := 16) (v := 0) dX3_cameTo_16 (Or.inl rfl) rfl rfl
theorem kX3_cameTo (G : jw_G) (t : Nat) (a1 : Int) (ha1 : jw_r a1) (M : jw_M) : jw_Ct G YX3_cameTo (some .boolean) 1 0 0 true (fun v => (v, M)) yX3_cameTo [jR G t, jI a1] M (fX3_cameTo t a1 M) := jw_met (by decide) rfl rfl rfl (Nat.le_of_ble_eq_true rfl) (rX3_cameTo G t a1 ha1 M)
abbrev YX1_add : jw_Y := (RX1, cX1_add, 3, 0, "add")
theorem qX1_add : jw_cy YX1_add none yX1_add 1 := ⟨by decide, jt_870, jt_9, by decide, by decide +kernel⟩
theorem dX1_add_0 : decode cX1_add 0 = .ok (.aload_n 0, 1) := by decide +kernel
theorem dX1_add_1 : decode cX1_add 1 = .ok (.dup, 1) := by decide +kernel
theorem dX1_add_2 : decode cX1_add 2 = .ok (.getfield 18, 3) := by decide +kernel
theorem dX1_add_5 : decode cX1_add 5 = .ok (.iconst 1, 1) := by decide +kernel
theorem dX1_add_6 : decode cX1_add 6 = .ok (.iadd, 1) := by decide +kernel
theorem dX1_add_7 : decode cX1_add 7 = .ok (.putfield 18, 3) := by decide +kernel
theorem dX1_add_10 : decode cX1_add 10 = .ok (.iconst 0, 1) := by decide +kernel
theorem dX1_add_11 : decode cX1_add 11 = .ok (.istore_n 2, 1) := by decide +kernel
theorem dX1_add_12 : decode cX1_add 12 = .ok (.iload_n 2, 1) := by decide +kernel
theorem dX1_add_13 : decode cX1_add 13 = .ok (.bipush 7, 2) := by decide +kernel
theorem dX1_add_15 : decode cX1_add 15 = .ok (.if_icmp .ge 27, 3) := by decide +kernel
theorem dX1_add_18 : decode cX1_add 18 = .ok (.aload_n 1, 1) := by decide +kernel
theorem dX1_add_19 : decode cX1_add 19 = .ok (.iload_n 2, 1) := by decide +kernel
theorem dX1_add_20 : decode cX1_add 20 = .ok (.invokevirtual 34, 3) := by decide +kernel
theorem dX1_add_23 : decode cX1_add 23 = .ok (.ifCond .eq 13, 3) := by decide +kernel
theorem dX1_add_26 : decode cX1_add 26 = .ok (.aload_n 0, 1) := by decide +kernel
theorem dX1_add_27 : decode cX1_add 27 = .ok (.getfield 9, 3) := by decide +kernel
theorem dX1_add_30 : decode cX1_add 30 = .ok (.iload_n 2, 1) := by decide +kernel
theorem dX1_add_31 : decode cX1_add 31 = .ok (.dup2, 1) := by decide +kernel
theorem dX1_add_32 : decode cX1_add 32 = .ok (.iaload, 1) := by decide +kernel
theorem dX1_add_33 : decode cX1_add 33 = .ok (.iconst 1, 1) := by decide +kernel
theorem dX1_add_34 : decode cX1_add 34 = .ok (.iadd, 1) := by decide +kernel
theorem dX1_add_35 : decode cX1_add 35 = .ok (.iastore, 1) := by decide +kernel
theorem dX1_add_36 : decode cX1_add 36 = .ok (.iinc 2 1, 3) := by decide +kernel
theorem dX1_add_39 : decode cX1_add 39 = .ok (.goto (-27), 3) := by decide +kernel
theorem dX1_add_42 : decode cX1_add 42 = .ok (.iconst 0, 1) := by decide +kernel
theorem dX1_add_43 : decode cX1_add 43 = .ok (.istore_n 2, 1) := by decide +kernel
theorem dX1_add_44 : decode cX1_add 44 = .ok (.iload_n 2, 1) := by decide +kernel
theorem dX1_add_45 : decode cX1_add 45 = .ok (.aload_n 0, 1) := by decide +kernel
theorem dX1_add_46 : decode cX1_add 46 = .ok (.getfield 15, 3) := by decide +kernel
theorem dX1_add_49 : decode cX1_add 49 = .ok (.arraylength, 1) := by decide +kernel
theorem dX1_add_50 : decode cX1_add 50 = .ok (.if_icmp .ge 24, 3) := by decide +kernel
theorem dX1_add_53 : decode cX1_add 53 = .ok (.aload_n 0, 1) := by decide +kernel
theorem dX1_add_54 : decode cX1_add 54 = .ok (.getfield 15, 3) := by decide +kernel
theorem dX1_add_57 : decode cX1_add 57 = .ok (.iload_n 2, 1) := by decide +kernel
theorem dX1_add_58 : decode cX1_add 58 = .ok (.dup2, 1) := by decide +kernel
theorem dX1_add_59 : decode cX1_add 59 = .ok (.iaload, 1) := by decide +kernel
theorem dX1_add_60 : decode cX1_add 60 = .ok (.aload_n 1, 1) := by decide +kernel
theorem dX1_add_61 : decode cX1_add 61 = .ok (.getfield 40, 3) := by decide +kernel
theorem dX1_add_64 : decode cX1_add 64 = .ok (.iload_n 2, 1) := by decide +kernel
theorem dX1_add_65 : decode cX1_add 65 = .ok (.iaload, 1) := by decide +kernel
theorem dX1_add_66 : decode cX1_add 66 = .ok (.iadd, 1) := by decide +kernel
theorem dX1_add_67 : decode cX1_add 67 = .ok (.iastore, 1) := by decide +kernel
theorem dX1_add_68 : decode cX1_add 68 = .ok (.iinc 2 1, 3) := by decide +kernel
theorem dX1_add_71 : decode cX1_add 71 = .ok (.goto (-27), 3) := by decide +kernel
theorem dX1_add_74 : decode cX1_add 74 = .ok (.return_, 1) := by decide +kernel
def fX1_add_36 (t : Nat) (a1 : Nat) (r12 : Int → jw_M → Option jw_M) (x2 : Int) (M : jw_M) : Option jw_M :=
  Option.bind (some (jw_w (x2 + 1))) (fun v5 => r12 v5 M)
set_option maxRecDepth 100000 in
theorem pX1_add_36 (G : jw_G) (t : Nat) (a1 : Nat) (ht : jw_tag t = 1) (ha1 : jw_tag a1 = 3) (r12 : Int → jw_M → Option jw_M) (hr12 : ∀ (x2 : Int) (hx2 : jw_r x2) (M : jw_M), jw_Rn G YX1_add 2 0 0 true (fun M1 => (0, M1)) 12 [(0, jR G t), (1, jR G a1), (2, jI x2)] [] M (r12 x2 M)) : ∀ (x2 : Int) (hx2 : jw_r x2) (M : jw_M), jw_Rn G YX1_add 2 0 0 true (fun M1 => (0, M1)) 36 [(0, jR G t), (1, jR G a1), (2, jI x2)] [] M (fX1_add_36 t a1 r12 x2 M) := by
  intro x2 hx2 M
  unfold fX1_add_36
  refine jw_iincL (pc := 36) 2 (lv' := (fun y => [(2, y), (0, jR G t), (1, jR G a1)])) dX1_add_36 rfl (Nat.le_of_ble_eq_true rfl) (fun _ => rfl) (fun v5 hv5 => ?_)
  refine jw_goto (pc := 39) 12 dX1_add_39 (by decide) ?_
  exact jw_few [1, 2, 0] rfl (hr12 v5 hv5 M)
def fX1_add_44 (t : Nat) (a1 : Nat) : Nat → Int → jw_M → Option jw_M
  | 0, _, _ => none
  | k + 1, x2, M => if x2 < 20 then (if 0 ≤ x2 ∧ x2 < 20 then if 0 ≤ x2 ∧ x2 < 20 then if 0 ≤ x2 ∧ x2 < 20 then Option.bind (some (jw_up M (t + 2) x2 (jw_w ((M (t + 2) x2) + (M (a1 + 5) x2))))) (fun M11 => Option.bind (some (jw_w (x2 + 1))) (fun v12 => fX1_add_44 t a1 k v12 M11)) else none else none else none) else (some M)
set_option maxRecDepth 100000 in
theorem pX1_add_44 (G : jw_G) (t : Nat) (a1 : Nat) (ht : jw_tag t = 1) (ha1 : jw_tag a1 = 3) : ∀ (k : Nat) (x2 : Int) (hx2 : jw_r x2) (M : jw_M), jw_Rn G YX1_add 2 0 0 true (fun M1 => (0, M1)) 44 [(0, jR G t), (1, jR G a1), (2, jI x2)] [] M (fX1_add_44 t a1 k x2 M) := by
  intro k
  induction k with
  | zero =>
    intro x2 hx2 M
    exact jw_none
  | succ k ih =>
    intro x2 hx2 M
    rw [fX1_add_44]
    refine jw_iload_n (pc := 44) 2 dX1_add_44 rfl ?_
    refine jw_aloadR (pc := 45) 0 dX1_add_45 rfl ?_
    refine jw_getR (pc := 46) (j := 2) rfl dX1_add_46 jv_1 ji_1 (Or.inl jt_235) ht (jn_1 ht) (by decide) (by decide) rfl (jf_1_2 ht).1 ?_
    refine jw_alen (pc := 49) dX1_add_49 (jf_1_2 ht).2.1 (jf_1_2 ht).2.2 (jw_ho (jf_1_2 ht).2.1 (by decide)) rfl ?_
    refine jw_ic_ge (pc := 50) 74 dX1_add_50 (by decide) hx2 (jw_rc _ rfl) (fun _ => ?_) (fun _ => ?_)
    · refine jw_aloadR (pc := 53) 0 dX1_add_53 rfl ?_
      refine jw_getR (pc := 54) (j := 2) rfl dX1_add_54 jv_1 ji_1 (Or.inl jt_235) ht (jn_1 ht) (by decide) (by decide) rfl (jf_1_2 ht).1 ?_
      refine jw_iload_n (pc := 57) 2 dX1_add_57 rfl ?_
      refine jw_dup2 (pc := 58) dX1_add_58 rfl rfl ?_
      refine jw_iald (pc := 59) dX1_add_59 (jf_1_2 ht).2.1 (jf_1_2 ht).2.2 (jw_ho (jf_1_2 ht).2.1 (by decide)) hx2 rfl (fun h9 => ?_)
      refine jw_aloadR (pc := 60) 1 dX1_add_60 rfl ?_
      refine jw_getR (pc := 61) (j := 6) rfl dX1_add_61 jv_3 ji_3 (Or.inr ⟨_, jt_210⟩) ha1 (jn_3 ha1) (by decide) (by decide) rfl (jf_3_6 ha1).1 ?_
      refine jw_iload_n (pc := 64) 2 dX1_add_64 rfl ?_
      refine jw_iald (pc := 65) dX1_add_65 (jf_3_6 ha1).2.1 (jf_3_6 ha1).2.2 (jw_ho (jf_3_6 ha1).2.1 (by decide)) hx2 rfl (fun h10 => ?_)
      refine jw_iadd (pc := 66) dX1_add_66 ?_
      refine jw_iast (pc := 67) dX1_add_67 (jf_1_2 ht).2.1 (jf_1_2 ht).2.2 (jw_ho (jf_1_2 ht).2.1 (by decide)) hx2 (jw_wr _) rfl ?_
      refine jw_letM (fun M11 => ?_)
      refine jw_iincL (pc := 68) 2 (lv' := (fun y => [(2, y), (0, jR G t), (1, jR G a1)])) dX1_add_68 rfl (Nat.le_of_ble_eq_true rfl) (fun _ => rfl) (fun v12 hv12 => ?_)
      refine jw_goto (pc := 71) 44 dX1_add_71 (by decide) ?_
      exact jw_few [1, 2, 0] rfl (ih v12 hv12 M11)
    · exact jw_ret (pc := 74) (v := 0) dX1_add_74 trivial rfl rfl
def fX1_add_12 (t : Nat) (a1 : Nat) : Nat → Int → jw_M → Option jw_M
  | 0, _, _ => none
  | k + 1, x2, M => if x2 < 7 then (Option.bind (fX3_cameTo a1 x2 M) (fun v4 => if v4 = 0 then (fX1_add_36 t a1 (fX1_add_12 t a1 k) x2 M) else (if 0 ≤ x2 ∧ x2 < 7 then if 0 ≤ x2 ∧ x2 < 7 then Option.bind (some (jw_up M (t + 1) x2 (jw_w ((M (t + 1) x2) + 1)))) (fun M7 => fX1_add_36 t a1 (fX1_add_12 t a1 k) x2 M7) else none else none))) else (Option.bind (some 0) (fun v8 => fX1_add_44 t a1 jw_fu v8 M))
set_option maxRecDepth 100000 in
theorem pX1_add_12 (G : jw_G) (t : Nat) (a1 : Nat) (ht : jw_tag t = 1) (ha1 : jw_tag a1 = 3) : ∀ (k : Nat) (x2 : Int) (hx2 : jw_r x2) (M : jw_M), jw_Rn G YX1_add 2 0 0 true (fun M1 => (0, M1)) 12 [(0, jR G t), (1, jR G a1), (2, jI x2)] [] M (fX1_add_12 t a1 k x2 M) := by
  intro k
  induction k with
  | zero =>
    intro x2 hx2 M
    exact jw_none
  | succ k ih =>
    intro x2 hx2 M
    rw [fX1_add_12]
    refine jw_iload_n (pc := 12) 2 dX1_add_12 rfl ?_
    refine jw_bipush (pc := 13) dX1_add_13 rfl ?_
    refine jw_ic_ge (pc := 15) 42 dX1_add_15 (by decide) hx2 (jw_rc _ rfl) (fun _ => ?_) (fun _ => ?_)
    · refine jw_aloadR (pc := 18) 1 dX1_add_18 rfl ?_
      refine jw_iload_n (pc := 19) 2 dX1_add_19 rfl ?_
      refine jw_callVz (pc := 20) (As := [jI x2]) (st := []) dX1_add_20 rfl (Nat.le_of_ble_eq_true rfl) qX3_cameTo jt_871 jt_872 jt_873 rfl rfl (Nat.le_of_ble_eq_true rfl) jv_3 rfl ha1 (jn_3 ha1) (by decide) (jw_ho ha1 (by decide)) (kX3_cameTo G a1 x2 hx2 M) (fun v4 hv4 => ?_)
      refine jw_if_eq (pc := 23) 36 dX1_add_23 (by decide) (jw_bz hv4) (fun _ => ?_) (fun _ => ?_)
      · exact jw_few [0, 1, 2] rfl (pX1_add_36 G t a1 ht ha1 (fX1_add_12 t a1 k) ih x2 hx2 M)
      · refine jw_aloadR (pc := 26) 0 dX1_add_26 rfl ?_
        refine jw_getR (pc := 27) (j := 1) rfl dX1_add_27 jv_1 ji_1 (Or.inl jt_234) ht (jn_1 ht) (by decide) (by decide) rfl (jf_1_1 ht).1 ?_
        refine jw_iload_n (pc := 30) 2 dX1_add_30 rfl ?_
        refine jw_dup2 (pc := 31) dX1_add_31 rfl rfl ?_
        refine jw_iald (pc := 32) dX1_add_32 (jf_1_1 ht).2.1 (jf_1_1 ht).2.2 (jw_ho (jf_1_1 ht).2.1 (by decide)) hx2 rfl (fun h6 => ?_)
        refine jw_iconst (pc := 33) dX1_add_33 ?_
        refine jw_iadd (pc := 34) dX1_add_34 ?_
        refine jw_iast (pc := 35) dX1_add_35 (jf_1_1 ht).2.1 (jf_1_1 ht).2.2 (jw_ho (jf_1_1 ht).2.1 (by decide)) hx2 (jw_wr _) rfl ?_
        refine jw_letM (fun M7 => ?_)
        exact jw_few [0, 1, 2] rfl (pX1_add_36 G t a1 ht ha1 (fX1_add_12 t a1 k) ih x2 hx2 M7)
    · refine jw_iconst (pc := 42) dX1_add_42 ?_
      refine jw_istore_nL (pc := 43) (lv' := (fun y => [(2, y), (0, jR G t), (1, jR G a1)])) dX1_add_43 (jw_rc _ rfl) (by decide) (fun _ => rfl) (fun v8 hv8 => ?_)
      exact jw_few [1, 2, 0] rfl (pX1_add_44 G t a1 ht ha1 jw_fu v8 hv8 M)
def fX1_add (t : Nat) (a1 : Nat) (M : jw_M) : Option jw_M :=
  if jw_tag t = 1 then (if jw_tag a1 = 3 then (Option.bind (some (jw_up M t 0 (jw_w ((M t 0) + 1)))) (fun M2 => Option.bind (some 0) (fun v3 => fX1_add_12 t a1 jw_fu v3 M2))) else none) else none
set_option maxRecDepth 100000 in
theorem rX1_add (G : jw_G) (t : Nat) (a1 : Nat) (M : jw_M) : jw_Rn G YX1_add 2 0 0 true (fun M1 => (0, M1)) 0 [(0, jR G t), (1, jR G a1)] [] M (fX1_add t a1 M) := by
  unfold fX1_add
  refine jw_ck (fun ht => ?_)
  refine jw_ck (fun ha1 => ?_)
  refine jw_aloadR (pc := 0) 0 dX1_add_0 rfl ?_
  refine jw_dup (pc := 1) dX1_add_1 rfl ?_
  refine jw_getI (pc := 2) (j := 0) rfl dX1_add_2 jv_1 ji_1 (Or.inl jt_232) ht (jn_1 ht) (by decide) (by decide) (jw_ho ht (by decide)) (Or.inl rfl) rfl (fun h1 => ?_)
  refine jw_iconst (pc := 5) dX1_add_5 ?_
  refine jw_iadd (pc := 6) dX1_add_6 ?_
  refine jw_putI (pc := 7) (j := 0) tyX1 rfl dX1_add_7 jv_1 ji_1 tyX1_ok nmX1 (Or.inl jt_232) rfl ht (jn_1 ht) (by decide) (by decide) (jw_ho ht (by decide)) rfl rfl (jw_wr _) rfl ?_
  refine jw_letM (fun M2 => ?_)
  refine jw_iconst (pc := 10) dX1_add_10 ?_
  refine jw_istore_nL (pc := 11) (lv' := (fun y => [(2, y), (0, jR G t), (1, jR G a1)])) dX1_add_11 (jw_rc _ rfl) (by decide) (fun _ => rfl) (fun v3 hv3 => ?_)
  exact jw_few [1, 2, 0] rfl (pX1_add_12 G t a1 ht ha1 jw_fu v3 hv3 M2)
theorem kX1_add (G : jw_G) (t : Nat) (a1 : Nat) (M : jw_M) : jw_Ct G YX1_add none 2 0 0 true (fun M1 => (0, M1)) yX1_add [jR G t, jR G a1] M (fX1_add t a1 M) := jw_met (by decide) rfl rfl rfl (Nat.le_of_ble_eq_true rfl) (rX1_add G t a1 M)
abbrev YX1_fearedAbove : jw_Y := (RX1, cX1_fearedAbove, 2, 1, "fearedAbove")
theorem qX1_fearedAbove : jw_cy YX1_fearedAbove (some .int) yX1_fearedAbove 1 := ⟨by decide, jt_882, jt_9, by decide, by decide +kernel⟩
theorem dX1_fearedAbove_0 : decode cX1_fearedAbove 0 = .ok (.aload_n 0, 1) := by decide +kernel
theorem dX1_fearedAbove_1 : decode cX1_fearedAbove 1 = .ok (.getfield 9, 3) := by decide +kernel
theorem dX1_fearedAbove_4 : decode cX1_fearedAbove 4 = .ok (.iload_n 1, 1) := by decide +kernel
theorem dX1_fearedAbove_5 : decode cX1_fearedAbove 5 = .ok (.iaload, 1) := by decide +kernel
theorem dX1_fearedAbove_6 : decode cX1_fearedAbove 6 = .ok (.iconst 1, 1) := by decide +kernel
theorem dX1_fearedAbove_7 : decode cX1_fearedAbove 7 = .ok (.iadd, 1) := by decide +kernel
theorem dX1_fearedAbove_8 : decode cX1_fearedAbove 8 = .ok (.ireturn, 1) := by decide +kernel
def fX1_fearedAbove (t : Nat) (a1 : Int) (M : jw_M) : Option Int :=
  if jw_tag t = 1 then (if 0 ≤ a1 ∧ a1 < 7 then some (jw_w ((M (t + 1) a1) + 1)) else none) else none
set_option maxRecDepth 100000 in
theorem rX1_fearedAbove (G : jw_G) (t : Nat) (a1 : Int) (ha1 : jw_r a1) (M : jw_M) : jw_Rn G YX1_fearedAbove 1 0 0 true (fun v => (v, M)) 0 [(0, jR G t), (1, jI a1)] [] M (fX1_fearedAbove t a1 M) := by
  unfold fX1_fearedAbove
  refine jw_ck (fun ht => ?_)
  refine jw_aloadR (pc := 0) 0 dX1_fearedAbove_0 rfl ?_
  refine jw_getR (pc := 1) (j := 1) rfl dX1_fearedAbove_1 jv_1 ji_1 (Or.inl jt_234) ht (jn_1 ht) (by decide) (by decide) rfl (jf_1_1 ht).1 ?_
  refine jw_iload_n (pc := 4) 1 dX1_fearedAbove_4 rfl ?_
  refine jw_iald (pc := 5) dX1_fearedAbove_5 (jf_1_1 ht).2.1 (jf_1_1 ht).2.2 (jw_ho (jf_1_1 ht).2.1 (by decide)) ha1 rfl (fun h1 => ?_)
  refine jw_iconst (pc := 6) dX1_fearedAbove_6 ?_
  refine jw_iadd (pc := 7) dX1_fearedAbove_7 ?_
  exact jw_ret (pc := 8) (v := jw_w ((M (t + 1) a1) + 1)) dX1_fearedAbove_8 (jw_wr _) rfl rfl
theorem kX1_fearedAbove (G : jw_G) (t : Nat) (a1 : Int) (ha1 : jw_r a1) (M : jw_M) : jw_Ct G YX1_fearedAbove (some .int) 1 0 0 true (fun v => (v, M)) yX1_fearedAbove [jR G t, jI a1] M (fX1_fearedAbove t a1 M) := jw_met (by decide) rfl rfl rfl (Nat.le_of_ble_eq_true rfl) (rX1_fearedAbove G t a1 ha1 M)
abbrev YX1_fearedBelow : jw_Y := (RX1, cX1_fearedBelow, 1, 1, "fearedBelow")
theorem qX1_fearedBelow : jw_cy YX1_fearedBelow (some .int) yX1_fearedBelow 0 := ⟨by decide, jt_886, jt_9, by decide, by decide +kernel⟩
theorem dX1_fearedBelow_0 : decode cX1_fearedBelow 0 = .ok (.aload_n 0, 1) := by decide +kernel
theorem dX1_fearedBelow_1 : decode cX1_fearedBelow 1 = .ok (.getfield 18, 3) := by decide +kernel
theorem dX1_fearedBelow_4 : decode cX1_fearedBelow 4 = .ok (.iconst 2, 1) := by decide +kernel
theorem dX1_fearedBelow_5 : decode cX1_fearedBelow 5 = .ok (.iadd, 1) := by decide +kernel
theorem dX1_fearedBelow_6 : decode cX1_fearedBelow 6 = .ok (.ireturn, 1) := by decide +kernel
def fX1_fearedBelow (t : Nat) (M : jw_M) : Option Int :=
  if jw_tag t = 1 then (some (jw_w ((M t 0) + 2))) else none
set_option maxRecDepth 100000 in
theorem rX1_fearedBelow (G : jw_G) (t : Nat) (M : jw_M) : jw_Rn G YX1_fearedBelow 1 0 0 true (fun v => (v, M)) 0 [(0, jR G t)] [] M (fX1_fearedBelow t M) := by
  unfold fX1_fearedBelow
  refine jw_ck (fun ht => ?_)
  refine jw_aloadR (pc := 0) 0 dX1_fearedBelow_0 rfl ?_
  refine jw_getI (pc := 1) (j := 0) rfl dX1_fearedBelow_1 jv_1 ji_1 (Or.inl jt_232) ht (jn_1 ht) (by decide) (by decide) (jw_ho ht (by decide)) (Or.inl rfl) rfl (fun h1 => ?_)
  refine jw_iconst (pc := 4) dX1_fearedBelow_4 ?_
  refine jw_iadd (pc := 5) dX1_fearedBelow_5 ?_
  exact jw_ret (pc := 6) (v := jw_w ((M t 0) + 2)) dX1_fearedBelow_6 (jw_wr _) rfl rfl
theorem kX1_fearedBelow (G : jw_G) (t : Nat) (M : jw_M) : jw_Ct G YX1_fearedBelow (some .int) 1 0 0 true (fun v => (v, M)) yX1_fearedBelow [jR G t] M (fX1_fearedBelow t M) := jw_met (by decide) rfl rfl rfl (Nat.le_of_ble_eq_true rfl) (rX1_fearedBelow G t M)
abbrev YX1_savedBy : jw_Y := (RX1, cX1_savedBy, 3, 1, "savedBy")
theorem qX1_savedBy : jw_cy YX1_savedBy (some .int) yX1_savedBy 2 := ⟨by decide, jt_1002, jt_9, by decide, by decide +kernel⟩
theorem dX1_savedBy_0 : decode cX1_savedBy 0 = .ok (.aload_n 0, 1) := by decide +kernel
theorem dX1_savedBy_1 : decode cX1_savedBy 1 = .ok (.getfield 15, 3) := by decide +kernel
theorem dX1_savedBy_4 : decode cX1_savedBy 4 = .ok (.iload_n 1, 1) := by decide +kernel
theorem dX1_savedBy_5 : decode cX1_savedBy 5 = .ok (.iconst 5, 1) := by decide +kernel
theorem dX1_savedBy_6 : decode cX1_savedBy 6 = .ok (.imul, 1) := by decide +kernel
theorem dX1_savedBy_7 : decode cX1_savedBy 7 = .ok (.iload_n 2, 1) := by decide +kernel
theorem dX1_savedBy_8 : decode cX1_savedBy 8 = .ok (.iadd, 1) := by decide +kernel
theorem dX1_savedBy_9 : decode cX1_savedBy 9 = .ok (.iaload, 1) := by decide +kernel
theorem dX1_savedBy_10 : decode cX1_savedBy 10 = .ok (.ireturn, 1) := by decide +kernel
def fX1_savedBy (t : Nat) (a1 : Int) (a2 : Int) (M : jw_M) : Option Int :=
  if jw_tag t = 1 then (if 0 ≤ jw_w ((jw_w (a1 * 5)) + a2) ∧ jw_w ((jw_w (a1 * 5)) + a2) < 20 then some (M (t + 2) (jw_w ((jw_w (a1 * 5)) + a2))) else none) else none
set_option maxRecDepth 100000 in
theorem rX1_savedBy (G : jw_G) (t : Nat) (a1 : Int) (a2 : Int) (ha1 : jw_r a1) (ha2 : jw_r a2) (M : jw_M) : jw_Rn G YX1_savedBy 1 0 0 true (fun v => (v, M)) 0 [(0, jR G t), (1, jI a1), (2, jI a2)] [] M (fX1_savedBy t a1 a2 M) := by
  unfold fX1_savedBy
  refine jw_ck (fun ht => ?_)
  refine jw_aloadR (pc := 0) 0 dX1_savedBy_0 rfl ?_
  refine jw_getR (pc := 1) (j := 2) rfl dX1_savedBy_1 jv_1 ji_1 (Or.inl jt_235) ht (jn_1 ht) (by decide) (by decide) rfl (jf_1_2 ht).1 ?_
  refine jw_iload_n (pc := 4) 1 dX1_savedBy_4 rfl ?_
  refine jw_iconst (pc := 5) dX1_savedBy_5 ?_
  refine jw_imul (pc := 6) dX1_savedBy_6 ?_
  refine jw_iload_n (pc := 7) 2 dX1_savedBy_7 rfl ?_
  refine jw_iadd (pc := 8) dX1_savedBy_8 ?_
  refine jw_iald (pc := 9) dX1_savedBy_9 (jf_1_2 ht).2.1 (jf_1_2 ht).2.2 (jw_ho (jf_1_2 ht).2.1 (by decide)) (jw_wr _) rfl (fun h1 => ?_)
  exact jw_ret (pc := 10) (v := M (t + 2) (jw_w ((jw_w (a1 * 5)) + a2))) dX1_savedBy_10 h1 rfl rfl
theorem kX1_savedBy (G : jw_G) (t : Nat) (a1 : Int) (a2 : Int) (ha1 : jw_r a1) (ha2 : jw_r a2) (M : jw_M) : jw_Ct G YX1_savedBy (some .int) 1 0 0 true (fun v => (v, M)) yX1_savedBy [jR G t, jI a1, jI a2] M (fX1_savedBy t a1 a2 M) := jw_met (by decide) rfl rfl rfl (Nat.le_of_ble_eq_true rfl) (rX1_savedBy G t a1 a2 ha1 ha2 M)
abbrev YX3_begin : jw_Y := (RX3, cX3_begin, 2, 0, "begin")
theorem qX3_begin : jw_cy YX3_begin none yX3_begin 1 := ⟨by decide, jt_517, jt_8, by decide, by decide +kernel⟩
theorem dX3_begin_0 : decode cX3_begin 0 = .ok (.aload_n 0, 1) := by decide +kernel
theorem dX3_begin_1 : decode cX3_begin 1 = .ok (.iload_n 1, 1) := by decide +kernel
theorem dX3_begin_2 : decode cX3_begin 2 = .ok (.putfield 27, 3) := by decide +kernel
theorem dX3_begin_5 : decode cX3_begin 5 = .ok (.aload_n 0, 1) := by decide +kernel
theorem dX3_begin_6 : decode cX3_begin 6 = .ok (.iconst 0, 1) := by decide +kernel
theorem dX3_begin_7 : decode cX3_begin 7 = .ok (.putfield 31, 3) := by decide +kernel
theorem dX3_begin_10 : decode cX3_begin 10 = .ok (.aload_n 0, 1) := by decide +kernel
theorem dX3_begin_11 : decode cX3_begin 11 = .ok (.getfield 9, 3) := by decide +kernel
theorem dX3_begin_14 : decode cX3_begin 14 = .ok (.ldc 35, 2) := by decide +kernel
theorem dX3_begin_16 : decode cX3_begin 16 = .ok (.invokestatic 36, 3) := by decide +kernel
theorem dX3_begin_19 : decode cX3_begin 19 = .ok (.aload_n 0, 1) := by decide +kernel
theorem dX3_begin_20 : decode cX3_begin 20 = .ok (.getfield 24, 3) := by decide +kernel
theorem dX3_begin_23 : decode cX3_begin 23 = .ok (.iconst 0, 1) := by decide +kernel
theorem dX3_begin_24 : decode cX3_begin 24 = .ok (.invokestatic 36, 3) := by decide +kernel
theorem dX3_begin_27 : decode cX3_begin 27 = .ok (.return_, 1) := by decide +kernel
def fX3_begin (t : Nat) (a1 : Int) (M : jw_M) : Option jw_M :=
  if jw_tag t = 3 then (Option.bind (some (jw_up M t 0 a1)) (fun M1 => Option.bind (some (jw_up M1 t 1 0)) (fun M2 => Option.bind (fJ7_fill_53178 (t + 1) 1000000 M2) (fun M3 => Option.bind (fJ7_fill_53178 (t + 5) 0 M3) (fun M4 => some M4))))) else none
set_option maxRecDepth 100000 in
theorem rX3_begin (G : jw_G) (t : Nat) (a1 : Int) (ha1 : jw_r a1) (M : jw_M) : jw_Rn G YX3_begin 2 0 0 true (fun M1 => (0, M1)) 0 [(0, jR G t), (1, jI a1)] [] M (fX3_begin t a1 M) := by
  unfold fX3_begin
  refine jw_ck (fun ht => ?_)
  refine jw_aloadR (pc := 0) 0 dX3_begin_0 rfl ?_
  refine jw_iload_n (pc := 1) 1 dX3_begin_1 rfl ?_
  refine jw_putI (pc := 2) (j := 0) tyX3 rfl dX3_begin_2 jv_3 ji_3 tyX3_ok nmX3 (Or.inl jt_196) rfl ht (jn_3 ht) (by decide) (by decide) (jw_ho ht (by decide)) rfl rfl ha1 rfl ?_
  refine jw_letM (fun M1 => ?_)
  refine jw_aloadR (pc := 5) 0 dX3_begin_5 rfl ?_
  refine jw_iconst (pc := 6) dX3_begin_6 ?_
  refine jw_putZ (pc := 7) (j := 1) tyX3 rfl dX3_begin_7 jv_3 ji_3 tyX3_ok nmX3 (Or.inl jt_199) rfl ht (jn_3 ht) (by decide) (by decide) (jw_ho ht (by decide)) rfl rfl (Or.inl rfl) rfl ?_
  refine jw_letM (fun M2 => ?_)
  refine jw_aloadR (pc := 10) 0 dX3_begin_10 rfl ?_
  refine jw_getR (pc := 11) (j := 2) rfl dX3_begin_11 jv_3 ji_3 (Or.inl jt_201) ht (jn_3 ht) (by decide) (by decide) rfl (jf_3_2 ht).1 ?_
  refine jw_ldc (pc := 14) (n := 1000000) dX3_begin_14 jt_518 (by decide) ?_
  refine jw_callSM (pc := 16) (As := [jR G (t + 1), jI 1000000]) (st := []) dX3_begin_16 rfl (Nat.le_of_ble_eq_true rfl) qJ7_fill_53178 jt_519 jt_37 rfl rfl (Nat.le_of_ble_eq_true rfl) (kJ7_fill_53178 G (t + 1) 1000000 (jw_rc _ rfl) M2) (fun M3 => ?_)
  refine jw_aloadR (pc := 19) 0 dX3_begin_19 rfl ?_
  refine jw_getR (pc := 20) (j := 6) rfl dX3_begin_20 jv_3 ji_3 (Or.inl jt_209) ht (jn_3 ht) (by decide) (by decide) rfl (jf_3_6 ht).1 ?_
  refine jw_iconst (pc := 23) dX3_begin_23 ?_
  refine jw_callSM (pc := 24) (As := [jR G (t + 5), jI 0]) (st := []) dX3_begin_24 rfl (Nat.le_of_ble_eq_true rfl) qJ7_fill_53178 jt_519 jt_37 rfl rfl (Nat.le_of_ble_eq_true rfl) (kJ7_fill_53178 G (t + 5) 0 (jw_rc _ rfl) M3) (fun M4 => ?_)
  exact jw_ret (pc := 27) (v := 0) dX3_begin_27 trivial rfl rfl
theorem kX3_begin (G : jw_G) (t : Nat) (a1 : Int) (ha1 : jw_r a1) (M : jw_M) : jw_Ct G YX3_begin none 2 0 0 true (fun M1 => (0, M1)) yX3_begin [jR G t, jI a1] M (fX3_begin t a1 M) := jw_met (by decide) rfl rfl rfl (Nat.le_of_ble_eq_true rfl) (rX3_begin G t a1 ha1 M)
abbrev YX3_takeFrom : jw_Y := (RX3, cX3_takeFrom, 2, 0, "takeFrom")
theorem qX3_takeFrom : jw_cy YX3_takeFrom none yX3_takeFrom 1 := ⟨by decide, jt_709, jt_8, by decide, by decide +kernel⟩
theorem dX3_takeFrom_0 : decode cX3_takeFrom 0 = .ok (.aload_n 0, 1) := by decide +kernel
theorem dX3_takeFrom_1 : decode cX3_takeFrom 1 = .ok (.aload_n 1, 1) := by decide +kernel
theorem dX3_takeFrom_2 : decode cX3_takeFrom 2 = .ok (.getfield 27, 3) := by decide +kernel
theorem dX3_takeFrom_5 : decode cX3_takeFrom 5 = .ok (.putfield 27, 3) := by decide +kernel
theorem dX3_takeFrom_8 : decode cX3_takeFrom 8 = .ok (.aload_n 0, 1) := by decide +kernel
theorem dX3_takeFrom_9 : decode cX3_takeFrom 9 = .ok (.aload_n 1, 1) := by decide +kernel
theorem dX3_takeFrom_10 : decode cX3_takeFrom 10 = .ok (.getfield 31, 3) := by decide +kernel
theorem dX3_takeFrom_13 : decode cX3_takeFrom 13 = .ok (.putfield 31, 3) := by decide +kernel
theorem dX3_takeFrom_16 : decode cX3_takeFrom 16 = .ok (.aload_n 1, 1) := by decide +kernel
theorem dX3_takeFrom_17 : decode cX3_takeFrom 17 = .ok (.getfield 9, 3) := by decide +kernel
theorem dX3_takeFrom_20 : decode cX3_takeFrom 20 = .ok (.iconst 0, 1) := by decide +kernel
theorem dX3_takeFrom_21 : decode cX3_takeFrom 21 = .ok (.aload_n 0, 1) := by decide +kernel
theorem dX3_takeFrom_22 : decode cX3_takeFrom 22 = .ok (.getfield 9, 3) := by decide +kernel
theorem dX3_takeFrom_25 : decode cX3_takeFrom 25 = .ok (.iconst 0, 1) := by decide +kernel
theorem dX3_takeFrom_26 : decode cX3_takeFrom 26 = .ok (.aload_n 0, 1) := by decide +kernel
theorem dX3_takeFrom_27 : decode cX3_takeFrom 27 = .ok (.getfield 9, 3) := by decide +kernel
theorem dX3_takeFrom_30 : decode cX3_takeFrom 30 = .ok (.arraylength, 1) := by decide +kernel
theorem dX3_takeFrom_31 : decode cX3_takeFrom 31 = .ok (.invokestatic 42, 3) := by decide +kernel
theorem dX3_takeFrom_34 : decode cX3_takeFrom 34 = .ok (.aload_n 1, 1) := by decide +kernel
theorem dX3_takeFrom_35 : decode cX3_takeFrom 35 = .ok (.getfield 15, 3) := by decide +kernel
theorem dX3_takeFrom_38 : decode cX3_takeFrom 38 = .ok (.iconst 0, 1) := by decide +kernel
theorem dX3_takeFrom_39 : decode cX3_takeFrom 39 = .ok (.aload_n 0, 1) := by decide +kernel
theorem dX3_takeFrom_40 : decode cX3_takeFrom 40 = .ok (.getfield 15, 3) := by decide +kernel
theorem dX3_takeFrom_43 : decode cX3_takeFrom 43 = .ok (.iconst 0, 1) := by decide +kernel
theorem dX3_takeFrom_44 : decode cX3_takeFrom 44 = .ok (.aload_n 0, 1) := by decide +kernel
theorem dX3_takeFrom_45 : decode cX3_takeFrom 45 = .ok (.getfield 15, 3) := by decide +kernel
theorem dX3_takeFrom_48 : decode cX3_takeFrom 48 = .ok (.arraylength, 1) := by decide +kernel
theorem dX3_takeFrom_49 : decode cX3_takeFrom 49 = .ok (.invokestatic 42, 3) := by decide +kernel
theorem dX3_takeFrom_52 : decode cX3_takeFrom 52 = .ok (.aload_n 1, 1) := by decide +kernel
theorem dX3_takeFrom_53 : decode cX3_takeFrom 53 = .ok (.getfield 18, 3) := by decide +kernel
theorem dX3_takeFrom_56 : decode cX3_takeFrom 56 = .ok (.iconst 0, 1) := by decide +kernel
theorem dX3_takeFrom_57 : decode cX3_takeFrom 57 = .ok (.aload_n 0, 1) := by decide +kernel
theorem dX3_takeFrom_58 : decode cX3_takeFrom 58 = .ok (.getfield 18, 3) := by decide +kernel
theorem dX3_takeFrom_61 : decode cX3_takeFrom 61 = .ok (.iconst 0, 1) := by decide +kernel
theorem dX3_takeFrom_62 : decode cX3_takeFrom 62 = .ok (.aload_n 0, 1) := by decide +kernel
theorem dX3_takeFrom_63 : decode cX3_takeFrom 63 = .ok (.getfield 18, 3) := by decide +kernel
theorem dX3_takeFrom_66 : decode cX3_takeFrom 66 = .ok (.arraylength, 1) := by decide +kernel
theorem dX3_takeFrom_67 : decode cX3_takeFrom 67 = .ok (.invokestatic 42, 3) := by decide +kernel
theorem dX3_takeFrom_70 : decode cX3_takeFrom 70 = .ok (.aload_n 1, 1) := by decide +kernel
theorem dX3_takeFrom_71 : decode cX3_takeFrom 71 = .ok (.getfield 21, 3) := by decide +kernel
theorem dX3_takeFrom_74 : decode cX3_takeFrom 74 = .ok (.iconst 0, 1) := by decide +kernel
theorem dX3_takeFrom_75 : decode cX3_takeFrom 75 = .ok (.aload_n 0, 1) := by decide +kernel
theorem dX3_takeFrom_76 : decode cX3_takeFrom 76 = .ok (.getfield 21, 3) := by decide +kernel
theorem dX3_takeFrom_79 : decode cX3_takeFrom 79 = .ok (.iconst 0, 1) := by decide +kernel
theorem dX3_takeFrom_80 : decode cX3_takeFrom 80 = .ok (.aload_n 0, 1) := by decide +kernel
theorem dX3_takeFrom_81 : decode cX3_takeFrom 81 = .ok (.getfield 21, 3) := by decide +kernel
theorem dX3_takeFrom_84 : decode cX3_takeFrom 84 = .ok (.arraylength, 1) := by decide +kernel
theorem dX3_takeFrom_85 : decode cX3_takeFrom 85 = .ok (.invokestatic 42, 3) := by decide +kernel
theorem dX3_takeFrom_88 : decode cX3_takeFrom 88 = .ok (.aload_n 1, 1) := by decide +kernel
theorem dX3_takeFrom_89 : decode cX3_takeFrom 89 = .ok (.getfield 24, 3) := by decide +kernel
theorem dX3_takeFrom_92 : decode cX3_takeFrom 92 = .ok (.iconst 0, 1) := by decide +kernel
theorem dX3_takeFrom_93 : decode cX3_takeFrom 93 = .ok (.aload_n 0, 1) := by decide +kernel
theorem dX3_takeFrom_94 : decode cX3_takeFrom 94 = .ok (.getfield 24, 3) := by decide +kernel
theorem dX3_takeFrom_97 : decode cX3_takeFrom 97 = .ok (.iconst 0, 1) := by decide +kernel
theorem dX3_takeFrom_98 : decode cX3_takeFrom 98 = .ok (.aload_n 0, 1) := by decide +kernel
theorem dX3_takeFrom_99 : decode cX3_takeFrom 99 = .ok (.getfield 24, 3) := by decide +kernel
theorem dX3_takeFrom_102 : decode cX3_takeFrom 102 = .ok (.arraylength, 1) := by decide +kernel
theorem dX3_takeFrom_103 : decode cX3_takeFrom 103 = .ok (.invokestatic 42, 3) := by decide +kernel
theorem dX3_takeFrom_106 : decode cX3_takeFrom 106 = .ok (.return_, 1) := by decide +kernel
def fX3_takeFrom (t : Nat) (a1 : Nat) (M : jw_M) : Option jw_M :=
  if jw_tag t = 3 then (if jw_tag a1 = 3 then (Option.bind (some (jw_up M t 0 (M a1 0))) (fun M2 => if M2 a1 1 = 0 ∨ M2 a1 1 = 1 then Option.bind (some (jw_up M2 t 1 (M2 a1 1))) (fun M5 => if 0 ≤ (0 : Int) ∧ 0 ≤ (0 : Int) ∧ 0 ≤ (7 : Int) ∧ (0 : Int) + 7 ≤ 7 ∧ (0 : Int) + 7 ≤ 7 then Option.bind (some (jw_cp M5 (a1 + 1) 0 (t + 1) 0 7)) (fun M6 => if 0 ≤ (0 : Int) ∧ 0 ≤ (0 : Int) ∧ 0 ≤ (5 : Int) ∧ (0 : Int) + 5 ≤ 5 ∧ (0 : Int) + 5 ≤ 5 then Option.bind (some (jw_cp M6 (a1 + 2) 0 (t + 2) 0 5)) (fun M7 => if 0 ≤ (0 : Int) ∧ 0 ≤ (0 : Int) ∧ 0 ≤ (5 : Int) ∧ (0 : Int) + 5 ≤ 5 ∧ (0 : Int) + 5 ≤ 5 then Option.bind (some (jw_cp M7 (a1 + 3) 0 (t + 3) 0 5)) (fun M8 => if 0 ≤ (0 : Int) ∧ 0 ≤ (0 : Int) ∧ 0 ≤ (5 : Int) ∧ (0 : Int) + 5 ≤ 5 ∧ (0 : Int) + 5 ≤ 5 then Option.bind (some (jw_cp M8 (a1 + 4) 0 (t + 4) 0 5)) (fun M9 => if 0 ≤ (0 : Int) ∧ 0 ≤ (0 : Int) ∧ 0 ≤ (20 : Int) ∧ (0 : Int) + 20 ≤ 20 ∧ (0 : Int) + 20 ≤ 20 then Option.bind (some (jw_cp M9 (a1 + 5) 0 (t + 5) 0 20)) (fun M10 => some M10) else none) else none) else none) else none) else none) else none)) else none) else none
set_option maxRecDepth 100000 in
theorem rX3_takeFrom (G : jw_G) (t : Nat) (a1 : Nat) (M : jw_M) : jw_Rn G YX3_takeFrom 2 0 0 true (fun M1 => (0, M1)) 0 [(0, jR G t), (1, jR G a1)] [] M (fX3_takeFrom t a1 M) := by
  unfold fX3_takeFrom
  refine jw_ck (fun ht => ?_)
  refine jw_ck (fun ha1 => ?_)
  refine jw_aloadR (pc := 0) 0 dX3_takeFrom_0 rfl ?_
  refine jw_aloadR (pc := 1) 1 dX3_takeFrom_1 rfl ?_
  refine jw_getI (pc := 2) (j := 0) rfl dX3_takeFrom_2 jv_3 ji_3 (Or.inl jt_196) ha1 (jn_3 ha1) (by decide) (by decide) (jw_ho ha1 (by decide)) (Or.inl rfl) rfl (fun h1 => ?_)
  refine jw_putI (pc := 5) (j := 0) tyX3 rfl dX3_takeFrom_5 jv_3 ji_3 tyX3_ok nmX3 (Or.inl jt_196) rfl ht (jn_3 ht) (by decide) (by decide) (jw_ho ht (by decide)) rfl rfl h1 rfl ?_
  refine jw_letM (fun M2 => ?_)
  refine jw_aloadR (pc := 8) 0 dX3_takeFrom_8 rfl ?_
  refine jw_aloadR (pc := 9) 1 dX3_takeFrom_9 rfl ?_
  refine jw_getI (pc := 10) (j := 1) rfl dX3_takeFrom_10 jv_3 ji_3 (Or.inl jt_199) ha1 (jn_3 ha1) (by decide) (by decide) (jw_ho ha1 (by decide)) (Or.inr rfl) rfl (fun h3 => ?_)
  refine jw_ck (fun h4 => ?_)
  refine jw_putZ (pc := 13) (j := 1) tyX3 rfl dX3_takeFrom_13 jv_3 ji_3 tyX3_ok nmX3 (Or.inl jt_199) rfl ht (jn_3 ht) (by decide) (by decide) (jw_ho ht (by decide)) rfl rfl h4 rfl ?_
  refine jw_letM (fun M5 => ?_)
  refine jw_aloadR (pc := 16) 1 dX3_takeFrom_16 rfl ?_
  refine jw_getR (pc := 17) (j := 2) rfl dX3_takeFrom_17 jv_3 ji_3 (Or.inl jt_201) ha1 (jn_3 ha1) (by decide) (by decide) rfl (jf_3_2 ha1).1 ?_
  refine jw_iconst (pc := 20) dX3_takeFrom_20 ?_
  refine jw_aloadR (pc := 21) 0 dX3_takeFrom_21 rfl ?_
  refine jw_getR (pc := 22) (j := 2) rfl dX3_takeFrom_22 jv_3 ji_3 (Or.inl jt_201) ht (jn_3 ht) (by decide) (by decide) rfl (jf_3_2 ht).1 ?_
  refine jw_iconst (pc := 25) dX3_takeFrom_25 ?_
  refine jw_aloadR (pc := 26) 0 dX3_takeFrom_26 rfl ?_
  refine jw_getR (pc := 27) (j := 2) rfl dX3_takeFrom_27 jv_3 ji_3 (Or.inl jt_201) ht (jn_3 ht) (by decide) (by decide) rfl (jf_3_2 ht).1 ?_
  refine jw_alen (pc := 30) dX3_takeFrom_30 (jf_3_2 ht).2.1 (jf_3_2 ht).2.2 (jw_ho (jf_3_2 ht).2.1 (by decide)) rfl ?_
  refine jw_acopy (pc := 31) rfl dX3_takeFrom_31 jt_710 jt_467 jt_466 jt_15 (jf_3_2 ha1).2.1 (jf_3_2 ht).2.1 (jf_3_2 ha1).2.2 (jf_3_2 ht).2.2 (jw_ho (jf_3_2 ha1).2.1 (by decide)) (jw_ho (jf_3_2 ht).2.1 (by decide)) (jw_rc _ rfl) (jw_rc _ rfl) (jw_rc _ rfl) rfl rfl (by decide) (Nat.le_of_ble_eq_true rfl) ?_
  refine jw_letM (fun M6 => ?_)
  refine jw_aloadR (pc := 34) 1 dX3_takeFrom_34 rfl ?_
  refine jw_getR (pc := 35) (j := 3) rfl dX3_takeFrom_35 jv_3 ji_3 (Or.inl jt_202) ha1 (jn_3 ha1) (by decide) (by decide) rfl (jf_3_3 ha1).1 ?_
  refine jw_iconst (pc := 38) dX3_takeFrom_38 ?_
  refine jw_aloadR (pc := 39) 0 dX3_takeFrom_39 rfl ?_
  refine jw_getR (pc := 40) (j := 3) rfl dX3_takeFrom_40 jv_3 ji_3 (Or.inl jt_202) ht (jn_3 ht) (by decide) (by decide) rfl (jf_3_3 ht).1 ?_
  refine jw_iconst (pc := 43) dX3_takeFrom_43 ?_
  refine jw_aloadR (pc := 44) 0 dX3_takeFrom_44 rfl ?_
  refine jw_getR (pc := 45) (j := 3) rfl dX3_takeFrom_45 jv_3 ji_3 (Or.inl jt_202) ht (jn_3 ht) (by decide) (by decide) rfl (jf_3_3 ht).1 ?_
  refine jw_alen (pc := 48) dX3_takeFrom_48 (jf_3_3 ht).2.1 (jf_3_3 ht).2.2 (jw_ho (jf_3_3 ht).2.1 (by decide)) rfl ?_
  refine jw_acopy (pc := 49) rfl dX3_takeFrom_49 jt_710 jt_467 jt_466 jt_15 (jf_3_3 ha1).2.1 (jf_3_3 ht).2.1 (jf_3_3 ha1).2.2 (jf_3_3 ht).2.2 (jw_ho (jf_3_3 ha1).2.1 (by decide)) (jw_ho (jf_3_3 ht).2.1 (by decide)) (jw_rc _ rfl) (jw_rc _ rfl) (jw_rc _ rfl) rfl rfl (by decide) (Nat.le_of_ble_eq_true rfl) ?_
  refine jw_letM (fun M7 => ?_)
  refine jw_aloadR (pc := 52) 1 dX3_takeFrom_52 rfl ?_
  refine jw_getR (pc := 53) (j := 4) rfl dX3_takeFrom_53 jv_3 ji_3 (Or.inl jt_204) ha1 (jn_3 ha1) (by decide) (by decide) rfl (jf_3_4 ha1).1 ?_
  refine jw_iconst (pc := 56) dX3_takeFrom_56 ?_
  refine jw_aloadR (pc := 57) 0 dX3_takeFrom_57 rfl ?_
  refine jw_getR (pc := 58) (j := 4) rfl dX3_takeFrom_58 jv_3 ji_3 (Or.inl jt_204) ht (jn_3 ht) (by decide) (by decide) rfl (jf_3_4 ht).1 ?_
  refine jw_iconst (pc := 61) dX3_takeFrom_61 ?_
  refine jw_aloadR (pc := 62) 0 dX3_takeFrom_62 rfl ?_
  refine jw_getR (pc := 63) (j := 4) rfl dX3_takeFrom_63 jv_3 ji_3 (Or.inl jt_204) ht (jn_3 ht) (by decide) (by decide) rfl (jf_3_4 ht).1 ?_
  refine jw_alen (pc := 66) dX3_takeFrom_66 (jf_3_4 ht).2.1 (jf_3_4 ht).2.2 (jw_ho (jf_3_4 ht).2.1 (by decide)) rfl ?_
  refine jw_acopy (pc := 67) rfl dX3_takeFrom_67 jt_710 jt_467 jt_466 jt_15 (jf_3_4 ha1).2.1 (jf_3_4 ht).2.1 (jf_3_4 ha1).2.2 (jf_3_4 ht).2.2 (jw_ho (jf_3_4 ha1).2.1 (by decide)) (jw_ho (jf_3_4 ht).2.1 (by decide)) (jw_rc _ rfl) (jw_rc _ rfl) (jw_rc _ rfl) rfl rfl (by decide) (Nat.le_of_ble_eq_true rfl) ?_
  refine jw_letM (fun M8 => ?_)
  refine jw_aloadR (pc := 70) 1 dX3_takeFrom_70 rfl ?_
  refine jw_getR (pc := 71) (j := 5) rfl dX3_takeFrom_71 jv_3 ji_3 (Or.inl jt_206) ha1 (jn_3 ha1) (by decide) (by decide) rfl (jf_3_5 ha1).1 ?_
  refine jw_iconst (pc := 74) dX3_takeFrom_74 ?_
  refine jw_aloadR (pc := 75) 0 dX3_takeFrom_75 rfl ?_
  refine jw_getR (pc := 76) (j := 5) rfl dX3_takeFrom_76 jv_3 ji_3 (Or.inl jt_206) ht (jn_3 ht) (by decide) (by decide) rfl (jf_3_5 ht).1 ?_
  refine jw_iconst (pc := 79) dX3_takeFrom_79 ?_
  refine jw_aloadR (pc := 80) 0 dX3_takeFrom_80 rfl ?_
  refine jw_getR (pc := 81) (j := 5) rfl dX3_takeFrom_81 jv_3 ji_3 (Or.inl jt_206) ht (jn_3 ht) (by decide) (by decide) rfl (jf_3_5 ht).1 ?_
  refine jw_alen (pc := 84) dX3_takeFrom_84 (jf_3_5 ht).2.1 (jf_3_5 ht).2.2 (jw_ho (jf_3_5 ht).2.1 (by decide)) rfl ?_
  refine jw_acopy (pc := 85) rfl dX3_takeFrom_85 jt_710 jt_467 jt_466 jt_15 (jf_3_5 ha1).2.1 (jf_3_5 ht).2.1 (jf_3_5 ha1).2.2 (jf_3_5 ht).2.2 (jw_ho (jf_3_5 ha1).2.1 (by decide)) (jw_ho (jf_3_5 ht).2.1 (by decide)) (jw_rc _ rfl) (jw_rc _ rfl) (jw_rc _ rfl) rfl rfl (by decide) (Nat.le_of_ble_eq_true rfl) ?_
  refine jw_letM (fun M9 => ?_)
  refine jw_aloadR (pc := 88) 1 dX3_takeFrom_88 rfl ?_
  refine jw_getR (pc := 89) (j := 6) rfl dX3_takeFrom_89 jv_3 ji_3 (Or.inl jt_209) ha1 (jn_3 ha1) (by decide) (by decide) rfl (jf_3_6 ha1).1 ?_
  refine jw_iconst (pc := 92) dX3_takeFrom_92 ?_
  refine jw_aloadR (pc := 93) 0 dX3_takeFrom_93 rfl ?_
  refine jw_getR (pc := 94) (j := 6) rfl dX3_takeFrom_94 jv_3 ji_3 (Or.inl jt_209) ht (jn_3 ht) (by decide) (by decide) rfl (jf_3_6 ht).1 ?_
  refine jw_iconst (pc := 97) dX3_takeFrom_97 ?_
  refine jw_aloadR (pc := 98) 0 dX3_takeFrom_98 rfl ?_
  refine jw_getR (pc := 99) (j := 6) rfl dX3_takeFrom_99 jv_3 ji_3 (Or.inl jt_209) ht (jn_3 ht) (by decide) (by decide) rfl (jf_3_6 ht).1 ?_
  refine jw_alen (pc := 102) dX3_takeFrom_102 (jf_3_6 ht).2.1 (jf_3_6 ht).2.2 (jw_ho (jf_3_6 ht).2.1 (by decide)) rfl ?_
  refine jw_acopy (pc := 103) rfl dX3_takeFrom_103 jt_710 jt_467 jt_466 jt_15 (jf_3_6 ha1).2.1 (jf_3_6 ht).2.1 (jf_3_6 ha1).2.2 (jf_3_6 ht).2.2 (jw_ho (jf_3_6 ha1).2.1 (by decide)) (jw_ho (jf_3_6 ht).2.1 (by decide)) (jw_rc _ rfl) (jw_rc _ rfl) (jw_rc _ rfl) rfl rfl (by decide) (Nat.le_of_ble_eq_true rfl) ?_
  refine jw_letM (fun M10 => ?_)
  exact jw_ret (pc := 106) (v := 0) dX3_takeFrom_106 trivial rfl rfl
theorem kX3_takeFrom (G : jw_G) (t : Nat) (a1 : Nat) (M : jw_M) : jw_Ct G YX3_takeFrom none 2 0 0 true (fun M1 => (0, M1)) yX3_takeFrom [jR G t, jR G a1] M (fX3_takeFrom t a1 M) := jw_met (by decide) rfl rfl rfl (Nat.le_of_ble_eq_true rfl) (rX3_takeFrom G t a1 M)
abbrev YX3_comesTo : jw_Y := (RX3, cX3_comesTo, 3, 0, "comesTo")
theorem qX3_comesTo : jw_cy YX3_comesTo none yX3_comesTo 2 := ⟨by decide, jt_807, jt_8, by decide, by decide +kernel⟩
theorem dX3_comesTo_0 : decode cX3_comesTo 0 = .ok (.aload_n 0, 1) := by decide +kernel
theorem dX3_comesTo_1 : decode cX3_comesTo 1 = .ok (.getfield 9, 3) := by decide +kernel
theorem dX3_comesTo_4 : decode cX3_comesTo 4 = .ok (.iload_n 1, 1) := by decide +kernel
theorem dX3_comesTo_5 : decode cX3_comesTo 5 = .ok (.aload_n 0, 1) := by decide +kernel
theorem dX3_comesTo_6 : decode cX3_comesTo 6 = .ok (.getfield 9, 3) := by decide +kernel
theorem dX3_comesTo_9 : decode cX3_comesTo 9 = .ok (.iload_n 1, 1) := by decide +kernel
theorem dX3_comesTo_10 : decode cX3_comesTo 10 = .ok (.iaload, 1) := by decide +kernel
theorem dX3_comesTo_11 : decode cX3_comesTo 11 = .ok (.iload_n 2, 1) := by decide +kernel
theorem dX3_comesTo_12 : decode cX3_comesTo 12 = .ok (.invokestatic 48, 3) := by decide +kernel
theorem dX3_comesTo_15 : decode cX3_comesTo 15 = .ok (.iastore, 1) := by decide +kernel
theorem dX3_comesTo_16 : decode cX3_comesTo 16 = .ok (.return_, 1) := by decide +kernel
def fX3_comesTo (t : Nat) (a1 : Int) (a2 : Int) (M : jw_M) : Option jw_M :=
  if jw_tag t = 3 then (if 0 ≤ a1 ∧ a1 < 7 then if 0 ≤ a1 ∧ a1 < 7 then Option.bind (some (jw_up M (t + 1) a1 (jw_min (M (t + 1) a1) a2))) (fun M2 => some M2) else none else none) else none
set_option maxRecDepth 100000 in
theorem rX3_comesTo (G : jw_G) (t : Nat) (a1 : Int) (a2 : Int) (ha1 : jw_r a1) (ha2 : jw_r a2) (M : jw_M) : jw_Rn G YX3_comesTo 1 0 0 true (fun M1 => (0, M1)) 0 [(0, jR G t), (1, jI a1), (2, jI a2)] [] M (fX3_comesTo t a1 a2 M) := by
  unfold fX3_comesTo
  refine jw_ck (fun ht => ?_)
  refine jw_aloadR (pc := 0) 0 dX3_comesTo_0 rfl ?_
  refine jw_getR (pc := 1) (j := 2) rfl dX3_comesTo_1 jv_3 ji_3 (Or.inl jt_201) ht (jn_3 ht) (by decide) (by decide) rfl (jf_3_2 ht).1 ?_
  refine jw_iload_n (pc := 4) 1 dX3_comesTo_4 rfl ?_
  refine jw_aloadR (pc := 5) 0 dX3_comesTo_5 rfl ?_
  refine jw_getR (pc := 6) (j := 2) rfl dX3_comesTo_6 jv_3 ji_3 (Or.inl jt_201) ht (jn_3 ht) (by decide) (by decide) rfl (jf_3_2 ht).1 ?_
  refine jw_iload_n (pc := 9) 1 dX3_comesTo_9 rfl ?_
  refine jw_iald (pc := 10) dX3_comesTo_10 (jf_3_2 ht).2.1 (jf_3_2 ht).2.2 (jw_ho (jf_3_2 ht).2.1 (by decide)) ha1 rfl (fun h1 => ?_)
  refine jw_iload_n (pc := 11) 2 dX3_comesTo_11 rfl ?_
  refine jw_mmin (pc := 12) dX3_comesTo_12 jt_808 jt_664 jt_20 jt_665 (by decide) (Nat.le_of_ble_eq_true rfl) h1 ha2 ?_
  refine jw_iast (pc := 15) dX3_comesTo_15 (jf_3_2 ht).2.1 (jf_3_2 ht).2.2 (jw_ho (jf_3_2 ht).2.1 (by decide)) ha1 (jw_minr h1 ha2) rfl ?_
  refine jw_letM (fun M2 => ?_)
  exact jw_ret (pc := 16) (v := 0) dX3_comesTo_16 trivial rfl rfl
theorem kX3_comesTo (G : jw_G) (t : Nat) (a1 : Int) (a2 : Int) (ha1 : jw_r a1) (ha2 : jw_r a2) (M : jw_M) : jw_Ct G YX3_comesTo none 1 0 0 true (fun M1 => (0, M1)) yX3_comesTo [jR G t, jI a1, jI a2] M (fX3_comesTo t a1 a2 M) := jw_met (by decide) rfl rfl rfl (Nat.le_of_ble_eq_true rfl) (rX3_comesTo G t a1 a2 ha1 ha2 M)
abbrev YX3_outcomeOf : jw_Y := (RX3, cX3_outcomeOf, 4, 1, "outcomeOf")
theorem qX3_outcomeOf : jw_cy YX3_outcomeOf (some .int) yX3_outcomeOf 3 := ⟨by decide, jt_821, jt_8, by decide, by decide +kernel⟩
theorem dX3_outcomeOf_0 : decode cX3_outcomeOf 0 = .ok (.iload_n 1, 1) := by decide +kernel
theorem dX3_outcomeOf_1 : decode cX3_outcomeOf 1 = .ok (.ldc 35, 2) := by decide +kernel
theorem dX3_outcomeOf_3 : decode cX3_outcomeOf 3 = .ok (.if_icmp .ge 7, 3) := by decide +kernel
theorem dX3_outcomeOf_6 : decode cX3_outcomeOf 6 = .ok (.iconst 1, 1) := by decide +kernel
theorem dX3_outcomeOf_7 : decode cX3_outcomeOf 7 = .ok (.goto 4, 3) := by decide +kernel
theorem dX3_outcomeOf_10 : decode cX3_outcomeOf 10 = .ok (.iconst 0, 1) := by decide +kernel
theorem dX3_outcomeOf_11 : decode cX3_outcomeOf 11 = .ok (.istore_n 3, 1) := by decide +kernel
theorem dX3_outcomeOf_12 : decode cX3_outcomeOf 12 = .ok (.iload_n 0, 1) := by decide +kernel
theorem dX3_outcomeOf_13 : decode cX3_outcomeOf 13 = .ok (.ldc 35, 2) := by decide +kernel
theorem dX3_outcomeOf_15 : decode cX3_outcomeOf 15 = .ok (.if_icmp .ge 16, 3) := by decide +kernel
theorem dX3_outcomeOf_18 : decode cX3_outcomeOf 18 = .ok (.iload_n 3, 1) := by decide +kernel
theorem dX3_outcomeOf_19 : decode cX3_outcomeOf 19 = .ok (.ifCond .eq 10, 3) := by decide +kernel
theorem dX3_outcomeOf_22 : decode cX3_outcomeOf 22 = .ok (.iload_n 0, 1) := by decide +kernel
theorem dX3_outcomeOf_23 : decode cX3_outcomeOf 23 = .ok (.iload_n 1, 1) := by decide +kernel
theorem dX3_outcomeOf_24 : decode cX3_outcomeOf 24 = .ok (.iload_n 2, 1) := by decide +kernel
theorem dX3_outcomeOf_25 : decode cX3_outcomeOf 25 = .ok (.iadd, 1) := by decide +kernel
theorem dX3_outcomeOf_26 : decode cX3_outcomeOf 26 = .ok (.if_icmp .ge 5, 3) := by decide +kernel
theorem dX3_outcomeOf_29 : decode cX3_outcomeOf 29 = .ok (.iconst 2, 1) := by decide +kernel
theorem dX3_outcomeOf_30 : decode cX3_outcomeOf 30 = .ok (.ireturn, 1) := by decide +kernel
theorem dX3_outcomeOf_31 : decode cX3_outcomeOf 31 = .ok (.iload_n 3, 1) := by decide +kernel
theorem dX3_outcomeOf_32 : decode cX3_outcomeOf 32 = .ok (.ifCond .eq 7, 3) := by decide +kernel
theorem dX3_outcomeOf_35 : decode cX3_outcomeOf 35 = .ok (.iconst 1, 1) := by decide +kernel
theorem dX3_outcomeOf_36 : decode cX3_outcomeOf 36 = .ok (.goto 4, 3) := by decide +kernel
theorem dX3_outcomeOf_39 : decode cX3_outcomeOf 39 = .ok (.iconst 0, 1) := by decide +kernel
theorem dX3_outcomeOf_40 : decode cX3_outcomeOf 40 = .ok (.ireturn, 1) := by decide +kernel
def fX3_outcomeOf_31 (M : jw_M) (x3 : Int) : Option Int :=
  if x3 = 0 then (some 0) else (some 1)
set_option maxRecDepth 100000 in
theorem pX3_outcomeOf_31 (G : jw_G) (M : jw_M) : ∀ (x3 : Int) (hx3 : jw_r x3), jw_Rn G YX3_outcomeOf 1 0 0 true (fun v => (v, M)) 31 [(3, jI x3)] [] M (fX3_outcomeOf_31 M x3) := by
  intro x3 hx3
  unfold fX3_outcomeOf_31
  refine jw_iload_n (pc := 31) 0 dX3_outcomeOf_31 rfl ?_
  refine jw_if_eq (pc := 32) 39 dX3_outcomeOf_32 (by decide) hx3 (fun _ => ?_) (fun _ => ?_)
  · refine jw_iconst (pc := 39) dX3_outcomeOf_39 ?_
    exact jw_ret (pc := 40) (v := 0) dX3_outcomeOf_40 (jw_rc _ rfl) rfl rfl
  · refine jw_iconst (pc := 35) dX3_outcomeOf_35 ?_
    refine jw_goto (pc := 36) 40 dX3_outcomeOf_36 (by decide) ?_
    exact jw_ret (pc := 40) (v := 1) dX3_outcomeOf_40 (jw_rc _ rfl) rfl rfl
def fX3_outcomeOf_11 (M : jw_M) (x0 : Int) (x1 : Int) (x2 : Int) (xs0 : Int) : Option Int :=
  Option.bind (some xs0) (fun v1 => if x0 < 1000000 then (if v1 = 0 then (some 2) else (if x0 < jw_w (x1 + x2) then (some 2) else (fX3_outcomeOf_31 M v1))) else (fX3_outcomeOf_31 M v1))
set_option maxRecDepth 100000 in
theorem pX3_outcomeOf_11 (G : jw_G) (M : jw_M) : ∀ (x0 : Int) (x1 : Int) (x2 : Int) (xs0 : Int) (hx0 : jw_r x0) (hx1 : jw_r x1) (hx2 : jw_r x2) (hxs0 : jw_r xs0), jw_Rn G YX3_outcomeOf 1 0 0 true (fun v => (v, M)) 11 [(0, jI x0), (1, jI x1), (2, jI x2)] [jI xs0] M (fX3_outcomeOf_11 M x0 x1 x2 xs0) := by
  intro x0 x1 x2 xs0 hx0 hx1 hx2 hxs0
  unfold fX3_outcomeOf_11
  refine jw_istore_nL (pc := 11) (lv' := (fun y => [(3, y), (0, jI x0), (1, jI x1), (2, jI x2)])) dX3_outcomeOf_11 hxs0 (by decide) (fun _ => rfl) (fun v1 hv1 => ?_)
  refine jw_iload_n (pc := 12) 1 dX3_outcomeOf_12 rfl ?_
  refine jw_ldc (pc := 13) (n := 1000000) dX3_outcomeOf_13 jt_518 (by decide) ?_
  refine jw_ic_ge (pc := 15) 31 dX3_outcomeOf_15 (by decide) hx0 (jw_rc _ rfl) (fun _ => ?_) (fun _ => ?_)
  · refine jw_iload_n (pc := 18) 0 dX3_outcomeOf_18 rfl ?_
    refine jw_if_eq (pc := 19) 29 dX3_outcomeOf_19 (by decide) hv1 (fun _ => ?_) (fun _ => ?_)
    · refine jw_iconst (pc := 29) dX3_outcomeOf_29 ?_
      exact jw_ret (pc := 30) (v := 2) dX3_outcomeOf_30 (jw_rc _ rfl) rfl rfl
    · refine jw_iload_n (pc := 22) 1 dX3_outcomeOf_22 rfl ?_
      refine jw_iload_n (pc := 23) 2 dX3_outcomeOf_23 rfl ?_
      refine jw_iload_n (pc := 24) 3 dX3_outcomeOf_24 rfl ?_
      refine jw_iadd (pc := 25) dX3_outcomeOf_25 ?_
      refine jw_ic_ge (pc := 26) 31 dX3_outcomeOf_26 (by decide) hx0 (jw_wr _) (fun _ => ?_) (fun _ => ?_)
      · refine jw_iconst (pc := 29) dX3_outcomeOf_29 ?_
        exact jw_ret (pc := 30) (v := 2) dX3_outcomeOf_30 (jw_rc _ rfl) rfl rfl
      · exact jw_few [0] rfl (pX3_outcomeOf_31 G M v1 hv1)
  · exact jw_few [0] rfl (pX3_outcomeOf_31 G M v1 hv1)
def fX3_outcomeOf (a1 : Int) (a2 : Int) (a3 : Int) (M : jw_M) : Option Int :=
  if a2 < 1000000 then (fX3_outcomeOf_11 M a1 a2 a3 1) else (fX3_outcomeOf_11 M a1 a2 a3 0)
set_option maxRecDepth 100000 in
theorem rX3_outcomeOf (G : jw_G) (a1 : Int) (a2 : Int) (a3 : Int) (ha1 : jw_r a1) (ha2 : jw_r a2) (ha3 : jw_r a3) (M : jw_M) : jw_Rn G YX3_outcomeOf 1 0 0 true (fun v => (v, M)) 0 [(0, jI a1), (1, jI a2), (2, jI a3)] [] M (fX3_outcomeOf a1 a2 a3 M) := by
  unfold fX3_outcomeOf
  refine jw_iload_n (pc := 0) 1 dX3_outcomeOf_0 rfl ?_
  refine jw_ldc (pc := 1) (n := 1000000) dX3_outcomeOf_1 jt_518 (by decide) ?_
  refine jw_ic_ge (pc := 3) 10 dX3_outcomeOf_3 (by decide) ha2 (jw_rc _ rfl) (fun _ => ?_) (fun _ => ?_)
  · refine jw_iconst (pc := 6) dX3_outcomeOf_6 ?_
    refine jw_goto (pc := 7) 11 dX3_outcomeOf_7 (by decide) ?_
    exact jw_few [0, 1, 2] rfl (pX3_outcomeOf_11 G M a1 a2 a3 1 ha1 ha2 ha3 (jw_rc _ rfl))
  · refine jw_iconst (pc := 10) dX3_outcomeOf_10 ?_
    exact jw_few [0, 1, 2] rfl (pX3_outcomeOf_11 G M a1 a2 a3 0 ha1 ha2 ha3 (jw_rc _ rfl))
theorem kX3_outcomeOf (G : jw_G) (a1 : Int) (a2 : Int) (a3 : Int) (ha1 : jw_r a1) (ha2 : jw_r a2) (ha3 : jw_r a3) (M : jw_M) : jw_Ct G YX3_outcomeOf (some .int) 1 0 0 true (fun v => (v, M)) yX3_outcomeOf [jI a1, jI a2, jI a3] M (fX3_outcomeOf a1 a2 a3 M) := jw_met (by decide) rfl rfl rfl (Nat.le_of_ble_eq_true rfl) (rX3_outcomeOf G a1 a2 a3 ha1 ha2 ha3 M)
abbrev YX10_lossOf : jw_Y := (RX10, cX10_lossOf, 2, 1, "lossOf")
theorem qX10_lossOf : jw_cy YX10_lossOf (some .int) yX10_lossOf 1 := ⟨by decide, jt_832, jt_7, by decide, by decide +kernel⟩
theorem dX10_lossOf_0 : decode cX10_lossOf 0 = .ok (.aload_n 0, 1) := by decide +kernel
theorem dX10_lossOf_1 : decode cX10_lossOf 1 = .ok (.getfield 15, 3) := by decide +kernel
theorem dX10_lossOf_4 : decode cX10_lossOf 4 = .ok (.aload_n 0, 1) := by decide +kernel
theorem dX10_lossOf_5 : decode cX10_lossOf 5 = .ok (.getfield 21, 3) := by decide +kernel
theorem dX10_lossOf_8 : decode cX10_lossOf 8 = .ok (.iload_n 1, 1) := by decide +kernel
theorem dX10_lossOf_9 : decode cX10_lossOf 9 = .ok (.iaload, 1) := by decide +kernel
theorem dX10_lossOf_10 : decode cX10_lossOf 10 = .ok (.iaload, 1) := by decide +kernel
theorem dX10_lossOf_11 : decode cX10_lossOf 11 = .ok (.aload_n 0, 1) := by decide +kernel
theorem dX10_lossOf_12 : decode cX10_lossOf 12 = .ok (.getfield 18, 3) := by decide +kernel
theorem dX10_lossOf_15 : decode cX10_lossOf 15 = .ok (.aload_n 0, 1) := by decide +kernel
theorem dX10_lossOf_16 : decode cX10_lossOf 16 = .ok (.getfield 21, 3) := by decide +kernel
theorem dX10_lossOf_19 : decode cX10_lossOf 19 = .ok (.iload_n 1, 1) := by decide +kernel
theorem dX10_lossOf_20 : decode cX10_lossOf 20 = .ok (.iaload, 1) := by decide +kernel
theorem dX10_lossOf_21 : decode cX10_lossOf 21 = .ok (.iaload, 1) := by decide +kernel
theorem dX10_lossOf_22 : decode cX10_lossOf 22 = .ok (.iadd, 1) := by decide +kernel
theorem dX10_lossOf_23 : decode cX10_lossOf 23 = .ok (.ireturn, 1) := by decide +kernel
def fX10_lossOf (t : Nat) (a1 : Int) (M : jw_M) : Option Int :=
  if jw_tag t = 10 then (if 0 ≤ a1 ∧ a1 < 5 then if 0 ≤ M (t + 4) a1 ∧ M (t + 4) a1 < 4 then if 0 ≤ a1 ∧ a1 < 5 then if 0 ≤ M (t + 4) a1 ∧ M (t + 4) a1 < 4 then some (jw_w ((M (t + 2) (M (t + 4) a1)) + (M (t + 3) (M (t + 4) a1)))) else none else none else none else none) else none
set_option maxRecDepth 100000 in
theorem rX10_lossOf (G : jw_G) (t : Nat) (a1 : Int) (ha1 : jw_r a1) (M : jw_M) : jw_Rn G YX10_lossOf 1 0 0 true (fun v => (v, M)) 0 [(0, jR G t), (1, jI a1)] [] M (fX10_lossOf t a1 M) := by
  unfold fX10_lossOf
  refine jw_ck (fun ht => ?_)
  refine jw_aloadR (pc := 0) 0 dX10_lossOf_0 rfl ?_
  refine jw_getR (pc := 1) (j := 2) rfl dX10_lossOf_1 jv_10 ji_10 (Or.inl jt_149) ht (jn_10 ht) (by decide) (by decide) rfl (jf_10_2 ht).1 ?_
  refine jw_aloadR (pc := 4) 0 dX10_lossOf_4 rfl ?_
  refine jw_getR (pc := 5) (j := 5) rfl dX10_lossOf_5 jv_10 ji_10 (Or.inl jt_156) ht (jn_10 ht) (by decide) (by decide) rfl (jf_10_5 ht).1 ?_
  refine jw_iload_n (pc := 8) 1 dX10_lossOf_8 rfl ?_
  refine jw_iald (pc := 9) dX10_lossOf_9 (jf_10_5 ht).2.1 (jf_10_5 ht).2.2 (jw_ho (jf_10_5 ht).2.1 (by decide)) ha1 rfl (fun h1 => ?_)
  refine jw_iald (pc := 10) dX10_lossOf_10 (jf_10_2 ht).2.1 (jf_10_2 ht).2.2 (jw_ho (jf_10_2 ht).2.1 (by decide)) h1 rfl (fun h2 => ?_)
  refine jw_aloadR (pc := 11) 0 dX10_lossOf_11 rfl ?_
  refine jw_getR (pc := 12) (j := 3) rfl dX10_lossOf_12 jv_10 ji_10 (Or.inl jt_150) ht (jn_10 ht) (by decide) (by decide) rfl (jf_10_3 ht).1 ?_
  refine jw_aloadR (pc := 15) 0 dX10_lossOf_15 rfl ?_
  refine jw_getR (pc := 16) (j := 5) rfl dX10_lossOf_16 jv_10 ji_10 (Or.inl jt_156) ht (jn_10 ht) (by decide) (by decide) rfl (jf_10_5 ht).1 ?_
  refine jw_iload_n (pc := 19) 1 dX10_lossOf_19 rfl ?_
  refine jw_iald (pc := 20) dX10_lossOf_20 (jf_10_5 ht).2.1 (jf_10_5 ht).2.2 (jw_ho (jf_10_5 ht).2.1 (by decide)) ha1 rfl (fun h3 => ?_)
  refine jw_iald (pc := 21) dX10_lossOf_21 (jf_10_3 ht).2.1 (jf_10_3 ht).2.2 (jw_ho (jf_10_3 ht).2.1 (by decide)) h3 rfl (fun h4 => ?_)
  refine jw_iadd (pc := 22) dX10_lossOf_22 ?_
  exact jw_ret (pc := 23) (v := jw_w ((M (t + 2) (M (t + 4) a1)) + (M (t + 3) (M (t + 4) a1)))) dX10_lossOf_23 (jw_wr _) rfl rfl
theorem kX10_lossOf (G : jw_G) (t : Nat) (a1 : Int) (ha1 : jw_r a1) (M : jw_M) : jw_Ct G YX10_lossOf (some .int) 1 0 0 true (fun v => (v, M)) yX10_lossOf [jR G t, jI a1] M (fX10_lossOf t a1 M) := jw_met (by decide) rfl rfl rfl (Nat.le_of_ble_eq_true rfl) (rX10_lossOf G t a1 ha1 M)
abbrev YX3_lostIf : jw_Y := (RX3, cX3_lostIf, 3, 1, "lostIf")
theorem qX3_lostIf : jw_cy YX3_lostIf (some .int) yX3_lostIf 3 := ⟨by decide, jt_828, jt_8, by decide, by decide +kernel⟩
theorem dX3_lostIf_0 : decode cX3_lostIf 0 = .ok (.iload_n 0, 1) := by decide +kernel
theorem dX3_lostIf_1 : decode cX3_lostIf 1 = .ok (.iconst 2, 1) := by decide +kernel
theorem dX3_lostIf_2 : decode cX3_lostIf 2 = .ok (.if_icmp .ne 11, 3) := by decide +kernel
theorem dX3_lostIf_5 : decode cX3_lostIf 5 = .ok (.aload_n 1, 1) := by decide +kernel
theorem dX3_lostIf_6 : decode cX3_lostIf 6 = .ok (.iload_n 2, 1) := by decide +kernel
theorem dX3_lostIf_7 : decode cX3_lostIf 7 = .ok (.invokevirtual 84, 3) := by decide +kernel
theorem dX3_lostIf_10 : decode cX3_lostIf 10 = .ok (.goto 4, 3) := by decide +kernel
theorem dX3_lostIf_13 : decode cX3_lostIf 13 = .ok (.iconst 0, 1) := by decide +kernel
theorem dX3_lostIf_14 : decode cX3_lostIf 14 = .ok (.ireturn, 1) := by decide +kernel
def fX3_lostIf (a1 : Int) (a2 : Nat) (a3 : Int) (M : jw_M) : Option Int :=
  if jw_tag a2 = 10 then (if a1 = 2 then (Option.bind (fX10_lossOf a2 a3 M) (fun v1 => some v1)) else (some 0)) else none
set_option maxRecDepth 100000 in
theorem rX3_lostIf (G : jw_G) (a1 : Int) (a2 : Nat) (a3 : Int) (ha1 : jw_r a1) (ha3 : jw_r a3) (M : jw_M) : jw_Rn G YX3_lostIf 2 0 0 true (fun v => (v, M)) 0 [(0, jI a1), (1, jR G a2), (2, jI a3)] [] M (fX3_lostIf a1 a2 a3 M) := by
  unfold fX3_lostIf
  refine jw_ck (fun ha2 => ?_)
  refine jw_iload_n (pc := 0) 0 dX3_lostIf_0 rfl ?_
  refine jw_iconst (pc := 1) dX3_lostIf_1 ?_
  refine jw_ic_ne (pc := 2) 13 dX3_lostIf_2 (by decide) ha1 (jw_rc _ rfl) (fun _ => ?_) (fun _ => ?_)
  · refine jw_aloadR (pc := 5) 1 dX3_lostIf_5 rfl ?_
    refine jw_iload_n (pc := 6) 2 dX3_lostIf_6 rfl ?_
    refine jw_callVi (pc := 7) (As := [jI a3]) (st := []) dX3_lostIf_7 rfl (Nat.le_of_ble_eq_true rfl) qX10_lossOf jt_829 jt_830 jt_831 rfl rfl (Nat.le_of_ble_eq_true rfl) jv_10 rfl ha2 (jn_10 ha2) (by decide) (jw_ho ha2 (by decide)) (kX10_lossOf G a2 a3 ha3 M) (fun v1 hv1 => ?_)
    refine jw_goto (pc := 10) 14 dX3_lostIf_10 (by decide) ?_
    exact jw_ret (pc := 14) (v := v1) dX3_lostIf_14 hv1 rfl rfl
  · refine jw_iconst (pc := 13) dX3_lostIf_13 ?_
    exact jw_ret (pc := 14) (v := 0) dX3_lostIf_14 (jw_rc _ rfl) rfl rfl
theorem kX3_lostIf (G : jw_G) (a1 : Int) (a2 : Nat) (a3 : Int) (ha1 : jw_r a1) (ha3 : jw_r a3) (M : jw_M) : jw_Ct G YX3_lostIf (some .int) 2 0 0 true (fun v => (v, M)) yX3_lostIf [jI a1, jR G a2, jI a3] M (fX3_lostIf a1 a2 a3 M) := jw_met (by decide) rfl rfl rfl (Nat.le_of_ble_eq_true rfl) (rX3_lostIf G a1 a2 a3 ha1 ha3 M)
abbrev YX3_warning : jw_Y := (RX3, cX3_warning, 9, 1, "warning")
theorem qX3_warning : jw_cy YX3_warning (some .int) yX3_warning 4 := ⟨by decide, jt_816, jt_8, by decide, by decide +kernel⟩
theorem dX3_warning_0 : decode cX3_warning 0 = .ok (.ldc 35, 2) := by decide +kernel
theorem dX3_warning_2 : decode cX3_warning 2 = .ok (.istore 5, 2) := by decide +kernel
theorem dX3_warning_4 : decode cX3_warning 4 = .ok (.iconst 0, 1) := by decide +kernel
theorem dX3_warning_5 : decode cX3_warning 5 = .ok (.istore 6, 2) := by decide +kernel
theorem dX3_warning_7 : decode cX3_warning 7 = .ok (.iload 6, 2) := by decide +kernel
theorem dX3_warning_9 : decode cX3_warning 9 = .ok (.aload_n 2, 1) := by decide +kernel
theorem dX3_warning_10 : decode cX3_warning 10 = .ok (.getfield 74, 3) := by decide +kernel
theorem dX3_warning_13 : decode cX3_warning 13 = .ok (.if_icmp .ge 56, 3) := by decide +kernel
theorem dX3_warning_16 : decode cX3_warning 16 = .ok (.iload 6, 2) := by decide +kernel
theorem dX3_warning_18 : decode cX3_warning 18 = .ok (.iload 4, 2) := by decide +kernel
theorem dX3_warning_20 : decode cX3_warning 20 = .ok (.if_icmp .eq 43, 3) := by decide +kernel
theorem dX3_warning_23 : decode cX3_warning 23 = .ok (.aload_n 2, 1) := by decide +kernel
theorem dX3_warning_24 : decode cX3_warning 24 = .ok (.getfield 87, 3) := by decide +kernel
theorem dX3_warning_27 : decode cX3_warning 27 = .ok (.iload 6, 2) := by decide +kernel
theorem dX3_warning_29 : decode cX3_warning 29 = .ok (.iaload, 1) := by decide +kernel
theorem dX3_warning_30 : decode cX3_warning 30 = .ok (.istore 7, 2) := by decide +kernel
theorem dX3_warning_32 : decode cX3_warning 32 = .ok (.aload_n 0, 1) := by decide +kernel
theorem dX3_warning_33 : decode cX3_warning 33 = .ok (.getfield 9, 3) := by decide +kernel
theorem dX3_warning_36 : decode cX3_warning 36 = .ok (.iload 7, 2) := by decide +kernel
theorem dX3_warning_38 : decode cX3_warning 38 = .ok (.iaload, 1) := by decide +kernel
theorem dX3_warning_39 : decode cX3_warning 39 = .ok (.aload_n 1, 1) := by decide +kernel
theorem dX3_warning_40 : decode cX3_warning 40 = .ok (.iload 7, 2) := by decide +kernel
theorem dX3_warning_42 : decode cX3_warning 42 = .ok (.aload_n 2, 1) := by decide +kernel
theorem dX3_warning_43 : decode cX3_warning 43 = .ok (.getfield 63, 3) := by decide +kernel
theorem dX3_warning_46 : decode cX3_warning 46 = .ok (.iload_n 3, 1) := by decide +kernel
theorem dX3_warning_47 : decode cX3_warning 47 = .ok (.iaload, 1) := by decide +kernel
theorem dX3_warning_48 : decode cX3_warning 48 = .ok (.invokevirtual 90, 3) := by decide +kernel
theorem dX3_warning_51 : decode cX3_warning 51 = .ok (.iadd, 1) := by decide +kernel
theorem dX3_warning_52 : decode cX3_warning 52 = .ok (.istore 8, 2) := by decide +kernel
theorem dX3_warning_54 : decode cX3_warning 54 = .ok (.iload 5, 2) := by decide +kernel
theorem dX3_warning_56 : decode cX3_warning 56 = .ok (.iload 8, 2) := by decide +kernel
theorem dX3_warning_58 : decode cX3_warning 58 = .ok (.invokestatic 48, 3) := by decide +kernel
theorem dX3_warning_61 : decode cX3_warning 61 = .ok (.istore 5, 2) := by decide +kernel
theorem dX3_warning_63 : decode cX3_warning 63 = .ok (.iinc 6 1, 3) := by decide +kernel
theorem dX3_warning_66 : decode cX3_warning 66 = .ok (.goto (-59), 3) := by decide +kernel
theorem dX3_warning_69 : decode cX3_warning 69 = .ok (.iload 5, 2) := by decide +kernel
theorem dX3_warning_71 : decode cX3_warning 71 = .ok (.ireturn, 1) := by decide +kernel
def fX3_warning_63 (t : Nat) (a1 : Nat) (a2 : Nat) (M : jw_M) (r7 : Int → Int → Int → Int → Option Int) (x3 : Int) (x4 : Int) (x5 : Int) (x6 : Int) : Option Int :=
  Option.bind (some (jw_w (x6 + 1))) (fun v4 => r7 x3 x4 x5 v4)
set_option maxRecDepth 100000 in
theorem pX3_warning_63 (G : jw_G) (t : Nat) (a1 : Nat) (a2 : Nat) (ht : jw_tag t = 3) (ha1 : jw_tag a1 = 9) (ha2 : jw_tag a2 = 10) (M : jw_M) (r7 : Int → Int → Int → Int → Option Int) (hr7 : ∀ (x3 : Int) (x4 : Int) (x5 : Int) (x6 : Int) (hx3 : jw_r x3) (hx4 : jw_r x4) (hx5 : jw_r x5) (hx6 : jw_r x6), jw_Rn G YX3_warning 2 0 0 true (fun v => (v, M)) 7 [(0, jR G t), (1, jR G a1), (2, jR G a2), (3, jI x3), (4, jI x4), (5, jI x5), (6, jI x6)] [] M (r7 x3 x4 x5 x6)) : ∀ (x3 : Int) (x4 : Int) (x5 : Int) (x6 : Int) (hx3 : jw_r x3) (hx4 : jw_r x4) (hx5 : jw_r x5) (hx6 : jw_r x6), jw_Rn G YX3_warning 2 0 0 true (fun v => (v, M)) 63 [(0, jR G t), (1, jR G a1), (2, jR G a2), (3, jI x3), (4, jI x4), (5, jI x5), (6, jI x6)] [] M (fX3_warning_63 t a1 a2 M r7 x3 x4 x5 x6) := by
  intro x3 x4 x5 x6 hx3 hx4 hx5 hx6
  unfold fX3_warning_63
  refine jw_iincL (pc := 63) 6 (lv' := (fun y => [(6, y), (0, jR G t), (1, jR G a1), (2, jR G a2), (3, jI x3), (4, jI x4), (5, jI x5)])) dX3_warning_63 rfl (Nat.le_of_ble_eq_true rfl) (fun _ => rfl) (fun v4 hv4 => ?_)
  refine jw_goto (pc := 66) 7 dX3_warning_66 (by decide) ?_
  exact jw_few [1, 2, 3, 4, 5, 6, 0] rfl (hr7 x3 x4 x5 v4 hx3 hx4 hx5 hv4)
def fX3_warning_7 (t : Nat) (a1 : Nat) (a2 : Nat) (M : jw_M) : Nat → Int → Int → Int → Int → Option Int
  | 0, _, _, _, _ => none
  | k + 1, x3, x4, x5, x6 => if x6 < M a2 7 then (if x6 = x4 then (fX3_warning_63 t a1 a2 M (fX3_warning_7 t a1 a2 M k) x3 x4 x5 x6) else (if 0 ≤ x6 ∧ x6 < 4 then Option.bind (some (M (a2 + 6) x6)) (fun v6 => if 0 ≤ v6 ∧ v6 < 7 then if 0 ≤ x3 ∧ x3 < 5 then Option.bind (fX9_hearingTo a1 v6 (M (a2 + 5) x3) M) (fun v9 => Option.bind (some (jw_w ((M (t + 1) v6) + v9))) (fun v10 => Option.bind (some (jw_min x5 v10)) (fun v11 => fX3_warning_63 t a1 a2 M (fX3_warning_7 t a1 a2 M k) x3 x4 v11 x6))) else none else none) else none)) else (some x5)
set_option maxRecDepth 100000 in
theorem pX3_warning_7 (G : jw_G) (t : Nat) (a1 : Nat) (a2 : Nat) (ht : jw_tag t = 3) (ha1 : jw_tag a1 = 9) (ha2 : jw_tag a2 = 10) (M : jw_M) : ∀ (k : Nat) (x3 : Int) (x4 : Int) (x5 : Int) (x6 : Int) (hx3 : jw_r x3) (hx4 : jw_r x4) (hx5 : jw_r x5) (hx6 : jw_r x6), jw_Rn G YX3_warning 2 0 0 true (fun v => (v, M)) 7 [(0, jR G t), (1, jR G a1), (2, jR G a2), (3, jI x3), (4, jI x4), (5, jI x5), (6, jI x6)] [] M (fX3_warning_7 t a1 a2 M k x3 x4 x5 x6) := by
  intro k
  induction k with
  | zero =>
    intro x3 x4 x5 x6 hx3 hx4 hx5 hx6
    exact jw_none
  | succ k ih =>
    intro x3 x4 x5 x6 hx3 hx4 hx5 hx6
    rw [fX3_warning_7]
    refine jw_iload (pc := 7) 6 dX3_warning_7 rfl ?_
    refine jw_aloadR (pc := 9) 2 dX3_warning_9 rfl ?_
    refine jw_getI (pc := 10) (j := 7) rfl dX3_warning_10 jv_10 ji_10 (Or.inr ⟨_, jt_166⟩) ha2 (jn_10 ha2) (by decide) (by decide) (jw_ho ha2 (by decide)) (Or.inl rfl) rfl (fun h3 => ?_)
    refine jw_ic_ge (pc := 13) 69 dX3_warning_13 (by decide) hx6 h3 (fun _ => ?_) (fun _ => ?_)
    · refine jw_iload (pc := 16) 6 dX3_warning_16 rfl ?_
      refine jw_iload (pc := 18) 4 dX3_warning_18 rfl ?_
      refine jw_ic_eq (pc := 20) 63 dX3_warning_20 (by decide) hx6 hx4 (fun _ => ?_) (fun _ => ?_)
      · exact jw_few [0, 1, 2, 3, 4, 5, 6] rfl (pX3_warning_63 G t a1 a2 ht ha1 ha2 M (fX3_warning_7 t a1 a2 M k) ih x3 x4 x5 x6 hx3 hx4 hx5 hx6)
      · refine jw_aloadR (pc := 23) 2 dX3_warning_23 rfl ?_
        refine jw_getR (pc := 24) (j := 8) rfl dX3_warning_24 jv_10 ji_10 (Or.inr ⟨_, jt_169⟩) ha2 (jn_10 ha2) (by decide) (by decide) rfl (jf_10_8 ha2).1 ?_
        refine jw_iload (pc := 27) 6 dX3_warning_27 rfl ?_
        refine jw_iald (pc := 29) dX3_warning_29 (jf_10_8 ha2).2.1 (jf_10_8 ha2).2.2 (jw_ho (jf_10_8 ha2).2.1 (by decide)) hx6 rfl (fun h5 => ?_)
        refine jw_istoreL (pc := 30) (lv' := (fun y => [(7, y), (0, jR G t), (1, jR G a1), (2, jR G a2), (3, jI x3), (4, jI x4), (5, jI x5), (6, jI x6)])) dX3_warning_30 h5 (by decide) (fun _ => rfl) (fun v6 hv6 => ?_)
        refine jw_aloadR (pc := 32) 1 dX3_warning_32 rfl ?_
        refine jw_getR (pc := 33) (j := 2) rfl dX3_warning_33 jv_3 ji_3 (Or.inl jt_201) ht (jn_3 ht) (by decide) (by decide) rfl (jf_3_2 ht).1 ?_
        refine jw_iload (pc := 36) 0 dX3_warning_36 rfl ?_
        refine jw_iald (pc := 38) dX3_warning_38 (jf_3_2 ht).2.1 (jf_3_2 ht).2.2 (jw_ho (jf_3_2 ht).2.1 (by decide)) hv6 rfl (fun h7 => ?_)
        refine jw_aloadR (pc := 39) 2 dX3_warning_39 rfl ?_
        refine jw_iload (pc := 40) 0 dX3_warning_40 rfl ?_
        refine jw_aloadR (pc := 42) 3 dX3_warning_42 rfl ?_
        refine jw_getR (pc := 43) (j := 6) rfl dX3_warning_43 jv_10 ji_10 (Or.inr ⟨_, jt_163⟩) ha2 (jn_10 ha2) (by decide) (by decide) rfl (jf_10_6 ha2).1 ?_
        refine jw_iload_n (pc := 46) 4 dX3_warning_46 rfl ?_
        refine jw_iald (pc := 47) dX3_warning_47 (jf_10_6 ha2).2.1 (jf_10_6 ha2).2.2 (jw_ho (jf_10_6 ha2).2.1 (by decide)) hx3 rfl (fun h8 => ?_)
        refine jw_callVi (pc := 48) (As := [jI v6, jI (M (a2 + 5) x3)]) (st := [jI (M (t + 1) v6)]) dX3_warning_48 rfl (Nat.le_of_ble_eq_true rfl) qX9_hearingTo jt_817 jt_741 jt_742 rfl rfl (Nat.le_of_ble_eq_true rfl) jv_9 rfl ha1 (jn_9 ha1) (by decide) (jw_ho ha1 (by decide)) (kX9_hearingTo G a1 v6 (M (a2 + 5) x3) hv6 h8 M) (fun v9 hv9 => ?_)
        refine jw_iadd (pc := 51) dX3_warning_51 ?_
        refine jw_istoreL (pc := 52) (lv' := (fun y => [(8, y), (7, jI v6), (0, jR G t), (1, jR G a1), (2, jR G a2), (3, jI x3), (4, jI x4), (5, jI x5), (6, jI x6)])) dX3_warning_52 (jw_wr _) (by decide) (fun _ => rfl) (fun v10 hv10 => ?_)
        refine jw_iload (pc := 54) 7 dX3_warning_54 rfl ?_
        refine jw_iload (pc := 56) 0 dX3_warning_56 rfl ?_
        refine jw_mmin (pc := 58) dX3_warning_58 jt_808 jt_664 jt_20 jt_665 (by decide) (Nat.le_of_ble_eq_true rfl) hx5 hv10 ?_
        refine jw_istoreL (pc := 61) (lv' := (fun y => [(5, y), (8, jI v10), (7, jI v6), (0, jR G t), (1, jR G a1), (2, jR G a2), (3, jI x3), (4, jI x4), (6, jI x6)])) dX3_warning_61 (jw_minr hx5 hv10) (by decide) (fun _ => rfl) (fun v11 hv11 => ?_)
        exact jw_few [3, 4, 5, 6, 7, 0, 8] rfl (pX3_warning_63 G t a1 a2 ht ha1 ha2 M (fX3_warning_7 t a1 a2 M k) ih x3 x4 v11 x6 hx3 hx4 hv11 hx6)
    · refine jw_iload (pc := 69) 5 dX3_warning_69 rfl ?_
      exact jw_ret (pc := 71) (v := x5) dX3_warning_71 hx5 rfl rfl
def fX3_warning (t : Nat) (a1 : Nat) (a2 : Nat) (a3 : Int) (a4 : Int) (M : jw_M) : Option Int :=
  if jw_tag t = 3 then (if jw_tag a1 = 9 then (if jw_tag a2 = 10 then (Option.bind (some 1000000) (fun v1 => Option.bind (some 0) (fun v2 => fX3_warning_7 t a1 a2 M jw_fu a3 a4 v1 v2))) else none) else none) else none
set_option maxRecDepth 100000 in
theorem rX3_warning (G : jw_G) (t : Nat) (a1 : Nat) (a2 : Nat) (a3 : Int) (a4 : Int) (ha3 : jw_r a3) (ha4 : jw_r a4) (M : jw_M) : jw_Rn G YX3_warning 2 0 0 true (fun v => (v, M)) 0 [(0, jR G t), (1, jR G a1), (2, jR G a2), (3, jI a3), (4, jI a4)] [] M (fX3_warning t a1 a2 a3 a4 M) := by
  unfold fX3_warning
  refine jw_ck (fun ht => ?_)
  refine jw_ck (fun ha1 => ?_)
  refine jw_ck (fun ha2 => ?_)
  refine jw_ldc (pc := 0) (n := 1000000) dX3_warning_0 jt_518 (by decide) ?_
  refine jw_istoreL (pc := 2) (lv' := (fun y => [(5, y), (0, jR G t), (1, jR G a1), (2, jR G a2), (3, jI a3), (4, jI a4)])) dX3_warning_2 (jw_rc _ rfl) (by decide) (fun _ => rfl) (fun v1 hv1 => ?_)
  refine jw_iconst (pc := 4) dX3_warning_4 ?_
  refine jw_istoreL (pc := 5) (lv' := (fun y => [(6, y), (5, jI v1), (0, jR G t), (1, jR G a1), (2, jR G a2), (3, jI a3), (4, jI a4)])) dX3_warning_5 (jw_rc _ rfl) (by decide) (fun _ => rfl) (fun v2 hv2 => ?_)
  exact jw_few [2, 3, 4, 5, 6, 1, 0] rfl (pX3_warning_7 G t a1 a2 ht ha1 ha2 M jw_fu a3 a4 v1 v2 ha3 ha4 hv1 hv2)
theorem kX3_warning (G : jw_G) (t : Nat) (a1 : Nat) (a2 : Nat) (a3 : Int) (a4 : Int) (ha3 : jw_r a3) (ha4 : jw_r a4) (M : jw_M) : jw_Ct G YX3_warning (some .int) 2 0 0 true (fun v => (v, M)) yX3_warning [jR G t, jR G a1, jR G a2, jI a3, jI a4] M (fX3_warning t a1 a2 a3 a4 M) := jw_met (by decide) rfl rfl rfl (Nat.le_of_ble_eq_true rfl) (rX3_warning G t a1 a2 a3 a4 ha3 ha4 M)
abbrev YX10_foldOf : jw_Y := (RX10, cX10_foldOf, 2, 1, "foldOf")
theorem qX10_foldOf : jw_cy YX10_foldOf (some .int) yX10_foldOf 1 := ⟨by decide, jt_764, jt_7, by decide, by decide +kernel⟩
theorem dX10_foldOf_0 : decode cX10_foldOf 0 = .ok (.aload_n 0, 1) := by decide +kernel
theorem dX10_foldOf_1 : decode cX10_foldOf 1 = .ok (.getfield 9, 3) := by decide +kernel
theorem dX10_foldOf_4 : decode cX10_foldOf 4 = .ok (.aload_n 0, 1) := by decide +kernel
theorem dX10_foldOf_5 : decode cX10_foldOf 5 = .ok (.getfield 21, 3) := by decide +kernel
theorem dX10_foldOf_8 : decode cX10_foldOf 8 = .ok (.iload_n 1, 1) := by decide +kernel
theorem dX10_foldOf_9 : decode cX10_foldOf 9 = .ok (.iaload, 1) := by decide +kernel
theorem dX10_foldOf_10 : decode cX10_foldOf 10 = .ok (.iaload, 1) := by decide +kernel
theorem dX10_foldOf_11 : decode cX10_foldOf 11 = .ok (.ireturn, 1) := by decide +kernel
def fX10_foldOf (t : Nat) (a1 : Int) (M : jw_M) : Option Int :=
  if jw_tag t = 10 then (if 0 ≤ a1 ∧ a1 < 5 then if 0 ≤ M (t + 4) a1 ∧ M (t + 4) a1 < 4 then some (M (t + 1) (M (t + 4) a1)) else none else none) else none
set_option maxRecDepth 100000 in
theorem rX10_foldOf (G : jw_G) (t : Nat) (a1 : Int) (ha1 : jw_r a1) (M : jw_M) : jw_Rn G YX10_foldOf 1 0 0 true (fun v => (v, M)) 0 [(0, jR G t), (1, jI a1)] [] M (fX10_foldOf t a1 M) := by
  unfold fX10_foldOf
  refine jw_ck (fun ht => ?_)
  refine jw_aloadR (pc := 0) 0 dX10_foldOf_0 rfl ?_
  refine jw_getR (pc := 1) (j := 1) rfl dX10_foldOf_1 jv_10 ji_10 (Or.inl jt_148) ht (jn_10 ht) (by decide) (by decide) rfl (jf_10_1 ht).1 ?_
  refine jw_aloadR (pc := 4) 0 dX10_foldOf_4 rfl ?_
  refine jw_getR (pc := 5) (j := 5) rfl dX10_foldOf_5 jv_10 ji_10 (Or.inl jt_156) ht (jn_10 ht) (by decide) (by decide) rfl (jf_10_5 ht).1 ?_
  refine jw_iload_n (pc := 8) 1 dX10_foldOf_8 rfl ?_
  refine jw_iald (pc := 9) dX10_foldOf_9 (jf_10_5 ht).2.1 (jf_10_5 ht).2.2 (jw_ho (jf_10_5 ht).2.1 (by decide)) ha1 rfl (fun h1 => ?_)
  refine jw_iald (pc := 10) dX10_foldOf_10 (jf_10_1 ht).2.1 (jf_10_1 ht).2.2 (jw_ho (jf_10_1 ht).2.1 (by decide)) h1 rfl (fun h2 => ?_)
  exact jw_ret (pc := 11) (v := M (t + 1) (M (t + 4) a1)) dX10_foldOf_11 h2 rfl rfl
theorem kX10_foldOf (G : jw_G) (t : Nat) (a1 : Int) (ha1 : jw_r a1) (M : jw_M) : jw_Ct G YX10_foldOf (some .int) 1 0 0 true (fun v => (v, M)) yX10_foldOf [jR G t, jI a1] M (fX10_foldOf t a1 M) := jw_met (by decide) rfl rfl rfl (Nat.le_of_ble_eq_true rfl) (rX10_foldOf G t a1 ha1 M)
abbrev YX3_sparedBy : jw_Y := (RX3, cX3_sparedBy, 7, 1, "sparedBy")
theorem qX3_sparedBy : jw_cy YX3_sparedBy (some .int) yX3_sparedBy 4 := ⟨by decide, jt_825, jt_8, by decide, by decide +kernel⟩
theorem dX3_sparedBy_0 : decode cX3_sparedBy 0 = .ok (.aload_n 0, 1) := by decide +kernel
theorem dX3_sparedBy_1 : decode cX3_sparedBy 1 = .ok (.aload_n 1, 1) := by decide +kernel
theorem dX3_sparedBy_2 : decode cX3_sparedBy 2 = .ok (.aload_n 2, 1) := by decide +kernel
theorem dX3_sparedBy_3 : decode cX3_sparedBy 3 = .ok (.iload 4, 2) := by decide +kernel
theorem dX3_sparedBy_5 : decode cX3_sparedBy 5 = .ok (.iload_n 3, 1) := by decide +kernel
theorem dX3_sparedBy_6 : decode cX3_sparedBy 6 = .ok (.invokevirtual 59, 3) := by decide +kernel
theorem dX3_sparedBy_9 : decode cX3_sparedBy 9 = .ok (.istore 5, 2) := by decide +kernel
theorem dX3_sparedBy_11 : decode cX3_sparedBy 11 = .ok (.aload_n 0, 1) := by decide +kernel
theorem dX3_sparedBy_12 : decode cX3_sparedBy 12 = .ok (.getfield 18, 3) := by decide +kernel
theorem dX3_sparedBy_15 : decode cX3_sparedBy 15 = .ok (.iload 4, 2) := by decide +kernel
theorem dX3_sparedBy_17 : decode cX3_sparedBy 17 = .ok (.iaload, 1) := by decide +kernel
theorem dX3_sparedBy_18 : decode cX3_sparedBy 18 = .ok (.iload 5, 2) := by decide +kernel
theorem dX3_sparedBy_20 : decode cX3_sparedBy 20 = .ok (.aload_n 2, 1) := by decide +kernel
theorem dX3_sparedBy_21 : decode cX3_sparedBy 21 = .ok (.iload 4, 2) := by decide +kernel
theorem dX3_sparedBy_23 : decode cX3_sparedBy 23 = .ok (.invokevirtual 66, 3) := by decide +kernel
theorem dX3_sparedBy_26 : decode cX3_sparedBy 26 = .ok (.invokestatic 70, 3) := by decide +kernel
theorem dX3_sparedBy_29 : decode cX3_sparedBy 29 = .ok (.istore 6, 2) := by decide +kernel
theorem dX3_sparedBy_31 : decode cX3_sparedBy 31 = .ok (.iload 6, 2) := by decide +kernel
theorem dX3_sparedBy_33 : decode cX3_sparedBy 33 = .ok (.aload_n 2, 1) := by decide +kernel
theorem dX3_sparedBy_34 : decode cX3_sparedBy 34 = .ok (.iload 4, 2) := by decide +kernel
theorem dX3_sparedBy_36 : decode cX3_sparedBy 36 = .ok (.invokestatic 80, 3) := by decide +kernel
theorem dX3_sparedBy_39 : decode cX3_sparedBy 39 = .ok (.aload_n 0, 1) := by decide +kernel
theorem dX3_sparedBy_40 : decode cX3_sparedBy 40 = .ok (.getfield 21, 3) := by decide +kernel
theorem dX3_sparedBy_43 : decode cX3_sparedBy 43 = .ok (.iload 4, 2) := by decide +kernel
theorem dX3_sparedBy_45 : decode cX3_sparedBy 45 = .ok (.iaload, 1) := by decide +kernel
theorem dX3_sparedBy_46 : decode cX3_sparedBy 46 = .ok (.aload_n 2, 1) := by decide +kernel
theorem dX3_sparedBy_47 : decode cX3_sparedBy 47 = .ok (.iload 4, 2) := by decide +kernel
theorem dX3_sparedBy_49 : decode cX3_sparedBy 49 = .ok (.invokestatic 80, 3) := by decide +kernel
theorem dX3_sparedBy_52 : decode cX3_sparedBy 52 = .ok (.isub, 1) := by decide +kernel
theorem dX3_sparedBy_53 : decode cX3_sparedBy 53 = .ok (.ireturn, 1) := by decide +kernel
def fX3_sparedBy (t : Nat) (a1 : Nat) (a2 : Nat) (a3 : Int) (a4 : Int) (M : jw_M) : Option Int :=
  if jw_tag t = 3 then (if jw_tag a1 = 9 then (if jw_tag a2 = 10 then (Option.bind (fX3_warning t a1 a2 a4 a3 M) (fun v1 => Option.bind (some v1) (fun v2 => if 0 ≤ a4 ∧ a4 < 5 then Option.bind (fX10_foldOf a2 a4 M) (fun v4 => Option.bind (fX3_outcomeOf (M (t + 3) a4) v2 v4 M) (fun v5 => Option.bind (some v5) (fun v6 => Option.bind (fX3_lostIf v6 a2 a4 M) (fun v7 => if 0 ≤ a4 ∧ a4 < 5 then Option.bind (fX3_lostIf (M (t + 4) a4) a2 a4 M) (fun v9 => some (jw_w (v7 - v9))) else none)))) else none))) else none) else none) else none
set_option maxRecDepth 100000 in
theorem rX3_sparedBy (G : jw_G) (t : Nat) (a1 : Nat) (a2 : Nat) (a3 : Int) (a4 : Int) (ha3 : jw_r a3) (ha4 : jw_r a4) (M : jw_M) : jw_Rn G YX3_sparedBy 3 0 0 true (fun v => (v, M)) 0 [(0, jR G t), (1, jR G a1), (2, jR G a2), (3, jI a3), (4, jI a4)] [] M (fX3_sparedBy t a1 a2 a3 a4 M) := by
  unfold fX3_sparedBy
  refine jw_ck (fun ht => ?_)
  refine jw_ck (fun ha1 => ?_)
  refine jw_ck (fun ha2 => ?_)
  refine jw_aloadR (pc := 0) 0 dX3_sparedBy_0 rfl ?_
  refine jw_aloadR (pc := 1) 1 dX3_sparedBy_1 rfl ?_
  refine jw_aloadR (pc := 2) 2 dX3_sparedBy_2 rfl ?_
  refine jw_iload (pc := 3) 4 dX3_sparedBy_3 rfl ?_
  refine jw_iload_n (pc := 5) 3 dX3_sparedBy_5 rfl ?_
  refine jw_callVi (pc := 6) (As := [jR G a1, jR G a2, jI a4, jI a3]) (st := []) dX3_sparedBy_6 rfl (Nat.le_of_ble_eq_true rfl) qX3_warning jt_813 jt_815 jp_15 rfl rfl (Nat.le_of_ble_eq_true rfl) jv_3 rfl ht (jn_3 ht) (by decide) (jw_ho ht (by decide)) (kX3_warning G t a1 a2 a4 a3 ha4 ha3 M) (fun v1 hv1 => ?_)
  refine jw_istoreL (pc := 9) (lv' := (fun y => [(5, y), (0, jR G t), (1, jR G a1), (2, jR G a2), (3, jI a3), (4, jI a4)])) dX3_sparedBy_9 hv1 (by decide) (fun _ => rfl) (fun v2 hv2 => ?_)
  refine jw_aloadR (pc := 11) 1 dX3_sparedBy_11 rfl ?_
  refine jw_getR (pc := 12) (j := 4) rfl dX3_sparedBy_12 jv_3 ji_3 (Or.inl jt_204) ht (jn_3 ht) (by decide) (by decide) rfl (jf_3_4 ht).1 ?_
  refine jw_iload (pc := 15) 5 dX3_sparedBy_15 rfl ?_
  refine jw_iald (pc := 17) dX3_sparedBy_17 (jf_3_4 ht).2.1 (jf_3_4 ht).2.2 (jw_ho (jf_3_4 ht).2.1 (by decide)) ha4 rfl (fun h3 => ?_)
  refine jw_iload (pc := 18) 0 dX3_sparedBy_18 rfl ?_
  refine jw_aloadR (pc := 20) 3 dX3_sparedBy_20 rfl ?_
  refine jw_iload (pc := 21) 5 dX3_sparedBy_21 rfl ?_
  refine jw_callVi (pc := 23) (As := [jI a4]) (st := [jI v2, jI (M (t + 3) a4)]) dX3_sparedBy_23 rfl (Nat.le_of_ble_eq_true rfl) qX10_foldOf jt_818 jt_762 jt_763 rfl rfl (Nat.le_of_ble_eq_true rfl) jv_10 rfl ha2 (jn_10 ha2) (by decide) (jw_ho ha2 (by decide)) (kX10_foldOf G a2 a4 ha4 M) (fun v4 hv4 => ?_)
  refine jw_callSi (pc := 26) (As := [jI (M (t + 3) a4), jI v2, jI v4]) (st := []) dX3_sparedBy_26 rfl (Nat.le_of_ble_eq_true rfl) qX3_outcomeOf jt_819 jt_820 rfl rfl (Nat.le_of_ble_eq_true rfl) (kX3_outcomeOf G (M (t + 3) a4) v2 v4 h3 hv2 hv4 M) (fun v5 hv5 => ?_)
  refine jw_istoreL (pc := 29) (lv' := (fun y => [(6, y), (5, jI v2), (0, jR G t), (1, jR G a1), (2, jR G a2), (3, jI a3), (4, jI a4)])) dX3_sparedBy_29 hv5 (by decide) (fun _ => rfl) (fun v6 hv6 => ?_)
  refine jw_iload (pc := 31) 0 dX3_sparedBy_31 rfl ?_
  refine jw_aloadR (pc := 33) 4 dX3_sparedBy_33 rfl ?_
  refine jw_iload (pc := 34) 6 dX3_sparedBy_34 rfl ?_
  refine jw_callSi (pc := 36) (As := [jI v6, jR G a2, jI a4]) (st := []) dX3_sparedBy_36 rfl (Nat.le_of_ble_eq_true rfl) qX3_lostIf jt_826 jt_827 rfl rfl (Nat.le_of_ble_eq_true rfl) (kX3_lostIf G v6 a2 a4 hv6 ha4 M) (fun v7 hv7 => ?_)
  refine jw_aloadR (pc := 39) 2 dX3_sparedBy_39 rfl ?_
  refine jw_getR (pc := 40) (j := 5) rfl dX3_sparedBy_40 jv_3 ji_3 (Or.inl jt_206) ht (jn_3 ht) (by decide) (by decide) rfl (jf_3_5 ht).1 ?_
  refine jw_iload (pc := 43) 6 dX3_sparedBy_43 rfl ?_
  refine jw_iald (pc := 45) dX3_sparedBy_45 (jf_3_5 ht).2.1 (jf_3_5 ht).2.2 (jw_ho (jf_3_5 ht).2.1 (by decide)) ha4 rfl (fun h8 => ?_)
  refine jw_aloadR (pc := 46) 4 dX3_sparedBy_46 rfl ?_
  refine jw_iload (pc := 47) 6 dX3_sparedBy_47 rfl ?_
  refine jw_callSi (pc := 49) (As := [jI (M (t + 4) a4), jR G a2, jI a4]) (st := [jI v7]) dX3_sparedBy_49 rfl (Nat.le_of_ble_eq_true rfl) qX3_lostIf jt_826 jt_827 rfl rfl (Nat.le_of_ble_eq_true rfl) (kX3_lostIf G (M (t + 4) a4) a2 a4 h8 ha4 M) (fun v9 hv9 => ?_)
  refine jw_isub (pc := 52) dX3_sparedBy_52 ?_
  exact jw_ret (pc := 53) (v := jw_w (v7 - v9)) dX3_sparedBy_53 (jw_wr _) rfl rfl
theorem kX3_sparedBy (G : jw_G) (t : Nat) (a1 : Nat) (a2 : Nat) (a3 : Int) (a4 : Int) (ha3 : jw_r a3) (ha4 : jw_r a4) (M : jw_M) : jw_Ct G YX3_sparedBy (some .int) 3 0 0 true (fun v => (v, M)) yX3_sparedBy [jR G t, jR G a1, jR G a2, jI a3, jI a4] M (fX3_sparedBy t a1 a2 a3 a4 M) := jw_met (by decide) rfl rfl rfl (Nat.le_of_ble_eq_true rfl) (rX3_sparedBy G t a1 a2 a3 a4 ha3 ha4 M)
abbrev YX3_judge : jw_Y := (RX3, cX3_judge, 5, 0, "judge")
theorem qX3_judge : jw_cy YX3_judge none yX3_judge 2 := ⟨by decide, jt_812, jt_8, by decide, by decide +kernel⟩
theorem dX3_judge_0 : decode cX3_judge 0 = .ok (.iconst 0, 1) := by decide +kernel
theorem dX3_judge_1 : decode cX3_judge 1 = .ok (.istore_n 3, 1) := by decide +kernel
theorem dX3_judge_2 : decode cX3_judge 2 = .ok (.iload_n 3, 1) := by decide +kernel
theorem dX3_judge_3 : decode cX3_judge 3 = .ok (.aload_n 2, 1) := by decide +kernel
theorem dX3_judge_4 : decode cX3_judge 4 = .ok (.getfield 54, 3) := by decide +kernel
theorem dX3_judge_7 : decode cX3_judge 7 = .ok (.if_icmp .ge 104, 3) := by decide +kernel
theorem dX3_judge_10 : decode cX3_judge 10 = .ok (.aload_n 0, 1) := by decide +kernel
theorem dX3_judge_11 : decode cX3_judge 11 = .ok (.getfield 15, 3) := by decide +kernel
theorem dX3_judge_14 : decode cX3_judge 14 = .ok (.iload_n 3, 1) := by decide +kernel
theorem dX3_judge_15 : decode cX3_judge 15 = .ok (.aload_n 0, 1) := by decide +kernel
theorem dX3_judge_16 : decode cX3_judge 16 = .ok (.aload_n 1, 1) := by decide +kernel
theorem dX3_judge_17 : decode cX3_judge 17 = .ok (.aload_n 2, 1) := by decide +kernel
theorem dX3_judge_18 : decode cX3_judge 18 = .ok (.iload_n 3, 1) := by decide +kernel
theorem dX3_judge_19 : decode cX3_judge 19 = .ok (.iconst (-1), 1) := by decide +kernel
theorem dX3_judge_20 : decode cX3_judge 20 = .ok (.invokevirtual 59, 3) := by decide +kernel
theorem dX3_judge_23 : decode cX3_judge 23 = .ok (.iastore, 1) := by decide +kernel
theorem dX3_judge_24 : decode cX3_judge 24 = .ok (.aload_n 0, 1) := by decide +kernel
theorem dX3_judge_25 : decode cX3_judge 25 = .ok (.getfield 18, 3) := by decide +kernel
theorem dX3_judge_28 : decode cX3_judge 28 = .ok (.iload_n 3, 1) := by decide +kernel
theorem dX3_judge_29 : decode cX3_judge 29 = .ok (.aload_n 0, 1) := by decide +kernel
theorem dX3_judge_30 : decode cX3_judge 30 = .ok (.getfield 9, 3) := by decide +kernel
theorem dX3_judge_33 : decode cX3_judge 33 = .ok (.aload_n 2, 1) := by decide +kernel
theorem dX3_judge_34 : decode cX3_judge 34 = .ok (.getfield 63, 3) := by decide +kernel
theorem dX3_judge_37 : decode cX3_judge 37 = .ok (.iload_n 3, 1) := by decide +kernel
theorem dX3_judge_38 : decode cX3_judge 38 = .ok (.iaload, 1) := by decide +kernel
theorem dX3_judge_39 : decode cX3_judge 39 = .ok (.iaload, 1) := by decide +kernel
theorem dX3_judge_40 : decode cX3_judge 40 = .ok (.iastore, 1) := by decide +kernel
theorem dX3_judge_41 : decode cX3_judge 41 = .ok (.aload_n 0, 1) := by decide +kernel
theorem dX3_judge_42 : decode cX3_judge 42 = .ok (.getfield 21, 3) := by decide +kernel
theorem dX3_judge_45 : decode cX3_judge 45 = .ok (.iload_n 3, 1) := by decide +kernel
theorem dX3_judge_46 : decode cX3_judge 46 = .ok (.aload_n 0, 1) := by decide +kernel
theorem dX3_judge_47 : decode cX3_judge 47 = .ok (.getfield 18, 3) := by decide +kernel
theorem dX3_judge_50 : decode cX3_judge 50 = .ok (.iload_n 3, 1) := by decide +kernel
theorem dX3_judge_51 : decode cX3_judge 51 = .ok (.iaload, 1) := by decide +kernel
theorem dX3_judge_52 : decode cX3_judge 52 = .ok (.aload_n 0, 1) := by decide +kernel
theorem dX3_judge_53 : decode cX3_judge 53 = .ok (.getfield 15, 3) := by decide +kernel
theorem dX3_judge_56 : decode cX3_judge 56 = .ok (.iload_n 3, 1) := by decide +kernel
theorem dX3_judge_57 : decode cX3_judge 57 = .ok (.iaload, 1) := by decide +kernel
theorem dX3_judge_58 : decode cX3_judge 58 = .ok (.aload_n 2, 1) := by decide +kernel
theorem dX3_judge_59 : decode cX3_judge 59 = .ok (.iload_n 3, 1) := by decide +kernel
theorem dX3_judge_60 : decode cX3_judge 60 = .ok (.invokevirtual 66, 3) := by decide +kernel
theorem dX3_judge_63 : decode cX3_judge 63 = .ok (.invokestatic 70, 3) := by decide +kernel
theorem dX3_judge_66 : decode cX3_judge 66 = .ok (.iastore, 1) := by decide +kernel
theorem dX3_judge_67 : decode cX3_judge 67 = .ok (.iconst 0, 1) := by decide +kernel
theorem dX3_judge_68 : decode cX3_judge 68 = .ok (.istore 4, 2) := by decide +kernel
theorem dX3_judge_70 : decode cX3_judge 70 = .ok (.iload 4, 2) := by decide +kernel
theorem dX3_judge_72 : decode cX3_judge 72 = .ok (.aload_n 2, 1) := by decide +kernel
theorem dX3_judge_73 : decode cX3_judge 73 = .ok (.getfield 74, 3) := by decide +kernel
theorem dX3_judge_76 : decode cX3_judge 76 = .ok (.if_icmp .ge 29, 3) := by decide +kernel
theorem dX3_judge_79 : decode cX3_judge 79 = .ok (.aload_n 0, 1) := by decide +kernel
theorem dX3_judge_80 : decode cX3_judge 80 = .ok (.getfield 24, 3) := by decide +kernel
theorem dX3_judge_83 : decode cX3_judge 83 = .ok (.iload 4, 2) := by decide +kernel
theorem dX3_judge_85 : decode cX3_judge 85 = .ok (.iconst 5, 1) := by decide +kernel
theorem dX3_judge_86 : decode cX3_judge 86 = .ok (.imul, 1) := by decide +kernel
theorem dX3_judge_87 : decode cX3_judge 87 = .ok (.iload_n 3, 1) := by decide +kernel
theorem dX3_judge_88 : decode cX3_judge 88 = .ok (.iadd, 1) := by decide +kernel
theorem dX3_judge_89 : decode cX3_judge 89 = .ok (.aload_n 0, 1) := by decide +kernel
theorem dX3_judge_90 : decode cX3_judge 90 = .ok (.aload_n 1, 1) := by decide +kernel
theorem dX3_judge_91 : decode cX3_judge 91 = .ok (.aload_n 2, 1) := by decide +kernel
theorem dX3_judge_92 : decode cX3_judge 92 = .ok (.iload 4, 2) := by decide +kernel
theorem dX3_judge_94 : decode cX3_judge 94 = .ok (.iload_n 3, 1) := by decide +kernel
theorem dX3_judge_95 : decode cX3_judge 95 = .ok (.invokevirtual 77, 3) := by decide +kernel
theorem dX3_judge_98 : decode cX3_judge 98 = .ok (.iastore, 1) := by decide +kernel
theorem dX3_judge_99 : decode cX3_judge 99 = .ok (.iinc 4 1, 3) := by decide +kernel
theorem dX3_judge_102 : decode cX3_judge 102 = .ok (.goto (-32), 3) := by decide +kernel
theorem dX3_judge_105 : decode cX3_judge 105 = .ok (.iinc 3 1, 3) := by decide +kernel
theorem dX3_judge_108 : decode cX3_judge 108 = .ok (.goto (-106), 3) := by decide +kernel
theorem dX3_judge_111 : decode cX3_judge 111 = .ok (.return_, 1) := by decide +kernel
def fX3_judge_70 (t : Nat) (a1 : Nat) (a2 : Nat) (r2 : Int → jw_M → Option jw_M) : Nat → Int → Int → jw_M → Option jw_M
  | 0, _, _, _ => none
  | k + 1, x3, x4, M => if x4 < M a2 7 then (Option.bind (fX3_sparedBy t a1 a2 x4 x3 M) (fun v15 => if 0 ≤ jw_w ((jw_w (x4 * 5)) + x3) ∧ jw_w ((jw_w (x4 * 5)) + x3) < 20 then Option.bind (some (jw_up M (t + 5) (jw_w ((jw_w (x4 * 5)) + x3)) v15)) (fun M16 => Option.bind (some (jw_w (x4 + 1))) (fun v17 => fX3_judge_70 t a1 a2 r2 k x3 v17 M16)) else none)) else (Option.bind (some (jw_w (x3 + 1))) (fun v18 => r2 v18 M))
set_option maxRecDepth 100000 in
theorem pX3_judge_70 (G : jw_G) (t : Nat) (a1 : Nat) (a2 : Nat) (ht : jw_tag t = 3) (ha1 : jw_tag a1 = 9) (ha2 : jw_tag a2 = 10) (r2 : Int → jw_M → Option jw_M) (hr2 : ∀ (x3 : Int) (hx3 : jw_r x3) (M : jw_M), jw_Rn G YX3_judge 4 0 0 true (fun M1 => (0, M1)) 2 [(0, jR G t), (1, jR G a1), (2, jR G a2), (3, jI x3)] [] M (r2 x3 M)) : ∀ (k : Nat) (x3 : Int) (x4 : Int) (hx3 : jw_r x3) (hx4 : jw_r x4) (M : jw_M), jw_Rn G YX3_judge 4 0 0 true (fun M1 => (0, M1)) 70 [(0, jR G t), (1, jR G a1), (2, jR G a2), (3, jI x3), (4, jI x4)] [] M (fX3_judge_70 t a1 a2 r2 k x3 x4 M) := by
  intro k
  induction k with
  | zero =>
    intro x3 x4 hx3 hx4 M
    exact jw_none
  | succ k ih =>
    intro x3 x4 hx3 hx4 M
    rw [fX3_judge_70]
    refine jw_iload (pc := 70) 4 dX3_judge_70 rfl ?_
    refine jw_aloadR (pc := 72) 2 dX3_judge_72 rfl ?_
    refine jw_getI (pc := 73) (j := 7) rfl dX3_judge_73 jv_10 ji_10 (Or.inr ⟨_, jt_166⟩) ha2 (jn_10 ha2) (by decide) (by decide) (jw_ho ha2 (by decide)) (Or.inl rfl) rfl (fun h14 => ?_)
    refine jw_ic_ge (pc := 76) 105 dX3_judge_76 (by decide) hx4 h14 (fun _ => ?_) (fun _ => ?_)
    · refine jw_aloadR (pc := 79) 0 dX3_judge_79 rfl ?_
      refine jw_getR (pc := 80) (j := 6) rfl dX3_judge_80 jv_3 ji_3 (Or.inl jt_209) ht (jn_3 ht) (by decide) (by decide) rfl (jf_3_6 ht).1 ?_
      refine jw_iload (pc := 83) 4 dX3_judge_83 rfl ?_
      refine jw_iconst (pc := 85) dX3_judge_85 ?_
      refine jw_imul (pc := 86) dX3_judge_86 ?_
      refine jw_iload_n (pc := 87) 3 dX3_judge_87 rfl ?_
      refine jw_iadd (pc := 88) dX3_judge_88 ?_
      refine jw_aloadR (pc := 89) 0 dX3_judge_89 rfl ?_
      refine jw_aloadR (pc := 90) 1 dX3_judge_90 rfl ?_
      refine jw_aloadR (pc := 91) 2 dX3_judge_91 rfl ?_
      refine jw_iload (pc := 92) 4 dX3_judge_92 rfl ?_
      refine jw_iload_n (pc := 94) 3 dX3_judge_94 rfl ?_
      refine jw_callVi (pc := 95) (As := [jR G a1, jR G a2, jI x4, jI x3]) (st := [jI (jw_w ((jw_w (x4 * 5)) + x3)), jR G (t + 5)]) dX3_judge_95 rfl (Nat.le_of_ble_eq_true rfl) qX3_sparedBy jt_822 jt_824 jp_16 rfl rfl (Nat.le_of_ble_eq_true rfl) jv_3 rfl ht (jn_3 ht) (by decide) (jw_ho ht (by decide)) (kX3_sparedBy G t a1 a2 x4 x3 hx4 hx3 M) (fun v15 hv15 => ?_)
      refine jw_iast (pc := 98) dX3_judge_98 (jf_3_6 ht).2.1 (jf_3_6 ht).2.2 (jw_ho (jf_3_6 ht).2.1 (by decide)) (jw_wr _) hv15 rfl ?_
      refine jw_letM (fun M16 => ?_)
      refine jw_iincL (pc := 99) 4 (lv' := (fun y => [(4, y), (0, jR G t), (1, jR G a1), (2, jR G a2), (3, jI x3)])) dX3_judge_99 rfl (Nat.le_of_ble_eq_true rfl) (fun _ => rfl) (fun v17 hv17 => ?_)
      refine jw_goto (pc := 102) 70 dX3_judge_102 (by decide) ?_
      exact jw_few [1, 2, 3, 4, 0] rfl (ih x3 v17 hx3 hv17 M16)
    · refine jw_iincL (pc := 105) 3 (lv' := (fun y => [(3, y), (0, jR G t), (1, jR G a1), (2, jR G a2), (4, jI x4)])) dX3_judge_105 rfl (Nat.le_of_ble_eq_true rfl) (fun _ => rfl) (fun v18 hv18 => ?_)
      refine jw_goto (pc := 108) 2 dX3_judge_108 (by decide) ?_
      exact jw_few [1, 2, 3, 0] rfl (hr2 v18 hv18 M)
def fX3_judge_2 (t : Nat) (a1 : Nat) (a2 : Nat) : Nat → Int → jw_M → Option jw_M
  | 0, _, _ => none
  | k + 1, x3, M => if x3 < M a2 4 then (Option.bind (fX3_warning t a1 a2 x3 (-1) M) (fun v3 => if 0 ≤ x3 ∧ x3 < 5 then Option.bind (some (jw_up M (t + 2) x3 v3)) (fun M4 => if 0 ≤ x3 ∧ x3 < 5 then if 0 ≤ M4 (a2 + 5) x3 ∧ M4 (a2 + 5) x3 < 7 then if 0 ≤ x3 ∧ x3 < 5 then Option.bind (some (jw_up M4 (t + 3) x3 (M4 (t + 1) (M4 (a2 + 5) x3)))) (fun M7 => if 0 ≤ x3 ∧ x3 < 5 then if 0 ≤ x3 ∧ x3 < 5 then Option.bind (fX10_foldOf a2 x3 M7) (fun v10 => Option.bind (fX3_outcomeOf (M7 (t + 3) x3) (M7 (t + 2) x3) v10 M7) (fun v11 => if 0 ≤ x3 ∧ x3 < 5 then Option.bind (some (jw_up M7 (t + 4) x3 v11)) (fun M12 => Option.bind (some 0) (fun v13 => fX3_judge_70 t a1 a2 (fX3_judge_2 t a1 a2 k) jw_fu x3 v13 M12)) else none)) else none else none) else none else none else none) else none)) else (some M)
set_option maxRecDepth 100000 in
theorem pX3_judge_2 (G : jw_G) (t : Nat) (a1 : Nat) (a2 : Nat) (ht : jw_tag t = 3) (ha1 : jw_tag a1 = 9) (ha2 : jw_tag a2 = 10) : ∀ (k : Nat) (x3 : Int) (hx3 : jw_r x3) (M : jw_M), jw_Rn G YX3_judge 4 0 0 true (fun M1 => (0, M1)) 2 [(0, jR G t), (1, jR G a1), (2, jR G a2), (3, jI x3)] [] M (fX3_judge_2 t a1 a2 k x3 M) := by
  intro k
  induction k with
  | zero =>
    intro x3 hx3 M
    exact jw_none
  | succ k ih =>
    intro x3 hx3 M
    rw [fX3_judge_2]
    refine jw_iload_n (pc := 2) 3 dX3_judge_2 rfl ?_
    refine jw_aloadR (pc := 3) 2 dX3_judge_3 rfl ?_
    refine jw_getI (pc := 4) (j := 4) rfl dX3_judge_4 jv_10 ji_10 (Or.inr ⟨_, jt_154⟩) ha2 (jn_10 ha2) (by decide) (by decide) (jw_ho ha2 (by decide)) (Or.inl rfl) rfl (fun h2 => ?_)
    refine jw_ic_ge (pc := 7) 111 dX3_judge_7 (by decide) hx3 h2 (fun _ => ?_) (fun _ => ?_)
    · refine jw_aloadR (pc := 10) 0 dX3_judge_10 rfl ?_
      refine jw_getR (pc := 11) (j := 3) rfl dX3_judge_11 jv_3 ji_3 (Or.inl jt_202) ht (jn_3 ht) (by decide) (by decide) rfl (jf_3_3 ht).1 ?_
      refine jw_iload_n (pc := 14) 3 dX3_judge_14 rfl ?_
      refine jw_aloadR (pc := 15) 0 dX3_judge_15 rfl ?_
      refine jw_aloadR (pc := 16) 1 dX3_judge_16 rfl ?_
      refine jw_aloadR (pc := 17) 2 dX3_judge_17 rfl ?_
      refine jw_iload_n (pc := 18) 3 dX3_judge_18 rfl ?_
      refine jw_iconst (pc := 19) dX3_judge_19 ?_
      refine jw_callVi (pc := 20) (As := [jR G a1, jR G a2, jI x3, jI (-1)]) (st := [jI x3, jR G (t + 2)]) dX3_judge_20 rfl (Nat.le_of_ble_eq_true rfl) qX3_warning jt_813 jt_815 jp_15 rfl rfl (Nat.le_of_ble_eq_true rfl) jv_3 rfl ht (jn_3 ht) (by decide) (jw_ho ht (by decide)) (kX3_warning G t a1 a2 x3 (-1) hx3 (jw_rc _ rfl) M) (fun v3 hv3 => ?_)
      refine jw_iast (pc := 23) dX3_judge_23 (jf_3_3 ht).2.1 (jf_3_3 ht).2.2 (jw_ho (jf_3_3 ht).2.1 (by decide)) hx3 hv3 rfl ?_
      refine jw_letM (fun M4 => ?_)
      refine jw_aloadR (pc := 24) 0 dX3_judge_24 rfl ?_
      refine jw_getR (pc := 25) (j := 4) rfl dX3_judge_25 jv_3 ji_3 (Or.inl jt_204) ht (jn_3 ht) (by decide) (by decide) rfl (jf_3_4 ht).1 ?_
      refine jw_iload_n (pc := 28) 3 dX3_judge_28 rfl ?_
      refine jw_aloadR (pc := 29) 0 dX3_judge_29 rfl ?_
      refine jw_getR (pc := 30) (j := 2) rfl dX3_judge_30 jv_3 ji_3 (Or.inl jt_201) ht (jn_3 ht) (by decide) (by decide) rfl (jf_3_2 ht).1 ?_
      refine jw_aloadR (pc := 33) 2 dX3_judge_33 rfl ?_
      refine jw_getR (pc := 34) (j := 6) rfl dX3_judge_34 jv_10 ji_10 (Or.inr ⟨_, jt_163⟩) ha2 (jn_10 ha2) (by decide) (by decide) rfl (jf_10_6 ha2).1 ?_
      refine jw_iload_n (pc := 37) 3 dX3_judge_37 rfl ?_
      refine jw_iald (pc := 38) dX3_judge_38 (jf_10_6 ha2).2.1 (jf_10_6 ha2).2.2 (jw_ho (jf_10_6 ha2).2.1 (by decide)) hx3 rfl (fun h5 => ?_)
      refine jw_iald (pc := 39) dX3_judge_39 (jf_3_2 ht).2.1 (jf_3_2 ht).2.2 (jw_ho (jf_3_2 ht).2.1 (by decide)) h5 rfl (fun h6 => ?_)
      refine jw_iast (pc := 40) dX3_judge_40 (jf_3_4 ht).2.1 (jf_3_4 ht).2.2 (jw_ho (jf_3_4 ht).2.1 (by decide)) hx3 h6 rfl ?_
      refine jw_letM (fun M7 => ?_)
      refine jw_aloadR (pc := 41) 0 dX3_judge_41 rfl ?_
      refine jw_getR (pc := 42) (j := 5) rfl dX3_judge_42 jv_3 ji_3 (Or.inl jt_206) ht (jn_3 ht) (by decide) (by decide) rfl (jf_3_5 ht).1 ?_
      refine jw_iload_n (pc := 45) 3 dX3_judge_45 rfl ?_
      refine jw_aloadR (pc := 46) 0 dX3_judge_46 rfl ?_
      refine jw_getR (pc := 47) (j := 4) rfl dX3_judge_47 jv_3 ji_3 (Or.inl jt_204) ht (jn_3 ht) (by decide) (by decide) rfl (jf_3_4 ht).1 ?_
      refine jw_iload_n (pc := 50) 3 dX3_judge_50 rfl ?_
      refine jw_iald (pc := 51) dX3_judge_51 (jf_3_4 ht).2.1 (jf_3_4 ht).2.2 (jw_ho (jf_3_4 ht).2.1 (by decide)) hx3 rfl (fun h8 => ?_)
      refine jw_aloadR (pc := 52) 0 dX3_judge_52 rfl ?_
      refine jw_getR (pc := 53) (j := 3) rfl dX3_judge_53 jv_3 ji_3 (Or.inl jt_202) ht (jn_3 ht) (by decide) (by decide) rfl (jf_3_3 ht).1 ?_
      refine jw_iload_n (pc := 56) 3 dX3_judge_56 rfl ?_
      refine jw_iald (pc := 57) dX3_judge_57 (jf_3_3 ht).2.1 (jf_3_3 ht).2.2 (jw_ho (jf_3_3 ht).2.1 (by decide)) hx3 rfl (fun h9 => ?_)
      refine jw_aloadR (pc := 58) 2 dX3_judge_58 rfl ?_
      refine jw_iload_n (pc := 59) 3 dX3_judge_59 rfl ?_
      refine jw_callVi (pc := 60) (As := [jI x3]) (st := [jI (M7 (t + 2) x3), jI (M7 (t + 3) x3), jI x3, jR G (t + 4)]) dX3_judge_60 rfl (Nat.le_of_ble_eq_true rfl) qX10_foldOf jt_818 jt_762 jt_763 rfl rfl (Nat.le_of_ble_eq_true rfl) jv_10 rfl ha2 (jn_10 ha2) (by decide) (jw_ho ha2 (by decide)) (kX10_foldOf G a2 x3 hx3 M7) (fun v10 hv10 => ?_)
      refine jw_callSi (pc := 63) (As := [jI (M7 (t + 3) x3), jI (M7 (t + 2) x3), jI v10]) (st := [jI x3, jR G (t + 4)]) dX3_judge_63 rfl (Nat.le_of_ble_eq_true rfl) qX3_outcomeOf jt_819 jt_820 rfl rfl (Nat.le_of_ble_eq_true rfl) (kX3_outcomeOf G (M7 (t + 3) x3) (M7 (t + 2) x3) v10 h8 h9 hv10 M7) (fun v11 hv11 => ?_)
      refine jw_iast (pc := 66) dX3_judge_66 (jf_3_5 ht).2.1 (jf_3_5 ht).2.2 (jw_ho (jf_3_5 ht).2.1 (by decide)) hx3 hv11 rfl ?_
      refine jw_letM (fun M12 => ?_)
      refine jw_iconst (pc := 67) dX3_judge_67 ?_
      refine jw_istoreL (pc := 68) (lv' := (fun y => [(4, y), (0, jR G t), (1, jR G a1), (2, jR G a2), (3, jI x3)])) dX3_judge_68 (jw_rc _ rfl) (by decide) (fun _ => rfl) (fun v13 hv13 => ?_)
      exact jw_few [1, 2, 3, 4, 0] rfl (pX3_judge_70 G t a1 a2 ht ha1 ha2 (fX3_judge_2 t a1 a2 k) ih jw_fu x3 v13 hx3 hv13 M12)
    · exact jw_ret (pc := 111) (v := 0) dX3_judge_111 trivial rfl rfl
def fX3_judge (t : Nat) (a1 : Nat) (a2 : Nat) (M : jw_M) : Option jw_M :=
  if jw_tag t = 3 then (if jw_tag a1 = 9 then (if jw_tag a2 = 10 then (Option.bind (some 0) (fun v1 => fX3_judge_2 t a1 a2 jw_fu v1 M)) else none) else none) else none
set_option maxRecDepth 100000 in
theorem rX3_judge (G : jw_G) (t : Nat) (a1 : Nat) (a2 : Nat) (M : jw_M) : jw_Rn G YX3_judge 4 0 0 true (fun M1 => (0, M1)) 0 [(0, jR G t), (1, jR G a1), (2, jR G a2)] [] M (fX3_judge t a1 a2 M) := by
  unfold fX3_judge
  refine jw_ck (fun ht => ?_)
  refine jw_ck (fun ha1 => ?_)
  refine jw_ck (fun ha2 => ?_)
  refine jw_iconst (pc := 0) dX3_judge_0 ?_
  refine jw_istore_nL (pc := 1) (lv' := (fun y => [(3, y), (0, jR G t), (1, jR G a1), (2, jR G a2)])) dX3_judge_1 (jw_rc _ rfl) (by decide) (fun _ => rfl) (fun v1 hv1 => ?_)
  exact jw_few [1, 2, 3, 0] rfl (pX3_judge_2 G t a1 a2 ht ha1 ha2 jw_fu v1 hv1 M)
theorem kX3_judge (G : jw_G) (t : Nat) (a1 : Nat) (a2 : Nat) (M : jw_M) : jw_Ct G YX3_judge none 4 0 0 true (fun M1 => (0, M1)) yX3_judge [jR G t, jR G a1, jR G a2] M (fX3_judge t a1 a2 M) := jw_met (by decide) rfl rfl rfl (Nat.le_of_ble_eq_true rfl) (rX3_judge G t a1 a2 M)
abbrev YX3_caughtBits : jw_Y := (RX3, cX3_caughtBits, 4, 1, "caughtBits")
theorem qX3_caughtBits : jw_cy YX3_caughtBits (some .int) yX3_caughtBits 1 := ⟨by decide, jt_836, jt_8, by decide, by decide +kernel⟩
theorem dX3_caughtBits_0 : decode cX3_caughtBits 0 = .ok (.iconst 0, 1) := by decide +kernel
theorem dX3_caughtBits_1 : decode cX3_caughtBits 1 = .ok (.istore_n 2, 1) := by decide +kernel
theorem dX3_caughtBits_2 : decode cX3_caughtBits 2 = .ok (.iconst 0, 1) := by decide +kernel
theorem dX3_caughtBits_3 : decode cX3_caughtBits 3 = .ok (.istore_n 3, 1) := by decide +kernel
theorem dX3_caughtBits_4 : decode cX3_caughtBits 4 = .ok (.iload_n 3, 1) := by decide +kernel
theorem dX3_caughtBits_5 : decode cX3_caughtBits 5 = .ok (.iload_n 1, 1) := by decide +kernel
theorem dX3_caughtBits_6 : decode cX3_caughtBits 6 = .ok (.if_icmp .ge 25, 3) := by decide +kernel
theorem dX3_caughtBits_9 : decode cX3_caughtBits 9 = .ok (.aload_n 0, 1) := by decide +kernel
theorem dX3_caughtBits_10 : decode cX3_caughtBits 10 = .ok (.getfield 21, 3) := by decide +kernel
theorem dX3_caughtBits_13 : decode cX3_caughtBits 13 = .ok (.iload_n 3, 1) := by decide +kernel
theorem dX3_caughtBits_14 : decode cX3_caughtBits 14 = .ok (.iaload, 1) := by decide +kernel
theorem dX3_caughtBits_15 : decode cX3_caughtBits 15 = .ok (.iconst 2, 1) := by decide +kernel
theorem dX3_caughtBits_16 : decode cX3_caughtBits 16 = .ok (.if_icmp .ne 9, 3) := by decide +kernel
theorem dX3_caughtBits_19 : decode cX3_caughtBits 19 = .ok (.iload_n 2, 1) := by decide +kernel
theorem dX3_caughtBits_20 : decode cX3_caughtBits 20 = .ok (.iconst 1, 1) := by decide +kernel
theorem dX3_caughtBits_21 : decode cX3_caughtBits 21 = .ok (.iload_n 3, 1) := by decide +kernel
theorem dX3_caughtBits_22 : decode cX3_caughtBits 22 = .ok (.ishl, 1) := by decide +kernel
theorem dX3_caughtBits_23 : decode cX3_caughtBits 23 = .ok (.ior, 1) := by decide +kernel
theorem dX3_caughtBits_24 : decode cX3_caughtBits 24 = .ok (.istore_n 2, 1) := by decide +kernel
theorem dX3_caughtBits_25 : decode cX3_caughtBits 25 = .ok (.iinc 3 1, 3) := by decide +kernel
theorem dX3_caughtBits_28 : decode cX3_caughtBits 28 = .ok (.goto (-24), 3) := by decide +kernel
theorem dX3_caughtBits_31 : decode cX3_caughtBits 31 = .ok (.iload_n 2, 1) := by decide +kernel
theorem dX3_caughtBits_32 : decode cX3_caughtBits 32 = .ok (.ireturn, 1) := by decide +kernel
def fX3_caughtBits_25 (t : Nat) (M : jw_M) (r4 : Int → Int → Int → Option Int) (x1 : Int) (x2 : Int) (x3 : Int) : Option Int :=
  Option.bind (some (jw_w (x3 + 1))) (fun v5 => r4 x1 x2 v5)
set_option maxRecDepth 100000 in
theorem pX3_caughtBits_25 (G : jw_G) (t : Nat) (ht : jw_tag t = 3) (M : jw_M) (r4 : Int → Int → Int → Option Int) (hr4 : ∀ (x1 : Int) (x2 : Int) (x3 : Int) (hx1 : jw_r x1) (hx2 : jw_r x2) (hx3 : jw_r x3), jw_Rn G YX3_caughtBits 1 0 0 true (fun v => (v, M)) 4 [(0, jR G t), (1, jI x1), (2, jI x2), (3, jI x3)] [] M (r4 x1 x2 x3)) : ∀ (x1 : Int) (x2 : Int) (x3 : Int) (hx1 : jw_r x1) (hx2 : jw_r x2) (hx3 : jw_r x3), jw_Rn G YX3_caughtBits 1 0 0 true (fun v => (v, M)) 25 [(0, jR G t), (1, jI x1), (2, jI x2), (3, jI x3)] [] M (fX3_caughtBits_25 t M r4 x1 x2 x3) := by
  intro x1 x2 x3 hx1 hx2 hx3
  unfold fX3_caughtBits_25
  refine jw_iincL (pc := 25) 3 (lv' := (fun y => [(3, y), (0, jR G t), (1, jI x1), (2, jI x2)])) dX3_caughtBits_25 rfl (Nat.le_of_ble_eq_true rfl) (fun _ => rfl) (fun v5 hv5 => ?_)
  refine jw_goto (pc := 28) 4 dX3_caughtBits_28 (by decide) ?_
  exact jw_few [1, 2, 3, 0] rfl (hr4 x1 x2 v5 hx1 hx2 hv5)
def fX3_caughtBits_4 (t : Nat) (M : jw_M) : Nat → Int → Int → Int → Option Int
  | 0, _, _, _ => none
  | k + 1, x1, x2, x3 => if x3 < x1 then (if 0 ≤ x3 ∧ x3 < 5 then if M (t + 4) x3 = 2 then (Option.bind (some (jw_ior x2 (jw_ishl 1 x3))) (fun v4 => fX3_caughtBits_25 t M (fX3_caughtBits_4 t M k) x1 v4 x3)) else (fX3_caughtBits_25 t M (fX3_caughtBits_4 t M k) x1 x2 x3) else none) else (some x2)
set_option maxRecDepth 100000 in
theorem pX3_caughtBits_4 (G : jw_G) (t : Nat) (ht : jw_tag t = 3) (M : jw_M) : ∀ (k : Nat) (x1 : Int) (x2 : Int) (x3 : Int) (hx1 : jw_r x1) (hx2 : jw_r x2) (hx3 : jw_r x3), jw_Rn G YX3_caughtBits 1 0 0 true (fun v => (v, M)) 4 [(0, jR G t), (1, jI x1), (2, jI x2), (3, jI x3)] [] M (fX3_caughtBits_4 t M k x1 x2 x3) := by
  intro k
  induction k with
  | zero =>
    intro x1 x2 x3 hx1 hx2 hx3
    exact jw_none
  | succ k ih =>
    intro x1 x2 x3 hx1 hx2 hx3
    rw [fX3_caughtBits_4]
    refine jw_iload_n (pc := 4) 3 dX3_caughtBits_4 rfl ?_
    refine jw_iload_n (pc := 5) 1 dX3_caughtBits_5 rfl ?_
    refine jw_ic_ge (pc := 6) 31 dX3_caughtBits_6 (by decide) hx3 hx1 (fun _ => ?_) (fun _ => ?_)
    · refine jw_aloadR (pc := 9) 0 dX3_caughtBits_9 rfl ?_
      refine jw_getR (pc := 10) (j := 5) rfl dX3_caughtBits_10 jv_3 ji_3 (Or.inl jt_206) ht (jn_3 ht) (by decide) (by decide) rfl (jf_3_5 ht).1 ?_
      refine jw_iload_n (pc := 13) 3 dX3_caughtBits_13 rfl ?_
      refine jw_iald (pc := 14) dX3_caughtBits_14 (jf_3_5 ht).2.1 (jf_3_5 ht).2.2 (jw_ho (jf_3_5 ht).2.1 (by decide)) hx3 rfl (fun h3 => ?_)
      refine jw_iconst (pc := 15) dX3_caughtBits_15 ?_
      refine jw_ic_ne (pc := 16) 25 dX3_caughtBits_16 (by decide) h3 (jw_rc _ rfl) (fun _ => ?_) (fun _ => ?_)
      · refine jw_iload_n (pc := 19) 2 dX3_caughtBits_19 rfl ?_
        refine jw_iconst (pc := 20) dX3_caughtBits_20 ?_
        refine jw_iload_n (pc := 21) 3 dX3_caughtBits_21 rfl ?_
        refine jw_ishlr (pc := 22) dX3_caughtBits_22 ?_
        refine jw_iorr (pc := 23) dX3_caughtBits_23 ?_
        refine jw_istore_nL (pc := 24) (lv' := (fun y => [(2, y), (0, jR G t), (1, jI x1), (3, jI x3)])) dX3_caughtBits_24 (jw_rI _) (by decide) (fun _ => rfl) (fun v4 hv4 => ?_)
        exact jw_few [1, 2, 0, 3] rfl (pX3_caughtBits_25 G t ht M (fX3_caughtBits_4 t M k) ih x1 v4 x3 hx1 hv4 hx3)
      · exact jw_few [0, 1, 2, 3] rfl (pX3_caughtBits_25 G t ht M (fX3_caughtBits_4 t M k) ih x1 x2 x3 hx1 hx2 hx3)
    · refine jw_iload_n (pc := 31) 2 dX3_caughtBits_31 rfl ?_
      exact jw_ret (pc := 32) (v := x2) dX3_caughtBits_32 hx2 rfl rfl
def fX3_caughtBits (t : Nat) (a1 : Int) (M : jw_M) : Option Int :=
  if jw_tag t = 3 then (Option.bind (some 0) (fun v1 => Option.bind (some 0) (fun v2 => fX3_caughtBits_4 t M jw_fu a1 v1 v2))) else none
set_option maxRecDepth 100000 in
theorem rX3_caughtBits (G : jw_G) (t : Nat) (a1 : Int) (ha1 : jw_r a1) (M : jw_M) : jw_Rn G YX3_caughtBits 1 0 0 true (fun v => (v, M)) 0 [(0, jR G t), (1, jI a1)] [] M (fX3_caughtBits t a1 M) := by
  unfold fX3_caughtBits
  refine jw_ck (fun ht => ?_)
  refine jw_iconst (pc := 0) dX3_caughtBits_0 ?_
  refine jw_istore_nL (pc := 1) (lv' := (fun y => [(2, y), (0, jR G t), (1, jI a1)])) dX3_caughtBits_1 (jw_rc _ rfl) (by decide) (fun _ => rfl) (fun v1 hv1 => ?_)
  refine jw_iconst (pc := 2) dX3_caughtBits_2 ?_
  refine jw_istore_nL (pc := 3) (lv' := (fun y => [(3, y), (2, jI v1), (0, jR G t), (1, jI a1)])) dX3_caughtBits_3 (jw_rc _ rfl) (by decide) (fun _ => rfl) (fun v2 hv2 => ?_)
  exact jw_few [2, 3, 1, 0] rfl (pX3_caughtBits_4 G t ht M jw_fu a1 v1 v2 ha1 hv1 hv2)
theorem kX3_caughtBits (G : jw_G) (t : Nat) (a1 : Int) (ha1 : jw_r a1) (M : jw_M) : jw_Ct G YX3_caughtBits (some .int) 1 0 0 true (fun v => (v, M)) yX3_caughtBits [jR G t, jI a1] M (fX3_caughtBits t a1 M) := jw_met (by decide) rfl rfl rfl (Nat.le_of_ble_eq_true rfl) (rX3_caughtBits G t a1 ha1 M)
abbrev YX10_clear : jw_Y := (RX10, cX10_clear, 1, 0, "clear")
theorem qX10_clear : jw_cy YX10_clear none yX10_clear 0 := ⟨by decide, jt_513, jt_7, by decide, by decide +kernel⟩
theorem dX10_clear_0 : decode cX10_clear 0 = .ok (.aload_n 0, 1) := by decide +kernel
theorem dX10_clear_1 : decode cX10_clear 1 = .ok (.iconst 0, 1) := by decide +kernel
theorem dX10_clear_2 : decode cX10_clear 2 = .ok (.putfield 30, 3) := by decide +kernel
theorem dX10_clear_5 : decode cX10_clear 5 = .ok (.aload_n 0, 1) := by decide +kernel
theorem dX10_clear_6 : decode cX10_clear 6 = .ok (.iconst 0, 1) := by decide +kernel
theorem dX10_clear_7 : decode cX10_clear 7 = .ok (.putfield 34, 3) := by decide +kernel
theorem dX10_clear_10 : decode cX10_clear 10 = .ok (.aload_n 0, 1) := by decide +kernel
theorem dX10_clear_11 : decode cX10_clear 11 = .ok (.iconst 0, 1) := by decide +kernel
theorem dX10_clear_12 : decode cX10_clear 12 = .ok (.putfield 37, 3) := by decide +kernel
theorem dX10_clear_15 : decode cX10_clear 15 = .ok (.return_, 1) := by decide +kernel
def fX10_clear (t : Nat) (M : jw_M) : Option jw_M :=
  if jw_tag t = 10 then (Option.bind (some (jw_up M t 0 0)) (fun M1 => Option.bind (some (jw_up M1 t 4 0)) (fun M2 => Option.bind (some (jw_up M2 t 7 0)) (fun M3 => some M3)))) else none
set_option maxRecDepth 100000 in
theorem rX10_clear (G : jw_G) (t : Nat) (M : jw_M) : jw_Rn G YX10_clear 1 0 0 true (fun M1 => (0, M1)) 0 [(0, jR G t)] [] M (fX10_clear t M) := by
  unfold fX10_clear
  refine jw_ck (fun ht => ?_)
  refine jw_aloadR (pc := 0) 0 dX10_clear_0 rfl ?_
  refine jw_iconst (pc := 1) dX10_clear_1 ?_
  refine jw_putI (pc := 2) (j := 0) tyX10 rfl dX10_clear_2 jv_10 ji_10 tyX10_ok nmX10 (Or.inl jt_146) rfl ht (jn_10 ht) (by decide) (by decide) (jw_ho ht (by decide)) rfl rfl (jw_rc _ rfl) rfl ?_
  refine jw_letM (fun M1 => ?_)
  refine jw_aloadR (pc := 5) 0 dX10_clear_5 rfl ?_
  refine jw_iconst (pc := 6) dX10_clear_6 ?_
  refine jw_putI (pc := 7) (j := 4) tyX10 rfl dX10_clear_7 jv_10 ji_10 tyX10_ok nmX10 (Or.inl jt_152) rfl ht (jn_10 ht) (by decide) (by decide) (jw_ho ht (by decide)) rfl rfl (jw_rc _ rfl) rfl ?_
  refine jw_letM (fun M2 => ?_)
  refine jw_aloadR (pc := 10) 0 dX10_clear_10 rfl ?_
  refine jw_iconst (pc := 11) dX10_clear_11 ?_
  refine jw_putI (pc := 12) (j := 7) tyX10 rfl dX10_clear_12 jv_10 ji_10 tyX10_ok nmX10 (Or.inl jt_165) rfl ht (jn_10 ht) (by decide) (by decide) (jw_ho ht (by decide)) rfl rfl (jw_rc _ rfl) rfl ?_
  refine jw_letM (fun M3 => ?_)
  exact jw_ret (pc := 15) (v := 0) dX10_clear_15 trivial rfl rfl
theorem kX10_clear (G : jw_G) (t : Nat) (M : jw_M) : jw_Ct G YX10_clear none 1 0 0 true (fun M1 => (0, M1)) yX10_clear [jR G t] M (fX10_clear t M) := jw_met (by decide) rfl rfl rfl (Nat.le_of_ble_eq_true rfl) (rX10_clear G t M)
abbrev YX7_clear : jw_Y := (RX7, cX7_clear, 1, 0, "clear")
theorem qX7_clear : jw_cy YX7_clear none yX7_clear 0 := ⟨by decide, jt_500, jt_5, by decide, by decide +kernel⟩
theorem dX7_clear_0 : decode cX7_clear 0 = .ok (.aload_n 0, 1) := by decide +kernel
theorem dX7_clear_1 : decode cX7_clear 1 = .ok (.iconst 0, 1) := by decide +kernel
theorem dX7_clear_2 : decode cX7_clear 2 = .ok (.putfield 7, 3) := by decide +kernel
theorem dX7_clear_5 : decode cX7_clear 5 = .ok (.aload_n 0, 1) := by decide +kernel
theorem dX7_clear_6 : decode cX7_clear 6 = .ok (.getfield 16, 3) := by decide +kernel
theorem dX7_clear_9 : decode cX7_clear 9 = .ok (.invokevirtual 48, 3) := by decide +kernel
theorem dX7_clear_12 : decode cX7_clear 12 = .ok (.aload_n 0, 1) := by decide +kernel
theorem dX7_clear_13 : decode cX7_clear 13 = .ok (.getfield 23, 3) := by decide +kernel
theorem dX7_clear_16 : decode cX7_clear 16 = .ok (.invokevirtual 51, 3) := by decide +kernel
theorem dX7_clear_19 : decode cX7_clear 19 = .ok (.aload_n 0, 1) := by decide +kernel
theorem dX7_clear_20 : decode cX7_clear 20 = .ok (.getfield 30, 3) := by decide +kernel
theorem dX7_clear_23 : decode cX7_clear 23 = .ok (.iconst 0, 1) := by decide +kernel
theorem dX7_clear_24 : decode cX7_clear 24 = .ok (.invokevirtual 52, 3) := by decide +kernel
theorem dX7_clear_27 : decode cX7_clear 27 = .ok (.aload_n 0, 1) := by decide +kernel
theorem dX7_clear_28 : decode cX7_clear 28 = .ok (.getfield 37, 3) := by decide +kernel
theorem dX7_clear_31 : decode cX7_clear 31 = .ok (.invokevirtual 56, 3) := by decide +kernel
theorem dX7_clear_34 : decode cX7_clear 34 = .ok (.aload_n 0, 1) := by decide +kernel
theorem dX7_clear_35 : decode cX7_clear 35 = .ok (.getfield 44, 3) := by decide +kernel
theorem dX7_clear_38 : decode cX7_clear 38 = .ok (.invokevirtual 57, 3) := by decide +kernel
theorem dX7_clear_41 : decode cX7_clear 41 = .ok (.return_, 1) := by decide +kernel
def fX7_clear (t : Nat) (M : jw_M) : Option jw_M :=
  if jw_tag t = 7 then (Option.bind (some (jw_up M t 0 0)) (fun M1 => Option.bind (fX9_clear (t + 1) M1) (fun M2 => Option.bind (fX10_clear (t + 8) M2) (fun M3 => Option.bind (fX3_begin (t + 15) 0 M3) (fun M4 => Option.bind (fX1_clear (t + 21) M4) (fun M5 => Option.bind (fX2_clear (t + 24) M5) (fun M6 => some M6))))))) else none
set_option maxRecDepth 100000 in
theorem rX7_clear (G : jw_G) (t : Nat) (M : jw_M) : jw_Rn G YX7_clear 3 0 0 true (fun M1 => (0, M1)) 0 [(0, jR G t)] [] M (fX7_clear t M) := by
  unfold fX7_clear
  refine jw_ck (fun ht => ?_)
  refine jw_aloadR (pc := 0) 0 dX7_clear_0 rfl ?_
  refine jw_iconst (pc := 1) dX7_clear_1 ?_
  refine jw_putZ (pc := 2) (j := 0) tyX7 rfl dX7_clear_2 jv_7 ji_7 tyX7_ok nmX7 (Or.inl jt_256) rfl ht (jn_7 ht) (by decide) (by decide) (jw_ho ht (by decide)) rfl rfl (Or.inl rfl) rfl ?_
  refine jw_letM (fun M1 => ?_)
  refine jw_aloadR (pc := 5) 0 dX7_clear_5 rfl ?_
  refine jw_getR (pc := 6) (j := 1) rfl dX7_clear_6 jv_7 ji_7 (Or.inl jt_260) ht (jn_7 ht) (by decide) (by decide) rfl (jf_7_1 ht).1 ?_
  refine jw_callVM (pc := 9) (As := []) (st := []) dX7_clear_9 rfl (Nat.le_of_ble_eq_true rfl) qX9_clear jt_501 jt_502 jt_503 rfl rfl (Nat.le_of_ble_eq_true rfl) jv_9 rfl (jf_7_1 ht).2.1 (jf_7_1 ht).2.2 (by decide) (jw_ho (jf_7_1 ht).2.1 (by decide)) (kX9_clear G (t + 1) M1) (fun M2 => ?_)
  refine jw_aloadR (pc := 12) 0 dX7_clear_12 rfl ?_
  refine jw_getR (pc := 13) (j := 2) rfl dX7_clear_13 jv_7 ji_7 (Or.inl jt_266) ht (jn_7 ht) (by decide) (by decide) rfl (jf_7_2 ht).1 ?_
  refine jw_callVM (pc := 16) (As := []) (st := []) dX7_clear_16 rfl (Nat.le_of_ble_eq_true rfl) qX10_clear jt_510 jt_511 jt_512 rfl rfl (Nat.le_of_ble_eq_true rfl) jv_10 rfl (jf_7_2 ht).2.1 (jf_7_2 ht).2.2 (by decide) (jw_ho (jf_7_2 ht).2.1 (by decide)) (kX10_clear G (t + 8) M2) (fun M3 => ?_)
  refine jw_aloadR (pc := 19) 0 dX7_clear_19 rfl ?_
  refine jw_getR (pc := 20) (j := 3) rfl dX7_clear_20 jv_7 ji_7 (Or.inl jt_271) ht (jn_7 ht) (by decide) (by decide) rfl (jf_7_3 ht).1 ?_
  refine jw_iconst (pc := 23) dX7_clear_23 ?_
  refine jw_callVM (pc := 24) (As := [jI 0]) (st := []) dX7_clear_24 rfl (Nat.le_of_ble_eq_true rfl) qX3_begin jt_514 jt_515 jt_516 rfl rfl (Nat.le_of_ble_eq_true rfl) jv_3 rfl (jf_7_3 ht).2.1 (jf_7_3 ht).2.2 (by decide) (jw_ho (jf_7_3 ht).2.1 (by decide)) (kX3_begin G (t + 15) 0 (jw_rc _ rfl) M3) (fun M4 => ?_)
  refine jw_aloadR (pc := 27) 0 dX7_clear_27 rfl ?_
  refine jw_getR (pc := 28) (j := 4) rfl dX7_clear_28 jv_7 ji_7 (Or.inl jt_276) ht (jn_7 ht) (by decide) (by decide) rfl (jf_7_4 ht).1 ?_
  refine jw_callVM (pc := 31) (As := []) (st := []) dX7_clear_31 rfl (Nat.le_of_ble_eq_true rfl) qX1_clear jt_520 jt_521 jt_522 rfl rfl (Nat.le_of_ble_eq_true rfl) jv_1 rfl (jf_7_4 ht).2.1 (jf_7_4 ht).2.2 (by decide) (jw_ho (jf_7_4 ht).2.1 (by decide)) (kX1_clear G (t + 21) M4) (fun M5 => ?_)
  refine jw_aloadR (pc := 34) 0 dX7_clear_34 rfl ?_
  refine jw_getR (pc := 35) (j := 5) rfl dX7_clear_35 jv_7 ji_7 (Or.inl jt_278) ht (jn_7 ht) (by decide) (by decide) rfl (jf_7_5 ht).1 ?_
  refine jw_callVM (pc := 38) (As := []) (st := []) dX7_clear_38 rfl (Nat.le_of_ble_eq_true rfl) qX2_clear jt_525 jt_526 jt_527 rfl rfl (Nat.le_of_ble_eq_true rfl) jv_2 rfl (jf_7_5 ht).2.1 (jf_7_5 ht).2.2 (by decide) (jw_ho (jf_7_5 ht).2.1 (by decide)) (kX2_clear G (t + 24) M5) (fun M6 => ?_)
  exact jw_ret (pc := 41) (v := 0) dX7_clear_41 trivial rfl rfl
theorem kX7_clear (G : jw_G) (t : Nat) (M : jw_M) : jw_Ct G YX7_clear none 3 0 0 true (fun M1 => (0, M1)) yX7_clear [jR G t] M (fX7_clear t M) := jw_met (by decide) rfl rfl rfl (Nat.le_of_ble_eq_true rfl) (rX7_clear G t M)
abbrev YX10_takeFrom : jw_Y := (RX10, cX10_takeFrom, 2, 0, "takeFrom")
theorem qX10_takeFrom : jw_cy YX10_takeFrom none yX10_takeFrom 1 := ⟨by decide, jt_704, jt_7, by decide, by decide +kernel⟩
theorem dX10_takeFrom_0 : decode cX10_takeFrom 0 = .ok (.aload_n 0, 1) := by decide +kernel
theorem dX10_takeFrom_1 : decode cX10_takeFrom 1 = .ok (.aload_n 1, 1) := by decide +kernel
theorem dX10_takeFrom_2 : decode cX10_takeFrom 2 = .ok (.getfield 30, 3) := by decide +kernel
theorem dX10_takeFrom_5 : decode cX10_takeFrom 5 = .ok (.putfield 30, 3) := by decide +kernel
theorem dX10_takeFrom_8 : decode cX10_takeFrom 8 = .ok (.aload_n 0, 1) := by decide +kernel
theorem dX10_takeFrom_9 : decode cX10_takeFrom 9 = .ok (.aload_n 1, 1) := by decide +kernel
theorem dX10_takeFrom_10 : decode cX10_takeFrom 10 = .ok (.getfield 34, 3) := by decide +kernel
theorem dX10_takeFrom_13 : decode cX10_takeFrom 13 = .ok (.putfield 34, 3) := by decide +kernel
theorem dX10_takeFrom_16 : decode cX10_takeFrom 16 = .ok (.aload_n 0, 1) := by decide +kernel
theorem dX10_takeFrom_17 : decode cX10_takeFrom 17 = .ok (.aload_n 1, 1) := by decide +kernel
theorem dX10_takeFrom_18 : decode cX10_takeFrom 18 = .ok (.getfield 37, 3) := by decide +kernel
theorem dX10_takeFrom_21 : decode cX10_takeFrom 21 = .ok (.putfield 37, 3) := by decide +kernel
theorem dX10_takeFrom_24 : decode cX10_takeFrom 24 = .ok (.aload_n 1, 1) := by decide +kernel
theorem dX10_takeFrom_25 : decode cX10_takeFrom 25 = .ok (.getfield 9, 3) := by decide +kernel
theorem dX10_takeFrom_28 : decode cX10_takeFrom 28 = .ok (.iconst 0, 1) := by decide +kernel
theorem dX10_takeFrom_29 : decode cX10_takeFrom 29 = .ok (.aload_n 0, 1) := by decide +kernel
theorem dX10_takeFrom_30 : decode cX10_takeFrom 30 = .ok (.getfield 9, 3) := by decide +kernel
theorem dX10_takeFrom_33 : decode cX10_takeFrom 33 = .ok (.iconst 0, 1) := by decide +kernel
theorem dX10_takeFrom_34 : decode cX10_takeFrom 34 = .ok (.aload_n 0, 1) := by decide +kernel
theorem dX10_takeFrom_35 : decode cX10_takeFrom 35 = .ok (.getfield 9, 3) := by decide +kernel
theorem dX10_takeFrom_38 : decode cX10_takeFrom 38 = .ok (.arraylength, 1) := by decide +kernel
theorem dX10_takeFrom_39 : decode cX10_takeFrom 39 = .ok (.invokestatic 40, 3) := by decide +kernel
theorem dX10_takeFrom_42 : decode cX10_takeFrom 42 = .ok (.aload_n 1, 1) := by decide +kernel
theorem dX10_takeFrom_43 : decode cX10_takeFrom 43 = .ok (.getfield 15, 3) := by decide +kernel
theorem dX10_takeFrom_46 : decode cX10_takeFrom 46 = .ok (.iconst 0, 1) := by decide +kernel
theorem dX10_takeFrom_47 : decode cX10_takeFrom 47 = .ok (.aload_n 0, 1) := by decide +kernel
theorem dX10_takeFrom_48 : decode cX10_takeFrom 48 = .ok (.getfield 15, 3) := by decide +kernel
theorem dX10_takeFrom_51 : decode cX10_takeFrom 51 = .ok (.iconst 0, 1) := by decide +kernel
theorem dX10_takeFrom_52 : decode cX10_takeFrom 52 = .ok (.aload_n 0, 1) := by decide +kernel
theorem dX10_takeFrom_53 : decode cX10_takeFrom 53 = .ok (.getfield 15, 3) := by decide +kernel
theorem dX10_takeFrom_56 : decode cX10_takeFrom 56 = .ok (.arraylength, 1) := by decide +kernel
theorem dX10_takeFrom_57 : decode cX10_takeFrom 57 = .ok (.invokestatic 40, 3) := by decide +kernel
theorem dX10_takeFrom_60 : decode cX10_takeFrom 60 = .ok (.aload_n 1, 1) := by decide +kernel
theorem dX10_takeFrom_61 : decode cX10_takeFrom 61 = .ok (.getfield 18, 3) := by decide +kernel
theorem dX10_takeFrom_64 : decode cX10_takeFrom 64 = .ok (.iconst 0, 1) := by decide +kernel
theorem dX10_takeFrom_65 : decode cX10_takeFrom 65 = .ok (.aload_n 0, 1) := by decide +kernel
theorem dX10_takeFrom_66 : decode cX10_takeFrom 66 = .ok (.getfield 18, 3) := by decide +kernel
theorem dX10_takeFrom_69 : decode cX10_takeFrom 69 = .ok (.iconst 0, 1) := by decide +kernel
theorem dX10_takeFrom_70 : decode cX10_takeFrom 70 = .ok (.aload_n 0, 1) := by decide +kernel
theorem dX10_takeFrom_71 : decode cX10_takeFrom 71 = .ok (.getfield 18, 3) := by decide +kernel
theorem dX10_takeFrom_74 : decode cX10_takeFrom 74 = .ok (.arraylength, 1) := by decide +kernel
theorem dX10_takeFrom_75 : decode cX10_takeFrom 75 = .ok (.invokestatic 40, 3) := by decide +kernel
theorem dX10_takeFrom_78 : decode cX10_takeFrom 78 = .ok (.aload_n 1, 1) := by decide +kernel
theorem dX10_takeFrom_79 : decode cX10_takeFrom 79 = .ok (.getfield 21, 3) := by decide +kernel
theorem dX10_takeFrom_82 : decode cX10_takeFrom 82 = .ok (.iconst 0, 1) := by decide +kernel
theorem dX10_takeFrom_83 : decode cX10_takeFrom 83 = .ok (.aload_n 0, 1) := by decide +kernel
theorem dX10_takeFrom_84 : decode cX10_takeFrom 84 = .ok (.getfield 21, 3) := by decide +kernel
theorem dX10_takeFrom_87 : decode cX10_takeFrom 87 = .ok (.iconst 0, 1) := by decide +kernel
theorem dX10_takeFrom_88 : decode cX10_takeFrom 88 = .ok (.aload_n 0, 1) := by decide +kernel
theorem dX10_takeFrom_89 : decode cX10_takeFrom 89 = .ok (.getfield 21, 3) := by decide +kernel
theorem dX10_takeFrom_92 : decode cX10_takeFrom 92 = .ok (.arraylength, 1) := by decide +kernel
theorem dX10_takeFrom_93 : decode cX10_takeFrom 93 = .ok (.invokestatic 40, 3) := by decide +kernel
theorem dX10_takeFrom_96 : decode cX10_takeFrom 96 = .ok (.aload_n 1, 1) := by decide +kernel
theorem dX10_takeFrom_97 : decode cX10_takeFrom 97 = .ok (.getfield 24, 3) := by decide +kernel
theorem dX10_takeFrom_100 : decode cX10_takeFrom 100 = .ok (.iconst 0, 1) := by decide +kernel
theorem dX10_takeFrom_101 : decode cX10_takeFrom 101 = .ok (.aload_n 0, 1) := by decide +kernel
theorem dX10_takeFrom_102 : decode cX10_takeFrom 102 = .ok (.getfield 24, 3) := by decide +kernel
theorem dX10_takeFrom_105 : decode cX10_takeFrom 105 = .ok (.iconst 0, 1) := by decide +kernel
theorem dX10_takeFrom_106 : decode cX10_takeFrom 106 = .ok (.aload_n 0, 1) := by decide +kernel
theorem dX10_takeFrom_107 : decode cX10_takeFrom 107 = .ok (.getfield 24, 3) := by decide +kernel
theorem dX10_takeFrom_110 : decode cX10_takeFrom 110 = .ok (.arraylength, 1) := by decide +kernel
theorem dX10_takeFrom_111 : decode cX10_takeFrom 111 = .ok (.invokestatic 40, 3) := by decide +kernel
theorem dX10_takeFrom_114 : decode cX10_takeFrom 114 = .ok (.aload_n 1, 1) := by decide +kernel
theorem dX10_takeFrom_115 : decode cX10_takeFrom 115 = .ok (.getfield 27, 3) := by decide +kernel
theorem dX10_takeFrom_118 : decode cX10_takeFrom 118 = .ok (.iconst 0, 1) := by decide +kernel
theorem dX10_takeFrom_119 : decode cX10_takeFrom 119 = .ok (.aload_n 0, 1) := by decide +kernel
theorem dX10_takeFrom_120 : decode cX10_takeFrom 120 = .ok (.getfield 27, 3) := by decide +kernel
theorem dX10_takeFrom_123 : decode cX10_takeFrom 123 = .ok (.iconst 0, 1) := by decide +kernel
theorem dX10_takeFrom_124 : decode cX10_takeFrom 124 = .ok (.aload_n 0, 1) := by decide +kernel
theorem dX10_takeFrom_125 : decode cX10_takeFrom 125 = .ok (.getfield 27, 3) := by decide +kernel
theorem dX10_takeFrom_128 : decode cX10_takeFrom 128 = .ok (.arraylength, 1) := by decide +kernel
theorem dX10_takeFrom_129 : decode cX10_takeFrom 129 = .ok (.invokestatic 40, 3) := by decide +kernel
theorem dX10_takeFrom_132 : decode cX10_takeFrom 132 = .ok (.return_, 1) := by decide +kernel
def fX10_takeFrom (t : Nat) (a1 : Nat) (M : jw_M) : Option jw_M :=
  if jw_tag t = 10 then (if jw_tag a1 = 10 then (Option.bind (some (jw_up M t 0 (M a1 0))) (fun M2 => Option.bind (some (jw_up M2 t 4 (M2 a1 4))) (fun M4 => Option.bind (some (jw_up M4 t 7 (M4 a1 7))) (fun M6 => if 0 ≤ (0 : Int) ∧ 0 ≤ (0 : Int) ∧ 0 ≤ (4 : Int) ∧ (0 : Int) + 4 ≤ 4 ∧ (0 : Int) + 4 ≤ 4 then Option.bind (some (jw_cp M6 (a1 + 1) 0 (t + 1) 0 4)) (fun M7 => if 0 ≤ (0 : Int) ∧ 0 ≤ (0 : Int) ∧ 0 ≤ (4 : Int) ∧ (0 : Int) + 4 ≤ 4 ∧ (0 : Int) + 4 ≤ 4 then Option.bind (some (jw_cp M7 (a1 + 2) 0 (t + 2) 0 4)) (fun M8 => if 0 ≤ (0 : Int) ∧ 0 ≤ (0 : Int) ∧ 0 ≤ (4 : Int) ∧ (0 : Int) + 4 ≤ 4 ∧ (0 : Int) + 4 ≤ 4 then Option.bind (some (jw_cp M8 (a1 + 3) 0 (t + 3) 0 4)) (fun M9 => if 0 ≤ (0 : Int) ∧ 0 ≤ (0 : Int) ∧ 0 ≤ (5 : Int) ∧ (0 : Int) + 5 ≤ 5 ∧ (0 : Int) + 5 ≤ 5 then Option.bind (some (jw_cp M9 (a1 + 4) 0 (t + 4) 0 5)) (fun M10 => if 0 ≤ (0 : Int) ∧ 0 ≤ (0 : Int) ∧ 0 ≤ (5 : Int) ∧ (0 : Int) + 5 ≤ 5 ∧ (0 : Int) + 5 ≤ 5 then Option.bind (some (jw_cp M10 (a1 + 5) 0 (t + 5) 0 5)) (fun M11 => if 0 ≤ (0 : Int) ∧ 0 ≤ (0 : Int) ∧ 0 ≤ (4 : Int) ∧ (0 : Int) + 4 ≤ 4 ∧ (0 : Int) + 4 ≤ 4 then Option.bind (some (jw_cp M11 (a1 + 6) 0 (t + 6) 0 4)) (fun M12 => some M12) else none) else none) else none) else none) else none) else none)))) else none) else none
set_option maxRecDepth 100000 in
theorem rX10_takeFrom (G : jw_G) (t : Nat) (a1 : Nat) (M : jw_M) : jw_Rn G YX10_takeFrom 2 0 0 true (fun M1 => (0, M1)) 0 [(0, jR G t), (1, jR G a1)] [] M (fX10_takeFrom t a1 M) := by
  unfold fX10_takeFrom
  refine jw_ck (fun ht => ?_)
  refine jw_ck (fun ha1 => ?_)
  refine jw_aloadR (pc := 0) 0 dX10_takeFrom_0 rfl ?_
  refine jw_aloadR (pc := 1) 1 dX10_takeFrom_1 rfl ?_
  refine jw_getI (pc := 2) (j := 0) rfl dX10_takeFrom_2 jv_10 ji_10 (Or.inl jt_146) ha1 (jn_10 ha1) (by decide) (by decide) (jw_ho ha1 (by decide)) (Or.inl rfl) rfl (fun h1 => ?_)
  refine jw_putI (pc := 5) (j := 0) tyX10 rfl dX10_takeFrom_5 jv_10 ji_10 tyX10_ok nmX10 (Or.inl jt_146) rfl ht (jn_10 ht) (by decide) (by decide) (jw_ho ht (by decide)) rfl rfl h1 rfl ?_
  refine jw_letM (fun M2 => ?_)
  refine jw_aloadR (pc := 8) 0 dX10_takeFrom_8 rfl ?_
  refine jw_aloadR (pc := 9) 1 dX10_takeFrom_9 rfl ?_
  refine jw_getI (pc := 10) (j := 4) rfl dX10_takeFrom_10 jv_10 ji_10 (Or.inl jt_152) ha1 (jn_10 ha1) (by decide) (by decide) (jw_ho ha1 (by decide)) (Or.inl rfl) rfl (fun h3 => ?_)
  refine jw_putI (pc := 13) (j := 4) tyX10 rfl dX10_takeFrom_13 jv_10 ji_10 tyX10_ok nmX10 (Or.inl jt_152) rfl ht (jn_10 ht) (by decide) (by decide) (jw_ho ht (by decide)) rfl rfl h3 rfl ?_
  refine jw_letM (fun M4 => ?_)
  refine jw_aloadR (pc := 16) 0 dX10_takeFrom_16 rfl ?_
  refine jw_aloadR (pc := 17) 1 dX10_takeFrom_17 rfl ?_
  refine jw_getI (pc := 18) (j := 7) rfl dX10_takeFrom_18 jv_10 ji_10 (Or.inl jt_165) ha1 (jn_10 ha1) (by decide) (by decide) (jw_ho ha1 (by decide)) (Or.inl rfl) rfl (fun h5 => ?_)
  refine jw_putI (pc := 21) (j := 7) tyX10 rfl dX10_takeFrom_21 jv_10 ji_10 tyX10_ok nmX10 (Or.inl jt_165) rfl ht (jn_10 ht) (by decide) (by decide) (jw_ho ht (by decide)) rfl rfl h5 rfl ?_
  refine jw_letM (fun M6 => ?_)
  refine jw_aloadR (pc := 24) 1 dX10_takeFrom_24 rfl ?_
  refine jw_getR (pc := 25) (j := 1) rfl dX10_takeFrom_25 jv_10 ji_10 (Or.inl jt_148) ha1 (jn_10 ha1) (by decide) (by decide) rfl (jf_10_1 ha1).1 ?_
  refine jw_iconst (pc := 28) dX10_takeFrom_28 ?_
  refine jw_aloadR (pc := 29) 0 dX10_takeFrom_29 rfl ?_
  refine jw_getR (pc := 30) (j := 1) rfl dX10_takeFrom_30 jv_10 ji_10 (Or.inl jt_148) ht (jn_10 ht) (by decide) (by decide) rfl (jf_10_1 ht).1 ?_
  refine jw_iconst (pc := 33) dX10_takeFrom_33 ?_
  refine jw_aloadR (pc := 34) 0 dX10_takeFrom_34 rfl ?_
  refine jw_getR (pc := 35) (j := 1) rfl dX10_takeFrom_35 jv_10 ji_10 (Or.inl jt_148) ht (jn_10 ht) (by decide) (by decide) rfl (jf_10_1 ht).1 ?_
  refine jw_alen (pc := 38) dX10_takeFrom_38 (jf_10_1 ht).2.1 (jf_10_1 ht).2.2 (jw_ho (jf_10_1 ht).2.1 (by decide)) rfl ?_
  refine jw_acopy (pc := 39) rfl dX10_takeFrom_39 jt_705 jt_467 jt_466 jt_15 (jf_10_1 ha1).2.1 (jf_10_1 ht).2.1 (jf_10_1 ha1).2.2 (jf_10_1 ht).2.2 (jw_ho (jf_10_1 ha1).2.1 (by decide)) (jw_ho (jf_10_1 ht).2.1 (by decide)) (jw_rc _ rfl) (jw_rc _ rfl) (jw_rc _ rfl) rfl rfl (by decide) (Nat.le_of_ble_eq_true rfl) ?_
  refine jw_letM (fun M7 => ?_)
  refine jw_aloadR (pc := 42) 1 dX10_takeFrom_42 rfl ?_
  refine jw_getR (pc := 43) (j := 2) rfl dX10_takeFrom_43 jv_10 ji_10 (Or.inl jt_149) ha1 (jn_10 ha1) (by decide) (by decide) rfl (jf_10_2 ha1).1 ?_
  refine jw_iconst (pc := 46) dX10_takeFrom_46 ?_
  refine jw_aloadR (pc := 47) 0 dX10_takeFrom_47 rfl ?_
  refine jw_getR (pc := 48) (j := 2) rfl dX10_takeFrom_48 jv_10 ji_10 (Or.inl jt_149) ht (jn_10 ht) (by decide) (by decide) rfl (jf_10_2 ht).1 ?_
  refine jw_iconst (pc := 51) dX10_takeFrom_51 ?_
  refine jw_aloadR (pc := 52) 0 dX10_takeFrom_52 rfl ?_
  refine jw_getR (pc := 53) (j := 2) rfl dX10_takeFrom_53 jv_10 ji_10 (Or.inl jt_149) ht (jn_10 ht) (by decide) (by decide) rfl (jf_10_2 ht).1 ?_
  refine jw_alen (pc := 56) dX10_takeFrom_56 (jf_10_2 ht).2.1 (jf_10_2 ht).2.2 (jw_ho (jf_10_2 ht).2.1 (by decide)) rfl ?_
  refine jw_acopy (pc := 57) rfl dX10_takeFrom_57 jt_705 jt_467 jt_466 jt_15 (jf_10_2 ha1).2.1 (jf_10_2 ht).2.1 (jf_10_2 ha1).2.2 (jf_10_2 ht).2.2 (jw_ho (jf_10_2 ha1).2.1 (by decide)) (jw_ho (jf_10_2 ht).2.1 (by decide)) (jw_rc _ rfl) (jw_rc _ rfl) (jw_rc _ rfl) rfl rfl (by decide) (Nat.le_of_ble_eq_true rfl) ?_
  refine jw_letM (fun M8 => ?_)
  refine jw_aloadR (pc := 60) 1 dX10_takeFrom_60 rfl ?_
  refine jw_getR (pc := 61) (j := 3) rfl dX10_takeFrom_61 jv_10 ji_10 (Or.inl jt_150) ha1 (jn_10 ha1) (by decide) (by decide) rfl (jf_10_3 ha1).1 ?_
  refine jw_iconst (pc := 64) dX10_takeFrom_64 ?_
  refine jw_aloadR (pc := 65) 0 dX10_takeFrom_65 rfl ?_
  refine jw_getR (pc := 66) (j := 3) rfl dX10_takeFrom_66 jv_10 ji_10 (Or.inl jt_150) ht (jn_10 ht) (by decide) (by decide) rfl (jf_10_3 ht).1 ?_
  refine jw_iconst (pc := 69) dX10_takeFrom_69 ?_
  refine jw_aloadR (pc := 70) 0 dX10_takeFrom_70 rfl ?_
  refine jw_getR (pc := 71) (j := 3) rfl dX10_takeFrom_71 jv_10 ji_10 (Or.inl jt_150) ht (jn_10 ht) (by decide) (by decide) rfl (jf_10_3 ht).1 ?_
  refine jw_alen (pc := 74) dX10_takeFrom_74 (jf_10_3 ht).2.1 (jf_10_3 ht).2.2 (jw_ho (jf_10_3 ht).2.1 (by decide)) rfl ?_
  refine jw_acopy (pc := 75) rfl dX10_takeFrom_75 jt_705 jt_467 jt_466 jt_15 (jf_10_3 ha1).2.1 (jf_10_3 ht).2.1 (jf_10_3 ha1).2.2 (jf_10_3 ht).2.2 (jw_ho (jf_10_3 ha1).2.1 (by decide)) (jw_ho (jf_10_3 ht).2.1 (by decide)) (jw_rc _ rfl) (jw_rc _ rfl) (jw_rc _ rfl) rfl rfl (by decide) (Nat.le_of_ble_eq_true rfl) ?_
  refine jw_letM (fun M9 => ?_)
  refine jw_aloadR (pc := 78) 1 dX10_takeFrom_78 rfl ?_
  refine jw_getR (pc := 79) (j := 5) rfl dX10_takeFrom_79 jv_10 ji_10 (Or.inl jt_156) ha1 (jn_10 ha1) (by decide) (by decide) rfl (jf_10_5 ha1).1 ?_
  refine jw_iconst (pc := 82) dX10_takeFrom_82 ?_
  refine jw_aloadR (pc := 83) 0 dX10_takeFrom_83 rfl ?_
  refine jw_getR (pc := 84) (j := 5) rfl dX10_takeFrom_84 jv_10 ji_10 (Or.inl jt_156) ht (jn_10 ht) (by decide) (by decide) rfl (jf_10_5 ht).1 ?_
  refine jw_iconst (pc := 87) dX10_takeFrom_87 ?_
  refine jw_aloadR (pc := 88) 0 dX10_takeFrom_88 rfl ?_
  refine jw_getR (pc := 89) (j := 5) rfl dX10_takeFrom_89 jv_10 ji_10 (Or.inl jt_156) ht (jn_10 ht) (by decide) (by decide) rfl (jf_10_5 ht).1 ?_
  refine jw_alen (pc := 92) dX10_takeFrom_92 (jf_10_5 ht).2.1 (jf_10_5 ht).2.2 (jw_ho (jf_10_5 ht).2.1 (by decide)) rfl ?_
  refine jw_acopy (pc := 93) rfl dX10_takeFrom_93 jt_705 jt_467 jt_466 jt_15 (jf_10_5 ha1).2.1 (jf_10_5 ht).2.1 (jf_10_5 ha1).2.2 (jf_10_5 ht).2.2 (jw_ho (jf_10_5 ha1).2.1 (by decide)) (jw_ho (jf_10_5 ht).2.1 (by decide)) (jw_rc _ rfl) (jw_rc _ rfl) (jw_rc _ rfl) rfl rfl (by decide) (Nat.le_of_ble_eq_true rfl) ?_
  refine jw_letM (fun M10 => ?_)
  refine jw_aloadR (pc := 96) 1 dX10_takeFrom_96 rfl ?_
  refine jw_getR (pc := 97) (j := 6) rfl dX10_takeFrom_97 jv_10 ji_10 (Or.inl jt_159) ha1 (jn_10 ha1) (by decide) (by decide) rfl (jf_10_6 ha1).1 ?_
  refine jw_iconst (pc := 100) dX10_takeFrom_100 ?_
  refine jw_aloadR (pc := 101) 0 dX10_takeFrom_101 rfl ?_
  refine jw_getR (pc := 102) (j := 6) rfl dX10_takeFrom_102 jv_10 ji_10 (Or.inl jt_159) ht (jn_10 ht) (by decide) (by decide) rfl (jf_10_6 ht).1 ?_
  refine jw_iconst (pc := 105) dX10_takeFrom_105 ?_
  refine jw_aloadR (pc := 106) 0 dX10_takeFrom_106 rfl ?_
  refine jw_getR (pc := 107) (j := 6) rfl dX10_takeFrom_107 jv_10 ji_10 (Or.inl jt_159) ht (jn_10 ht) (by decide) (by decide) rfl (jf_10_6 ht).1 ?_
  refine jw_alen (pc := 110) dX10_takeFrom_110 (jf_10_6 ht).2.1 (jf_10_6 ht).2.2 (jw_ho (jf_10_6 ht).2.1 (by decide)) rfl ?_
  refine jw_acopy (pc := 111) rfl dX10_takeFrom_111 jt_705 jt_467 jt_466 jt_15 (jf_10_6 ha1).2.1 (jf_10_6 ht).2.1 (jf_10_6 ha1).2.2 (jf_10_6 ht).2.2 (jw_ho (jf_10_6 ha1).2.1 (by decide)) (jw_ho (jf_10_6 ht).2.1 (by decide)) (jw_rc _ rfl) (jw_rc _ rfl) (jw_rc _ rfl) rfl rfl (by decide) (Nat.le_of_ble_eq_true rfl) ?_
  refine jw_letM (fun M11 => ?_)
  refine jw_aloadR (pc := 114) 1 dX10_takeFrom_114 rfl ?_
  refine jw_getR (pc := 115) (j := 8) rfl dX10_takeFrom_115 jv_10 ji_10 (Or.inl jt_168) ha1 (jn_10 ha1) (by decide) (by decide) rfl (jf_10_8 ha1).1 ?_
  refine jw_iconst (pc := 118) dX10_takeFrom_118 ?_
  refine jw_aloadR (pc := 119) 0 dX10_takeFrom_119 rfl ?_
  refine jw_getR (pc := 120) (j := 8) rfl dX10_takeFrom_120 jv_10 ji_10 (Or.inl jt_168) ht (jn_10 ht) (by decide) (by decide) rfl (jf_10_8 ht).1 ?_
  refine jw_iconst (pc := 123) dX10_takeFrom_123 ?_
  refine jw_aloadR (pc := 124) 0 dX10_takeFrom_124 rfl ?_
  refine jw_getR (pc := 125) (j := 8) rfl dX10_takeFrom_125 jv_10 ji_10 (Or.inl jt_168) ht (jn_10 ht) (by decide) (by decide) rfl (jf_10_8 ht).1 ?_
  refine jw_alen (pc := 128) dX10_takeFrom_128 (jf_10_8 ht).2.1 (jf_10_8 ht).2.2 (jw_ho (jf_10_8 ht).2.1 (by decide)) rfl ?_
  refine jw_acopy (pc := 129) rfl dX10_takeFrom_129 jt_705 jt_467 jt_466 jt_15 (jf_10_8 ha1).2.1 (jf_10_8 ht).2.1 (jf_10_8 ha1).2.2 (jf_10_8 ht).2.2 (jw_ho (jf_10_8 ha1).2.1 (by decide)) (jw_ho (jf_10_8 ht).2.1 (by decide)) (jw_rc _ rfl) (jw_rc _ rfl) (jw_rc _ rfl) rfl rfl (by decide) (Nat.le_of_ble_eq_true rfl) ?_
  refine jw_letM (fun M12 => ?_)
  exact jw_ret (pc := 132) (v := 0) dX10_takeFrom_132 trivial rfl rfl
theorem kX10_takeFrom (G : jw_G) (t : Nat) (a1 : Nat) (M : jw_M) : jw_Ct G YX10_takeFrom none 2 0 0 true (fun M1 => (0, M1)) yX10_takeFrom [jR G t, jR G a1] M (fX10_takeFrom t a1 M) := jw_met (by decide) rfl rfl rfl (Nat.le_of_ble_eq_true rfl) (rX10_takeFrom G t a1 M)
abbrev YX7_takeFrom : jw_Y := (RX7, cX7_takeFrom, 2, 0, "takeFrom")
theorem qX7_takeFrom : jw_cy YX7_takeFrom none yX7_takeFrom 1 := ⟨by decide, jt_695, jt_5, by decide, by decide +kernel⟩
theorem dX7_takeFrom_0 : decode cX7_takeFrom 0 = .ok (.aload_n 0, 1) := by decide +kernel
theorem dX7_takeFrom_1 : decode cX7_takeFrom 1 = .ok (.aload_n 1, 1) := by decide +kernel
theorem dX7_takeFrom_2 : decode cX7_takeFrom 2 = .ok (.getfield 7, 3) := by decide +kernel
theorem dX7_takeFrom_5 : decode cX7_takeFrom 5 = .ok (.putfield 7, 3) := by decide +kernel
theorem dX7_takeFrom_8 : decode cX7_takeFrom 8 = .ok (.aload_n 0, 1) := by decide +kernel
theorem dX7_takeFrom_9 : decode cX7_takeFrom 9 = .ok (.getfield 16, 3) := by decide +kernel
theorem dX7_takeFrom_12 : decode cX7_takeFrom 12 = .ok (.aload_n 1, 1) := by decide +kernel
theorem dX7_takeFrom_13 : decode cX7_takeFrom 13 = .ok (.getfield 16, 3) := by decide +kernel
theorem dX7_takeFrom_16 : decode cX7_takeFrom 16 = .ok (.invokevirtual 58, 3) := by decide +kernel
theorem dX7_takeFrom_19 : decode cX7_takeFrom 19 = .ok (.aload_n 0, 1) := by decide +kernel
theorem dX7_takeFrom_20 : decode cX7_takeFrom 20 = .ok (.getfield 23, 3) := by decide +kernel
theorem dX7_takeFrom_23 : decode cX7_takeFrom 23 = .ok (.aload_n 1, 1) := by decide +kernel
theorem dX7_takeFrom_24 : decode cX7_takeFrom 24 = .ok (.getfield 23, 3) := by decide +kernel
theorem dX7_takeFrom_27 : decode cX7_takeFrom 27 = .ok (.invokevirtual 62, 3) := by decide +kernel
theorem dX7_takeFrom_30 : decode cX7_takeFrom 30 = .ok (.aload_n 0, 1) := by decide +kernel
theorem dX7_takeFrom_31 : decode cX7_takeFrom 31 = .ok (.getfield 30, 3) := by decide +kernel
theorem dX7_takeFrom_34 : decode cX7_takeFrom 34 = .ok (.aload_n 1, 1) := by decide +kernel
theorem dX7_takeFrom_35 : decode cX7_takeFrom 35 = .ok (.getfield 30, 3) := by decide +kernel
theorem dX7_takeFrom_38 : decode cX7_takeFrom 38 = .ok (.invokevirtual 65, 3) := by decide +kernel
theorem dX7_takeFrom_41 : decode cX7_takeFrom 41 = .ok (.aload_n 0, 1) := by decide +kernel
theorem dX7_takeFrom_42 : decode cX7_takeFrom 42 = .ok (.getfield 37, 3) := by decide +kernel
theorem dX7_takeFrom_45 : decode cX7_takeFrom 45 = .ok (.aload_n 1, 1) := by decide +kernel
theorem dX7_takeFrom_46 : decode cX7_takeFrom 46 = .ok (.getfield 37, 3) := by decide +kernel
theorem dX7_takeFrom_49 : decode cX7_takeFrom 49 = .ok (.invokevirtual 68, 3) := by decide +kernel
theorem dX7_takeFrom_52 : decode cX7_takeFrom 52 = .ok (.aload_n 0, 1) := by decide +kernel
theorem dX7_takeFrom_53 : decode cX7_takeFrom 53 = .ok (.getfield 44, 3) := by decide +kernel
theorem dX7_takeFrom_56 : decode cX7_takeFrom 56 = .ok (.aload_n 1, 1) := by decide +kernel
theorem dX7_takeFrom_57 : decode cX7_takeFrom 57 = .ok (.getfield 44, 3) := by decide +kernel
theorem dX7_takeFrom_60 : decode cX7_takeFrom 60 = .ok (.invokevirtual 71, 3) := by decide +kernel
theorem dX7_takeFrom_63 : decode cX7_takeFrom 63 = .ok (.return_, 1) := by decide +kernel
def fX7_takeFrom (t : Nat) (a1 : Nat) (M : jw_M) : Option jw_M :=
  if jw_tag t = 7 then (if jw_tag a1 = 7 then (if M a1 0 = 0 ∨ M a1 0 = 1 then Option.bind (some (jw_up M t 0 (M a1 0))) (fun M3 => Option.bind (fX9_takeFrom (t + 1) (a1 + 1) M3) (fun M4 => Option.bind (fX10_takeFrom (t + 8) (a1 + 8) M4) (fun M5 => Option.bind (fX3_takeFrom (t + 15) (a1 + 15) M5) (fun M6 => Option.bind (fX1_takeFrom (t + 21) (a1 + 21) M6) (fun M7 => Option.bind (fX2_takeFrom (t + 24) (a1 + 24) M7) (fun M8 => some M8)))))) else none) else none) else none
set_option maxRecDepth 100000 in
theorem rX7_takeFrom (G : jw_G) (t : Nat) (a1 : Nat) (M : jw_M) : jw_Rn G YX7_takeFrom 3 0 0 true (fun M1 => (0, M1)) 0 [(0, jR G t), (1, jR G a1)] [] M (fX7_takeFrom t a1 M) := by
  unfold fX7_takeFrom
  refine jw_ck (fun ht => ?_)
  refine jw_ck (fun ha1 => ?_)
  refine jw_aloadR (pc := 0) 0 dX7_takeFrom_0 rfl ?_
  refine jw_aloadR (pc := 1) 1 dX7_takeFrom_1 rfl ?_
  refine jw_getI (pc := 2) (j := 0) rfl dX7_takeFrom_2 jv_7 ji_7 (Or.inl jt_256) ha1 (jn_7 ha1) (by decide) (by decide) (jw_ho ha1 (by decide)) (Or.inr rfl) rfl (fun h1 => ?_)
  refine jw_ck (fun h2 => ?_)
  refine jw_putZ (pc := 5) (j := 0) tyX7 rfl dX7_takeFrom_5 jv_7 ji_7 tyX7_ok nmX7 (Or.inl jt_256) rfl ht (jn_7 ht) (by decide) (by decide) (jw_ho ht (by decide)) rfl rfl h2 rfl ?_
  refine jw_letM (fun M3 => ?_)
  refine jw_aloadR (pc := 8) 0 dX7_takeFrom_8 rfl ?_
  refine jw_getR (pc := 9) (j := 1) rfl dX7_takeFrom_9 jv_7 ji_7 (Or.inl jt_260) ht (jn_7 ht) (by decide) (by decide) rfl (jf_7_1 ht).1 ?_
  refine jw_aloadR (pc := 12) 1 dX7_takeFrom_12 rfl ?_
  refine jw_getR (pc := 13) (j := 1) rfl dX7_takeFrom_13 jv_7 ji_7 (Or.inl jt_260) ha1 (jn_7 ha1) (by decide) (by decide) rfl (jf_7_1 ha1).1 ?_
  refine jw_callVM (pc := 16) (As := [jR G (a1 + 1)]) (st := []) dX7_takeFrom_16 rfl (Nat.le_of_ble_eq_true rfl) qX9_takeFrom jt_696 jt_697 jt_698 rfl rfl (Nat.le_of_ble_eq_true rfl) jv_9 rfl (jf_7_1 ht).2.1 (jf_7_1 ht).2.2 (by decide) (jw_ho (jf_7_1 ht).2.1 (by decide)) (kX9_takeFrom G (t + 1) (a1 + 1) M3) (fun M4 => ?_)
  refine jw_aloadR (pc := 19) 0 dX7_takeFrom_19 rfl ?_
  refine jw_getR (pc := 20) (j := 2) rfl dX7_takeFrom_20 jv_7 ji_7 (Or.inl jt_266) ht (jn_7 ht) (by decide) (by decide) rfl (jf_7_2 ht).1 ?_
  refine jw_aloadR (pc := 23) 1 dX7_takeFrom_23 rfl ?_
  refine jw_getR (pc := 24) (j := 2) rfl dX7_takeFrom_24 jv_7 ji_7 (Or.inl jt_266) ha1 (jn_7 ha1) (by decide) (by decide) rfl (jf_7_2 ha1).1 ?_
  refine jw_callVM (pc := 27) (As := [jR G (a1 + 8)]) (st := []) dX7_takeFrom_27 rfl (Nat.le_of_ble_eq_true rfl) qX10_takeFrom jt_701 jt_702 jt_703 rfl rfl (Nat.le_of_ble_eq_true rfl) jv_10 rfl (jf_7_2 ht).2.1 (jf_7_2 ht).2.2 (by decide) (jw_ho (jf_7_2 ht).2.1 (by decide)) (kX10_takeFrom G (t + 8) (a1 + 8) M4) (fun M5 => ?_)
  refine jw_aloadR (pc := 30) 0 dX7_takeFrom_30 rfl ?_
  refine jw_getR (pc := 31) (j := 3) rfl dX7_takeFrom_31 jv_7 ji_7 (Or.inl jt_271) ht (jn_7 ht) (by decide) (by decide) rfl (jf_7_3 ht).1 ?_
  refine jw_aloadR (pc := 34) 1 dX7_takeFrom_34 rfl ?_
  refine jw_getR (pc := 35) (j := 3) rfl dX7_takeFrom_35 jv_7 ji_7 (Or.inl jt_271) ha1 (jn_7 ha1) (by decide) (by decide) rfl (jf_7_3 ha1).1 ?_
  refine jw_callVM (pc := 38) (As := [jR G (a1 + 15)]) (st := []) dX7_takeFrom_38 rfl (Nat.le_of_ble_eq_true rfl) qX3_takeFrom jt_706 jt_707 jt_708 rfl rfl (Nat.le_of_ble_eq_true rfl) jv_3 rfl (jf_7_3 ht).2.1 (jf_7_3 ht).2.2 (by decide) (jw_ho (jf_7_3 ht).2.1 (by decide)) (kX3_takeFrom G (t + 15) (a1 + 15) M5) (fun M6 => ?_)
  refine jw_aloadR (pc := 41) 0 dX7_takeFrom_41 rfl ?_
  refine jw_getR (pc := 42) (j := 4) rfl dX7_takeFrom_42 jv_7 ji_7 (Or.inl jt_276) ht (jn_7 ht) (by decide) (by decide) rfl (jf_7_4 ht).1 ?_
  refine jw_aloadR (pc := 45) 1 dX7_takeFrom_45 rfl ?_
  refine jw_getR (pc := 46) (j := 4) rfl dX7_takeFrom_46 jv_7 ji_7 (Or.inl jt_276) ha1 (jn_7 ha1) (by decide) (by decide) rfl (jf_7_4 ha1).1 ?_
  refine jw_callVM (pc := 49) (As := [jR G (a1 + 21)]) (st := []) dX7_takeFrom_49 rfl (Nat.le_of_ble_eq_true rfl) qX1_takeFrom jt_711 jt_712 jt_713 rfl rfl (Nat.le_of_ble_eq_true rfl) jv_1 rfl (jf_7_4 ht).2.1 (jf_7_4 ht).2.2 (by decide) (jw_ho (jf_7_4 ht).2.1 (by decide)) (kX1_takeFrom G (t + 21) (a1 + 21) M6) (fun M7 => ?_)
  refine jw_aloadR (pc := 52) 0 dX7_takeFrom_52 rfl ?_
  refine jw_getR (pc := 53) (j := 5) rfl dX7_takeFrom_53 jv_7 ji_7 (Or.inl jt_278) ht (jn_7 ht) (by decide) (by decide) rfl (jf_7_5 ht).1 ?_
  refine jw_aloadR (pc := 56) 1 dX7_takeFrom_56 rfl ?_
  refine jw_getR (pc := 57) (j := 5) rfl dX7_takeFrom_57 jv_7 ji_7 (Or.inl jt_278) ha1 (jn_7 ha1) (by decide) (by decide) rfl (jf_7_5 ha1).1 ?_
  refine jw_callVM (pc := 60) (As := [jR G (a1 + 24)]) (st := []) dX7_takeFrom_60 rfl (Nat.le_of_ble_eq_true rfl) qX2_takeFrom jt_716 jt_717 jt_718 rfl rfl (Nat.le_of_ble_eq_true rfl) jv_2 rfl (jf_7_5 ht).2.1 (jf_7_5 ht).2.2 (by decide) (jw_ho (jf_7_5 ht).2.1 (by decide)) (kX2_takeFrom G (t + 24) (a1 + 24) M7) (fun M8 => ?_)
  exact jw_ret (pc := 63) (v := 0) dX7_takeFrom_63 trivial rfl rfl
theorem kX7_takeFrom (G : jw_G) (t : Nat) (a1 : Nat) (M : jw_M) : jw_Ct G YX7_takeFrom none 3 0 0 true (fun M1 => (0, M1)) yX7_takeFrom [jR G t, jR G a1] M (fX7_takeFrom t a1 M) := jw_met (by decide) rfl rfl rfl (Nat.le_of_ble_eq_true rfl) (rX7_takeFrom G t a1 M)
abbrev YX7_minutesGone : jw_Y := (RX7, cX7_minutesGone, 2, 1, "minutesGone")
theorem qX7_minutesGone : jw_cy YX7_minutesGone (some .int) yX7_minutesGone 1 := ⟨by decide, jt_852, jt_5, by decide, by decide +kernel⟩
theorem dX7_minutesGone_0 : decode cX7_minutesGone 0 = .ok (.aload_n 0, 1) := by decide +kernel
theorem dX7_minutesGone_1 : decode cX7_minutesGone 1 = .ok (.getfield 23, 3) := by decide +kernel
theorem dX7_minutesGone_4 : decode cX7_minutesGone 4 = .ok (.iload_n 1, 1) := by decide +kernel
theorem dX7_minutesGone_5 : decode cX7_minutesGone 5 = .ok (.invokevirtual 74, 3) := by decide +kernel
theorem dX7_minutesGone_8 : decode cX7_minutesGone 8 = .ok (.aload_n 0, 1) := by decide +kernel
theorem dX7_minutesGone_9 : decode cX7_minutesGone 9 = .ok (.getfield 16, 3) := by decide +kernel
theorem dX7_minutesGone_12 : decode cX7_minutesGone 12 = .ok (.getfield 78, 3) := by decide +kernel
theorem dX7_minutesGone_15 : decode cX7_minutesGone 15 = .ok (.iadd, 1) := by decide +kernel
theorem dX7_minutesGone_16 : decode cX7_minutesGone 16 = .ok (.ireturn, 1) := by decide +kernel
def fX7_minutesGone (t : Nat) (a1 : Int) (M : jw_M) : Option Int :=
  if jw_tag t = 7 then (Option.bind (fX10_foldOf (t + 8) a1 M) (fun v1 => some (jw_w (v1 + (M (t + 1) 9))))) else none
set_option maxRecDepth 100000 in
theorem rX7_minutesGone (G : jw_G) (t : Nat) (a1 : Int) (ha1 : jw_r a1) (M : jw_M) : jw_Rn G YX7_minutesGone 2 0 0 true (fun v => (v, M)) 0 [(0, jR G t), (1, jI a1)] [] M (fX7_minutesGone t a1 M) := by
  unfold fX7_minutesGone
  refine jw_ck (fun ht => ?_)
  refine jw_aloadR (pc := 0) 0 dX7_minutesGone_0 rfl ?_
  refine jw_getR (pc := 1) (j := 2) rfl dX7_minutesGone_1 jv_7 ji_7 (Or.inl jt_266) ht (jn_7 ht) (by decide) (by decide) rfl (jf_7_2 ht).1 ?_
  refine jw_iload_n (pc := 4) 1 dX7_minutesGone_4 rfl ?_
  refine jw_callVi (pc := 5) (As := [jI a1]) (st := []) dX7_minutesGone_5 rfl (Nat.le_of_ble_eq_true rfl) qX10_foldOf jt_853 jt_762 jt_763 rfl rfl (Nat.le_of_ble_eq_true rfl) jv_10 rfl (jf_7_2 ht).2.1 (jf_7_2 ht).2.2 (by decide) (jw_ho (jf_7_2 ht).2.1 (by decide)) (kX10_foldOf G (t + 8) a1 ha1 M) (fun v1 hv1 => ?_)
  refine jw_aloadR (pc := 8) 0 dX7_minutesGone_8 rfl ?_
  refine jw_getR (pc := 9) (j := 1) rfl dX7_minutesGone_9 jv_7 ji_7 (Or.inl jt_260) ht (jn_7 ht) (by decide) (by decide) rfl (jf_7_1 ht).1 ?_
  refine jw_getI (pc := 12) (j := 9) rfl dX7_minutesGone_12 jv_9 ji_9 (Or.inr ⟨_, jt_115⟩) (jf_7_1 ht).2.1 (jf_7_1 ht).2.2 (by decide) (by decide) (jw_ho (jf_7_1 ht).2.1 (by decide)) (Or.inl rfl) rfl (fun h2 => ?_)
  refine jw_iadd (pc := 15) dX7_minutesGone_15 ?_
  exact jw_ret (pc := 16) (v := jw_w (v1 + (M (t + 1) 9))) dX7_minutesGone_16 (jw_wr _) rfl rfl
theorem kX7_minutesGone (G : jw_G) (t : Nat) (a1 : Int) (ha1 : jw_r a1) (M : jw_M) : jw_Ct G YX7_minutesGone (some .int) 2 0 0 true (fun v => (v, M)) yX7_minutesGone [jR G t, jI a1] M (fX7_minutesGone t a1 M) := jw_met (by decide) rfl rfl rfl (Nat.le_of_ble_eq_true rfl) (rX7_minutesGone G t a1 ha1 M)
abbrev YX10_addGoods : jw_Y := (RX10, cX10_addGoods, 4, 0, "addGoods")
theorem qX10_addGoods : jw_cy YX10_addGoods none yX10_addGoods 3 := ⟨by decide, jt_669, jt_7, by decide, by decide +kernel⟩
theorem dX10_addGoods_0 : decode cX10_addGoods 0 = .ok (.aload_n 0, 1) := by decide +kernel
theorem dX10_addGoods_1 : decode cX10_addGoods 1 = .ok (.getfield 9, 3) := by decide +kernel
theorem dX10_addGoods_4 : decode cX10_addGoods 4 = .ok (.aload_n 0, 1) := by decide +kernel
theorem dX10_addGoods_5 : decode cX10_addGoods 5 = .ok (.getfield 30, 3) := by decide +kernel
theorem dX10_addGoods_8 : decode cX10_addGoods 8 = .ok (.iload_n 1, 1) := by decide +kernel
theorem dX10_addGoods_9 : decode cX10_addGoods 9 = .ok (.iastore, 1) := by decide +kernel
theorem dX10_addGoods_10 : decode cX10_addGoods 10 = .ok (.aload_n 0, 1) := by decide +kernel
theorem dX10_addGoods_11 : decode cX10_addGoods 11 = .ok (.getfield 15, 3) := by decide +kernel
theorem dX10_addGoods_14 : decode cX10_addGoods 14 = .ok (.aload_n 0, 1) := by decide +kernel
theorem dX10_addGoods_15 : decode cX10_addGoods 15 = .ok (.getfield 30, 3) := by decide +kernel
theorem dX10_addGoods_18 : decode cX10_addGoods 18 = .ok (.iload_n 2, 1) := by decide +kernel
theorem dX10_addGoods_19 : decode cX10_addGoods 19 = .ok (.iastore, 1) := by decide +kernel
theorem dX10_addGoods_20 : decode cX10_addGoods 20 = .ok (.aload_n 0, 1) := by decide +kernel
theorem dX10_addGoods_21 : decode cX10_addGoods 21 = .ok (.getfield 18, 3) := by decide +kernel
theorem dX10_addGoods_24 : decode cX10_addGoods 24 = .ok (.aload_n 0, 1) := by decide +kernel
theorem dX10_addGoods_25 : decode cX10_addGoods 25 = .ok (.getfield 30, 3) := by decide +kernel
theorem dX10_addGoods_28 : decode cX10_addGoods 28 = .ok (.iload_n 3, 1) := by decide +kernel
theorem dX10_addGoods_29 : decode cX10_addGoods 29 = .ok (.iastore, 1) := by decide +kernel
theorem dX10_addGoods_30 : decode cX10_addGoods 30 = .ok (.aload_n 0, 1) := by decide +kernel
theorem dX10_addGoods_31 : decode cX10_addGoods 31 = .ok (.dup, 1) := by decide +kernel
theorem dX10_addGoods_32 : decode cX10_addGoods 32 = .ok (.getfield 30, 3) := by decide +kernel
theorem dX10_addGoods_35 : decode cX10_addGoods 35 = .ok (.iconst 1, 1) := by decide +kernel
theorem dX10_addGoods_36 : decode cX10_addGoods 36 = .ok (.iadd, 1) := by decide +kernel
theorem dX10_addGoods_37 : decode cX10_addGoods 37 = .ok (.putfield 30, 3) := by decide +kernel
theorem dX10_addGoods_40 : decode cX10_addGoods 40 = .ok (.return_, 1) := by decide +kernel
def fX10_addGoods (t : Nat) (a1 : Int) (a2 : Int) (a3 : Int) (M : jw_M) : Option jw_M :=
  if jw_tag t = 10 then (if 0 ≤ M t 0 ∧ M t 0 < 4 then Option.bind (some (jw_up M (t + 1) (M t 0) a1)) (fun M2 => if 0 ≤ M2 t 0 ∧ M2 t 0 < 4 then Option.bind (some (jw_up M2 (t + 2) (M2 t 0) a2)) (fun M4 => if 0 ≤ M4 t 0 ∧ M4 t 0 < 4 then Option.bind (some (jw_up M4 (t + 3) (M4 t 0) a3)) (fun M6 => Option.bind (some (jw_up M6 t 0 (jw_w ((M6 t 0) + 1)))) (fun M8 => some M8)) else none) else none) else none) else none
set_option maxRecDepth 100000 in
theorem rX10_addGoods (G : jw_G) (t : Nat) (a1 : Int) (a2 : Int) (a3 : Int) (ha1 : jw_r a1) (ha2 : jw_r a2) (ha3 : jw_r a3) (M : jw_M) : jw_Rn G YX10_addGoods 1 0 0 true (fun M1 => (0, M1)) 0 [(0, jR G t), (1, jI a1), (2, jI a2), (3, jI a3)] [] M (fX10_addGoods t a1 a2 a3 M) := by
  unfold fX10_addGoods
  refine jw_ck (fun ht => ?_)
  refine jw_aloadR (pc := 0) 0 dX10_addGoods_0 rfl ?_
  refine jw_getR (pc := 1) (j := 1) rfl dX10_addGoods_1 jv_10 ji_10 (Or.inl jt_148) ht (jn_10 ht) (by decide) (by decide) rfl (jf_10_1 ht).1 ?_
  refine jw_aloadR (pc := 4) 0 dX10_addGoods_4 rfl ?_
  refine jw_getI (pc := 5) (j := 0) rfl dX10_addGoods_5 jv_10 ji_10 (Or.inl jt_146) ht (jn_10 ht) (by decide) (by decide) (jw_ho ht (by decide)) (Or.inl rfl) rfl (fun h1 => ?_)
  refine jw_iload_n (pc := 8) 1 dX10_addGoods_8 rfl ?_
  refine jw_iast (pc := 9) dX10_addGoods_9 (jf_10_1 ht).2.1 (jf_10_1 ht).2.2 (jw_ho (jf_10_1 ht).2.1 (by decide)) h1 ha1 rfl ?_
  refine jw_letM (fun M2 => ?_)
  refine jw_aloadR (pc := 10) 0 dX10_addGoods_10 rfl ?_
  refine jw_getR (pc := 11) (j := 2) rfl dX10_addGoods_11 jv_10 ji_10 (Or.inl jt_149) ht (jn_10 ht) (by decide) (by decide) rfl (jf_10_2 ht).1 ?_
  refine jw_aloadR (pc := 14) 0 dX10_addGoods_14 rfl ?_
  refine jw_getI (pc := 15) (j := 0) rfl dX10_addGoods_15 jv_10 ji_10 (Or.inl jt_146) ht (jn_10 ht) (by decide) (by decide) (jw_ho ht (by decide)) (Or.inl rfl) rfl (fun h3 => ?_)
  refine jw_iload_n (pc := 18) 2 dX10_addGoods_18 rfl ?_
  refine jw_iast (pc := 19) dX10_addGoods_19 (jf_10_2 ht).2.1 (jf_10_2 ht).2.2 (jw_ho (jf_10_2 ht).2.1 (by decide)) h3 ha2 rfl ?_
  refine jw_letM (fun M4 => ?_)
  refine jw_aloadR (pc := 20) 0 dX10_addGoods_20 rfl ?_
  refine jw_getR (pc := 21) (j := 3) rfl dX10_addGoods_21 jv_10 ji_10 (Or.inl jt_150) ht (jn_10 ht) (by decide) (by decide) rfl (jf_10_3 ht).1 ?_
  refine jw_aloadR (pc := 24) 0 dX10_addGoods_24 rfl ?_
  refine jw_getI (pc := 25) (j := 0) rfl dX10_addGoods_25 jv_10 ji_10 (Or.inl jt_146) ht (jn_10 ht) (by decide) (by decide) (jw_ho ht (by decide)) (Or.inl rfl) rfl (fun h5 => ?_)
  refine jw_iload_n (pc := 28) 3 dX10_addGoods_28 rfl ?_
  refine jw_iast (pc := 29) dX10_addGoods_29 (jf_10_3 ht).2.1 (jf_10_3 ht).2.2 (jw_ho (jf_10_3 ht).2.1 (by decide)) h5 ha3 rfl ?_
  refine jw_letM (fun M6 => ?_)
  refine jw_aloadR (pc := 30) 0 dX10_addGoods_30 rfl ?_
  refine jw_dup (pc := 31) dX10_addGoods_31 rfl ?_
  refine jw_getI (pc := 32) (j := 0) rfl dX10_addGoods_32 jv_10 ji_10 (Or.inl jt_146) ht (jn_10 ht) (by decide) (by decide) (jw_ho ht (by decide)) (Or.inl rfl) rfl (fun h7 => ?_)
  refine jw_iconst (pc := 35) dX10_addGoods_35 ?_
  refine jw_iadd (pc := 36) dX10_addGoods_36 ?_
  refine jw_putI (pc := 37) (j := 0) tyX10 rfl dX10_addGoods_37 jv_10 ji_10 tyX10_ok nmX10 (Or.inl jt_146) rfl ht (jn_10 ht) (by decide) (by decide) (jw_ho ht (by decide)) rfl rfl (jw_wr _) rfl ?_
  refine jw_letM (fun M8 => ?_)
  exact jw_ret (pc := 40) (v := 0) dX10_addGoods_40 trivial rfl rfl
theorem kX10_addGoods (G : jw_G) (t : Nat) (a1 : Int) (a2 : Int) (a3 : Int) (ha1 : jw_r a1) (ha2 : jw_r a2) (ha3 : jw_r a3) (M : jw_M) : jw_Ct G YX10_addGoods none 1 0 0 true (fun M1 => (0, M1)) yX10_addGoods [jR G t, jI a1, jI a2, jI a3] M (fX10_addGoods t a1 a2 a3 M) := jw_met (by decide) rfl rfl rfl (Nat.le_of_ble_eq_true rfl) (rX10_addGoods G t a1 a2 a3 ha1 ha2 ha3 M)
abbrev YX10_addSeller : jw_Y := (RX10, cX10_addSeller, 3, 0, "addSeller")
theorem qX10_addSeller : jw_cy YX10_addSeller none yX10_addSeller 2 := ⟨by decide, jt_673, jt_7, by decide, by decide +kernel⟩
theorem dX10_addSeller_0 : decode cX10_addSeller 0 = .ok (.aload_n 0, 1) := by decide +kernel
theorem dX10_addSeller_1 : decode cX10_addSeller 1 = .ok (.getfield 21, 3) := by decide +kernel
theorem dX10_addSeller_4 : decode cX10_addSeller 4 = .ok (.aload_n 0, 1) := by decide +kernel
theorem dX10_addSeller_5 : decode cX10_addSeller 5 = .ok (.getfield 34, 3) := by decide +kernel
theorem dX10_addSeller_8 : decode cX10_addSeller 8 = .ok (.iload_n 1, 1) := by decide +kernel
theorem dX10_addSeller_9 : decode cX10_addSeller 9 = .ok (.iastore, 1) := by decide +kernel
theorem dX10_addSeller_10 : decode cX10_addSeller 10 = .ok (.aload_n 0, 1) := by decide +kernel
theorem dX10_addSeller_11 : decode cX10_addSeller 11 = .ok (.getfield 24, 3) := by decide +kernel
theorem dX10_addSeller_14 : decode cX10_addSeller 14 = .ok (.aload_n 0, 1) := by decide +kernel
theorem dX10_addSeller_15 : decode cX10_addSeller 15 = .ok (.getfield 34, 3) := by decide +kernel
theorem dX10_addSeller_18 : decode cX10_addSeller 18 = .ok (.iload_n 2, 1) := by decide +kernel
theorem dX10_addSeller_19 : decode cX10_addSeller 19 = .ok (.iastore, 1) := by decide +kernel
theorem dX10_addSeller_20 : decode cX10_addSeller 20 = .ok (.aload_n 0, 1) := by decide +kernel
theorem dX10_addSeller_21 : decode cX10_addSeller 21 = .ok (.dup, 1) := by decide +kernel
theorem dX10_addSeller_22 : decode cX10_addSeller 22 = .ok (.getfield 34, 3) := by decide +kernel
theorem dX10_addSeller_25 : decode cX10_addSeller 25 = .ok (.iconst 1, 1) := by decide +kernel
theorem dX10_addSeller_26 : decode cX10_addSeller 26 = .ok (.iadd, 1) := by decide +kernel
theorem dX10_addSeller_27 : decode cX10_addSeller 27 = .ok (.putfield 34, 3) := by decide +kernel
theorem dX10_addSeller_30 : decode cX10_addSeller 30 = .ok (.return_, 1) := by decide +kernel
def fX10_addSeller (t : Nat) (a1 : Int) (a2 : Int) (M : jw_M) : Option jw_M :=
  if jw_tag t = 10 then (if 0 ≤ M t 4 ∧ M t 4 < 5 then Option.bind (some (jw_up M (t + 4) (M t 4) a1)) (fun M2 => if 0 ≤ M2 t 4 ∧ M2 t 4 < 5 then Option.bind (some (jw_up M2 (t + 5) (M2 t 4) a2)) (fun M4 => Option.bind (some (jw_up M4 t 4 (jw_w ((M4 t 4) + 1)))) (fun M6 => some M6)) else none) else none) else none
set_option maxRecDepth 100000 in
theorem rX10_addSeller (G : jw_G) (t : Nat) (a1 : Int) (a2 : Int) (ha1 : jw_r a1) (ha2 : jw_r a2) (M : jw_M) : jw_Rn G YX10_addSeller 1 0 0 true (fun M1 => (0, M1)) 0 [(0, jR G t), (1, jI a1), (2, jI a2)] [] M (fX10_addSeller t a1 a2 M) := by
  unfold fX10_addSeller
  refine jw_ck (fun ht => ?_)
  refine jw_aloadR (pc := 0) 0 dX10_addSeller_0 rfl ?_
  refine jw_getR (pc := 1) (j := 5) rfl dX10_addSeller_1 jv_10 ji_10 (Or.inl jt_156) ht (jn_10 ht) (by decide) (by decide) rfl (jf_10_5 ht).1 ?_
  refine jw_aloadR (pc := 4) 0 dX10_addSeller_4 rfl ?_
  refine jw_getI (pc := 5) (j := 4) rfl dX10_addSeller_5 jv_10 ji_10 (Or.inl jt_152) ht (jn_10 ht) (by decide) (by decide) (jw_ho ht (by decide)) (Or.inl rfl) rfl (fun h1 => ?_)
  refine jw_iload_n (pc := 8) 1 dX10_addSeller_8 rfl ?_
  refine jw_iast (pc := 9) dX10_addSeller_9 (jf_10_5 ht).2.1 (jf_10_5 ht).2.2 (jw_ho (jf_10_5 ht).2.1 (by decide)) h1 ha1 rfl ?_
  refine jw_letM (fun M2 => ?_)
  refine jw_aloadR (pc := 10) 0 dX10_addSeller_10 rfl ?_
  refine jw_getR (pc := 11) (j := 6) rfl dX10_addSeller_11 jv_10 ji_10 (Or.inl jt_159) ht (jn_10 ht) (by decide) (by decide) rfl (jf_10_6 ht).1 ?_
  refine jw_aloadR (pc := 14) 0 dX10_addSeller_14 rfl ?_
  refine jw_getI (pc := 15) (j := 4) rfl dX10_addSeller_15 jv_10 ji_10 (Or.inl jt_152) ht (jn_10 ht) (by decide) (by decide) (jw_ho ht (by decide)) (Or.inl rfl) rfl (fun h3 => ?_)
  refine jw_iload_n (pc := 18) 2 dX10_addSeller_18 rfl ?_
  refine jw_iast (pc := 19) dX10_addSeller_19 (jf_10_6 ht).2.1 (jf_10_6 ht).2.2 (jw_ho (jf_10_6 ht).2.1 (by decide)) h3 ha2 rfl ?_
  refine jw_letM (fun M4 => ?_)
  refine jw_aloadR (pc := 20) 0 dX10_addSeller_20 rfl ?_
  refine jw_dup (pc := 21) dX10_addSeller_21 rfl ?_
  refine jw_getI (pc := 22) (j := 4) rfl dX10_addSeller_22 jv_10 ji_10 (Or.inl jt_152) ht (jn_10 ht) (by decide) (by decide) (jw_ho ht (by decide)) (Or.inl rfl) rfl (fun h5 => ?_)
  refine jw_iconst (pc := 25) dX10_addSeller_25 ?_
  refine jw_iadd (pc := 26) dX10_addSeller_26 ?_
  refine jw_putI (pc := 27) (j := 4) tyX10 rfl dX10_addSeller_27 jv_10 ji_10 tyX10_ok nmX10 (Or.inl jt_152) rfl ht (jn_10 ht) (by decide) (by decide) (jw_ho ht (by decide)) rfl rfl (jw_wr _) rfl ?_
  refine jw_letM (fun M6 => ?_)
  exact jw_ret (pc := 30) (v := 0) dX10_addSeller_30 trivial rfl rfl
theorem kX10_addSeller (G : jw_G) (t : Nat) (a1 : Int) (a2 : Int) (ha1 : jw_r a1) (ha2 : jw_r a2) (M : jw_M) : jw_Ct G YX10_addSeller none 1 0 0 true (fun M1 => (0, M1)) yX10_addSeller [jR G t, jI a1, jI a2] M (fX10_addSeller t a1 a2 M) := jw_met (by decide) rfl rfl rfl (Nat.le_of_ble_eq_true rfl) (rX10_addSeller G t a1 a2 ha1 ha2 M)
abbrev YX10_addWatcher : jw_Y := (RX10, cX10_addWatcher, 2, 0, "addWatcher")
theorem qX10_addWatcher : jw_cy YX10_addWatcher none yX10_addWatcher 1 := ⟨by decide, jt_677, jt_7, by decide, by decide +kernel⟩
theorem dX10_addWatcher_0 : decode cX10_addWatcher 0 = .ok (.aload_n 0, 1) := by decide +kernel
theorem dX10_addWatcher_1 : decode cX10_addWatcher 1 = .ok (.getfield 27, 3) := by decide +kernel
theorem dX10_addWatcher_4 : decode cX10_addWatcher 4 = .ok (.aload_n 0, 1) := by decide +kernel
theorem dX10_addWatcher_5 : decode cX10_addWatcher 5 = .ok (.getfield 37, 3) := by decide +kernel
theorem dX10_addWatcher_8 : decode cX10_addWatcher 8 = .ok (.iload_n 1, 1) := by decide +kernel
theorem dX10_addWatcher_9 : decode cX10_addWatcher 9 = .ok (.iastore, 1) := by decide +kernel
theorem dX10_addWatcher_10 : decode cX10_addWatcher 10 = .ok (.aload_n 0, 1) := by decide +kernel
theorem dX10_addWatcher_11 : decode cX10_addWatcher 11 = .ok (.dup, 1) := by decide +kernel
theorem dX10_addWatcher_12 : decode cX10_addWatcher 12 = .ok (.getfield 37, 3) := by decide +kernel
theorem dX10_addWatcher_15 : decode cX10_addWatcher 15 = .ok (.iconst 1, 1) := by decide +kernel
theorem dX10_addWatcher_16 : decode cX10_addWatcher 16 = .ok (.iadd, 1) := by decide +kernel
theorem dX10_addWatcher_17 : decode cX10_addWatcher 17 = .ok (.putfield 37, 3) := by decide +kernel
theorem dX10_addWatcher_20 : decode cX10_addWatcher 20 = .ok (.return_, 1) := by decide +kernel
def fX10_addWatcher (t : Nat) (a1 : Int) (M : jw_M) : Option jw_M :=
  if jw_tag t = 10 then (if 0 ≤ M t 7 ∧ M t 7 < 4 then Option.bind (some (jw_up M (t + 6) (M t 7) a1)) (fun M2 => Option.bind (some (jw_up M2 t 7 (jw_w ((M2 t 7) + 1)))) (fun M4 => some M4)) else none) else none
set_option maxRecDepth 100000 in
theorem rX10_addWatcher (G : jw_G) (t : Nat) (a1 : Int) (ha1 : jw_r a1) (M : jw_M) : jw_Rn G YX10_addWatcher 1 0 0 true (fun M1 => (0, M1)) 0 [(0, jR G t), (1, jI a1)] [] M (fX10_addWatcher t a1 M) := by
  unfold fX10_addWatcher
  refine jw_ck (fun ht => ?_)
  refine jw_aloadR (pc := 0) 0 dX10_addWatcher_0 rfl ?_
  refine jw_getR (pc := 1) (j := 8) rfl dX10_addWatcher_1 jv_10 ji_10 (Or.inl jt_168) ht (jn_10 ht) (by decide) (by decide) rfl (jf_10_8 ht).1 ?_
  refine jw_aloadR (pc := 4) 0 dX10_addWatcher_4 rfl ?_
  refine jw_getI (pc := 5) (j := 7) rfl dX10_addWatcher_5 jv_10 ji_10 (Or.inl jt_165) ht (jn_10 ht) (by decide) (by decide) (jw_ho ht (by decide)) (Or.inl rfl) rfl (fun h1 => ?_)
  refine jw_iload_n (pc := 8) 1 dX10_addWatcher_8 rfl ?_
  refine jw_iast (pc := 9) dX10_addWatcher_9 (jf_10_8 ht).2.1 (jf_10_8 ht).2.2 (jw_ho (jf_10_8 ht).2.1 (by decide)) h1 ha1 rfl ?_
  refine jw_letM (fun M2 => ?_)
  refine jw_aloadR (pc := 10) 0 dX10_addWatcher_10 rfl ?_
  refine jw_dup (pc := 11) dX10_addWatcher_11 rfl ?_
  refine jw_getI (pc := 12) (j := 7) rfl dX10_addWatcher_12 jv_10 ji_10 (Or.inl jt_165) ht (jn_10 ht) (by decide) (by decide) (jw_ho ht (by decide)) (Or.inl rfl) rfl (fun h3 => ?_)
  refine jw_iconst (pc := 15) dX10_addWatcher_15 ?_
  refine jw_iadd (pc := 16) dX10_addWatcher_16 ?_
  refine jw_putI (pc := 17) (j := 7) tyX10 rfl dX10_addWatcher_17 jv_10 ji_10 tyX10_ok nmX10 (Or.inl jt_165) rfl ht (jn_10 ht) (by decide) (by decide) (jw_ho ht (by decide)) rfl rfl (jw_wr _) rfl ?_
  refine jw_letM (fun M4 => ?_)
  exact jw_ret (pc := 20) (v := 0) dX10_addWatcher_20 trivial rfl rfl
theorem kX10_addWatcher (G : jw_G) (t : Nat) (a1 : Int) (ha1 : jw_r a1) (M : jw_M) : jw_Ct G YX10_addWatcher none 1 0 0 true (fun M1 => (0, M1)) yX10_addWatcher [jR G t, jI a1] M (fX10_addWatcher t a1 M) := jw_met (by decide) rfl rfl rfl (Nat.le_of_ble_eq_true rfl) (rX10_addWatcher G t a1 ha1 M)
abbrev YX10_isGoods : jw_Y := (RX10, cX10_isGoods, 2, 4, "isGoods")
theorem qX10_isGoods : jw_cy YX10_isGoods (some .boolean) yX10_isGoods 1 := ⟨by decide, jt_931, jt_7, by decide, by decide +kernel⟩
theorem dX10_isGoods_0 : decode cX10_isGoods 0 = .ok (.iload_n 1, 1) := by decide +kernel
theorem dX10_isGoods_1 : decode cX10_isGoods 1 = .ok (.ifCond .lt 15, 3) := by decide +kernel
theorem dX10_isGoods_4 : decode cX10_isGoods 4 = .ok (.iload_n 1, 1) := by decide +kernel
theorem dX10_isGoods_5 : decode cX10_isGoods 5 = .ok (.aload_n 0, 1) := by decide +kernel
theorem dX10_isGoods_6 : decode cX10_isGoods 6 = .ok (.getfield 30, 3) := by decide +kernel
theorem dX10_isGoods_9 : decode cX10_isGoods 9 = .ok (.if_icmp .ge 7, 3) := by decide +kernel
theorem dX10_isGoods_12 : decode cX10_isGoods 12 = .ok (.iconst 1, 1) := by decide +kernel
theorem dX10_isGoods_13 : decode cX10_isGoods 13 = .ok (.goto 4, 3) := by decide +kernel
theorem dX10_isGoods_16 : decode cX10_isGoods 16 = .ok (.iconst 0, 1) := by decide +kernel
theorem dX10_isGoods_17 : decode cX10_isGoods 17 = .ok (.ireturn, 1) := by decide +kernel
def fX10_isGoods (t : Nat) (a1 : Int) (M : jw_M) : Option Int :=
  if jw_tag t = 10 then (if a1 < 0 then (some 0) else (if a1 < M t 0 then (some 1) else (some 0))) else none
set_option maxRecDepth 100000 in
theorem rX10_isGoods (G : jw_G) (t : Nat) (a1 : Int) (ha1 : jw_r a1) (M : jw_M) : jw_Rn G YX10_isGoods 1 0 0 true (fun v => (v, M)) 0 [(0, jR G t), (1, jI a1)] [] M (fX10_isGoods t a1 M) := by
  unfold fX10_isGoods
  refine jw_ck (fun ht => ?_)
  refine jw_iload_n (pc := 0) 1 dX10_isGoods_0 rfl ?_
  refine jw_if_lt (pc := 1) 16 dX10_isGoods_1 (by decide) ha1 (fun _ => ?_) (fun _ => ?_)
  · refine jw_iconst (pc := 16) dX10_isGoods_16 ?_
    exact jw_ret (pc := 17) (v := 0) dX10_isGoods_17 (Or.inl rfl) rfl rfl
  · refine jw_iload_n (pc := 4) 1 dX10_isGoods_4 rfl ?_
    refine jw_aloadR (pc := 5) 0 dX10_isGoods_5 rfl ?_
    refine jw_getI (pc := 6) (j := 0) rfl dX10_isGoods_6 jv_10 ji_10 (Or.inl jt_146) ht (jn_10 ht) (by decide) (by decide) (jw_ho ht (by decide)) (Or.inl rfl) rfl (fun h1 => ?_)
    refine jw_ic_ge (pc := 9) 16 dX10_isGoods_9 (by decide) ha1 h1 (fun _ => ?_) (fun _ => ?_)
    · refine jw_iconst (pc := 12) dX10_isGoods_12 ?_
      refine jw_goto (pc := 13) 17 dX10_isGoods_13 (by decide) ?_
      exact jw_ret (pc := 17) (v := 1) dX10_isGoods_17 (Or.inr rfl) rfl rfl
    · refine jw_iconst (pc := 16) dX10_isGoods_16 ?_
      exact jw_ret (pc := 17) (v := 0) dX10_isGoods_17 (Or.inl rfl) rfl rfl
theorem kX10_isGoods (G : jw_G) (t : Nat) (a1 : Int) (ha1 : jw_r a1) (M : jw_M) : jw_Ct G YX10_isGoods (some .boolean) 1 0 0 true (fun v => (v, M)) yX10_isGoods [jR G t, jI a1] M (fX10_isGoods t a1 M) := jw_met (by decide) rfl rfl rfl (Nat.le_of_ble_eq_true rfl) (rX10_isGoods G t a1 ha1 M)
abbrev YX10_isSeller : jw_Y := (RX10, cX10_isSeller, 2, 4, "isSeller")
theorem qX10_isSeller : jw_cy YX10_isSeller (some .boolean) yX10_isSeller 1 := ⟨by decide, jt_756, jt_7, by decide, by decide +kernel⟩
theorem dX10_isSeller_0 : decode cX10_isSeller 0 = .ok (.iload_n 1, 1) := by decide +kernel
theorem dX10_isSeller_1 : decode cX10_isSeller 1 = .ok (.ifCond .lt 15, 3) := by decide +kernel
theorem dX10_isSeller_4 : decode cX10_isSeller 4 = .ok (.iload_n 1, 1) := by decide +kernel
theorem dX10_isSeller_5 : decode cX10_isSeller 5 = .ok (.aload_n 0, 1) := by decide +kernel
theorem dX10_isSeller_6 : decode cX10_isSeller 6 = .ok (.getfield 34, 3) := by decide +kernel
theorem dX10_isSeller_9 : decode cX10_isSeller 9 = .ok (.if_icmp .ge 7, 3) := by decide +kernel
theorem dX10_isSeller_12 : decode cX10_isSeller 12 = .ok (.iconst 1, 1) := by decide +kernel
theorem dX10_isSeller_13 : decode cX10_isSeller 13 = .ok (.goto 4, 3) := by decide +kernel
theorem dX10_isSeller_16 : decode cX10_isSeller 16 = .ok (.iconst 0, 1) := by decide +kernel
theorem dX10_isSeller_17 : decode cX10_isSeller 17 = .ok (.ireturn, 1) := by decide +kernel
def fX10_isSeller (t : Nat) (a1 : Int) (M : jw_M) : Option Int :=
  if jw_tag t = 10 then (if a1 < 0 then (some 0) else (if a1 < M t 4 then (some 1) else (some 0))) else none
set_option maxRecDepth 100000 in
theorem rX10_isSeller (G : jw_G) (t : Nat) (a1 : Int) (ha1 : jw_r a1) (M : jw_M) : jw_Rn G YX10_isSeller 1 0 0 true (fun v => (v, M)) 0 [(0, jR G t), (1, jI a1)] [] M (fX10_isSeller t a1 M) := by
  unfold fX10_isSeller
  refine jw_ck (fun ht => ?_)
  refine jw_iload_n (pc := 0) 1 dX10_isSeller_0 rfl ?_
  refine jw_if_lt (pc := 1) 16 dX10_isSeller_1 (by decide) ha1 (fun _ => ?_) (fun _ => ?_)
  · refine jw_iconst (pc := 16) dX10_isSeller_16 ?_
    exact jw_ret (pc := 17) (v := 0) dX10_isSeller_17 (Or.inl rfl) rfl rfl
  · refine jw_iload_n (pc := 4) 1 dX10_isSeller_4 rfl ?_
    refine jw_aloadR (pc := 5) 0 dX10_isSeller_5 rfl ?_
    refine jw_getI (pc := 6) (j := 4) rfl dX10_isSeller_6 jv_10 ji_10 (Or.inl jt_152) ht (jn_10 ht) (by decide) (by decide) (jw_ho ht (by decide)) (Or.inl rfl) rfl (fun h1 => ?_)
    refine jw_ic_ge (pc := 9) 16 dX10_isSeller_9 (by decide) ha1 h1 (fun _ => ?_) (fun _ => ?_)
    · refine jw_iconst (pc := 12) dX10_isSeller_12 ?_
      refine jw_goto (pc := 13) 17 dX10_isSeller_13 (by decide) ?_
      exact jw_ret (pc := 17) (v := 1) dX10_isSeller_17 (Or.inr rfl) rfl rfl
    · refine jw_iconst (pc := 16) dX10_isSeller_16 ?_
      exact jw_ret (pc := 17) (v := 0) dX10_isSeller_17 (Or.inl rfl) rfl rfl
theorem kX10_isSeller (G : jw_G) (t : Nat) (a1 : Int) (ha1 : jw_r a1) (M : jw_M) : jw_Ct G YX10_isSeller (some .boolean) 1 0 0 true (fun v => (v, M)) yX10_isSeller [jR G t, jI a1] M (fX10_isSeller t a1 M) := jw_met (by decide) rfl rfl rfl (Nat.le_of_ble_eq_true rfl) (rX10_isSeller G t a1 ha1 M)
abbrev YX10_isWatcher : jw_Y := (RX10, cX10_isWatcher, 2, 4, "isWatcher")
theorem qX10_isWatcher : jw_cy YX10_isWatcher (some .boolean) yX10_isWatcher 1 := ⟨by decide, jt_780, jt_7, by decide, by decide +kernel⟩
theorem dX10_isWatcher_0 : decode cX10_isWatcher 0 = .ok (.iload_n 1, 1) := by decide +kernel
theorem dX10_isWatcher_1 : decode cX10_isWatcher 1 = .ok (.ifCond .lt 15, 3) := by decide +kernel
theorem dX10_isWatcher_4 : decode cX10_isWatcher 4 = .ok (.iload_n 1, 1) := by decide +kernel
theorem dX10_isWatcher_5 : decode cX10_isWatcher 5 = .ok (.aload_n 0, 1) := by decide +kernel
theorem dX10_isWatcher_6 : decode cX10_isWatcher 6 = .ok (.getfield 37, 3) := by decide +kernel
theorem dX10_isWatcher_9 : decode cX10_isWatcher 9 = .ok (.if_icmp .ge 7, 3) := by decide +kernel
theorem dX10_isWatcher_12 : decode cX10_isWatcher 12 = .ok (.iconst 1, 1) := by decide +kernel
theorem dX10_isWatcher_13 : decode cX10_isWatcher 13 = .ok (.goto 4, 3) := by decide +kernel
theorem dX10_isWatcher_16 : decode cX10_isWatcher 16 = .ok (.iconst 0, 1) := by decide +kernel
theorem dX10_isWatcher_17 : decode cX10_isWatcher 17 = .ok (.ireturn, 1) := by decide +kernel
def fX10_isWatcher (t : Nat) (a1 : Int) (M : jw_M) : Option Int :=
  if jw_tag t = 10 then (if a1 < 0 then (some 0) else (if a1 < M t 7 then (some 1) else (some 0))) else none
set_option maxRecDepth 100000 in
theorem rX10_isWatcher (G : jw_G) (t : Nat) (a1 : Int) (ha1 : jw_r a1) (M : jw_M) : jw_Rn G YX10_isWatcher 1 0 0 true (fun v => (v, M)) 0 [(0, jR G t), (1, jI a1)] [] M (fX10_isWatcher t a1 M) := by
  unfold fX10_isWatcher
  refine jw_ck (fun ht => ?_)
  refine jw_iload_n (pc := 0) 1 dX10_isWatcher_0 rfl ?_
  refine jw_if_lt (pc := 1) 16 dX10_isWatcher_1 (by decide) ha1 (fun _ => ?_) (fun _ => ?_)
  · refine jw_iconst (pc := 16) dX10_isWatcher_16 ?_
    exact jw_ret (pc := 17) (v := 0) dX10_isWatcher_17 (Or.inl rfl) rfl rfl
  · refine jw_iload_n (pc := 4) 1 dX10_isWatcher_4 rfl ?_
    refine jw_aloadR (pc := 5) 0 dX10_isWatcher_5 rfl ?_
    refine jw_getI (pc := 6) (j := 7) rfl dX10_isWatcher_6 jv_10 ji_10 (Or.inl jt_165) ht (jn_10 ht) (by decide) (by decide) (jw_ho ht (by decide)) (Or.inl rfl) rfl (fun h1 => ?_)
    refine jw_ic_ge (pc := 9) 16 dX10_isWatcher_9 (by decide) ha1 h1 (fun _ => ?_) (fun _ => ?_)
    · refine jw_iconst (pc := 12) dX10_isWatcher_12 ?_
      refine jw_goto (pc := 13) 17 dX10_isWatcher_13 (by decide) ?_
      exact jw_ret (pc := 17) (v := 1) dX10_isWatcher_17 (Or.inr rfl) rfl rfl
    · refine jw_iconst (pc := 16) dX10_isWatcher_16 ?_
      exact jw_ret (pc := 17) (v := 0) dX10_isWatcher_17 (Or.inl rfl) rfl rfl
theorem kX10_isWatcher (G : jw_G) (t : Nat) (a1 : Int) (ha1 : jw_r a1) (M : jw_M) : jw_Ct G YX10_isWatcher (some .boolean) 1 0 0 true (fun v => (v, M)) yX10_isWatcher [jR G t, jI a1] M (fX10_isWatcher t a1 M) := jw_met (by decide) rfl rfl rfl (Nat.le_of_ble_eq_true rfl) (rX10_isWatcher G t a1 ha1 M)
abbrev YX10_worthOf : jw_Y := (RX10, cX10_worthOf, 2, 1, "worthOf")
theorem qX10_worthOf : jw_cy YX10_worthOf (some .int) yX10_worthOf 1 := ⟨by decide, jt_768, jt_7, by decide, by decide +kernel⟩
theorem dX10_worthOf_0 : decode cX10_worthOf 0 = .ok (.aload_n 0, 1) := by decide +kernel
theorem dX10_worthOf_1 : decode cX10_worthOf 1 = .ok (.getfield 15, 3) := by decide +kernel
theorem dX10_worthOf_4 : decode cX10_worthOf 4 = .ok (.aload_n 0, 1) := by decide +kernel
theorem dX10_worthOf_5 : decode cX10_worthOf 5 = .ok (.getfield 21, 3) := by decide +kernel
theorem dX10_worthOf_8 : decode cX10_worthOf 8 = .ok (.iload_n 1, 1) := by decide +kernel
theorem dX10_worthOf_9 : decode cX10_worthOf 9 = .ok (.iaload, 1) := by decide +kernel
theorem dX10_worthOf_10 : decode cX10_worthOf 10 = .ok (.iaload, 1) := by decide +kernel
theorem dX10_worthOf_11 : decode cX10_worthOf 11 = .ok (.ireturn, 1) := by decide +kernel
def fX10_worthOf (t : Nat) (a1 : Int) (M : jw_M) : Option Int :=
  if jw_tag t = 10 then (if 0 ≤ a1 ∧ a1 < 5 then if 0 ≤ M (t + 4) a1 ∧ M (t + 4) a1 < 4 then some (M (t + 2) (M (t + 4) a1)) else none else none) else none
set_option maxRecDepth 100000 in
theorem rX10_worthOf (G : jw_G) (t : Nat) (a1 : Int) (ha1 : jw_r a1) (M : jw_M) : jw_Rn G YX10_worthOf 1 0 0 true (fun v => (v, M)) 0 [(0, jR G t), (1, jI a1)] [] M (fX10_worthOf t a1 M) := by
  unfold fX10_worthOf
  refine jw_ck (fun ht => ?_)
  refine jw_aloadR (pc := 0) 0 dX10_worthOf_0 rfl ?_
  refine jw_getR (pc := 1) (j := 2) rfl dX10_worthOf_1 jv_10 ji_10 (Or.inl jt_149) ht (jn_10 ht) (by decide) (by decide) rfl (jf_10_2 ht).1 ?_
  refine jw_aloadR (pc := 4) 0 dX10_worthOf_4 rfl ?_
  refine jw_getR (pc := 5) (j := 5) rfl dX10_worthOf_5 jv_10 ji_10 (Or.inl jt_156) ht (jn_10 ht) (by decide) (by decide) rfl (jf_10_5 ht).1 ?_
  refine jw_iload_n (pc := 8) 1 dX10_worthOf_8 rfl ?_
  refine jw_iald (pc := 9) dX10_worthOf_9 (jf_10_5 ht).2.1 (jf_10_5 ht).2.2 (jw_ho (jf_10_5 ht).2.1 (by decide)) ha1 rfl (fun h1 => ?_)
  refine jw_iald (pc := 10) dX10_worthOf_10 (jf_10_2 ht).2.1 (jf_10_2 ht).2.2 (jw_ho (jf_10_2 ht).2.1 (by decide)) h1 rfl (fun h2 => ?_)
  exact jw_ret (pc := 11) (v := M (t + 2) (M (t + 4) a1)) dX10_worthOf_11 h2 rfl rfl
theorem kX10_worthOf (G : jw_G) (t : Nat) (a1 : Int) (ha1 : jw_r a1) (M : jw_M) : jw_Ct G YX10_worthOf (some .int) 1 0 0 true (fun v => (v, M)) yX10_worthOf [jR G t, jI a1] M (fX10_worthOf t a1 M) := jw_met (by decide) rfl rfl rfl (Nat.le_of_ble_eq_true rfl) (rX10_worthOf G t a1 ha1 M)
abbrev YX10_fineOf : jw_Y := (RX10, cX10_fineOf, 2, 1, "fineOf")
theorem qX10_fineOf : jw_cy YX10_fineOf (some .int) yX10_fineOf 1 := ⟨by decide, jt_772, jt_7, by decide, by decide +kernel⟩
theorem dX10_fineOf_0 : decode cX10_fineOf 0 = .ok (.aload_n 0, 1) := by decide +kernel
theorem dX10_fineOf_1 : decode cX10_fineOf 1 = .ok (.getfield 18, 3) := by decide +kernel
theorem dX10_fineOf_4 : decode cX10_fineOf 4 = .ok (.aload_n 0, 1) := by decide +kernel
theorem dX10_fineOf_5 : decode cX10_fineOf 5 = .ok (.getfield 21, 3) := by decide +kernel
theorem dX10_fineOf_8 : decode cX10_fineOf 8 = .ok (.iload_n 1, 1) := by decide +kernel
theorem dX10_fineOf_9 : decode cX10_fineOf 9 = .ok (.iaload, 1) := by decide +kernel
theorem dX10_fineOf_10 : decode cX10_fineOf 10 = .ok (.iaload, 1) := by decide +kernel
theorem dX10_fineOf_11 : decode cX10_fineOf 11 = .ok (.ireturn, 1) := by decide +kernel
def fX10_fineOf (t : Nat) (a1 : Int) (M : jw_M) : Option Int :=
  if jw_tag t = 10 then (if 0 ≤ a1 ∧ a1 < 5 then if 0 ≤ M (t + 4) a1 ∧ M (t + 4) a1 < 4 then some (M (t + 3) (M (t + 4) a1)) else none else none) else none
set_option maxRecDepth 100000 in
theorem rX10_fineOf (G : jw_G) (t : Nat) (a1 : Int) (ha1 : jw_r a1) (M : jw_M) : jw_Rn G YX10_fineOf 1 0 0 true (fun v => (v, M)) 0 [(0, jR G t), (1, jI a1)] [] M (fX10_fineOf t a1 M) := by
  unfold fX10_fineOf
  refine jw_ck (fun ht => ?_)
  refine jw_aloadR (pc := 0) 0 dX10_fineOf_0 rfl ?_
  refine jw_getR (pc := 1) (j := 3) rfl dX10_fineOf_1 jv_10 ji_10 (Or.inl jt_150) ht (jn_10 ht) (by decide) (by decide) rfl (jf_10_3 ht).1 ?_
  refine jw_aloadR (pc := 4) 0 dX10_fineOf_4 rfl ?_
  refine jw_getR (pc := 5) (j := 5) rfl dX10_fineOf_5 jv_10 ji_10 (Or.inl jt_156) ht (jn_10 ht) (by decide) (by decide) rfl (jf_10_5 ht).1 ?_
  refine jw_iload_n (pc := 8) 1 dX10_fineOf_8 rfl ?_
  refine jw_iald (pc := 9) dX10_fineOf_9 (jf_10_5 ht).2.1 (jf_10_5 ht).2.2 (jw_ho (jf_10_5 ht).2.1 (by decide)) ha1 rfl (fun h1 => ?_)
  refine jw_iald (pc := 10) dX10_fineOf_10 (jf_10_3 ht).2.1 (jf_10_3 ht).2.2 (jw_ho (jf_10_3 ht).2.1 (by decide)) h1 rfl (fun h2 => ?_)
  exact jw_ret (pc := 11) (v := M (t + 3) (M (t + 4) a1)) dX10_fineOf_11 h2 rfl rfl
theorem kX10_fineOf (G : jw_G) (t : Nat) (a1 : Int) (ha1 : jw_r a1) (M : jw_M) : jw_Ct G YX10_fineOf (some .int) 1 0 0 true (fun v => (v, M)) yX10_fineOf [jR G t, jI a1] M (fX10_fineOf t a1 M) := jw_met (by decide) rfl rfl rfl (Nat.le_of_ble_eq_true rfl) (rX10_fineOf G t a1 ha1 M)
