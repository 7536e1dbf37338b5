abbrev YX2_clear : jw_Y := (RX2, cX2_clear, 1, 0, "clear")
theorem qX2_clear : jw_cy YX2_clear none yX2_clear 0 := ⟨by decide, jt_528, jt_10, by decide, by decide +kernel⟩
theorem dX2_clear_0 : decode cX2_clear 0 = .ok (.aload_n 0, 1) := by decide +kernel
theorem dX2_clear_1 : decode cX2_clear 1 = .ok (.getfield 11, 3) := by decide +kernel
theorem dX2_clear_4 : decode cX2_clear 4 = .ok (.iconst 0, 1) := by decide +kernel
theorem dX2_clear_5 : decode cX2_clear 5 = .ok (.invokestatic 18, 3) := by decide +kernel
theorem dX2_clear_8 : decode cX2_clear 8 = .ok (.return_, 1) := by decide +kernel
def fX2_clear (t : Nat) (M : jw_M) : Option jw_M :=
  if jw_tag t = 2 then (Option.bind (fJ7_fill_53178 (t + 1) 0 M) (fun M1 => some M1)) else none
set_option maxRecDepth 100000 in
theorem rX2_clear (G : jw_G) (t : Nat) (M : jw_M) : jw_Rn G YX2_clear 2 0 0 true (fun M1 => (0, M1)) 0 [(0, jR G t)] [] M (fX2_clear t M) := by
  unfold fX2_clear
  refine jw_ck (fun ht => ?_)
  refine jw_aloadR (pc := 0) 0 dX2_clear_0 rfl ?_
  refine jw_getR (pc := 1) (j := 0) rfl dX2_clear_1 jv_2 ji_2 (Or.inl jt_249) ht (jn_2 ht) (by decide) (by decide) rfl (jf_2_0 ht).1 ?_
  refine jw_iconst (pc := 4) dX2_clear_4 ?_
  refine jw_callSM (pc := 5) (As := [jR G (t + 1), jI 0]) (st := []) dX2_clear_5 rfl (Nat.le_of_ble_eq_true rfl) qJ7_fill_53178 jt_529 jt_37 rfl rfl (Nat.le_of_ble_eq_true rfl) (kJ7_fill_53178 G (t + 1) 0 (jw_rc _ rfl) M) (fun M1 => ?_)
  exact jw_ret (pc := 8) (v := 0) dX2_clear_8 trivial rfl rfl
theorem kX2_clear (G : jw_G) (t : Nat) (M : jw_M) : jw_Ct G YX2_clear none 2 0 0 true (fun M1 => (0, M1)) yX2_clear [jR G t] M (fX2_clear t M) := jw_met (by decide) rfl rfl rfl (Nat.le_of_ble_eq_true rfl) (rX2_clear G t M)
abbrev YX2_takeFrom : jw_Y := (RX2, cX2_takeFrom, 2, 0, "takeFrom")
theorem qX2_takeFrom : jw_cy YX2_takeFrom none yX2_takeFrom 1 := ⟨by decide, jt_719, jt_10, by decide, by decide +kernel⟩
theorem dX2_takeFrom_0 : decode cX2_takeFrom 0 = .ok (.aload_n 1, 1) := by decide +kernel
theorem dX2_takeFrom_1 : decode cX2_takeFrom 1 = .ok (.getfield 11, 3) := by decide +kernel
theorem dX2_takeFrom_4 : decode cX2_takeFrom 4 = .ok (.iconst 0, 1) := by decide +kernel
theorem dX2_takeFrom_5 : decode cX2_takeFrom 5 = .ok (.aload_n 0, 1) := by decide +kernel
theorem dX2_takeFrom_6 : decode cX2_takeFrom 6 = .ok (.getfield 11, 3) := by decide +kernel
theorem dX2_takeFrom_9 : decode cX2_takeFrom 9 = .ok (.iconst 0, 1) := by decide +kernel
theorem dX2_takeFrom_10 : decode cX2_takeFrom 10 = .ok (.aload_n 0, 1) := by decide +kernel
theorem dX2_takeFrom_11 : decode cX2_takeFrom 11 = .ok (.getfield 11, 3) := by decide +kernel
theorem dX2_takeFrom_14 : decode cX2_takeFrom 14 = .ok (.arraylength, 1) := by decide +kernel
theorem dX2_takeFrom_15 : decode cX2_takeFrom 15 = .ok (.invokestatic 24, 3) := by decide +kernel
theorem dX2_takeFrom_18 : decode cX2_takeFrom 18 = .ok (.return_, 1) := by decide +kernel
def fX2_takeFrom (t : Nat) (a1 : Nat) (M : jw_M) : Option jw_M :=
  if jw_tag t = 2 then (if jw_tag a1 = 2 then (if 0 ≤ (0 : Int) ∧ 0 ≤ (0 : Int) ∧ 0 ≤ (25 : Int) ∧ (0 : Int) + 25 ≤ 25 ∧ (0 : Int) + 25 ≤ 25 then Option.bind (some (jw_cp M (a1 + 1) 0 (t + 1) 0 25)) (fun M1 => some M1) else none) else none) else none
set_option maxRecDepth 100000 in
theorem rX2_takeFrom (G : jw_G) (t : Nat) (a1 : Nat) (M : jw_M) : jw_Rn G YX2_takeFrom 2 0 0 true (fun M1 => (0, M1)) 0 [(0, jR G t), (1, jR G a1)] [] M (fX2_takeFrom t a1 M) := by
  unfold fX2_takeFrom
  refine jw_ck (fun ht => ?_)
  refine jw_ck (fun ha1 => ?_)
  refine jw_aloadR (pc := 0) 1 dX2_takeFrom_0 rfl ?_
  refine jw_getR (pc := 1) (j := 0) rfl dX2_takeFrom_1 jv_2 ji_2 (Or.inl jt_249) ha1 (jn_2 ha1) (by decide) (by decide) rfl (jf_2_0 ha1).1 ?_
  refine jw_iconst (pc := 4) dX2_takeFrom_4 ?_
  refine jw_aloadR (pc := 5) 0 dX2_takeFrom_5 rfl ?_
  refine jw_getR (pc := 6) (j := 0) rfl dX2_takeFrom_6 jv_2 ji_2 (Or.inl jt_249) ht (jn_2 ht) (by decide) (by decide) rfl (jf_2_0 ht).1 ?_
  refine jw_iconst (pc := 9) dX2_takeFrom_9 ?_
  refine jw_aloadR (pc := 10) 0 dX2_takeFrom_10 rfl ?_
  refine jw_getR (pc := 11) (j := 0) rfl dX2_takeFrom_11 jv_2 ji_2 (Or.inl jt_249) ht (jn_2 ht) (by decide) (by decide) rfl (jf_2_0 ht).1 ?_
  refine jw_alen (pc := 14) dX2_takeFrom_14 (jf_2_0 ht).2.1 (jf_2_0 ht).2.2 (jw_ho (jf_2_0 ht).2.1 (by decide)) rfl ?_
  refine jw_acopy (pc := 15) rfl dX2_takeFrom_15 jt_720 jt_467 jt_466 jt_15 (jf_2_0 ha1).2.1 (jf_2_0 ht).2.1 (jf_2_0 ha1).2.2 (jf_2_0 ht).2.2 (jw_ho (jf_2_0 ha1).2.1 (by decide)) (jw_ho (jf_2_0 ht).2.1 (by decide)) (jw_rc _ rfl) (jw_rc _ rfl) (jw_rc _ rfl) rfl rfl (by decide) (Nat.le_of_ble_eq_true rfl) ?_
  refine jw_letM (fun M1 => ?_)
  exact jw_ret (pc := 18) (v := 0) dX2_takeFrom_18 trivial rfl rfl
theorem kX2_takeFrom (G : jw_G) (t : Nat) (a1 : Nat) (M : jw_M) : jw_Ct G YX2_takeFrom none 2 0 0 true (fun M1 => (0, M1)) yX2_takeFrom [jR G t, jR G a1] M (fX2_takeFrom t a1 M) := jw_met (by decide) rfl rfl rfl (Nat.le_of_ble_eq_true rfl) (rX2_takeFrom G t a1 M)
abbrev YX2_sumOf : jw_Y := (RX2, cX2_sumOf, 3, 1, "sumOf")
theorem qX2_sumOf : jw_cy YX2_sumOf (some .int) yX2_sumOf 2 := ⟨by decide, jt_1107, jt_10, by decide, by decide +kernel⟩
theorem dX2_sumOf_0 : decode cX2_sumOf 0 = .ok (.aload_n 0, 1) := by decide +kernel
theorem dX2_sumOf_1 : decode cX2_sumOf 1 = .ok (.getfield 11, 3) := by decide +kernel
theorem dX2_sumOf_4 : decode cX2_sumOf 4 = .ok (.iload_n 1, 1) := by decide +kernel
theorem dX2_sumOf_5 : decode cX2_sumOf 5 = .ok (.iconst 5, 1) := by decide +kernel
theorem dX2_sumOf_6 : decode cX2_sumOf 6 = .ok (.imul, 1) := by decide +kernel
theorem dX2_sumOf_7 : decode cX2_sumOf 7 = .ok (.iload_n 2, 1) := by decide +kernel
theorem dX2_sumOf_8 : decode cX2_sumOf 8 = .ok (.iadd, 1) := by decide +kernel
theorem dX2_sumOf_9 : decode cX2_sumOf 9 = .ok (.iaload, 1) := by decide +kernel
theorem dX2_sumOf_10 : decode cX2_sumOf 10 = .ok (.ireturn, 1) := by decide +kernel
def fX2_sumOf (t : Nat) (a1 : Int) (a2 : Int) (M : jw_M) : Option Int :=
  if jw_tag t = 2 then (if 0 ≤ jw_w ((jw_w (a1 * 5)) + a2) ∧ jw_w ((jw_w (a1 * 5)) + a2) < 25 then some (M (t + 1) (jw_w ((jw_w (a1 * 5)) + a2))) else none) else none
set_option maxRecDepth 100000 in
theorem rX2_sumOf (G : jw_G) (t : Nat) (a1 : Int) (a2 : Int) (ha1 : jw_r a1) (ha2 : jw_r a2) (M : jw_M) : jw_Rn G YX2_sumOf 1 0 0 true (fun v => (v, M)) 0 [(0, jR G t), (1, jI a1), (2, jI a2)] [] M (fX2_sumOf t a1 a2 M) := by
  unfold fX2_sumOf
  refine jw_ck (fun ht => ?_)
  refine jw_aloadR (pc := 0) 0 dX2_sumOf_0 rfl ?_
  refine jw_getR (pc := 1) (j := 0) rfl dX2_sumOf_1 jv_2 ji_2 (Or.inl jt_249) ht (jn_2 ht) (by decide) (by decide) rfl (jf_2_0 ht).1 ?_
  refine jw_iload_n (pc := 4) 1 dX2_sumOf_4 rfl ?_
  refine jw_iconst (pc := 5) dX2_sumOf_5 ?_
  refine jw_imul (pc := 6) dX2_sumOf_6 ?_
  refine jw_iload_n (pc := 7) 2 dX2_sumOf_7 rfl ?_
  refine jw_iadd (pc := 8) dX2_sumOf_8 ?_
  refine jw_iald (pc := 9) dX2_sumOf_9 (jf_2_0 ht).2.1 (jf_2_0 ht).2.2 (jw_ho (jf_2_0 ht).2.1 (by decide)) (jw_wr _) rfl (fun h1 => ?_)
  exact jw_ret (pc := 10) (v := M (t + 1) (jw_w ((jw_w (a1 * 5)) + a2))) dX2_sumOf_10 h1 rfl rfl
theorem kX2_sumOf (G : jw_G) (t : Nat) (a1 : Int) (a2 : Int) (ha1 : jw_r a1) (ha2 : jw_r a2) (M : jw_M) : jw_Ct G YX2_sumOf (some .int) 1 0 0 true (fun v => (v, M)) yX2_sumOf [jR G t, jI a1, jI a2] M (fX2_sumOf t a1 a2 M) := jw_met (by decide) rfl rfl rfl (Nat.le_of_ble_eq_true rfl) (rX2_sumOf G t a1 a2 ha1 ha2 M)
abbrev YX2_change : jw_Y := (RX2, cX2_change, 4, 0, "change")
theorem qX2_change : jw_cy YX2_change none yX2_change 3 := ⟨by decide, jt_1111, jt_10, by decide, by decide +kernel⟩
theorem dX2_change_0 : decode cX2_change 0 = .ok (.aload_n 0, 1) := by decide +kernel
theorem dX2_change_1 : decode cX2_change 1 = .ok (.getfield 11, 3) := by decide +kernel
theorem dX2_change_4 : decode cX2_change 4 = .ok (.iload_n 1, 1) := by decide +kernel
theorem dX2_change_5 : decode cX2_change 5 = .ok (.iconst 5, 1) := by decide +kernel
theorem dX2_change_6 : decode cX2_change 6 = .ok (.imul, 1) := by decide +kernel
theorem dX2_change_7 : decode cX2_change 7 = .ok (.iload_n 2, 1) := by decide +kernel
theorem dX2_change_8 : decode cX2_change 8 = .ok (.iadd, 1) := by decide +kernel
theorem dX2_change_9 : decode cX2_change 9 = .ok (.dup2, 1) := by decide +kernel
theorem dX2_change_10 : decode cX2_change 10 = .ok (.iaload, 1) := by decide +kernel
theorem dX2_change_11 : decode cX2_change 11 = .ok (.iload_n 3, 1) := by decide +kernel
theorem dX2_change_12 : decode cX2_change 12 = .ok (.iadd, 1) := by decide +kernel
theorem dX2_change_13 : decode cX2_change 13 = .ok (.iastore, 1) := by decide +kernel
theorem dX2_change_14 : decode cX2_change 14 = .ok (.return_, 1) := by decide +kernel
def fX2_change (t : Nat) (a1 : Int) (a2 : Int) (a3 : Int) (M : jw_M) : Option jw_M :=
  if jw_tag t = 2 then (if 0 ≤ jw_w ((jw_w (a1 * 5)) + a2) ∧ jw_w ((jw_w (a1 * 5)) + a2) < 25 then if 0 ≤ jw_w ((jw_w (a1 * 5)) + a2) ∧ jw_w ((jw_w (a1 * 5)) + a2) < 25 then Option.bind (some (jw_up M (t + 1) (jw_w ((jw_w (a1 * 5)) + a2)) (jw_w ((M (t + 1) (jw_w ((jw_w (a1 * 5)) + a2))) + a3)))) (fun M2 => some M2) else none else none) else none
set_option maxRecDepth 100000 in
theorem rX2_change (G : jw_G) (t : Nat) (a1 : Int) (a2 : Int) (a3 : Int) (ha1 : jw_r a1) (ha2 : jw_r a2) (ha3 : jw_r a3) (M : jw_M) : jw_Rn G YX2_change 1 0 0 true (fun M1 => (0, M1)) 0 [(0, jR G t), (1, jI a1), (2, jI a2), (3, jI a3)] [] M (fX2_change t a1 a2 a3 M) := by
  unfold fX2_change
  refine jw_ck (fun ht => ?_)
  refine jw_aloadR (pc := 0) 0 dX2_change_0 rfl ?_
  refine jw_getR (pc := 1) (j := 0) rfl dX2_change_1 jv_2 ji_2 (Or.inl jt_249) ht (jn_2 ht) (by decide) (by decide) rfl (jf_2_0 ht).1 ?_
  refine jw_iload_n (pc := 4) 1 dX2_change_4 rfl ?_
  refine jw_iconst (pc := 5) dX2_change_5 ?_
  refine jw_imul (pc := 6) dX2_change_6 ?_
  refine jw_iload_n (pc := 7) 2 dX2_change_7 rfl ?_
  refine jw_iadd (pc := 8) dX2_change_8 ?_
  refine jw_dup2 (pc := 9) dX2_change_9 rfl rfl ?_
  refine jw_iald (pc := 10) dX2_change_10 (jf_2_0 ht).2.1 (jf_2_0 ht).2.2 (jw_ho (jf_2_0 ht).2.1 (by decide)) (jw_wr _) rfl (fun h1 => ?_)
  refine jw_iload_n (pc := 11) 3 dX2_change_11 rfl ?_
  refine jw_iadd (pc := 12) dX2_change_12 ?_
  refine jw_iast (pc := 13) dX2_change_13 (jf_2_0 ht).2.1 (jf_2_0 ht).2.2 (jw_ho (jf_2_0 ht).2.1 (by decide)) (jw_wr _) (jw_wr _) rfl ?_
  refine jw_letM (fun M2 => ?_)
  exact jw_ret (pc := 14) (v := 0) dX2_change_14 trivial rfl rfl
theorem kX2_change (G : jw_G) (t : Nat) (a1 : Int) (a2 : Int) (a3 : Int) (ha1 : jw_r a1) (ha2 : jw_r a2) (ha3 : jw_r a3) (M : jw_M) : jw_Ct G YX2_change none 1 0 0 true (fun M1 => (0, M1)) yX2_change [jR G t, jI a1, jI a2, jI a3] M (fX2_change t a1 a2 a3 M) := jw_met (by decide) rfl rfl rfl (Nat.le_of_ble_eq_true rfl) (rX2_change G t a1 a2 a3 ha1 ha2 ha3 M)
abbrev YX2_isInRing : jw_Y := (RX2, cX2_isInRing, 4, 4, "isInRing")
theorem qX2_isInRing : jw_cy YX2_isInRing (some .boolean) yX2_isInRing 2 := ⟨by decide, jt_1136, jt_10, by decide, by decide +kernel⟩
theorem dX2_isInRing_0 : decode cX2_isInRing 0 = .ok (.iconst 0, 1) := by decide +kernel
theorem dX2_isInRing_1 : decode cX2_isInRing 1 = .ok (.istore_n 3, 1) := by decide +kernel
theorem dX2_isInRing_2 : decode cX2_isInRing 2 = .ok (.iload_n 3, 1) := by decide +kernel
theorem dX2_isInRing_3 : decode cX2_isInRing 3 = .ok (.iload_n 2, 1) := by decide +kernel
theorem dX2_isInRing_4 : decode cX2_isInRing 4 = .ok (.if_icmp .ge 21, 3) := by decide +kernel
theorem dX2_isInRing_7 : decode cX2_isInRing 7 = .ok (.aload_n 0, 1) := by decide +kernel
theorem dX2_isInRing_8 : decode cX2_isInRing 8 = .ok (.getfield 15, 3) := by decide +kernel
theorem dX2_isInRing_11 : decode cX2_isInRing 11 = .ok (.iload_n 3, 1) := by decide +kernel
theorem dX2_isInRing_12 : decode cX2_isInRing 12 = .ok (.iaload, 1) := by decide +kernel
theorem dX2_isInRing_13 : decode cX2_isInRing 13 = .ok (.iload_n 1, 1) := by decide +kernel
theorem dX2_isInRing_14 : decode cX2_isInRing 14 = .ok (.if_icmp .ne 5, 3) := by decide +kernel
theorem dX2_isInRing_17 : decode cX2_isInRing 17 = .ok (.iconst 1, 1) := by decide +kernel
theorem dX2_isInRing_18 : decode cX2_isInRing 18 = .ok (.ireturn, 1) := by decide +kernel
theorem dX2_isInRing_19 : decode cX2_isInRing 19 = .ok (.iinc 3 1, 3) := by decide +kernel
theorem dX2_isInRing_22 : decode cX2_isInRing 22 = .ok (.goto (-20), 3) := by decide +kernel
theorem dX2_isInRing_25 : decode cX2_isInRing 25 = .ok (.iconst 0, 1) := by decide +kernel
theorem dX2_isInRing_26 : decode cX2_isInRing 26 = .ok (.ireturn, 1) := by decide +kernel
def fX2_isInRing_2 (t : Nat) (M : jw_M) : Nat → Int → Int → Int → Option Int
  | 0, _, _, _ => none
  | k + 1, x1, x2, x3 => if x3 < x2 then (if 0 ≤ x3 ∧ x3 < 5 then if M (t + 2) x3 = x1 then (some 1) else (Option.bind (some (jw_w (x3 + 1))) (fun v3 => fX2_isInRing_2 t M k x1 x2 v3)) else none) else (some 0)
set_option maxRecDepth 100000 in
theorem pX2_isInRing_2 (G : jw_G) (t : Nat) (ht : jw_tag t = 2) (M : jw_M) : ∀ (k : Nat) (x1 : Int) (x2 : Int) (x3 : Int) (hx1 : jw_r x1) (hx2 : jw_r x2) (hx3 : jw_r x3), jw_Rn G YX2_isInRing 1 0 0 true (fun v => (v, M)) 2 [(0, jR G t), (1, jI x1), (2, jI x2), (3, jI x3)] [] M (fX2_isInRing_2 t M k x1 x2 x3) := by
  intro k
  induction k with
  | zero =>
    intro x1 x2 x3 hx1 hx2 hx3
    exact jw_none
  | succ k ih =>
    intro x1 x2 x3 hx1 hx2 hx3
    rw [fX2_isInRing_2]
    refine jw_iload_n (pc := 2) 3 dX2_isInRing_2 rfl ?_
    refine jw_iload_n (pc := 3) 2 dX2_isInRing_3 rfl ?_
    refine jw_ic_ge (pc := 4) 25 dX2_isInRing_4 (by decide) hx3 hx2 (fun _ => ?_) (fun _ => ?_)
    · refine jw_aloadR (pc := 7) 0 dX2_isInRing_7 rfl ?_
      refine jw_getR (pc := 8) (j := 1) rfl dX2_isInRing_8 jv_2 ji_2 (Or.inl jt_250) ht (jn_2 ht) (by decide) (by decide) rfl (jf_2_1 ht).1 ?_
      refine jw_iload_n (pc := 11) 3 dX2_isInRing_11 rfl ?_
      refine jw_iald (pc := 12) dX2_isInRing_12 (jf_2_1 ht).2.1 (jf_2_1 ht).2.2 (jw_ho (jf_2_1 ht).2.1 (by decide)) hx3 rfl (fun h2 => ?_)
      refine jw_iload_n (pc := 13) 1 dX2_isInRing_13 rfl ?_
      refine jw_ic_ne (pc := 14) 19 dX2_isInRing_14 (by decide) h2 hx1 (fun _ => ?_) (fun _ => ?_)
      · refine jw_iconst (pc := 17) dX2_isInRing_17 ?_
        exact jw_ret (pc := 18) (v := 1) dX2_isInRing_18 (Or.inr rfl) rfl rfl
      · refine jw_iincL (pc := 19) 3 (lv' := (fun y => [(3, y), (0, jR G t), (1, jI x1), (2, jI x2)])) dX2_isInRing_19 rfl (Nat.le_of_ble_eq_true rfl) (fun _ => rfl) (fun v3 hv3 => ?_)
        refine jw_goto (pc := 22) 2 dX2_isInRing_22 (by decide) ?_
        exact jw_few [1, 2, 3, 0] rfl (ih x1 x2 v3 hx1 hx2 hv3)
    · refine jw_iconst (pc := 25) dX2_isInRing_25 ?_
      exact jw_ret (pc := 26) (v := 0) dX2_isInRing_26 (Or.inl rfl) rfl rfl
def fX2_isInRing (t : Nat) (a1 : Int) (a2 : Int) (M : jw_M) : Option Int :=
  if jw_tag t = 2 then (Option.bind (some 0) (fun v1 => fX2_isInRing_2 t M jw_fu a1 a2 v1)) else none
set_option maxRecDepth 100000 in
theorem rX2_isInRing (G : jw_G) (t : Nat) (a1 : Int) (a2 : Int) (ha1 : jw_r a1) (ha2 : jw_r a2) (M : jw_M) : jw_Rn G YX2_isInRing 1 0 0 true (fun v => (v, M)) 0 [(0, jR G t), (1, jI a1), (2, jI a2)] [] M (fX2_isInRing t a1 a2 M) := by
  unfold fX2_isInRing
  refine jw_ck (fun ht => ?_)
  refine jw_iconst (pc := 0) dX2_isInRing_0 ?_
  refine jw_istore_nL (pc := 1) (lv' := (fun y => [(3, y), (0, jR G t), (1, jI a1), (2, jI a2)])) dX2_isInRing_1 (jw_rc _ rfl) (by decide) (fun _ => rfl) (fun v1 hv1 => ?_)
  exact jw_few [1, 2, 3, 0] rfl (pX2_isInRing_2 G t ht M jw_fu a1 a2 v1 ha1 ha2 hv1)
theorem kX2_isInRing (G : jw_G) (t : Nat) (a1 : Int) (a2 : Int) (ha1 : jw_r a1) (ha2 : jw_r a2) (M : jw_M) : jw_Ct G YX2_isInRing (some .boolean) 1 0 0 true (fun v => (v, M)) yX2_isInRing [jR G t, jI a1, jI a2] M (fX2_isInRing t a1 a2 M) := jw_met (by decide) rfl rfl rfl (Nat.le_of_ble_eq_true rfl) (rX2_isInRing G t a1 a2 ha1 ha2 M)
abbrev YX2_closes : jw_Y := (RX2, cX2_closes, 6, 4, "closes")
theorem qX2_closes : jw_cy YX2_closes (some .boolean) yX2_closes 3 := ⟨by decide, jt_1131, jt_10, by decide, by decide +kernel⟩
theorem dX2_closes_0 : decode cX2_closes 0 = .ok (.iload_n 3, 1) := by decide +kernel
theorem dX2_closes_1 : decode cX2_closes 1 = .ok (.iconst 1, 1) := by decide +kernel
theorem dX2_closes_2 : decode cX2_closes 2 = .ok (.if_icmp .lt 13, 3) := by decide +kernel
theorem dX2_closes_5 : decode cX2_closes 5 = .ok (.iload_n 3, 1) := by decide +kernel
theorem dX2_closes_6 : decode cX2_closes 6 = .ok (.iload_n 2, 1) := by decide +kernel
theorem dX2_closes_7 : decode cX2_closes 7 = .ok (.if_icmp .gt 8, 3) := by decide +kernel
theorem dX2_closes_10 : decode cX2_closes 10 = .ok (.iload_n 2, 1) := by decide +kernel
theorem dX2_closes_11 : decode cX2_closes 11 = .ok (.iconst 5, 1) := by decide +kernel
theorem dX2_closes_12 : decode cX2_closes 12 = .ok (.if_icmp .le 5, 3) := by decide +kernel
theorem dX2_closes_15 : decode cX2_closes 15 = .ok (.iconst 0, 1) := by decide +kernel
theorem dX2_closes_16 : decode cX2_closes 16 = .ok (.ireturn, 1) := by decide +kernel
theorem dX2_closes_17 : decode cX2_closes 17 = .ok (.aload_n 0, 1) := by decide +kernel
theorem dX2_closes_18 : decode cX2_closes 18 = .ok (.getfield 15, 3) := by decide +kernel
theorem dX2_closes_21 : decode cX2_closes 21 = .ok (.iload_n 3, 1) := by decide +kernel
theorem dX2_closes_22 : decode cX2_closes 22 = .ok (.iconst 1, 1) := by decide +kernel
theorem dX2_closes_23 : decode cX2_closes 23 = .ok (.isub, 1) := by decide +kernel
theorem dX2_closes_24 : decode cX2_closes 24 = .ok (.iaload, 1) := by decide +kernel
theorem dX2_closes_25 : decode cX2_closes 25 = .ok (.istore 4, 2) := by decide +kernel
theorem dX2_closes_27 : decode cX2_closes 27 = .ok (.iload_n 3, 1) := by decide +kernel
theorem dX2_closes_28 : decode cX2_closes 28 = .ok (.iload_n 2, 1) := by decide +kernel
theorem dX2_closes_29 : decode cX2_closes 29 = .ok (.if_icmp .ne 24, 3) := by decide +kernel
theorem dX2_closes_32 : decode cX2_closes 32 = .ok (.aload_n 0, 1) := by decide +kernel
theorem dX2_closes_33 : decode cX2_closes 33 = .ok (.iload 4, 2) := by decide +kernel
theorem dX2_closes_35 : decode cX2_closes 35 = .ok (.aload_n 0, 1) := by decide +kernel
theorem dX2_closes_36 : decode cX2_closes 36 = .ok (.getfield 15, 3) := by decide +kernel
theorem dX2_closes_39 : decode cX2_closes 39 = .ok (.iconst 0, 1) := by decide +kernel
theorem dX2_closes_40 : decode cX2_closes 40 = .ok (.iaload, 1) := by decide +kernel
theorem dX2_closes_41 : decode cX2_closes 41 = .ok (.invokevirtual 42, 3) := by decide +kernel
theorem dX2_closes_44 : decode cX2_closes 44 = .ok (.ifCond .le 7, 3) := by decide +kernel
theorem dX2_closes_47 : decode cX2_closes 47 = .ok (.iconst 1, 1) := by decide +kernel
theorem dX2_closes_48 : decode cX2_closes 48 = .ok (.goto 4, 3) := by decide +kernel
theorem dX2_closes_51 : decode cX2_closes 51 = .ok (.iconst 0, 1) := by decide +kernel
theorem dX2_closes_52 : decode cX2_closes 52 = .ok (.ireturn, 1) := by decide +kernel
theorem dX2_closes_53 : decode cX2_closes 53 = .ok (.aload_n 0, 1) := by decide +kernel
theorem dX2_closes_54 : decode cX2_closes 54 = .ok (.getfield 15, 3) := by decide +kernel
theorem dX2_closes_57 : decode cX2_closes 57 = .ok (.iconst 0, 1) := by decide +kernel
theorem dX2_closes_58 : decode cX2_closes 58 = .ok (.iaload, 1) := by decide +kernel
theorem dX2_closes_59 : decode cX2_closes 59 = .ok (.iconst 1, 1) := by decide +kernel
theorem dX2_closes_60 : decode cX2_closes 60 = .ok (.iadd, 1) := by decide +kernel
theorem dX2_closes_61 : decode cX2_closes 61 = .ok (.istore 5, 2) := by decide +kernel
theorem dX2_closes_63 : decode cX2_closes 63 = .ok (.iload 5, 2) := by decide +kernel
theorem dX2_closes_65 : decode cX2_closes 65 = .ok (.iload_n 1, 1) := by decide +kernel
theorem dX2_closes_66 : decode cX2_closes 66 = .ok (.if_icmp .ge 52, 3) := by decide +kernel
theorem dX2_closes_69 : decode cX2_closes 69 = .ok (.aload_n 0, 1) := by decide +kernel
theorem dX2_closes_70 : decode cX2_closes 70 = .ok (.iload 4, 2) := by decide +kernel
theorem dX2_closes_72 : decode cX2_closes 72 = .ok (.iload 5, 2) := by decide +kernel
theorem dX2_closes_74 : decode cX2_closes 74 = .ok (.invokevirtual 42, 3) := by decide +kernel
theorem dX2_closes_77 : decode cX2_closes 77 = .ok (.ifCond .le 35, 3) := by decide +kernel
theorem dX2_closes_80 : decode cX2_closes 80 = .ok (.aload_n 0, 1) := by decide +kernel
theorem dX2_closes_81 : decode cX2_closes 81 = .ok (.iload 5, 2) := by decide +kernel
theorem dX2_closes_83 : decode cX2_closes 83 = .ok (.iload_n 3, 1) := by decide +kernel
theorem dX2_closes_84 : decode cX2_closes 84 = .ok (.invokevirtual 46, 3) := by decide +kernel
theorem dX2_closes_87 : decode cX2_closes 87 = .ok (.ifCond .ne 25, 3) := by decide +kernel
theorem dX2_closes_90 : decode cX2_closes 90 = .ok (.aload_n 0, 1) := by decide +kernel
theorem dX2_closes_91 : decode cX2_closes 91 = .ok (.getfield 15, 3) := by decide +kernel
theorem dX2_closes_94 : decode cX2_closes 94 = .ok (.iload_n 3, 1) := by decide +kernel
theorem dX2_closes_95 : decode cX2_closes 95 = .ok (.iload 5, 2) := by decide +kernel
theorem dX2_closes_97 : decode cX2_closes 97 = .ok (.iastore, 1) := by decide +kernel
theorem dX2_closes_98 : decode cX2_closes 98 = .ok (.aload_n 0, 1) := by decide +kernel
theorem dX2_closes_99 : decode cX2_closes 99 = .ok (.iload_n 1, 1) := by decide +kernel
theorem dX2_closes_100 : decode cX2_closes 100 = .ok (.iload_n 2, 1) := by decide +kernel
theorem dX2_closes_101 : decode cX2_closes 101 = .ok (.iload_n 3, 1) := by decide +kernel
theorem dX2_closes_102 : decode cX2_closes 102 = .ok (.iconst 1, 1) := by decide +kernel
theorem dX2_closes_103 : decode cX2_closes 103 = .ok (.iadd, 1) := by decide +kernel
theorem dX2_closes_104 : decode cX2_closes 104 = .ok (.invokevirtual 38, 3) := by decide +kernel
theorem dX2_closes_107 : decode cX2_closes 107 = .ok (.ifCond .eq 5, 3) := by decide +kernel
theorem dX2_closes_110 : decode cX2_closes 110 = .ok (.iconst 1, 1) := by decide +kernel
theorem dX2_closes_111 : decode cX2_closes 111 = .ok (.ireturn, 1) := by decide +kernel
theorem dX2_closes_112 : decode cX2_closes 112 = .ok (.iinc 5 1, 3) := by decide +kernel
theorem dX2_closes_115 : decode cX2_closes 115 = .ok (.goto (-52), 3) := by decide +kernel
theorem dX2_closes_118 : decode cX2_closes 118 = .ok (.iconst 0, 1) := by decide +kernel
theorem dX2_closes_119 : decode cX2_closes 119 = .ok (.ireturn, 1) := by decide +kernel
def fX2_closes_112 (t : Nat) (sf : Nat → Int → Int → Int → jw_M → Option (Int × jw_M)) (r63 : Int → Int → Int → Int → Int → jw_M → Option (Int × jw_M)) (x1 : Int) (x2 : Int) (x3 : Int) (x4 : Int) (x5 : Int) (M : jw_M) : Option (Int × jw_M) :=
  Option.bind (some (jw_w (x5 + 1))) (fun v12 => r63 x1 x2 x3 x4 v12 M)
set_option maxRecDepth 100000 in
theorem pX2_closes_112 (G : jw_G) (t : Nat) (ht : jw_tag t = 2) (h2 : Nat) (hb : 2 ≤ h2) (sf : Nat → Int → Int → Int → jw_M → Option (Int × jw_M)) (hsf : ∀ (t : Nat) (a1 : Int) (a2 : Int) (a3 : Int) (ha1 : jw_r a1) (ha2 : jw_r a2) (ha3 : jw_r a3) (M : jw_M), jw_Ct G YX2_closes (some .boolean) h2 0 0 true (fun q => q) yX2_closes [jR G t, jI a1, jI a2, jI a3] M (sf t a1 a2 a3 M)) (r63 : Int → Int → Int → Int → Int → jw_M → Option (Int × jw_M)) (hr63 : ∀ (x1 : Int) (x2 : Int) (x3 : Int) (x4 : Int) (x5 : Int) (hx1 : jw_r x1) (hx2 : jw_r x2) (hx3 : jw_r x3) (hx4 : jw_r x4) (hx5 : jw_r x5) (M : jw_M), jw_Rn G YX2_closes (h2 + 1) 0 0 true (fun q => q) 63 [(0, jR G t), (1, jI x1), (2, jI x2), (3, jI x3), (4, jI x4), (5, jI x5)] [] M (r63 x1 x2 x3 x4 x5 M)) : ∀ (x1 : Int) (x2 : Int) (x3 : Int) (x4 : Int) (x5 : Int) (hx1 : jw_r x1) (hx2 : jw_r x2) (hx3 : jw_r x3) (hx4 : jw_r x4) (hx5 : jw_r x5) (M : jw_M), jw_Rn G YX2_closes (h2 + 1) 0 0 true (fun q => q) 112 [(0, jR G t), (1, jI x1), (2, jI x2), (3, jI x3), (4, jI x4), (5, jI x5)] [] M (fX2_closes_112 t sf r63 x1 x2 x3 x4 x5 M) := by
  intro x1 x2 x3 x4 x5 hx1 hx2 hx3 hx4 hx5 M
  unfold fX2_closes_112
  refine jw_iincL (pc := 112) 5 (lv' := (fun y => [(5, y), (0, jR G t), (1, jI x1), (2, jI x2), (3, jI x3), (4, jI x4)])) dX2_closes_112 rfl (Nat.le_of_ble_eq_true rfl) (fun _ => rfl) (fun v12 hv12 => ?_)
  refine jw_goto (pc := 115) 63 dX2_closes_115 (by decide) ?_
  exact jw_few [1, 2, 3, 4, 5, 0] rfl (hr63 x1 x2 x3 x4 v12 hx1 hx2 hx3 hx4 hv12 M)
def fX2_closes_63 (t : Nat) (sf : Nat → Int → Int → Int → jw_M → Option (Int × jw_M)) : Nat → Int → Int → Int → Int → Int → jw_M → Option (Int × jw_M)
  | 0, _, _, _, _, _, _ => none
  | k + 1, x1, x2, x3, x4, x5, M => if x5 < x1 then (Option.bind (fX2_sumOf t x4 x5 M) (fun v7 => if (0 : Int) < v7 then (Option.bind (fX2_isInRing t x5 x3 M) (fun v8 => if v8 = 0 then (if 0 ≤ x3 ∧ x3 < 5 then Option.bind (some (jw_up M (t + 2) x3 x5)) (fun M9 => jw_b2 (sf t x1 x2 (jw_w (x3 + 1)) M9) (fun v10 M11 => if v10 = 0 then (fX2_closes_112 t sf (fX2_closes_63 t sf k) x1 x2 x3 x4 x5 M11) else (some (1, M11)))) else none) else (fX2_closes_112 t sf (fX2_closes_63 t sf k) x1 x2 x3 x4 x5 M))) else (fX2_closes_112 t sf (fX2_closes_63 t sf k) x1 x2 x3 x4 x5 M))) else (some (0, M))
set_option maxRecDepth 100000 in
theorem pX2_closes_63 (G : jw_G) (t : Nat) (ht : jw_tag t = 2) (h2 : Nat) (hb : 2 ≤ h2) (sf : Nat → Int → Int → Int → jw_M → Option (Int × jw_M)) (hsf : ∀ (t : Nat) (a1 : Int) (a2 : Int) (a3 : Int) (ha1 : jw_r a1) (ha2 : jw_r a2) (ha3 : jw_r a3) (M : jw_M), jw_Ct G YX2_closes (some .boolean) h2 0 0 true (fun q => q) yX2_closes [jR G t, jI a1, jI a2, jI a3] M (sf t a1 a2 a3 M)) : ∀ (k : Nat) (x1 : Int) (x2 : Int) (x3 : Int) (x4 : Int) (x5 : Int) (hx1 : jw_r x1) (hx2 : jw_r x2) (hx3 : jw_r x3) (hx4 : jw_r x4) (hx5 : jw_r x5) (M : jw_M), jw_Rn G YX2_closes (h2 + 1) 0 0 true (fun q => q) 63 [(0, jR G t), (1, jI x1), (2, jI x2), (3, jI x3), (4, jI x4), (5, jI x5)] [] M (fX2_closes_63 t sf k x1 x2 x3 x4 x5 M) := by
  intro k
  induction k with
  | zero =>
    intro x1 x2 x3 x4 x5 hx1 hx2 hx3 hx4 hx5 M
    exact jw_none
  | succ k ih =>
    intro x1 x2 x3 x4 x5 hx1 hx2 hx3 hx4 hx5 M
    rw [fX2_closes_63]
    refine jw_iload (pc := 63) 5 dX2_closes_63 rfl ?_
    refine jw_iload_n (pc := 65) 1 dX2_closes_65 rfl ?_
    refine jw_ic_ge (pc := 66) 118 dX2_closes_66 (by decide) hx5 hx1 (fun _ => ?_) (fun _ => ?_)
    · refine jw_aloadR (pc := 69) 0 dX2_closes_69 rfl ?_
      refine jw_iload (pc := 70) 4 dX2_closes_70 rfl ?_
      refine jw_iload (pc := 72) 5 dX2_closes_72 rfl ?_
      refine jw_callVi (pc := 74) (As := [jI x4, jI x5]) (st := []) dX2_closes_74 rfl (by omega) qX2_sumOf jt_1132 jt_1105 jt_1106 rfl rfl (Nat.le_of_ble_eq_true rfl) jv_2 rfl ht (jn_2 ht) (by decide) (jw_ho ht (by decide)) (kX2_sumOf G t x4 x5 hx4 hx5 M) (fun v7 hv7 => ?_)
      refine jw_if_le (pc := 77) 112 dX2_closes_77 (by decide) hv7 (fun _ => ?_) (fun _ => ?_)
      · refine jw_aloadR (pc := 80) 0 dX2_closes_80 rfl ?_
        refine jw_iload (pc := 81) 5 dX2_closes_81 rfl ?_
        refine jw_iload_n (pc := 83) 3 dX2_closes_83 rfl ?_
        refine jw_callVz (pc := 84) (As := [jI x5, jI x3]) (st := []) dX2_closes_84 rfl (by omega) qX2_isInRing jt_1133 jt_1135 jp_38 rfl rfl (Nat.le_of_ble_eq_true rfl) jv_2 rfl ht (jn_2 ht) (by decide) (jw_ho ht (by decide)) (kX2_isInRing G t x5 x3 hx5 hx3 M) (fun v8 hv8 => ?_)
        refine jw_if_ne (pc := 87) 112 dX2_closes_87 (by decide) (jw_bz hv8) (fun _ => ?_) (fun _ => ?_)
        · refine jw_aloadR (pc := 90) 0 dX2_closes_90 rfl ?_
          refine jw_getR (pc := 91) (j := 1) rfl dX2_closes_91 jv_2 ji_2 (Or.inl jt_250) ht (jn_2 ht) (by decide) (by decide) rfl (jf_2_1 ht).1 ?_
          refine jw_iload_n (pc := 94) 3 dX2_closes_94 rfl ?_
          refine jw_iload (pc := 95) 5 dX2_closes_95 rfl ?_
          refine jw_iast (pc := 97) dX2_closes_97 (jf_2_1 ht).2.1 (jf_2_1 ht).2.2 (jw_ho (jf_2_1 ht).2.1 (by decide)) hx3 hx5 rfl ?_
          refine jw_letM (fun M9 => ?_)
          refine jw_aloadR (pc := 98) 0 dX2_closes_98 rfl ?_
          refine jw_iload_n (pc := 99) 1 dX2_closes_99 rfl ?_
          refine jw_iload_n (pc := 100) 2 dX2_closes_100 rfl ?_
          refine jw_iload_n (pc := 101) 3 dX2_closes_101 rfl ?_
          refine jw_iconst (pc := 102) dX2_closes_102 ?_
          refine jw_iadd (pc := 103) dX2_closes_103 ?_
          refine jw_callVMz (pc := 104) (As := [jI x1, jI x2, jI (jw_w (x3 + 1))]) (st := []) dX2_closes_104 rfl (Nat.le_refl _) qX2_closes jt_1128 jt_1130 jp_37 rfl rfl (Nat.le_of_ble_eq_true rfl) jv_2 rfl ht (jn_2 ht) (by decide) (jw_ho ht (by decide)) (hsf t x1 x2 (jw_w (x3 + 1)) hx1 hx2 (jw_wr _) M9) (fun v10 M11 hv10 => ?_)
          refine jw_if_eq (pc := 107) 112 dX2_closes_107 (by decide) (jw_bz hv10) (fun _ => ?_) (fun _ => ?_)
          · exact jw_few [0, 1, 2, 3, 4, 5] rfl (pX2_closes_112 G t ht h2 hb sf hsf (fX2_closes_63 t sf k) ih x1 x2 x3 x4 x5 hx1 hx2 hx3 hx4 hx5 M11)
          · refine jw_iconst (pc := 110) dX2_closes_110 ?_
            exact jw_ret (pc := 111) (v := 1) dX2_closes_111 (Or.inr rfl) rfl rfl
        · exact jw_few [0, 1, 2, 3, 4, 5] rfl (pX2_closes_112 G t ht h2 hb sf hsf (fX2_closes_63 t sf k) ih x1 x2 x3 x4 x5 hx1 hx2 hx3 hx4 hx5 M)
      · exact jw_few [0, 1, 2, 3, 4, 5] rfl (pX2_closes_112 G t ht h2 hb sf hsf (fX2_closes_63 t sf k) ih x1 x2 x3 x4 x5 hx1 hx2 hx3 hx4 hx5 M)
    · refine jw_iconst (pc := 118) dX2_closes_118 ?_
      exact jw_ret (pc := 119) (v := 0) dX2_closes_119 (Or.inl rfl) rfl rfl
def bX2_closes (sf : Nat → Int → Int → Int → jw_M → Option (Int × jw_M)) (t : Nat) (a1 : Int) (a2 : Int) (a3 : Int) (M : jw_M) : Option (Int × jw_M) :=
  if jw_tag t = 2 then (if a3 < 1 then (some (0, M)) else (if a2 < a3 then (some (0, M)) else (if (5 : Int) < a2 then (some (0, M)) else (if 0 ≤ jw_w (a3 - 1) ∧ jw_w (a3 - 1) < 5 then Option.bind (some (M (t + 2) (jw_w (a3 - 1)))) (fun v2 => if a3 = a2 then (if 0 ≤ (0 : Int) ∧ (0 : Int) < 5 then Option.bind (fX2_sumOf t v2 (M (t + 2) 0) M) (fun v4 => if (0 : Int) < v4 then (some (1, M)) else (some (0, M))) else none) else (if 0 ≤ (0 : Int) ∧ (0 : Int) < 5 then Option.bind (some (jw_w ((M (t + 2) 0) + 1))) (fun v6 => fX2_closes_63 t sf jw_fu a1 a2 a3 v2 v6 M) else none)) else none)))) else none
def fX2_closes : Nat → Nat → Int → Int → Int → jw_M → Option (Int × jw_M)
  | 0, _, _, _, _, _ => none
  | k + 1, t, a1, a2, a3, M => bX2_closes (fX2_closes k) t a1 a2 a3 M
set_option maxRecDepth 100000 in
theorem rX2_closes (G : jw_G) (h2 : Nat) (hb : 2 ≤ h2) (sf : Nat → Int → Int → Int → jw_M → Option (Int × jw_M)) (hsf : ∀ (t : Nat) (a1 : Int) (a2 : Int) (a3 : Int) (ha1 : jw_r a1) (ha2 : jw_r a2) (ha3 : jw_r a3) (M : jw_M), jw_Ct G YX2_closes (some .boolean) h2 0 0 true (fun q => q) yX2_closes [jR G t, jI a1, jI a2, jI a3] M (sf t a1 a2 a3 M)) (t : Nat) (a1 : Int) (a2 : Int) (a3 : Int) (ha1 : jw_r a1) (ha2 : jw_r a2) (ha3 : jw_r a3) (M : jw_M) : jw_Rn G YX2_closes (h2 + 1) 0 0 true (fun q => q) 0 [(0, jR G t), (1, jI a1), (2, jI a2), (3, jI a3)] [] M (bX2_closes sf t a1 a2 a3 M) := by
  unfold bX2_closes
  refine jw_ck (fun ht => ?_)
  refine jw_iload_n (pc := 0) 3 dX2_closes_0 rfl ?_
  refine jw_iconst (pc := 1) dX2_closes_1 ?_
  refine jw_ic_lt (pc := 2) 15 dX2_closes_2 (by decide) ha3 (jw_rc _ rfl) (fun _ => ?_) (fun _ => ?_)
  · refine jw_iconst (pc := 15) dX2_closes_15 ?_
    exact jw_ret (pc := 16) (v := 0) dX2_closes_16 (Or.inl rfl) rfl rfl
  · refine jw_iload_n (pc := 5) 3 dX2_closes_5 rfl ?_
    refine jw_iload_n (pc := 6) 2 dX2_closes_6 rfl ?_
    refine jw_ic_gt (pc := 7) 15 dX2_closes_7 (by decide) ha3 ha2 (fun _ => ?_) (fun _ => ?_)
    · refine jw_iconst (pc := 15) dX2_closes_15 ?_
      exact jw_ret (pc := 16) (v := 0) dX2_closes_16 (Or.inl rfl) rfl rfl
    · refine jw_iload_n (pc := 10) 2 dX2_closes_10 rfl ?_
      refine jw_iconst (pc := 11) dX2_closes_11 ?_
      refine jw_ic_le (pc := 12) 17 dX2_closes_12 (by decide) ha2 (jw_rc _ rfl) (fun _ => ?_) (fun _ => ?_)
      · refine jw_iconst (pc := 15) dX2_closes_15 ?_
        exact jw_ret (pc := 16) (v := 0) dX2_closes_16 (Or.inl rfl) rfl rfl
      · refine jw_aloadR (pc := 17) 0 dX2_closes_17 rfl ?_
        refine jw_getR (pc := 18) (j := 1) rfl dX2_closes_18 jv_2 ji_2 (Or.inl jt_250) ht (jn_2 ht) (by decide) (by decide) rfl (jf_2_1 ht).1 ?_
        refine jw_iload_n (pc := 21) 3 dX2_closes_21 rfl ?_
        refine jw_iconst (pc := 22) dX2_closes_22 ?_
        refine jw_isub (pc := 23) dX2_closes_23 ?_
        refine jw_iald (pc := 24) dX2_closes_24 (jf_2_1 ht).2.1 (jf_2_1 ht).2.2 (jw_ho (jf_2_1 ht).2.1 (by decide)) (jw_wr _) rfl (fun h1 => ?_)
        refine jw_istoreL (pc := 25) (lv' := (fun y => [(4, y), (0, jR G t), (1, jI a1), (2, jI a2), (3, jI a3)])) dX2_closes_25 h1 (by decide) (fun _ => rfl) (fun v2 hv2 => ?_)
        refine jw_iload_n (pc := 27) 4 dX2_closes_27 rfl ?_
        refine jw_iload_n (pc := 28) 3 dX2_closes_28 rfl ?_
        refine jw_ic_ne (pc := 29) 53 dX2_closes_29 (by decide) ha3 ha2 (fun _ => ?_) (fun _ => ?_)
        · refine jw_aloadR (pc := 32) 1 dX2_closes_32 rfl ?_
          refine jw_iload (pc := 33) 0 dX2_closes_33 rfl ?_
          refine jw_aloadR (pc := 35) 1 dX2_closes_35 rfl ?_
          refine jw_getR (pc := 36) (j := 1) rfl dX2_closes_36 jv_2 ji_2 (Or.inl jt_250) ht (jn_2 ht) (by decide) (by decide) rfl (jf_2_1 ht).1 ?_
          refine jw_iconst (pc := 39) dX2_closes_39 ?_
          refine jw_iald (pc := 40) dX2_closes_40 (jf_2_1 ht).2.1 (jf_2_1 ht).2.2 (jw_ho (jf_2_1 ht).2.1 (by decide)) (jw_rc _ rfl) rfl (fun h3 => ?_)
          refine jw_callVi (pc := 41) (As := [jI v2, jI (M (t + 2) 0)]) (st := []) dX2_closes_41 rfl (by omega) qX2_sumOf jt_1132 jt_1105 jt_1106 rfl rfl (Nat.le_of_ble_eq_true rfl) jv_2 rfl ht (jn_2 ht) (by decide) (jw_ho ht (by decide)) (kX2_sumOf G t v2 (M (t + 2) 0) hv2 h3 M) (fun v4 hv4 => ?_)
          refine jw_if_le (pc := 44) 51 dX2_closes_44 (by decide) hv4 (fun _ => ?_) (fun _ => ?_)
          · refine jw_iconst (pc := 47) dX2_closes_47 ?_
            refine jw_goto (pc := 48) 52 dX2_closes_48 (by decide) ?_
            exact jw_ret (pc := 52) (v := 1) dX2_closes_52 (Or.inr rfl) rfl rfl
          · refine jw_iconst (pc := 51) dX2_closes_51 ?_
            exact jw_ret (pc := 52) (v := 0) dX2_closes_52 (Or.inl rfl) rfl rfl
        · refine jw_aloadR (pc := 53) 1 dX2_closes_53 rfl ?_
          refine jw_getR (pc := 54) (j := 1) rfl dX2_closes_54 jv_2 ji_2 (Or.inl jt_250) ht (jn_2 ht) (by decide) (by decide) rfl (jf_2_1 ht).1 ?_
          refine jw_iconst (pc := 57) dX2_closes_57 ?_
          refine jw_iald (pc := 58) dX2_closes_58 (jf_2_1 ht).2.1 (jf_2_1 ht).2.2 (jw_ho (jf_2_1 ht).2.1 (by decide)) (jw_rc _ rfl) rfl (fun h5 => ?_)
          refine jw_iconst (pc := 59) dX2_closes_59 ?_
          refine jw_iadd (pc := 60) dX2_closes_60 ?_
          refine jw_istoreL (pc := 61) (lv' := (fun y => [(5, y), (4, jI v2), (0, jR G t), (1, jI a1), (2, jI a2), (3, jI a3)])) dX2_closes_61 (jw_wr _) (by decide) (fun _ => rfl) (fun v6 hv6 => ?_)
          exact jw_few [2, 3, 4, 5, 1, 0] rfl (pX2_closes_63 G t ht h2 hb sf hsf jw_fu a1 a2 a3 v2 v6 ha1 ha2 ha3 hv2 hv6 M)
theorem kX2_closes (G : jw_G) : ∀ (n : Nat) (t : Nat) (a1 : Int) (a2 : Int) (a3 : Int) (ha1 : jw_r a1) (ha2 : jw_r a2) (ha3 : jw_r a3) (M : jw_M), jw_Ct G YX2_closes (some .boolean) (2 + n) 0 0 true (fun q => q) yX2_closes [jR G t, jI a1, jI a2, jI a3] M (fX2_closes n t a1 a2 a3 M) := by
  intro n
  induction n with
  | zero =>
    intro t a1 a2 a3 ha1 ha2 ha3 M hg x hx
    cases hx
  | succ k ih =>
    intro t a1 a2 a3 ha1 ha2 ha3 M
    rw [fX2_closes]
    exact jw_met (by decide) rfl rfl rfl (Nat.le_of_ble_eq_true rfl) (rX2_closes G (2 + k) (by omega) (fX2_closes k) ih t a1 a2 a3 ha1 ha2 ha3 M)
abbrev YX2_firstRing : jw_Y := (RX2, cX2_firstRing, 4, 1, "firstRing")
theorem qX2_firstRing : jw_cy YX2_firstRing (some .int) yX2_firstRing 1 := ⟨by decide, jt_1127, jt_10, by decide, by decide +kernel⟩
theorem dX2_firstRing_0 : decode cX2_firstRing 0 = .ok (.iconst 2, 1) := by decide +kernel
theorem dX2_firstRing_1 : decode cX2_firstRing 1 = .ok (.istore_n 2, 1) := by decide +kernel
theorem dX2_firstRing_2 : decode cX2_firstRing 2 = .ok (.iload_n 2, 1) := by decide +kernel
theorem dX2_firstRing_3 : decode cX2_firstRing 3 = .ok (.iload_n 1, 1) := by decide +kernel
theorem dX2_firstRing_4 : decode cX2_firstRing 4 = .ok (.if_icmp .gt 41, 3) := by decide +kernel
theorem dX2_firstRing_7 : decode cX2_firstRing 7 = .ok (.iconst 0, 1) := by decide +kernel
theorem dX2_firstRing_8 : decode cX2_firstRing 8 = .ok (.istore_n 3, 1) := by decide +kernel
theorem dX2_firstRing_9 : decode cX2_firstRing 9 = .ok (.iload_n 3, 1) := by decide +kernel
theorem dX2_firstRing_10 : decode cX2_firstRing 10 = .ok (.iload_n 1, 1) := by decide +kernel
theorem dX2_firstRing_11 : decode cX2_firstRing 11 = .ok (.if_icmp .ge 28, 3) := by decide +kernel
theorem dX2_firstRing_14 : decode cX2_firstRing 14 = .ok (.aload_n 0, 1) := by decide +kernel
theorem dX2_firstRing_15 : decode cX2_firstRing 15 = .ok (.getfield 15, 3) := by decide +kernel
theorem dX2_firstRing_18 : decode cX2_firstRing 18 = .ok (.iconst 0, 1) := by decide +kernel
theorem dX2_firstRing_19 : decode cX2_firstRing 19 = .ok (.iload_n 3, 1) := by decide +kernel
theorem dX2_firstRing_20 : decode cX2_firstRing 20 = .ok (.iastore, 1) := by decide +kernel
theorem dX2_firstRing_21 : decode cX2_firstRing 21 = .ok (.aload_n 0, 1) := by decide +kernel
theorem dX2_firstRing_22 : decode cX2_firstRing 22 = .ok (.iload_n 1, 1) := by decide +kernel
theorem dX2_firstRing_23 : decode cX2_firstRing 23 = .ok (.iload_n 2, 1) := by decide +kernel
theorem dX2_firstRing_24 : decode cX2_firstRing 24 = .ok (.iconst 1, 1) := by decide +kernel
theorem dX2_firstRing_25 : decode cX2_firstRing 25 = .ok (.invokevirtual 38, 3) := by decide +kernel
theorem dX2_firstRing_28 : decode cX2_firstRing 28 = .ok (.ifCond .eq 5, 3) := by decide +kernel
theorem dX2_firstRing_31 : decode cX2_firstRing 31 = .ok (.iload_n 2, 1) := by decide +kernel
theorem dX2_firstRing_32 : decode cX2_firstRing 32 = .ok (.ireturn, 1) := by decide +kernel
theorem dX2_firstRing_33 : decode cX2_firstRing 33 = .ok (.iinc 3 1, 3) := by decide +kernel
theorem dX2_firstRing_36 : decode cX2_firstRing 36 = .ok (.goto (-27), 3) := by decide +kernel
theorem dX2_firstRing_39 : decode cX2_firstRing 39 = .ok (.iinc 2 1, 3) := by decide +kernel
theorem dX2_firstRing_42 : decode cX2_firstRing 42 = .ok (.goto (-40), 3) := by decide +kernel
theorem dX2_firstRing_45 : decode cX2_firstRing 45 = .ok (.iconst 0, 1) := by decide +kernel
theorem dX2_firstRing_46 : decode cX2_firstRing 46 = .ok (.ireturn, 1) := by decide +kernel
def fX2_firstRing_9 (t : Nat) (r2 : Int → Int → jw_M → Option (Int × jw_M)) : Nat → Int → Int → Int → jw_M → Option (Int × jw_M)
  | 0, _, _, _, _ => none
  | k + 1, x1, x2, x3, M => if x3 < x1 then (if 0 ≤ (0 : Int) ∧ (0 : Int) < 5 then Option.bind (some (jw_up M (t + 2) 0 x3)) (fun M3 => jw_b2 (fX2_closes jw_rn t x1 x2 1 M3) (fun v4 M5 => if v4 = 0 then (Option.bind (some (jw_w (x3 + 1))) (fun v6 => fX2_firstRing_9 t r2 k x1 x2 v6 M5)) else (some (x2, M5)))) else none) else (Option.bind (some (jw_w (x2 + 1))) (fun v7 => r2 x1 v7 M))
set_option maxRecDepth 100000 in
theorem pX2_firstRing_9 (G : jw_G) (t : Nat) (ht : jw_tag t = 2) (r2 : Int → Int → jw_M → Option (Int × jw_M)) (hr2 : ∀ (x1 : Int) (x2 : Int) (hx1 : jw_r x1) (hx2 : jw_r x2) (M : jw_M), jw_Rn G YX2_firstRing 27 0 0 true (fun q => q) 2 [(0, jR G t), (1, jI x1), (2, jI x2)] [] M (r2 x1 x2 M)) : ∀ (k : Nat) (x1 : Int) (x2 : Int) (x3 : Int) (hx1 : jw_r x1) (hx2 : jw_r x2) (hx3 : jw_r x3) (M : jw_M), jw_Rn G YX2_firstRing 27 0 0 true (fun q => q) 9 [(0, jR G t), (1, jI x1), (2, jI x2), (3, jI x3)] [] M (fX2_firstRing_9 t r2 k x1 x2 x3 M) := by
  intro k
  induction k with
  | zero =>
    intro x1 x2 x3 hx1 hx2 hx3 M
    exact jw_none
  | succ k ih =>
    intro x1 x2 x3 hx1 hx2 hx3 M
    rw [fX2_firstRing_9]
    refine jw_iload_n (pc := 9) 3 dX2_firstRing_9 rfl ?_
    refine jw_iload_n (pc := 10) 1 dX2_firstRing_10 rfl ?_
    refine jw_ic_ge (pc := 11) 39 dX2_firstRing_11 (by decide) hx3 hx1 (fun _ => ?_) (fun _ => ?_)
    · refine jw_aloadR (pc := 14) 0 dX2_firstRing_14 rfl ?_
      refine jw_getR (pc := 15) (j := 1) rfl dX2_firstRing_15 jv_2 ji_2 (Or.inl jt_250) ht (jn_2 ht) (by decide) (by decide) rfl (jf_2_1 ht).1 ?_
      refine jw_iconst (pc := 18) dX2_firstRing_18 ?_
      refine jw_iload_n (pc := 19) 3 dX2_firstRing_19 rfl ?_
      refine jw_iast (pc := 20) dX2_firstRing_20 (jf_2_1 ht).2.1 (jf_2_1 ht).2.2 (jw_ho (jf_2_1 ht).2.1 (by decide)) (jw_rc _ rfl) hx3 rfl ?_
      refine jw_letM (fun M3 => ?_)
      refine jw_aloadR (pc := 21) 0 dX2_firstRing_21 rfl ?_
      refine jw_iload_n (pc := 22) 1 dX2_firstRing_22 rfl ?_
      refine jw_iload_n (pc := 23) 2 dX2_firstRing_23 rfl ?_
      refine jw_iconst (pc := 24) dX2_firstRing_24 ?_
      refine jw_callVMz (pc := 25) (As := [jI x1, jI x2, jI 1]) (st := []) dX2_firstRing_25 rfl (Nat.le_of_ble_eq_true rfl) qX2_closes jt_1128 jt_1130 jp_37 rfl rfl (Nat.le_of_ble_eq_true rfl) jv_2 rfl ht (jn_2 ht) (by decide) (jw_ho ht (by decide)) (kX2_closes G jw_rn t x1 x2 1 hx1 hx2 (jw_rc _ rfl) M3) (fun v4 M5 hv4 => ?_)
      refine jw_if_eq (pc := 28) 33 dX2_firstRing_28 (by decide) (jw_bz hv4) (fun _ => ?_) (fun _ => ?_)
      · refine jw_iincL (pc := 33) 3 (lv' := (fun y => [(3, y), (0, jR G t), (1, jI x1), (2, jI x2)])) dX2_firstRing_33 rfl (Nat.le_of_ble_eq_true rfl) (fun _ => rfl) (fun v6 hv6 => ?_)
        refine jw_goto (pc := 36) 9 dX2_firstRing_36 (by decide) ?_
        exact jw_few [1, 2, 3, 0] rfl (ih x1 x2 v6 hx1 hx2 hv6 M5)
      · refine jw_iload_n (pc := 31) 2 dX2_firstRing_31 rfl ?_
        exact jw_ret (pc := 32) (v := x2) dX2_firstRing_32 hx2 rfl rfl
    · refine jw_iincL (pc := 39) 2 (lv' := (fun y => [(2, y), (0, jR G t), (1, jI x1), (3, jI x3)])) dX2_firstRing_39 rfl (Nat.le_of_ble_eq_true rfl) (fun _ => rfl) (fun v7 hv7 => ?_)
      refine jw_goto (pc := 42) 2 dX2_firstRing_42 (by decide) ?_
      exact jw_few [1, 2, 0] rfl (hr2 x1 v7 hx1 hv7 M)
def fX2_firstRing_2 (t : Nat) : Nat → Int → Int → jw_M → Option (Int × jw_M)
  | 0, _, _, _ => none
  | k + 1, x1, x2, M => if x1 < x2 then (some (0, M)) else (Option.bind (some 0) (fun v2 => fX2_firstRing_9 t (fX2_firstRing_2 t k) jw_fu x1 x2 v2 M))
set_option maxRecDepth 100000 in
theorem pX2_firstRing_2 (G : jw_G) (t : Nat) (ht : jw_tag t = 2) : ∀ (k : Nat) (x1 : Int) (x2 : Int) (hx1 : jw_r x1) (hx2 : jw_r x2) (M : jw_M), jw_Rn G YX2_firstRing 27 0 0 true (fun q => q) 2 [(0, jR G t), (1, jI x1), (2, jI x2)] [] M (fX2_firstRing_2 t k x1 x2 M) := by
  intro k
  induction k with
  | zero =>
    intro x1 x2 hx1 hx2 M
    exact jw_none
  | succ k ih =>
    intro x1 x2 hx1 hx2 M
    rw [fX2_firstRing_2]
    refine jw_iload_n (pc := 2) 2 dX2_firstRing_2 rfl ?_
    refine jw_iload_n (pc := 3) 1 dX2_firstRing_3 rfl ?_
    refine jw_ic_gt (pc := 4) 45 dX2_firstRing_4 (by decide) hx2 hx1 (fun _ => ?_) (fun _ => ?_)
    · refine jw_iconst (pc := 45) dX2_firstRing_45 ?_
      exact jw_ret (pc := 46) (v := 0) dX2_firstRing_46 (jw_rc _ rfl) rfl rfl
    · refine jw_iconst (pc := 7) dX2_firstRing_7 ?_
      refine jw_istore_nL (pc := 8) (lv' := (fun y => [(3, y), (0, jR G t), (1, jI x1), (2, jI x2)])) dX2_firstRing_8 (jw_rc _ rfl) (by decide) (fun _ => rfl) (fun v2 hv2 => ?_)
      exact jw_few [1, 2, 3, 0] rfl (pX2_firstRing_9 G t ht (fX2_firstRing_2 t k) ih jw_fu x1 x2 v2 hx1 hx2 hv2 M)
def fX2_firstRing (t : Nat) (a1 : Int) (M : jw_M) : Option (Int × jw_M) :=
  if jw_tag t = 2 then (Option.bind (some 2) (fun v1 => fX2_firstRing_2 t jw_fu a1 v1 M)) else none
set_option maxRecDepth 100000 in
theorem rX2_firstRing (G : jw_G) (t : Nat) (a1 : Int) (ha1 : jw_r a1) (M : jw_M) : jw_Rn G YX2_firstRing 27 0 0 true (fun q => q) 0 [(0, jR G t), (1, jI a1)] [] M (fX2_firstRing t a1 M) := by
  unfold fX2_firstRing
  refine jw_ck (fun ht => ?_)
  refine jw_iconst (pc := 0) dX2_firstRing_0 ?_
  refine jw_istore_nL (pc := 1) (lv' := (fun y => [(2, y), (0, jR G t), (1, jI a1)])) dX2_firstRing_1 (jw_rc _ rfl) (by decide) (fun _ => rfl) (fun v1 hv1 => ?_)
  exact jw_few [1, 2, 0] rfl (pX2_firstRing_2 G t ht jw_fu a1 v1 ha1 hv1 M)
theorem kX2_firstRing (G : jw_G) (t : Nat) (a1 : Int) (ha1 : jw_r a1) (M : jw_M) : jw_Ct G YX2_firstRing (some .int) 27 0 0 true (fun q => q) yX2_firstRing [jR G t, jI a1] M (fX2_firstRing t a1 M) := jw_met (by decide) rfl rfl rfl (Nat.le_of_ble_eq_true rfl) (rX2_firstRing G t a1 ha1 M)
abbrev YX2_nextInRing : jw_Y := (RX2, cX2_nextInRing, 3, 1, "nextInRing")
theorem qX2_nextInRing : jw_cy YX2_nextInRing (some .int) yX2_nextInRing 2 := ⟨by decide, jt_1144, jt_10, by decide, by decide +kernel⟩
theorem dX2_nextInRing_0 : decode cX2_nextInRing 0 = .ok (.iload_n 1, 1) := by decide +kernel
theorem dX2_nextInRing_1 : decode cX2_nextInRing 1 = .ok (.iconst 1, 1) := by decide +kernel
theorem dX2_nextInRing_2 : decode cX2_nextInRing 2 = .ok (.iadd, 1) := by decide +kernel
theorem dX2_nextInRing_3 : decode cX2_nextInRing 3 = .ok (.iload_n 2, 1) := by decide +kernel
theorem dX2_nextInRing_4 : decode cX2_nextInRing 4 = .ok (.if_icmp .ge 14, 3) := by decide +kernel
theorem dX2_nextInRing_7 : decode cX2_nextInRing 7 = .ok (.aload_n 0, 1) := by decide +kernel
theorem dX2_nextInRing_8 : decode cX2_nextInRing 8 = .ok (.getfield 15, 3) := by decide +kernel
theorem dX2_nextInRing_11 : decode cX2_nextInRing 11 = .ok (.iload_n 1, 1) := by decide +kernel
theorem dX2_nextInRing_12 : decode cX2_nextInRing 12 = .ok (.iconst 1, 1) := by decide +kernel
theorem dX2_nextInRing_13 : decode cX2_nextInRing 13 = .ok (.iadd, 1) := by decide +kernel
theorem dX2_nextInRing_14 : decode cX2_nextInRing 14 = .ok (.iaload, 1) := by decide +kernel
theorem dX2_nextInRing_15 : decode cX2_nextInRing 15 = .ok (.goto 9, 3) := by decide +kernel
theorem dX2_nextInRing_18 : decode cX2_nextInRing 18 = .ok (.aload_n 0, 1) := by decide +kernel
theorem dX2_nextInRing_19 : decode cX2_nextInRing 19 = .ok (.getfield 15, 3) := by decide +kernel
theorem dX2_nextInRing_22 : decode cX2_nextInRing 22 = .ok (.iconst 0, 1) := by decide +kernel
theorem dX2_nextInRing_23 : decode cX2_nextInRing 23 = .ok (.iaload, 1) := by decide +kernel
theorem dX2_nextInRing_24 : decode cX2_nextInRing 24 = .ok (.ireturn, 1) := by decide +kernel
def fX2_nextInRing (t : Nat) (a1 : Int) (a2 : Int) (M : jw_M) : Option Int :=
  if jw_tag t = 2 then (if jw_w (a1 + 1) < a2 then (if 0 ≤ jw_w (a1 + 1) ∧ jw_w (a1 + 1) < 5 then some (M (t + 2) (jw_w (a1 + 1))) else none) else (if 0 ≤ (0 : Int) ∧ (0 : Int) < 5 then some (M (t + 2) 0) else none)) else none
set_option maxRecDepth 100000 in
theorem rX2_nextInRing (G : jw_G) (t : Nat) (a1 : Int) (a2 : Int) (ha1 : jw_r a1) (ha2 : jw_r a2) (M : jw_M) : jw_Rn G YX2_nextInRing 1 0 0 true (fun v => (v, M)) 0 [(0, jR G t), (1, jI a1), (2, jI a2)] [] M (fX2_nextInRing t a1 a2 M) := by
  unfold fX2_nextInRing
  refine jw_ck (fun ht => ?_)
  refine jw_iload_n (pc := 0) 1 dX2_nextInRing_0 rfl ?_
  refine jw_iconst (pc := 1) dX2_nextInRing_1 ?_
  refine jw_iadd (pc := 2) dX2_nextInRing_2 ?_
  refine jw_iload_n (pc := 3) 2 dX2_nextInRing_3 rfl ?_
  refine jw_ic_ge (pc := 4) 18 dX2_nextInRing_4 (by decide) (jw_wr _) ha2 (fun _ => ?_) (fun _ => ?_)
  · refine jw_aloadR (pc := 7) 0 dX2_nextInRing_7 rfl ?_
    refine jw_getR (pc := 8) (j := 1) rfl dX2_nextInRing_8 jv_2 ji_2 (Or.inl jt_250) ht (jn_2 ht) (by decide) (by decide) rfl (jf_2_1 ht).1 ?_
    refine jw_iload_n (pc := 11) 1 dX2_nextInRing_11 rfl ?_
    refine jw_iconst (pc := 12) dX2_nextInRing_12 ?_
    refine jw_iadd (pc := 13) dX2_nextInRing_13 ?_
    refine jw_iald (pc := 14) dX2_nextInRing_14 (jf_2_1 ht).2.1 (jf_2_1 ht).2.2 (jw_ho (jf_2_1 ht).2.1 (by decide)) (jw_wr _) rfl (fun h1 => ?_)
    refine jw_goto (pc := 15) 24 dX2_nextInRing_15 (by decide) ?_
    exact jw_ret (pc := 24) (v := M (t + 2) (jw_w (a1 + 1))) dX2_nextInRing_24 h1 rfl rfl
  · refine jw_aloadR (pc := 18) 0 dX2_nextInRing_18 rfl ?_
    refine jw_getR (pc := 19) (j := 1) rfl dX2_nextInRing_19 jv_2 ji_2 (Or.inl jt_250) ht (jn_2 ht) (by decide) (by decide) rfl (jf_2_1 ht).1 ?_
    refine jw_iconst (pc := 22) dX2_nextInRing_22 ?_
    refine jw_iald (pc := 23) dX2_nextInRing_23 (jf_2_1 ht).2.1 (jf_2_1 ht).2.2 (jw_ho (jf_2_1 ht).2.1 (by decide)) (jw_rc _ rfl) rfl (fun h2 => ?_)
    exact jw_ret (pc := 24) (v := M (t + 2) 0) dX2_nextInRing_24 h2 rfl rfl
theorem kX2_nextInRing (G : jw_G) (t : Nat) (a1 : Int) (a2 : Int) (ha1 : jw_r a1) (ha2 : jw_r a2) (M : jw_M) : jw_Ct G YX2_nextInRing (some .int) 1 0 0 true (fun v => (v, M)) yX2_nextInRing [jR G t, jI a1, jI a2] M (fX2_nextInRing t a1 a2 M) := jw_met (by decide) rfl rfl rfl (Nat.le_of_ble_eq_true rfl) (rX2_nextInRing G t a1 a2 ha1 ha2 M)
abbrev YX2_lessen : jw_Y := (RX2, cX2_lessen, 4, 0, "lessen")
theorem qX2_lessen : jw_cy YX2_lessen none yX2_lessen 1 := ⟨by decide, jt_1140, jt_10, by decide, by decide +kernel⟩
theorem dX2_lessen_0 : decode cX2_lessen 0 = .ok (.sipush 9999, 3) := by decide +kernel
theorem dX2_lessen_3 : decode cX2_lessen 3 = .ok (.istore_n 2, 1) := by decide +kernel
theorem dX2_lessen_4 : decode cX2_lessen 4 = .ok (.iconst 0, 1) := by decide +kernel
theorem dX2_lessen_5 : decode cX2_lessen 5 = .ok (.istore_n 3, 1) := by decide +kernel
theorem dX2_lessen_6 : decode cX2_lessen 6 = .ok (.iload_n 3, 1) := by decide +kernel
theorem dX2_lessen_7 : decode cX2_lessen 7 = .ok (.iload_n 1, 1) := by decide +kernel
theorem dX2_lessen_8 : decode cX2_lessen 8 = .ok (.if_icmp .ge 30, 3) := by decide +kernel
theorem dX2_lessen_11 : decode cX2_lessen 11 = .ok (.iload_n 2, 1) := by decide +kernel
theorem dX2_lessen_12 : decode cX2_lessen 12 = .ok (.aload_n 0, 1) := by decide +kernel
theorem dX2_lessen_13 : decode cX2_lessen 13 = .ok (.aload_n 0, 1) := by decide +kernel
theorem dX2_lessen_14 : decode cX2_lessen 14 = .ok (.getfield 15, 3) := by decide +kernel
theorem dX2_lessen_17 : decode cX2_lessen 17 = .ok (.iload_n 3, 1) := by decide +kernel
theorem dX2_lessen_18 : decode cX2_lessen 18 = .ok (.iaload, 1) := by decide +kernel
theorem dX2_lessen_19 : decode cX2_lessen 19 = .ok (.aload_n 0, 1) := by decide +kernel
theorem dX2_lessen_20 : decode cX2_lessen 20 = .ok (.iload_n 3, 1) := by decide +kernel
theorem dX2_lessen_21 : decode cX2_lessen 21 = .ok (.iload_n 1, 1) := by decide +kernel
theorem dX2_lessen_22 : decode cX2_lessen 22 = .ok (.invokevirtual 50, 3) := by decide +kernel
theorem dX2_lessen_25 : decode cX2_lessen 25 = .ok (.invokevirtual 42, 3) := by decide +kernel
theorem dX2_lessen_28 : decode cX2_lessen 28 = .ok (.invokestatic 53, 3) := by decide +kernel
theorem dX2_lessen_31 : decode cX2_lessen 31 = .ok (.istore_n 2, 1) := by decide +kernel
theorem dX2_lessen_32 : decode cX2_lessen 32 = .ok (.iinc 3 1, 3) := by decide +kernel
theorem dX2_lessen_35 : decode cX2_lessen 35 = .ok (.goto (-29), 3) := by decide +kernel
theorem dX2_lessen_38 : decode cX2_lessen 38 = .ok (.iconst 0, 1) := by decide +kernel
theorem dX2_lessen_39 : decode cX2_lessen 39 = .ok (.istore_n 3, 1) := by decide +kernel
theorem dX2_lessen_40 : decode cX2_lessen 40 = .ok (.iload_n 3, 1) := by decide +kernel
theorem dX2_lessen_41 : decode cX2_lessen 41 = .ok (.iload_n 1, 1) := by decide +kernel
theorem dX2_lessen_42 : decode cX2_lessen 42 = .ok (.if_icmp .ge 27, 3) := by decide +kernel
theorem dX2_lessen_45 : decode cX2_lessen 45 = .ok (.aload_n 0, 1) := by decide +kernel
theorem dX2_lessen_46 : decode cX2_lessen 46 = .ok (.aload_n 0, 1) := by decide +kernel
theorem dX2_lessen_47 : decode cX2_lessen 47 = .ok (.getfield 15, 3) := by decide +kernel
theorem dX2_lessen_50 : decode cX2_lessen 50 = .ok (.iload_n 3, 1) := by decide +kernel
theorem dX2_lessen_51 : decode cX2_lessen 51 = .ok (.iaload, 1) := by decide +kernel
theorem dX2_lessen_52 : decode cX2_lessen 52 = .ok (.aload_n 0, 1) := by decide +kernel
theorem dX2_lessen_53 : decode cX2_lessen 53 = .ok (.iload_n 3, 1) := by decide +kernel
theorem dX2_lessen_54 : decode cX2_lessen 54 = .ok (.iload_n 1, 1) := by decide +kernel
theorem dX2_lessen_55 : decode cX2_lessen 55 = .ok (.invokevirtual 50, 3) := by decide +kernel
theorem dX2_lessen_58 : decode cX2_lessen 58 = .ok (.iload_n 2, 1) := by decide +kernel
theorem dX2_lessen_59 : decode cX2_lessen 59 = .ok (.ineg, 1) := by decide +kernel
theorem dX2_lessen_60 : decode cX2_lessen 60 = .ok (.invokevirtual 58, 3) := by decide +kernel
theorem dX2_lessen_63 : decode cX2_lessen 63 = .ok (.iinc 3 1, 3) := by decide +kernel
theorem dX2_lessen_66 : decode cX2_lessen 66 = .ok (.goto (-26), 3) := by decide +kernel
theorem dX2_lessen_69 : decode cX2_lessen 69 = .ok (.return_, 1) := by decide +kernel
def fX2_lessen_40 (t : Nat) : Nat → Int → Int → Int → jw_M → Option jw_M
  | 0, _, _, _, _ => none
  | k + 1, x1, x2, x3, M => if x3 < x1 then (if 0 ≤ x3 ∧ x3 < 5 then Option.bind (fX2_nextInRing t x3 x1 M) (fun v10 => Option.bind (fX2_change t (M (t + 2) x3) v10 (jw_w (-x2)) M) (fun M11 => Option.bind (some (jw_w (x3 + 1))) (fun v12 => fX2_lessen_40 t k x1 x2 v12 M11))) else none) else (some M)
set_option maxRecDepth 100000 in
theorem pX2_lessen_40 (G : jw_G) (t : Nat) (ht : jw_tag t = 2) : ∀ (k : Nat) (x1 : Int) (x2 : Int) (x3 : Int) (hx1 : jw_r x1) (hx2 : jw_r x2) (hx3 : jw_r x3) (M : jw_M), jw_Rn G YX2_lessen 2 0 0 true (fun M1 => (0, M1)) 40 [(0, jR G t), (1, jI x1), (2, jI x2), (3, jI x3)] [] M (fX2_lessen_40 t k x1 x2 x3 M) := by
  intro k
  induction k with
  | zero =>
    intro x1 x2 x3 hx1 hx2 hx3 M
    exact jw_none
  | succ k ih =>
    intro x1 x2 x3 hx1 hx2 hx3 M
    rw [fX2_lessen_40]
    refine jw_iload_n (pc := 40) 3 dX2_lessen_40 rfl ?_
    refine jw_iload_n (pc := 41) 1 dX2_lessen_41 rfl ?_
    refine jw_ic_ge (pc := 42) 69 dX2_lessen_42 (by decide) hx3 hx1 (fun _ => ?_) (fun _ => ?_)
    · refine jw_aloadR (pc := 45) 0 dX2_lessen_45 rfl ?_
      refine jw_aloadR (pc := 46) 0 dX2_lessen_46 rfl ?_
      refine jw_getR (pc := 47) (j := 1) rfl dX2_lessen_47 jv_2 ji_2 (Or.inl jt_250) ht (jn_2 ht) (by decide) (by decide) rfl (jf_2_1 ht).1 ?_
      refine jw_iload_n (pc := 50) 3 dX2_lessen_50 rfl ?_
      refine jw_iald (pc := 51) dX2_lessen_51 (jf_2_1 ht).2.1 (jf_2_1 ht).2.2 (jw_ho (jf_2_1 ht).2.1 (by decide)) hx3 rfl (fun h9 => ?_)
      refine jw_aloadR (pc := 52) 0 dX2_lessen_52 rfl ?_
      refine jw_iload_n (pc := 53) 3 dX2_lessen_53 rfl ?_
      refine jw_iload_n (pc := 54) 1 dX2_lessen_54 rfl ?_
      refine jw_callVi (pc := 55) (As := [jI x3, jI x1]) (st := [jI (M (t + 2) x3), jR G t]) dX2_lessen_55 rfl (Nat.le_of_ble_eq_true rfl) qX2_nextInRing jt_1141 jt_1143 jp_40 rfl rfl (Nat.le_of_ble_eq_true rfl) jv_2 rfl ht (jn_2 ht) (by decide) (jw_ho ht (by decide)) (kX2_nextInRing G t x3 x1 hx3 hx1 M) (fun v10 hv10 => ?_)
      refine jw_iload_n (pc := 58) 2 dX2_lessen_58 rfl ?_
      refine jw_ineg (pc := 59) dX2_lessen_59 ?_
      refine jw_callVM (pc := 60) (As := [jI (M (t + 2) x3), jI v10, jI (jw_w (-x2))]) (st := []) dX2_lessen_60 rfl (Nat.le_of_ble_eq_true rfl) qX2_change jt_1146 jt_1109 jt_1110 rfl rfl (Nat.le_of_ble_eq_true rfl) jv_2 rfl ht (jn_2 ht) (by decide) (jw_ho ht (by decide)) (kX2_change G t (M (t + 2) x3) v10 (jw_w (-x2)) h9 hv10 (jw_wr _) M) (fun M11 => ?_)
      refine jw_iincL (pc := 63) 3 (lv' := (fun y => [(3, y), (0, jR G t), (1, jI x1), (2, jI x2)])) dX2_lessen_63 rfl (Nat.le_of_ble_eq_true rfl) (fun _ => rfl) (fun v12 hv12 => ?_)
      refine jw_goto (pc := 66) 40 dX2_lessen_66 (by decide) ?_
      exact jw_few [1, 2, 3, 0] rfl (ih x1 x2 v12 hx1 hx2 hv12 M11)
    · exact jw_ret (pc := 69) (v := 0) dX2_lessen_69 trivial rfl rfl
def fX2_lessen_6 (t : Nat) : Nat → Int → Int → Int → jw_M → Option jw_M
  | 0, _, _, _, _ => none
  | k + 1, x1, x2, x3, M => if x3 < x1 then (if 0 ≤ x3 ∧ x3 < 5 then Option.bind (fX2_nextInRing t x3 x1 M) (fun v4 => Option.bind (fX2_sumOf t (M (t + 2) x3) v4 M) (fun v5 => Option.bind (some (jw_min x2 v5)) (fun v6 => Option.bind (some (jw_w (x3 + 1))) (fun v7 => fX2_lessen_6 t k x1 v6 v7 M)))) else none) else (Option.bind (some 0) (fun v8 => fX2_lessen_40 t jw_fu x1 x2 v8 M))
set_option maxRecDepth 100000 in
theorem pX2_lessen_6 (G : jw_G) (t : Nat) (ht : jw_tag t = 2) : ∀ (k : Nat) (x1 : Int) (x2 : Int) (x3 : Int) (hx1 : jw_r x1) (hx2 : jw_r x2) (hx3 : jw_r x3) (M : jw_M), jw_Rn G YX2_lessen 2 0 0 true (fun M1 => (0, M1)) 6 [(0, jR G t), (1, jI x1), (2, jI x2), (3, jI x3)] [] M (fX2_lessen_6 t k x1 x2 x3 M) := by
  intro k
  induction k with
  | zero =>
    intro x1 x2 x3 hx1 hx2 hx3 M
    exact jw_none
  | succ k ih =>
    intro x1 x2 x3 hx1 hx2 hx3 M
    rw [fX2_lessen_6]
    refine jw_iload_n (pc := 6) 3 dX2_lessen_6 rfl ?_
    refine jw_iload_n (pc := 7) 1 dX2_lessen_7 rfl ?_
    refine jw_ic_ge (pc := 8) 38 dX2_lessen_8 (by decide) hx3 hx1 (fun _ => ?_) (fun _ => ?_)
    · refine jw_iload_n (pc := 11) 2 dX2_lessen_11 rfl ?_
      refine jw_aloadR (pc := 12) 0 dX2_lessen_12 rfl ?_
      refine jw_aloadR (pc := 13) 0 dX2_lessen_13 rfl ?_
      refine jw_getR (pc := 14) (j := 1) rfl dX2_lessen_14 jv_2 ji_2 (Or.inl jt_250) ht (jn_2 ht) (by decide) (by decide) rfl (jf_2_1 ht).1 ?_
      refine jw_iload_n (pc := 17) 3 dX2_lessen_17 rfl ?_
      refine jw_iald (pc := 18) dX2_lessen_18 (jf_2_1 ht).2.1 (jf_2_1 ht).2.2 (jw_ho (jf_2_1 ht).2.1 (by decide)) hx3 rfl (fun h3 => ?_)
      refine jw_aloadR (pc := 19) 0 dX2_lessen_19 rfl ?_
      refine jw_iload_n (pc := 20) 3 dX2_lessen_20 rfl ?_
      refine jw_iload_n (pc := 21) 1 dX2_lessen_21 rfl ?_
      refine jw_callVi (pc := 22) (As := [jI x3, jI x1]) (st := [jI (M (t + 2) x3), jR G t, jI x2]) dX2_lessen_22 rfl (Nat.le_of_ble_eq_true rfl) qX2_nextInRing jt_1141 jt_1143 jp_40 rfl rfl (Nat.le_of_ble_eq_true rfl) jv_2 rfl ht (jn_2 ht) (by decide) (jw_ho ht (by decide)) (kX2_nextInRing G t x3 x1 hx3 hx1 M) (fun v4 hv4 => ?_)
      refine jw_callVi (pc := 25) (As := [jI (M (t + 2) x3), jI v4]) (st := [jI x2]) dX2_lessen_25 rfl (Nat.le_of_ble_eq_true rfl) qX2_sumOf jt_1132 jt_1105 jt_1106 rfl rfl (Nat.le_of_ble_eq_true rfl) jv_2 rfl ht (jn_2 ht) (by decide) (jw_ho ht (by decide)) (kX2_sumOf G t (M (t + 2) x3) v4 h3 hv4 M) (fun v5 hv5 => ?_)
      refine jw_mmin (pc := 28) dX2_lessen_28 jt_1145 jt_664 jt_20 jt_665 (by decide) (Nat.le_of_ble_eq_true rfl) hx2 hv5 ?_
      refine jw_istore_nL (pc := 31) (lv' := (fun y => [(2, y), (0, jR G t), (1, jI x1), (3, jI x3)])) dX2_lessen_31 (jw_minr hx2 hv5) (by decide) (fun _ => rfl) (fun v6 hv6 => ?_)
      refine jw_iincL (pc := 32) 3 (lv' := (fun y => [(3, y), (2, jI v6), (0, jR G t), (1, jI x1)])) dX2_lessen_32 rfl (Nat.le_of_ble_eq_true rfl) (fun _ => rfl) (fun v7 hv7 => ?_)
      refine jw_goto (pc := 35) 6 dX2_lessen_35 (by decide) ?_
      exact jw_few [2, 3, 1, 0] rfl (ih x1 v6 v7 hx1 hv6 hv7 M)
    · refine jw_iconst (pc := 38) dX2_lessen_38 ?_
      refine jw_istore_nL (pc := 39) (lv' := (fun y => [(3, y), (0, jR G t), (1, jI x1), (2, jI x2)])) dX2_lessen_39 (jw_rc _ rfl) (by decide) (fun _ => rfl) (fun v8 hv8 => ?_)
      exact jw_few [1, 2, 3, 0] rfl (pX2_lessen_40 G t ht jw_fu x1 x2 v8 hx1 hx2 hv8 M)
def fX2_lessen (t : Nat) (a1 : Int) (M : jw_M) : Option jw_M :=
  if jw_tag t = 2 then (Option.bind (some 9999) (fun v1 => Option.bind (some 0) (fun v2 => fX2_lessen_6 t jw_fu a1 v1 v2 M))) else none
set_option maxRecDepth 100000 in
theorem rX2_lessen (G : jw_G) (t : Nat) (a1 : Int) (ha1 : jw_r a1) (M : jw_M) : jw_Rn G YX2_lessen 2 0 0 true (fun M1 => (0, M1)) 0 [(0, jR G t), (1, jI a1)] [] M (fX2_lessen t a1 M) := by
  unfold fX2_lessen
  refine jw_ck (fun ht => ?_)
  refine jw_sipush (pc := 0) dX2_lessen_0 rfl ?_
  refine jw_istore_nL (pc := 3) (lv' := (fun y => [(2, y), (0, jR G t), (1, jI a1)])) dX2_lessen_3 (jw_rc _ rfl) (by decide) (fun _ => rfl) (fun v1 hv1 => ?_)
  refine jw_iconst (pc := 4) dX2_lessen_4 ?_
  refine jw_istore_nL (pc := 5) (lv' := (fun y => [(3, y), (2, jI v1), (0, jR G t), (1, jI a1)])) dX2_lessen_5 (jw_rc _ rfl) (by decide) (fun _ => rfl) (fun v2 hv2 => ?_)
  exact jw_few [2, 3, 1, 0] rfl (pX2_lessen_6 G t ht jw_fu a1 v1 v2 ha1 hv1 hv2 M)
theorem kX2_lessen (G : jw_G) (t : Nat) (a1 : Int) (ha1 : jw_r a1) (M : jw_M) : jw_Ct G YX2_lessen none 2 0 0 true (fun M1 => (0, M1)) yX2_lessen [jR G t, jI a1] M (fX2_lessen t a1 M) := jw_met (by decide) rfl rfl rfl (Nat.le_of_ble_eq_true rfl) (rX2_lessen G t a1 ha1 M)
abbrev YX2_passRound : jw_Y := (RX2, cX2_passRound, 4, 1, "passRound")
theorem qX2_passRound : jw_cy YX2_passRound (some .int) yX2_passRound 1 := ⟨by decide, jt_1123, jt_10, by decide, by decide +kernel⟩
theorem dX2_passRound_0 : decode cX2_passRound 0 = .ok (.iconst 0, 1) := by decide +kernel
theorem dX2_passRound_1 : decode cX2_passRound 1 = .ok (.istore_n 2, 1) := by decide +kernel
theorem dX2_passRound_2 : decode cX2_passRound 2 = .ok (.iload_n 2, 1) := by decide +kernel
theorem dX2_passRound_3 : decode cX2_passRound 3 = .ok (.bipush 25, 2) := by decide +kernel
theorem dX2_passRound_5 : decode cX2_passRound 5 = .ok (.if_icmp .ge 27, 3) := by decide +kernel
theorem dX2_passRound_8 : decode cX2_passRound 8 = .ok (.aload_n 0, 1) := by decide +kernel
theorem dX2_passRound_9 : decode cX2_passRound 9 = .ok (.iload_n 1, 1) := by decide +kernel
theorem dX2_passRound_10 : decode cX2_passRound 10 = .ok (.invokevirtual 30, 3) := by decide +kernel
theorem dX2_passRound_13 : decode cX2_passRound 13 = .ok (.istore_n 3, 1) := by decide +kernel
theorem dX2_passRound_14 : decode cX2_passRound 14 = .ok (.iload_n 3, 1) := by decide +kernel
theorem dX2_passRound_15 : decode cX2_passRound 15 = .ok (.ifCond .ne 6, 3) := by decide +kernel
theorem dX2_passRound_18 : decode cX2_passRound 18 = .ok (.goto 14, 3) := by decide +kernel
theorem dX2_passRound_21 : decode cX2_passRound 21 = .ok (.aload_n 0, 1) := by decide +kernel
theorem dX2_passRound_22 : decode cX2_passRound 22 = .ok (.iload_n 3, 1) := by decide +kernel
theorem dX2_passRound_23 : decode cX2_passRound 23 = .ok (.invokevirtual 34, 3) := by decide +kernel
theorem dX2_passRound_26 : decode cX2_passRound 26 = .ok (.iinc 2 1, 3) := by decide +kernel
theorem dX2_passRound_29 : decode cX2_passRound 29 = .ok (.goto (-27), 3) := by decide +kernel
theorem dX2_passRound_32 : decode cX2_passRound 32 = .ok (.iload_n 2, 1) := by decide +kernel
theorem dX2_passRound_33 : decode cX2_passRound 33 = .ok (.ireturn, 1) := by decide +kernel
def fX2_passRound_2 (t : Nat) : Nat → Int → Int → jw_M → Option (Int × jw_M)
  | 0, _, _, _ => none
  | k + 1, x1, x2, M => if x2 < 25 then (jw_b2 (fX2_firstRing t x1 M) (fun v2 M3 => Option.bind (some v2) (fun v4 => if v4 = 0 then (some (x2, M3)) else (Option.bind (fX2_lessen t v4 M3) (fun M5 => Option.bind (some (jw_w (x2 + 1))) (fun v6 => fX2_passRound_2 t k x1 v6 M5)))))) else (some (x2, M))
set_option maxRecDepth 100000 in
theorem pX2_passRound_2 (G : jw_G) (t : Nat) (ht : jw_tag t = 2) : ∀ (k : Nat) (x1 : Int) (x2 : Int) (hx1 : jw_r x1) (hx2 : jw_r x2) (M : jw_M), jw_Rn G YX2_passRound 28 0 0 true (fun q => q) 2 [(0, jR G t), (1, jI x1), (2, jI x2)] [] M (fX2_passRound_2 t k x1 x2 M) := by
  intro k
  induction k with
  | zero =>
    intro x1 x2 hx1 hx2 M
    exact jw_none
  | succ k ih =>
    intro x1 x2 hx1 hx2 M
    rw [fX2_passRound_2]
    refine jw_iload_n (pc := 2) 2 dX2_passRound_2 rfl ?_
    refine jw_bipush (pc := 3) dX2_passRound_3 rfl ?_
    refine jw_ic_ge (pc := 5) 32 dX2_passRound_5 (by decide) hx2 (jw_rc _ rfl) (fun _ => ?_) (fun _ => ?_)
    · refine jw_aloadR (pc := 8) 0 dX2_passRound_8 rfl ?_
      refine jw_iload_n (pc := 9) 1 dX2_passRound_9 rfl ?_
      refine jw_callVMi (pc := 10) (As := [jI x1]) (st := []) dX2_passRound_10 rfl (Nat.le_of_ble_eq_true rfl) qX2_firstRing jt_1124 jt_1126 jp_36 rfl rfl (Nat.le_of_ble_eq_true rfl) jv_2 rfl ht (jn_2 ht) (by decide) (jw_ho ht (by decide)) (kX2_firstRing G t x1 hx1 M) (fun v2 M3 hv2 => ?_)
      refine jw_istore_nL (pc := 13) (lv' := (fun y => [(3, y), (0, jR G t), (1, jI x1), (2, jI x2)])) dX2_passRound_13 hv2 (by decide) (fun _ => rfl) (fun v4 hv4 => ?_)
      refine jw_iload_n (pc := 14) 0 dX2_passRound_14 rfl ?_
      refine jw_if_ne (pc := 15) 21 dX2_passRound_15 (by decide) hv4 (fun _ => ?_) (fun _ => ?_)
      · refine jw_goto (pc := 18) 32 dX2_passRound_18 (by decide) ?_
        refine jw_iload_n (pc := 32) 3 dX2_passRound_32 rfl ?_
        exact jw_ret (pc := 33) (v := x2) dX2_passRound_33 hx2 rfl rfl
      · refine jw_aloadR (pc := 21) 1 dX2_passRound_21 rfl ?_
        refine jw_iload_n (pc := 22) 0 dX2_passRound_22 rfl ?_
        refine jw_callVM (pc := 23) (As := [jI v4]) (st := []) dX2_passRound_23 rfl (Nat.le_of_ble_eq_true rfl) qX2_lessen jt_1137 jt_1139 jp_39 rfl rfl (Nat.le_of_ble_eq_true rfl) jv_2 rfl ht (jn_2 ht) (by decide) (jw_ho ht (by decide)) (kX2_lessen G t v4 hv4 M3) (fun M5 => ?_)
        refine jw_iincL (pc := 26) 3 (lv' := (fun y => [(2, y), (3, jI v4), (0, jR G t), (1, jI x1)])) dX2_passRound_26 rfl (Nat.le_of_ble_eq_true rfl) (fun _ => rfl) (fun v6 hv6 => ?_)
        refine jw_goto (pc := 29) 2 dX2_passRound_29 (by decide) ?_
        exact jw_few [2, 3, 0] rfl (ih x1 v6 hx1 hv6 M5)
    · refine jw_iload_n (pc := 32) 2 dX2_passRound_32 rfl ?_
      exact jw_ret (pc := 33) (v := x2) dX2_passRound_33 hx2 rfl rfl
def fX2_passRound (t : Nat) (a1 : Int) (M : jw_M) : Option (Int × jw_M) :=
  if jw_tag t = 2 then (Option.bind (some 0) (fun v1 => fX2_passRound_2 t jw_fu a1 v1 M)) else none
set_option maxRecDepth 100000 in
theorem rX2_passRound (G : jw_G) (t : Nat) (a1 : Int) (ha1 : jw_r a1) (M : jw_M) : jw_Rn G YX2_passRound 28 0 0 true (fun q => q) 0 [(0, jR G t), (1, jI a1)] [] M (fX2_passRound t a1 M) := by
  unfold fX2_passRound
  refine jw_ck (fun ht => ?_)
  refine jw_iconst (pc := 0) dX2_passRound_0 ?_
  refine jw_istore_nL (pc := 1) (lv' := (fun y => [(2, y), (0, jR G t), (1, jI a1)])) dX2_passRound_1 (jw_rc _ rfl) (by decide) (fun _ => rfl) (fun v1 hv1 => ?_)
  exact jw_few [1, 2, 0] rfl (pX2_passRound_2 G t ht jw_fu a1 v1 ha1 hv1 M)
theorem kX2_passRound (G : jw_G) (t : Nat) (a1 : Int) (ha1 : jw_r a1) (M : jw_M) : jw_Ct G YX2_passRound (some .int) 28 0 0 true (fun q => q) yX2_passRound [jR G t, jI a1] M (fX2_passRound t a1 M) := jw_met (by decide) rfl rfl rfl (Nat.le_of_ble_eq_true rfl) (rX2_passRound G t a1 ha1 M)
abbrev YX6_isRow : jw_Y := (RX6, cX6_isRow, 2, 4, "isRow")
theorem qX6_isRow : jw_cy YX6_isRow (some .boolean) yX6_isRow 1 := ⟨by decide, jt_413, jt_2, by decide, by decide +kernel⟩
theorem dX6_isRow_0 : decode cX6_isRow 0 = .ok (.iload_n 1, 1) := by decide +kernel
theorem dX6_isRow_1 : decode cX6_isRow 1 = .ok (.ifCond .lt 13, 3) := by decide +kernel
theorem dX6_isRow_4 : decode cX6_isRow 4 = .ok (.iload_n 1, 1) := by decide +kernel
theorem dX6_isRow_5 : decode cX6_isRow 5 = .ok (.bipush 8, 2) := by decide +kernel
theorem dX6_isRow_7 : decode cX6_isRow 7 = .ok (.if_icmp .ge 7, 3) := by decide +kernel
theorem dX6_isRow_10 : decode cX6_isRow 10 = .ok (.iconst 1, 1) := by decide +kernel
theorem dX6_isRow_11 : decode cX6_isRow 11 = .ok (.goto 4, 3) := by decide +kernel
theorem dX6_isRow_14 : decode cX6_isRow 14 = .ok (.iconst 0, 1) := by decide +kernel
theorem dX6_isRow_15 : decode cX6_isRow 15 = .ok (.ireturn, 1) := by decide +kernel
def fX6_isRow (a1 : Int) (M : jw_M) : Option Int :=
  if a1 < 0 then (some 0) else (if a1 < 8 then (some 1) else (some 0))
set_option maxRecDepth 100000 in
theorem rX6_isRow (G : jw_G) (a1 : Int) (ha1 : jw_r a1) (M : jw_M) : jw_Rn G YX6_isRow 1 0 0 true (fun v => (v, M)) 0 [(0, jR G 1), (1, jI a1)] [] M (fX6_isRow a1 M) := by
  unfold fX6_isRow
  refine jw_iload_n (pc := 0) 1 dX6_isRow_0 rfl ?_
  refine jw_if_lt (pc := 1) 14 dX6_isRow_1 (by decide) ha1 (fun _ => ?_) (fun _ => ?_)
  · refine jw_iconst (pc := 14) dX6_isRow_14 ?_
    exact jw_ret (pc := 15) (v := 0) dX6_isRow_15 (Or.inl rfl) rfl rfl
  · refine jw_iload_n (pc := 4) 1 dX6_isRow_4 rfl ?_
    refine jw_bipush (pc := 5) dX6_isRow_5 rfl ?_
    refine jw_ic_ge (pc := 7) 14 dX6_isRow_7 (by decide) ha1 (jw_rc _ rfl) (fun _ => ?_) (fun _ => ?_)
    · refine jw_iconst (pc := 10) dX6_isRow_10 ?_
      refine jw_goto (pc := 11) 15 dX6_isRow_11 (by decide) ?_
      exact jw_ret (pc := 15) (v := 1) dX6_isRow_15 (Or.inr rfl) rfl rfl
    · refine jw_iconst (pc := 14) dX6_isRow_14 ?_
      exact jw_ret (pc := 15) (v := 0) dX6_isRow_15 (Or.inl rfl) rfl rfl
theorem kX6_isRow (G : jw_G) (a1 : Int) (ha1 : jw_r a1) (M : jw_M) : jw_Ct G YX6_isRow (some .boolean) 1 0 0 true (fun v => (v, M)) yX6_isRow [jR G 1, jI a1] M (fX6_isRow a1 M) := jw_met (by decide) rfl rfl rfl (Nat.le_of_ble_eq_true rfl) (rX6_isRow G a1 ha1 M)
abbrev YX6_isMissing : jw_Y := (RX6, cX6_isMissing, 2, 4, "isMissing")
theorem qX6_isMissing : jw_cy YX6_isMissing (some .boolean) yX6_isMissing 1 := ⟨by decide, jt_441, jt_2, by decide, by decide +kernel⟩
theorem dX6_isMissing_0 : decode cX6_isMissing 0 = .ok (.aload_n 0, 1) := by decide +kernel
theorem dX6_isMissing_1 : decode cX6_isMissing 1 = .ok (.getfield 9, 3) := by decide +kernel
theorem dX6_isMissing_4 : decode cX6_isMissing 4 = .ok (.iload_n 1, 1) := by decide +kernel
theorem dX6_isMissing_5 : decode cX6_isMissing 5 = .ok (.iaload, 1) := by decide +kernel
theorem dX6_isMissing_6 : decode cX6_isMissing 6 = .ok (.iconst (-1), 1) := by decide +kernel
theorem dX6_isMissing_7 : decode cX6_isMissing 7 = .ok (.if_icmp .ne 7, 3) := by decide +kernel
theorem dX6_isMissing_10 : decode cX6_isMissing 10 = .ok (.iconst 1, 1) := by decide +kernel
theorem dX6_isMissing_11 : decode cX6_isMissing 11 = .ok (.goto 4, 3) := by decide +kernel
theorem dX6_isMissing_14 : decode cX6_isMissing 14 = .ok (.iconst 0, 1) := by decide +kernel
theorem dX6_isMissing_15 : decode cX6_isMissing 15 = .ok (.ireturn, 1) := by decide +kernel
def fX6_isMissing (a1 : Int) (M : jw_M) : Option Int :=
  if 0 ≤ a1 ∧ a1 < 8 then if M 2 a1 = (-1) then (some 1) else (some 0) else none
set_option maxRecDepth 100000 in
theorem rX6_isMissing (G : jw_G) (a1 : Int) (ha1 : jw_r a1) (M : jw_M) : jw_Rn G YX6_isMissing 1 0 0 true (fun v => (v, M)) 0 [(0, jR G 1), (1, jI a1)] [] M (fX6_isMissing a1 M) := by
  unfold fX6_isMissing
  refine jw_aloadR (pc := 0) 0 dX6_isMissing_0 rfl ?_
  refine jw_getR (pc := 1) (j := 0) rfl dX6_isMissing_1 jv_6 ji_6 (Or.inl jt_39) jg_1 jl_1 (by decide) (by decide) rfl jf_6_0 ?_
  refine jw_iload_n (pc := 4) 1 dX6_isMissing_4 rfl ?_
  refine jw_iald (pc := 5) dX6_isMissing_5 jg_2 jl_2 (jw_ho jg_2 (by decide)) ha1 rfl (fun h1 => ?_)
  refine jw_iconst (pc := 6) dX6_isMissing_6 ?_
  refine jw_ic_ne (pc := 7) 14 dX6_isMissing_7 (by decide) h1 (jw_rc _ rfl) (fun _ => ?_) (fun _ => ?_)
  · refine jw_iconst (pc := 10) dX6_isMissing_10 ?_
    refine jw_goto (pc := 11) 15 dX6_isMissing_11 (by decide) ?_
    exact jw_ret (pc := 15) (v := 1) dX6_isMissing_15 (Or.inr rfl) rfl rfl
  · refine jw_iconst (pc := 14) dX6_isMissing_14 ?_
    exact jw_ret (pc := 15) (v := 0) dX6_isMissing_15 (Or.inl rfl) rfl rfl
theorem kX6_isMissing (G : jw_G) (a1 : Int) (ha1 : jw_r a1) (M : jw_M) : jw_Ct G YX6_isMissing (some .boolean) 1 0 0 true (fun v => (v, M)) yX6_isMissing [jR G 1, jI a1] M (fX6_isMissing a1 M) := jw_met (by decide) rfl rfl rfl (Nat.le_of_ble_eq_true rfl) (rX6_isMissing G a1 ha1 M)
abbrev YX6_areOfOneLane : jw_Y := (RX6, cX6_areOfOneLane, 3, 4, "areOfOneLane")
theorem qX6_areOfOneLane : jw_cy YX6_areOfOneLane (some .boolean) yX6_areOfOneLane 2 := ⟨by decide, jt_460, jt_2, by decide, by decide +kernel⟩
theorem dX6_areOfOneLane_0 : decode cX6_areOfOneLane 0 = .ok (.aload_n 0, 1) := by decide +kernel
theorem dX6_areOfOneLane_1 : decode cX6_areOfOneLane 1 = .ok (.getfield 9, 3) := by decide +kernel
theorem dX6_areOfOneLane_4 : decode cX6_areOfOneLane 4 = .ok (.iload_n 1, 1) := by decide +kernel
theorem dX6_areOfOneLane_5 : decode cX6_areOfOneLane 5 = .ok (.iaload, 1) := by decide +kernel
theorem dX6_areOfOneLane_6 : decode cX6_areOfOneLane 6 = .ok (.aload_n 0, 1) := by decide +kernel
theorem dX6_areOfOneLane_7 : decode cX6_areOfOneLane 7 = .ok (.getfield 9, 3) := by decide +kernel
theorem dX6_areOfOneLane_10 : decode cX6_areOfOneLane 10 = .ok (.iload_n 2, 1) := by decide +kernel
theorem dX6_areOfOneLane_11 : decode cX6_areOfOneLane 11 = .ok (.iaload, 1) := by decide +kernel
theorem dX6_areOfOneLane_12 : decode cX6_areOfOneLane 12 = .ok (.if_icmp .ne 7, 3) := by decide +kernel
theorem dX6_areOfOneLane_15 : decode cX6_areOfOneLane 15 = .ok (.iconst 1, 1) := by decide +kernel
theorem dX6_areOfOneLane_16 : decode cX6_areOfOneLane 16 = .ok (.goto 4, 3) := by decide +kernel
theorem dX6_areOfOneLane_19 : decode cX6_areOfOneLane 19 = .ok (.iconst 0, 1) := by decide +kernel
theorem dX6_areOfOneLane_20 : decode cX6_areOfOneLane 20 = .ok (.ireturn, 1) := by decide +kernel
def fX6_areOfOneLane (a1 : Int) (a2 : Int) (M : jw_M) : Option Int :=
  if 0 ≤ a1 ∧ a1 < 8 then if 0 ≤ a2 ∧ a2 < 8 then if M 2 a1 = M 2 a2 then (some 1) else (some 0) else none else none
set_option maxRecDepth 100000 in
theorem rX6_areOfOneLane (G : jw_G) (a1 : Int) (a2 : Int) (ha1 : jw_r a1) (ha2 : jw_r a2) (M : jw_M) : jw_Rn G YX6_areOfOneLane 1 0 0 true (fun v => (v, M)) 0 [(0, jR G 1), (1, jI a1), (2, jI a2)] [] M (fX6_areOfOneLane a1 a2 M) := by
  unfold fX6_areOfOneLane
  refine jw_aloadR (pc := 0) 0 dX6_areOfOneLane_0 rfl ?_
  refine jw_getR (pc := 1) (j := 0) rfl dX6_areOfOneLane_1 jv_6 ji_6 (Or.inl jt_39) jg_1 jl_1 (by decide) (by decide) rfl jf_6_0 ?_
  refine jw_iload_n (pc := 4) 1 dX6_areOfOneLane_4 rfl ?_
  refine jw_iald (pc := 5) dX6_areOfOneLane_5 jg_2 jl_2 (jw_ho jg_2 (by decide)) ha1 rfl (fun h1 => ?_)
  refine jw_aloadR (pc := 6) 0 dX6_areOfOneLane_6 rfl ?_
  refine jw_getR (pc := 7) (j := 0) rfl dX6_areOfOneLane_7 jv_6 ji_6 (Or.inl jt_39) jg_1 jl_1 (by decide) (by decide) rfl jf_6_0 ?_
  refine jw_iload_n (pc := 10) 2 dX6_areOfOneLane_10 rfl ?_
  refine jw_iald (pc := 11) dX6_areOfOneLane_11 jg_2 jl_2 (jw_ho jg_2 (by decide)) ha2 rfl (fun h2 => ?_)
  refine jw_ic_ne (pc := 12) 19 dX6_areOfOneLane_12 (by decide) h1 h2 (fun _ => ?_) (fun _ => ?_)
  · refine jw_iconst (pc := 15) dX6_areOfOneLane_15 ?_
    refine jw_goto (pc := 16) 20 dX6_areOfOneLane_16 (by decide) ?_
    exact jw_ret (pc := 20) (v := 1) dX6_areOfOneLane_20 (Or.inr rfl) rfl rfl
  · refine jw_iconst (pc := 19) dX6_areOfOneLane_19 ?_
    exact jw_ret (pc := 20) (v := 0) dX6_areOfOneLane_20 (Or.inl rfl) rfl rfl
theorem kX6_areOfOneLane (G : jw_G) (a1 : Int) (a2 : Int) (ha1 : jw_r a1) (ha2 : jw_r a2) (M : jw_M) : jw_Ct G YX6_areOfOneLane (some .boolean) 1 0 0 true (fun v => (v, M)) yX6_areOfOneLane [jR G 1, jI a1, jI a2] M (fX6_areOfOneLane a1 a2 M) := jw_met (by decide) rfl rfl rfl (Nat.le_of_ble_eq_true rfl) (rX6_areOfOneLane G a1 a2 ha1 ha2 M)
abbrev YX6_hasPlaces : jw_Y := (RX6, cX6_hasPlaces, 4, 4, "hasPlaces")
theorem qX6_hasPlaces : jw_cy YX6_hasPlaces (some .boolean) yX6_hasPlaces 3 := ⟨by decide, jt_445, jt_2, by decide, by decide +kernel⟩
theorem dX6_hasPlaces_0 : decode cX6_hasPlaces 0 = .ok (.iload_n 2, 1) := by decide +kernel
theorem dX6_hasPlaces_1 : decode cX6_hasPlaces 1 = .ok (.ifCond .lt 27, 3) := by decide +kernel
theorem dX6_hasPlaces_4 : decode cX6_hasPlaces 4 = .ok (.iload_n 3, 1) := by decide +kernel
theorem dX6_hasPlaces_5 : decode cX6_hasPlaces 5 = .ok (.ifCond .lt 23, 3) := by decide +kernel
theorem dX6_hasPlaces_8 : decode cX6_hasPlaces 8 = .ok (.iload_n 2, 1) := by decide +kernel
theorem dX6_hasPlaces_9 : decode cX6_hasPlaces 9 = .ok (.i2l, 1) := by decide +kernel
theorem dX6_hasPlaces_10 : decode cX6_hasPlaces 10 = .ok (.iload_n 3, 1) := by decide +kernel
theorem dX6_hasPlaces_11 : decode cX6_hasPlaces 11 = .ok (.i2l, 1) := by decide +kernel
theorem dX6_hasPlaces_12 : decode cX6_hasPlaces 12 = .ok (.ladd, 1) := by decide +kernel
theorem dX6_hasPlaces_13 : decode cX6_hasPlaces 13 = .ok (.aload_n 0, 1) := by decide +kernel
theorem dX6_hasPlaces_14 : decode cX6_hasPlaces 14 = .ok (.getfield 13, 3) := by decide +kernel
theorem dX6_hasPlaces_17 : decode cX6_hasPlaces 17 = .ok (.iload_n 1, 1) := by decide +kernel
theorem dX6_hasPlaces_18 : decode cX6_hasPlaces 18 = .ok (.iaload, 1) := by decide +kernel
theorem dX6_hasPlaces_19 : decode cX6_hasPlaces 19 = .ok (.i2l, 1) := by decide +kernel
theorem dX6_hasPlaces_20 : decode cX6_hasPlaces 20 = .ok (.lcmp, 1) := by decide +kernel
theorem dX6_hasPlaces_21 : decode cX6_hasPlaces 21 = .ok (.ifCond .gt 7, 3) := by decide +kernel
theorem dX6_hasPlaces_24 : decode cX6_hasPlaces 24 = .ok (.iconst 1, 1) := by decide +kernel
theorem dX6_hasPlaces_25 : decode cX6_hasPlaces 25 = .ok (.goto 4, 3) := by decide +kernel
theorem dX6_hasPlaces_28 : decode cX6_hasPlaces 28 = .ok (.iconst 0, 1) := by decide +kernel
theorem dX6_hasPlaces_29 : decode cX6_hasPlaces 29 = .ok (.ireturn, 1) := by decide +kernel
def fX6_hasPlaces (a1 : Int) (a2 : Int) (a3 : Int) (M : jw_M) : Option Int :=
  if a2 < 0 then (some 0) else (if a3 < 0 then (some 0) else (if 0 ≤ a1 ∧ a1 < 8 then if (0 : Int) < jw_cmp (jw_v (a2 + a3)) (M 3 a1) then (some 0) else (some 1) else none))
set_option maxRecDepth 100000 in
theorem rX6_hasPlaces (G : jw_G) (a1 : Int) (a2 : Int) (a3 : Int) (ha1 : jw_r a1) (ha2 : jw_r a2) (ha3 : jw_r a3) (M : jw_M) : jw_Rn G YX6_hasPlaces 1 0 0 true (fun v => (v, M)) 0 [(0, jR G 1), (1, jI a1), (2, jI a2), (3, jI a3)] [] M (fX6_hasPlaces a1 a2 a3 M) := by
  unfold fX6_hasPlaces
  refine jw_iload_n (pc := 0) 2 dX6_hasPlaces_0 rfl ?_
  refine jw_if_lt (pc := 1) 28 dX6_hasPlaces_1 (by decide) ha2 (fun _ => ?_) (fun _ => ?_)
  · refine jw_iconst (pc := 28) dX6_hasPlaces_28 ?_
    exact jw_ret (pc := 29) (v := 0) dX6_hasPlaces_29 (Or.inl rfl) rfl rfl
  · refine jw_iload_n (pc := 4) 3 dX6_hasPlaces_4 rfl ?_
    refine jw_if_lt (pc := 5) 28 dX6_hasPlaces_5 (by decide) ha3 (fun _ => ?_) (fun _ => ?_)
    · refine jw_iconst (pc := 28) dX6_hasPlaces_28 ?_
      exact jw_ret (pc := 29) (v := 0) dX6_hasPlaces_29 (Or.inl rfl) rfl rfl
    · refine jw_iload_n (pc := 8) 2 dX6_hasPlaces_8 rfl ?_
      refine jw_i2lr (pc := 9) dX6_hasPlaces_9 ha2 ?_
      refine jw_iload_n (pc := 10) 3 dX6_hasPlaces_10 rfl ?_
      refine jw_i2lr (pc := 11) dX6_hasPlaces_11 ha3 ?_
      refine jw_ladd (pc := 12) dX6_hasPlaces_12 ?_
      refine jw_aloadR (pc := 13) 0 dX6_hasPlaces_13 rfl ?_
      refine jw_getR (pc := 14) (j := 1) rfl dX6_hasPlaces_14 jv_6 ji_6 (Or.inl jt_40) jg_1 jl_1 (by decide) (by decide) rfl jf_6_1 ?_
      refine jw_iload_n (pc := 17) 1 dX6_hasPlaces_17 rfl ?_
      refine jw_iald (pc := 18) dX6_hasPlaces_18 jg_3 jl_3 (jw_ho jg_3 (by decide)) ha1 rfl (fun h1 => ?_)
      refine jw_i2lr (pc := 19) dX6_hasPlaces_19 h1 ?_
      refine jw_lcmp (pc := 20) dX6_hasPlaces_20 (jw_vr _) (jw_rq h1) ?_
      refine jw_if_gt (pc := 21) 28 dX6_hasPlaces_21 (by decide) (jw_cmpr _ _) (fun _ => ?_) (fun _ => ?_)
      · refine jw_iconst (pc := 28) dX6_hasPlaces_28 ?_
        exact jw_ret (pc := 29) (v := 0) dX6_hasPlaces_29 (Or.inl rfl) rfl rfl
      · refine jw_iconst (pc := 24) dX6_hasPlaces_24 ?_
        refine jw_goto (pc := 25) 29 dX6_hasPlaces_25 (by decide) ?_
        exact jw_ret (pc := 29) (v := 1) dX6_hasPlaces_29 (Or.inr rfl) rfl rfl
theorem kX6_hasPlaces (G : jw_G) (a1 : Int) (a2 : Int) (a3 : Int) (ha1 : jw_r a1) (ha2 : jw_r a2) (ha3 : jw_r a3) (M : jw_M) : jw_Ct G YX6_hasPlaces (some .boolean) 1 0 0 true (fun v => (v, M)) yX6_hasPlaces [jR G 1, jI a1, jI a2, jI a3] M (fX6_hasPlaces a1 a2 a3 M) := jw_met (by decide) rfl rfl rfl (Nat.le_of_ble_eq_true rfl) (rX6_hasPlaces G a1 a2 a3 ha1 ha2 ha3 M)
abbrev YX6_lay : jw_Y := (RX6, cX6_lay, 4, 0, "lay")
theorem qX6_lay : jw_cy YX6_lay none yX6_lay 3 := ⟨by decide, jt_423, jt_2, by decide, by decide +kernel⟩
theorem dX6_lay_0 : decode cX6_lay 0 = .ok (.aload_n 0, 1) := by decide +kernel
theorem dX6_lay_1 : decode cX6_lay 1 = .ok (.getfield 9, 3) := by decide +kernel
theorem dX6_lay_4 : decode cX6_lay 4 = .ok (.iload_n 1, 1) := by decide +kernel
theorem dX6_lay_5 : decode cX6_lay 5 = .ok (.iload_n 2, 1) := by decide +kernel
theorem dX6_lay_6 : decode cX6_lay 6 = .ok (.iastore, 1) := by decide +kernel
theorem dX6_lay_7 : decode cX6_lay 7 = .ok (.aload_n 0, 1) := by decide +kernel
theorem dX6_lay_8 : decode cX6_lay 8 = .ok (.getfield 13, 3) := by decide +kernel
theorem dX6_lay_11 : decode cX6_lay 11 = .ok (.iload_n 1, 1) := by decide +kernel
theorem dX6_lay_12 : decode cX6_lay 12 = .ok (.iload_n 3, 1) := by decide +kernel
theorem dX6_lay_13 : decode cX6_lay 13 = .ok (.iastore, 1) := by decide +kernel
theorem dX6_lay_14 : decode cX6_lay 14 = .ok (.aload_n 0, 1) := by decide +kernel
theorem dX6_lay_15 : decode cX6_lay 15 = .ok (.getfield 16, 3) := by decide +kernel
theorem dX6_lay_18 : decode cX6_lay 18 = .ok (.iload_n 1, 1) := by decide +kernel
theorem dX6_lay_19 : decode cX6_lay 19 = .ok (.bipush 40, 2) := by decide +kernel
theorem dX6_lay_21 : decode cX6_lay 21 = .ok (.imul, 1) := by decide +kernel
theorem dX6_lay_22 : decode cX6_lay 22 = .ok (.iload_n 1, 1) := by decide +kernel
theorem dX6_lay_23 : decode cX6_lay 23 = .ok (.iconst 1, 1) := by decide +kernel
theorem dX6_lay_24 : decode cX6_lay 24 = .ok (.iadd, 1) := by decide +kernel
theorem dX6_lay_25 : decode cX6_lay 25 = .ok (.bipush 40, 2) := by decide +kernel
theorem dX6_lay_27 : decode cX6_lay 27 = .ok (.imul, 1) := by decide +kernel
theorem dX6_lay_28 : decode cX6_lay 28 = .ok (.iconst 0, 1) := by decide +kernel
theorem dX6_lay_29 : decode cX6_lay 29 = .ok (.invokestatic 25, 3) := by decide +kernel
theorem dX6_lay_32 : decode cX6_lay 32 = .ok (.return_, 1) := by decide +kernel
def fX6_lay (a1 : Int) (a2 : Int) (a3 : Int) (M : jw_M) : Option jw_M :=
  if 0 ≤ a1 ∧ a1 < 8 then Option.bind (some (jw_up M 2 a1 a2)) (fun M1 => if 0 ≤ a1 ∧ a1 < 8 then Option.bind (some (jw_up M1 3 a1 a3)) (fun M2 => Option.bind (fJ7_fill_fda19 4 (jw_w (a1 * 40)) (jw_w ((jw_w (a1 + 1)) * 40)) 0 M2) (fun M3 => some M3)) else none) else none
set_option maxRecDepth 100000 in
theorem rX6_lay (G : jw_G) (a1 : Int) (a2 : Int) (a3 : Int) (ha1 : jw_r a1) (ha2 : jw_r a2) (ha3 : jw_r a3) (M : jw_M) : jw_Rn G YX6_lay 3 0 0 true (fun M1 => (0, M1)) 0 [(0, jR G 1), (1, jI a1), (2, jI a2), (3, jI a3)] [] M (fX6_lay a1 a2 a3 M) := by
  unfold fX6_lay
  refine jw_aloadR (pc := 0) 0 dX6_lay_0 rfl ?_
  refine jw_getR (pc := 1) (j := 0) rfl dX6_lay_1 jv_6 ji_6 (Or.inl jt_39) jg_1 jl_1 (by decide) (by decide) rfl jf_6_0 ?_
  refine jw_iload_n (pc := 4) 1 dX6_lay_4 rfl ?_
  refine jw_iload_n (pc := 5) 2 dX6_lay_5 rfl ?_
  refine jw_iast (pc := 6) dX6_lay_6 jg_2 jl_2 (jw_ho jg_2 (by decide)) ha1 ha2 rfl ?_
  refine jw_letM (fun M1 => ?_)
  refine jw_aloadR (pc := 7) 0 dX6_lay_7 rfl ?_
  refine jw_getR (pc := 8) (j := 1) rfl dX6_lay_8 jv_6 ji_6 (Or.inl jt_40) jg_1 jl_1 (by decide) (by decide) rfl jf_6_1 ?_
  refine jw_iload_n (pc := 11) 1 dX6_lay_11 rfl ?_
  refine jw_iload_n (pc := 12) 3 dX6_lay_12 rfl ?_
  refine jw_iast (pc := 13) dX6_lay_13 jg_3 jl_3 (jw_ho jg_3 (by decide)) ha1 ha3 rfl ?_
  refine jw_letM (fun M2 => ?_)
  refine jw_aloadR (pc := 14) 0 dX6_lay_14 rfl ?_
  refine jw_getR (pc := 15) (j := 2) rfl dX6_lay_15 jv_6 ji_6 (Or.inl jt_41) jg_1 jl_1 (by decide) (by decide) rfl jf_6_2 ?_
  refine jw_iload_n (pc := 18) 1 dX6_lay_18 rfl ?_
  refine jw_bipush (pc := 19) dX6_lay_19 rfl ?_
  refine jw_imul (pc := 21) dX6_lay_21 ?_
  refine jw_iload_n (pc := 22) 1 dX6_lay_22 rfl ?_
  refine jw_iconst (pc := 23) dX6_lay_23 ?_
  refine jw_iadd (pc := 24) dX6_lay_24 ?_
  refine jw_bipush (pc := 25) dX6_lay_25 rfl ?_
  refine jw_imul (pc := 27) dX6_lay_27 ?_
  refine jw_iconst (pc := 28) dX6_lay_28 ?_
  refine jw_callSM (pc := 29) (As := [jR G 4, jI (jw_w (a1 * 40)), jI (jw_w ((jw_w (a1 + 1)) * 40)), jI 0]) (st := []) dX6_lay_29 rfl (Nat.le_of_ble_eq_true rfl) qJ7_fill_fda19 jt_424 jt_425 rfl rfl (Nat.le_of_ble_eq_true rfl) (kJ7_fill_fda19 G 4 (jw_w (a1 * 40)) (jw_w ((jw_w (a1 + 1)) * 40)) 0 (jw_wr _) (jw_wr _) (jw_rc _ rfl) M2) (fun M3 => ?_)
  exact jw_ret (pc := 32) (v := 0) dX6_lay_32 trivial rfl rfl
theorem kX6_lay (G : jw_G) (a1 : Int) (a2 : Int) (a3 : Int) (ha1 : jw_r a1) (ha2 : jw_r a2) (ha3 : jw_r a3) (M : jw_M) : jw_Ct G YX6_lay none 3 0 0 true (fun M1 => (0, M1)) yX6_lay [jR G 1, jI a1, jI a2, jI a3] M (fX6_lay a1 a2 a3 M) := jw_met (by decide) rfl rfl rfl (Nat.le_of_ble_eq_true rfl) (rX6_lay G a1 a2 a3 ha1 ha2 ha3 M)
abbrev YX6_item : jw_Y := (RX6, cX6_item, 3, 1, "item")
theorem qX6_item : jw_cy YX6_item (some .int) yX6_item 2 := ⟨by decide, jt_797, jt_2, by decide, by decide +kernel⟩
theorem dX6_item_0 : decode cX6_item 0 = .ok (.aload_n 0, 1) := by decide +kernel
theorem dX6_item_1 : decode cX6_item 1 = .ok (.getfield 16, 3) := by decide +kernel
theorem dX6_item_4 : decode cX6_item 4 = .ok (.iload_n 1, 1) := by decide +kernel
theorem dX6_item_5 : decode cX6_item 5 = .ok (.bipush 40, 2) := by decide +kernel
theorem dX6_item_7 : decode cX6_item 7 = .ok (.imul, 1) := by decide +kernel
theorem dX6_item_8 : decode cX6_item 8 = .ok (.iload_n 2, 1) := by decide +kernel
theorem dX6_item_9 : decode cX6_item 9 = .ok (.iadd, 1) := by decide +kernel
theorem dX6_item_10 : decode cX6_item 10 = .ok (.iaload, 1) := by decide +kernel
theorem dX6_item_11 : decode cX6_item 11 = .ok (.ireturn, 1) := by decide +kernel
def fX6_item (a1 : Int) (a2 : Int) (M : jw_M) : Option Int :=
  if 0 ≤ jw_w ((jw_w (a1 * 40)) + a2) ∧ jw_w ((jw_w (a1 * 40)) + a2) < 320 then some (M 4 (jw_w ((jw_w (a1 * 40)) + a2))) else none
set_option maxRecDepth 100000 in
theorem rX6_item (G : jw_G) (a1 : Int) (a2 : Int) (ha1 : jw_r a1) (ha2 : jw_r a2) (M : jw_M) : jw_Rn G YX6_item 1 0 0 true (fun v => (v, M)) 0 [(0, jR G 1), (1, jI a1), (2, jI a2)] [] M (fX6_item a1 a2 M) := by
  unfold fX6_item
  refine jw_aloadR (pc := 0) 0 dX6_item_0 rfl ?_
  refine jw_getR (pc := 1) (j := 2) rfl dX6_item_1 jv_6 ji_6 (Or.inl jt_41) jg_1 jl_1 (by decide) (by decide) rfl jf_6_2 ?_
  refine jw_iload_n (pc := 4) 1 dX6_item_4 rfl ?_
  refine jw_bipush (pc := 5) dX6_item_5 rfl ?_
  refine jw_imul (pc := 7) dX6_item_7 ?_
  refine jw_iload_n (pc := 8) 2 dX6_item_8 rfl ?_
  refine jw_iadd (pc := 9) dX6_item_9 ?_
  refine jw_iald (pc := 10) dX6_item_10 jg_4 jl_4 (jw_ho jg_4 (by decide)) (jw_wr _) rfl (fun h1 => ?_)
  exact jw_ret (pc := 11) (v := M 4 (jw_w ((jw_w (a1 * 40)) + a2))) dX6_item_11 h1 rfl rfl
theorem kX6_item (G : jw_G) (a1 : Int) (a2 : Int) (ha1 : jw_r a1) (ha2 : jw_r a2) (M : jw_M) : jw_Ct G YX6_item (some .int) 1 0 0 true (fun v => (v, M)) yX6_item [jR G 1, jI a1, jI a2] M (fX6_item a1 a2 M) := jw_met (by decide) rfl rfl rfl (Nat.le_of_ble_eq_true rfl) (rX6_item G a1 a2 ha1 ha2 M)
abbrev YX6_cutToLane : jw_Y := (RX6, cX6_cutToLane, 2, 1, "cutToLane")
theorem qX6_cutToLane : jw_cy YX6_cutToLane (some .int) yX6_cutToLane 2 := ⟨by decide, jt_452, jt_2, by decide, by decide +kernel⟩
theorem dX6_cutToLane_0 : decode cX6_cutToLane 0 = .ok (.iload_n 0, 1) := by decide +kernel
theorem dX6_cutToLane_1 : decode cX6_cutToLane 1 = .ok (.lookupswitch 33 #[(0, 27), (1, 30)], 27) := by decide +kernel
theorem dX6_cutToLane_28 : decode cX6_cutToLane 28 = .ok (.iload_n 1, 1) := by decide +kernel
theorem dX6_cutToLane_29 : decode cX6_cutToLane 29 = .ok (.i2b, 1) := by decide +kernel
theorem dX6_cutToLane_30 : decode cX6_cutToLane 30 = .ok (.ireturn, 1) := by decide +kernel
theorem dX6_cutToLane_31 : decode cX6_cutToLane 31 = .ok (.iload_n 1, 1) := by decide +kernel
theorem dX6_cutToLane_32 : decode cX6_cutToLane 32 = .ok (.i2s, 1) := by decide +kernel
theorem dX6_cutToLane_33 : decode cX6_cutToLane 33 = .ok (.ireturn, 1) := by decide +kernel
theorem dX6_cutToLane_34 : decode cX6_cutToLane 34 = .ok (.iload_n 1, 1) := by decide +kernel
theorem dX6_cutToLane_35 : decode cX6_cutToLane 35 = .ok (.ireturn, 1) := by decide +kernel
def fX6_cutToLane (a1 : Int) (a2 : Int) (M : jw_M) : Option Int :=
  if a1 = 0 then (some (jw_b a2)) else (if a1 = 1 then (some (jw_s a2)) else (some a2))
set_option maxRecDepth 100000 in
theorem rX6_cutToLane (G : jw_G) (a1 : Int) (a2 : Int) (ha1 : jw_r a1) (ha2 : jw_r a2) (M : jw_M) : jw_Rn G YX6_cutToLane 1 0 0 true (fun v => (v, M)) 0 [(0, jI a1), (1, jI a2)] [] M (fX6_cutToLane a1 a2 M) := by
  unfold fX6_cutToLane
  refine jw_iload_n (pc := 0) 0 dX6_cutToLane_0 rfl ?_
  refine jw_ite (fun c1 => ?_) (fun c1 => ?_)
  · refine jw_lsw (pc := 1) (off := 27) 28 dX6_cutToLane_1 ha1 rfl (by simp [Op.lookupswitch.offset, c1]) (by decide) ?_
    refine jw_iload_n (pc := 28) 1 dX6_cutToLane_28 rfl ?_
    refine jw_i2br (pc := 29) dX6_cutToLane_29 ?_
    exact jw_ret (pc := 30) (v := jw_b a2) dX6_cutToLane_30 (jw_br _) rfl rfl
  · refine jw_ite (fun c2 => ?_) (fun c2 => ?_)
    · refine jw_lsw (pc := 1) (off := 30) 31 dX6_cutToLane_1 ha1 rfl (by simp [Op.lookupswitch.offset, c2]) (by decide) ?_
      refine jw_iload_n (pc := 31) 1 dX6_cutToLane_31 rfl ?_
      refine jw_i2sr (pc := 32) dX6_cutToLane_32 ?_
      exact jw_ret (pc := 33) (v := jw_s a2) dX6_cutToLane_33 (jw_sr _) rfl rfl
    · refine jw_lsw (pc := 1) (off := 33) 34 dX6_cutToLane_1 ha1 rfl (by simp [Op.lookupswitch.offset, Ne.symm c1, Ne.symm c2]) (by decide) ?_
      refine jw_iload_n (pc := 34) 1 dX6_cutToLane_34 rfl ?_
      exact jw_ret (pc := 35) (v := a2) dX6_cutToLane_35 ha2 rfl rfl
theorem kX6_cutToLane (G : jw_G) (a1 : Int) (a2 : Int) (ha1 : jw_r a1) (ha2 : jw_r a2) (M : jw_M) : jw_Ct G YX6_cutToLane (some .int) 1 0 0 true (fun v => (v, M)) yX6_cutToLane [jI a1, jI a2] M (fX6_cutToLane a1 a2 M) := jw_met (by decide) rfl rfl rfl (Nat.le_of_ble_eq_true rfl) (rX6_cutToLane G a1 a2 ha1 ha2 M)
abbrev YX6_put : jw_Y := (RX6, cX6_put, 5, 1, "put")
theorem qX6_put : jw_cy YX6_put (some .int) yX6_put 3 := ⟨by decide, jt_449, jt_2, by decide, by decide +kernel⟩
theorem dX6_put_0 : decode cX6_put 0 = .ok (.aload_n 0, 1) := by decide +kernel
theorem dX6_put_1 : decode cX6_put 1 = .ok (.getfield 9, 3) := by decide +kernel
theorem dX6_put_4 : decode cX6_put 4 = .ok (.iload_n 1, 1) := by decide +kernel
theorem dX6_put_5 : decode cX6_put 5 = .ok (.iaload, 1) := by decide +kernel
theorem dX6_put_6 : decode cX6_put 6 = .ok (.iload_n 3, 1) := by decide +kernel
theorem dX6_put_7 : decode cX6_put 7 = .ok (.invokestatic 28, 3) := by decide +kernel
theorem dX6_put_10 : decode cX6_put 10 = .ok (.istore 4, 2) := by decide +kernel
theorem dX6_put_12 : decode cX6_put 12 = .ok (.aload_n 0, 1) := by decide +kernel
theorem dX6_put_13 : decode cX6_put 13 = .ok (.getfield 16, 3) := by decide +kernel
theorem dX6_put_16 : decode cX6_put 16 = .ok (.iload_n 1, 1) := by decide +kernel
theorem dX6_put_17 : decode cX6_put 17 = .ok (.bipush 40, 2) := by decide +kernel
theorem dX6_put_19 : decode cX6_put 19 = .ok (.imul, 1) := by decide +kernel
theorem dX6_put_20 : decode cX6_put 20 = .ok (.iload_n 2, 1) := by decide +kernel
theorem dX6_put_21 : decode cX6_put 21 = .ok (.iadd, 1) := by decide +kernel
theorem dX6_put_22 : decode cX6_put 22 = .ok (.iload 4, 2) := by decide +kernel
theorem dX6_put_24 : decode cX6_put 24 = .ok (.iastore, 1) := by decide +kernel
theorem dX6_put_25 : decode cX6_put 25 = .ok (.iload 4, 2) := by decide +kernel
theorem dX6_put_27 : decode cX6_put 27 = .ok (.ireturn, 1) := by decide +kernel
def fX6_put (a1 : Int) (a2 : Int) (a3 : Int) (M : jw_M) : Option (Int × jw_M) :=
  if 0 ≤ a1 ∧ a1 < 8 then Option.bind (fX6_cutToLane (M 2 a1) a3 M) (fun v2 => Option.bind (some v2) (fun v3 => if 0 ≤ jw_w ((jw_w (a1 * 40)) + a2) ∧ jw_w ((jw_w (a1 * 40)) + a2) < 320 then Option.bind (some (jw_up M 4 (jw_w ((jw_w (a1 * 40)) + a2)) v3)) (fun M4 => some (v3, M4)) else none)) else none
set_option maxRecDepth 100000 in
theorem rX6_put (G : jw_G) (a1 : Int) (a2 : Int) (a3 : Int) (ha1 : jw_r a1) (ha2 : jw_r a2) (ha3 : jw_r a3) (M : jw_M) : jw_Rn G YX6_put 2 0 0 true (fun q => q) 0 [(0, jR G 1), (1, jI a1), (2, jI a2), (3, jI a3)] [] M (fX6_put a1 a2 a3 M) := by
  unfold fX6_put
  refine jw_aloadR (pc := 0) 0 dX6_put_0 rfl ?_
  refine jw_getR (pc := 1) (j := 0) rfl dX6_put_1 jv_6 ji_6 (Or.inl jt_39) jg_1 jl_1 (by decide) (by decide) rfl jf_6_0 ?_
  refine jw_iload_n (pc := 4) 1 dX6_put_4 rfl ?_
  refine jw_iald (pc := 5) dX6_put_5 jg_2 jl_2 (jw_ho jg_2 (by decide)) ha1 rfl (fun h1 => ?_)
  refine jw_iload_n (pc := 6) 3 dX6_put_6 rfl ?_
  refine jw_callSi (pc := 7) (As := [jI (M 2 a1), jI a3]) (st := []) dX6_put_7 rfl (Nat.le_of_ble_eq_true rfl) qX6_cutToLane jt_450 jt_451 rfl rfl (Nat.le_of_ble_eq_true rfl) (kX6_cutToLane G (M 2 a1) a3 h1 ha3 M) (fun v2 hv2 => ?_)
  refine jw_istoreL (pc := 10) (lv' := (fun y => [(4, y), (0, jR G 1), (1, jI a1), (2, jI a2), (3, jI a3)])) dX6_put_10 hv2 (by decide) (fun _ => rfl) (fun v3 hv3 => ?_)
  refine jw_aloadR (pc := 12) 1 dX6_put_12 rfl ?_
  refine jw_getR (pc := 13) (j := 2) rfl dX6_put_13 jv_6 ji_6 (Or.inl jt_41) jg_1 jl_1 (by decide) (by decide) rfl jf_6_2 ?_
  refine jw_iload_n (pc := 16) 2 dX6_put_16 rfl ?_
  refine jw_bipush (pc := 17) dX6_put_17 rfl ?_
  refine jw_imul (pc := 19) dX6_put_19 ?_
  refine jw_iload_n (pc := 20) 3 dX6_put_20 rfl ?_
  refine jw_iadd (pc := 21) dX6_put_21 ?_
  refine jw_iload (pc := 22) 0 dX6_put_22 rfl ?_
  refine jw_iast (pc := 24) dX6_put_24 jg_4 jl_4 (jw_ho jg_4 (by decide)) (jw_wr _) hv3 rfl ?_
  refine jw_letM (fun M4 => ?_)
  refine jw_iload (pc := 25) 0 dX6_put_25 rfl ?_
  exact jw_ret (pc := 27) (v := v3) dX6_put_27 hv3 rfl rfl
theorem kX6_put (G : jw_G) (a1 : Int) (a2 : Int) (a3 : Int) (ha1 : jw_r a1) (ha2 : jw_r a2) (ha3 : jw_r a3) (M : jw_M) : jw_Ct G YX6_put (some .int) 2 0 0 true (fun q => q) yX6_put [jR G 1, jI a1, jI a2, jI a3] M (fX6_put a1 a2 a3 M) := jw_met (by decide) rfl rfl rfl (Nat.le_of_ble_eq_true rfl) (rX6_put G a1 a2 a3 ha1 ha2 ha3 M)
abbrev YX6_move : jw_Y := (RX6, cX6_move, 6, 0, "move")
theorem qX6_move : jw_cy YX6_move none yX6_move 5 := ⟨by decide, jt_464, jt_2, by decide, by decide +kernel⟩
theorem dX6_move_0 : decode cX6_move 0 = .ok (.aload_n 0, 1) := by decide +kernel
theorem dX6_move_1 : decode cX6_move 1 = .ok (.getfield 16, 3) := by decide +kernel
theorem dX6_move_4 : decode cX6_move 4 = .ok (.iload_n 1, 1) := by decide +kernel
theorem dX6_move_5 : decode cX6_move 5 = .ok (.bipush 40, 2) := by decide +kernel
theorem dX6_move_7 : decode cX6_move 7 = .ok (.imul, 1) := by decide +kernel
theorem dX6_move_8 : decode cX6_move 8 = .ok (.iload_n 2, 1) := by decide +kernel
theorem dX6_move_9 : decode cX6_move 9 = .ok (.iadd, 1) := by decide +kernel
theorem dX6_move_10 : decode cX6_move 10 = .ok (.aload_n 0, 1) := by decide +kernel
theorem dX6_move_11 : decode cX6_move 11 = .ok (.getfield 16, 3) := by decide +kernel
theorem dX6_move_14 : decode cX6_move 14 = .ok (.iload_n 3, 1) := by decide +kernel
theorem dX6_move_15 : decode cX6_move 15 = .ok (.bipush 40, 2) := by decide +kernel
theorem dX6_move_17 : decode cX6_move 17 = .ok (.imul, 1) := by decide +kernel
theorem dX6_move_18 : decode cX6_move 18 = .ok (.iload 4, 2) := by decide +kernel
theorem dX6_move_20 : decode cX6_move 20 = .ok (.iadd, 1) := by decide +kernel
theorem dX6_move_21 : decode cX6_move 21 = .ok (.iload 5, 2) := by decide +kernel
theorem dX6_move_23 : decode cX6_move 23 = .ok (.invokestatic 32, 3) := by decide +kernel
theorem dX6_move_26 : decode cX6_move 26 = .ok (.return_, 1) := by decide +kernel
def fX6_move (a1 : Int) (a2 : Int) (a3 : Int) (a4 : Int) (a5 : Int) (M : jw_M) : Option jw_M :=
  if 0 ≤ jw_w ((jw_w (a1 * 40)) + a2) ∧ 0 ≤ jw_w ((jw_w (a3 * 40)) + a4) ∧ 0 ≤ a5 ∧ jw_w ((jw_w (a1 * 40)) + a2) + a5 ≤ 320 ∧ jw_w ((jw_w (a3 * 40)) + a4) + a5 ≤ 320 then Option.bind (some (jw_cp M 4 (jw_w ((jw_w (a1 * 40)) + a2)) 4 (jw_w ((jw_w (a3 * 40)) + a4)) a5)) (fun M1 => some M1) else none
set_option maxRecDepth 100000 in
theorem rX6_move (G : jw_G) (a1 : Int) (a2 : Int) (a3 : Int) (a4 : Int) (a5 : Int) (ha1 : jw_r a1) (ha2 : jw_r a2) (ha3 : jw_r a3) (ha4 : jw_r a4) (ha5 : jw_r a5) (M : jw_M) : jw_Rn G YX6_move 2 0 0 true (fun M1 => (0, M1)) 0 [(0, jR G 1), (1, jI a1), (2, jI a2), (3, jI a3), (4, jI a4), (5, jI a5)] [] M (fX6_move a1 a2 a3 a4 a5 M) := by
  unfold fX6_move
  refine jw_aloadR (pc := 0) 0 dX6_move_0 rfl ?_
  refine jw_getR (pc := 1) (j := 2) rfl dX6_move_1 jv_6 ji_6 (Or.inl jt_41) jg_1 jl_1 (by decide) (by decide) rfl jf_6_2 ?_
  refine jw_iload_n (pc := 4) 1 dX6_move_4 rfl ?_
  refine jw_bipush (pc := 5) dX6_move_5 rfl ?_
  refine jw_imul (pc := 7) dX6_move_7 ?_
  refine jw_iload_n (pc := 8) 2 dX6_move_8 rfl ?_
  refine jw_iadd (pc := 9) dX6_move_9 ?_
  refine jw_aloadR (pc := 10) 0 dX6_move_10 rfl ?_
  refine jw_getR (pc := 11) (j := 2) rfl dX6_move_11 jv_6 ji_6 (Or.inl jt_41) jg_1 jl_1 (by decide) (by decide) rfl jf_6_2 ?_
  refine jw_iload_n (pc := 14) 3 dX6_move_14 rfl ?_
  refine jw_bipush (pc := 15) dX6_move_15 rfl ?_
  refine jw_imul (pc := 17) dX6_move_17 ?_
  refine jw_iload (pc := 18) 4 dX6_move_18 rfl ?_
  refine jw_iadd (pc := 20) dX6_move_20 ?_
  refine jw_iload (pc := 21) 5 dX6_move_21 rfl ?_
  refine jw_acopy (pc := 23) rfl dX6_move_23 jt_465 jt_467 jt_466 jt_15 jg_4 jg_4 jl_4 jl_4 (jw_ho jg_4 (by decide)) (jw_ho jg_4 (by decide)) (jw_wr _) (jw_wr _) ha5 rfl rfl (by decide) (Nat.le_of_ble_eq_true rfl) ?_
  refine jw_letM (fun M1 => ?_)
  exact jw_ret (pc := 26) (v := 0) dX6_move_26 trivial rfl rfl
theorem kX6_move (G : jw_G) (a1 : Int) (a2 : Int) (a3 : Int) (a4 : Int) (a5 : Int) (ha1 : jw_r a1) (ha2 : jw_r a2) (ha3 : jw_r a3) (ha4 : jw_r a4) (ha5 : jw_r a5) (M : jw_M) : jw_Ct G YX6_move none 2 0 0 true (fun M1 => (0, M1)) yX6_move [jR G 1, jI a1, jI a2, jI a3, jI a4, jI a5] M (fX6_move a1 a2 a3 a4 a5 M) := jw_met (by decide) rfl rfl rfl (Nat.le_of_ble_eq_true rfl) (rX6_move G a1 a2 a3 a4 a5 ha1 ha2 ha3 ha4 ha5 M)
abbrev YX6_takeAway : jw_Y := (RX6, cX6_takeAway, 2, 1, "takeAway")
theorem qX6_takeAway : jw_cy YX6_takeAway (some .int) yX6_takeAway 1 := ⟨by decide, jt_475, jt_2, by decide, by decide +kernel⟩
theorem dX6_takeAway_0 : decode cX6_takeAway 0 = .ok (.aload_n 0, 1) := by decide +kernel
theorem dX6_takeAway_1 : decode cX6_takeAway 1 = .ok (.getfield 9, 3) := by decide +kernel
theorem dX6_takeAway_4 : decode cX6_takeAway 4 = .ok (.iload_n 1, 1) := by decide +kernel
theorem dX6_takeAway_5 : decode cX6_takeAway 5 = .ok (.iconst (-1), 1) := by decide +kernel
theorem dX6_takeAway_6 : decode cX6_takeAway 6 = .ok (.iastore, 1) := by decide +kernel
theorem dX6_takeAway_7 : decode cX6_takeAway 7 = .ok (.aload_n 0, 1) := by decide +kernel
theorem dX6_takeAway_8 : decode cX6_takeAway 8 = .ok (.getfield 13, 3) := by decide +kernel
theorem dX6_takeAway_11 : decode cX6_takeAway 11 = .ok (.iload_n 1, 1) := by decide +kernel
theorem dX6_takeAway_12 : decode cX6_takeAway 12 = .ok (.iaload, 1) := by decide +kernel
theorem dX6_takeAway_13 : decode cX6_takeAway 13 = .ok (.ireturn, 1) := by decide +kernel
def fX6_takeAway (a1 : Int) (M : jw_M) : Option (Int × jw_M) :=
  if 0 ≤ a1 ∧ a1 < 8 then Option.bind (some (jw_up M 2 a1 (-1))) (fun M1 => if 0 ≤ a1 ∧ a1 < 8 then some (M1 3 a1, M1) else none) else none
set_option maxRecDepth 100000 in
theorem rX6_takeAway (G : jw_G) (a1 : Int) (ha1 : jw_r a1) (M : jw_M) : jw_Rn G YX6_takeAway 1 0 0 true (fun q => q) 0 [(0, jR G 1), (1, jI a1)] [] M (fX6_takeAway a1 M) := by
  unfold fX6_takeAway
  refine jw_aloadR (pc := 0) 0 dX6_takeAway_0 rfl ?_
  refine jw_getR (pc := 1) (j := 0) rfl dX6_takeAway_1 jv_6 ji_6 (Or.inl jt_39) jg_1 jl_1 (by decide) (by decide) rfl jf_6_0 ?_
  refine jw_iload_n (pc := 4) 1 dX6_takeAway_4 rfl ?_
  refine jw_iconst (pc := 5) dX6_takeAway_5 ?_
  refine jw_iast (pc := 6) dX6_takeAway_6 jg_2 jl_2 (jw_ho jg_2 (by decide)) ha1 (jw_rc _ rfl) rfl ?_
  refine jw_letM (fun M1 => ?_)
  refine jw_aloadR (pc := 7) 0 dX6_takeAway_7 rfl ?_
  refine jw_getR (pc := 8) (j := 1) rfl dX6_takeAway_8 jv_6 ji_6 (Or.inl jt_40) jg_1 jl_1 (by decide) (by decide) rfl jf_6_1 ?_
  refine jw_iload_n (pc := 11) 1 dX6_takeAway_11 rfl ?_
  refine jw_iald (pc := 12) dX6_takeAway_12 jg_3 jl_3 (jw_ho jg_3 (by decide)) ha1 rfl (fun h2 => ?_)
  exact jw_ret (pc := 13) (v := M1 3 a1) dX6_takeAway_13 h2 rfl rfl
theorem kX6_takeAway (G : jw_G) (a1 : Int) (ha1 : jw_r a1) (M : jw_M) : jw_Ct G YX6_takeAway (some .int) 1 0 0 true (fun q => q) yX6_takeAway [jR G 1, jI a1] M (fX6_takeAway a1 M) := jw_met (by decide) rfl rfl rfl (Nat.le_of_ble_eq_true rfl) (rX6_takeAway G a1 ha1 M)
abbrev YX6_howMany : jw_Y := (RX6, cX6_howMany, 3, 1, "howMany")
theorem qX6_howMany : jw_cy YX6_howMany (some .int) yX6_howMany 0 := ⟨by decide, jt_1211, jt_2, by decide, by decide +kernel⟩
theorem dX6_howMany_0 : decode cX6_howMany 0 = .ok (.iconst 0, 1) := by decide +kernel
theorem dX6_howMany_1 : decode cX6_howMany 1 = .ok (.istore_n 1, 1) := by decide +kernel
theorem dX6_howMany_2 : decode cX6_howMany 2 = .ok (.iconst 0, 1) := by decide +kernel
theorem dX6_howMany_3 : decode cX6_howMany 3 = .ok (.istore_n 2, 1) := by decide +kernel
theorem dX6_howMany_4 : decode cX6_howMany 4 = .ok (.iload_n 2, 1) := by decide +kernel
theorem dX6_howMany_5 : decode cX6_howMany 5 = .ok (.bipush 8, 2) := by decide +kernel
theorem dX6_howMany_7 : decode cX6_howMany 7 = .ok (.if_icmp .ge 20, 3) := by decide +kernel
theorem dX6_howMany_10 : decode cX6_howMany 10 = .ok (.aload_n 0, 1) := by decide +kernel
theorem dX6_howMany_11 : decode cX6_howMany 11 = .ok (.iload_n 2, 1) := by decide +kernel
theorem dX6_howMany_12 : decode cX6_howMany 12 = .ok (.invokevirtual 38, 3) := by decide +kernel
theorem dX6_howMany_15 : decode cX6_howMany 15 = .ok (.ifCond .ne 6, 3) := by decide +kernel
theorem dX6_howMany_18 : decode cX6_howMany 18 = .ok (.iinc 1 1, 3) := by decide +kernel
theorem dX6_howMany_21 : decode cX6_howMany 21 = .ok (.iinc 2 1, 3) := by decide +kernel
theorem dX6_howMany_24 : decode cX6_howMany 24 = .ok (.goto (-20), 3) := by decide +kernel
theorem dX6_howMany_27 : decode cX6_howMany 27 = .ok (.iload_n 1, 1) := by decide +kernel
theorem dX6_howMany_28 : decode cX6_howMany 28 = .ok (.ireturn, 1) := by decide +kernel
def fX6_howMany_21 (M : jw_M) (r4 : Int → Int → Option Int) (x1 : Int) (x2 : Int) : Option Int :=
  Option.bind (some (jw_w (x2 + 1))) (fun v5 => r4 x1 v5)
set_option maxRecDepth 100000 in
theorem pX6_howMany_21 (G : jw_G) (M : jw_M) (r4 : Int → Int → Option Int) (hr4 : ∀ (x1 : Int) (x2 : Int) (hx1 : jw_r x1) (hx2 : jw_r x2), jw_Rn G YX6_howMany 2 0 0 true (fun v => (v, M)) 4 [(0, jR G 1), (1, jI x1), (2, jI x2)] [] M (r4 x1 x2)) : ∀ (x1 : Int) (x2 : Int) (hx1 : jw_r x1) (hx2 : jw_r x2), jw_Rn G YX6_howMany 2 0 0 true (fun v => (v, M)) 21 [(0, jR G 1), (1, jI x1), (2, jI x2)] [] M (fX6_howMany_21 M r4 x1 x2) := by
  intro x1 x2 hx1 hx2
  unfold fX6_howMany_21
  refine jw_iincL (pc := 21) 2 (lv' := (fun y => [(2, y), (0, jR G 1), (1, jI x1)])) dX6_howMany_21 rfl (Nat.le_of_ble_eq_true rfl) (fun _ => rfl) (fun v5 hv5 => ?_)
  refine jw_goto (pc := 24) 4 dX6_howMany_24 (by decide) ?_
  exact jw_few [1, 2, 0] rfl (hr4 x1 v5 hx1 hv5)
def fX6_howMany_4 (M : jw_M) : Nat → Int → Int → Option Int
  | 0, _, _ => none
  | k + 1, x1, x2 => if x2 < 8 then (Option.bind (fX6_isMissing x2 M) (fun v3 => if v3 = 0 then (Option.bind (some (jw_w (x1 + 1))) (fun v4 => fX6_howMany_21 M (fX6_howMany_4 M k) v4 x2)) else (fX6_howMany_21 M (fX6_howMany_4 M k) x1 x2))) else (some x1)
set_option maxRecDepth 100000 in
theorem pX6_howMany_4 (G : jw_G) (M : jw_M) : ∀ (k : Nat) (x1 : Int) (x2 : Int) (hx1 : jw_r x1) (hx2 : jw_r x2), jw_Rn G YX6_howMany 2 0 0 true (fun v => (v, M)) 4 [(0, jR G 1), (1, jI x1), (2, jI x2)] [] M (fX6_howMany_4 M k x1 x2) := by
  intro k
  induction k with
  | zero =>
    intro x1 x2 hx1 hx2
    exact jw_none
  | succ k ih =>
    intro x1 x2 hx1 hx2
    rw [fX6_howMany_4]
    refine jw_iload_n (pc := 4) 2 dX6_howMany_4 rfl ?_
    refine jw_bipush (pc := 5) dX6_howMany_5 rfl ?_
    refine jw_ic_ge (pc := 7) 27 dX6_howMany_7 (by decide) hx2 (jw_rc _ rfl) (fun _ => ?_) (fun _ => ?_)
    · refine jw_aloadR (pc := 10) 0 dX6_howMany_10 rfl ?_
      refine jw_iload_n (pc := 11) 2 dX6_howMany_11 rfl ?_
      refine jw_callVz (pc := 12) (As := [jI x2]) (st := []) dX6_howMany_12 rfl (Nat.le_of_ble_eq_true rfl) qX6_isMissing jt_1212 jt_439 jt_440 rfl rfl (Nat.le_of_ble_eq_true rfl) jv_6 rfl jg_1 jl_1 (by decide) (jw_ho jg_1 (by decide)) (kX6_isMissing G x2 hx2 M) (fun v3 hv3 => ?_)
      refine jw_if_ne (pc := 15) 21 dX6_howMany_15 (by decide) (jw_bz hv3) (fun _ => ?_) (fun _ => ?_)
      · refine jw_iincL (pc := 18) 1 (lv' := (fun y => [(1, y), (0, jR G 1), (2, jI x2)])) dX6_howMany_18 rfl (Nat.le_of_ble_eq_true rfl) (fun _ => rfl) (fun v4 hv4 => ?_)
        exact jw_few [1, 0, 2] rfl (pX6_howMany_21 G M (fX6_howMany_4 M k) ih v4 x2 hv4 hx2)
      · exact jw_few [0, 1, 2] rfl (pX6_howMany_21 G M (fX6_howMany_4 M k) ih x1 x2 hx1 hx2)
    · refine jw_iload_n (pc := 27) 1 dX6_howMany_27 rfl ?_
      exact jw_ret (pc := 28) (v := x1) dX6_howMany_28 hx1 rfl rfl
def fX6_howMany (M : jw_M) : Option Int :=
  Option.bind (some 0) (fun v1 => Option.bind (some 0) (fun v2 => fX6_howMany_4 M jw_fu v1 v2))
set_option maxRecDepth 100000 in
theorem rX6_howMany (G : jw_G) (M : jw_M) : jw_Rn G YX6_howMany 2 0 0 true (fun v => (v, M)) 0 [(0, jR G 1)] [] M (fX6_howMany M) := by
  unfold fX6_howMany
  refine jw_iconst (pc := 0) dX6_howMany_0 ?_
  refine jw_istore_nL (pc := 1) (lv' := (fun y => [(1, y), (0, jR G 1)])) dX6_howMany_1 (jw_rc _ rfl) (by decide) (fun _ => rfl) (fun v1 hv1 => ?_)
  refine jw_iconst (pc := 2) dX6_howMany_2 ?_
  refine jw_istore_nL (pc := 3) (lv' := (fun y => [(2, y), (1, jI v1), (0, jR G 1)])) dX6_howMany_3 (jw_rc _ rfl) (by decide) (fun _ => rfl) (fun v2 hv2 => ?_)
  exact jw_few [2, 1, 0] rfl (pX6_howMany_4 G M jw_fu v1 v2 hv1 hv2)
theorem kX6_howMany (G : jw_G) (M : jw_M) : jw_Ct G YX6_howMany (some .int) 2 0 0 true (fun v => (v, M)) yX6_howMany [jR G 1] M (fX6_howMany M) := jw_met (by decide) rfl rfl rfl (Nat.le_of_ble_eq_true rfl) (rX6_howMany G M)
