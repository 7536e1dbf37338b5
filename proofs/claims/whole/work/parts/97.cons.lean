section
variable {α : Type} {lf : α → Int × jw_M} {G : jw_G} {Y : jw_Y} {h kc ks : Nat} {pc : Nat} {lv : List (Nat × Value)} {st : List Value} {M : jw_M} {res : Option α}
theorem jw_getRP {own : String} {Cn : String} {T : u_T} {N c o j index : Nat} (hown : jw_yo Y = own) (hd : decode (jw_yc Y) pc = .ok (.getfield index, 3)) (hc : vwCl[c]? = some (Cn, T, N)) (hin : ∀ w ∈ u_ws Cn T N, w ∈ jw_tbl) (hlink : Cond.fieldLink own index (T j).1 (T j).2.1 (T j).2.2.1 ∈ jw_tbl ∨ ∃ hs, Cond.fieldLinkNest own index (T j).1 (T j).2.1 (T j).2.2.1 hs ∈ jw_tbl) (ht : jw_tag o = c) (hn : jw_len o = N) (hc2 : c < 20) (hj : j < N) (ho : o < jw_n false M) (hs : (jw_fts.getD c []).getD j 9 = 2) (h1 : M o (j : Int) = 1)
    (k : jw_Rn G Y h kc ks false lf (pc + 3) lv (jR G (jw_rf o j) :: st) M res) : jw_Rn G Y h kc ks false lf pc lv (jR G o :: st) M res := by
  refine jw_getV hown hd hc hin hlink ht hn hc2 hj ho ?_
  rw [h1, jw_fvR ht hc2 hs rfl]
  exact k
end
abbrev YJ7_fill_53178P : jw_Y := (RJ7, cJ7_fill_53178, 4, 0, "fill")
theorem qJ7_fill_53178P : jw_cy YJ7_fill_53178P none yJ7_fill_53178 2 := ⟨by decide, jt_38, jt_3, by decide, by decide +kernel⟩
def fJ7_fill_53178P_5 (a1 : Nat) : Nat → Int → Int → Int → jw_M → Option jw_M
  | 0, _, _, _, _ => none
  | k + 1, x1, x2, x3, M => if x2 < x3 then (if a1 < jw_n false M then if 0 ≤ x2 ∧ x2 < (jw_len a1 : Int) then Option.bind (some (jw_up M a1 x2 x1)) (fun M5 => Option.bind (some (jw_w (x2 + 1))) (fun v6 => fJ7_fill_53178P_5 a1 k x1 v6 x3 M5)) else none else none) else (some M)
set_option maxRecDepth 100000 in
theorem pJ7_fill_53178P_5 (G : jw_G) (a1 : Nat) (ha1 : jw_tag a1 = 20) : ∀ (k : Nat) (x1 : Int) (x2 : Int) (x3 : Int) (hx1 : jw_r x1) (hx2 : jw_r x2) (hx3 : jw_r x3) (M : jw_M), jw_Rn G YJ7_fill_53178P 1 0 0 false (fun M1 => (0, M1)) 5 [(0, jR G a1), (1, jI x1), (2, jI x2), (3, jI x3)] [] M (fJ7_fill_53178P_5 a1 k x1 x2 x3 M) := by
  intro k
  induction k with
  | zero =>
    intro x1 x2 x3 hx1 hx2 hx3 M
    exact jw_none
  | succ k ih =>
    intro x1 x2 x3 hx1 hx2 hx3 M
    rw [fJ7_fill_53178P_5]
    refine jw_iload_n (pc := 5) 2 dJ7_fill_53178_5 rfl ?_
    refine jw_iload_n (pc := 6) 3 dJ7_fill_53178_6 rfl ?_
    refine jw_ic_ge (pc := 7) 20 dJ7_fill_53178_7 (by decide) hx2 hx3 (fun _ => ?_) (fun _ => ?_)
    · refine jw_aloadR (pc := 10) 0 dJ7_fill_53178_10 rfl ?_
      refine jw_iload_n (pc := 11) 2 dJ7_fill_53178_11 rfl ?_
      refine jw_iload_n (pc := 12) 1 dJ7_fill_53178_12 rfl ?_
      refine jw_ck (fun h4 => ?_)
      refine jw_iast (pc := 13) dJ7_fill_53178_13 ha1 rfl h4 hx2 hx1 rfl ?_
      refine jw_letM (fun M5 => ?_)
      refine jw_iincL (pc := 14) 2 (lv' := (fun y => [(2, y), (0, jR G a1), (1, jI x1), (3, jI x3)])) dJ7_fill_53178_14 rfl (Nat.le_of_ble_eq_true rfl) (fun _ => rfl) (fun v6 hv6 => ?_)
      refine jw_goto (pc := 17) 5 dJ7_fill_53178_17 (by decide) ?_
      exact jw_few [1, 2, 0, 3] rfl (ih x1 v6 x3 hx1 hv6 hx3 M5)
    · exact jw_ret (pc := 20) (v := 0) dJ7_fill_53178_20 trivial rfl rfl
def fJ7_fill_53178P (a1 : Nat) (a2 : Int) (M : jw_M) : Option jw_M :=
  if jw_tag a1 = 20 then (Option.bind (some 0) (fun v1 => if a1 < jw_n false M then Option.bind (some (jw_len a1 : Int)) (fun v3 => fJ7_fill_53178P_5 a1 jw_fu a2 v1 v3 M) else none)) else none
set_option maxRecDepth 100000 in
theorem rJ7_fill_53178P (G : jw_G) (a1 : Nat) (a2 : Int) (ha2 : jw_r a2) (M : jw_M) : jw_Rn G YJ7_fill_53178P 1 0 0 false (fun M1 => (0, M1)) 0 [(0, jR G a1), (1, jI a2)] [] M (fJ7_fill_53178P a1 a2 M) := by
  unfold fJ7_fill_53178P
  refine jw_ck (fun ha1 => ?_)
  refine jw_iconst (pc := 0) dJ7_fill_53178_0 ?_
  refine jw_istore_nL (pc := 1) (lv' := (fun y => [(2, y), (0, jR G a1), (1, jI a2)])) dJ7_fill_53178_1 (jw_rc _ rfl) (by decide) (fun _ => rfl) (fun v1 hv1 => ?_)
  refine jw_aloadR (pc := 2) 1 dJ7_fill_53178_2 rfl ?_
  refine jw_ck (fun h2 => ?_)
  refine jw_alen (pc := 3) dJ7_fill_53178_3 ha1 rfl h2 rfl ?_
  refine jw_istore_nL (pc := 4) (lv' := (fun y => [(3, y), (2, jI v1), (0, jR G a1), (1, jI a2)])) dJ7_fill_53178_4 (jw_lr ha1) (by decide) (fun _ => rfl) (fun v3 hv3 => ?_)
  exact jw_few [2, 3, 1, 0] rfl (pJ7_fill_53178P_5 G a1 ha1 jw_fu a2 v1 v3 ha2 hv1 hv3 M)
theorem kJ7_fill_53178P (G : jw_G) (a1 : Nat) (a2 : Int) (ha2 : jw_r a2) (M : jw_M) : jw_Ct G YJ7_fill_53178P none 1 0 0 false (fun M1 => (0, M1)) yJ7_fill_53178 [jR G a1, jI a2] M (fJ7_fill_53178P a1 a2 M) := jw_met (by decide) rfl rfl rfl (Nat.le_of_ble_eq_true rfl) (rJ7_fill_53178P G a1 a2 ha2 M)
abbrev YX0_init : jw_Y := (RX0, cX0_init, 2, 0, "<init>")
theorem qX0_init : jw_cy YX0_init none yX0_init 1 := ⟨by decide, jt_360, jt_13, by decide, by decide +kernel⟩
theorem dX0_init_0 : decode cX0_init 0 = .ok (.aload_n 0, 1) := by decide +kernel
theorem dX0_init_1 : decode cX0_init 1 = .ok (.invokespecial 3, 3) := by decide +kernel
theorem dX0_init_4 : decode cX0_init 4 = .ok (.aload_n 0, 1) := by decide +kernel
theorem dX0_init_5 : decode cX0_init 5 = .ok (.bipush 16, 2) := by decide +kernel
theorem dX0_init_7 : decode cX0_init 7 = .ok (.newarray .int, 2) := by decide +kernel
theorem dX0_init_9 : decode cX0_init 9 = .ok (.putfield 11, 3) := by decide +kernel
theorem dX0_init_12 : decode cX0_init 12 = .ok (.aload_n 0, 1) := by decide +kernel
theorem dX0_init_13 : decode cX0_init 13 = .ok (.iconst 0, 1) := by decide +kernel
theorem dX0_init_14 : decode cX0_init 14 = .ok (.putfield 15, 3) := by decide +kernel
theorem dX0_init_17 : decode cX0_init 17 = .ok (.aload_n 0, 1) := by decide +kernel
theorem dX0_init_18 : decode cX0_init 18 = .ok (.aload_n 1, 1) := by decide +kernel
theorem dX0_init_19 : decode cX0_init 19 = .ok (.putfield 19, 3) := by decide +kernel
theorem dX0_init_22 : decode cX0_init 22 = .ok (.return_, 1) := by decide +kernel
def fX0_init (t : Nat) (a1 : Nat) (M : jw_M) : Option jw_M :=
  if jw_tag a1 = 7 then (if jw_tag t = 0 then (if jw_len t = 3 then (if 0 ≤ M 9999 0 ∧ jw_tag (M 9999 0).toNat = 20 ∧ jw_len (M 9999 0).toNat = 16 then Option.bind (some (jw_nw M)) (fun M1 => if t < jw_n false M1 ∧ jw_rf t 1 = ((M 9999 0).toNat) then Option.bind (some (jw_up M1 t 1 1)) (fun M3 => if t < jw_n false M3 then Option.bind (some (jw_up M3 t 2 0)) (fun M5 => if t < jw_n false M5 ∧ jw_rf t 0 = a1 then Option.bind (some (jw_up M5 t 0 1)) (fun M7 => some M7) else none) else none) else none) else none) else none) else none) else none
set_option maxRecDepth 100000 in
theorem rX0_init (G : jw_G) (t : Nat) (a1 : Nat) (M : jw_M) : jw_Rn G YX0_init 2 1 16 false (fun M1 => (0, M1)) 0 [(0, jR G t), (1, jR G a1)] [] M (fX0_init t a1 M) := by
  unfold fX0_init
  refine jw_ck (fun ha1 => ?_)
  refine jw_ck (fun ht => ?_)
  refine jw_ck (fun hn => ?_)
  refine jw_aloadR (pc := 0) 0 dX0_init_0 rfl ?_
  refine jw_oinit (pc := 1) rfl dX0_init_1 jt_361 jt_28 jt_29 (by decide) (by decide) ?_
  refine jw_aloadR (pc := 4) 0 dX0_init_4 rfl ?_
  refine jw_bipush (pc := 5) dX0_init_5 rfl ?_
  refine jw_newa (pc := 7) (kc := 0) (ks := 0) (c := 20) 0 dX0_init_7 rfl jt_49 rfl (fun _ z => by cases z) rfl (by decide) (by decide) (by decide) (by decide) rfl (jw_rc _ rfl) ?_
  refine jw_letM (fun M1 => ?_)
  refine jw_ck (fun h2 => ?_)
  refine jw_putF (pc := 9) (x := 1) (j := 1) tyX0 rfl dX0_init_9 jv_0 ji_0 tyX0_ok nmX0 jt_363 rfl rfl rfl ht hn (by decide) (by decide) h2.1 (jw_fvN (z := 0) ht (by decide) rfl) (jw_fvR ht (by decide) rfl h2.2) rfl rfl ?_
  refine jw_letM (fun M3 => ?_)
  refine jw_aloadR (pc := 12) 0 dX0_init_12 rfl ?_
  refine jw_iconst (pc := 13) dX0_init_13 ?_
  refine jw_ck (fun h4 => ?_)
  refine jw_putI (pc := 14) (j := 2) tyX0 rfl dX0_init_14 jv_0 ji_0 tyX0_ok nmX0 (Or.inl jt_364) rfl ht hn (by decide) (by decide) h4 rfl rfl (jw_rc _ rfl) rfl ?_
  refine jw_letM (fun M5 => ?_)
  refine jw_aloadR (pc := 17) 0 dX0_init_17 rfl ?_
  refine jw_aloadR (pc := 18) 1 dX0_init_18 rfl ?_
  refine jw_ck (fun h6 => ?_)
  refine jw_putF (pc := 19) (x := 1) (j := 0) tyX0 rfl dX0_init_19 jv_0 ji_0 tyX0_ok nmX0 jt_362 rfl rfl rfl ht hn (by decide) (by decide) h6.1 (jw_fvN (z := 0) ht (by decide) rfl) (jw_fvR ht (by decide) rfl h6.2) rfl rfl ?_
  refine jw_letM (fun M7 => ?_)
  exact jw_ret (pc := 22) (v := 0) dX0_init_22 trivial rfl rfl
theorem kX0_init (G : jw_G) (t : Nat) (a1 : Nat) (M : jw_M) : jw_Ct G YX0_init none 2 1 16 false (fun M1 => (0, M1)) yX0_init [jR G t, jR G a1] M (fX0_init t a1 M) := jw_met (by decide) rfl rfl rfl (Nat.le_of_ble_eq_true rfl) (rX0_init G t a1 M)
abbrev YX1_init : jw_Y := (RX1, cX1_init, 1, 0, "<init>")
theorem qX1_init : jw_cy YX1_init none yX1_init 0 := ⟨by decide, jt_230, jt_9, by decide, by decide +kernel⟩
theorem dX1_init_0 : decode cX1_init 0 = .ok (.aload_n 0, 1) := by decide +kernel
theorem dX1_init_1 : decode cX1_init 1 = .ok (.invokespecial 3, 3) := by decide +kernel
theorem dX1_init_4 : decode cX1_init 4 = .ok (.aload_n 0, 1) := by decide +kernel
theorem dX1_init_5 : decode cX1_init 5 = .ok (.bipush 7, 2) := by decide +kernel
theorem dX1_init_7 : decode cX1_init 7 = .ok (.newarray .int, 2) := by decide +kernel
theorem dX1_init_9 : decode cX1_init 9 = .ok (.putfield 9, 3) := by decide +kernel
theorem dX1_init_12 : decode cX1_init 12 = .ok (.aload_n 0, 1) := by decide +kernel
theorem dX1_init_13 : decode cX1_init 13 = .ok (.bipush 20, 2) := by decide +kernel
theorem dX1_init_15 : decode cX1_init 15 = .ok (.newarray .int, 2) := by decide +kernel
theorem dX1_init_17 : decode cX1_init 17 = .ok (.putfield 15, 3) := by decide +kernel
theorem dX1_init_20 : decode cX1_init 20 = .ok (.return_, 1) := by decide +kernel
def fX1_init (t : Nat) (M : jw_M) : Option jw_M :=
  if jw_tag t = 1 then (if jw_len t = 3 then (if 0 ≤ M 9999 0 ∧ jw_tag (M 9999 0).toNat = 20 ∧ jw_len (M 9999 0).toNat = 7 then Option.bind (some (jw_nw M)) (fun M1 => if t < jw_n false M1 ∧ jw_rf t 1 = ((M 9999 0).toNat) then Option.bind (some (jw_up M1 t 1 1)) (fun M3 => if 0 ≤ M3 9999 0 ∧ jw_tag (M3 9999 0).toNat = 20 ∧ jw_len (M3 9999 0).toNat = 20 then Option.bind (some (jw_nw M3)) (fun M4 => if t < jw_n false M4 ∧ jw_rf t 2 = ((M3 9999 0).toNat) then Option.bind (some (jw_up M4 t 2 1)) (fun M6 => some M6) else none) else none) else none) else none) else none) else none
set_option maxRecDepth 100000 in
theorem rX1_init (G : jw_G) (t : Nat) (M : jw_M) : jw_Rn G YX1_init 2 2 27 false (fun M1 => (0, M1)) 0 [(0, jR G t)] [] M (fX1_init t M) := by
  unfold fX1_init
  refine jw_ck (fun ht => ?_)
  refine jw_ck (fun hn => ?_)
  refine jw_aloadR (pc := 0) 0 dX1_init_0 rfl ?_
  refine jw_oinit (pc := 1) rfl dX1_init_1 jt_231 jt_28 jt_29 (by decide) (by decide) ?_
  refine jw_aloadR (pc := 4) 0 dX1_init_4 rfl ?_
  refine jw_bipush (pc := 5) dX1_init_5 rfl ?_
  refine jw_newa (pc := 7) (kc := 1) (ks := 20) (c := 20) 0 dX1_init_7 rfl jt_49 rfl (fun _ z => by cases z) rfl (by decide) (by decide) (by decide) (by decide) rfl (jw_rc _ rfl) ?_
  refine jw_letM (fun M1 => ?_)
  refine jw_ck (fun h2 => ?_)
  refine jw_putF (pc := 9) (x := 1) (j := 1) tyX1 rfl dX1_init_9 jv_1 ji_1 tyX1_ok nmX1 jt_234 rfl rfl rfl ht hn (by decide) (by decide) h2.1 (jw_fvN (z := 0) ht (by decide) rfl) (jw_fvR ht (by decide) rfl h2.2) rfl rfl ?_
  refine jw_letM (fun M3 => ?_)
  refine jw_aloadR (pc := 12) 0 dX1_init_12 rfl ?_
  refine jw_bipush (pc := 13) dX1_init_13 rfl ?_
  refine jw_newa (pc := 15) (kc := 0) (ks := 0) (c := 20) 0 dX1_init_15 rfl jt_49 rfl (fun _ z => by cases z) rfl (by decide) (by decide) (by decide) (by decide) rfl (jw_rc _ rfl) ?_
  refine jw_letM (fun M4 => ?_)
  refine jw_ck (fun h5 => ?_)
  refine jw_putF (pc := 17) (x := 1) (j := 2) tyX1 rfl dX1_init_17 jv_1 ji_1 tyX1_ok nmX1 jt_235 rfl rfl rfl ht hn (by decide) (by decide) h5.1 (jw_fvN (z := 0) ht (by decide) rfl) (jw_fvR ht (by decide) rfl h5.2) rfl rfl ?_
  refine jw_letM (fun M6 => ?_)
  exact jw_ret (pc := 20) (v := 0) dX1_init_20 trivial rfl rfl
theorem kX1_init (G : jw_G) (t : Nat) (M : jw_M) : jw_Ct G YX1_init none 2 2 27 false (fun M1 => (0, M1)) yX1_init [jR G t] M (fX1_init t M) := jw_met (by decide) rfl rfl rfl (Nat.le_of_ble_eq_true rfl) (rX1_init G t M)
abbrev YX2_init : jw_Y := (RX2, cX2_init, 1, 0, "<init>")
theorem qX2_init : jw_cy YX2_init none yX2_init 0 := ⟨by decide, jt_247, jt_10, by decide, by decide +kernel⟩
theorem dX2_init_0 : decode cX2_init 0 = .ok (.aload_n 0, 1) := by decide +kernel
theorem dX2_init_1 : decode cX2_init 1 = .ok (.invokespecial 3, 3) := by decide +kernel
theorem dX2_init_4 : decode cX2_init 4 = .ok (.aload_n 0, 1) := by decide +kernel
theorem dX2_init_5 : decode cX2_init 5 = .ok (.bipush 25, 2) := by decide +kernel
theorem dX2_init_7 : decode cX2_init 7 = .ok (.newarray .int, 2) := by decide +kernel
theorem dX2_init_9 : decode cX2_init 9 = .ok (.putfield 11, 3) := by decide +kernel
theorem dX2_init_12 : decode cX2_init 12 = .ok (.aload_n 0, 1) := by decide +kernel
theorem dX2_init_13 : decode cX2_init 13 = .ok (.iconst 5, 1) := by decide +kernel
theorem dX2_init_14 : decode cX2_init 14 = .ok (.newarray .int, 2) := by decide +kernel
theorem dX2_init_16 : decode cX2_init 16 = .ok (.putfield 15, 3) := by decide +kernel
theorem dX2_init_19 : decode cX2_init 19 = .ok (.return_, 1) := by decide +kernel
def fX2_init (t : Nat) (M : jw_M) : Option jw_M :=
  if jw_tag t = 2 then (if jw_len t = 2 then (if 0 ≤ M 9999 0 ∧ jw_tag (M 9999 0).toNat = 20 ∧ jw_len (M 9999 0).toNat = 25 then Option.bind (some (jw_nw M)) (fun M1 => if t < jw_n false M1 ∧ jw_rf t 0 = ((M 9999 0).toNat) then Option.bind (some (jw_up M1 t 0 1)) (fun M3 => if 0 ≤ M3 9999 0 ∧ jw_tag (M3 9999 0).toNat = 20 ∧ jw_len (M3 9999 0).toNat = 5 then Option.bind (some (jw_nw M3)) (fun M4 => if t < jw_n false M4 ∧ jw_rf t 1 = ((M3 9999 0).toNat) then Option.bind (some (jw_up M4 t 1 1)) (fun M6 => some M6) else none) else none) else none) else none) else none) else none
set_option maxRecDepth 100000 in
theorem rX2_init (G : jw_G) (t : Nat) (M : jw_M) : jw_Rn G YX2_init 2 2 30 false (fun M1 => (0, M1)) 0 [(0, jR G t)] [] M (fX2_init t M) := by
  unfold fX2_init
  refine jw_ck (fun ht => ?_)
  refine jw_ck (fun hn => ?_)
  refine jw_aloadR (pc := 0) 0 dX2_init_0 rfl ?_
  refine jw_oinit (pc := 1) rfl dX2_init_1 jt_248 jt_28 jt_29 (by decide) (by decide) ?_
  refine jw_aloadR (pc := 4) 0 dX2_init_4 rfl ?_
  refine jw_bipush (pc := 5) dX2_init_5 rfl ?_
  refine jw_newa (pc := 7) (kc := 1) (ks := 5) (c := 20) 0 dX2_init_7 rfl jt_49 rfl (fun _ z => by cases z) rfl (by decide) (by decide) (by decide) (by decide) rfl (jw_rc _ rfl) ?_
  refine jw_letM (fun M1 => ?_)
  refine jw_ck (fun h2 => ?_)
  refine jw_putF (pc := 9) (x := 1) (j := 0) tyX2 rfl dX2_init_9 jv_2 ji_2 tyX2_ok nmX2 jt_249 rfl rfl rfl ht hn (by decide) (by decide) h2.1 (jw_fvN (z := 0) ht (by decide) rfl) (jw_fvR ht (by decide) rfl h2.2) rfl rfl ?_
  refine jw_letM (fun M3 => ?_)
  refine jw_aloadR (pc := 12) 0 dX2_init_12 rfl ?_
  refine jw_iconst (pc := 13) dX2_init_13 ?_
  refine jw_newa (pc := 14) (kc := 0) (ks := 0) (c := 20) 0 dX2_init_14 rfl jt_49 rfl (fun _ z => by cases z) rfl (by decide) (by decide) (by decide) (by decide) rfl (jw_rc _ rfl) ?_
  refine jw_letM (fun M4 => ?_)
  refine jw_ck (fun h5 => ?_)
  refine jw_putF (pc := 16) (x := 1) (j := 1) tyX2 rfl dX2_init_16 jv_2 ji_2 tyX2_ok nmX2 jt_250 rfl rfl rfl ht hn (by decide) (by decide) h5.1 (jw_fvN (z := 0) ht (by decide) rfl) (jw_fvR ht (by decide) rfl h5.2) rfl rfl ?_
  refine jw_letM (fun M6 => ?_)
  exact jw_ret (pc := 19) (v := 0) dX2_init_19 trivial rfl rfl
theorem kX2_init (G : jw_G) (t : Nat) (M : jw_M) : jw_Ct G YX2_init none 2 2 30 false (fun M1 => (0, M1)) yX2_init [jR G t] M (fX2_init t M) := jw_met (by decide) rfl rfl rfl (Nat.le_of_ble_eq_true rfl) (rX2_init G t M)
abbrev YX3_init : jw_Y := (RX3, cX3_init, 1, 0, "<init>")
theorem qX3_init : jw_cy YX3_init none yX3_init 0 := ⟨by decide, jt_194, jt_8, by decide, by decide +kernel⟩
theorem dX3_init_0 : decode cX3_init 0 = .ok (.aload_n 0, 1) := by decide +kernel
theorem dX3_init_1 : decode cX3_init 1 = .ok (.invokespecial 3, 3) := by decide +kernel
theorem dX3_init_4 : decode cX3_init 4 = .ok (.aload_n 0, 1) := by decide +kernel
theorem dX3_init_5 : decode cX3_init 5 = .ok (.bipush 7, 2) := by decide +kernel
theorem dX3_init_7 : decode cX3_init 7 = .ok (.newarray .int, 2) := by decide +kernel
theorem dX3_init_9 : decode cX3_init 9 = .ok (.putfield 9, 3) := by decide +kernel
theorem dX3_init_12 : decode cX3_init 12 = .ok (.aload_n 0, 1) := by decide +kernel
theorem dX3_init_13 : decode cX3_init 13 = .ok (.iconst 5, 1) := by decide +kernel
theorem dX3_init_14 : decode cX3_init 14 = .ok (.newarray .int, 2) := by decide +kernel
theorem dX3_init_16 : decode cX3_init 16 = .ok (.putfield 15, 3) := by decide +kernel
theorem dX3_init_19 : decode cX3_init 19 = .ok (.aload_n 0, 1) := by decide +kernel
theorem dX3_init_20 : decode cX3_init 20 = .ok (.iconst 5, 1) := by decide +kernel
theorem dX3_init_21 : decode cX3_init 21 = .ok (.newarray .int, 2) := by decide +kernel
theorem dX3_init_23 : decode cX3_init 23 = .ok (.putfield 18, 3) := by decide +kernel
theorem dX3_init_26 : decode cX3_init 26 = .ok (.aload_n 0, 1) := by decide +kernel
theorem dX3_init_27 : decode cX3_init 27 = .ok (.iconst 5, 1) := by decide +kernel
theorem dX3_init_28 : decode cX3_init 28 = .ok (.newarray .int, 2) := by decide +kernel
theorem dX3_init_30 : decode cX3_init 30 = .ok (.putfield 21, 3) := by decide +kernel
theorem dX3_init_33 : decode cX3_init 33 = .ok (.aload_n 0, 1) := by decide +kernel
theorem dX3_init_34 : decode cX3_init 34 = .ok (.bipush 20, 2) := by decide +kernel
theorem dX3_init_36 : decode cX3_init 36 = .ok (.newarray .int, 2) := by decide +kernel
theorem dX3_init_38 : decode cX3_init 38 = .ok (.putfield 24, 3) := by decide +kernel
theorem dX3_init_41 : decode cX3_init 41 = .ok (.return_, 1) := by decide +kernel
def fX3_init (t : Nat) (M : jw_M) : Option jw_M :=
  if jw_tag t = 3 then (if jw_len t = 7 then (if 0 ≤ M 9999 0 ∧ jw_tag (M 9999 0).toNat = 20 ∧ jw_len (M 9999 0).toNat = 7 then Option.bind (some (jw_nw M)) (fun M1 => if t < jw_n false M1 ∧ jw_rf t 2 = ((M 9999 0).toNat) then Option.bind (some (jw_up M1 t 2 1)) (fun M3 => if 0 ≤ M3 9999 0 ∧ jw_tag (M3 9999 0).toNat = 20 ∧ jw_len (M3 9999 0).toNat = 5 then Option.bind (some (jw_nw M3)) (fun M4 => if t < jw_n false M4 ∧ jw_rf t 3 = ((M3 9999 0).toNat) then Option.bind (some (jw_up M4 t 3 1)) (fun M6 => if 0 ≤ M6 9999 0 ∧ jw_tag (M6 9999 0).toNat = 20 ∧ jw_len (M6 9999 0).toNat = 5 then Option.bind (some (jw_nw M6)) (fun M7 => if t < jw_n false M7 ∧ jw_rf t 4 = ((M6 9999 0).toNat) then Option.bind (some (jw_up M7 t 4 1)) (fun M9 => if 0 ≤ M9 9999 0 ∧ jw_tag (M9 9999 0).toNat = 20 ∧ jw_len (M9 9999 0).toNat = 5 then Option.bind (some (jw_nw M9)) (fun M10 => if t < jw_n false M10 ∧ jw_rf t 5 = ((M9 9999 0).toNat) then Option.bind (some (jw_up M10 t 5 1)) (fun M12 => if 0 ≤ M12 9999 0 ∧ jw_tag (M12 9999 0).toNat = 20 ∧ jw_len (M12 9999 0).toNat = 20 then Option.bind (some (jw_nw M12)) (fun M13 => if t < jw_n false M13 ∧ jw_rf t 6 = ((M12 9999 0).toNat) then Option.bind (some (jw_up M13 t 6 1)) (fun M15 => some M15) else none) else none) else none) else none) else none) else none) else none) else none) else none) else none) else none) else none
set_option maxRecDepth 100000 in
theorem rX3_init (G : jw_G) (t : Nat) (M : jw_M) : jw_Rn G YX3_init 2 5 42 false (fun M1 => (0, M1)) 0 [(0, jR G t)] [] M (fX3_init t M) := by
  unfold fX3_init
  refine jw_ck (fun ht => ?_)
  refine jw_ck (fun hn => ?_)
  refine jw_aloadR (pc := 0) 0 dX3_init_0 rfl ?_
  refine jw_oinit (pc := 1) rfl dX3_init_1 jt_195 jt_28 jt_29 (by decide) (by decide) ?_
  refine jw_aloadR (pc := 4) 0 dX3_init_4 rfl ?_
  refine jw_bipush (pc := 5) dX3_init_5 rfl ?_
  refine jw_newa (pc := 7) (kc := 4) (ks := 35) (c := 20) 0 dX3_init_7 rfl jt_49 rfl (fun _ z => by cases z) rfl (by decide) (by decide) (by decide) (by decide) rfl (jw_rc _ rfl) ?_
  refine jw_letM (fun M1 => ?_)
  refine jw_ck (fun h2 => ?_)
  refine jw_putF (pc := 9) (x := 1) (j := 2) tyX3 rfl dX3_init_9 jv_3 ji_3 tyX3_ok nmX3 jt_201 rfl rfl rfl ht hn (by decide) (by decide) h2.1 (jw_fvN (z := 0) ht (by decide) rfl) (jw_fvR ht (by decide) rfl h2.2) rfl rfl ?_
  refine jw_letM (fun M3 => ?_)
  refine jw_aloadR (pc := 12) 0 dX3_init_12 rfl ?_
  refine jw_iconst (pc := 13) dX3_init_13 ?_
  refine jw_newa (pc := 14) (kc := 3) (ks := 30) (c := 20) 0 dX3_init_14 rfl jt_49 rfl (fun _ z => by cases z) rfl (by decide) (by decide) (by decide) (by decide) rfl (jw_rc _ rfl) ?_
  refine jw_letM (fun M4 => ?_)
  refine jw_ck (fun h5 => ?_)
  refine jw_putF (pc := 16) (x := 1) (j := 3) tyX3 rfl dX3_init_16 jv_3 ji_3 tyX3_ok nmX3 jt_202 rfl rfl rfl ht hn (by decide) (by decide) h5.1 (jw_fvN (z := 0) ht (by decide) rfl) (jw_fvR ht (by decide) rfl h5.2) rfl rfl ?_
  refine jw_letM (fun M6 => ?_)
  refine jw_aloadR (pc := 19) 0 dX3_init_19 rfl ?_
  refine jw_iconst (pc := 20) dX3_init_20 ?_
  refine jw_newa (pc := 21) (kc := 2) (ks := 25) (c := 20) 0 dX3_init_21 rfl jt_49 rfl (fun _ z => by cases z) rfl (by decide) (by decide) (by decide) (by decide) rfl (jw_rc _ rfl) ?_
  refine jw_letM (fun M7 => ?_)
  refine jw_ck (fun h8 => ?_)
  refine jw_putF (pc := 23) (x := 1) (j := 4) tyX3 rfl dX3_init_23 jv_3 ji_3 tyX3_ok nmX3 jt_204 rfl rfl rfl ht hn (by decide) (by decide) h8.1 (jw_fvN (z := 0) ht (by decide) rfl) (jw_fvR ht (by decide) rfl h8.2) rfl rfl ?_
  refine jw_letM (fun M9 => ?_)
  refine jw_aloadR (pc := 26) 0 dX3_init_26 rfl ?_
  refine jw_iconst (pc := 27) dX3_init_27 ?_
  refine jw_newa (pc := 28) (kc := 1) (ks := 20) (c := 20) 0 dX3_init_28 rfl jt_49 rfl (fun _ z => by cases z) rfl (by decide) (by decide) (by decide) (by decide) rfl (jw_rc _ rfl) ?_
  refine jw_letM (fun M10 => ?_)
  refine jw_ck (fun h11 => ?_)
  refine jw_putF (pc := 30) (x := 1) (j := 5) tyX3 rfl dX3_init_30 jv_3 ji_3 tyX3_ok nmX3 jt_206 rfl rfl rfl ht hn (by decide) (by decide) h11.1 (jw_fvN (z := 0) ht (by decide) rfl) (jw_fvR ht (by decide) rfl h11.2) rfl rfl ?_
  refine jw_letM (fun M12 => ?_)
  refine jw_aloadR (pc := 33) 0 dX3_init_33 rfl ?_
  refine jw_bipush (pc := 34) dX3_init_34 rfl ?_
  refine jw_newa (pc := 36) (kc := 0) (ks := 0) (c := 20) 0 dX3_init_36 rfl jt_49 rfl (fun _ z => by cases z) rfl (by decide) (by decide) (by decide) (by decide) rfl (jw_rc _ rfl) ?_
  refine jw_letM (fun M13 => ?_)
  refine jw_ck (fun h14 => ?_)
  refine jw_putF (pc := 38) (x := 1) (j := 6) tyX3 rfl dX3_init_38 jv_3 ji_3 tyX3_ok nmX3 jt_209 rfl rfl rfl ht hn (by decide) (by decide) h14.1 (jw_fvN (z := 0) ht (by decide) rfl) (jw_fvR ht (by decide) rfl h14.2) rfl rfl ?_
  refine jw_letM (fun M15 => ?_)
  exact jw_ret (pc := 41) (v := 0) dX3_init_41 trivial rfl rfl
theorem kX3_init (G : jw_G) (t : Nat) (M : jw_M) : jw_Ct G YX3_init none 2 5 42 false (fun M1 => (0, M1)) yX3_init [jR G t] M (fX3_init t M) := jw_met (by decide) rfl rfl rfl (Nat.le_of_ble_eq_true rfl) (rX3_init G t M)
abbrev YX4_init : jw_Y := (RX4, cX4_init, 1, 0, "<init>")
theorem qX4_init : jw_cy YX4_init none yX4_init 0 := ⟨by decide, jt_54, jt_4, by decide, by decide +kernel⟩
theorem dX4_init_0 : decode cX4_init 0 = .ok (.aload_n 0, 1) := by decide +kernel
theorem dX4_init_1 : decode cX4_init 1 = .ok (.invokespecial 3, 3) := by decide +kernel
theorem dX4_init_4 : decode cX4_init 4 = .ok (.aload_n 0, 1) := by decide +kernel
theorem dX4_init_5 : decode cX4_init 5 = .ok (.sipush 600, 3) := by decide +kernel
theorem dX4_init_8 : decode cX4_init 8 = .ok (.newarray .byte, 2) := by decide +kernel
theorem dX4_init_10 : decode cX4_init 10 = .ok (.putfield 11, 3) := by decide +kernel
theorem dX4_init_13 : decode cX4_init 13 = .ok (.aload_n 0, 1) := by decide +kernel
theorem dX4_init_14 : decode cX4_init 14 = .ok (.iconst 0, 1) := by decide +kernel
theorem dX4_init_15 : decode cX4_init 15 = .ok (.putfield 15, 3) := by decide +kernel
theorem dX4_init_18 : decode cX4_init 18 = .ok (.aload_n 0, 1) := by decide +kernel
theorem dX4_init_19 : decode cX4_init 19 = .ok (.iconst 3, 1) := by decide +kernel
theorem dX4_init_20 : decode cX4_init 20 = .ok (.newarray .int, 2) := by decide +kernel
theorem dX4_init_22 : decode cX4_init 22 = .ok (.putfield 19, 3) := by decide +kernel
theorem dX4_init_25 : decode cX4_init 25 = .ok (.aload_n 0, 1) := by decide +kernel
theorem dX4_init_26 : decode cX4_init 26 = .ok (.bipush 7, 2) := by decide +kernel
theorem dX4_init_28 : decode cX4_init 28 = .ok (.newarray .int, 2) := by decide +kernel
theorem dX4_init_30 : decode cX4_init 30 = .ok (.putfield 23, 3) := by decide +kernel
theorem dX4_init_33 : decode cX4_init 33 = .ok (.return_, 1) := by decide +kernel
def fX4_init (t : Nat) (M : jw_M) : Option jw_M :=
  if jw_tag t = 4 then (if jw_len t = 8 then (if 0 ≤ M 9999 0 ∧ jw_tag (M 9999 0).toNat = 21 ∧ jw_len (M 9999 0).toNat = 600 then Option.bind (some (jw_nw M)) (fun M1 => if t < jw_n false M1 ∧ jw_rf t 0 = ((M 9999 0).toNat) then Option.bind (some (jw_up M1 t 0 1)) (fun M3 => if t < jw_n false M3 then Option.bind (some (jw_up M3 t 1 0)) (fun M5 => if 0 ≤ M5 9999 0 ∧ jw_tag (M5 9999 0).toNat = 20 ∧ jw_len (M5 9999 0).toNat = 3 then Option.bind (some (jw_nw M5)) (fun M6 => if t < jw_n false M6 ∧ jw_rf t 6 = ((M5 9999 0).toNat) then Option.bind (some (jw_up M6 t 6 1)) (fun M8 => if 0 ≤ M8 9999 0 ∧ jw_tag (M8 9999 0).toNat = 20 ∧ jw_len (M8 9999 0).toNat = 7 then Option.bind (some (jw_nw M8)) (fun M9 => if t < jw_n false M9 ∧ jw_rf t 7 = ((M8 9999 0).toNat) then Option.bind (some (jw_up M9 t 7 1)) (fun M11 => some M11) else none) else none) else none) else none) else none) else none) else none) else none) else none
set_option maxRecDepth 100000 in
theorem rX4_init (G : jw_G) (t : Nat) (M : jw_M) : jw_Rn G YX4_init 2 3 610 false (fun M1 => (0, M1)) 0 [(0, jR G t)] [] M (fX4_init t M) := by
  unfold fX4_init
  refine jw_ck (fun ht => ?_)
  refine jw_ck (fun hn => ?_)
  refine jw_aloadR (pc := 0) 0 dX4_init_0 rfl ?_
  refine jw_oinit (pc := 1) rfl dX4_init_1 jt_55 jt_28 jt_29 (by decide) (by decide) ?_
  refine jw_aloadR (pc := 4) 0 dX4_init_4 rfl ?_
  refine jw_sipush (pc := 5) dX4_init_5 rfl ?_
  refine jw_newa (pc := 8) (kc := 2) (ks := 10) (c := 21) 1 dX4_init_8 rfl jt_81 rfl (fun _ z => by cases z) rfl (by decide) (by decide) (by decide) (by decide) rfl (jw_rc _ rfl) ?_
  refine jw_letM (fun M1 => ?_)
  refine jw_ck (fun h2 => ?_)
  refine jw_putF (pc := 10) (x := 1) (j := 0) tyX4 rfl dX4_init_10 jv_4 ji_4 tyX4_ok nmX4 jt_56 rfl rfl rfl ht hn (by decide) (by decide) h2.1 (jw_fvN (z := 0) ht (by decide) rfl) (jw_fvR ht (by decide) rfl h2.2) rfl rfl ?_
  refine jw_letM (fun M3 => ?_)
  refine jw_aloadR (pc := 13) 0 dX4_init_13 rfl ?_
  refine jw_iconst (pc := 14) dX4_init_14 ?_
  refine jw_ck (fun h4 => ?_)
  refine jw_putI (pc := 15) (j := 1) tyX4 rfl dX4_init_15 jv_4 ji_4 tyX4_ok nmX4 (Or.inl jt_57) rfl ht hn (by decide) (by decide) h4 rfl rfl (jw_rc _ rfl) rfl ?_
  refine jw_letM (fun M5 => ?_)
  refine jw_aloadR (pc := 18) 0 dX4_init_18 rfl ?_
  refine jw_iconst (pc := 19) dX4_init_19 ?_
  refine jw_newa (pc := 20) (kc := 1) (ks := 7) (c := 20) 0 dX4_init_20 rfl jt_49 rfl (fun _ z => by cases z) rfl (by decide) (by decide) (by decide) (by decide) rfl (jw_rc _ rfl) ?_
  refine jw_letM (fun M6 => ?_)
  refine jw_ck (fun h7 => ?_)
  refine jw_putF (pc := 22) (x := 1) (j := 6) tyX4 rfl dX4_init_22 jv_4 ji_4 tyX4_ok nmX4 jt_62 rfl rfl rfl ht hn (by decide) (by decide) h7.1 (jw_fvN (z := 0) ht (by decide) rfl) (jw_fvR ht (by decide) rfl h7.2) rfl rfl ?_
  refine jw_letM (fun M8 => ?_)
  refine jw_aloadR (pc := 25) 0 dX4_init_25 rfl ?_
  refine jw_bipush (pc := 26) dX4_init_26 rfl ?_
  refine jw_newa (pc := 28) (kc := 0) (ks := 0) (c := 20) 0 dX4_init_28 rfl jt_49 rfl (fun _ z => by cases z) rfl (by decide) (by decide) (by decide) (by decide) rfl (jw_rc _ rfl) ?_
  refine jw_letM (fun M9 => ?_)
  refine jw_ck (fun h10 => ?_)
  refine jw_putF (pc := 30) (x := 1) (j := 7) tyX4 rfl dX4_init_30 jv_4 ji_4 tyX4_ok nmX4 jt_63 rfl rfl rfl ht hn (by decide) (by decide) h10.1 (jw_fvN (z := 0) ht (by decide) rfl) (jw_fvR ht (by decide) rfl h10.2) rfl rfl ?_
  refine jw_letM (fun M11 => ?_)
  exact jw_ret (pc := 33) (v := 0) dX4_init_33 trivial rfl rfl
theorem kX4_init (G : jw_G) (t : Nat) (M : jw_M) : jw_Ct G YX4_init none 2 3 610 false (fun M1 => (0, M1)) yX4_init [jR G t] M (fX4_init t M) := jw_met (by decide) rfl rfl rfl (Nat.le_of_ble_eq_true rfl) (rX4_init G t M)
abbrev YX5_init : jw_Y := (RX5, cX5_init, 2, 0, "<init>")
theorem qX5_init : jw_cy YX5_init none yX5_init 1 := ⟨by decide, jt_333, jt_12, by decide, by decide +kernel⟩
theorem dX5_init_0 : decode cX5_init 0 = .ok (.aload_n 0, 1) := by decide +kernel
theorem dX5_init_1 : decode cX5_init 1 = .ok (.invokespecial 3, 3) := by decide +kernel
theorem dX5_init_4 : decode cX5_init 4 = .ok (.aload_n 0, 1) := by decide +kernel
theorem dX5_init_5 : decode cX5_init 5 = .ok (.bipush 64, 2) := by decide +kernel
theorem dX5_init_7 : decode cX5_init 7 = .ok (.newarray .int, 2) := by decide +kernel
theorem dX5_init_9 : decode cX5_init 9 = .ok (.putfield 9, 3) := by decide +kernel
theorem dX5_init_12 : decode cX5_init 12 = .ok (.aload_n 0, 1) := by decide +kernel
theorem dX5_init_13 : decode cX5_init 13 = .ok (.aload_n 1, 1) := by decide +kernel
theorem dX5_init_14 : decode cX5_init 14 = .ok (.getfield 15, 3) := by decide +kernel
theorem dX5_init_17 : decode cX5_init 17 = .ok (.putfield 21, 3) := by decide +kernel
theorem dX5_init_20 : decode cX5_init 20 = .ok (.aload_n 0, 1) := by decide +kernel
theorem dX5_init_21 : decode cX5_init 21 = .ok (.aload_n 1, 1) := by decide +kernel
theorem dX5_init_22 : decode cX5_init 22 = .ok (.getfield 22, 3) := by decide +kernel
theorem dX5_init_25 : decode cX5_init 25 = .ok (.putfield 26, 3) := by decide +kernel
theorem dX5_init_28 : decode cX5_init 28 = .ok (.aload_n 0, 1) := by decide +kernel
theorem dX5_init_29 : decode cX5_init 29 = .ok (.aload_n 1, 1) := by decide +kernel
theorem dX5_init_30 : decode cX5_init 30 = .ok (.getfield 27, 3) := by decide +kernel
theorem dX5_init_33 : decode cX5_init 33 = .ok (.putfield 31, 3) := by decide +kernel
theorem dX5_init_36 : decode cX5_init 36 = .ok (.return_, 1) := by decide +kernel
def fX5_init (t : Nat) (a1 : Nat) (M : jw_M) : Option jw_M :=
  if jw_tag a1 = 7 then (if jw_tag t = 5 then (if jw_len t = 6 then (if 0 ≤ M 9999 0 ∧ jw_tag (M 9999 0).toNat = 20 ∧ jw_len (M 9999 0).toNat = 64 then Option.bind (some (jw_nw M)) (fun M1 => if t < jw_n false M1 ∧ jw_rf t 3 = ((M 9999 0).toNat) then Option.bind (some (jw_up M1 t 3 1)) (fun M3 => if a1 < jw_n false M3 ∧ M3 a1 1 = 1 then if t < jw_n false M3 ∧ jw_rf t 0 = (jw_rf a1 1) then Option.bind (some (jw_up M3 t 0 1)) (fun M6 => if a1 < jw_n false M6 ∧ M6 a1 2 = 1 then if t < jw_n false M6 ∧ jw_rf t 1 = (jw_rf a1 2) then Option.bind (some (jw_up M6 t 1 1)) (fun M9 => if a1 < jw_n false M9 ∧ M9 a1 4 = 1 then if t < jw_n false M9 ∧ jw_rf t 2 = (jw_rf a1 4) then Option.bind (some (jw_up M9 t 2 1)) (fun M12 => some M12) else none else none) else none else none) else none else none) else none) else none) else none) else none) else none
set_option maxRecDepth 100000 in
theorem rX5_init (G : jw_G) (t : Nat) (a1 : Nat) (M : jw_M) : jw_Rn G YX5_init 2 1 64 false (fun M1 => (0, M1)) 0 [(0, jR G t), (1, jR G a1)] [] M (fX5_init t a1 M) := by
  unfold fX5_init
  refine jw_ck (fun ha1 => ?_)
  refine jw_ck (fun ht => ?_)
  refine jw_ck (fun hn => ?_)
  refine jw_aloadR (pc := 0) 0 dX5_init_0 rfl ?_
  refine jw_oinit (pc := 1) rfl dX5_init_1 jt_334 jt_28 jt_29 (by decide) (by decide) ?_
  refine jw_aloadR (pc := 4) 0 dX5_init_4 rfl ?_
  refine jw_bipush (pc := 5) dX5_init_5 rfl ?_
  refine jw_newa (pc := 7) (kc := 0) (ks := 0) (c := 20) 0 dX5_init_7 rfl jt_49 rfl (fun _ z => by cases z) rfl (by decide) (by decide) (by decide) (by decide) rfl (jw_rc _ rfl) ?_
  refine jw_letM (fun M1 => ?_)
  refine jw_ck (fun h2 => ?_)
  refine jw_putF (pc := 9) (x := 1) (j := 3) tyX5 rfl dX5_init_9 jv_5 ji_5 tyX5_ok nmX5 jt_338 rfl rfl rfl ht hn (by decide) (by decide) h2.1 (jw_fvN (z := 0) ht (by decide) rfl) (jw_fvR ht (by decide) rfl h2.2) rfl rfl ?_
  refine jw_letM (fun M3 => ?_)
  refine jw_aloadR (pc := 12) 0 dX5_init_12 rfl ?_
  refine jw_aloadR (pc := 13) 1 dX5_init_13 rfl ?_
  refine jw_ck (fun h4 => ?_)
  refine jw_getRP (pc := 14) (j := 1) rfl dX5_init_14 jv_7 ji_7 (Or.inr ⟨_, jt_259⟩) ha1 (jn_7 ha1) (by decide) (by decide) h4.1 rfl h4.2 ?_
  refine jw_ck (fun h5 => ?_)
  refine jw_putF (pc := 17) (x := 1) (j := 0) tyX5 rfl dX5_init_17 jv_5 ji_5 tyX5_ok nmX5 jt_335 rfl rfl rfl ht hn (by decide) (by decide) h5.1 (jw_fvN (z := 0) ht (by decide) rfl) (jw_fvR ht (by decide) rfl h5.2) rfl rfl ?_
  refine jw_letM (fun M6 => ?_)
  refine jw_aloadR (pc := 20) 0 dX5_init_20 rfl ?_
  refine jw_aloadR (pc := 21) 1 dX5_init_21 rfl ?_
  refine jw_ck (fun h7 => ?_)
  refine jw_getRP (pc := 22) (j := 2) rfl dX5_init_22 jv_7 ji_7 (Or.inr ⟨_, jt_265⟩) ha1 (jn_7 ha1) (by decide) (by decide) h7.1 rfl h7.2 ?_
  refine jw_ck (fun h8 => ?_)
  refine jw_putF (pc := 25) (x := 1) (j := 1) tyX5 rfl dX5_init_25 jv_5 ji_5 tyX5_ok nmX5 jt_336 rfl rfl rfl ht hn (by decide) (by decide) h8.1 (jw_fvN (z := 0) ht (by decide) rfl) (jw_fvR ht (by decide) rfl h8.2) rfl rfl ?_
  refine jw_letM (fun M9 => ?_)
  refine jw_aloadR (pc := 28) 0 dX5_init_28 rfl ?_
  refine jw_aloadR (pc := 29) 1 dX5_init_29 rfl ?_
  refine jw_ck (fun h10 => ?_)
  refine jw_getRP (pc := 30) (j := 4) rfl dX5_init_30 jv_7 ji_7 (Or.inr ⟨_, jt_274⟩) ha1 (jn_7 ha1) (by decide) (by decide) h10.1 rfl h10.2 ?_
  refine jw_ck (fun h11 => ?_)
  refine jw_putF (pc := 33) (x := 1) (j := 2) tyX5 rfl dX5_init_33 jv_5 ji_5 tyX5_ok nmX5 jt_337 rfl rfl rfl ht hn (by decide) (by decide) h11.1 (jw_fvN (z := 0) ht (by decide) rfl) (jw_fvR ht (by decide) rfl h11.2) rfl rfl ?_
  refine jw_letM (fun M12 => ?_)
  exact jw_ret (pc := 36) (v := 0) dX5_init_36 trivial rfl rfl
theorem kX5_init (G : jw_G) (t : Nat) (a1 : Nat) (M : jw_M) : jw_Ct G YX5_init none 2 1 64 false (fun M1 => (0, M1)) yX5_init [jR G t, jR G a1] M (fX5_init t a1 M) := jw_met (by decide) rfl rfl rfl (Nat.le_of_ble_eq_true rfl) (rX5_init G t a1 M)
abbrev YX6_init : jw_Y := (RX6, cX6_init, 1, 0, "<init>")
theorem qX6_init : jw_cy YX6_init none yX6_init 0 := ⟨by decide, jt_34, jt_2, by decide, by decide +kernel⟩
theorem dX6_init_0 : decode cX6_init 0 = .ok (.aload_n 0, 1) := by decide +kernel
theorem dX6_init_1 : decode cX6_init 1 = .ok (.invokespecial 1, 3) := by decide +kernel
theorem dX6_init_4 : decode cX6_init 4 = .ok (.aload_n 0, 1) := by decide +kernel
theorem dX6_init_5 : decode cX6_init 5 = .ok (.bipush 8, 2) := by decide +kernel
theorem dX6_init_7 : decode cX6_init 7 = .ok (.newarray .int, 2) := by decide +kernel
theorem dX6_init_9 : decode cX6_init 9 = .ok (.putfield 9, 3) := by decide +kernel
theorem dX6_init_12 : decode cX6_init 12 = .ok (.aload_n 0, 1) := by decide +kernel
theorem dX6_init_13 : decode cX6_init 13 = .ok (.bipush 8, 2) := by decide +kernel
theorem dX6_init_15 : decode cX6_init 15 = .ok (.newarray .int, 2) := by decide +kernel
theorem dX6_init_17 : decode cX6_init 17 = .ok (.putfield 13, 3) := by decide +kernel
theorem dX6_init_20 : decode cX6_init 20 = .ok (.aload_n 0, 1) := by decide +kernel
theorem dX6_init_21 : decode cX6_init 21 = .ok (.sipush 320, 3) := by decide +kernel
theorem dX6_init_24 : decode cX6_init 24 = .ok (.newarray .int, 2) := by decide +kernel
theorem dX6_init_26 : decode cX6_init 26 = .ok (.putfield 16, 3) := by decide +kernel
theorem dX6_init_29 : decode cX6_init 29 = .ok (.aload_n 0, 1) := by decide +kernel
theorem dX6_init_30 : decode cX6_init 30 = .ok (.getfield 9, 3) := by decide +kernel
theorem dX6_init_33 : decode cX6_init 33 = .ok (.iconst (-1), 1) := by decide +kernel
theorem dX6_init_34 : decode cX6_init 34 = .ok (.invokestatic 19, 3) := by decide +kernel
theorem dX6_init_37 : decode cX6_init 37 = .ok (.return_, 1) := by decide +kernel
def fX6_init (t : Nat) (M : jw_M) : Option jw_M :=
  if jw_tag t = 6 then (if jw_len t = 3 then (if 0 ≤ M 9999 0 ∧ jw_tag (M 9999 0).toNat = 20 ∧ jw_len (M 9999 0).toNat = 8 then Option.bind (some (jw_nw M)) (fun M1 => if t < jw_n false M1 ∧ jw_rf t 0 = ((M 9999 0).toNat) then Option.bind (some (jw_up M1 t 0 1)) (fun M3 => if 0 ≤ M3 9999 0 ∧ jw_tag (M3 9999 0).toNat = 20 ∧ jw_len (M3 9999 0).toNat = 8 then Option.bind (some (jw_nw M3)) (fun M4 => if t < jw_n false M4 ∧ jw_rf t 1 = ((M3 9999 0).toNat) then Option.bind (some (jw_up M4 t 1 1)) (fun M6 => if 0 ≤ M6 9999 0 ∧ jw_tag (M6 9999 0).toNat = 20 ∧ jw_len (M6 9999 0).toNat = 320 then Option.bind (some (jw_nw M6)) (fun M7 => if t < jw_n false M7 ∧ jw_rf t 2 = ((M6 9999 0).toNat) then Option.bind (some (jw_up M7 t 2 1)) (fun M9 => if t < jw_n false M9 ∧ M9 t 0 = 1 then Option.bind (fJ7_fill_53178P (jw_rf t 0) (-1) M9) (fun M11 => some M11) else none) else none) else none) else none) else none) else none) else none) else none) else none
set_option maxRecDepth 100000 in
theorem rX6_init (G : jw_G) (t : Nat) (M : jw_M) : jw_Rn G YX6_init 2 3 336 false (fun M1 => (0, M1)) 0 [(0, jR G t)] [] M (fX6_init t M) := by
  unfold fX6_init
  refine jw_ck (fun ht => ?_)
  refine jw_ck (fun hn => ?_)
  refine jw_aloadR (pc := 0) 0 dX6_init_0 rfl ?_
  refine jw_oinit (pc := 1) rfl dX6_init_1 jt_35 jt_28 jt_29 (by decide) (by decide) ?_
  refine jw_aloadR (pc := 4) 0 dX6_init_4 rfl ?_
  refine jw_bipush (pc := 5) dX6_init_5 rfl ?_
  refine jw_newa (pc := 7) (kc := 2) (ks := 328) (c := 20) 0 dX6_init_7 rfl jt_49 rfl (fun _ z => by cases z) rfl (by decide) (by decide) (by decide) (by decide) rfl (jw_rc _ rfl) ?_
  refine jw_letM (fun M1 => ?_)
  refine jw_ck (fun h2 => ?_)
  refine jw_putF (pc := 9) (x := 1) (j := 0) tyX6 rfl dX6_init_9 jv_6 ji_6 tyX6_ok nmX6 jt_39 rfl rfl rfl ht hn (by decide) (by decide) h2.1 (jw_fvN (z := 0) ht (by decide) rfl) (jw_fvR ht (by decide) rfl h2.2) rfl rfl ?_
  refine jw_letM (fun M3 => ?_)
  refine jw_aloadR (pc := 12) 0 dX6_init_12 rfl ?_
  refine jw_bipush (pc := 13) dX6_init_13 rfl ?_
  refine jw_newa (pc := 15) (kc := 1) (ks := 320) (c := 20) 0 dX6_init_15 rfl jt_49 rfl (fun _ z => by cases z) rfl (by decide) (by decide) (by decide) (by decide) rfl (jw_rc _ rfl) ?_
  refine jw_letM (fun M4 => ?_)
  refine jw_ck (fun h5 => ?_)
  refine jw_putF (pc := 17) (x := 1) (j := 1) tyX6 rfl dX6_init_17 jv_6 ji_6 tyX6_ok nmX6 jt_40 rfl rfl rfl ht hn (by decide) (by decide) h5.1 (jw_fvN (z := 0) ht (by decide) rfl) (jw_fvR ht (by decide) rfl h5.2) rfl rfl ?_
  refine jw_letM (fun M6 => ?_)
  refine jw_aloadR (pc := 20) 0 dX6_init_20 rfl ?_
  refine jw_sipush (pc := 21) dX6_init_21 rfl ?_
  refine jw_newa (pc := 24) (kc := 0) (ks := 0) (c := 20) 0 dX6_init_24 rfl jt_49 rfl (fun _ z => by cases z) rfl (by decide) (by decide) (by decide) (by decide) rfl (jw_rc _ rfl) ?_
  refine jw_letM (fun M7 => ?_)
  refine jw_ck (fun h8 => ?_)
  refine jw_putF (pc := 26) (x := 1) (j := 2) tyX6 rfl dX6_init_26 jv_6 ji_6 tyX6_ok nmX6 jt_41 rfl rfl rfl ht hn (by decide) (by decide) h8.1 (jw_fvN (z := 0) ht (by decide) rfl) (jw_fvR ht (by decide) rfl h8.2) rfl rfl ?_
  refine jw_letM (fun M9 => ?_)
  refine jw_aloadR (pc := 29) 0 dX6_init_29 rfl ?_
  refine jw_ck (fun h10 => ?_)
  refine jw_getRP (pc := 30) (j := 0) rfl dX6_init_30 jv_6 ji_6 (Or.inl jt_39) ht hn (by decide) (by decide) h10.1 rfl h10.2 ?_
  refine jw_iconst (pc := 33) dX6_init_33 ?_
  refine jw_callSM (pc := 34) (As := [jR G (jw_rf t 0), jI (-1)]) (st := []) dX6_init_34 rfl (by decide) qJ7_fill_53178P jt_36 jt_37 rfl rfl (Nat.le_of_ble_eq_true rfl) (kJ7_fill_53178P G (jw_rf t 0) (-1) (jw_rc _ rfl) M9) (fun M11 => ?_)
  exact jw_ret (pc := 37) (v := 0) dX6_init_37 trivial rfl rfl
theorem kX6_init (G : jw_G) (t : Nat) (M : jw_M) : jw_Ct G YX6_init none 2 3 336 false (fun M1 => (0, M1)) yX6_init [jR G t] M (fX6_init t M) := jw_met (by decide) rfl rfl rfl (Nat.le_of_ble_eq_true rfl) (rX6_init G t M)
abbrev YX9_init : jw_Y := (RX9, cX9_init, 1, 0, "<init>")
theorem qX9_init : jw_cy YX9_init none yX9_init 0 := ⟨by decide, jt_92, jt_6, by decide, by decide +kernel⟩
theorem dX9_init_0 : decode cX9_init 0 = .ok (.aload_n 0, 1) := by decide +kernel
theorem dX9_init_1 : decode cX9_init 1 = .ok (.invokespecial 3, 3) := by decide +kernel
theorem dX9_init_4 : decode cX9_init 4 = .ok (.aload_n 0, 1) := by decide +kernel
theorem dX9_init_5 : decode cX9_init 5 = .ok (.bipush 7, 2) := by decide +kernel
theorem dX9_init_7 : decode cX9_init 7 = .ok (.newarray .int, 2) := by decide +kernel
theorem dX9_init_9 : decode cX9_init 9 = .ok (.putfield 9, 3) := by decide +kernel
theorem dX9_init_12 : decode cX9_init 12 = .ok (.aload_n 0, 1) := by decide +kernel
theorem dX9_init_13 : decode cX9_init 13 = .ok (.bipush 49, 2) := by decide +kernel
theorem dX9_init_15 : decode cX9_init 15 = .ok (.newarray .int, 2) := by decide +kernel
theorem dX9_init_17 : decode cX9_init 17 = .ok (.putfield 15, 3) := by decide +kernel
theorem dX9_init_20 : decode cX9_init 20 = .ok (.aload_n 0, 1) := by decide +kernel
theorem dX9_init_21 : decode cX9_init 21 = .ok (.bipush 49, 2) := by decide +kernel
theorem dX9_init_23 : decode cX9_init 23 = .ok (.newarray .int, 2) := by decide +kernel
theorem dX9_init_25 : decode cX9_init 25 = .ok (.putfield 18, 3) := by decide +kernel
theorem dX9_init_28 : decode cX9_init 28 = .ok (.aload_n 0, 1) := by decide +kernel
theorem dX9_init_29 : decode cX9_init 29 = .ok (.bipush 49, 2) := by decide +kernel
theorem dX9_init_31 : decode cX9_init 31 = .ok (.newarray .int, 2) := by decide +kernel
theorem dX9_init_33 : decode cX9_init 33 = .ok (.putfield 21, 3) := by decide +kernel
theorem dX9_init_36 : decode cX9_init 36 = .ok (.aload_n 0, 1) := by decide +kernel
theorem dX9_init_37 : decode cX9_init 37 = .ok (.bipush 6, 2) := by decide +kernel
theorem dX9_init_39 : decode cX9_init 39 = .ok (.newarray .int, 2) := by decide +kernel
theorem dX9_init_41 : decode cX9_init 41 = .ok (.putfield 24, 3) := by decide +kernel
theorem dX9_init_44 : decode cX9_init 44 = .ok (.aload_n 0, 1) := by decide +kernel
theorem dX9_init_45 : decode cX9_init 45 = .ok (.bipush 6, 2) := by decide +kernel
theorem dX9_init_47 : decode cX9_init 47 = .ok (.newarray .int, 2) := by decide +kernel
theorem dX9_init_49 : decode cX9_init 49 = .ok (.putfield 27, 3) := by decide +kernel
theorem dX9_init_52 : decode cX9_init 52 = .ok (.return_, 1) := by decide +kernel
def fX9_init (t : Nat) (M : jw_M) : Option jw_M :=
  if jw_tag t = 9 then (if jw_len t = 11 then (if 0 ≤ M 9999 0 ∧ jw_tag (M 9999 0).toNat = 20 ∧ jw_len (M 9999 0).toNat = 7 then Option.bind (some (jw_nw M)) (fun M1 => if t < jw_n false M1 ∧ jw_rf t 1 = ((M 9999 0).toNat) then Option.bind (some (jw_up M1 t 1 1)) (fun M3 => if 0 ≤ M3 9999 0 ∧ jw_tag (M3 9999 0).toNat = 20 ∧ jw_len (M3 9999 0).toNat = 49 then Option.bind (some (jw_nw M3)) (fun M4 => if t < jw_n false M4 ∧ jw_rf t 2 = ((M3 9999 0).toNat) then Option.bind (some (jw_up M4 t 2 1)) (fun M6 => if 0 ≤ M6 9999 0 ∧ jw_tag (M6 9999 0).toNat = 20 ∧ jw_len (M6 9999 0).toNat = 49 then Option.bind (some (jw_nw M6)) (fun M7 => if t < jw_n false M7 ∧ jw_rf t 3 = ((M6 9999 0).toNat) then Option.bind (some (jw_up M7 t 3 1)) (fun M9 => if 0 ≤ M9 9999 0 ∧ jw_tag (M9 9999 0).toNat = 20 ∧ jw_len (M9 9999 0).toNat = 49 then Option.bind (some (jw_nw M9)) (fun M10 => if t < jw_n false M10 ∧ jw_rf t 4 = ((M9 9999 0).toNat) then Option.bind (some (jw_up M10 t 4 1)) (fun M12 => if 0 ≤ M12 9999 0 ∧ jw_tag (M12 9999 0).toNat = 20 ∧ jw_len (M12 9999 0).toNat = 6 then Option.bind (some (jw_nw M12)) (fun M13 => if t < jw_n false M13 ∧ jw_rf t 6 = ((M12 9999 0).toNat) then Option.bind (some (jw_up M13 t 6 1)) (fun M15 => if 0 ≤ M15 9999 0 ∧ jw_tag (M15 9999 0).toNat = 20 ∧ jw_len (M15 9999 0).toNat = 6 then Option.bind (some (jw_nw M15)) (fun M16 => if t < jw_n false M16 ∧ jw_rf t 7 = ((M15 9999 0).toNat) then Option.bind (some (jw_up M16 t 7 1)) (fun M18 => some M18) else none) else none) else none) else none) else none) else none) else none) else none) else none) else none) else none) else none) else none) else none
set_option maxRecDepth 100000 in
theorem rX9_init (G : jw_G) (t : Nat) (M : jw_M) : jw_Rn G YX9_init 2 6 166 false (fun M1 => (0, M1)) 0 [(0, jR G t)] [] M (fX9_init t M) := by
  unfold fX9_init
  refine jw_ck (fun ht => ?_)
  refine jw_ck (fun hn => ?_)
  refine jw_aloadR (pc := 0) 0 dX9_init_0 rfl ?_
  refine jw_oinit (pc := 1) rfl dX9_init_1 jt_93 jt_28 jt_29 (by decide) (by decide) ?_
  refine jw_aloadR (pc := 4) 0 dX9_init_4 rfl ?_
  refine jw_bipush (pc := 5) dX9_init_5 rfl ?_
  refine jw_newa (pc := 7) (kc := 5) (ks := 159) (c := 20) 0 dX9_init_7 rfl jt_49 rfl (fun _ z => by cases z) rfl (by decide) (by decide) (by decide) (by decide) rfl (jw_rc _ rfl) ?_
  refine jw_letM (fun M1 => ?_)
  refine jw_ck (fun h2 => ?_)
  refine jw_putF (pc := 9) (x := 1) (j := 1) tyX9 rfl dX9_init_9 jv_9 ji_9 tyX9_ok nmX9 jt_98 rfl rfl rfl ht hn (by decide) (by decide) h2.1 (jw_fvN (z := 0) ht (by decide) rfl) (jw_fvR ht (by decide) rfl h2.2) rfl rfl ?_
  refine jw_letM (fun M3 => ?_)
  refine jw_aloadR (pc := 12) 0 dX9_init_12 rfl ?_
  refine jw_bipush (pc := 13) dX9_init_13 rfl ?_
  refine jw_newa (pc := 15) (kc := 4) (ks := 110) (c := 20) 0 dX9_init_15 rfl jt_49 rfl (fun _ z => by cases z) rfl (by decide) (by decide) (by decide) (by decide) rfl (jw_rc _ rfl) ?_
  refine jw_letM (fun M4 => ?_)
  refine jw_ck (fun h5 => ?_)
  refine jw_putF (pc := 17) (x := 1) (j := 2) tyX9 rfl dX9_init_17 jv_9 ji_9 tyX9_ok nmX9 jt_102 rfl rfl rfl ht hn (by decide) (by decide) h5.1 (jw_fvN (z := 0) ht (by decide) rfl) (jw_fvR ht (by decide) rfl h5.2) rfl rfl ?_
  refine jw_letM (fun M6 => ?_)
  refine jw_aloadR (pc := 20) 0 dX9_init_20 rfl ?_
  refine jw_bipush (pc := 21) dX9_init_21 rfl ?_
  refine jw_newa (pc := 23) (kc := 3) (ks := 61) (c := 20) 0 dX9_init_23 rfl jt_49 rfl (fun _ z => by cases z) rfl (by decide) (by decide) (by decide) (by decide) rfl (jw_rc _ rfl) ?_
  refine jw_letM (fun M7 => ?_)
  refine jw_ck (fun h8 => ?_)
  refine jw_putF (pc := 25) (x := 1) (j := 3) tyX9 rfl dX9_init_25 jv_9 ji_9 tyX9_ok nmX9 jt_103 rfl rfl rfl ht hn (by decide) (by decide) h8.1 (jw_fvN (z := 0) ht (by decide) rfl) (jw_fvR ht (by decide) rfl h8.2) rfl rfl ?_
  refine jw_letM (fun M9 => ?_)
  refine jw_aloadR (pc := 28) 0 dX9_init_28 rfl ?_
  refine jw_bipush (pc := 29) dX9_init_29 rfl ?_
  refine jw_newa (pc := 31) (kc := 2) (ks := 12) (c := 20) 0 dX9_init_31 rfl jt_49 rfl (fun _ z => by cases z) rfl (by decide) (by decide) (by decide) (by decide) rfl (jw_rc _ rfl) ?_
  refine jw_letM (fun M10 => ?_)
  refine jw_ck (fun h11 => ?_)
  refine jw_putF (pc := 33) (x := 1) (j := 4) tyX9 rfl dX9_init_33 jv_9 ji_9 tyX9_ok nmX9 jt_104 rfl rfl rfl ht hn (by decide) (by decide) h11.1 (jw_fvN (z := 0) ht (by decide) rfl) (jw_fvR ht (by decide) rfl h11.2) rfl rfl ?_
  refine jw_letM (fun M12 => ?_)
  refine jw_aloadR (pc := 36) 0 dX9_init_36 rfl ?_
  refine jw_bipush (pc := 37) dX9_init_37 rfl ?_
  refine jw_newa (pc := 39) (kc := 1) (ks := 6) (c := 20) 0 dX9_init_39 rfl jt_49 rfl (fun _ z => by cases z) rfl (by decide) (by decide) (by decide) (by decide) rfl (jw_rc _ rfl) ?_
  refine jw_letM (fun M13 => ?_)
  refine jw_ck (fun h14 => ?_)
  refine jw_putF (pc := 41) (x := 1) (j := 6) tyX9 rfl dX9_init_41 jv_9 ji_9 tyX9_ok nmX9 jt_108 rfl rfl rfl ht hn (by decide) (by decide) h14.1 (jw_fvN (z := 0) ht (by decide) rfl) (jw_fvR ht (by decide) rfl h14.2) rfl rfl ?_
  refine jw_letM (fun M15 => ?_)
  refine jw_aloadR (pc := 44) 0 dX9_init_44 rfl ?_
  refine jw_bipush (pc := 45) dX9_init_45 rfl ?_
  refine jw_newa (pc := 47) (kc := 0) (ks := 0) (c := 20) 0 dX9_init_47 rfl jt_49 rfl (fun _ z => by cases z) rfl (by decide) (by decide) (by decide) (by decide) rfl (jw_rc _ rfl) ?_
  refine jw_letM (fun M16 => ?_)
  refine jw_ck (fun h17 => ?_)
  refine jw_putF (pc := 49) (x := 1) (j := 7) tyX9 rfl dX9_init_49 jv_9 ji_9 tyX9_ok nmX9 jt_110 rfl rfl rfl ht hn (by decide) (by decide) h17.1 (jw_fvN (z := 0) ht (by decide) rfl) (jw_fvR ht (by decide) rfl h17.2) rfl rfl ?_
  refine jw_letM (fun M18 => ?_)
  exact jw_ret (pc := 52) (v := 0) dX9_init_52 trivial rfl rfl
theorem kX9_init (G : jw_G) (t : Nat) (M : jw_M) : jw_Ct G YX9_init none 2 6 166 false (fun M1 => (0, M1)) yX9_init [jR G t] M (fX9_init t M) := jw_met (by decide) rfl rfl rfl (Nat.le_of_ble_eq_true rfl) (rX9_init G t M)
abbrev YX10_init : jw_Y := (RX10, cX10_init, 1, 0, "<init>")
theorem qX10_init : jw_cy YX10_init none yX10_init 0 := ⟨by decide, jt_144, jt_7, by decide, by decide +kernel⟩
theorem dX10_init_0 : decode cX10_init 0 = .ok (.aload_n 0, 1) := by decide +kernel
theorem dX10_init_1 : decode cX10_init 1 = .ok (.invokespecial 3, 3) := by decide +kernel
theorem dX10_init_4 : decode cX10_init 4 = .ok (.aload_n 0, 1) := by decide +kernel
theorem dX10_init_5 : decode cX10_init 5 = .ok (.iconst 4, 1) := by decide +kernel
theorem dX10_init_6 : decode cX10_init 6 = .ok (.newarray .int, 2) := by decide +kernel
theorem dX10_init_8 : decode cX10_init 8 = .ok (.putfield 9, 3) := by decide +kernel
theorem dX10_init_11 : decode cX10_init 11 = .ok (.aload_n 0, 1) := by decide +kernel
theorem dX10_init_12 : decode cX10_init 12 = .ok (.iconst 4, 1) := by decide +kernel
theorem dX10_init_13 : decode cX10_init 13 = .ok (.newarray .int, 2) := by decide +kernel
theorem dX10_init_15 : decode cX10_init 15 = .ok (.putfield 15, 3) := by decide +kernel
theorem dX10_init_18 : decode cX10_init 18 = .ok (.aload_n 0, 1) := by decide +kernel
theorem dX10_init_19 : decode cX10_init 19 = .ok (.iconst 4, 1) := by decide +kernel
theorem dX10_init_20 : decode cX10_init 20 = .ok (.newarray .int, 2) := by decide +kernel
theorem dX10_init_22 : decode cX10_init 22 = .ok (.putfield 18, 3) := by decide +kernel
theorem dX10_init_25 : decode cX10_init 25 = .ok (.aload_n 0, 1) := by decide +kernel
theorem dX10_init_26 : decode cX10_init 26 = .ok (.iconst 5, 1) := by decide +kernel
theorem dX10_init_27 : decode cX10_init 27 = .ok (.newarray .int, 2) := by decide +kernel
theorem dX10_init_29 : decode cX10_init 29 = .ok (.putfield 21, 3) := by decide +kernel
theorem dX10_init_32 : decode cX10_init 32 = .ok (.aload_n 0, 1) := by decide +kernel
theorem dX10_init_33 : decode cX10_init 33 = .ok (.iconst 5, 1) := by decide +kernel
theorem dX10_init_34 : decode cX10_init 34 = .ok (.newarray .int, 2) := by decide +kernel
theorem dX10_init_36 : decode cX10_init 36 = .ok (.putfield 24, 3) := by decide +kernel
theorem dX10_init_39 : decode cX10_init 39 = .ok (.aload_n 0, 1) := by decide +kernel
theorem dX10_init_40 : decode cX10_init 40 = .ok (.iconst 4, 1) := by decide +kernel
theorem dX10_init_41 : decode cX10_init 41 = .ok (.newarray .int, 2) := by decide +kernel
theorem dX10_init_43 : decode cX10_init 43 = .ok (.putfield 27, 3) := by decide +kernel
theorem dX10_init_46 : decode cX10_init 46 = .ok (.return_, 1) := by decide +kernel
def fX10_init (t : Nat) (M : jw_M) : Option jw_M :=
  if jw_tag t = 10 then (if jw_len t = 9 then (if 0 ≤ M 9999 0 ∧ jw_tag (M 9999 0).toNat = 20 ∧ jw_len (M 9999 0).toNat = 4 then Option.bind (some (jw_nw M)) (fun M1 => if t < jw_n false M1 ∧ jw_rf t 1 = ((M 9999 0).toNat) then Option.bind (some (jw_up M1 t 1 1)) (fun M3 => if 0 ≤ M3 9999 0 ∧ jw_tag (M3 9999 0).toNat = 20 ∧ jw_len (M3 9999 0).toNat = 4 then Option.bind (some (jw_nw M3)) (fun M4 => if t < jw_n false M4 ∧ jw_rf t 2 = ((M3 9999 0).toNat) then Option.bind (some (jw_up M4 t 2 1)) (fun M6 => if 0 ≤ M6 9999 0 ∧ jw_tag (M6 9999 0).toNat = 20 ∧ jw_len (M6 9999 0).toNat = 4 then Option.bind (some (jw_nw M6)) (fun M7 => if t < jw_n false M7 ∧ jw_rf t 3 = ((M6 9999 0).toNat) then Option.bind (some (jw_up M7 t 3 1)) (fun M9 => if 0 ≤ M9 9999 0 ∧ jw_tag (M9 9999 0).toNat = 20 ∧ jw_len (M9 9999 0).toNat = 5 then Option.bind (some (jw_nw M9)) (fun M10 => if t < jw_n false M10 ∧ jw_rf t 5 = ((M9 9999 0).toNat) then Option.bind (some (jw_up M10 t 5 1)) (fun M12 => if 0 ≤ M12 9999 0 ∧ jw_tag (M12 9999 0).toNat = 20 ∧ jw_len (M12 9999 0).toNat = 5 then Option.bind (some (jw_nw M12)) (fun M13 => if t < jw_n false M13 ∧ jw_rf t 6 = ((M12 9999 0).toNat) then Option.bind (some (jw_up M13 t 6 1)) (fun M15 => if 0 ≤ M15 9999 0 ∧ jw_tag (M15 9999 0).toNat = 20 ∧ jw_len (M15 9999 0).toNat = 4 then Option.bind (some (jw_nw M15)) (fun M16 => if t < jw_n false M16 ∧ jw_rf t 8 = ((M15 9999 0).toNat) then Option.bind (some (jw_up M16 t 8 1)) (fun M18 => some M18) else none) else none) else none) else none) else none) else none) else none) else none) else none) else none) else none) else none) else none) else none
set_option maxRecDepth 100000 in
theorem rX10_init (G : jw_G) (t : Nat) (M : jw_M) : jw_Rn G YX10_init 2 6 26 false (fun M1 => (0, M1)) 0 [(0, jR G t)] [] M (fX10_init t M) := by
  unfold fX10_init
  refine jw_ck (fun ht => ?_)
  refine jw_ck (fun hn => ?_)
  refine jw_aloadR (pc := 0) 0 dX10_init_0 rfl ?_
  refine jw_oinit (pc := 1) rfl dX10_init_1 jt_145 jt_28 jt_29 (by decide) (by decide) ?_
  refine jw_aloadR (pc := 4) 0 dX10_init_4 rfl ?_
  refine jw_iconst (pc := 5) dX10_init_5 ?_
  refine jw_newa (pc := 6) (kc := 5) (ks := 22) (c := 20) 0 dX10_init_6 rfl jt_49 rfl (fun _ z => by cases z) rfl (by decide) (by decide) (by decide) (by decide) rfl (jw_rc _ rfl) ?_
  refine jw_letM (fun M1 => ?_)
  refine jw_ck (fun h2 => ?_)
  refine jw_putF (pc := 8) (x := 1) (j := 1) tyX10 rfl dX10_init_8 jv_10 ji_10 tyX10_ok nmX10 jt_148 rfl rfl rfl ht hn (by decide) (by decide) h2.1 (jw_fvN (z := 0) ht (by decide) rfl) (jw_fvR ht (by decide) rfl h2.2) rfl rfl ?_
  refine jw_letM (fun M3 => ?_)
  refine jw_aloadR (pc := 11) 0 dX10_init_11 rfl ?_
  refine jw_iconst (pc := 12) dX10_init_12 ?_
  refine jw_newa (pc := 13) (kc := 4) (ks := 18) (c := 20) 0 dX10_init_13 rfl jt_49 rfl (fun _ z => by cases z) rfl (by decide) (by decide) (by decide) (by decide) rfl (jw_rc _ rfl) ?_
  refine jw_letM (fun M4 => ?_)
  refine jw_ck (fun h5 => ?_)
  refine jw_putF (pc := 15) (x := 1) (j := 2) tyX10 rfl dX10_init_15 jv_10 ji_10 tyX10_ok nmX10 jt_149 rfl rfl rfl ht hn (by decide) (by decide) h5.1 (jw_fvN (z := 0) ht (by decide) rfl) (jw_fvR ht (by decide) rfl h5.2) rfl rfl ?_
  refine jw_letM (fun M6 => ?_)
  refine jw_aloadR (pc := 18) 0 dX10_init_18 rfl ?_
  refine jw_iconst (pc := 19) dX10_init_19 ?_
  refine jw_newa (pc := 20) (kc := 3) (ks := 14) (c := 20) 0 dX10_init_20 rfl jt_49 rfl (fun _ z => by cases z) rfl (by decide) (by decide) (by decide) (by decide) rfl (jw_rc _ rfl) ?_
  refine jw_letM (fun M7 => ?_)
  refine jw_ck (fun h8 => ?_)
  refine jw_putF (pc := 22) (x := 1) (j := 3) tyX10 rfl dX10_init_22 jv_10 ji_10 tyX10_ok nmX10 jt_150 rfl rfl rfl ht hn (by decide) (by decide) h8.1 (jw_fvN (z := 0) ht (by decide) rfl) (jw_fvR ht (by decide) rfl h8.2) rfl rfl ?_
  refine jw_letM (fun M9 => ?_)
  refine jw_aloadR (pc := 25) 0 dX10_init_25 rfl ?_
  refine jw_iconst (pc := 26) dX10_init_26 ?_
  refine jw_newa (pc := 27) (kc := 2) (ks := 9) (c := 20) 0 dX10_init_27 rfl jt_49 rfl (fun _ z => by cases z) rfl (by decide) (by decide) (by decide) (by decide) rfl (jw_rc _ rfl) ?_
  refine jw_letM (fun M10 => ?_)
  refine jw_ck (fun h11 => ?_)
  refine jw_putF (pc := 29) (x := 1) (j := 5) tyX10 rfl dX10_init_29 jv_10 ji_10 tyX10_ok nmX10 jt_156 rfl rfl rfl ht hn (by decide) (by decide) h11.1 (jw_fvN (z := 0) ht (by decide) rfl) (jw_fvR ht (by decide) rfl h11.2) rfl rfl ?_
  refine jw_letM (fun M12 => ?_)
  refine jw_aloadR (pc := 32) 0 dX10_init_32 rfl ?_
  refine jw_iconst (pc := 33) dX10_init_33 ?_
  refine jw_newa (pc := 34) (kc := 1) (ks := 4) (c := 20) 0 dX10_init_34 rfl jt_49 rfl (fun _ z => by cases z) rfl (by decide) (by decide) (by decide) (by decide) rfl (jw_rc _ rfl) ?_
  refine jw_letM (fun M13 => ?_)
  refine jw_ck (fun h14 => ?_)
  refine jw_putF (pc := 36) (x := 1) (j := 6) tyX10 rfl dX10_init_36 jv_10 ji_10 tyX10_ok nmX10 jt_159 rfl rfl rfl ht hn (by decide) (by decide) h14.1 (jw_fvN (z := 0) ht (by decide) rfl) (jw_fvR ht (by decide) rfl h14.2) rfl rfl ?_
  refine jw_letM (fun M15 => ?_)
  refine jw_aloadR (pc := 39) 0 dX10_init_39 rfl ?_
  refine jw_iconst (pc := 40) dX10_init_40 ?_
  refine jw_newa (pc := 41) (kc := 0) (ks := 0) (c := 20) 0 dX10_init_41 rfl jt_49 rfl (fun _ z => by cases z) rfl (by decide) (by decide) (by decide) (by decide) rfl (jw_rc _ rfl) ?_
  refine jw_letM (fun M16 => ?_)
  refine jw_ck (fun h17 => ?_)
  refine jw_putF (pc := 43) (x := 1) (j := 8) tyX10 rfl dX10_init_43 jv_10 ji_10 tyX10_ok nmX10 jt_168 rfl rfl rfl ht hn (by decide) (by decide) h17.1 (jw_fvN (z := 0) ht (by decide) rfl) (jw_fvR ht (by decide) rfl h17.2) rfl rfl ?_
  refine jw_letM (fun M18 => ?_)
  exact jw_ret (pc := 46) (v := 0) dX10_init_46 trivial rfl rfl
theorem kX10_init (G : jw_G) (t : Nat) (M : jw_M) : jw_Ct G YX10_init none 2 6 26 false (fun M1 => (0, M1)) yX10_init [jR G t] M (fX10_init t M) := jw_met (by decide) rfl rfl rfl (Nat.le_of_ble_eq_true rfl) (rX10_init G t M)
abbrev YX7_init : jw_Y := (RX7, cX7_init, 1, 0, "<init>")
theorem qX7_init : jw_cy YX7_init none yX7_init 0 := ⟨by decide, jt_86, jt_5, by decide, by decide +kernel⟩
theorem dX7_init_0 : decode cX7_init 0 = .ok (.aload_n 0, 1) := by decide +kernel
theorem dX7_init_1 : decode cX7_init 1 = .ok (.invokespecial 1, 3) := by decide +kernel
theorem dX7_init_4 : decode cX7_init 4 = .ok (.aload_n 0, 1) := by decide +kernel
theorem dX7_init_5 : decode cX7_init 5 = .ok (.iconst 0, 1) := by decide +kernel
theorem dX7_init_6 : decode cX7_init 6 = .ok (.putfield 7, 3) := by decide +kernel
theorem dX7_init_9 : decode cX7_init 9 = .ok (.aload_n 0, 1) := by decide +kernel
theorem dX7_init_10 : decode cX7_init 10 = .ok (.new 13, 3) := by decide +kernel
theorem dX7_init_13 : decode cX7_init 13 = .ok (.dup, 1) := by decide +kernel
theorem dX7_init_14 : decode cX7_init 14 = .ok (.invokespecial 15, 3) := by decide +kernel
theorem dX7_init_17 : decode cX7_init 17 = .ok (.putfield 16, 3) := by decide +kernel
theorem dX7_init_20 : decode cX7_init 20 = .ok (.aload_n 0, 1) := by decide +kernel
theorem dX7_init_21 : decode cX7_init 21 = .ok (.new 20, 3) := by decide +kernel
theorem dX7_init_24 : decode cX7_init 24 = .ok (.dup, 1) := by decide +kernel
theorem dX7_init_25 : decode cX7_init 25 = .ok (.invokespecial 22, 3) := by decide +kernel
theorem dX7_init_28 : decode cX7_init 28 = .ok (.putfield 23, 3) := by decide +kernel
theorem dX7_init_31 : decode cX7_init 31 = .ok (.aload_n 0, 1) := by decide +kernel
theorem dX7_init_32 : decode cX7_init 32 = .ok (.new 27, 3) := by decide +kernel
theorem dX7_init_35 : decode cX7_init 35 = .ok (.dup, 1) := by decide +kernel
theorem dX7_init_36 : decode cX7_init 36 = .ok (.invokespecial 29, 3) := by decide +kernel
theorem dX7_init_39 : decode cX7_init 39 = .ok (.putfield 30, 3) := by decide +kernel
theorem dX7_init_42 : decode cX7_init 42 = .ok (.aload_n 0, 1) := by decide +kernel
theorem dX7_init_43 : decode cX7_init 43 = .ok (.new 34, 3) := by decide +kernel
theorem dX7_init_46 : decode cX7_init 46 = .ok (.dup, 1) := by decide +kernel
theorem dX7_init_47 : decode cX7_init 47 = .ok (.invokespecial 36, 3) := by decide +kernel
theorem dX7_init_50 : decode cX7_init 50 = .ok (.putfield 37, 3) := by decide +kernel
theorem dX7_init_53 : decode cX7_init 53 = .ok (.aload_n 0, 1) := by decide +kernel
theorem dX7_init_54 : decode cX7_init 54 = .ok (.new 41, 3) := by decide +kernel
theorem dX7_init_57 : decode cX7_init 57 = .ok (.dup, 1) := by decide +kernel
theorem dX7_init_58 : decode cX7_init 58 = .ok (.invokespecial 43, 3) := by decide +kernel
theorem dX7_init_61 : decode cX7_init 61 = .ok (.putfield 44, 3) := by decide +kernel
theorem dX7_init_64 : decode cX7_init 64 = .ok (.return_, 1) := by decide +kernel
def fX7_init (t : Nat) (M : jw_M) : Option jw_M :=
  if jw_tag t = 7 then (if jw_len t = 6 then (if t < jw_n false M then Option.bind (some (jw_up M t 0 0)) (fun M2 => if 0 ≤ M2 9999 0 ∧ jw_tag (M2 9999 0).toNat = 9 ∧ jw_len (M2 9999 0).toNat = 11 then Option.bind (some (jw_nw M2)) (fun M3 => Option.bind (fX9_init ((M2 9999 0).toNat) M3) (fun M4 => if t < jw_n false M4 ∧ jw_rf t 1 = ((M2 9999 0).toNat) then Option.bind (some (jw_up M4 t 1 1)) (fun M6 => if 0 ≤ M6 9999 0 ∧ jw_tag (M6 9999 0).toNat = 10 ∧ jw_len (M6 9999 0).toNat = 9 then Option.bind (some (jw_nw M6)) (fun M7 => Option.bind (fX10_init ((M6 9999 0).toNat) M7) (fun M8 => if t < jw_n false M8 ∧ jw_rf t 2 = ((M6 9999 0).toNat) then Option.bind (some (jw_up M8 t 2 1)) (fun M10 => if 0 ≤ M10 9999 0 ∧ jw_tag (M10 9999 0).toNat = 3 ∧ jw_len (M10 9999 0).toNat = 7 then Option.bind (some (jw_nw M10)) (fun M11 => Option.bind (fX3_init ((M10 9999 0).toNat) M11) (fun M12 => if t < jw_n false M12 ∧ jw_rf t 3 = ((M10 9999 0).toNat) then Option.bind (some (jw_up M12 t 3 1)) (fun M14 => if 0 ≤ M14 9999 0 ∧ jw_tag (M14 9999 0).toNat = 1 ∧ jw_len (M14 9999 0).toNat = 3 then Option.bind (some (jw_nw M14)) (fun M15 => Option.bind (fX1_init ((M14 9999 0).toNat) M15) (fun M16 => if t < jw_n false M16 ∧ jw_rf t 4 = ((M14 9999 0).toNat) then Option.bind (some (jw_up M16 t 4 1)) (fun M18 => if 0 ≤ M18 9999 0 ∧ jw_tag (M18 9999 0).toNat = 2 ∧ jw_len (M18 9999 0).toNat = 2 then Option.bind (some (jw_nw M18)) (fun M19 => Option.bind (fX2_init ((M18 9999 0).toNat) M19) (fun M20 => if t < jw_n false M20 ∧ jw_rf t 5 = ((M18 9999 0).toNat) then Option.bind (some (jw_up M20 t 5 1)) (fun M22 => some M22) else none)) else none) else none)) else none) else none)) else none) else none)) else none) else none)) else none) else none) else none) else none
set_option maxRecDepth 100000 in
theorem rX7_init (G : jw_G) (t : Nat) (M : jw_M) : jw_Rn G YX7_init 3 26 323 false (fun M1 => (0, M1)) 0 [(0, jR G t)] [] M (fX7_init t M) := by
  unfold fX7_init
  refine jw_ck (fun ht => ?_)
  refine jw_ck (fun hn => ?_)
  refine jw_aloadR (pc := 0) 0 dX7_init_0 rfl ?_
  refine jw_oinit (pc := 1) rfl dX7_init_1 jt_87 jt_28 jt_29 (by decide) (by decide) ?_
  refine jw_aloadR (pc := 4) 0 dX7_init_4 rfl ?_
  refine jw_iconst (pc := 5) dX7_init_5 ?_
  refine jw_ck (fun h1 => ?_)
  refine jw_putZ (pc := 6) (j := 0) tyX7 rfl dX7_init_6 jv_7 ji_7 tyX7_ok nmX7 (Or.inl jt_256) rfl ht hn (by decide) (by decide) h1 rfl rfl (Or.inl rfl) rfl ?_
  refine jw_letM (fun M2 => ?_)
  refine jw_aloadR (pc := 9) 0 dX7_init_9 rfl ?_
  refine jw_new (pc := 10) (kc := 25) (ks := 312) tyX9 rfl dX7_init_10 jv_9 ji_9 tyX9_ok jt_88 jt_89 jt_6 (by decide) (by decide) ?_
  refine jw_letM (fun M3 => ?_)
  refine jw_dup (pc := 13) dX7_init_13 rfl ?_
  refine jw_callIN (pc := 14) (k2 := 6) (s2 := 166) (kc' := 19) (ks' := 146) (As := []) (st := [jR G ((M2 9999 0).toNat), jR G t]) (kk := fun M4 => _) dX7_init_14 ⟨by decide, qX9_init⟩ jt_90 jt_91 rfl rfl rfl rfl (Nat.le_of_ble_eq_true rfl) rfl rfl (kX9_init G ((M2 9999 0).toNat) M3) (fun M4 _ => ?_)
  show jw_Rn G YX7_init 3 19 146 false (fun M1 => (0, M1)) (14 + 3) [(0, jR G t)] [jR G ((M2 9999 0).toNat), jR G t] M4 _
  refine jw_ck (fun h5 => ?_)
  refine jw_putF (pc := 17) (x := 1) (j := 1) tyX7 rfl dX7_init_17 jv_7 ji_7 tyX7_ok nmX7 jt_260 rfl rfl rfl ht hn (by decide) (by decide) h5.1 (jw_fvN (z := 0) ht (by decide) rfl) (jw_fvR ht (by decide) rfl h5.2) rfl rfl ?_
  refine jw_letM (fun M6 => ?_)
  refine jw_aloadR (pc := 20) 0 dX7_init_20 rfl ?_
  refine jw_new (pc := 21) (kc := 18) (ks := 137) tyX10 rfl dX7_init_21 jv_10 ji_10 tyX10_ok jt_140 jt_141 jt_7 (by decide) (by decide) ?_
  refine jw_letM (fun M7 => ?_)
  refine jw_dup (pc := 24) dX7_init_24 rfl ?_
  refine jw_callIN (pc := 25) (k2 := 6) (s2 := 26) (kc' := 12) (ks' := 111) (As := []) (st := [jR G ((M6 9999 0).toNat), jR G t]) (kk := fun M8 => _) dX7_init_25 ⟨by decide, qX10_init⟩ jt_142 jt_143 rfl rfl rfl rfl (Nat.le_of_ble_eq_true rfl) rfl rfl (kX10_init G ((M6 9999 0).toNat) M7) (fun M8 _ => ?_)
  show jw_Rn G YX7_init 3 12 111 false (fun M1 => (0, M1)) (25 + 3) [(0, jR G t)] [jR G ((M6 9999 0).toNat), jR G t] M8 _
  refine jw_ck (fun h9 => ?_)
  refine jw_putF (pc := 28) (x := 1) (j := 2) tyX7 rfl dX7_init_28 jv_7 ji_7 tyX7_ok nmX7 jt_266 rfl rfl rfl ht hn (by decide) (by decide) h9.1 (jw_fvN (z := 0) ht (by decide) rfl) (jw_fvR ht (by decide) rfl h9.2) rfl rfl ?_
  refine jw_letM (fun M10 => ?_)
  refine jw_aloadR (pc := 31) 0 dX7_init_31 rfl ?_
  refine jw_new (pc := 32) (kc := 11) (ks := 104) tyX3 rfl dX7_init_32 jv_3 ji_3 tyX3_ok jt_190 jt_191 jt_8 (by decide) (by decide) ?_
  refine jw_letM (fun M11 => ?_)
  refine jw_dup (pc := 35) dX7_init_35 rfl ?_
  refine jw_callIN (pc := 36) (k2 := 5) (s2 := 42) (kc' := 6) (ks' := 62) (As := []) (st := [jR G ((M10 9999 0).toNat), jR G t]) (kk := fun M12 => _) dX7_init_36 ⟨by decide, qX3_init⟩ jt_192 jt_193 rfl rfl rfl rfl (Nat.le_of_ble_eq_true rfl) rfl rfl (kX3_init G ((M10 9999 0).toNat) M11) (fun M12 _ => ?_)
  show jw_Rn G YX7_init 3 6 62 false (fun M1 => (0, M1)) (36 + 3) [(0, jR G t)] [jR G ((M10 9999 0).toNat), jR G t] M12 _
  refine jw_ck (fun h13 => ?_)
  refine jw_putF (pc := 39) (x := 1) (j := 3) tyX7 rfl dX7_init_39 jv_7 ji_7 tyX7_ok nmX7 jt_271 rfl rfl rfl ht hn (by decide) (by decide) h13.1 (jw_fvN (z := 0) ht (by decide) rfl) (jw_fvR ht (by decide) rfl h13.2) rfl rfl ?_
  refine jw_letM (fun M14 => ?_)
  refine jw_aloadR (pc := 42) 0 dX7_init_42 rfl ?_
  refine jw_new (pc := 43) (kc := 5) (ks := 59) tyX1 rfl dX7_init_43 jv_1 ji_1 tyX1_ok jt_226 jt_227 jt_9 (by decide) (by decide) ?_
  refine jw_letM (fun M15 => ?_)
  refine jw_dup (pc := 46) dX7_init_46 rfl ?_
  refine jw_callIN (pc := 47) (k2 := 2) (s2 := 27) (kc' := 3) (ks' := 32) (As := []) (st := [jR G ((M14 9999 0).toNat), jR G t]) (kk := fun M16 => _) dX7_init_47 ⟨by decide, qX1_init⟩ jt_228 jt_229 rfl rfl rfl rfl (Nat.le_of_ble_eq_true rfl) rfl rfl (kX1_init G ((M14 9999 0).toNat) M15) (fun M16 _ => ?_)
  show jw_Rn G YX7_init 3 3 32 false (fun M1 => (0, M1)) (47 + 3) [(0, jR G t)] [jR G ((M14 9999 0).toNat), jR G t] M16 _
  refine jw_ck (fun h17 => ?_)
  refine jw_putF (pc := 50) (x := 1) (j := 4) tyX7 rfl dX7_init_50 jv_7 ji_7 tyX7_ok nmX7 jt_276 rfl rfl rfl ht hn (by decide) (by decide) h17.1 (jw_fvN (z := 0) ht (by decide) rfl) (jw_fvR ht (by decide) rfl h17.2) rfl rfl ?_
  refine jw_letM (fun M18 => ?_)
  refine jw_aloadR (pc := 53) 0 dX7_init_53 rfl ?_
  refine jw_new (pc := 54) (kc := 2) (ks := 30) tyX2 rfl dX7_init_54 jv_2 ji_2 tyX2_ok jt_243 jt_244 jt_10 (by decide) (by decide) ?_
  refine jw_letM (fun M19 => ?_)
  refine jw_dup (pc := 57) dX7_init_57 rfl ?_
  refine jw_callIN (pc := 58) (k2 := 2) (s2 := 30) (kc' := 0) (ks' := 0) (As := []) (st := [jR G ((M18 9999 0).toNat), jR G t]) (kk := fun M20 => _) dX7_init_58 ⟨by decide, qX2_init⟩ jt_245 jt_246 rfl rfl rfl rfl (Nat.le_of_ble_eq_true rfl) rfl rfl (kX2_init G ((M18 9999 0).toNat) M19) (fun M20 _ => ?_)
  show jw_Rn G YX7_init 3 0 0 false (fun M1 => (0, M1)) (58 + 3) [(0, jR G t)] [jR G ((M18 9999 0).toNat), jR G t] M20 _
  refine jw_ck (fun h21 => ?_)
  refine jw_putF (pc := 61) (x := 1) (j := 5) tyX7 rfl dX7_init_61 jv_7 ji_7 tyX7_ok nmX7 jt_278 rfl rfl rfl ht hn (by decide) (by decide) h21.1 (jw_fvN (z := 0) ht (by decide) rfl) (jw_fvR ht (by decide) rfl h21.2) rfl rfl ?_
  refine jw_letM (fun M22 => ?_)
  exact jw_ret (pc := 64) (v := 0) dX7_init_64 trivial rfl rfl
theorem kX7_init (G : jw_G) (t : Nat) (M : jw_M) : jw_Ct G YX7_init none 3 26 323 false (fun M1 => (0, M1)) yX7_init [jR G t] M (fX7_init t M) := jw_met (by decide) rfl rfl rfl (Nat.le_of_ble_eq_true rfl) (rX7_init G t M)
abbrev YX8_init : jw_Y := (RX8, cX8_init, 2, 0, "<init>")
theorem qX8_init : jw_cy YX8_init none yX8_init 1 := ⟨by decide, jt_298, jt_11, by decide, by decide +kernel⟩
theorem dX8_init_0 : decode cX8_init 0 = .ok (.aload_n 0, 1) := by decide +kernel
theorem dX8_init_1 : decode cX8_init 1 = .ok (.invokespecial 3, 3) := by decide +kernel
theorem dX8_init_4 : decode cX8_init 4 = .ok (.aload_n 0, 1) := by decide +kernel
theorem dX8_init_5 : decode cX8_init 5 = .ok (.iconst 5, 1) := by decide +kernel
theorem dX8_init_6 : decode cX8_init 6 = .ok (.newarray .int, 2) := by decide +kernel
theorem dX8_init_8 : decode cX8_init 8 = .ok (.putfield 9, 3) := by decide +kernel
theorem dX8_init_11 : decode cX8_init 11 = .ok (.aload_n 0, 1) := by decide +kernel
theorem dX8_init_12 : decode cX8_init 12 = .ok (.bipush 28, 2) := by decide +kernel
theorem dX8_init_14 : decode cX8_init 14 = .ok (.newarray .int, 2) := by decide +kernel
theorem dX8_init_16 : decode cX8_init 16 = .ok (.putfield 15, 3) := by decide +kernel
theorem dX8_init_19 : decode cX8_init 19 = .ok (.aload_n 0, 1) := by decide +kernel
theorem dX8_init_20 : decode cX8_init 20 = .ok (.sipush 210, 3) := by decide +kernel
theorem dX8_init_23 : decode cX8_init 23 = .ok (.newarray .int, 2) := by decide +kernel
theorem dX8_init_25 : decode cX8_init 25 = .ok (.putfield 18, 3) := by decide +kernel
theorem dX8_init_28 : decode cX8_init 28 = .ok (.aload_n 0, 1) := by decide +kernel
theorem dX8_init_29 : decode cX8_init 29 = .ok (.aload_n 1, 1) := by decide +kernel
theorem dX8_init_30 : decode cX8_init 30 = .ok (.getfield 21, 3) := by decide +kernel
theorem dX8_init_33 : decode cX8_init 33 = .ok (.putfield 27, 3) := by decide +kernel
theorem dX8_init_36 : decode cX8_init 36 = .ok (.aload_n 0, 1) := by decide +kernel
theorem dX8_init_37 : decode cX8_init 37 = .ok (.aload_n 1, 1) := by decide +kernel
theorem dX8_init_38 : decode cX8_init 38 = .ok (.getfield 28, 3) := by decide +kernel
theorem dX8_init_41 : decode cX8_init 41 = .ok (.putfield 32, 3) := by decide +kernel
theorem dX8_init_44 : decode cX8_init 44 = .ok (.aload_n 0, 1) := by decide +kernel
theorem dX8_init_45 : decode cX8_init 45 = .ok (.aload_n 1, 1) := by decide +kernel
theorem dX8_init_46 : decode cX8_init 46 = .ok (.getfield 33, 3) := by decide +kernel
theorem dX8_init_49 : decode cX8_init 49 = .ok (.putfield 37, 3) := by decide +kernel
theorem dX8_init_52 : decode cX8_init 52 = .ok (.return_, 1) := by decide +kernel
def fX8_init (t : Nat) (a1 : Nat) (M : jw_M) : Option jw_M :=
  if jw_tag a1 = 7 then (if jw_tag t = 8 then (if jw_len t = 9 then (if 0 ≤ M 9999 0 ∧ jw_tag (M 9999 0).toNat = 20 ∧ jw_len (M 9999 0).toNat = 5 then Option.bind (some (jw_nw M)) (fun M1 => if t < jw_n false M1 ∧ jw_rf t 3 = ((M 9999 0).toNat) then Option.bind (some (jw_up M1 t 3 1)) (fun M3 => if 0 ≤ M3 9999 0 ∧ jw_tag (M3 9999 0).toNat = 20 ∧ jw_len (M3 9999 0).toNat = 28 then Option.bind (some (jw_nw M3)) (fun M4 => if t < jw_n false M4 ∧ jw_rf t 4 = ((M3 9999 0).toNat) then Option.bind (some (jw_up M4 t 4 1)) (fun M6 => if 0 ≤ M6 9999 0 ∧ jw_tag (M6 9999 0).toNat = 20 ∧ jw_len (M6 9999 0).toNat = 210 then Option.bind (some (jw_nw M6)) (fun M7 => if t < jw_n false M7 ∧ jw_rf t 5 = ((M6 9999 0).toNat) then Option.bind (some (jw_up M7 t 5 1)) (fun M9 => if a1 < jw_n false M9 ∧ M9 a1 1 = 1 then if t < jw_n false M9 ∧ jw_rf t 0 = (jw_rf a1 1) then Option.bind (some (jw_up M9 t 0 1)) (fun M12 => if a1 < jw_n false M12 ∧ M12 a1 2 = 1 then if t < jw_n false M12 ∧ jw_rf t 1 = (jw_rf a1 2) then Option.bind (some (jw_up M12 t 1 1)) (fun M15 => if a1 < jw_n false M15 ∧ M15 a1 4 = 1 then if t < jw_n false M15 ∧ jw_rf t 2 = (jw_rf a1 4) then Option.bind (some (jw_up M15 t 2 1)) (fun M18 => some M18) else none else none) else none else none) else none else none) else none) else none) else none) else none) else none) else none) else none) else none) else none
set_option maxRecDepth 100000 in
theorem rX8_init (G : jw_G) (t : Nat) (a1 : Nat) (M : jw_M) : jw_Rn G YX8_init 2 3 243 false (fun M1 => (0, M1)) 0 [(0, jR G t), (1, jR G a1)] [] M (fX8_init t a1 M) := by
  unfold fX8_init
  refine jw_ck (fun ha1 => ?_)
  refine jw_ck (fun ht => ?_)
  refine jw_ck (fun hn => ?_)
  refine jw_aloadR (pc := 0) 0 dX8_init_0 rfl ?_
  refine jw_oinit (pc := 1) rfl dX8_init_1 jt_299 jt_28 jt_29 (by decide) (by decide) ?_
  refine jw_aloadR (pc := 4) 0 dX8_init_4 rfl ?_
  refine jw_iconst (pc := 5) dX8_init_5 ?_
  refine jw_newa (pc := 6) (kc := 2) (ks := 238) (c := 20) 0 dX8_init_6 rfl jt_49 rfl (fun _ z => by cases z) rfl (by decide) (by decide) (by decide) (by decide) rfl (jw_rc _ rfl) ?_
  refine jw_letM (fun M1 => ?_)
  refine jw_ck (fun h2 => ?_)
  refine jw_putF (pc := 8) (x := 1) (j := 3) tyX8 rfl dX8_init_8 jv_8 ji_8 tyX8_ok nmX8 jt_303 rfl rfl rfl ht hn (by decide) (by decide) h2.1 (jw_fvN (z := 0) ht (by decide) rfl) (jw_fvR ht (by decide) rfl h2.2) rfl rfl ?_
  refine jw_letM (fun M3 => ?_)
  refine jw_aloadR (pc := 11) 0 dX8_init_11 rfl ?_
  refine jw_bipush (pc := 12) dX8_init_12 rfl ?_
  refine jw_newa (pc := 14) (kc := 1) (ks := 210) (c := 20) 0 dX8_init_14 rfl jt_49 rfl (fun _ z => by cases z) rfl (by decide) (by decide) (by decide) (by decide) rfl (jw_rc _ rfl) ?_
  refine jw_letM (fun M4 => ?_)
  refine jw_ck (fun h5 => ?_)
  refine jw_putF (pc := 16) (x := 1) (j := 4) tyX8 rfl dX8_init_16 jv_8 ji_8 tyX8_ok nmX8 jt_304 rfl rfl rfl ht hn (by decide) (by decide) h5.1 (jw_fvN (z := 0) ht (by decide) rfl) (jw_fvR ht (by decide) rfl h5.2) rfl rfl ?_
  refine jw_letM (fun M6 => ?_)
  refine jw_aloadR (pc := 19) 0 dX8_init_19 rfl ?_
  refine jw_sipush (pc := 20) dX8_init_20 rfl ?_
  refine jw_newa (pc := 23) (kc := 0) (ks := 0) (c := 20) 0 dX8_init_23 rfl jt_49 rfl (fun _ z => by cases z) rfl (by decide) (by decide) (by decide) (by decide) rfl (jw_rc _ rfl) ?_
  refine jw_letM (fun M7 => ?_)
  refine jw_ck (fun h8 => ?_)
  refine jw_putF (pc := 25) (x := 1) (j := 5) tyX8 rfl dX8_init_25 jv_8 ji_8 tyX8_ok nmX8 jt_305 rfl rfl rfl ht hn (by decide) (by decide) h8.1 (jw_fvN (z := 0) ht (by decide) rfl) (jw_fvR ht (by decide) rfl h8.2) rfl rfl ?_
  refine jw_letM (fun M9 => ?_)
  refine jw_aloadR (pc := 28) 0 dX8_init_28 rfl ?_
  refine jw_aloadR (pc := 29) 1 dX8_init_29 rfl ?_
  refine jw_ck (fun h10 => ?_)
  refine jw_getRP (pc := 30) (j := 1) rfl dX8_init_30 jv_7 ji_7 (Or.inr ⟨_, jt_261⟩) ha1 (jn_7 ha1) (by decide) (by decide) h10.1 rfl h10.2 ?_
  refine jw_ck (fun h11 => ?_)
  refine jw_putF (pc := 33) (x := 1) (j := 0) tyX8 rfl dX8_init_33 jv_8 ji_8 tyX8_ok nmX8 jt_300 rfl rfl rfl ht hn (by decide) (by decide) h11.1 (jw_fvN (z := 0) ht (by decide) rfl) (jw_fvR ht (by decide) rfl h11.2) rfl rfl ?_
  refine jw_letM (fun M12 => ?_)
  refine jw_aloadR (pc := 36) 0 dX8_init_36 rfl ?_
  refine jw_aloadR (pc := 37) 1 dX8_init_37 rfl ?_
  refine jw_ck (fun h13 => ?_)
  refine jw_getRP (pc := 38) (j := 2) rfl dX8_init_38 jv_7 ji_7 (Or.inr ⟨_, jt_267⟩) ha1 (jn_7 ha1) (by decide) (by decide) h13.1 rfl h13.2 ?_
  refine jw_ck (fun h14 => ?_)
  refine jw_putF (pc := 41) (x := 1) (j := 1) tyX8 rfl dX8_init_41 jv_8 ji_8 tyX8_ok nmX8 jt_301 rfl rfl rfl ht hn (by decide) (by decide) h14.1 (jw_fvN (z := 0) ht (by decide) rfl) (jw_fvR ht (by decide) rfl h14.2) rfl rfl ?_
  refine jw_letM (fun M15 => ?_)
  refine jw_aloadR (pc := 44) 0 dX8_init_44 rfl ?_
  refine jw_aloadR (pc := 45) 1 dX8_init_45 rfl ?_
  refine jw_ck (fun h16 => ?_)
  refine jw_getRP (pc := 46) (j := 4) rfl dX8_init_46 jv_7 ji_7 (Or.inr ⟨_, jt_275⟩) ha1 (jn_7 ha1) (by decide) (by decide) h16.1 rfl h16.2 ?_
  refine jw_ck (fun h17 => ?_)
  refine jw_putF (pc := 49) (x := 1) (j := 2) tyX8 rfl dX8_init_49 jv_8 ji_8 tyX8_ok nmX8 jt_302 rfl rfl rfl ht hn (by decide) (by decide) h17.1 (jw_fvN (z := 0) ht (by decide) rfl) (jw_fvR ht (by decide) rfl h17.2) rfl rfl ?_
  refine jw_letM (fun M18 => ?_)
  exact jw_ret (pc := 52) (v := 0) dX8_init_52 trivial rfl rfl
theorem kX8_init (G : jw_G) (t : Nat) (a1 : Nat) (M : jw_M) : jw_Ct G YX8_init none 2 3 243 false (fun M1 => (0, M1)) yX8_init [jR G t, jR G a1] M (fX8_init t a1 M) := jw_met (by decide) rfl rfl rfl (Nat.le_of_ble_eq_true rfl) (rX8_init G t a1 M)
abbrev YX11_init : jw_Y := (RX11, cX11_init, 2, 0, "<init>")
theorem qX11_init : jw_cy YX11_init none yX11_init 0 := ⟨by decide, jt_26, jt_1, by decide, by decide +kernel⟩
theorem dX11_init_0 : decode cX11_init 0 = .ok (.aload_n 0, 1) := by decide +kernel
theorem dX11_init_1 : decode cX11_init 1 = .ok (.invokespecial 3, 3) := by decide +kernel
theorem dX11_init_4 : decode cX11_init 4 = .ok (.aload_n 0, 1) := by decide +kernel
theorem dX11_init_5 : decode cX11_init 5 = .ok (.new 9, 3) := by decide +kernel
theorem dX11_init_8 : decode cX11_init 8 = .ok (.dup, 1) := by decide +kernel
theorem dX11_init_9 : decode cX11_init 9 = .ok (.invokespecial 11, 3) := by decide +kernel
theorem dX11_init_12 : decode cX11_init 12 = .ok (.putfield 12, 3) := by decide +kernel
theorem dX11_init_15 : decode cX11_init 15 = .ok (.aload_n 0, 1) := by decide +kernel
theorem dX11_init_16 : decode cX11_init 16 = .ok (.new 16, 3) := by decide +kernel
theorem dX11_init_19 : decode cX11_init 19 = .ok (.dup, 1) := by decide +kernel
theorem dX11_init_20 : decode cX11_init 20 = .ok (.invokespecial 18, 3) := by decide +kernel
theorem dX11_init_23 : decode cX11_init 23 = .ok (.putfield 19, 3) := by decide +kernel
theorem dX11_init_26 : decode cX11_init 26 = .ok (.aload_n 0, 1) := by decide +kernel
theorem dX11_init_27 : decode cX11_init 27 = .ok (.new 23, 3) := by decide +kernel
theorem dX11_init_30 : decode cX11_init 30 = .ok (.dup, 1) := by decide +kernel
theorem dX11_init_31 : decode cX11_init 31 = .ok (.invokespecial 25, 3) := by decide +kernel
theorem dX11_init_34 : decode cX11_init 34 = .ok (.putfield 26, 3) := by decide +kernel
theorem dX11_init_37 : decode cX11_init 37 = .ok (.aload_n 0, 1) := by decide +kernel
theorem dX11_init_38 : decode cX11_init 38 = .ok (.new 23, 3) := by decide +kernel
theorem dX11_init_41 : decode cX11_init 41 = .ok (.dup, 1) := by decide +kernel
theorem dX11_init_42 : decode cX11_init 42 = .ok (.invokespecial 25, 3) := by decide +kernel
theorem dX11_init_45 : decode cX11_init 45 = .ok (.putfield 30, 3) := by decide +kernel
theorem dX11_init_48 : decode cX11_init 48 = .ok (.aload_n 0, 1) := by decide +kernel
theorem dX11_init_49 : decode cX11_init 49 = .ok (.iconst 2, 1) := by decide +kernel
theorem dX11_init_50 : decode cX11_init 50 = .ok (.anewarray 23, 3) := by decide +kernel
theorem dX11_init_53 : decode cX11_init 53 = .ok (.putfield 33, 3) := by decide +kernel
theorem dX11_init_56 : decode cX11_init 56 = .ok (.iconst 0, 1) := by decide +kernel
theorem dX11_init_57 : decode cX11_init 57 = .ok (.istore_n 1, 1) := by decide +kernel
theorem dX11_init_58 : decode cX11_init 58 = .ok (.iload_n 1, 1) := by decide +kernel
theorem dX11_init_59 : decode cX11_init 59 = .ok (.iconst 2, 1) := by decide +kernel
theorem dX11_init_60 : decode cX11_init 60 = .ok (.if_icmp .ge 22, 3) := by decide +kernel
theorem dX11_init_63 : decode cX11_init 63 = .ok (.aload_n 0, 1) := by decide +kernel
theorem dX11_init_64 : decode cX11_init 64 = .ok (.getfield 33, 3) := by decide +kernel
theorem dX11_init_67 : decode cX11_init 67 = .ok (.iload_n 1, 1) := by decide +kernel
theorem dX11_init_68 : decode cX11_init 68 = .ok (.new 23, 3) := by decide +kernel
theorem dX11_init_71 : decode cX11_init 71 = .ok (.dup, 1) := by decide +kernel
theorem dX11_init_72 : decode cX11_init 72 = .ok (.invokespecial 25, 3) := by decide +kernel
theorem dX11_init_75 : decode cX11_init 75 = .ok (.aastore, 1) := by decide +kernel
theorem dX11_init_76 : decode cX11_init 76 = .ok (.iinc 1 1, 3) := by decide +kernel
theorem dX11_init_79 : decode cX11_init 79 = .ok (.goto (-21), 3) := by decide +kernel
theorem dX11_init_82 : decode cX11_init 82 = .ok (.aload_n 0, 1) := by decide +kernel
theorem dX11_init_83 : decode cX11_init 83 = .ok (.iconst 2, 1) := by decide +kernel
theorem dX11_init_84 : decode cX11_init 84 = .ok (.newarray .boolean, 2) := by decide +kernel
theorem dX11_init_86 : decode cX11_init 86 = .ok (.putfield 37, 3) := by decide +kernel
theorem dX11_init_89 : decode cX11_init 89 = .ok (.aload_n 0, 1) := by decide +kernel
theorem dX11_init_90 : decode cX11_init 90 = .ok (.new 41, 3) := by decide +kernel
theorem dX11_init_93 : decode cX11_init 93 = .ok (.dup, 1) := by decide +kernel
theorem dX11_init_94 : decode cX11_init 94 = .ok (.aload_n 0, 1) := by decide +kernel
theorem dX11_init_95 : decode cX11_init 95 = .ok (.getfield 26, 3) := by decide +kernel
theorem dX11_init_98 : decode cX11_init 98 = .ok (.invokespecial 43, 3) := by decide +kernel
theorem dX11_init_101 : decode cX11_init 101 = .ok (.putfield 46, 3) := by decide +kernel
theorem dX11_init_104 : decode cX11_init 104 = .ok (.aload_n 0, 1) := by decide +kernel
theorem dX11_init_105 : decode cX11_init 105 = .ok (.new 50, 3) := by decide +kernel
theorem dX11_init_108 : decode cX11_init 108 = .ok (.dup, 1) := by decide +kernel
theorem dX11_init_109 : decode cX11_init 109 = .ok (.aload_n 0, 1) := by decide +kernel
theorem dX11_init_110 : decode cX11_init 110 = .ok (.getfield 26, 3) := by decide +kernel
theorem dX11_init_113 : decode cX11_init 113 = .ok (.invokespecial 52, 3) := by decide +kernel
theorem dX11_init_116 : decode cX11_init 116 = .ok (.putfield 53, 3) := by decide +kernel
theorem dX11_init_119 : decode cX11_init 119 = .ok (.aload_n 0, 1) := by decide +kernel
theorem dX11_init_120 : decode cX11_init 120 = .ok (.new 57, 3) := by decide +kernel
theorem dX11_init_123 : decode cX11_init 123 = .ok (.dup, 1) := by decide +kernel
theorem dX11_init_124 : decode cX11_init 124 = .ok (.aload_n 0, 1) := by decide +kernel
theorem dX11_init_125 : decode cX11_init 125 = .ok (.getfield 26, 3) := by decide +kernel
theorem dX11_init_128 : decode cX11_init 128 = .ok (.invokespecial 59, 3) := by decide +kernel
theorem dX11_init_131 : decode cX11_init 131 = .ok (.putfield 60, 3) := by decide +kernel
theorem dX11_init_134 : decode cX11_init 134 = .ok (.aload_n 0, 1) := by decide +kernel
theorem dX11_init_135 : decode cX11_init 135 = .ok (.iconst 0, 1) := by decide +kernel
theorem dX11_init_136 : decode cX11_init 136 = .ok (.putfield 64, 3) := by decide +kernel
theorem dX11_init_139 : decode cX11_init 139 = .ok (.aload_n 0, 1) := by decide +kernel
theorem dX11_init_140 : decode cX11_init 140 = .ok (.iconst 0, 1) := by decide +kernel
theorem dX11_init_141 : decode cX11_init 141 = .ok (.putfield 68, 3) := by decide +kernel
theorem dX11_init_144 : decode cX11_init 144 = .ok (.return_, 1) := by decide +kernel
def fX11_init (t : Nat) (M : jw_M) : Option jw_M :=
  if jw_tag t = 11 then (if jw_len t = 11 then (if 0 ≤ M 9999 0 ∧ jw_tag (M 9999 0).toNat = 6 ∧ jw_len (M 9999 0).toNat = 3 then Option.bind (some (jw_nw M)) (fun M1 => Option.bind (fX6_init ((M 9999 0).toNat) M1) (fun M2 => if t < jw_n false M2 ∧ jw_rf t 0 = ((M 9999 0).toNat) then Option.bind (some (jw_up M2 t 0 1)) (fun M4 => if 0 ≤ M4 9999 0 ∧ jw_tag (M4 9999 0).toNat = 4 ∧ jw_len (M4 9999 0).toNat = 8 then Option.bind (some (jw_nw M4)) (fun M5 => Option.bind (fX4_init ((M4 9999 0).toNat) M5) (fun M6 => if t < jw_n false M6 ∧ jw_rf t 1 = ((M4 9999 0).toNat) then Option.bind (some (jw_up M6 t 1 1)) (fun M8 => if 0 ≤ M8 9999 0 ∧ jw_tag (M8 9999 0).toNat = 7 ∧ jw_len (M8 9999 0).toNat = 6 then Option.bind (some (jw_nw M8)) (fun M9 => Option.bind (fX7_init ((M8 9999 0).toNat) M9) (fun M10 => if t < jw_n false M10 ∧ jw_rf t 2 = ((M8 9999 0).toNat) then Option.bind (some (jw_up M10 t 2 1)) (fun M12 => if 0 ≤ M12 9999 0 ∧ jw_tag (M12 9999 0).toNat = 7 ∧ jw_len (M12 9999 0).toNat = 6 then Option.bind (some (jw_nw M12)) (fun M13 => Option.bind (fX7_init ((M12 9999 0).toNat) M13) (fun M14 => if t < jw_n false M14 ∧ jw_rf t 3 = ((M12 9999 0).toNat) then Option.bind (some (jw_up M14 t 3 1)) (fun M16 => if 0 ≤ M16 9999 0 ∧ jw_tag (M16 9999 0).toNat = 23 ∧ jw_len (M16 9999 0).toNat = 2 then Option.bind (some (jw_nw M16)) (fun M17 => if t < jw_n false M17 ∧ jw_rf t 4 = ((M16 9999 0).toNat) then Option.bind (some (jw_up M17 t 4 1)) (fun M19 => if (0 : Int) < 2 then if t < jw_n false M19 ∧ M19 t 4 = 1 then if 0 ≤ M19 9999 0 ∧ jw_tag (M19 9999 0).toNat = 7 ∧ jw_len (M19 9999 0).toNat = 6 then Option.bind (some (jw_nw M19)) (fun M21 => Option.bind (fX7_init ((M19 9999 0).toNat) M21) (fun M22 => if (0 ≤ (0 : Int) ∧ (0 : Int) < 2) ∧ jw_tag (jw_rf t 4) = 23 ∧ jw_len (jw_rf t 4) = 2 ∧ jw_tag ((M19 9999 0).toNat) = 7 ∧ jw_len ((M19 9999 0).toNat) = 6 ∧ (jw_rf t 4) < jw_n false M22 ∧ ((M19 9999 0).toNat) < jw_n false M22 ∧ jw_rf (jw_rf t 4) ((0 : Int)).toNat = ((M19 9999 0).toNat) then Option.bind (some (jw_up M22 (jw_rf t 4) 0 1)) (fun M23 => if jw_w (0 + 1) < 2 then if t < jw_n false M23 ∧ M23 t 4 = 1 then if 0 ≤ M23 9999 0 ∧ jw_tag (M23 9999 0).toNat = 7 ∧ jw_len (M23 9999 0).toNat = 6 then Option.bind (some (jw_nw M23)) (fun M25 => Option.bind (fX7_init ((M23 9999 0).toNat) M25) (fun M26 => if (0 ≤ jw_w (0 + 1) ∧ jw_w (0 + 1) < 2) ∧ jw_tag (jw_rf t 4) = 23 ∧ jw_len (jw_rf t 4) = 2 ∧ jw_tag ((M23 9999 0).toNat) = 7 ∧ jw_len ((M23 9999 0).toNat) = 6 ∧ (jw_rf t 4) < jw_n false M26 ∧ ((M23 9999 0).toNat) < jw_n false M26 ∧ jw_rf (jw_rf t 4) (jw_w (0 + 1)).toNat = ((M23 9999 0).toNat) then Option.bind (some (jw_up M26 (jw_rf t 4) (jw_w (0 + 1)) 1)) (fun M27 => if jw_w ((jw_w (0 + 1)) + 1) < 2 then none else (if 0 ≤ M27 9999 0 ∧ jw_tag (M27 9999 0).toNat = 22 ∧ jw_len (M27 9999 0).toNat = 2 then Option.bind (some (jw_nw M27)) (fun M28 => if t < jw_n false M28 ∧ jw_rf t 5 = ((M27 9999 0).toNat) then Option.bind (some (jw_up M28 t 5 1)) (fun M30 => if 0 ≤ M30 9999 0 ∧ jw_tag (M30 9999 0).toNat = 8 ∧ jw_len (M30 9999 0).toNat = 9 then Option.bind (some (jw_nw M30)) (fun M31 => if t < jw_n false M31 ∧ M31 t 2 = 1 then Option.bind (fX8_init ((M30 9999 0).toNat) (jw_rf t 2) M31) (fun M33 => if t < jw_n false M33 ∧ jw_rf t 6 = ((M30 9999 0).toNat) then Option.bind (some (jw_up M33 t 6 1)) (fun M35 => if 0 ≤ M35 9999 0 ∧ jw_tag (M35 9999 0).toNat = 5 ∧ jw_len (M35 9999 0).toNat = 6 then Option.bind (some (jw_nw M35)) (fun M36 => if t < jw_n false M36 ∧ M36 t 2 = 1 then Option.bind (fX5_init ((M35 9999 0).toNat) (jw_rf t 2) M36) (fun M38 => if t < jw_n false M38 ∧ jw_rf t 7 = ((M35 9999 0).toNat) then Option.bind (some (jw_up M38 t 7 1)) (fun M40 => if 0 ≤ M40 9999 0 ∧ jw_tag (M40 9999 0).toNat = 0 ∧ jw_len (M40 9999 0).toNat = 3 then Option.bind (some (jw_nw M40)) (fun M41 => if t < jw_n false M41 ∧ M41 t 2 = 1 then Option.bind (fX0_init ((M40 9999 0).toNat) (jw_rf t 2) M41) (fun M43 => if t < jw_n false M43 ∧ jw_rf t 8 = ((M40 9999 0).toNat) then Option.bind (some (jw_up M43 t 8 1)) (fun M45 => if t < jw_n false M45 then Option.bind (some (jw_up M45 t 9 0)) (fun M47 => if t < jw_n false M47 then Option.bind (some (jw_up M47 t 10 0)) (fun M49 => some M49) else none) else none) else none) else none) else none) else none) else none) else none) else none) else none) else none) else none) else none)) else none)) else none else none else none) else none)) else none else none else none) else none) else none) else none)) else none) else none)) else none) else none)) else none) else none)) else none) else none) else none
set_option maxRecDepth 100000 in
theorem rX11_init (G : jw_G) (t : Nat) (M : jw_M) : jw_Rn G YX11_init 4 126 2618 false (fun M1 => (0, M1)) 0 [(0, jR G t)] [] M (fX11_init t M) := by
  unfold fX11_init
  refine jw_ck (fun ht => ?_)
  refine jw_ck (fun hn => ?_)
  refine jw_aloadR (pc := 0) 0 dX11_init_0 rfl ?_
  refine jw_oinit (pc := 1) rfl dX11_init_1 jt_27 jt_28 jt_29 (by decide) (by decide) ?_
  refine jw_aloadR (pc := 4) 0 dX11_init_4 rfl ?_
  refine jw_new (pc := 5) (kc := 125) (ks := 2615) tyX6 rfl dX11_init_5 jv_6 ji_6 tyX6_ok jt_30 jt_31 jt_2 (by decide) (by decide) ?_
  refine jw_letM (fun M1 => ?_)
  refine jw_dup (pc := 8) dX11_init_8 rfl ?_
  refine jw_callI (pc := 9) (k2 := 3) (s2 := 336) (kc' := 122) (ks' := 2279) (As := []) (st := [jR G ((M 9999 0).toNat), jR G t]) (kk := fun M2 => _) dX11_init_9 ⟨by decide, qX6_init⟩ jt_32 jt_33 rfl rfl rfl rfl (Nat.le_of_ble_eq_true rfl) rfl rfl (kX6_init G ((M 9999 0).toNat) M1) (fun M2 _ => ?_)
  show jw_Rn G YX11_init 4 122 2279 false (fun M1 => (0, M1)) (9 + 3) [(0, jR G t)] [jR G ((M 9999 0).toNat), jR G t] M2 _
  refine jw_ck (fun h3 => ?_)
  refine jw_putF (pc := 12) (x := 1) (j := 0) tyX11 rfl dX11_init_12 jv_11 ji_11 tyX11_ok nmX11 jt_372 rfl rfl rfl ht hn (by decide) (by decide) h3.1 (jw_fvN (z := 0) ht (by decide) rfl) (jw_fvR ht (by decide) rfl h3.2) rfl rfl ?_
  refine jw_letM (fun M4 => ?_)
  refine jw_aloadR (pc := 15) 0 dX11_init_15 rfl ?_
  refine jw_new (pc := 16) (kc := 121) (ks := 2271) tyX4 rfl dX11_init_16 jv_4 ji_4 tyX4_ok jt_50 jt_51 jt_4 (by decide) (by decide) ?_
  refine jw_letM (fun M5 => ?_)
  refine jw_dup (pc := 19) dX11_init_19 rfl ?_
  refine jw_callIN (pc := 20) (k2 := 3) (s2 := 610) (kc' := 118) (ks' := 1661) (As := []) (st := [jR G ((M4 9999 0).toNat), jR G t]) (kk := fun M6 => _) dX11_init_20 ⟨by decide, qX4_init⟩ jt_52 jt_53 rfl rfl rfl rfl (Nat.le_of_ble_eq_true rfl) rfl rfl (kX4_init G ((M4 9999 0).toNat) M5) (fun M6 _ => ?_)
  show jw_Rn G YX11_init 4 118 1661 false (fun M1 => (0, M1)) (20 + 3) [(0, jR G t)] [jR G ((M4 9999 0).toNat), jR G t] M6 _
  refine jw_ck (fun h7 => ?_)
  refine jw_putF (pc := 23) (x := 1) (j := 1) tyX11 rfl dX11_init_23 jv_11 ji_11 tyX11_ok nmX11 jt_373 rfl rfl rfl ht hn (by decide) (by decide) h7.1 (jw_fvN (z := 0) ht (by decide) rfl) (jw_fvR ht (by decide) rfl h7.2) rfl rfl ?_
  refine jw_letM (fun M8 => ?_)
  refine jw_aloadR (pc := 26) 0 dX11_init_26 rfl ?_
  refine jw_new (pc := 27) (kc := 117) (ks := 1655) tyX7 rfl dX11_init_27 jv_7 ji_7 tyX7_ok jt_82 jt_83 jt_5 (by decide) (by decide) ?_
  refine jw_letM (fun M9 => ?_)
  refine jw_dup (pc := 30) dX11_init_30 rfl ?_
  refine jw_callIN (pc := 31) (k2 := 26) (s2 := 323) (kc' := 91) (ks' := 1332) (As := []) (st := [jR G ((M8 9999 0).toNat), jR G t]) (kk := fun M10 => _) dX11_init_31 ⟨by decide, qX7_init⟩ jt_84 jt_85 rfl rfl rfl rfl (Nat.le_of_ble_eq_true rfl) rfl rfl (kX7_init G ((M8 9999 0).toNat) M9) (fun M10 _ => ?_)
  show jw_Rn G YX11_init 4 91 1332 false (fun M1 => (0, M1)) (31 + 3) [(0, jR G t)] [jR G ((M8 9999 0).toNat), jR G t] M10 _
  refine jw_ck (fun h11 => ?_)
  refine jw_putF (pc := 34) (x := 1) (j := 2) tyX11 rfl dX11_init_34 jv_11 ji_11 tyX11_ok nmX11 jt_374 rfl rfl rfl ht hn (by decide) (by decide) h11.1 (jw_fvN (z := 0) ht (by decide) rfl) (jw_fvR ht (by decide) rfl h11.2) rfl rfl ?_
  refine jw_letM (fun M12 => ?_)
  refine jw_aloadR (pc := 37) 0 dX11_init_37 rfl ?_
  refine jw_new (pc := 38) (kc := 90) (ks := 1326) tyX7 rfl dX11_init_38 jv_7 ji_7 tyX7_ok jt_82 jt_83 jt_5 (by decide) (by decide) ?_
  refine jw_letM (fun M13 => ?_)
  refine jw_dup (pc := 41) dX11_init_41 rfl ?_
  refine jw_callIN (pc := 42) (k2 := 26) (s2 := 323) (kc' := 64) (ks' := 1003) (As := []) (st := [jR G ((M12 9999 0).toNat), jR G t]) (kk := fun M14 => _) dX11_init_42 ⟨by decide, qX7_init⟩ jt_84 jt_85 rfl rfl rfl rfl (Nat.le_of_ble_eq_true rfl) rfl rfl (kX7_init G ((M12 9999 0).toNat) M13) (fun M14 _ => ?_)
  show jw_Rn G YX11_init 4 64 1003 false (fun M1 => (0, M1)) (42 + 3) [(0, jR G t)] [jR G ((M12 9999 0).toNat), jR G t] M14 _
  refine jw_ck (fun h15 => ?_)
  refine jw_putF (pc := 45) (x := 1) (j := 3) tyX11 rfl dX11_init_45 jv_11 ji_11 tyX11_ok nmX11 jt_375 rfl rfl rfl ht hn (by decide) (by decide) h15.1 (jw_fvN (z := 0) ht (by decide) rfl) (jw_fvR ht (by decide) rfl h15.2) rfl rfl ?_
  refine jw_letM (fun M16 => ?_)
  refine jw_aloadR (pc := 48) 0 dX11_init_48 rfl ?_
  refine jw_iconst (pc := 49) dX11_init_49 ?_
  refine jw_newq (pc := 50) (kc := 63) (ks := 1001) rfl dX11_init_50 jt_82 (by decide) rfl (jw_rc _ rfl) ?_
  refine jw_letM (fun M17 => ?_)
  refine jw_ck (fun h18 => ?_)
  refine jw_putF (pc := 53) (x := 1) (j := 4) tyX11 rfl dX11_init_53 jv_11 ji_11 tyX11_ok nmX11 jt_376 rfl rfl rfl ht hn (by decide) (by decide) h18.1 (jw_fvN (z := 0) ht (by decide) rfl) (jw_fvR ht (by decide) rfl h18.2) rfl rfl ?_
  refine jw_letM (fun M19 => ?_)
  refine jw_iconst (pc := 56) dX11_init_56 ?_
  refine jw_istore_n (pc := 57) (lv' := [(1, jI 0), (0, jR G t)]) dX11_init_57 (by decide) rfl ?_
  refine jw_iload_n (pc := 58) 0 dX11_init_58 rfl ?_
  refine jw_iconst (pc := 59) dX11_init_59 ?_
  refine jw_ic_ge (pc := 60) 82 dX11_init_60 (by decide) (jw_rc _ rfl) (jw_rc _ rfl) (fun _ => ?_) (fun _ => ?_)
  rotate_left
  · exact jw_none
  refine jw_aloadR (pc := 63) 1 dX11_init_63 rfl ?_
  refine jw_ck (fun h20 => ?_)
  refine jw_getRP (pc := 64) (j := 4) rfl dX11_init_64 jv_11 ji_11 (Or.inl jt_376) ht hn (by decide) (by decide) h20.1 rfl h20.2 ?_
  refine jw_iload_n (pc := 67) 0 dX11_init_67 rfl ?_
  refine jw_new (pc := 68) (kc := 62) (ks := 995) tyX7 rfl dX11_init_68 jv_7 ji_7 tyX7_ok jt_82 jt_83 jt_5 (by decide) (by decide) ?_
  refine jw_letM (fun M21 => ?_)
  refine jw_dup (pc := 71) dX11_init_71 rfl ?_
  refine jw_callIN (pc := 72) (k2 := 26) (s2 := 323) (kc' := 36) (ks' := 672) (As := []) (st := [jR G ((M19 9999 0).toNat), jI 0, jR G (jw_rf t 4)]) (kk := fun M22 => _) dX11_init_72 ⟨by decide, qX7_init⟩ jt_84 jt_85 rfl rfl rfl rfl (Nat.le_of_ble_eq_true rfl) rfl rfl (kX7_init G ((M19 9999 0).toNat) M21) (fun M22 _ => ?_)
  show jw_Rn G YX11_init 4 36 672 false (fun M1 => (0, M1)) (72 + 3) [(1, jI 0), (0, jR G t)] [jR G ((M19 9999 0).toNat), jI 0, jR G (jw_rf t 4)] M22 _
  refine jw_aast (pc := 75) (n := 2) dX11_init_75 jv_7 rfl (by decide) (jw_rc _ rfl) rfl ?_
  refine jw_letM (fun M23 => ?_)
  refine jw_iinc (pc := 76) 0 (lv' := [(1, jI (jw_w (0 + 1))), (0, jR G t)]) dX11_init_76 rfl (by decide) rfl ?_
  refine jw_goto (pc := 79) 58 dX11_init_79 (by decide) ?_
  refine jw_iload_n (pc := 58) 0 dX11_init_58 rfl ?_
  refine jw_iconst (pc := 59) dX11_init_59 ?_
  refine jw_ic_ge (pc := 60) 82 dX11_init_60 (by decide) (jw_wr _) (jw_rc _ rfl) (fun _ => ?_) (fun _ => ?_)
  rotate_left
  · exact jw_none
  refine jw_aloadR (pc := 63) 1 dX11_init_63 rfl ?_
  refine jw_ck (fun h24 => ?_)
  refine jw_getRP (pc := 64) (j := 4) rfl dX11_init_64 jv_11 ji_11 (Or.inl jt_376) ht hn (by decide) (by decide) h24.1 rfl h24.2 ?_
  refine jw_iload_n (pc := 67) 0 dX11_init_67 rfl ?_
  refine jw_new (pc := 68) (kc := 35) (ks := 666) tyX7 rfl dX11_init_68 jv_7 ji_7 tyX7_ok jt_82 jt_83 jt_5 (by decide) (by decide) ?_
  refine jw_letM (fun M25 => ?_)
  refine jw_dup (pc := 71) dX11_init_71 rfl ?_
  refine jw_callIN (pc := 72) (k2 := 26) (s2 := 323) (kc' := 9) (ks' := 343) (As := []) (st := [jR G ((M23 9999 0).toNat), jI (jw_w (0 + 1)), jR G (jw_rf t 4)]) (kk := fun M26 => _) dX11_init_72 ⟨by decide, qX7_init⟩ jt_84 jt_85 rfl rfl rfl rfl (Nat.le_of_ble_eq_true rfl) rfl rfl (kX7_init G ((M23 9999 0).toNat) M25) (fun M26 _ => ?_)
  show jw_Rn G YX11_init 4 9 343 false (fun M1 => (0, M1)) (72 + 3) [(1, jI (jw_w (0 + 1))), (0, jR G t)] [jR G ((M23 9999 0).toNat), jI (jw_w (0 + 1)), jR G (jw_rf t 4)] M26 _
  refine jw_aast (pc := 75) (n := 2) dX11_init_75 jv_7 rfl (by decide) (jw_wr _) rfl ?_
  refine jw_letM (fun M27 => ?_)
  refine jw_iinc (pc := 76) 0 (lv' := [(1, jI (jw_w ((jw_w (0 + 1)) + 1))), (0, jR G t)]) dX11_init_76 rfl (by decide) rfl ?_
  refine jw_goto (pc := 79) 58 dX11_init_79 (by decide) ?_
  refine jw_iload_n (pc := 58) 0 dX11_init_58 rfl ?_
  refine jw_iconst (pc := 59) dX11_init_59 ?_
  refine jw_ic_ge (pc := 60) 82 dX11_init_60 (by decide) (jw_wr _) (jw_rc _ rfl) (fun _ => ?_) (fun _ => ?_)
  · exact jw_none
  refine jw_aloadR (pc := 82) 1 dX11_init_82 rfl ?_
  refine jw_iconst (pc := 83) dX11_init_83 ?_
  refine jw_newa (pc := 84) (kc := 8) (ks := 341) (c := 22) 2 dX11_init_84 rfl jt_328 rfl (fun _ z => by cases z) rfl (by decide) (by decide) (by decide) (by decide) rfl (jw_rc _ rfl) ?_
  refine jw_letM (fun M28 => ?_)
  refine jw_ck (fun h29 => ?_)
  refine jw_putF (pc := 86) (x := 1) (j := 5) tyX11 rfl dX11_init_86 jv_11 ji_11 tyX11_ok nmX11 jt_377 rfl rfl rfl ht hn (by decide) (by decide) h29.1 (jw_fvN (z := 0) ht (by decide) rfl) (jw_fvR ht (by decide) rfl h29.2) rfl rfl ?_
  refine jw_letM (fun M30 => ?_)
  refine jw_aloadR (pc := 89) 1 dX11_init_89 rfl ?_
  refine jw_new (pc := 90) (kc := 7) (ks := 332) tyX8 rfl dX11_init_90 jv_8 ji_8 tyX8_ok jt_294 jt_295 jt_11 (by decide) (by decide) ?_
  refine jw_letM (fun M31 => ?_)
  refine jw_dup (pc := 93) dX11_init_93 rfl ?_
  refine jw_aloadR (pc := 94) 1 dX11_init_94 rfl ?_
  refine jw_ck (fun h32 => ?_)
  refine jw_getRP (pc := 95) (j := 2) rfl dX11_init_95 jv_11 ji_11 (Or.inl jt_374) ht hn (by decide) (by decide) h32.1 rfl h32.2 ?_
  refine jw_callI (pc := 98) (k2 := 3) (s2 := 243) (kc' := 4) (ks' := 89) (As := [jR G (jw_rf t 2)]) (st := [jR G ((M30 9999 0).toNat), jR G t]) (kk := fun M33 => _) dX11_init_98 ⟨by decide, qX8_init⟩ jt_296 jt_297 rfl rfl rfl rfl (Nat.le_of_ble_eq_true rfl) rfl rfl (kX8_init G ((M30 9999 0).toNat) (jw_rf t 2) M31) (fun M33 _ => ?_)
  show jw_Rn G YX11_init 4 4 89 false (fun M1 => (0, M1)) (98 + 3) [(1, jI (jw_w ((jw_w (0 + 1)) + 1))), (0, jR G t)] [jR G ((M30 9999 0).toNat), jR G t] M33 _
  refine jw_ck (fun h34 => ?_)
  refine jw_putF (pc := 101) (x := 1) (j := 6) tyX11 rfl dX11_init_101 jv_11 ji_11 tyX11_ok nmX11 jt_378 rfl rfl rfl ht hn (by decide) (by decide) h34.1 (jw_fvN (z := 0) ht (by decide) rfl) (jw_fvR ht (by decide) rfl h34.2) rfl rfl ?_
  refine jw_letM (fun M35 => ?_)
  refine jw_aloadR (pc := 104) 1 dX11_init_104 rfl ?_
  refine jw_new (pc := 105) (kc := 3) (ks := 83) tyX5 rfl dX11_init_105 jv_5 ji_5 tyX5_ok jt_329 jt_330 jt_12 (by decide) (by decide) ?_
  refine jw_letM (fun M36 => ?_)
  refine jw_dup (pc := 108) dX11_init_108 rfl ?_
  refine jw_aloadR (pc := 109) 1 dX11_init_109 rfl ?_
  refine jw_ck (fun h37 => ?_)
  refine jw_getRP (pc := 110) (j := 2) rfl dX11_init_110 jv_11 ji_11 (Or.inl jt_374) ht hn (by decide) (by decide) h37.1 rfl h37.2 ?_
  refine jw_callI (pc := 113) (k2 := 1) (s2 := 64) (kc' := 2) (ks' := 19) (As := [jR G (jw_rf t 2)]) (st := [jR G ((M35 9999 0).toNat), jR G t]) (kk := fun M38 => _) dX11_init_113 ⟨by decide, qX5_init⟩ jt_331 jt_332 rfl rfl rfl rfl (Nat.le_of_ble_eq_true rfl) rfl rfl (kX5_init G ((M35 9999 0).toNat) (jw_rf t 2) M36) (fun M38 _ => ?_)
  show jw_Rn G YX11_init 4 2 19 false (fun M1 => (0, M1)) (113 + 3) [(1, jI (jw_w ((jw_w (0 + 1)) + 1))), (0, jR G t)] [jR G ((M35 9999 0).toNat), jR G t] M38 _
  refine jw_ck (fun h39 => ?_)
  refine jw_putF (pc := 116) (x := 1) (j := 7) tyX11 rfl dX11_init_116 jv_11 ji_11 tyX11_ok nmX11 jt_379 rfl rfl rfl ht hn (by decide) (by decide) h39.1 (jw_fvN (z := 0) ht (by decide) rfl) (jw_fvR ht (by decide) rfl h39.2) rfl rfl ?_
  refine jw_letM (fun M40 => ?_)
  refine jw_aloadR (pc := 119) 1 dX11_init_119 rfl ?_
  refine jw_new (pc := 120) (kc := 1) (ks := 16) tyX0 rfl dX11_init_120 jv_0 ji_0 tyX0_ok jt_356 jt_357 jt_13 (by decide) (by decide) ?_
  refine jw_letM (fun M41 => ?_)
  refine jw_dup (pc := 123) dX11_init_123 rfl ?_
  refine jw_aloadR (pc := 124) 1 dX11_init_124 rfl ?_
  refine jw_ck (fun h42 => ?_)
  refine jw_getRP (pc := 125) (j := 2) rfl dX11_init_125 jv_11 ji_11 (Or.inl jt_374) ht hn (by decide) (by decide) h42.1 rfl h42.2 ?_
  refine jw_callI (pc := 128) (k2 := 1) (s2 := 16) (kc' := 0) (ks' := 0) (As := [jR G (jw_rf t 2)]) (st := [jR G ((M40 9999 0).toNat), jR G t]) (kk := fun M43 => _) dX11_init_128 ⟨by decide, qX0_init⟩ jt_358 jt_359 rfl rfl rfl rfl (Nat.le_of_ble_eq_true rfl) rfl rfl (kX0_init G ((M40 9999 0).toNat) (jw_rf t 2) M41) (fun M43 _ => ?_)
  show jw_Rn G YX11_init 4 0 0 false (fun M1 => (0, M1)) (128 + 3) [(1, jI (jw_w ((jw_w (0 + 1)) + 1))), (0, jR G t)] [jR G ((M40 9999 0).toNat), jR G t] M43 _
  refine jw_ck (fun h44 => ?_)
  refine jw_putF (pc := 131) (x := 1) (j := 8) tyX11 rfl dX11_init_131 jv_11 ji_11 tyX11_ok nmX11 jt_380 rfl rfl rfl ht hn (by decide) (by decide) h44.1 (jw_fvN (z := 0) ht (by decide) rfl) (jw_fvR ht (by decide) rfl h44.2) rfl rfl ?_
  refine jw_letM (fun M45 => ?_)
  refine jw_aloadR (pc := 134) 1 dX11_init_134 rfl ?_
  refine jw_iconst (pc := 135) dX11_init_135 ?_
  refine jw_ck (fun h46 => ?_)
  refine jw_putI (pc := 136) (j := 9) tyX11 rfl dX11_init_136 jv_11 ji_11 tyX11_ok nmX11 (Or.inl jt_381) rfl ht hn (by decide) (by decide) h46 rfl rfl (jw_rc _ rfl) rfl ?_
  refine jw_letM (fun M47 => ?_)
  refine jw_aloadR (pc := 139) 1 dX11_init_139 rfl ?_
  refine jw_iconst (pc := 140) dX11_init_140 ?_
  refine jw_ck (fun h48 => ?_)
  refine jw_putI (pc := 141) (j := 10) tyX11 rfl dX11_init_141 jv_11 ji_11 tyX11_ok nmX11 (Or.inl jt_382) rfl ht hn (by decide) (by decide) h48 rfl rfl (jw_rc _ rfl) rfl ?_
  refine jw_letM (fun M49 => ?_)
  exact jw_ret (pc := 144) (v := 0) dX11_init_144 trivial rfl rfl
theorem kX11_init (G : jw_G) (t : Nat) (M : jw_M) : jw_Ct G YX11_init none 4 126 2618 false (fun M1 => (0, M1)) yX11_init [jR G t] M (fX11_init t M) := jw_met (by decide) rfl rfl rfl (Nat.le_of_ble_eq_true rfl) (rX11_init G t M)
abbrev YX12_init : jw_Y := (RX12, cX12_init, 1, 0, "<init>")
theorem qX12_init : jw_cy YX12_init none yX12_init 0 := ⟨by decide, jt_1229, jt_14, by decide, by decide +kernel⟩
theorem dX12_init_0 : decode cX12_init 0 = .ok (.aload_n 0, 1) := by decide +kernel
theorem dX12_init_1 : decode cX12_init 1 = .ok (.invokespecial 3, 3) := by decide +kernel
theorem dX12_init_4 : decode cX12_init 4 = .ok (.aload_n 0, 1) := by decide +kernel
theorem dX12_init_5 : decode cX12_init 5 = .ok (.bipush 8, 2) := by decide +kernel
theorem dX12_init_7 : decode cX12_init 7 = .ok (.newarray .int, 2) := by decide +kernel
theorem dX12_init_9 : decode cX12_init 9 = .ok (.dup, 1) := by decide +kernel
theorem dX12_init_10 : decode cX12_init 10 = .ok (.iconst 0, 1) := by decide +kernel
theorem dX12_init_11 : decode cX12_init 11 = .ok (.iconst (-1), 1) := by decide +kernel
theorem dX12_init_12 : decode cX12_init 12 = .ok (.iastore, 1) := by decide +kernel
theorem dX12_init_13 : decode cX12_init 13 = .ok (.dup, 1) := by decide +kernel
theorem dX12_init_14 : decode cX12_init 14 = .ok (.iconst 1, 1) := by decide +kernel
theorem dX12_init_15 : decode cX12_init 15 = .ok (.iconst (-1), 1) := by decide +kernel
theorem dX12_init_16 : decode cX12_init 16 = .ok (.iastore, 1) := by decide +kernel
theorem dX12_init_17 : decode cX12_init 17 = .ok (.dup, 1) := by decide +kernel
theorem dX12_init_18 : decode cX12_init 18 = .ok (.iconst 2, 1) := by decide +kernel
theorem dX12_init_19 : decode cX12_init 19 = .ok (.iconst (-1), 1) := by decide +kernel
theorem dX12_init_20 : decode cX12_init 20 = .ok (.iastore, 1) := by decide +kernel
theorem dX12_init_21 : decode cX12_init 21 = .ok (.dup, 1) := by decide +kernel
theorem dX12_init_22 : decode cX12_init 22 = .ok (.iconst 3, 1) := by decide +kernel
theorem dX12_init_23 : decode cX12_init 23 = .ok (.iconst (-1), 1) := by decide +kernel
theorem dX12_init_24 : decode cX12_init 24 = .ok (.iastore, 1) := by decide +kernel
theorem dX12_init_25 : decode cX12_init 25 = .ok (.dup, 1) := by decide +kernel
theorem dX12_init_26 : decode cX12_init 26 = .ok (.iconst 4, 1) := by decide +kernel
theorem dX12_init_27 : decode cX12_init 27 = .ok (.iconst (-1), 1) := by decide +kernel
theorem dX12_init_28 : decode cX12_init 28 = .ok (.iastore, 1) := by decide +kernel
theorem dX12_init_29 : decode cX12_init 29 = .ok (.dup, 1) := by decide +kernel
theorem dX12_init_30 : decode cX12_init 30 = .ok (.iconst 5, 1) := by decide +kernel
theorem dX12_init_31 : decode cX12_init 31 = .ok (.iconst (-1), 1) := by decide +kernel
theorem dX12_init_32 : decode cX12_init 32 = .ok (.iastore, 1) := by decide +kernel
theorem dX12_init_33 : decode cX12_init 33 = .ok (.dup, 1) := by decide +kernel
theorem dX12_init_34 : decode cX12_init 34 = .ok (.bipush 6, 2) := by decide +kernel
theorem dX12_init_36 : decode cX12_init 36 = .ok (.iconst (-1), 1) := by decide +kernel
theorem dX12_init_37 : decode cX12_init 37 = .ok (.iastore, 1) := by decide +kernel
theorem dX12_init_38 : decode cX12_init 38 = .ok (.dup, 1) := by decide +kernel
theorem dX12_init_39 : decode cX12_init 39 = .ok (.bipush 7, 2) := by decide +kernel
theorem dX12_init_41 : decode cX12_init 41 = .ok (.iconst (-1), 1) := by decide +kernel
theorem dX12_init_42 : decode cX12_init 42 = .ok (.iastore, 1) := by decide +kernel
theorem dX12_init_43 : decode cX12_init 43 = .ok (.putfield 9, 3) := by decide +kernel
theorem dX12_init_46 : decode cX12_init 46 = .ok (.aload_n 0, 1) := by decide +kernel
theorem dX12_init_47 : decode cX12_init 47 = .ok (.bipush 8, 2) := by decide +kernel
theorem dX12_init_49 : decode cX12_init 49 = .ok (.newarray .int, 2) := by decide +kernel
theorem dX12_init_51 : decode cX12_init 51 = .ok (.putfield 13, 3) := by decide +kernel
theorem dX12_init_54 : decode cX12_init 54 = .ok (.aload_n 0, 1) := by decide +kernel
theorem dX12_init_55 : decode cX12_init 55 = .ok (.sipush 320, 3) := by decide +kernel
theorem dX12_init_58 : decode cX12_init 58 = .ok (.newarray .int, 2) := by decide +kernel
theorem dX12_init_60 : decode cX12_init 60 = .ok (.putfield 16, 3) := by decide +kernel
theorem dX12_init_63 : decode cX12_init 63 = .ok (.aload_n 0, 1) := by decide +kernel
theorem dX12_init_64 : decode cX12_init 64 = .ok (.bipush 104, 2) := by decide +kernel
theorem dX12_init_66 : decode cX12_init 66 = .ok (.newarray .int, 2) := by decide +kernel
theorem dX12_init_68 : decode cX12_init 68 = .ok (.putfield 19, 3) := by decide +kernel
theorem dX12_init_71 : decode cX12_init 71 = .ok (.aload_n 0, 1) := by decide +kernel
theorem dX12_init_72 : decode cX12_init 72 = .ok (.bipush 104, 2) := by decide +kernel
theorem dX12_init_74 : decode cX12_init 74 = .ok (.newarray .int, 2) := by decide +kernel
theorem dX12_init_76 : decode cX12_init 76 = .ok (.putfield 22, 3) := by decide +kernel
theorem dX12_init_79 : decode cX12_init 79 = .ok (.aload_n 0, 1) := by decide +kernel
theorem dX12_init_80 : decode cX12_init 80 = .ok (.bipush 104, 2) := by decide +kernel
theorem dX12_init_82 : decode cX12_init 82 = .ok (.newarray .int, 2) := by decide +kernel
theorem dX12_init_84 : decode cX12_init 84 = .ok (.putfield 25, 3) := by decide +kernel
theorem dX12_init_87 : decode cX12_init 87 = .ok (.aload_n 0, 1) := by decide +kernel
theorem dX12_init_88 : decode cX12_init 88 = .ok (.sipush 600, 3) := by decide +kernel
theorem dX12_init_91 : decode cX12_init 91 = .ok (.newarray .int, 2) := by decide +kernel
theorem dX12_init_93 : decode cX12_init 93 = .ok (.putfield 28, 3) := by decide +kernel
theorem dX12_init_96 : decode cX12_init 96 = .ok (.aload_n 0, 1) := by decide +kernel
theorem dX12_init_97 : decode cX12_init 97 = .ok (.bipush 49, 2) := by decide +kernel
theorem dX12_init_99 : decode cX12_init 99 = .ok (.newarray .int, 2) := by decide +kernel
theorem dX12_init_101 : decode cX12_init 101 = .ok (.putfield 31, 3) := by decide +kernel
theorem dX12_init_104 : decode cX12_init 104 = .ok (.aload_n 0, 1) := by decide +kernel
theorem dX12_init_105 : decode cX12_init 105 = .ok (.bipush 49, 2) := by decide +kernel
theorem dX12_init_107 : decode cX12_init 107 = .ok (.newarray .int, 2) := by decide +kernel
theorem dX12_init_109 : decode cX12_init 109 = .ok (.putfield 34, 3) := by decide +kernel
theorem dX12_init_112 : decode cX12_init 112 = .ok (.aload_n 0, 1) := by decide +kernel
theorem dX12_init_113 : decode cX12_init 113 = .ok (.bipush 7, 2) := by decide +kernel
theorem dX12_init_115 : decode cX12_init 115 = .ok (.newarray .int, 2) := by decide +kernel
theorem dX12_init_117 : decode cX12_init 117 = .ok (.putfield 37, 3) := by decide +kernel
theorem dX12_init_120 : decode cX12_init 120 = .ok (.aload_n 0, 1) := by decide +kernel
theorem dX12_init_121 : decode cX12_init 121 = .ok (.iconst 5, 1) := by decide +kernel
theorem dX12_init_122 : decode cX12_init 122 = .ok (.newarray .int, 2) := by decide +kernel
theorem dX12_init_124 : decode cX12_init 124 = .ok (.putfield 40, 3) := by decide +kernel
theorem dX12_init_127 : decode cX12_init 127 = .ok (.aload_n 0, 1) := by decide +kernel
theorem dX12_init_128 : decode cX12_init 128 = .ok (.iconst 5, 1) := by decide +kernel
theorem dX12_init_129 : decode cX12_init 129 = .ok (.newarray .int, 2) := by decide +kernel
theorem dX12_init_131 : decode cX12_init 131 = .ok (.putfield 43, 3) := by decide +kernel
theorem dX12_init_134 : decode cX12_init 134 = .ok (.aload_n 0, 1) := by decide +kernel
theorem dX12_init_135 : decode cX12_init 135 = .ok (.iconst 5, 1) := by decide +kernel
theorem dX12_init_136 : decode cX12_init 136 = .ok (.newarray .int, 2) := by decide +kernel
theorem dX12_init_138 : decode cX12_init 138 = .ok (.putfield 46, 3) := by decide +kernel
theorem dX12_init_141 : decode cX12_init 141 = .ok (.aload_n 0, 1) := by decide +kernel
theorem dX12_init_142 : decode cX12_init 142 = .ok (.sipush 196, 3) := by decide +kernel
theorem dX12_init_145 : decode cX12_init 145 = .ok (.newarray .int, 2) := by decide +kernel
theorem dX12_init_147 : decode cX12_init 147 = .ok (.putfield 49, 3) := by decide +kernel
theorem dX12_init_150 : decode cX12_init 150 = .ok (.aload_n 0, 1) := by decide +kernel
theorem dX12_init_151 : decode cX12_init 151 = .ok (.bipush 14, 2) := by decide +kernel
theorem dX12_init_153 : decode cX12_init 153 = .ok (.newarray .int, 2) := by decide +kernel
theorem dX12_init_155 : decode cX12_init 155 = .ok (.putfield 52, 3) := by decide +kernel
theorem dX12_init_158 : decode cX12_init 158 = .ok (.aload_n 0, 1) := by decide +kernel
theorem dX12_init_159 : decode cX12_init 159 = .ok (.iconst 5, 1) := by decide +kernel
theorem dX12_init_160 : decode cX12_init 160 = .ok (.newarray .int, 2) := by decide +kernel
theorem dX12_init_162 : decode cX12_init 162 = .ok (.putfield 55, 3) := by decide +kernel
theorem dX12_init_165 : decode cX12_init 165 = .ok (.aload_n 0, 1) := by decide +kernel
theorem dX12_init_166 : decode cX12_init 166 = .ok (.iconst 2, 1) := by decide +kernel
theorem dX12_init_167 : decode cX12_init 167 = .ok (.newarray .boolean, 2) := by decide +kernel
theorem dX12_init_169 : decode cX12_init 169 = .ok (.putfield 58, 3) := by decide +kernel
theorem dX12_init_172 : decode cX12_init 172 = .ok (.aload_n 0, 1) := by decide +kernel
theorem dX12_init_173 : decode cX12_init 173 = .ok (.sipush 208, 3) := by decide +kernel
theorem dX12_init_176 : decode cX12_init 176 = .ok (.newarray .int, 2) := by decide +kernel
theorem dX12_init_178 : decode cX12_init 178 = .ok (.putfield 62, 3) := by decide +kernel
theorem dX12_init_181 : decode cX12_init 181 = .ok (.aload_n 0, 1) := by decide +kernel
theorem dX12_init_182 : decode cX12_init 182 = .ok (.sipush 208, 3) := by decide +kernel
theorem dX12_init_185 : decode cX12_init 185 = .ok (.newarray .int, 2) := by decide +kernel
theorem dX12_init_187 : decode cX12_init 187 = .ok (.putfield 65, 3) := by decide +kernel
theorem dX12_init_190 : decode cX12_init 190 = .ok (.aload_n 0, 1) := by decide +kernel
theorem dX12_init_191 : decode cX12_init 191 = .ok (.bipush 16, 2) := by decide +kernel
theorem dX12_init_193 : decode cX12_init 193 = .ok (.newarray .int, 2) := by decide +kernel
theorem dX12_init_195 : decode cX12_init 195 = .ok (.putfield 68, 3) := by decide +kernel
theorem dX12_init_198 : decode cX12_init 198 = .ok (.return_, 1) := by decide +kernel
def fX12_init (t : Nat) (M : jw_M) : Option jw_M :=
  if jw_tag t = 12 then (if jw_len t = 35 then (if 0 ≤ M 9999 0 ∧ jw_tag (M 9999 0).toNat = 20 ∧ jw_len (M 9999 0).toNat = 8 then Option.bind (some (jw_nw M)) (fun M1 => if ((M 9999 0).toNat) < jw_n false M1 ∧ jw_tag ((M 9999 0).toNat) = 20 ∧ jw_len ((M 9999 0).toNat) = 8 then if 0 ≤ (0 : Int) ∧ (0 : Int) < 8 then Option.bind (some (jw_up M1 ((M 9999 0).toNat) 0 (-1))) (fun M3 => if ((M 9999 0).toNat) < jw_n false M3 ∧ jw_tag ((M 9999 0).toNat) = 20 ∧ jw_len ((M 9999 0).toNat) = 8 then if 0 ≤ (1 : Int) ∧ (1 : Int) < 8 then Option.bind (some (jw_up M3 ((M 9999 0).toNat) 1 (-1))) (fun M5 => if ((M 9999 0).toNat) < jw_n false M5 ∧ jw_tag ((M 9999 0).toNat) = 20 ∧ jw_len ((M 9999 0).toNat) = 8 then if 0 ≤ (2 : Int) ∧ (2 : Int) < 8 then Option.bind (some (jw_up M5 ((M 9999 0).toNat) 2 (-1))) (fun M7 => if ((M 9999 0).toNat) < jw_n false M7 ∧ jw_tag ((M 9999 0).toNat) = 20 ∧ jw_len ((M 9999 0).toNat) = 8 then if 0 ≤ (3 : Int) ∧ (3 : Int) < 8 then Option.bind (some (jw_up M7 ((M 9999 0).toNat) 3 (-1))) (fun M9 => if ((M 9999 0).toNat) < jw_n false M9 ∧ jw_tag ((M 9999 0).toNat) = 20 ∧ jw_len ((M 9999 0).toNat) = 8 then if 0 ≤ (4 : Int) ∧ (4 : Int) < 8 then Option.bind (some (jw_up M9 ((M 9999 0).toNat) 4 (-1))) (fun M11 => if ((M 9999 0).toNat) < jw_n false M11 ∧ jw_tag ((M 9999 0).toNat) = 20 ∧ jw_len ((M 9999 0).toNat) = 8 then if 0 ≤ (5 : Int) ∧ (5 : Int) < 8 then Option.bind (some (jw_up M11 ((M 9999 0).toNat) 5 (-1))) (fun M13 => if ((M 9999 0).toNat) < jw_n false M13 ∧ jw_tag ((M 9999 0).toNat) = 20 ∧ jw_len ((M 9999 0).toNat) = 8 then if 0 ≤ (6 : Int) ∧ (6 : Int) < 8 then Option.bind (some (jw_up M13 ((M 9999 0).toNat) 6 (-1))) (fun M15 => if ((M 9999 0).toNat) < jw_n false M15 ∧ jw_tag ((M 9999 0).toNat) = 20 ∧ jw_len ((M 9999 0).toNat) = 8 then if 0 ≤ (7 : Int) ∧ (7 : Int) < 8 then Option.bind (some (jw_up M15 ((M 9999 0).toNat) 7 (-1))) (fun M17 => if t < jw_n false M17 ∧ jw_rf t 2 = ((M 9999 0).toNat) then Option.bind (some (jw_up M17 t 2 1)) (fun M19 => if 0 ≤ M19 9999 0 ∧ jw_tag (M19 9999 0).toNat = 20 ∧ jw_len (M19 9999 0).toNat = 8 then Option.bind (some (jw_nw M19)) (fun M20 => if t < jw_n false M20 ∧ jw_rf t 3 = ((M19 9999 0).toNat) then Option.bind (some (jw_up M20 t 3 1)) (fun M22 => if 0 ≤ M22 9999 0 ∧ jw_tag (M22 9999 0).toNat = 20 ∧ jw_len (M22 9999 0).toNat = 320 then Option.bind (some (jw_nw M22)) (fun M23 => if t < jw_n false M23 ∧ jw_rf t 4 = ((M22 9999 0).toNat) then Option.bind (some (jw_up M23 t 4 1)) (fun M25 => if 0 ≤ M25 9999 0 ∧ jw_tag (M25 9999 0).toNat = 20 ∧ jw_len (M25 9999 0).toNat = 104 then Option.bind (some (jw_nw M25)) (fun M26 => if t < jw_n false M26 ∧ jw_rf t 5 = ((M25 9999 0).toNat) then Option.bind (some (jw_up M26 t 5 1)) (fun M28 => if 0 ≤ M28 9999 0 ∧ jw_tag (M28 9999 0).toNat = 20 ∧ jw_len (M28 9999 0).toNat = 104 then Option.bind (some (jw_nw M28)) (fun M29 => if t < jw_n false M29 ∧ jw_rf t 6 = ((M28 9999 0).toNat) then Option.bind (some (jw_up M29 t 6 1)) (fun M31 => if 0 ≤ M31 9999 0 ∧ jw_tag (M31 9999 0).toNat = 20 ∧ jw_len (M31 9999 0).toNat = 104 then Option.bind (some (jw_nw M31)) (fun M32 => if t < jw_n false M32 ∧ jw_rf t 8 = ((M31 9999 0).toNat) then Option.bind (some (jw_up M32 t 8 1)) (fun M34 => if 0 ≤ M34 9999 0 ∧ jw_tag (M34 9999 0).toNat = 20 ∧ jw_len (M34 9999 0).toNat = 600 then Option.bind (some (jw_nw M34)) (fun M35 => if t < jw_n false M35 ∧ jw_rf t 9 = ((M34 9999 0).toNat) then Option.bind (some (jw_up M35 t 9 1)) (fun M37 => if 0 ≤ M37 9999 0 ∧ jw_tag (M37 9999 0).toNat = 20 ∧ jw_len (M37 9999 0).toNat = 49 then Option.bind (some (jw_nw M37)) (fun M38 => if t < jw_n false M38 ∧ jw_rf t 19 = ((M37 9999 0).toNat) then Option.bind (some (jw_up M38 t 19 1)) (fun M40 => if 0 ≤ M40 9999 0 ∧ jw_tag (M40 9999 0).toNat = 20 ∧ jw_len (M40 9999 0).toNat = 49 then Option.bind (some (jw_nw M40)) (fun M41 => if t < jw_n false M41 ∧ jw_rf t 20 = ((M40 9999 0).toNat) then Option.bind (some (jw_up M41 t 20 1)) (fun M43 => if 0 ≤ M43 9999 0 ∧ jw_tag (M43 9999 0).toNat = 20 ∧ jw_len (M43 9999 0).toNat = 7 then Option.bind (some (jw_nw M43)) (fun M44 => if t < jw_n false M44 ∧ jw_rf t 21 = ((M43 9999 0).toNat) then Option.bind (some (jw_up M44 t 21 1)) (fun M46 => if 0 ≤ M46 9999 0 ∧ jw_tag (M46 9999 0).toNat = 20 ∧ jw_len (M46 9999 0).toNat = 5 then Option.bind (some (jw_nw M46)) (fun M47 => if t < jw_n false M47 ∧ jw_rf t 22 = ((M46 9999 0).toNat) then Option.bind (some (jw_up M47 t 22 1)) (fun M49 => if 0 ≤ M49 9999 0 ∧ jw_tag (M49 9999 0).toNat = 20 ∧ jw_len (M49 9999 0).toNat = 5 then Option.bind (some (jw_nw M49)) (fun M50 => if t < jw_n false M50 ∧ jw_rf t 23 = ((M49 9999 0).toNat) then Option.bind (some (jw_up M50 t 23 1)) (fun M52 => if 0 ≤ M52 9999 0 ∧ jw_tag (M52 9999 0).toNat = 20 ∧ jw_len (M52 9999 0).toNat = 5 then Option.bind (some (jw_nw M52)) (fun M53 => if t < jw_n false M53 ∧ jw_rf t 24 = ((M52 9999 0).toNat) then Option.bind (some (jw_up M53 t 24 1)) (fun M55 => if 0 ≤ M55 9999 0 ∧ jw_tag (M55 9999 0).toNat = 20 ∧ jw_len (M55 9999 0).toNat = 196 then Option.bind (some (jw_nw M55)) (fun M56 => if t < jw_n false M56 ∧ jw_rf t 25 = ((M55 9999 0).toNat) then Option.bind (some (jw_up M56 t 25 1)) (fun M58 => if 0 ≤ M58 9999 0 ∧ jw_tag (M58 9999 0).toNat = 20 ∧ jw_len (M58 9999 0).toNat = 14 then Option.bind (some (jw_nw M58)) (fun M59 => if t < jw_n false M59 ∧ jw_rf t 26 = ((M58 9999 0).toNat) then Option.bind (some (jw_up M59 t 26 1)) (fun M61 => if 0 ≤ M61 9999 0 ∧ jw_tag (M61 9999 0).toNat = 20 ∧ jw_len (M61 9999 0).toNat = 5 then Option.bind (some (jw_nw M61)) (fun M62 => if t < jw_n false M62 ∧ jw_rf t 29 = ((M61 9999 0).toNat) then Option.bind (some (jw_up M62 t 29 1)) (fun M64 => if 0 ≤ M64 9999 0 ∧ jw_tag (M64 9999 0).toNat = 22 ∧ jw_len (M64 9999 0).toNat = 2 then Option.bind (some (jw_nw M64)) (fun M65 => if t < jw_n false M65 ∧ jw_rf t 30 = ((M64 9999 0).toNat) then Option.bind (some (jw_up M65 t 30 1)) (fun M67 => if 0 ≤ M67 9999 0 ∧ jw_tag (M67 9999 0).toNat = 20 ∧ jw_len (M67 9999 0).toNat = 208 then Option.bind (some (jw_nw M67)) (fun M68 => if t < jw_n false M68 ∧ jw_rf t 31 = ((M67 9999 0).toNat) then Option.bind (some (jw_up M68 t 31 1)) (fun M70 => if 0 ≤ M70 9999 0 ∧ jw_tag (M70 9999 0).toNat = 20 ∧ jw_len (M70 9999 0).toNat = 208 then Option.bind (some (jw_nw M70)) (fun M71 => if t < jw_n false M71 ∧ jw_rf t 32 = ((M70 9999 0).toNat) then Option.bind (some (jw_up M71 t 32 1)) (fun M73 => if 0 ≤ M73 9999 0 ∧ jw_tag (M73 9999 0).toNat = 20 ∧ jw_len (M73 9999 0).toNat = 16 then Option.bind (some (jw_nw M73)) (fun M74 => if t < jw_n false M74 ∧ jw_rf t 33 = ((M73 9999 0).toNat) then Option.bind (some (jw_up M74 t 33 1)) (fun M76 => some M76) else none) else none) else none) else none) else none) else none) else none) else none) else none) else none) else none) else none) else none) else none) else none) else none) else none) else none) else none) else none) else none) else none) else none) else none) else none) else none) else none) else none) else none) else none) else none) else none) else none) else none) else none) else none) else none) else none) else none) else none else none) else none else none) else none else none) else none else none) else none else none) else none else none) else none else none) else none else none) else none) else none) else none
set_option maxRecDepth 100000 in
theorem rX12_init (G : jw_G) (t : Nat) (M : jw_M) : jw_Rn G YX12_init 2 20 2017 false (fun M1 => (0, M1)) 0 [(0, jR G t)] [] M (fX12_init t M) := by
  unfold fX12_init
  refine jw_ck (fun ht => ?_)
  refine jw_ck (fun hn => ?_)
  refine jw_aloadR (pc := 0) 0 dX12_init_0 rfl ?_
  refine jw_oinit (pc := 1) rfl dX12_init_1 jt_1230 jt_28 jt_29 (by decide) (by decide) ?_
  refine jw_aloadR (pc := 4) 0 dX12_init_4 rfl ?_
  refine jw_bipush (pc := 5) dX12_init_5 rfl ?_
  refine jw_newa (pc := 7) (kc := 19) (ks := 2009) (c := 20) 0 dX12_init_7 rfl jt_49 rfl (fun _ z => by cases z) rfl (by decide) (by decide) (by decide) (by decide) rfl (jw_rc _ rfl) ?_
  refine jw_letM (fun M1 => ?_)
  refine jw_dup (pc := 9) dX12_init_9 rfl ?_
  refine jw_iconst (pc := 10) dX12_init_10 ?_
  refine jw_iconst (pc := 11) dX12_init_11 ?_
  refine jw_ck (fun h2 => ?_)
  refine jw_iast (pc := 12) dX12_init_12 h2.2.1 h2.2.2 h2.1 (jw_rc _ rfl) (jw_rc _ rfl) rfl ?_
  refine jw_letM (fun M3 => ?_)
  refine jw_dup (pc := 13) dX12_init_13 rfl ?_
  refine jw_iconst (pc := 14) dX12_init_14 ?_
  refine jw_iconst (pc := 15) dX12_init_15 ?_
  refine jw_ck (fun h4 => ?_)
  refine jw_iast (pc := 16) dX12_init_16 h4.2.1 h4.2.2 h4.1 (jw_rc _ rfl) (jw_rc _ rfl) rfl ?_
  refine jw_letM (fun M5 => ?_)
  refine jw_dup (pc := 17) dX12_init_17 rfl ?_
  refine jw_iconst (pc := 18) dX12_init_18 ?_
  refine jw_iconst (pc := 19) dX12_init_19 ?_
  refine jw_ck (fun h6 => ?_)
  refine jw_iast (pc := 20) dX12_init_20 h6.2.1 h6.2.2 h6.1 (jw_rc _ rfl) (jw_rc _ rfl) rfl ?_
  refine jw_letM (fun M7 => ?_)
  refine jw_dup (pc := 21) dX12_init_21 rfl ?_
  refine jw_iconst (pc := 22) dX12_init_22 ?_
  refine jw_iconst (pc := 23) dX12_init_23 ?_
  refine jw_ck (fun h8 => ?_)
  refine jw_iast (pc := 24) dX12_init_24 h8.2.1 h8.2.2 h8.1 (jw_rc _ rfl) (jw_rc _ rfl) rfl ?_
  refine jw_letM (fun M9 => ?_)
  refine jw_dup (pc := 25) dX12_init_25 rfl ?_
  refine jw_iconst (pc := 26) dX12_init_26 ?_
  refine jw_iconst (pc := 27) dX12_init_27 ?_
  refine jw_ck (fun h10 => ?_)
  refine jw_iast (pc := 28) dX12_init_28 h10.2.1 h10.2.2 h10.1 (jw_rc _ rfl) (jw_rc _ rfl) rfl ?_
  refine jw_letM (fun M11 => ?_)
  refine jw_dup (pc := 29) dX12_init_29 rfl ?_
  refine jw_iconst (pc := 30) dX12_init_30 ?_
  refine jw_iconst (pc := 31) dX12_init_31 ?_
  refine jw_ck (fun h12 => ?_)
  refine jw_iast (pc := 32) dX12_init_32 h12.2.1 h12.2.2 h12.1 (jw_rc _ rfl) (jw_rc _ rfl) rfl ?_
  refine jw_letM (fun M13 => ?_)
  refine jw_dup (pc := 33) dX12_init_33 rfl ?_
  refine jw_bipush (pc := 34) dX12_init_34 rfl ?_
  refine jw_iconst (pc := 36) dX12_init_36 ?_
  refine jw_ck (fun h14 => ?_)
  refine jw_iast (pc := 37) dX12_init_37 h14.2.1 h14.2.2 h14.1 (jw_rc _ rfl) (jw_rc _ rfl) rfl ?_
  refine jw_letM (fun M15 => ?_)
  refine jw_dup (pc := 38) dX12_init_38 rfl ?_
  refine jw_bipush (pc := 39) dX12_init_39 rfl ?_
  refine jw_iconst (pc := 41) dX12_init_41 ?_
  refine jw_ck (fun h16 => ?_)
  refine jw_iast (pc := 42) dX12_init_42 h16.2.1 h16.2.2 h16.1 (jw_rc _ rfl) (jw_rc _ rfl) rfl ?_
  refine jw_letM (fun M17 => ?_)
  refine jw_ck (fun h18 => ?_)
  refine jw_putF (pc := 43) (x := 1) (j := 2) tyX12 rfl dX12_init_43 jv_12 ji_12 tyX12_ok nmX12 jt_1233 rfl rfl rfl ht hn (by decide) (by decide) h18.1 (jw_fvN (z := 0) ht (by decide) rfl) (jw_fvR ht (by decide) rfl h18.2) rfl rfl ?_
  refine jw_letM (fun M19 => ?_)
  refine jw_aloadR (pc := 46) 0 dX12_init_46 rfl ?_
  refine jw_bipush (pc := 47) dX12_init_47 rfl ?_
  refine jw_newa (pc := 49) (kc := 18) (ks := 2001) (c := 20) 0 dX12_init_49 rfl jt_49 rfl (fun _ z => by cases z) rfl (by decide) (by decide) (by decide) (by decide) rfl (jw_rc _ rfl) ?_
  refine jw_letM (fun M20 => ?_)
  refine jw_ck (fun h21 => ?_)
  refine jw_putF (pc := 51) (x := 1) (j := 3) tyX12 rfl dX12_init_51 jv_12 ji_12 tyX12_ok nmX12 jt_1234 rfl rfl rfl ht hn (by decide) (by decide) h21.1 (jw_fvN (z := 0) ht (by decide) rfl) (jw_fvR ht (by decide) rfl h21.2) rfl rfl ?_
  refine jw_letM (fun M22 => ?_)
  refine jw_aloadR (pc := 54) 0 dX12_init_54 rfl ?_
  refine jw_sipush (pc := 55) dX12_init_55 rfl ?_
  refine jw_newa (pc := 58) (kc := 17) (ks := 1681) (c := 20) 0 dX12_init_58 rfl jt_49 rfl (fun _ z => by cases z) rfl (by decide) (by decide) (by decide) (by decide) rfl (jw_rc _ rfl) ?_
  refine jw_letM (fun M23 => ?_)
  refine jw_ck (fun h24 => ?_)
  refine jw_putF (pc := 60) (x := 1) (j := 4) tyX12 rfl dX12_init_60 jv_12 ji_12 tyX12_ok nmX12 jt_1235 rfl rfl rfl ht hn (by decide) (by decide) h24.1 (jw_fvN (z := 0) ht (by decide) rfl) (jw_fvR ht (by decide) rfl h24.2) rfl rfl ?_
  refine jw_letM (fun M25 => ?_)
  refine jw_aloadR (pc := 63) 0 dX12_init_63 rfl ?_
  refine jw_bipush (pc := 64) dX12_init_64 rfl ?_
  refine jw_newa (pc := 66) (kc := 16) (ks := 1577) (c := 20) 0 dX12_init_66 rfl jt_49 rfl (fun _ z => by cases z) rfl (by decide) (by decide) (by decide) (by decide) rfl (jw_rc _ rfl) ?_
  refine jw_letM (fun M26 => ?_)
  refine jw_ck (fun h27 => ?_)
  refine jw_putF (pc := 68) (x := 1) (j := 5) tyX12 rfl dX12_init_68 jv_12 ji_12 tyX12_ok nmX12 jt_1236 rfl rfl rfl ht hn (by decide) (by decide) h27.1 (jw_fvN (z := 0) ht (by decide) rfl) (jw_fvR ht (by decide) rfl h27.2) rfl rfl ?_
  refine jw_letM (fun M28 => ?_)
  refine jw_aloadR (pc := 71) 0 dX12_init_71 rfl ?_
  refine jw_bipush (pc := 72) dX12_init_72 rfl ?_
  refine jw_newa (pc := 74) (kc := 15) (ks := 1473) (c := 20) 0 dX12_init_74 rfl jt_49 rfl (fun _ z => by cases z) rfl (by decide) (by decide) (by decide) (by decide) rfl (jw_rc _ rfl) ?_
  refine jw_letM (fun M29 => ?_)
  refine jw_ck (fun h30 => ?_)
  refine jw_putF (pc := 76) (x := 1) (j := 6) tyX12 rfl dX12_init_76 jv_12 ji_12 tyX12_ok nmX12 jt_1237 rfl rfl rfl ht hn (by decide) (by decide) h30.1 (jw_fvN (z := 0) ht (by decide) rfl) (jw_fvR ht (by decide) rfl h30.2) rfl rfl ?_
  refine jw_letM (fun M31 => ?_)
  refine jw_aloadR (pc := 79) 0 dX12_init_79 rfl ?_
  refine jw_bipush (pc := 80) dX12_init_80 rfl ?_
  refine jw_newa (pc := 82) (kc := 14) (ks := 1369) (c := 20) 0 dX12_init_82 rfl jt_49 rfl (fun _ z => by cases z) rfl (by decide) (by decide) (by decide) (by decide) rfl (jw_rc _ rfl) ?_
  refine jw_letM (fun M32 => ?_)
  refine jw_ck (fun h33 => ?_)
  refine jw_putF (pc := 84) (x := 1) (j := 8) tyX12 rfl dX12_init_84 jv_12 ji_12 tyX12_ok nmX12 jt_1239 rfl rfl rfl ht hn (by decide) (by decide) h33.1 (jw_fvN (z := 0) ht (by decide) rfl) (jw_fvR ht (by decide) rfl h33.2) rfl rfl ?_
  refine jw_letM (fun M34 => ?_)
  refine jw_aloadR (pc := 87) 0 dX12_init_87 rfl ?_
  refine jw_sipush (pc := 88) dX12_init_88 rfl ?_
  refine jw_newa (pc := 91) (kc := 13) (ks := 769) (c := 20) 0 dX12_init_91 rfl jt_49 rfl (fun _ z => by cases z) rfl (by decide) (by decide) (by decide) (by decide) rfl (jw_rc _ rfl) ?_
  refine jw_letM (fun M35 => ?_)
  refine jw_ck (fun h36 => ?_)
  refine jw_putF (pc := 93) (x := 1) (j := 9) tyX12 rfl dX12_init_93 jv_12 ji_12 tyX12_ok nmX12 jt_1240 rfl rfl rfl ht hn (by decide) (by decide) h36.1 (jw_fvN (z := 0) ht (by decide) rfl) (jw_fvR ht (by decide) rfl h36.2) rfl rfl ?_
  refine jw_letM (fun M37 => ?_)
  refine jw_aloadR (pc := 96) 0 dX12_init_96 rfl ?_
  refine jw_bipush (pc := 97) dX12_init_97 rfl ?_
  refine jw_newa (pc := 99) (kc := 12) (ks := 720) (c := 20) 0 dX12_init_99 rfl jt_49 rfl (fun _ z => by cases z) rfl (by decide) (by decide) (by decide) (by decide) rfl (jw_rc _ rfl) ?_
  refine jw_letM (fun M38 => ?_)
  refine jw_ck (fun h39 => ?_)
  refine jw_putF (pc := 101) (x := 1) (j := 19) tyX12 rfl dX12_init_101 jv_12 ji_12 tyX12_ok nmX12 jt_1250 rfl rfl rfl ht hn (by decide) (by decide) h39.1 (jw_fvN (z := 0) ht (by decide) rfl) (jw_fvR ht (by decide) rfl h39.2) rfl rfl ?_
  refine jw_letM (fun M40 => ?_)
  refine jw_aloadR (pc := 104) 0 dX12_init_104 rfl ?_
  refine jw_bipush (pc := 105) dX12_init_105 rfl ?_
  refine jw_newa (pc := 107) (kc := 11) (ks := 671) (c := 20) 0 dX12_init_107 rfl jt_49 rfl (fun _ z => by cases z) rfl (by decide) (by decide) (by decide) (by decide) rfl (jw_rc _ rfl) ?_
  refine jw_letM (fun M41 => ?_)
  refine jw_ck (fun h42 => ?_)
  refine jw_putF (pc := 109) (x := 1) (j := 20) tyX12 rfl dX12_init_109 jv_12 ji_12 tyX12_ok nmX12 jt_1251 rfl rfl rfl ht hn (by decide) (by decide) h42.1 (jw_fvN (z := 0) ht (by decide) rfl) (jw_fvR ht (by decide) rfl h42.2) rfl rfl ?_
  refine jw_letM (fun M43 => ?_)
  refine jw_aloadR (pc := 112) 0 dX12_init_112 rfl ?_
  refine jw_bipush (pc := 113) dX12_init_113 rfl ?_
  refine jw_newa (pc := 115) (kc := 10) (ks := 664) (c := 20) 0 dX12_init_115 rfl jt_49 rfl (fun _ z => by cases z) rfl (by decide) (by decide) (by decide) (by decide) rfl (jw_rc _ rfl) ?_
  refine jw_letM (fun M44 => ?_)
  refine jw_ck (fun h45 => ?_)
  refine jw_putF (pc := 117) (x := 1) (j := 21) tyX12 rfl dX12_init_117 jv_12 ji_12 tyX12_ok nmX12 jt_1252 rfl rfl rfl ht hn (by decide) (by decide) h45.1 (jw_fvN (z := 0) ht (by decide) rfl) (jw_fvR ht (by decide) rfl h45.2) rfl rfl ?_
  refine jw_letM (fun M46 => ?_)
  refine jw_aloadR (pc := 120) 0 dX12_init_120 rfl ?_
  refine jw_iconst (pc := 121) dX12_init_121 ?_
  refine jw_newa (pc := 122) (kc := 9) (ks := 659) (c := 20) 0 dX12_init_122 rfl jt_49 rfl (fun _ z => by cases z) rfl (by decide) (by decide) (by decide) (by decide) rfl (jw_rc _ rfl) ?_
  refine jw_letM (fun M47 => ?_)
  refine jw_ck (fun h48 => ?_)
  refine jw_putF (pc := 124) (x := 1) (j := 22) tyX12 rfl dX12_init_124 jv_12 ji_12 tyX12_ok nmX12 jt_1253 rfl rfl rfl ht hn (by decide) (by decide) h48.1 (jw_fvN (z := 0) ht (by decide) rfl) (jw_fvR ht (by decide) rfl h48.2) rfl rfl ?_
  refine jw_letM (fun M49 => ?_)
  refine jw_aloadR (pc := 127) 0 dX12_init_127 rfl ?_
  refine jw_iconst (pc := 128) dX12_init_128 ?_
  refine jw_newa (pc := 129) (kc := 8) (ks := 654) (c := 20) 0 dX12_init_129 rfl jt_49 rfl (fun _ z => by cases z) rfl (by decide) (by decide) (by decide) (by decide) rfl (jw_rc _ rfl) ?_
  refine jw_letM (fun M50 => ?_)
  refine jw_ck (fun h51 => ?_)
  refine jw_putF (pc := 131) (x := 1) (j := 23) tyX12 rfl dX12_init_131 jv_12 ji_12 tyX12_ok nmX12 jt_1254 rfl rfl rfl ht hn (by decide) (by decide) h51.1 (jw_fvN (z := 0) ht (by decide) rfl) (jw_fvR ht (by decide) rfl h51.2) rfl rfl ?_
  refine jw_letM (fun M52 => ?_)
  refine jw_aloadR (pc := 134) 0 dX12_init_134 rfl ?_
  refine jw_iconst (pc := 135) dX12_init_135 ?_
  refine jw_newa (pc := 136) (kc := 7) (ks := 649) (c := 20) 0 dX12_init_136 rfl jt_49 rfl (fun _ z => by cases z) rfl (by decide) (by decide) (by decide) (by decide) rfl (jw_rc _ rfl) ?_
  refine jw_letM (fun M53 => ?_)
  refine jw_ck (fun h54 => ?_)
  refine jw_putF (pc := 138) (x := 1) (j := 24) tyX12 rfl dX12_init_138 jv_12 ji_12 tyX12_ok nmX12 jt_1255 rfl rfl rfl ht hn (by decide) (by decide) h54.1 (jw_fvN (z := 0) ht (by decide) rfl) (jw_fvR ht (by decide) rfl h54.2) rfl rfl ?_
  refine jw_letM (fun M55 => ?_)
  refine jw_aloadR (pc := 141) 0 dX12_init_141 rfl ?_
  refine jw_sipush (pc := 142) dX12_init_142 rfl ?_
  refine jw_newa (pc := 145) (kc := 6) (ks := 453) (c := 20) 0 dX12_init_145 rfl jt_49 rfl (fun _ z => by cases z) rfl (by decide) (by decide) (by decide) (by decide) rfl (jw_rc _ rfl) ?_
  refine jw_letM (fun M56 => ?_)
  refine jw_ck (fun h57 => ?_)
  refine jw_putF (pc := 147) (x := 1) (j := 25) tyX12 rfl dX12_init_147 jv_12 ji_12 tyX12_ok nmX12 jt_1256 rfl rfl rfl ht hn (by decide) (by decide) h57.1 (jw_fvN (z := 0) ht (by decide) rfl) (jw_fvR ht (by decide) rfl h57.2) rfl rfl ?_
  refine jw_letM (fun M58 => ?_)
  refine jw_aloadR (pc := 150) 0 dX12_init_150 rfl ?_
  refine jw_bipush (pc := 151) dX12_init_151 rfl ?_
  refine jw_newa (pc := 153) (kc := 5) (ks := 439) (c := 20) 0 dX12_init_153 rfl jt_49 rfl (fun _ z => by cases z) rfl (by decide) (by decide) (by decide) (by decide) rfl (jw_rc _ rfl) ?_
  refine jw_letM (fun M59 => ?_)
  refine jw_ck (fun h60 => ?_)
  refine jw_putF (pc := 155) (x := 1) (j := 26) tyX12 rfl dX12_init_155 jv_12 ji_12 tyX12_ok nmX12 jt_1257 rfl rfl rfl ht hn (by decide) (by decide) h60.1 (jw_fvN (z := 0) ht (by decide) rfl) (jw_fvR ht (by decide) rfl h60.2) rfl rfl ?_
  refine jw_letM (fun M61 => ?_)
  refine jw_aloadR (pc := 158) 0 dX12_init_158 rfl ?_
  refine jw_iconst (pc := 159) dX12_init_159 ?_
  refine jw_newa (pc := 160) (kc := 4) (ks := 434) (c := 20) 0 dX12_init_160 rfl jt_49 rfl (fun _ z => by cases z) rfl (by decide) (by decide) (by decide) (by decide) rfl (jw_rc _ rfl) ?_
  refine jw_letM (fun M62 => ?_)
  refine jw_ck (fun h63 => ?_)
  refine jw_putF (pc := 162) (x := 1) (j := 29) tyX12 rfl dX12_init_162 jv_12 ji_12 tyX12_ok nmX12 jt_1260 rfl rfl rfl ht hn (by decide) (by decide) h63.1 (jw_fvN (z := 0) ht (by decide) rfl) (jw_fvR ht (by decide) rfl h63.2) rfl rfl ?_
  refine jw_letM (fun M64 => ?_)
  refine jw_aloadR (pc := 165) 0 dX12_init_165 rfl ?_
  refine jw_iconst (pc := 166) dX12_init_166 ?_
  refine jw_newa (pc := 167) (kc := 3) (ks := 432) (c := 22) 2 dX12_init_167 rfl jt_328 rfl (fun _ z => by cases z) rfl (by decide) (by decide) (by decide) (by decide) rfl (jw_rc _ rfl) ?_
  refine jw_letM (fun M65 => ?_)
  refine jw_ck (fun h66 => ?_)
  refine jw_putF (pc := 169) (x := 1) (j := 30) tyX12 rfl dX12_init_169 jv_12 ji_12 tyX12_ok nmX12 jt_1261 rfl rfl rfl ht hn (by decide) (by decide) h66.1 (jw_fvN (z := 0) ht (by decide) rfl) (jw_fvR ht (by decide) rfl h66.2) rfl rfl ?_
  refine jw_letM (fun M67 => ?_)
  refine jw_aloadR (pc := 172) 0 dX12_init_172 rfl ?_
  refine jw_sipush (pc := 173) dX12_init_173 rfl ?_
  refine jw_newa (pc := 176) (kc := 2) (ks := 224) (c := 20) 0 dX12_init_176 rfl jt_49 rfl (fun _ z => by cases z) rfl (by decide) (by decide) (by decide) (by decide) rfl (jw_rc _ rfl) ?_
  refine jw_letM (fun M68 => ?_)
  refine jw_ck (fun h69 => ?_)
  refine jw_putF (pc := 178) (x := 1) (j := 31) tyX12 rfl dX12_init_178 jv_12 ji_12 tyX12_ok nmX12 jt_1262 rfl rfl rfl ht hn (by decide) (by decide) h69.1 (jw_fvN (z := 0) ht (by decide) rfl) (jw_fvR ht (by decide) rfl h69.2) rfl rfl ?_
  refine jw_letM (fun M70 => ?_)
  refine jw_aloadR (pc := 181) 0 dX12_init_181 rfl ?_
  refine jw_sipush (pc := 182) dX12_init_182 rfl ?_
  refine jw_newa (pc := 185) (kc := 1) (ks := 16) (c := 20) 0 dX12_init_185 rfl jt_49 rfl (fun _ z => by cases z) rfl (by decide) (by decide) (by decide) (by decide) rfl (jw_rc _ rfl) ?_
  refine jw_letM (fun M71 => ?_)
  refine jw_ck (fun h72 => ?_)
  refine jw_putF (pc := 187) (x := 1) (j := 32) tyX12 rfl dX12_init_187 jv_12 ji_12 tyX12_ok nmX12 jt_1263 rfl rfl rfl ht hn (by decide) (by decide) h72.1 (jw_fvN (z := 0) ht (by decide) rfl) (jw_fvR ht (by decide) rfl h72.2) rfl rfl ?_
  refine jw_letM (fun M73 => ?_)
  refine jw_aloadR (pc := 190) 0 dX12_init_190 rfl ?_
  refine jw_bipush (pc := 191) dX12_init_191 rfl ?_
  refine jw_newa (pc := 193) (kc := 0) (ks := 0) (c := 20) 0 dX12_init_193 rfl jt_49 rfl (fun _ z => by cases z) rfl (by decide) (by decide) (by decide) (by decide) rfl (jw_rc _ rfl) ?_
  refine jw_letM (fun M74 => ?_)
  refine jw_ck (fun h75 => ?_)
  refine jw_putF (pc := 195) (x := 1) (j := 33) tyX12 rfl dX12_init_195 jv_12 ji_12 tyX12_ok nmX12 jt_1264 rfl rfl rfl ht hn (by decide) (by decide) h75.1 (jw_fvN (z := 0) ht (by decide) rfl) (jw_fvR ht (by decide) rfl h75.2) rfl rfl ?_
  refine jw_letM (fun M76 => ?_)
  exact jw_ret (pc := 198) (v := 0) dX12_init_198 trivial rfl rfl
theorem kX12_init (G : jw_G) (t : Nat) (M : jw_M) : jw_Ct G YX12_init none 2 20 2017 false (fun M1 => (0, M1)) yX12_init [jR G t] M (fX12_init t M) := jw_met (by decide) rfl rfl rfl (Nat.le_of_ble_eq_true rfl) (rX12_init G t M)
