abbrev YX4_hasRoomFor : jw_Y := (RX4, cX4_hasRoomFor, 2, 4, "hasRoomFor")
theorem qX4_hasRoomFor : jw_cy YX4_hasRoomFor (some .boolean) yX4_hasRoomFor 1 := ⟨by decide, jt_483, jt_4, by decide, by decide +kernel⟩
theorem dX4_hasRoomFor_0 : decode cX4_hasRoomFor 0 = .ok (.aload_n 0, 1) := by decide +kernel
theorem dX4_hasRoomFor_1 : decode cX4_hasRoomFor 1 = .ok (.getfield 15, 3) := by decide +kernel
theorem dX4_hasRoomFor_4 : decode cX4_hasRoomFor 4 = .ok (.iload_n 1, 1) := by decide +kernel
theorem dX4_hasRoomFor_5 : decode cX4_hasRoomFor 5 = .ok (.iadd, 1) := by decide +kernel
theorem dX4_hasRoomFor_6 : decode cX4_hasRoomFor 6 = .ok (.sipush 600, 3) := by decide +kernel
theorem dX4_hasRoomFor_9 : decode cX4_hasRoomFor 9 = .ok (.if_icmp .gt 7, 3) := by decide +kernel
theorem dX4_hasRoomFor_12 : decode cX4_hasRoomFor 12 = .ok (.iconst 1, 1) := by decide +kernel
theorem dX4_hasRoomFor_13 : decode cX4_hasRoomFor 13 = .ok (.goto 4, 3) := by decide +kernel
theorem dX4_hasRoomFor_16 : decode cX4_hasRoomFor 16 = .ok (.iconst 0, 1) := by decide +kernel
theorem dX4_hasRoomFor_17 : decode cX4_hasRoomFor 17 = .ok (.ireturn, 1) := by decide +kernel
def fX4_hasRoomFor (a1 : Int) (M : jw_M) : Option Int :=
  if (600 : Int) < jw_w ((M 5 1) + a1) then (some 0) else (some 1)
set_option maxRecDepth 100000 in
theorem rX4_hasRoomFor (G : jw_G) (a1 : Int) (ha1 : jw_r a1) (M : jw_M) : jw_Rn G YX4_hasRoomFor 1 0 0 true (fun v => (v, M)) 0 [(0, jR G 5), (1, jI a1)] [] M (fX4_hasRoomFor a1 M) := by
  unfold fX4_hasRoomFor
  refine jw_aloadR (pc := 0) 0 dX4_hasRoomFor_0 rfl ?_
  refine jw_getI (pc := 1) (j := 1) rfl dX4_hasRoomFor_1 jv_4 ji_4 (Or.inl jt_57) jg_5 jl_5 (by decide) (by decide) (jw_ho jg_5 (by decide)) (Or.inl rfl) rfl (fun h1 => ?_)
  refine jw_iload_n (pc := 4) 1 dX4_hasRoomFor_4 rfl ?_
  refine jw_iadd (pc := 5) dX4_hasRoomFor_5 ?_
  refine jw_sipush (pc := 6) dX4_hasRoomFor_6 rfl ?_
  refine jw_ic_gt (pc := 9) 16 dX4_hasRoomFor_9 (by decide) (jw_wr _) (jw_rc _ rfl) (fun _ => ?_) (fun _ => ?_)
  · refine jw_iconst (pc := 16) dX4_hasRoomFor_16 ?_
    exact jw_ret (pc := 17) (v := 0) dX4_hasRoomFor_17 (Or.inl rfl) rfl rfl
  · refine jw_iconst (pc := 12) dX4_hasRoomFor_12 ?_
    refine jw_goto (pc := 13) 17 dX4_hasRoomFor_13 (by decide) ?_
    exact jw_ret (pc := 17) (v := 1) dX4_hasRoomFor_17 (Or.inr rfl) rfl rfl
theorem kX4_hasRoomFor (G : jw_G) (a1 : Int) (ha1 : jw_r a1) (M : jw_M) : jw_Ct G YX4_hasRoomFor (some .boolean) 1 0 0 true (fun v => (v, M)) yX4_hasRoomFor [jR G 5, jI a1] M (fX4_hasRoomFor a1 M) := jw_met (by decide) rfl rfl rfl (Nat.le_of_ble_eq_true rfl) (rX4_hasRoomFor G a1 ha1 M)
abbrev YX4_append : jw_Y := (RX4, cX4_append, 5, 1, "append")
theorem qX4_append : jw_cy YX4_append (some .int) yX4_append 2 := ⟨by decide, jt_488, jt_4, by decide, by decide +kernel⟩
theorem dX4_append_0 : decode cX4_append 0 = .ok (.iload_n 3, 1) := by decide +kernel
theorem dX4_append_1 : decode cX4_append 1 = .ok (.iconst 1, 1) := by decide +kernel
theorem dX4_append_2 : decode cX4_append 2 = .ok (.isub, 1) := by decide +kernel
theorem dX4_append_3 : decode cX4_append 3 = .ok (.istore 4, 2) := by decide +kernel
theorem dX4_append_5 : decode cX4_append 5 = .ok (.iload 4, 2) := by decide +kernel
theorem dX4_append_7 : decode cX4_append 7 = .ok (.ifCond .lt 37, 3) := by decide +kernel
theorem dX4_append_10 : decode cX4_append 10 = .ok (.aload_n 0, 1) := by decide +kernel
theorem dX4_append_11 : decode cX4_append 11 = .ok (.getfield 11, 3) := by decide +kernel
theorem dX4_append_14 : decode cX4_append 14 = .ok (.aload_n 0, 1) := by decide +kernel
theorem dX4_append_15 : decode cX4_append 15 = .ok (.getfield 15, 3) := by decide +kernel
theorem dX4_append_18 : decode cX4_append 18 = .ok (.lload_n 1, 1) := by decide +kernel
theorem dX4_append_19 : decode cX4_append 19 = .ok (.bipush 8, 2) := by decide +kernel
theorem dX4_append_21 : decode cX4_append 21 = .ok (.iload 4, 2) := by decide +kernel
theorem dX4_append_23 : decode cX4_append 23 = .ok (.imul, 1) := by decide +kernel
theorem dX4_append_24 : decode cX4_append 24 = .ok (.lshr, 1) := by decide +kernel
theorem dX4_append_25 : decode cX4_append 25 = .ok (.l2i, 1) := by decide +kernel
theorem dX4_append_26 : decode cX4_append 26 = .ok (.i2b, 1) := by decide +kernel
theorem dX4_append_27 : decode cX4_append 27 = .ok (.bastore, 1) := by decide +kernel
theorem dX4_append_28 : decode cX4_append 28 = .ok (.aload_n 0, 1) := by decide +kernel
theorem dX4_append_29 : decode cX4_append 29 = .ok (.dup, 1) := by decide +kernel
theorem dX4_append_30 : decode cX4_append 30 = .ok (.getfield 15, 3) := by decide +kernel
theorem dX4_append_33 : decode cX4_append 33 = .ok (.iconst 1, 1) := by decide +kernel
theorem dX4_append_34 : decode cX4_append 34 = .ok (.iadd, 1) := by decide +kernel
theorem dX4_append_35 : decode cX4_append 35 = .ok (.putfield 15, 3) := by decide +kernel
theorem dX4_append_38 : decode cX4_append 38 = .ok (.iinc 4 (-1), 3) := by decide +kernel
theorem dX4_append_41 : decode cX4_append 41 = .ok (.goto (-36), 3) := by decide +kernel
theorem dX4_append_44 : decode cX4_append 44 = .ok (.aload_n 0, 1) := by decide +kernel
theorem dX4_append_45 : decode cX4_append 45 = .ok (.getfield 15, 3) := by decide +kernel
theorem dX4_append_48 : decode cX4_append 48 = .ok (.ireturn, 1) := by decide +kernel
def fX4_append_5 : Nat → Int → Int → jw_M → Option (Int × jw_M)
  | 0, _, _, _ => none
  | k + 1, x1, x4, M => if x4 < 0 then (some (M 5 1, M)) else (if 0 ≤ M 5 1 ∧ M 5 1 < 600 then Option.bind (some (jw_up M 6 (M 5 1) (jw_b (jw_w (jw_lshr x1 (jw_w (8 * x4))))))) (fun M4 => Option.bind (some (jw_up M4 5 1 (jw_w ((M4 5 1) + 1)))) (fun M6 => Option.bind (some (jw_w (x4 + (-1)))) (fun v7 => fX4_append_5 k x1 v7 M6))) else none)
set_option maxRecDepth 100000 in
theorem pX4_append_5 (G : jw_G) : ∀ (k : Nat) (x1 : Int) (x4 : Int) (hx1 : jw_q x1) (hx4 : jw_r x4) (M : jw_M), jw_Rn G YX4_append 1 0 0 true (fun q => q) 5 [(0, jR G 5), (1, jL x1), (4, jI x4)] [] M (fX4_append_5 k x1 x4 M) := by
  intro k
  induction k with
  | zero =>
    intro x1 x4 hx1 hx4 M
    exact jw_none
  | succ k ih =>
    intro x1 x4 hx1 hx4 M
    rw [fX4_append_5]
    refine jw_iload (pc := 5) 2 dX4_append_5 rfl ?_
    refine jw_if_lt (pc := 7) 44 dX4_append_7 (by decide) hx4 (fun _ => ?_) (fun _ => ?_)
    · refine jw_aloadR (pc := 44) 0 dX4_append_44 rfl ?_
      refine jw_getI (pc := 45) (j := 1) rfl dX4_append_45 jv_4 ji_4 (Or.inl jt_57) jg_5 jl_5 (by decide) (by decide) (jw_ho jg_5 (by decide)) (Or.inl rfl) rfl (fun h2 => ?_)
      exact jw_ret (pc := 48) (v := M 5 1) dX4_append_48 h2 rfl rfl
    · refine jw_aloadR (pc := 10) 0 dX4_append_10 rfl ?_
      refine jw_getR (pc := 11) (j := 0) rfl dX4_append_11 jv_4 ji_4 (Or.inl jt_56) jg_5 jl_5 (by decide) (by decide) rfl jf_4_0 ?_
      refine jw_aloadR (pc := 14) 0 dX4_append_14 rfl ?_
      refine jw_getI (pc := 15) (j := 1) rfl dX4_append_15 jv_4 ji_4 (Or.inl jt_57) jg_5 jl_5 (by decide) (by decide) (jw_ho jg_5 (by decide)) (Or.inl rfl) rfl (fun h3 => ?_)
      refine jw_lload_n (pc := 18) 1 dX4_append_18 rfl ?_
      refine jw_bipush (pc := 19) dX4_append_19 rfl ?_
      refine jw_iload (pc := 21) 2 dX4_append_21 rfl ?_
      refine jw_imul (pc := 23) dX4_append_23 ?_
      refine jw_lshrr (pc := 24) dX4_append_24 ?_
      refine jw_l2ir (pc := 25) dX4_append_25 ?_
      refine jw_i2br (pc := 26) dX4_append_26 ?_
      refine jw_bast (pc := 27) dX4_append_27 jg_6 jl_6 (jw_ho jg_6 (by decide)) h3 (jw_bb _) rfl ?_
      refine jw_letM (fun M4 => ?_)
      refine jw_aloadR (pc := 28) 0 dX4_append_28 rfl ?_
      refine jw_dup (pc := 29) dX4_append_29 rfl ?_
      refine jw_getI (pc := 30) (j := 1) rfl dX4_append_30 jv_4 ji_4 (Or.inl jt_57) jg_5 jl_5 (by decide) (by decide) (jw_ho jg_5 (by decide)) (Or.inl rfl) rfl (fun h5 => ?_)
      refine jw_iconst (pc := 33) dX4_append_33 ?_
      refine jw_iadd (pc := 34) dX4_append_34 ?_
      refine jw_putI (pc := 35) (j := 1) tyX4 rfl dX4_append_35 jv_4 ji_4 tyX4_ok nmX4 (Or.inl jt_57) rfl jg_5 jl_5 (by decide) (by decide) (jw_ho jg_5 (by decide)) rfl rfl (jw_wr _) rfl ?_
      refine jw_letM (fun M6 => ?_)
      refine jw_iincL (pc := 38) 2 (lv' := (fun y => [(4, y), (0, jR G 5), (1, jL x1)])) dX4_append_38 rfl (Nat.le_of_ble_eq_true rfl) (fun _ => rfl) (fun v7 hv7 => ?_)
      refine jw_goto (pc := 41) 5 dX4_append_41 (by decide) ?_
      exact jw_few [1, 2, 0] rfl (ih x1 v7 hx1 hv7 M6)
def fX4_append (a1 : Int) (a2 : Int) (M : jw_M) : Option (Int × jw_M) :=
  Option.bind (some (jw_w (a2 - 1))) (fun v1 => fX4_append_5 jw_fu a1 v1 M)
set_option maxRecDepth 100000 in
theorem rX4_append (G : jw_G) (a1 : Int) (a2 : Int) (ha1 : jw_q a1) (ha2 : jw_r a2) (M : jw_M) : jw_Rn G YX4_append 1 0 0 true (fun q => q) 0 [(0, jR G 5), (1, jL a1), (3, jI a2)] [] M (fX4_append a1 a2 M) := by
  unfold fX4_append
  refine jw_iload_n (pc := 0) 2 dX4_append_0 rfl ?_
  refine jw_iconst (pc := 1) dX4_append_1 ?_
  refine jw_isub (pc := 2) dX4_append_2 ?_
  refine jw_istoreL (pc := 3) (lv' := (fun y => [(4, y), (0, jR G 5), (1, jL a1), (3, jI a2)])) dX4_append_3 (jw_wr _) (by decide) (fun _ => rfl) (fun v1 hv1 => ?_)
  exact jw_few [1, 2, 0] rfl (pX4_append_5 G jw_fu a1 v1 ha1 hv1 M)
theorem kX4_append (G : jw_G) (a1 : Int) (a2 : Int) (ha1 : jw_q a1) (ha2 : jw_r a2) (M : jw_M) : jw_Ct G YX4_append (some .int) 1 0 0 true (fun q => q) yX4_append [jR G 5, jL a1, jI a2] M (fX4_append a1 a2 M) := jw_met (by decide) rfl rfl rfl (Nat.le_of_ble_eq_true rfl) (rX4_append G a1 a2 ha1 ha2 M)
abbrev YX4_length : jw_Y := (RX4, cX4_length, 1, 1, "length")
theorem qX4_length : jw_cy YX4_length (some .int) yX4_length 0 := ⟨by decide, jt_1220, jt_4, by decide, by decide +kernel⟩
theorem dX4_length_0 : decode cX4_length 0 = .ok (.aload_n 0, 1) := by decide +kernel
theorem dX4_length_1 : decode cX4_length 1 = .ok (.getfield 15, 3) := by decide +kernel
theorem dX4_length_4 : decode cX4_length 4 = .ok (.ireturn, 1) := by decide +kernel
def fX4_length (M : jw_M) : Option Int :=
  some (M 5 1)
set_option maxRecDepth 100000 in
theorem rX4_length (G : jw_G) (M : jw_M) : jw_Rn G YX4_length 1 0 0 true (fun v => (v, M)) 0 [(0, jR G 5)] [] M (fX4_length M) := by
  unfold fX4_length
  refine jw_aloadR (pc := 0) 0 dX4_length_0 rfl ?_
  refine jw_getI (pc := 1) (j := 1) rfl dX4_length_1 jv_4 ji_4 (Or.inl jt_57) jg_5 jl_5 (by decide) (by decide) (jw_ho jg_5 (by decide)) (Or.inl rfl) rfl (fun h1 => ?_)
  exact jw_ret (pc := 4) (v := M 5 1) dX4_length_4 h1 rfl rfl
theorem kX4_length (G : jw_G) (M : jw_M) : jw_Ct G YX4_length (some .int) 1 0 0 true (fun v => (v, M)) yX4_length [jR G 5] M (fX4_length M) := jw_met (by decide) rfl rfl rfl (Nat.le_of_ble_eq_true rfl) (rX4_length G M)
abbrev YX4_place : jw_Y := (RX4, cX4_place, 1, 1, "place")
theorem qX4_place : jw_cy YX4_place (some .int) yX4_place 0 := ⟨by decide, jt_686, jt_4, by decide, by decide +kernel⟩
theorem dX4_place_0 : decode cX4_place 0 = .ok (.aload_n 0, 1) := by decide +kernel
theorem dX4_place_1 : decode cX4_place 1 = .ok (.getfield 26, 3) := by decide +kernel
theorem dX4_place_4 : decode cX4_place 4 = .ok (.ireturn, 1) := by decide +kernel
def fX4_place (M : jw_M) : Option Int :=
  some (M 5 2)
set_option maxRecDepth 100000 in
theorem rX4_place (G : jw_G) (M : jw_M) : jw_Rn G YX4_place 1 0 0 true (fun v => (v, M)) 0 [(0, jR G 5)] [] M (fX4_place M) := by
  unfold fX4_place
  refine jw_aloadR (pc := 0) 0 dX4_place_0 rfl ?_
  refine jw_getI (pc := 1) (j := 2) rfl dX4_place_1 jv_4 ji_4 (Or.inl jt_58) jg_5 jl_5 (by decide) (by decide) (jw_ho jg_5 (by decide)) (Or.inl rfl) rfl (fun h1 => ?_)
  exact jw_ret (pc := 4) (v := M 5 2) dX4_place_4 h1 rfl rfl
theorem kX4_place (G : jw_G) (M : jw_M) : jw_Ct G YX4_place (some .int) 1 0 0 true (fun v => (v, M)) yX4_place [jR G 5] M (fX4_place M) := jw_met (by decide) rfl rfl rfl (Nat.le_of_ble_eq_true rfl) (rX4_place G M)
abbrev YX4_empty : jw_Y := (RX4, cX4_empty, 1, 0, "empty")
theorem qX4_empty : jw_cy YX4_empty none yX4_empty 0 := ⟨by decide, jt_690, jt_4, by decide, by decide +kernel⟩
theorem dX4_empty_0 : decode cX4_empty 0 = .ok (.aload_n 0, 1) := by decide +kernel
theorem dX4_empty_1 : decode cX4_empty 1 = .ok (.iconst 0, 1) := by decide +kernel
theorem dX4_empty_2 : decode cX4_empty 2 = .ok (.putfield 15, 3) := by decide +kernel
theorem dX4_empty_5 : decode cX4_empty 5 = .ok (.return_, 1) := by decide +kernel
def fX4_empty (M : jw_M) : Option jw_M :=
  Option.bind (some (jw_up M 5 1 0)) (fun M1 => some M1)
set_option maxRecDepth 100000 in
theorem rX4_empty (G : jw_G) (M : jw_M) : jw_Rn G YX4_empty 1 0 0 true (fun M1 => (0, M1)) 0 [(0, jR G 5)] [] M (fX4_empty M) := by
  unfold fX4_empty
  refine jw_aloadR (pc := 0) 0 dX4_empty_0 rfl ?_
  refine jw_iconst (pc := 1) dX4_empty_1 ?_
  refine jw_putI (pc := 2) (j := 1) tyX4 rfl dX4_empty_2 jv_4 ji_4 tyX4_ok nmX4 (Or.inl jt_57) rfl jg_5 jl_5 (by decide) (by decide) (jw_ho jg_5 (by decide)) rfl rfl (jw_rc _ rfl) rfl ?_
  refine jw_letM (fun M1 => ?_)
  exact jw_ret (pc := 5) (v := 0) dX4_empty_5 trivial rfl rfl
theorem kX4_empty (G : jw_G) (M : jw_M) : jw_Ct G YX4_empty none 1 0 0 true (fun M1 => (0, M1)) yX4_empty [jR G 5] M (fX4_empty M) := jw_met (by decide) rfl rfl rfl (Nat.le_of_ble_eq_true rfl) (rX4_empty G M)
abbrev YX4_isLetter : jw_Y := (RX4, cX4_isLetter, 1, 4, "isLetter")
theorem qX4_isLetter : jw_cy YX4_isLetter (some .boolean) yX4_isLetter 1 := ⟨by decide, jt_537, jt_4, by decide, by decide +kernel⟩
theorem dX4_isLetter_0 : decode cX4_isLetter 0 = .ok (.iload_n 0, 1) := by decide +kernel
theorem dX4_isLetter_1 : decode cX4_isLetter 1 = .ok (.bipush 97, 2) := by decide +kernel
theorem dX4_isLetter_3 : decode cX4_isLetter 3 = .ok (.if_icmp .lt 13, 3) := by decide +kernel
theorem dX4_isLetter_6 : decode cX4_isLetter 6 = .ok (.iload_n 0, 1) := by decide +kernel
theorem dX4_isLetter_7 : decode cX4_isLetter 7 = .ok (.bipush 122, 2) := by decide +kernel
theorem dX4_isLetter_9 : decode cX4_isLetter 9 = .ok (.if_icmp .gt 7, 3) := by decide +kernel
theorem dX4_isLetter_12 : decode cX4_isLetter 12 = .ok (.iconst 1, 1) := by decide +kernel
theorem dX4_isLetter_13 : decode cX4_isLetter 13 = .ok (.goto 4, 3) := by decide +kernel
theorem dX4_isLetter_16 : decode cX4_isLetter 16 = .ok (.iconst 0, 1) := by decide +kernel
theorem dX4_isLetter_17 : decode cX4_isLetter 17 = .ok (.ireturn, 1) := by decide +kernel
def fX4_isLetter (a1 : Int) (M : jw_M) : Option Int :=
  if a1 < 97 then (some 0) else (if (122 : Int) < a1 then (some 0) else (some 1))
set_option maxRecDepth 100000 in
theorem rX4_isLetter (G : jw_G) (a1 : Int) (ha1 : jw_r a1) (M : jw_M) : jw_Rn G YX4_isLetter 1 0 0 true (fun v => (v, M)) 0 [(0, jI a1)] [] M (fX4_isLetter a1 M) := by
  unfold fX4_isLetter
  refine jw_iload_n (pc := 0) 0 dX4_isLetter_0 rfl ?_
  refine jw_bipush (pc := 1) dX4_isLetter_1 rfl ?_
  refine jw_ic_lt (pc := 3) 16 dX4_isLetter_3 (by decide) ha1 (jw_rc _ rfl) (fun _ => ?_) (fun _ => ?_)
  · refine jw_iconst (pc := 16) dX4_isLetter_16 ?_
    exact jw_ret (pc := 17) (v := 0) dX4_isLetter_17 (Or.inl rfl) rfl rfl
  · refine jw_iload_n (pc := 6) 0 dX4_isLetter_6 rfl ?_
    refine jw_bipush (pc := 7) dX4_isLetter_7 rfl ?_
    refine jw_ic_gt (pc := 9) 16 dX4_isLetter_9 (by decide) ha1 (jw_rc _ rfl) (fun _ => ?_) (fun _ => ?_)
    · refine jw_iconst (pc := 16) dX4_isLetter_16 ?_
      exact jw_ret (pc := 17) (v := 0) dX4_isLetter_17 (Or.inl rfl) rfl rfl
    · refine jw_iconst (pc := 12) dX4_isLetter_12 ?_
      refine jw_goto (pc := 13) 17 dX4_isLetter_13 (by decide) ?_
      exact jw_ret (pc := 17) (v := 1) dX4_isLetter_17 (Or.inr rfl) rfl rfl
theorem kX4_isLetter (G : jw_G) (a1 : Int) (ha1 : jw_r a1) (M : jw_M) : jw_Ct G YX4_isLetter (some .boolean) 1 0 0 true (fun v => (v, M)) yX4_isLetter [jI a1] M (fX4_isLetter a1 M) := jw_met (by decide) rfl rfl rfl (Nat.le_of_ble_eq_true rfl) (rX4_isLetter G a1 ha1 M)
abbrev YX4_endOfName : jw_Y := (RX4, cX4_endOfName, 3, 1, "endOfName")
theorem qX4_endOfName : jw_cy YX4_endOfName (some .int) yX4_endOfName 1 := ⟨by decide, jt_541, jt_4, by decide, by decide +kernel⟩
theorem dX4_endOfName_0 : decode cX4_endOfName 0 = .ok (.iload_n 1, 1) := by decide +kernel
theorem dX4_endOfName_1 : decode cX4_endOfName 1 = .ok (.istore_n 2, 1) := by decide +kernel
theorem dX4_endOfName_2 : decode cX4_endOfName 2 = .ok (.iload_n 2, 1) := by decide +kernel
theorem dX4_endOfName_3 : decode cX4_endOfName 3 = .ok (.aload_n 0, 1) := by decide +kernel
theorem dX4_endOfName_4 : decode cX4_endOfName 4 = .ok (.getfield 15, 3) := by decide +kernel
theorem dX4_endOfName_7 : decode cX4_endOfName 7 = .ok (.if_icmp .ge 21, 3) := by decide +kernel
theorem dX4_endOfName_10 : decode cX4_endOfName 10 = .ok (.aload_n 0, 1) := by decide +kernel
theorem dX4_endOfName_11 : decode cX4_endOfName 11 = .ok (.getfield 11, 3) := by decide +kernel
theorem dX4_endOfName_14 : decode cX4_endOfName 14 = .ok (.iload_n 2, 1) := by decide +kernel
theorem dX4_endOfName_15 : decode cX4_endOfName 15 = .ok (.baload, 1) := by decide +kernel
theorem dX4_endOfName_16 : decode cX4_endOfName 16 = .ok (.invokestatic 126, 3) := by decide +kernel
theorem dX4_endOfName_19 : decode cX4_endOfName 19 = .ok (.ifCond .eq 9, 3) := by decide +kernel
theorem dX4_endOfName_22 : decode cX4_endOfName 22 = .ok (.iinc 2 1, 3) := by decide +kernel
theorem dX4_endOfName_25 : decode cX4_endOfName 25 = .ok (.goto (-23), 3) := by decide +kernel
theorem dX4_endOfName_28 : decode cX4_endOfName 28 = .ok (.iload_n 2, 1) := by decide +kernel
theorem dX4_endOfName_29 : decode cX4_endOfName 29 = .ok (.ireturn, 1) := by decide +kernel
def fX4_endOfName_2 (M : jw_M) : Nat → Int → Option Int
  | 0, _ => none
  | k + 1, x2 => if x2 < M 5 1 then (if 0 ≤ x2 ∧ x2 < 600 then Option.bind (fX4_isLetter (M 6 x2) M) (fun v4 => if v4 = 0 then (some x2) else (Option.bind (some (jw_w (x2 + 1))) (fun v5 => fX4_endOfName_2 M k v5))) else none) else (some x2)
set_option maxRecDepth 100000 in
theorem pX4_endOfName_2 (G : jw_G) (M : jw_M) : ∀ (k : Nat) (x2 : Int) (hx2 : jw_r x2), jw_Rn G YX4_endOfName 2 0 0 true (fun v => (v, M)) 2 [(0, jR G 5), (2, jI x2)] [] M (fX4_endOfName_2 M k x2) := by
  intro k
  induction k with
  | zero =>
    intro x2 hx2
    exact jw_none
  | succ k ih =>
    intro x2 hx2
    rw [fX4_endOfName_2]
    refine jw_iload_n (pc := 2) 1 dX4_endOfName_2 rfl ?_
    refine jw_aloadR (pc := 3) 0 dX4_endOfName_3 rfl ?_
    refine jw_getI (pc := 4) (j := 1) rfl dX4_endOfName_4 jv_4 ji_4 (Or.inl jt_57) jg_5 jl_5 (by decide) (by decide) (jw_ho jg_5 (by decide)) (Or.inl rfl) rfl (fun h2 => ?_)
    refine jw_ic_ge (pc := 7) 28 dX4_endOfName_7 (by decide) hx2 h2 (fun _ => ?_) (fun _ => ?_)
    · refine jw_aloadR (pc := 10) 0 dX4_endOfName_10 rfl ?_
      refine jw_getR (pc := 11) (j := 0) rfl dX4_endOfName_11 jv_4 ji_4 (Or.inl jt_56) jg_5 jl_5 (by decide) (by decide) rfl jf_4_0 ?_
      refine jw_iload_n (pc := 14) 1 dX4_endOfName_14 rfl ?_
      refine jw_bald (pc := 15) dX4_endOfName_15 jg_6 jl_6 (jw_ho jg_6 (by decide)) hx2 rfl (fun h3 => ?_)
      refine jw_callSz (pc := 16) (As := [jI (M 6 x2)]) (st := []) dX4_endOfName_16 rfl (Nat.le_of_ble_eq_true rfl) qX4_isLetter jt_535 jt_536 rfl rfl (Nat.le_of_ble_eq_true rfl) (kX4_isLetter G (M 6 x2) h3 M) (fun v4 hv4 => ?_)
      refine jw_if_eq (pc := 19) 28 dX4_endOfName_19 (by decide) (jw_bz hv4) (fun _ => ?_) (fun _ => ?_)
      · refine jw_iload_n (pc := 28) 1 dX4_endOfName_28 rfl ?_
        exact jw_ret (pc := 29) (v := x2) dX4_endOfName_29 hx2 rfl rfl
      · refine jw_iincL (pc := 22) 1 (lv' := (fun y => [(2, y), (0, jR G 5)])) dX4_endOfName_22 rfl (Nat.le_of_ble_eq_true rfl) (fun _ => rfl) (fun v5 hv5 => ?_)
        refine jw_goto (pc := 25) 2 dX4_endOfName_25 (by decide) ?_
        exact jw_few [1, 0] rfl (ih v5 hv5)
    · refine jw_iload_n (pc := 28) 1 dX4_endOfName_28 rfl ?_
      exact jw_ret (pc := 29) (v := x2) dX4_endOfName_29 hx2 rfl rfl
def fX4_endOfName (a1 : Int) (M : jw_M) : Option Int :=
  Option.bind (some a1) (fun v1 => fX4_endOfName_2 M jw_fu v1)
set_option maxRecDepth 100000 in
theorem rX4_endOfName (G : jw_G) (a1 : Int) (ha1 : jw_r a1) (M : jw_M) : jw_Rn G YX4_endOfName 2 0 0 true (fun v => (v, M)) 0 [(0, jR G 5), (1, jI a1)] [] M (fX4_endOfName a1 M) := by
  unfold fX4_endOfName
  refine jw_iload_n (pc := 0) 1 dX4_endOfName_0 rfl ?_
  refine jw_istore_nL (pc := 1) (lv' := (fun y => [(2, y), (0, jR G 5), (1, jI a1)])) dX4_endOfName_1 ha1 (by decide) (fun _ => rfl) (fun v1 hv1 => ?_)
  exact jw_few [1, 0] rfl (pX4_endOfName_2 G M jw_fu v1 hv1)
theorem kX4_endOfName (G : jw_G) (a1 : Int) (ha1 : jw_r a1) (M : jw_M) : jw_Ct G YX4_endOfName (some .int) 2 0 0 true (fun v => (v, M)) yX4_endOfName [jR G 5, jI a1] M (fX4_endOfName a1 M) := jw_met (by decide) rfl rfl rfl (Nat.le_of_ble_eq_true rfl) (rX4_endOfName G a1 ha1 M)
abbrev YX4_isFigure : jw_Y := (RX4, cX4_isFigure, 1, 4, "isFigure")
theorem qX4_isFigure : jw_cy YX4_isFigure (some .boolean) yX4_isFigure 1 := ⟨by decide, jt_544, jt_4, by decide, by decide +kernel⟩
theorem dX4_isFigure_0 : decode cX4_isFigure 0 = .ok (.iload_n 0, 1) := by decide +kernel
theorem dX4_isFigure_1 : decode cX4_isFigure 1 = .ok (.bipush 48, 2) := by decide +kernel
theorem dX4_isFigure_3 : decode cX4_isFigure 3 = .ok (.if_icmp .lt 13, 3) := by decide +kernel
theorem dX4_isFigure_6 : decode cX4_isFigure 6 = .ok (.iload_n 0, 1) := by decide +kernel
theorem dX4_isFigure_7 : decode cX4_isFigure 7 = .ok (.bipush 57, 2) := by decide +kernel
theorem dX4_isFigure_9 : decode cX4_isFigure 9 = .ok (.if_icmp .gt 7, 3) := by decide +kernel
theorem dX4_isFigure_12 : decode cX4_isFigure 12 = .ok (.iconst 1, 1) := by decide +kernel
theorem dX4_isFigure_13 : decode cX4_isFigure 13 = .ok (.goto 4, 3) := by decide +kernel
theorem dX4_isFigure_16 : decode cX4_isFigure 16 = .ok (.iconst 0, 1) := by decide +kernel
theorem dX4_isFigure_17 : decode cX4_isFigure 17 = .ok (.ireturn, 1) := by decide +kernel
def fX4_isFigure (a1 : Int) (M : jw_M) : Option Int :=
  if a1 < 48 then (some 0) else (if (57 : Int) < a1 then (some 0) else (some 1))
set_option maxRecDepth 100000 in
theorem rX4_isFigure (G : jw_G) (a1 : Int) (ha1 : jw_r a1) (M : jw_M) : jw_Rn G YX4_isFigure 1 0 0 true (fun v => (v, M)) 0 [(0, jI a1)] [] M (fX4_isFigure a1 M) := by
  unfold fX4_isFigure
  refine jw_iload_n (pc := 0) 0 dX4_isFigure_0 rfl ?_
  refine jw_bipush (pc := 1) dX4_isFigure_1 rfl ?_
  refine jw_ic_lt (pc := 3) 16 dX4_isFigure_3 (by decide) ha1 (jw_rc _ rfl) (fun _ => ?_) (fun _ => ?_)
  · refine jw_iconst (pc := 16) dX4_isFigure_16 ?_
    exact jw_ret (pc := 17) (v := 0) dX4_isFigure_17 (Or.inl rfl) rfl rfl
  · refine jw_iload_n (pc := 6) 0 dX4_isFigure_6 rfl ?_
    refine jw_bipush (pc := 7) dX4_isFigure_7 rfl ?_
    refine jw_ic_gt (pc := 9) 16 dX4_isFigure_9 (by decide) ha1 (jw_rc _ rfl) (fun _ => ?_) (fun _ => ?_)
    · refine jw_iconst (pc := 16) dX4_isFigure_16 ?_
      exact jw_ret (pc := 17) (v := 0) dX4_isFigure_17 (Or.inl rfl) rfl rfl
    · refine jw_iconst (pc := 12) dX4_isFigure_12 ?_
      refine jw_goto (pc := 13) 17 dX4_isFigure_13 (by decide) ?_
      exact jw_ret (pc := 17) (v := 1) dX4_isFigure_17 (Or.inr rfl) rfl rfl
theorem kX4_isFigure (G : jw_G) (a1 : Int) (ha1 : jw_r a1) (M : jw_M) : jw_Ct G YX4_isFigure (some .boolean) 1 0 0 true (fun v => (v, M)) yX4_isFigure [jI a1] M (fX4_isFigure a1 M) := jw_met (by decide) rfl rfl rfl (Nat.le_of_ble_eq_true rfl) (rX4_isFigure G a1 ha1 M)
abbrev YX4_takeNumber : jw_Y := (RX4, cX4_takeNumber, 3, 0, "takeNumber")
theorem qX4_takeNumber : jw_cy YX4_takeNumber none yX4_takeNumber 1 := ⟨by decide, jt_548, jt_4, by decide, by decide +kernel⟩
theorem dX4_takeNumber_0 : decode cX4_takeNumber 0 = .ok (.iload_n 1, 1) := by decide +kernel
theorem dX4_takeNumber_1 : decode cX4_takeNumber 1 = .ok (.istore_n 2, 1) := by decide +kernel
theorem dX4_takeNumber_2 : decode cX4_takeNumber 2 = .ok (.aload_n 0, 1) := by decide +kernel
theorem dX4_takeNumber_3 : decode cX4_takeNumber 3 = .ok (.iconst 0, 1) := by decide +kernel
theorem dX4_takeNumber_4 : decode cX4_takeNumber 4 = .ok (.putfield 83, 3) := by decide +kernel
theorem dX4_takeNumber_7 : decode cX4_takeNumber 7 = .ok (.iload_n 2, 1) := by decide +kernel
theorem dX4_takeNumber_8 : decode cX4_takeNumber 8 = .ok (.aload_n 0, 1) := by decide +kernel
theorem dX4_takeNumber_9 : decode cX4_takeNumber 9 = .ok (.getfield 15, 3) := by decide +kernel
theorem dX4_takeNumber_12 : decode cX4_takeNumber 12 = .ok (.if_icmp .ge 49, 3) := by decide +kernel
theorem dX4_takeNumber_15 : decode cX4_takeNumber 15 = .ok (.aload_n 0, 1) := by decide +kernel
theorem dX4_takeNumber_16 : decode cX4_takeNumber 16 = .ok (.getfield 11, 3) := by decide +kernel
theorem dX4_takeNumber_19 : decode cX4_takeNumber 19 = .ok (.iload_n 2, 1) := by decide +kernel
theorem dX4_takeNumber_20 : decode cX4_takeNumber 20 = .ok (.baload, 1) := by decide +kernel
theorem dX4_takeNumber_21 : decode cX4_takeNumber 21 = .ok (.invokestatic 134, 3) := by decide +kernel
theorem dX4_takeNumber_24 : decode cX4_takeNumber 24 = .ok (.ifCond .eq 37, 3) := by decide +kernel
theorem dX4_takeNumber_27 : decode cX4_takeNumber 27 = .ok (.iload_n 2, 1) := by decide +kernel
theorem dX4_takeNumber_28 : decode cX4_takeNumber 28 = .ok (.iload_n 1, 1) := by decide +kernel
theorem dX4_takeNumber_29 : decode cX4_takeNumber 29 = .ok (.isub, 1) := by decide +kernel
theorem dX4_takeNumber_30 : decode cX4_takeNumber 30 = .ok (.iconst 3, 1) := by decide +kernel
theorem dX4_takeNumber_31 : decode cX4_takeNumber 31 = .ok (.if_icmp .ge 24, 3) := by decide +kernel
theorem dX4_takeNumber_34 : decode cX4_takeNumber 34 = .ok (.aload_n 0, 1) := by decide +kernel
theorem dX4_takeNumber_35 : decode cX4_takeNumber 35 = .ok (.bipush 10, 2) := by decide +kernel
theorem dX4_takeNumber_37 : decode cX4_takeNumber 37 = .ok (.aload_n 0, 1) := by decide +kernel
theorem dX4_takeNumber_38 : decode cX4_takeNumber 38 = .ok (.getfield 83, 3) := by decide +kernel
theorem dX4_takeNumber_41 : decode cX4_takeNumber 41 = .ok (.imul, 1) := by decide +kernel
theorem dX4_takeNumber_42 : decode cX4_takeNumber 42 = .ok (.aload_n 0, 1) := by decide +kernel
theorem dX4_takeNumber_43 : decode cX4_takeNumber 43 = .ok (.getfield 11, 3) := by decide +kernel
theorem dX4_takeNumber_46 : decode cX4_takeNumber 46 = .ok (.iload_n 2, 1) := by decide +kernel
theorem dX4_takeNumber_47 : decode cX4_takeNumber 47 = .ok (.baload, 1) := by decide +kernel
theorem dX4_takeNumber_48 : decode cX4_takeNumber 48 = .ok (.iadd, 1) := by decide +kernel
theorem dX4_takeNumber_49 : decode cX4_takeNumber 49 = .ok (.bipush 48, 2) := by decide +kernel
theorem dX4_takeNumber_51 : decode cX4_takeNumber 51 = .ok (.isub, 1) := by decide +kernel
theorem dX4_takeNumber_52 : decode cX4_takeNumber 52 = .ok (.putfield 83, 3) := by decide +kernel
theorem dX4_takeNumber_55 : decode cX4_takeNumber 55 = .ok (.iinc 2 1, 3) := by decide +kernel
theorem dX4_takeNumber_58 : decode cX4_takeNumber 58 = .ok (.goto (-51), 3) := by decide +kernel
theorem dX4_takeNumber_61 : decode cX4_takeNumber 61 = .ok (.aload_n 0, 1) := by decide +kernel
theorem dX4_takeNumber_62 : decode cX4_takeNumber 62 = .ok (.iload_n 2, 1) := by decide +kernel
theorem dX4_takeNumber_63 : decode cX4_takeNumber 63 = .ok (.putfield 40, 3) := by decide +kernel
theorem dX4_takeNumber_66 : decode cX4_takeNumber 66 = .ok (.aload_n 0, 1) := by decide +kernel
theorem dX4_takeNumber_67 : decode cX4_takeNumber 67 = .ok (.iload_n 2, 1) := by decide +kernel
theorem dX4_takeNumber_68 : decode cX4_takeNumber 68 = .ok (.iload_n 1, 1) := by decide +kernel
theorem dX4_takeNumber_69 : decode cX4_takeNumber 69 = .ok (.isub, 1) := by decide +kernel
theorem dX4_takeNumber_70 : decode cX4_takeNumber 70 = .ok (.iconst 3, 1) := by decide +kernel
theorem dX4_takeNumber_71 : decode cX4_takeNumber 71 = .ok (.if_icmp .gt 7, 3) := by decide +kernel
theorem dX4_takeNumber_74 : decode cX4_takeNumber 74 = .ok (.iconst 2, 1) := by decide +kernel
theorem dX4_takeNumber_75 : decode cX4_takeNumber 75 = .ok (.goto 4, 3) := by decide +kernel
theorem dX4_takeNumber_78 : decode cX4_takeNumber 78 = .ok (.iconst 4, 1) := by decide +kernel
theorem dX4_takeNumber_79 : decode cX4_takeNumber 79 = .ok (.putfield 46, 3) := by decide +kernel
theorem dX4_takeNumber_82 : decode cX4_takeNumber 82 = .ok (.return_, 1) := by decide +kernel
def fX4_takeNumber_79 (xs0 : Int) (M : jw_M) : Option jw_M :=
  Option.bind (some (jw_up M 5 4 xs0)) (fun M7 => some M7)
set_option maxRecDepth 100000 in
theorem pX4_takeNumber_79 (G : jw_G) : ∀ (xs0 : Int) (hxs0 : jw_r xs0) (M : jw_M), jw_Rn G YX4_takeNumber 2 0 0 true (fun M1 => (0, M1)) 79 [] [jI xs0, jR G 5] M (fX4_takeNumber_79 xs0 M) := by
  intro xs0 hxs0 M
  unfold fX4_takeNumber_79
  refine jw_putI (pc := 79) (j := 4) tyX4 rfl dX4_takeNumber_79 jv_4 ji_4 tyX4_ok nmX4 (Or.inl jt_60) rfl jg_5 jl_5 (by decide) (by decide) (jw_ho jg_5 (by decide)) rfl rfl hxs0 rfl ?_
  refine jw_letM (fun M7 => ?_)
  exact jw_ret (pc := 82) (v := 0) dX4_takeNumber_82 trivial rfl rfl
def fX4_takeNumber_61 (x1 : Int) (x2 : Int) (M : jw_M) : Option jw_M :=
  Option.bind (some (jw_up M 5 3 x2)) (fun M6 => if (3 : Int) < jw_w (x2 - x1) then (fX4_takeNumber_79 4 M6) else (fX4_takeNumber_79 2 M6))
set_option maxRecDepth 100000 in
theorem pX4_takeNumber_61 (G : jw_G) : ∀ (x1 : Int) (x2 : Int) (hx1 : jw_r x1) (hx2 : jw_r x2) (M : jw_M), jw_Rn G YX4_takeNumber 2 0 0 true (fun M1 => (0, M1)) 61 [(0, jR G 5), (1, jI x1), (2, jI x2)] [] M (fX4_takeNumber_61 x1 x2 M) := by
  intro x1 x2 hx1 hx2 M
  unfold fX4_takeNumber_61
  refine jw_aloadR (pc := 61) 0 dX4_takeNumber_61 rfl ?_
  refine jw_iload_n (pc := 62) 2 dX4_takeNumber_62 rfl ?_
  refine jw_putI (pc := 63) (j := 3) tyX4 rfl dX4_takeNumber_63 jv_4 ji_4 tyX4_ok nmX4 (Or.inl jt_59) rfl jg_5 jl_5 (by decide) (by decide) (jw_ho jg_5 (by decide)) rfl rfl hx2 rfl ?_
  refine jw_letM (fun M6 => ?_)
  refine jw_aloadR (pc := 66) 0 dX4_takeNumber_66 rfl ?_
  refine jw_iload_n (pc := 67) 2 dX4_takeNumber_67 rfl ?_
  refine jw_iload_n (pc := 68) 1 dX4_takeNumber_68 rfl ?_
  refine jw_isub (pc := 69) dX4_takeNumber_69 ?_
  refine jw_iconst (pc := 70) dX4_takeNumber_70 ?_
  refine jw_ic_gt (pc := 71) 78 dX4_takeNumber_71 (by decide) (jw_wr _) (jw_rc _ rfl) (fun _ => ?_) (fun _ => ?_)
  · refine jw_iconst (pc := 78) dX4_takeNumber_78 ?_
    exact jw_few [] rfl (pX4_takeNumber_79 G 4 (jw_rc _ rfl) M6)
  · refine jw_iconst (pc := 74) dX4_takeNumber_74 ?_
    refine jw_goto (pc := 75) 79 dX4_takeNumber_75 (by decide) ?_
    exact jw_few [] rfl (pX4_takeNumber_79 G 2 (jw_rc _ rfl) M6)
def fX4_takeNumber_55 (r7 : Int → Int → jw_M → Option jw_M) (x1 : Int) (x2 : Int) (M : jw_M) : Option jw_M :=
  Option.bind (some (jw_w (x2 + 1))) (fun v11 => r7 x1 v11 M)
set_option maxRecDepth 100000 in
theorem pX4_takeNumber_55 (G : jw_G) (r7 : Int → Int → jw_M → Option jw_M) (hr7 : ∀ (x1 : Int) (x2 : Int) (hx1 : jw_r x1) (hx2 : jw_r x2) (M : jw_M), jw_Rn G YX4_takeNumber 2 0 0 true (fun M1 => (0, M1)) 7 [(0, jR G 5), (1, jI x1), (2, jI x2)] [] M (r7 x1 x2 M)) : ∀ (x1 : Int) (x2 : Int) (hx1 : jw_r x1) (hx2 : jw_r x2) (M : jw_M), jw_Rn G YX4_takeNumber 2 0 0 true (fun M1 => (0, M1)) 55 [(0, jR G 5), (1, jI x1), (2, jI x2)] [] M (fX4_takeNumber_55 r7 x1 x2 M) := by
  intro x1 x2 hx1 hx2 M
  unfold fX4_takeNumber_55
  refine jw_iincL (pc := 55) 2 (lv' := (fun y => [(2, y), (0, jR G 5), (1, jI x1)])) dX4_takeNumber_55 rfl (Nat.le_of_ble_eq_true rfl) (fun _ => rfl) (fun v11 hv11 => ?_)
  refine jw_goto (pc := 58) 7 dX4_takeNumber_58 (by decide) ?_
  exact jw_few [1, 2, 0] rfl (hr7 x1 v11 hx1 hv11 M)
def fX4_takeNumber_7 : Nat → Int → Int → jw_M → Option jw_M
  | 0, _, _, _ => none
  | k + 1, x1, x2, M => if x2 < M 5 1 then (if 0 ≤ x2 ∧ x2 < 600 then Option.bind (fX4_isFigure (M 6 x2) M) (fun v5 => if v5 = 0 then (fX4_takeNumber_61 x1 x2 M) else (if jw_w (x2 - x1) < 3 then (if 0 ≤ x2 ∧ x2 < 600 then Option.bind (some (jw_up M 5 5 (jw_w ((jw_w ((jw_w (10 * (M 5 5))) + (M 6 x2))) - 48)))) (fun M10 => fX4_takeNumber_55 (fX4_takeNumber_7 k) x1 x2 M10) else none) else (fX4_takeNumber_55 (fX4_takeNumber_7 k) x1 x2 M))) else none) else (fX4_takeNumber_61 x1 x2 M)
set_option maxRecDepth 100000 in
theorem pX4_takeNumber_7 (G : jw_G) : ∀ (k : Nat) (x1 : Int) (x2 : Int) (hx1 : jw_r x1) (hx2 : jw_r x2) (M : jw_M), jw_Rn G YX4_takeNumber 2 0 0 true (fun M1 => (0, M1)) 7 [(0, jR G 5), (1, jI x1), (2, jI x2)] [] M (fX4_takeNumber_7 k x1 x2 M) := by
  intro k
  induction k with
  | zero =>
    intro x1 x2 hx1 hx2 M
    exact jw_none
  | succ k ih =>
    intro x1 x2 hx1 hx2 M
    rw [fX4_takeNumber_7]
    refine jw_iload_n (pc := 7) 2 dX4_takeNumber_7 rfl ?_
    refine jw_aloadR (pc := 8) 0 dX4_takeNumber_8 rfl ?_
    refine jw_getI (pc := 9) (j := 1) rfl dX4_takeNumber_9 jv_4 ji_4 (Or.inl jt_57) jg_5 jl_5 (by decide) (by decide) (jw_ho jg_5 (by decide)) (Or.inl rfl) rfl (fun h3 => ?_)
    refine jw_ic_ge (pc := 12) 61 dX4_takeNumber_12 (by decide) hx2 h3 (fun _ => ?_) (fun _ => ?_)
    · refine jw_aloadR (pc := 15) 0 dX4_takeNumber_15 rfl ?_
      refine jw_getR (pc := 16) (j := 0) rfl dX4_takeNumber_16 jv_4 ji_4 (Or.inl jt_56) jg_5 jl_5 (by decide) (by decide) rfl jf_4_0 ?_
      refine jw_iload_n (pc := 19) 2 dX4_takeNumber_19 rfl ?_
      refine jw_bald (pc := 20) dX4_takeNumber_20 jg_6 jl_6 (jw_ho jg_6 (by decide)) hx2 rfl (fun h4 => ?_)
      refine jw_callSz (pc := 21) (As := [jI (M 6 x2)]) (st := []) dX4_takeNumber_21 rfl (Nat.le_of_ble_eq_true rfl) qX4_isFigure jt_542 jt_543 rfl rfl (Nat.le_of_ble_eq_true rfl) (kX4_isFigure G (M 6 x2) h4 M) (fun v5 hv5 => ?_)
      refine jw_if_eq (pc := 24) 61 dX4_takeNumber_24 (by decide) (jw_bz hv5) (fun _ => ?_) (fun _ => ?_)
      · exact jw_few [0, 1, 2] rfl (pX4_takeNumber_61 G x1 x2 hx1 hx2 M)
      · refine jw_iload_n (pc := 27) 2 dX4_takeNumber_27 rfl ?_
        refine jw_iload_n (pc := 28) 1 dX4_takeNumber_28 rfl ?_
        refine jw_isub (pc := 29) dX4_takeNumber_29 ?_
        refine jw_iconst (pc := 30) dX4_takeNumber_30 ?_
        refine jw_ic_ge (pc := 31) 55 dX4_takeNumber_31 (by decide) (jw_wr _) (jw_rc _ rfl) (fun _ => ?_) (fun _ => ?_)
        · refine jw_aloadR (pc := 34) 0 dX4_takeNumber_34 rfl ?_
          refine jw_bipush (pc := 35) dX4_takeNumber_35 rfl ?_
          refine jw_aloadR (pc := 37) 0 dX4_takeNumber_37 rfl ?_
          refine jw_getI (pc := 38) (j := 5) rfl dX4_takeNumber_38 jv_4 ji_4 (Or.inl jt_61) jg_5 jl_5 (by decide) (by decide) (jw_ho jg_5 (by decide)) (Or.inl rfl) rfl (fun h8 => ?_)
          refine jw_imul (pc := 41) dX4_takeNumber_41 ?_
          refine jw_aloadR (pc := 42) 0 dX4_takeNumber_42 rfl ?_
          refine jw_getR (pc := 43) (j := 0) rfl dX4_takeNumber_43 jv_4 ji_4 (Or.inl jt_56) jg_5 jl_5 (by decide) (by decide) rfl jf_4_0 ?_
          refine jw_iload_n (pc := 46) 2 dX4_takeNumber_46 rfl ?_
          refine jw_bald (pc := 47) dX4_takeNumber_47 jg_6 jl_6 (jw_ho jg_6 (by decide)) hx2 rfl (fun h9 => ?_)
          refine jw_iadd (pc := 48) dX4_takeNumber_48 ?_
          refine jw_bipush (pc := 49) dX4_takeNumber_49 rfl ?_
          refine jw_isub (pc := 51) dX4_takeNumber_51 ?_
          refine jw_putI (pc := 52) (j := 5) tyX4 rfl dX4_takeNumber_52 jv_4 ji_4 tyX4_ok nmX4 (Or.inl jt_61) rfl jg_5 jl_5 (by decide) (by decide) (jw_ho jg_5 (by decide)) rfl rfl (jw_wr _) rfl ?_
          refine jw_letM (fun M10 => ?_)
          exact jw_few [0, 1, 2] rfl (pX4_takeNumber_55 G (fX4_takeNumber_7 k) ih x1 x2 hx1 hx2 M10)
        · exact jw_few [0, 1, 2] rfl (pX4_takeNumber_55 G (fX4_takeNumber_7 k) ih x1 x2 hx1 hx2 M)
    · exact jw_few [0, 1, 2] rfl (pX4_takeNumber_61 G x1 x2 hx1 hx2 M)
def fX4_takeNumber (a1 : Int) (M : jw_M) : Option jw_M :=
  Option.bind (some a1) (fun v1 => Option.bind (some (jw_up M 5 5 0)) (fun M2 => fX4_takeNumber_7 jw_fu a1 v1 M2))
set_option maxRecDepth 100000 in
theorem rX4_takeNumber (G : jw_G) (a1 : Int) (ha1 : jw_r a1) (M : jw_M) : jw_Rn G YX4_takeNumber 2 0 0 true (fun M1 => (0, M1)) 0 [(0, jR G 5), (1, jI a1)] [] M (fX4_takeNumber a1 M) := by
  unfold fX4_takeNumber
  refine jw_iload_n (pc := 0) 1 dX4_takeNumber_0 rfl ?_
  refine jw_istore_nL (pc := 1) (lv' := (fun y => [(2, y), (0, jR G 5), (1, jI a1)])) dX4_takeNumber_1 ha1 (by decide) (fun _ => rfl) (fun v1 hv1 => ?_)
  refine jw_aloadR (pc := 2) 1 dX4_takeNumber_2 rfl ?_
  refine jw_iconst (pc := 3) dX4_takeNumber_3 ?_
  refine jw_putI (pc := 4) (j := 5) tyX4 rfl dX4_takeNumber_4 jv_4 ji_4 tyX4_ok nmX4 (Or.inl jt_61) rfl jg_5 jl_5 (by decide) (by decide) (jw_ho jg_5 (by decide)) rfl rfl (jw_rc _ rfl) rfl ?_
  refine jw_letM (fun M2 => ?_)
  exact jw_few [1, 2, 0] rfl (pX4_takeNumber_7 G jw_fu a1 v1 ha1 hv1 M2)
theorem kX4_takeNumber (G : jw_G) (a1 : Int) (ha1 : jw_r a1) (M : jw_M) : jw_Ct G YX4_takeNumber none 2 0 0 true (fun M1 => (0, M1)) yX4_takeNumber [jR G 5, jI a1] M (fX4_takeNumber a1 M) := jw_met (by decide) rfl rfl rfl (Nat.le_of_ble_eq_true rfl) (rX4_takeNumber G a1 ha1 M)
abbrev YX4_nextToken : jw_Y := (RX4, cX4_nextToken, 2, 0, "nextToken")
theorem qX4_nextToken : jw_cy YX4_nextToken none yX4_nextToken 0 := ⟨by decide, jt_534, jt_4, by decide, by decide +kernel⟩
theorem dX4_nextToken_0 : decode cX4_nextToken 0 = .ok (.aload_n 0, 1) := by decide +kernel
theorem dX4_nextToken_1 : decode cX4_nextToken 1 = .ok (.getfield 40, 3) := by decide +kernel
theorem dX4_nextToken_4 : decode cX4_nextToken 4 = .ok (.istore_n 1, 1) := by decide +kernel
theorem dX4_nextToken_5 : decode cX4_nextToken 5 = .ok (.iload_n 1, 1) := by decide +kernel
theorem dX4_nextToken_6 : decode cX4_nextToken 6 = .ok (.aload_n 0, 1) := by decide +kernel
theorem dX4_nextToken_7 : decode cX4_nextToken 7 = .ok (.getfield 15, 3) := by decide +kernel
theorem dX4_nextToken_10 : decode cX4_nextToken 10 = .ok (.if_icmp .ge 31, 3) := by decide +kernel
theorem dX4_nextToken_13 : decode cX4_nextToken 13 = .ok (.aload_n 0, 1) := by decide +kernel
theorem dX4_nextToken_14 : decode cX4_nextToken 14 = .ok (.getfield 11, 3) := by decide +kernel
theorem dX4_nextToken_17 : decode cX4_nextToken 17 = .ok (.iload_n 1, 1) := by decide +kernel
theorem dX4_nextToken_18 : decode cX4_nextToken 18 = .ok (.baload, 1) := by decide +kernel
theorem dX4_nextToken_19 : decode cX4_nextToken 19 = .ok (.bipush 32, 2) := by decide +kernel
theorem dX4_nextToken_21 : decode cX4_nextToken 21 = .ok (.if_icmp .eq 14, 3) := by decide +kernel
theorem dX4_nextToken_24 : decode cX4_nextToken 24 = .ok (.aload_n 0, 1) := by decide +kernel
theorem dX4_nextToken_25 : decode cX4_nextToken 25 = .ok (.getfield 11, 3) := by decide +kernel
theorem dX4_nextToken_28 : decode cX4_nextToken 28 = .ok (.iload_n 1, 1) := by decide +kernel
theorem dX4_nextToken_29 : decode cX4_nextToken 29 = .ok (.baload, 1) := by decide +kernel
theorem dX4_nextToken_30 : decode cX4_nextToken 30 = .ok (.bipush 10, 2) := by decide +kernel
theorem dX4_nextToken_32 : decode cX4_nextToken 32 = .ok (.if_icmp .ne 9, 3) := by decide +kernel
theorem dX4_nextToken_35 : decode cX4_nextToken 35 = .ok (.iinc 1 1, 3) := by decide +kernel
theorem dX4_nextToken_38 : decode cX4_nextToken 38 = .ok (.goto (-33), 3) := by decide +kernel
theorem dX4_nextToken_41 : decode cX4_nextToken 41 = .ok (.aload_n 0, 1) := by decide +kernel
theorem dX4_nextToken_42 : decode cX4_nextToken 42 = .ok (.iload_n 1, 1) := by decide +kernel
theorem dX4_nextToken_43 : decode cX4_nextToken 43 = .ok (.putfield 26, 3) := by decide +kernel
theorem dX4_nextToken_46 : decode cX4_nextToken 46 = .ok (.aload_n 0, 1) := by decide +kernel
theorem dX4_nextToken_47 : decode cX4_nextToken 47 = .ok (.iload_n 1, 1) := by decide +kernel
theorem dX4_nextToken_48 : decode cX4_nextToken 48 = .ok (.iconst 1, 1) := by decide +kernel
theorem dX4_nextToken_49 : decode cX4_nextToken 49 = .ok (.iadd, 1) := by decide +kernel
theorem dX4_nextToken_50 : decode cX4_nextToken 50 = .ok (.putfield 40, 3) := by decide +kernel
theorem dX4_nextToken_53 : decode cX4_nextToken 53 = .ok (.iload_n 1, 1) := by decide +kernel
theorem dX4_nextToken_54 : decode cX4_nextToken 54 = .ok (.aload_n 0, 1) := by decide +kernel
theorem dX4_nextToken_55 : decode cX4_nextToken 55 = .ok (.getfield 15, 3) := by decide +kernel
theorem dX4_nextToken_58 : decode cX4_nextToken 58 = .ok (.if_icmp .lt 16, 3) := by decide +kernel
theorem dX4_nextToken_61 : decode cX4_nextToken 61 = .ok (.aload_n 0, 1) := by decide +kernel
theorem dX4_nextToken_62 : decode cX4_nextToken 62 = .ok (.iload_n 1, 1) := by decide +kernel
theorem dX4_nextToken_63 : decode cX4_nextToken 63 = .ok (.putfield 40, 3) := by decide +kernel
theorem dX4_nextToken_66 : decode cX4_nextToken 66 = .ok (.aload_n 0, 1) := by decide +kernel
theorem dX4_nextToken_67 : decode cX4_nextToken 67 = .ok (.iconst 0, 1) := by decide +kernel
theorem dX4_nextToken_68 : decode cX4_nextToken 68 = .ok (.putfield 46, 3) := by decide +kernel
theorem dX4_nextToken_71 : decode cX4_nextToken 71 = .ok (.goto 72, 3) := by decide +kernel
theorem dX4_nextToken_74 : decode cX4_nextToken 74 = .ok (.aload_n 0, 1) := by decide +kernel
theorem dX4_nextToken_75 : decode cX4_nextToken 75 = .ok (.getfield 11, 3) := by decide +kernel
theorem dX4_nextToken_78 : decode cX4_nextToken 78 = .ok (.iload_n 1, 1) := by decide +kernel
theorem dX4_nextToken_79 : decode cX4_nextToken 79 = .ok (.baload, 1) := by decide +kernel
theorem dX4_nextToken_80 : decode cX4_nextToken 80 = .ok (.invokestatic 126, 3) := by decide +kernel
theorem dX4_nextToken_83 : decode cX4_nextToken 83 = .ok (.ifCond .eq 20, 3) := by decide +kernel
theorem dX4_nextToken_86 : decode cX4_nextToken 86 = .ok (.aload_n 0, 1) := by decide +kernel
theorem dX4_nextToken_87 : decode cX4_nextToken 87 = .ok (.iconst 1, 1) := by decide +kernel
theorem dX4_nextToken_88 : decode cX4_nextToken 88 = .ok (.putfield 46, 3) := by decide +kernel
theorem dX4_nextToken_91 : decode cX4_nextToken 91 = .ok (.aload_n 0, 1) := by decide +kernel
theorem dX4_nextToken_92 : decode cX4_nextToken 92 = .ok (.aload_n 0, 1) := by decide +kernel
theorem dX4_nextToken_93 : decode cX4_nextToken 93 = .ok (.iload_n 1, 1) := by decide +kernel
theorem dX4_nextToken_94 : decode cX4_nextToken 94 = .ok (.invokevirtual 130, 3) := by decide +kernel
theorem dX4_nextToken_97 : decode cX4_nextToken 97 = .ok (.putfield 40, 3) := by decide +kernel
theorem dX4_nextToken_100 : decode cX4_nextToken 100 = .ok (.goto 43, 3) := by decide +kernel
theorem dX4_nextToken_103 : decode cX4_nextToken 103 = .ok (.aload_n 0, 1) := by decide +kernel
theorem dX4_nextToken_104 : decode cX4_nextToken 104 = .ok (.getfield 11, 3) := by decide +kernel
theorem dX4_nextToken_107 : decode cX4_nextToken 107 = .ok (.iload_n 1, 1) := by decide +kernel
theorem dX4_nextToken_108 : decode cX4_nextToken 108 = .ok (.baload, 1) := by decide +kernel
theorem dX4_nextToken_109 : decode cX4_nextToken 109 = .ok (.invokestatic 134, 3) := by decide +kernel
theorem dX4_nextToken_112 : decode cX4_nextToken 112 = .ok (.ifCond .eq 11, 3) := by decide +kernel
theorem dX4_nextToken_115 : decode cX4_nextToken 115 = .ok (.aload_n 0, 1) := by decide +kernel
theorem dX4_nextToken_116 : decode cX4_nextToken 116 = .ok (.iload_n 1, 1) := by decide +kernel
theorem dX4_nextToken_117 : decode cX4_nextToken 117 = .ok (.invokevirtual 137, 3) := by decide +kernel
theorem dX4_nextToken_120 : decode cX4_nextToken 120 = .ok (.goto 23, 3) := by decide +kernel
theorem dX4_nextToken_123 : decode cX4_nextToken 123 = .ok (.aload_n 0, 1) := by decide +kernel
theorem dX4_nextToken_124 : decode cX4_nextToken 124 = .ok (.aload_n 0, 1) := by decide +kernel
theorem dX4_nextToken_125 : decode cX4_nextToken 125 = .ok (.getfield 11, 3) := by decide +kernel
theorem dX4_nextToken_128 : decode cX4_nextToken 128 = .ok (.iload_n 1, 1) := by decide +kernel
theorem dX4_nextToken_129 : decode cX4_nextToken 129 = .ok (.baload, 1) := by decide +kernel
theorem dX4_nextToken_130 : decode cX4_nextToken 130 = .ok (.bipush 59, 2) := by decide +kernel
theorem dX4_nextToken_132 : decode cX4_nextToken 132 = .ok (.if_icmp .ne 7, 3) := by decide +kernel
theorem dX4_nextToken_135 : decode cX4_nextToken 135 = .ok (.iconst 3, 1) := by decide +kernel
theorem dX4_nextToken_136 : decode cX4_nextToken 136 = .ok (.goto 4, 3) := by decide +kernel
theorem dX4_nextToken_139 : decode cX4_nextToken 139 = .ok (.iconst 4, 1) := by decide +kernel
theorem dX4_nextToken_140 : decode cX4_nextToken 140 = .ok (.putfield 46, 3) := by decide +kernel
theorem dX4_nextToken_143 : decode cX4_nextToken 143 = .ok (.return_, 1) := by decide +kernel
def fX4_nextToken_35 (r5 : Int → jw_M → Option jw_M) (x1 : Int) (M : jw_M) : Option jw_M :=
  Option.bind (some (jw_w (x1 + 1))) (fun v5 => r5 v5 M)
set_option maxRecDepth 100000 in
theorem pX4_nextToken_35 (G : jw_G) (r5 : Int → jw_M → Option jw_M) (hr5 : ∀ (x1 : Int) (hx1 : jw_r x1) (M : jw_M), jw_Rn G YX4_nextToken 3 0 0 true (fun M1 => (0, M1)) 5 [(0, jR G 5), (1, jI x1)] [] M (r5 x1 M)) : ∀ (x1 : Int) (hx1 : jw_r x1) (M : jw_M), jw_Rn G YX4_nextToken 3 0 0 true (fun M1 => (0, M1)) 35 [(0, jR G 5), (1, jI x1)] [] M (fX4_nextToken_35 r5 x1 M) := by
  intro x1 hx1 M
  unfold fX4_nextToken_35
  refine jw_iincL (pc := 35) 1 (lv' := (fun y => [(1, y), (0, jR G 5)])) dX4_nextToken_35 rfl (Nat.le_of_ble_eq_true rfl) (fun _ => rfl) (fun v5 hv5 => ?_)
  refine jw_goto (pc := 38) 5 dX4_nextToken_38 (by decide) ?_
  exact jw_few [1, 0] rfl (hr5 v5 hv5 M)
def fX4_nextToken_140 (xs0 : Int) (M : jw_M) : Option jw_M :=
  Option.bind (some (jw_up M 5 4 xs0)) (fun M15 => some M15)
set_option maxRecDepth 100000 in
theorem pX4_nextToken_140 (G : jw_G) : ∀ (xs0 : Int) (hxs0 : jw_r xs0) (M : jw_M), jw_Rn G YX4_nextToken 3 0 0 true (fun M1 => (0, M1)) 140 [] [jI xs0, jR G 5] M (fX4_nextToken_140 xs0 M) := by
  intro xs0 hxs0 M
  unfold fX4_nextToken_140
  refine jw_putI (pc := 140) (j := 4) tyX4 rfl dX4_nextToken_140 jv_4 ji_4 tyX4_ok nmX4 (Or.inl jt_60) rfl jg_5 jl_5 (by decide) (by decide) (jw_ho jg_5 (by decide)) rfl rfl hxs0 rfl ?_
  refine jw_letM (fun M15 => ?_)
  exact jw_ret (pc := 143) (v := 0) dX4_nextToken_143 trivial rfl rfl
def fX4_nextToken_41 (x1 : Int) (M : jw_M) : Option jw_M :=
  Option.bind (some (jw_up M 5 2 x1)) (fun M7 => Option.bind (some (jw_up M7 5 3 (jw_w (x1 + 1)))) (fun M8 => if x1 < M8 5 1 then (if 0 ≤ x1 ∧ x1 < 600 then Option.bind (fX4_isLetter (M8 6 x1) M8) (fun v11 => if v11 = 0 then (if 0 ≤ x1 ∧ x1 < 600 then Option.bind (fX4_isFigure (M8 6 x1) M8) (fun v13 => if v13 = 0 then (if 0 ≤ x1 ∧ x1 < 600 then if M8 6 x1 = 59 then (fX4_nextToken_140 3 M8) else (fX4_nextToken_140 4 M8) else none) else (Option.bind (fX4_takeNumber x1 M8) (fun M16 => some M16))) else none) else (Option.bind (some (jw_up M8 5 4 1)) (fun M17 => Option.bind (fX4_endOfName x1 M17) (fun v18 => Option.bind (some (jw_up M17 5 3 v18)) (fun M19 => some M19))))) else none) else (Option.bind (some (jw_up M8 5 3 x1)) (fun M20 => Option.bind (some (jw_up M20 5 4 0)) (fun M21 => some M21)))))
set_option maxRecDepth 100000 in
theorem pX4_nextToken_41 (G : jw_G) : ∀ (x1 : Int) (hx1 : jw_r x1) (M : jw_M), jw_Rn G YX4_nextToken 3 0 0 true (fun M1 => (0, M1)) 41 [(0, jR G 5), (1, jI x1)] [] M (fX4_nextToken_41 x1 M) := by
  intro x1 hx1 M
  unfold fX4_nextToken_41
  refine jw_aloadR (pc := 41) 0 dX4_nextToken_41 rfl ?_
  refine jw_iload_n (pc := 42) 1 dX4_nextToken_42 rfl ?_
  refine jw_putI (pc := 43) (j := 2) tyX4 rfl dX4_nextToken_43 jv_4 ji_4 tyX4_ok nmX4 (Or.inl jt_58) rfl jg_5 jl_5 (by decide) (by decide) (jw_ho jg_5 (by decide)) rfl rfl hx1 rfl ?_
  refine jw_letM (fun M7 => ?_)
  refine jw_aloadR (pc := 46) 0 dX4_nextToken_46 rfl ?_
  refine jw_iload_n (pc := 47) 1 dX4_nextToken_47 rfl ?_
  refine jw_iconst (pc := 48) dX4_nextToken_48 ?_
  refine jw_iadd (pc := 49) dX4_nextToken_49 ?_
  refine jw_putI (pc := 50) (j := 3) tyX4 rfl dX4_nextToken_50 jv_4 ji_4 tyX4_ok nmX4 (Or.inl jt_59) rfl jg_5 jl_5 (by decide) (by decide) (jw_ho jg_5 (by decide)) rfl rfl (jw_wr _) rfl ?_
  refine jw_letM (fun M8 => ?_)
  refine jw_iload_n (pc := 53) 1 dX4_nextToken_53 rfl ?_
  refine jw_aloadR (pc := 54) 0 dX4_nextToken_54 rfl ?_
  refine jw_getI (pc := 55) (j := 1) rfl dX4_nextToken_55 jv_4 ji_4 (Or.inl jt_57) jg_5 jl_5 (by decide) (by decide) (jw_ho jg_5 (by decide)) (Or.inl rfl) rfl (fun h9 => ?_)
  refine jw_ic_lt (pc := 58) 74 dX4_nextToken_58 (by decide) hx1 h9 (fun _ => ?_) (fun _ => ?_)
  · refine jw_aloadR (pc := 74) 0 dX4_nextToken_74 rfl ?_
    refine jw_getR (pc := 75) (j := 0) rfl dX4_nextToken_75 jv_4 ji_4 (Or.inl jt_56) jg_5 jl_5 (by decide) (by decide) rfl jf_4_0 ?_
    refine jw_iload_n (pc := 78) 1 dX4_nextToken_78 rfl ?_
    refine jw_bald (pc := 79) dX4_nextToken_79 jg_6 jl_6 (jw_ho jg_6 (by decide)) hx1 rfl (fun h10 => ?_)
    refine jw_callSz (pc := 80) (As := [jI (M8 6 x1)]) (st := []) dX4_nextToken_80 rfl (Nat.le_of_ble_eq_true rfl) qX4_isLetter jt_535 jt_536 rfl rfl (Nat.le_of_ble_eq_true rfl) (kX4_isLetter G (M8 6 x1) h10 M8) (fun v11 hv11 => ?_)
    refine jw_if_eq (pc := 83) 103 dX4_nextToken_83 (by decide) (jw_bz hv11) (fun _ => ?_) (fun _ => ?_)
    · refine jw_aloadR (pc := 103) 0 dX4_nextToken_103 rfl ?_
      refine jw_getR (pc := 104) (j := 0) rfl dX4_nextToken_104 jv_4 ji_4 (Or.inl jt_56) jg_5 jl_5 (by decide) (by decide) rfl jf_4_0 ?_
      refine jw_iload_n (pc := 107) 1 dX4_nextToken_107 rfl ?_
      refine jw_bald (pc := 108) dX4_nextToken_108 jg_6 jl_6 (jw_ho jg_6 (by decide)) hx1 rfl (fun h12 => ?_)
      refine jw_callSz (pc := 109) (As := [jI (M8 6 x1)]) (st := []) dX4_nextToken_109 rfl (Nat.le_of_ble_eq_true rfl) qX4_isFigure jt_542 jt_543 rfl rfl (Nat.le_of_ble_eq_true rfl) (kX4_isFigure G (M8 6 x1) h12 M8) (fun v13 hv13 => ?_)
      refine jw_if_eq (pc := 112) 123 dX4_nextToken_112 (by decide) (jw_bz hv13) (fun _ => ?_) (fun _ => ?_)
      · refine jw_aloadR (pc := 123) 0 dX4_nextToken_123 rfl ?_
        refine jw_aloadR (pc := 124) 0 dX4_nextToken_124 rfl ?_
        refine jw_getR (pc := 125) (j := 0) rfl dX4_nextToken_125 jv_4 ji_4 (Or.inl jt_56) jg_5 jl_5 (by decide) (by decide) rfl jf_4_0 ?_
        refine jw_iload_n (pc := 128) 1 dX4_nextToken_128 rfl ?_
        refine jw_bald (pc := 129) dX4_nextToken_129 jg_6 jl_6 (jw_ho jg_6 (by decide)) hx1 rfl (fun h14 => ?_)
        refine jw_bipush (pc := 130) dX4_nextToken_130 rfl ?_
        refine jw_ic_ne (pc := 132) 139 dX4_nextToken_132 (by decide) h14 (jw_rc _ rfl) (fun _ => ?_) (fun _ => ?_)
        · refine jw_iconst (pc := 135) dX4_nextToken_135 ?_
          refine jw_goto (pc := 136) 140 dX4_nextToken_136 (by decide) ?_
          exact jw_few [] rfl (pX4_nextToken_140 G 3 (jw_rc _ rfl) M8)
        · refine jw_iconst (pc := 139) dX4_nextToken_139 ?_
          exact jw_few [] rfl (pX4_nextToken_140 G 4 (jw_rc _ rfl) M8)
      · refine jw_aloadR (pc := 115) 0 dX4_nextToken_115 rfl ?_
        refine jw_iload_n (pc := 116) 1 dX4_nextToken_116 rfl ?_
        refine jw_callVM (pc := 117) (As := [jI x1]) (st := []) dX4_nextToken_117 rfl (Nat.le_of_ble_eq_true rfl) qX4_takeNumber jt_545 jt_547 jp_4 rfl rfl (Nat.le_of_ble_eq_true rfl) jv_4 rfl jg_5 jl_5 (by decide) (jw_ho jg_5 (by decide)) (kX4_takeNumber G x1 hx1 M8) (fun M16 => ?_)
        refine jw_goto (pc := 120) 143 dX4_nextToken_120 (by decide) ?_
        exact jw_ret (pc := 143) (v := 0) dX4_nextToken_143 trivial rfl rfl
    · refine jw_aloadR (pc := 86) 0 dX4_nextToken_86 rfl ?_
      refine jw_iconst (pc := 87) dX4_nextToken_87 ?_
      refine jw_putI (pc := 88) (j := 4) tyX4 rfl dX4_nextToken_88 jv_4 ji_4 tyX4_ok nmX4 (Or.inl jt_60) rfl jg_5 jl_5 (by decide) (by decide) (jw_ho jg_5 (by decide)) rfl rfl (jw_rc _ rfl) rfl ?_
      refine jw_letM (fun M17 => ?_)
      refine jw_aloadR (pc := 91) 0 dX4_nextToken_91 rfl ?_
      refine jw_aloadR (pc := 92) 0 dX4_nextToken_92 rfl ?_
      refine jw_iload_n (pc := 93) 1 dX4_nextToken_93 rfl ?_
      refine jw_callVi (pc := 94) (As := [jI x1]) (st := [jR G 5]) dX4_nextToken_94 rfl (Nat.le_of_ble_eq_true rfl) qX4_endOfName jt_538 jt_540 jp_3 rfl rfl (Nat.le_of_ble_eq_true rfl) jv_4 rfl jg_5 jl_5 (by decide) (jw_ho jg_5 (by decide)) (kX4_endOfName G x1 hx1 M17) (fun v18 hv18 => ?_)
      refine jw_putI (pc := 97) (j := 3) tyX4 rfl dX4_nextToken_97 jv_4 ji_4 tyX4_ok nmX4 (Or.inl jt_59) rfl jg_5 jl_5 (by decide) (by decide) (jw_ho jg_5 (by decide)) rfl rfl hv18 rfl ?_
      refine jw_letM (fun M19 => ?_)
      refine jw_goto (pc := 100) 143 dX4_nextToken_100 (by decide) ?_
      exact jw_ret (pc := 143) (v := 0) dX4_nextToken_143 trivial rfl rfl
  · refine jw_aloadR (pc := 61) 0 dX4_nextToken_61 rfl ?_
    refine jw_iload_n (pc := 62) 1 dX4_nextToken_62 rfl ?_
    refine jw_putI (pc := 63) (j := 3) tyX4 rfl dX4_nextToken_63 jv_4 ji_4 tyX4_ok nmX4 (Or.inl jt_59) rfl jg_5 jl_5 (by decide) (by decide) (jw_ho jg_5 (by decide)) rfl rfl hx1 rfl ?_
    refine jw_letM (fun M20 => ?_)
    refine jw_aloadR (pc := 66) 0 dX4_nextToken_66 rfl ?_
    refine jw_iconst (pc := 67) dX4_nextToken_67 ?_
    refine jw_putI (pc := 68) (j := 4) tyX4 rfl dX4_nextToken_68 jv_4 ji_4 tyX4_ok nmX4 (Or.inl jt_60) rfl jg_5 jl_5 (by decide) (by decide) (jw_ho jg_5 (by decide)) rfl rfl (jw_rc _ rfl) rfl ?_
    refine jw_letM (fun M21 => ?_)
    refine jw_goto (pc := 71) 143 dX4_nextToken_71 (by decide) ?_
    exact jw_ret (pc := 143) (v := 0) dX4_nextToken_143 trivial rfl rfl
def fX4_nextToken_5 : Nat → Int → jw_M → Option jw_M
  | 0, _, _ => none
  | k + 1, x1, M => if x1 < M 5 1 then (if 0 ≤ x1 ∧ x1 < 600 then if M 6 x1 = 32 then (fX4_nextToken_35 (fX4_nextToken_5 k) x1 M) else (if 0 ≤ x1 ∧ x1 < 600 then if M 6 x1 = 10 then (fX4_nextToken_35 (fX4_nextToken_5 k) x1 M) else (fX4_nextToken_41 x1 M) else none) else none) else (fX4_nextToken_41 x1 M)
set_option maxRecDepth 100000 in
theorem pX4_nextToken_5 (G : jw_G) : ∀ (k : Nat) (x1 : Int) (hx1 : jw_r x1) (M : jw_M), jw_Rn G YX4_nextToken 3 0 0 true (fun M1 => (0, M1)) 5 [(0, jR G 5), (1, jI x1)] [] M (fX4_nextToken_5 k x1 M) := by
  intro k
  induction k with
  | zero =>
    intro x1 hx1 M
    exact jw_none
  | succ k ih =>
    intro x1 hx1 M
    rw [fX4_nextToken_5]
    refine jw_iload_n (pc := 5) 1 dX4_nextToken_5 rfl ?_
    refine jw_aloadR (pc := 6) 0 dX4_nextToken_6 rfl ?_
    refine jw_getI (pc := 7) (j := 1) rfl dX4_nextToken_7 jv_4 ji_4 (Or.inl jt_57) jg_5 jl_5 (by decide) (by decide) (jw_ho jg_5 (by decide)) (Or.inl rfl) rfl (fun h3 => ?_)
    refine jw_ic_ge (pc := 10) 41 dX4_nextToken_10 (by decide) hx1 h3 (fun _ => ?_) (fun _ => ?_)
    · refine jw_aloadR (pc := 13) 0 dX4_nextToken_13 rfl ?_
      refine jw_getR (pc := 14) (j := 0) rfl dX4_nextToken_14 jv_4 ji_4 (Or.inl jt_56) jg_5 jl_5 (by decide) (by decide) rfl jf_4_0 ?_
      refine jw_iload_n (pc := 17) 1 dX4_nextToken_17 rfl ?_
      refine jw_bald (pc := 18) dX4_nextToken_18 jg_6 jl_6 (jw_ho jg_6 (by decide)) hx1 rfl (fun h4 => ?_)
      refine jw_bipush (pc := 19) dX4_nextToken_19 rfl ?_
      refine jw_ic_eq (pc := 21) 35 dX4_nextToken_21 (by decide) h4 (jw_rc _ rfl) (fun _ => ?_) (fun _ => ?_)
      · exact jw_few [0, 1] rfl (pX4_nextToken_35 G (fX4_nextToken_5 k) ih x1 hx1 M)
      · refine jw_aloadR (pc := 24) 0 dX4_nextToken_24 rfl ?_
        refine jw_getR (pc := 25) (j := 0) rfl dX4_nextToken_25 jv_4 ji_4 (Or.inl jt_56) jg_5 jl_5 (by decide) (by decide) rfl jf_4_0 ?_
        refine jw_iload_n (pc := 28) 1 dX4_nextToken_28 rfl ?_
        refine jw_bald (pc := 29) dX4_nextToken_29 jg_6 jl_6 (jw_ho jg_6 (by decide)) hx1 rfl (fun h6 => ?_)
        refine jw_bipush (pc := 30) dX4_nextToken_30 rfl ?_
        refine jw_ic_ne (pc := 32) 41 dX4_nextToken_32 (by decide) h6 (jw_rc _ rfl) (fun _ => ?_) (fun _ => ?_)
        · exact jw_few [0, 1] rfl (pX4_nextToken_35 G (fX4_nextToken_5 k) ih x1 hx1 M)
        · exact jw_few [0, 1] rfl (pX4_nextToken_41 G x1 hx1 M)
    · exact jw_few [0, 1] rfl (pX4_nextToken_41 G x1 hx1 M)
def fX4_nextToken (M : jw_M) : Option jw_M :=
  Option.bind (some (M 5 3)) (fun v2 => fX4_nextToken_5 jw_fu v2 M)
set_option maxRecDepth 100000 in
theorem rX4_nextToken (G : jw_G) (M : jw_M) : jw_Rn G YX4_nextToken 3 0 0 true (fun M1 => (0, M1)) 0 [(0, jR G 5)] [] M (fX4_nextToken M) := by
  unfold fX4_nextToken
  refine jw_aloadR (pc := 0) 0 dX4_nextToken_0 rfl ?_
  refine jw_getI (pc := 1) (j := 3) rfl dX4_nextToken_1 jv_4 ji_4 (Or.inl jt_59) jg_5 jl_5 (by decide) (by decide) (jw_ho jg_5 (by decide)) (Or.inl rfl) rfl (fun h1 => ?_)
  refine jw_istore_nL (pc := 4) (lv' := (fun y => [(1, y), (0, jR G 5)])) dX4_nextToken_4 h1 (by decide) (fun _ => rfl) (fun v2 hv2 => ?_)
  exact jw_few [1, 0] rfl (pX4_nextToken_5 G jw_fu v2 hv2 M)
theorem kX4_nextToken (G : jw_G) (M : jw_M) : jw_Ct G YX4_nextToken none 3 0 0 true (fun M1 => (0, M1)) yX4_nextToken [jR G 5] M (fX4_nextToken M) := jw_met (by decide) rfl rfl rfl (Nat.le_of_ble_eq_true rfl) (rX4_nextToken G M)
abbrev YX4_isAsTold : jw_Y := (RX4, cX4_isAsTold, 5, 4, "isAsTold")
theorem qX4_isAsTold : jw_cy YX4_isAsTold (some .boolean) yX4_isAsTold 2 := ⟨by decide, jt_642, jt_4, by decide, by decide +kernel⟩
theorem dX4_isAsTold_0 : decode cX4_isAsTold 0 = .ok (.getstatic 90, 3) := by decide +kernel
theorem dX4_isAsTold_3 : decode cX4_isAsTold 3 = .ok (.iload_n 1, 1) := by decide +kernel
theorem dX4_isAsTold_4 : decode cX4_isAsTold 4 = .ok (.iconst 3, 1) := by decide +kernel
theorem dX4_isAsTold_5 : decode cX4_isAsTold 5 = .ok (.imul, 1) := by decide +kernel
theorem dX4_isAsTold_6 : decode cX4_isAsTold 6 = .ok (.iload_n 2, 1) := by decide +kernel
theorem dX4_isAsTold_7 : decode cX4_isAsTold 7 = .ok (.iadd, 1) := by decide +kernel
theorem dX4_isAsTold_8 : decode cX4_isAsTold 8 = .ok (.iaload, 1) := by decide +kernel
theorem dX4_isAsTold_9 : decode cX4_isAsTold 9 = .ok (.istore_n 3, 1) := by decide +kernel
theorem dX4_isAsTold_10 : decode cX4_isAsTold 10 = .ok (.iload_n 3, 1) := by decide +kernel
theorem dX4_isAsTold_11 : decode cX4_isAsTold 11 = .ok (.iconst (-1), 1) := by decide +kernel
theorem dX4_isAsTold_12 : decode cX4_isAsTold 12 = .ok (.if_icmp .ne 15, 3) := by decide +kernel
theorem dX4_isAsTold_15 : decode cX4_isAsTold 15 = .ok (.aload_n 0, 1) := by decide +kernel
theorem dX4_isAsTold_16 : decode cX4_isAsTold 16 = .ok (.getfield 23, 3) := by decide +kernel
theorem dX4_isAsTold_19 : decode cX4_isAsTold 19 = .ok (.iconst 0, 1) := by decide +kernel
theorem dX4_isAsTold_20 : decode cX4_isAsTold 20 = .ok (.iaload, 1) := by decide +kernel
theorem dX4_isAsTold_21 : decode cX4_isAsTold 21 = .ok (.iconst 1, 1) := by decide +kernel
theorem dX4_isAsTold_22 : decode cX4_isAsTold 22 = .ok (.isub, 1) := by decide +kernel
theorem dX4_isAsTold_23 : decode cX4_isAsTold 23 = .ok (.istore_n 3, 1) := by decide +kernel
theorem dX4_isAsTold_24 : decode cX4_isAsTold 24 = .ok (.goto 18, 3) := by decide +kernel
theorem dX4_isAsTold_27 : decode cX4_isAsTold 27 = .ok (.iload_n 3, 1) := by decide +kernel
theorem dX4_isAsTold_28 : decode cX4_isAsTold 28 = .ok (.bipush (-2), 2) := by decide +kernel
theorem dX4_isAsTold_30 : decode cX4_isAsTold 30 = .ok (.if_icmp .ne 12, 3) := by decide +kernel
theorem dX4_isAsTold_33 : decode cX4_isAsTold 33 = .ok (.aload_n 0, 1) := by decide +kernel
theorem dX4_isAsTold_34 : decode cX4_isAsTold 34 = .ok (.getfield 23, 3) := by decide +kernel
theorem dX4_isAsTold_37 : decode cX4_isAsTold 37 = .ok (.iconst 2, 1) := by decide +kernel
theorem dX4_isAsTold_38 : decode cX4_isAsTold 38 = .ok (.iaload, 1) := by decide +kernel
theorem dX4_isAsTold_39 : decode cX4_isAsTold 39 = .ok (.iconst 1, 1) := by decide +kernel
theorem dX4_isAsTold_40 : decode cX4_isAsTold 40 = .ok (.isub, 1) := by decide +kernel
theorem dX4_isAsTold_41 : decode cX4_isAsTold 41 = .ok (.istore_n 3, 1) := by decide +kernel
theorem dX4_isAsTold_42 : decode cX4_isAsTold 42 = .ok (.iload_n 1, 1) := by decide +kernel
theorem dX4_isAsTold_43 : decode cX4_isAsTold 43 = .ok (.iconst 1, 1) := by decide +kernel
theorem dX4_isAsTold_44 : decode cX4_isAsTold 44 = .ok (.if_icmp .ne 25, 3) := by decide +kernel
theorem dX4_isAsTold_47 : decode cX4_isAsTold 47 = .ok (.iload_n 2, 1) := by decide +kernel
theorem dX4_isAsTold_48 : decode cX4_isAsTold 48 = .ok (.iconst 1, 1) := by decide +kernel
theorem dX4_isAsTold_49 : decode cX4_isAsTold 49 = .ok (.if_icmp .ne 20, 3) := by decide +kernel
theorem dX4_isAsTold_52 : decode cX4_isAsTold 52 = .ok (.aload_n 0, 1) := by decide +kernel
theorem dX4_isAsTold_53 : decode cX4_isAsTold 53 = .ok (.getfield 83, 3) := by decide +kernel
theorem dX4_isAsTold_56 : decode cX4_isAsTold 56 = .ok (.aload_n 0, 1) := by decide +kernel
theorem dX4_isAsTold_57 : decode cX4_isAsTold 57 = .ok (.getfield 19, 3) := by decide +kernel
theorem dX4_isAsTold_60 : decode cX4_isAsTold 60 = .ok (.iconst 0, 1) := by decide +kernel
theorem dX4_isAsTold_61 : decode cX4_isAsTold 61 = .ok (.iaload, 1) := by decide +kernel
theorem dX4_isAsTold_62 : decode cX4_isAsTold 62 = .ok (.if_icmp .ne 7, 3) := by decide +kernel
theorem dX4_isAsTold_65 : decode cX4_isAsTold 65 = .ok (.iconst 1, 1) := by decide +kernel
theorem dX4_isAsTold_66 : decode cX4_isAsTold 66 = .ok (.goto 4, 3) := by decide +kernel
theorem dX4_isAsTold_69 : decode cX4_isAsTold 69 = .ok (.iconst 0, 1) := by decide +kernel
theorem dX4_isAsTold_70 : decode cX4_isAsTold 70 = .ok (.istore 4, 2) := by decide +kernel
theorem dX4_isAsTold_72 : decode cX4_isAsTold 72 = .ok (.aload_n 0, 1) := by decide +kernel
theorem dX4_isAsTold_73 : decode cX4_isAsTold 73 = .ok (.getfield 83, 3) := by decide +kernel
theorem dX4_isAsTold_76 : decode cX4_isAsTold 76 = .ok (.getstatic 93, 3) := by decide +kernel
theorem dX4_isAsTold_79 : decode cX4_isAsTold 79 = .ok (.iload_n 1, 1) := by decide +kernel
theorem dX4_isAsTold_80 : decode cX4_isAsTold 80 = .ok (.iconst 3, 1) := by decide +kernel
theorem dX4_isAsTold_81 : decode cX4_isAsTold 81 = .ok (.imul, 1) := by decide +kernel
theorem dX4_isAsTold_82 : decode cX4_isAsTold 82 = .ok (.iload_n 2, 1) := by decide +kernel
theorem dX4_isAsTold_83 : decode cX4_isAsTold 83 = .ok (.iadd, 1) := by decide +kernel
theorem dX4_isAsTold_84 : decode cX4_isAsTold 84 = .ok (.iaload, 1) := by decide +kernel
theorem dX4_isAsTold_85 : decode cX4_isAsTold 85 = .ok (.if_icmp .lt 20, 3) := by decide +kernel
theorem dX4_isAsTold_88 : decode cX4_isAsTold 88 = .ok (.aload_n 0, 1) := by decide +kernel
theorem dX4_isAsTold_89 : decode cX4_isAsTold 89 = .ok (.getfield 83, 3) := by decide +kernel
theorem dX4_isAsTold_92 : decode cX4_isAsTold 92 = .ok (.iload_n 3, 1) := by decide +kernel
theorem dX4_isAsTold_93 : decode cX4_isAsTold 93 = .ok (.if_icmp .gt 12, 3) := by decide +kernel
theorem dX4_isAsTold_96 : decode cX4_isAsTold 96 = .ok (.iload 4, 2) := by decide +kernel
theorem dX4_isAsTold_98 : decode cX4_isAsTold 98 = .ok (.ifCond .ne 7, 3) := by decide +kernel
theorem dX4_isAsTold_101 : decode cX4_isAsTold 101 = .ok (.iconst 1, 1) := by decide +kernel
theorem dX4_isAsTold_102 : decode cX4_isAsTold 102 = .ok (.goto 4, 3) := by decide +kernel
theorem dX4_isAsTold_105 : decode cX4_isAsTold 105 = .ok (.iconst 0, 1) := by decide +kernel
theorem dX4_isAsTold_106 : decode cX4_isAsTold 106 = .ok (.ireturn, 1) := by decide +kernel
def fX4_isAsTold_70 (M : jw_M) (x1 : Int) (x2 : Int) (x3 : Int) (xs0 : Int) : Option Int :=
  Option.bind (some xs0) (fun v6 => if 0 ≤ jw_w ((jw_w (x1 * 3)) + x2) ∧ jw_w ((jw_w (x1 * 3)) + x2) < 21 then if M 5 5 < jw_x2.getD (jw_w ((jw_w (x1 * 3)) + x2)).toNat 0 then (some 0) else (if x3 < M 5 5 then (some 0) else (if v6 = 0 then (some 1) else (some 0))) else none)
set_option maxRecDepth 100000 in
theorem pX4_isAsTold_70 (G : jw_G) (M : jw_M) : ∀ (x1 : Int) (x2 : Int) (x3 : Int) (xs0 : Int) (hx1 : jw_r x1) (hx2 : jw_r x2) (hx3 : jw_r x3) (hxs0 : jw_r xs0), jw_Rn G YX4_isAsTold 1 0 0 true (fun v => (v, M)) 70 [(0, jR G 5), (1, jI x1), (2, jI x2), (3, jI x3)] [jI xs0] M (fX4_isAsTold_70 M x1 x2 x3 xs0) := by
  intro x1 x2 x3 xs0 hx1 hx2 hx3 hxs0
  unfold fX4_isAsTold_70
  refine jw_istoreL (pc := 70) (lv' := (fun y => [(4, y), (0, jR G 5), (1, jI x1), (2, jI x2), (3, jI x3)])) dX4_isAsTold_70 hxs0 (by decide) (fun _ => rfl) (fun v6 hv6 => ?_)
  refine jw_aloadR (pc := 72) 1 dX4_isAsTold_72 rfl ?_
  refine jw_getI (pc := 73) (j := 5) rfl dX4_isAsTold_73 jv_4 ji_4 (Or.inl jt_61) jg_5 jl_5 (by decide) (by decide) (jw_ho jg_5 (by decide)) (Or.inl rfl) rfl (fun h7 => ?_)
  refine jw_gsta (pc := 76) 2 rfl dX4_isAsTold_76 js_2 jt_645 ?_
  refine jw_iload_n (pc := 79) 2 dX4_isAsTold_79 rfl ?_
  refine jw_iconst (pc := 80) dX4_isAsTold_80 ?_
  refine jw_imul (pc := 81) dX4_isAsTold_81 ?_
  refine jw_iload_n (pc := 82) 3 dX4_isAsTold_82 rfl ?_
  refine jw_iadd (pc := 83) dX4_isAsTold_83 ?_
  refine jw_sald (pc := 84) dX4_isAsTold_84 js_2 (jw_wr _) rfl ?_
  refine jw_ic_lt (pc := 85) 105 dX4_isAsTold_85 (by decide) h7 (jw_xr _ _ rfl) (fun _ => ?_) (fun _ => ?_)
  · refine jw_iconst (pc := 105) dX4_isAsTold_105 ?_
    exact jw_ret (pc := 106) (v := 0) dX4_isAsTold_106 (Or.inl rfl) rfl rfl
  · refine jw_aloadR (pc := 88) 1 dX4_isAsTold_88 rfl ?_
    refine jw_getI (pc := 89) (j := 5) rfl dX4_isAsTold_89 jv_4 ji_4 (Or.inl jt_61) jg_5 jl_5 (by decide) (by decide) (jw_ho jg_5 (by decide)) (Or.inl rfl) rfl (fun h8 => ?_)
    refine jw_iload_n (pc := 92) 4 dX4_isAsTold_92 rfl ?_
    refine jw_ic_gt (pc := 93) 105 dX4_isAsTold_93 (by decide) h8 hx3 (fun _ => ?_) (fun _ => ?_)
    · refine jw_iconst (pc := 105) dX4_isAsTold_105 ?_
      exact jw_ret (pc := 106) (v := 0) dX4_isAsTold_106 (Or.inl rfl) rfl rfl
    · refine jw_iload (pc := 96) 0 dX4_isAsTold_96 rfl ?_
      refine jw_if_ne (pc := 98) 105 dX4_isAsTold_98 (by decide) hv6 (fun _ => ?_) (fun _ => ?_)
      · refine jw_iconst (pc := 101) dX4_isAsTold_101 ?_
        refine jw_goto (pc := 102) 106 dX4_isAsTold_102 (by decide) ?_
        exact jw_ret (pc := 106) (v := 1) dX4_isAsTold_106 (Or.inr rfl) rfl rfl
      · refine jw_iconst (pc := 105) dX4_isAsTold_105 ?_
        exact jw_ret (pc := 106) (v := 0) dX4_isAsTold_106 (Or.inl rfl) rfl rfl
def fX4_isAsTold_69 (M : jw_M) (x1 : Int) (x2 : Int) (x3 : Int) : Option Int :=
  fX4_isAsTold_70 M x1 x2 x3 0
set_option maxRecDepth 100000 in
theorem pX4_isAsTold_69 (G : jw_G) (M : jw_M) : ∀ (x1 : Int) (x2 : Int) (x3 : Int) (hx1 : jw_r x1) (hx2 : jw_r x2) (hx3 : jw_r x3), jw_Rn G YX4_isAsTold 1 0 0 true (fun v => (v, M)) 69 [(0, jR G 5), (1, jI x1), (2, jI x2), (3, jI x3)] [] M (fX4_isAsTold_69 M x1 x2 x3) := by
  intro x1 x2 x3 hx1 hx2 hx3
  unfold fX4_isAsTold_69
  refine jw_iconst (pc := 69) dX4_isAsTold_69 ?_
  exact jw_few [0, 1, 2, 3] rfl (pX4_isAsTold_70 G M x1 x2 x3 0 hx1 hx2 hx3 (jw_rc _ rfl))
def fX4_isAsTold_42 (M : jw_M) (x1 : Int) (x2 : Int) (x3 : Int) : Option Int :=
  if x1 = 1 then (if x2 = 1 then (if 0 ≤ (0 : Int) ∧ (0 : Int) < 3 then if M 5 5 = M 7 0 then (fX4_isAsTold_70 M x1 x2 x3 1) else (fX4_isAsTold_69 M x1 x2 x3) else none) else (fX4_isAsTold_69 M x1 x2 x3)) else (fX4_isAsTold_69 M x1 x2 x3)
set_option maxRecDepth 100000 in
theorem pX4_isAsTold_42 (G : jw_G) (M : jw_M) : ∀ (x1 : Int) (x2 : Int) (x3 : Int) (hx1 : jw_r x1) (hx2 : jw_r x2) (hx3 : jw_r x3), jw_Rn G YX4_isAsTold 1 0 0 true (fun v => (v, M)) 42 [(0, jR G 5), (1, jI x1), (2, jI x2), (3, jI x3)] [] M (fX4_isAsTold_42 M x1 x2 x3) := by
  intro x1 x2 x3 hx1 hx2 hx3
  unfold fX4_isAsTold_42
  refine jw_iload_n (pc := 42) 1 dX4_isAsTold_42 rfl ?_
  refine jw_iconst (pc := 43) dX4_isAsTold_43 ?_
  refine jw_ic_ne (pc := 44) 69 dX4_isAsTold_44 (by decide) hx1 (jw_rc _ rfl) (fun _ => ?_) (fun _ => ?_)
  · refine jw_iload_n (pc := 47) 2 dX4_isAsTold_47 rfl ?_
    refine jw_iconst (pc := 48) dX4_isAsTold_48 ?_
    refine jw_ic_ne (pc := 49) 69 dX4_isAsTold_49 (by decide) hx2 (jw_rc _ rfl) (fun _ => ?_) (fun _ => ?_)
    · refine jw_aloadR (pc := 52) 0 dX4_isAsTold_52 rfl ?_
      refine jw_getI (pc := 53) (j := 5) rfl dX4_isAsTold_53 jv_4 ji_4 (Or.inl jt_61) jg_5 jl_5 (by decide) (by decide) (jw_ho jg_5 (by decide)) (Or.inl rfl) rfl (fun h4 => ?_)
      refine jw_aloadR (pc := 56) 0 dX4_isAsTold_56 rfl ?_
      refine jw_getR (pc := 57) (j := 6) rfl dX4_isAsTold_57 jv_4 ji_4 (Or.inl jt_62) jg_5 jl_5 (by decide) (by decide) rfl jf_4_6 ?_
      refine jw_iconst (pc := 60) dX4_isAsTold_60 ?_
      refine jw_iald (pc := 61) dX4_isAsTold_61 jg_7 jl_7 (jw_ho jg_7 (by decide)) (jw_rc _ rfl) rfl (fun h5 => ?_)
      refine jw_ic_ne (pc := 62) 69 dX4_isAsTold_62 (by decide) h4 h5 (fun _ => ?_) (fun _ => ?_)
      · refine jw_iconst (pc := 65) dX4_isAsTold_65 ?_
        refine jw_goto (pc := 66) 70 dX4_isAsTold_66 (by decide) ?_
        exact jw_few [0, 1, 2, 3] rfl (pX4_isAsTold_70 G M x1 x2 x3 1 hx1 hx2 hx3 (jw_rc _ rfl))
      · exact jw_few [0, 1, 2, 3] rfl (pX4_isAsTold_69 G M x1 x2 x3 hx1 hx2 hx3)
    · exact jw_few [0, 1, 2, 3] rfl (pX4_isAsTold_69 G M x1 x2 x3 hx1 hx2 hx3)
  · exact jw_few [0, 1, 2, 3] rfl (pX4_isAsTold_69 G M x1 x2 x3 hx1 hx2 hx3)
def fX4_isAsTold (a1 : Int) (a2 : Int) (M : jw_M) : Option Int :=
  if 0 ≤ jw_w ((jw_w (a1 * 3)) + a2) ∧ jw_w ((jw_w (a1 * 3)) + a2) < 21 then Option.bind (some (jw_x3.getD (jw_w ((jw_w (a1 * 3)) + a2)).toNat 0)) (fun v1 => if v1 = (-1) then (if 0 ≤ (0 : Int) ∧ (0 : Int) < 7 then Option.bind (some (jw_w ((M 8 0) - 1))) (fun v3 => fX4_isAsTold_42 M a1 a2 v3) else none) else (if v1 = (-2) then (if 0 ≤ (2 : Int) ∧ (2 : Int) < 7 then Option.bind (some (jw_w ((M 8 2) - 1))) (fun v10 => fX4_isAsTold_42 M a1 a2 v10) else none) else (fX4_isAsTold_42 M a1 a2 v1))) else none
set_option maxRecDepth 100000 in
theorem rX4_isAsTold (G : jw_G) (a1 : Int) (a2 : Int) (ha1 : jw_r a1) (ha2 : jw_r a2) (M : jw_M) : jw_Rn G YX4_isAsTold 1 0 0 true (fun v => (v, M)) 0 [(0, jR G 5), (1, jI a1), (2, jI a2)] [] M (fX4_isAsTold a1 a2 M) := by
  unfold fX4_isAsTold
  refine jw_gsta (pc := 0) 3 rfl dX4_isAsTold_0 js_3 jt_643 ?_
  refine jw_iload_n (pc := 3) 1 dX4_isAsTold_3 rfl ?_
  refine jw_iconst (pc := 4) dX4_isAsTold_4 ?_
  refine jw_imul (pc := 5) dX4_isAsTold_5 ?_
  refine jw_iload_n (pc := 6) 2 dX4_isAsTold_6 rfl ?_
  refine jw_iadd (pc := 7) dX4_isAsTold_7 ?_
  refine jw_sald (pc := 8) dX4_isAsTold_8 js_3 (jw_wr _) rfl ?_
  refine jw_istore_nL (pc := 9) (lv' := (fun y => [(3, y), (0, jR G 5), (1, jI a1), (2, jI a2)])) dX4_isAsTold_9 (jw_xr _ _ rfl) (by decide) (fun _ => rfl) (fun v1 hv1 => ?_)
  refine jw_iload_n (pc := 10) 0 dX4_isAsTold_10 rfl ?_
  refine jw_iconst (pc := 11) dX4_isAsTold_11 ?_
  refine jw_ic_ne (pc := 12) 27 dX4_isAsTold_12 (by decide) hv1 (jw_rc _ rfl) (fun _ => ?_) (fun _ => ?_)
  · refine jw_aloadR (pc := 15) 1 dX4_isAsTold_15 rfl ?_
    refine jw_getR (pc := 16) (j := 7) rfl dX4_isAsTold_16 jv_4 ji_4 (Or.inl jt_63) jg_5 jl_5 (by decide) (by decide) rfl jf_4_7 ?_
    refine jw_iconst (pc := 19) dX4_isAsTold_19 ?_
    refine jw_iald (pc := 20) dX4_isAsTold_20 jg_8 jl_8 (jw_ho jg_8 (by decide)) (jw_rc _ rfl) rfl (fun h2 => ?_)
    refine jw_iconst (pc := 21) dX4_isAsTold_21 ?_
    refine jw_isub (pc := 22) dX4_isAsTold_22 ?_
    refine jw_istore_nL (pc := 23) (lv' := (fun y => [(3, y), (0, jR G 5), (1, jI a1), (2, jI a2)])) dX4_isAsTold_23 (jw_wr _) (by decide) (fun _ => rfl) (fun v3 hv3 => ?_)
    refine jw_goto (pc := 24) 42 dX4_isAsTold_24 (by decide) ?_
    exact jw_few [1, 2, 3, 0] rfl (pX4_isAsTold_42 G M a1 a2 v3 ha1 ha2 hv3)
  · refine jw_iload_n (pc := 27) 0 dX4_isAsTold_27 rfl ?_
    refine jw_bipush (pc := 28) dX4_isAsTold_28 rfl ?_
    refine jw_ic_ne (pc := 30) 42 dX4_isAsTold_30 (by decide) hv1 (jw_rc _ rfl) (fun _ => ?_) (fun _ => ?_)
    · refine jw_aloadR (pc := 33) 1 dX4_isAsTold_33 rfl ?_
      refine jw_getR (pc := 34) (j := 7) rfl dX4_isAsTold_34 jv_4 ji_4 (Or.inl jt_63) jg_5 jl_5 (by decide) (by decide) rfl jf_4_7 ?_
      refine jw_iconst (pc := 37) dX4_isAsTold_37 ?_
      refine jw_iald (pc := 38) dX4_isAsTold_38 jg_8 jl_8 (jw_ho jg_8 (by decide)) (jw_rc _ rfl) rfl (fun h9 => ?_)
      refine jw_iconst (pc := 39) dX4_isAsTold_39 ?_
      refine jw_isub (pc := 40) dX4_isAsTold_40 ?_
      refine jw_istore_nL (pc := 41) (lv' := (fun y => [(3, y), (0, jR G 5), (1, jI a1), (2, jI a2)])) dX4_isAsTold_41 (jw_wr _) (by decide) (fun _ => rfl) (fun v10 hv10 => ?_)
      exact jw_few [1, 2, 3, 0] rfl (pX4_isAsTold_42 G M a1 a2 v10 ha1 ha2 hv10)
    · exact jw_few [1, 2, 3, 0] rfl (pX4_isAsTold_42 G M a1 a2 v1 ha1 ha2 hv1)
theorem kX4_isAsTold (G : jw_G) (a1 : Int) (a2 : Int) (ha1 : jw_r a1) (ha2 : jw_r a2) (M : jw_M) : jw_Ct G YX4_isAsTold (some .boolean) 1 0 0 true (fun v => (v, M)) yX4_isAsTold [jR G 5, jI a1, jI a2] M (fX4_isAsTold a1 a2 M) := jw_met (by decide) rfl rfl rfl (Nat.le_of_ble_eq_true rfl) (rX4_isAsTold G a1 a2 ha1 ha2 M)
abbrev YX4_mayFollow : jw_Y := (RX4, cX4_mayFollow, 2, 4, "mayFollow")
theorem qX4_mayFollow : jw_cy YX4_mayFollow (some .boolean) yX4_mayFollow 2 := ⟨by decide, jt_634, jt_4, by decide, by decide +kernel⟩
theorem dX4_mayFollow_0 : decode cX4_mayFollow 0 = .ok (.iload_n 1, 1) := by decide +kernel
theorem dX4_mayFollow_1 : decode cX4_mayFollow 1 = .ok (.iconst (-1), 1) := by decide +kernel
theorem dX4_mayFollow_2 : decode cX4_mayFollow 2 = .ok (.if_icmp .eq 9, 3) := by decide +kernel
theorem dX4_mayFollow_5 : decode cX4_mayFollow 5 = .ok (.iload_n 0, 1) := by decide +kernel
theorem dX4_mayFollow_6 : decode cX4_mayFollow 6 = .ok (.bipush 6, 2) := by decide +kernel
theorem dX4_mayFollow_8 : decode cX4_mayFollow 8 = .ok (.if_icmp .ne 5, 3) := by decide +kernel
theorem dX4_mayFollow_11 : decode cX4_mayFollow 11 = .ok (.iconst 0, 1) := by decide +kernel
theorem dX4_mayFollow_12 : decode cX4_mayFollow 12 = .ok (.ireturn, 1) := by decide +kernel
theorem dX4_mayFollow_13 : decode cX4_mayFollow 13 = .ok (.iload_n 0, 1) := by decide +kernel
theorem dX4_mayFollow_14 : decode cX4_mayFollow 14 = .ok (.iconst (-1), 1) := by decide +kernel
theorem dX4_mayFollow_15 : decode cX4_mayFollow 15 = .ok (.if_icmp .ne 13, 3) := by decide +kernel
theorem dX4_mayFollow_18 : decode cX4_mayFollow 18 = .ok (.iload_n 1, 1) := by decide +kernel
theorem dX4_mayFollow_19 : decode cX4_mayFollow 19 = .ok (.ifCond .ne 7, 3) := by decide +kernel
theorem dX4_mayFollow_22 : decode cX4_mayFollow 22 = .ok (.iconst 1, 1) := by decide +kernel
theorem dX4_mayFollow_23 : decode cX4_mayFollow 23 = .ok (.goto 4, 3) := by decide +kernel
theorem dX4_mayFollow_26 : decode cX4_mayFollow 26 = .ok (.iconst 0, 1) := by decide +kernel
theorem dX4_mayFollow_27 : decode cX4_mayFollow 27 = .ok (.ireturn, 1) := by decide +kernel
theorem dX4_mayFollow_28 : decode cX4_mayFollow 28 = .ok (.iload_n 1, 1) := by decide +kernel
theorem dX4_mayFollow_29 : decode cX4_mayFollow 29 = .ok (.iload_n 0, 1) := by decide +kernel
theorem dX4_mayFollow_30 : decode cX4_mayFollow 30 = .ok (.if_icmp .lt 17, 3) := by decide +kernel
theorem dX4_mayFollow_33 : decode cX4_mayFollow 33 = .ok (.iload_n 0, 1) := by decide +kernel
theorem dX4_mayFollow_34 : decode cX4_mayFollow 34 = .ok (.iconst 2, 1) := by decide +kernel
theorem dX4_mayFollow_35 : decode cX4_mayFollow 35 = .ok (.if_icmp .ge 8, 3) := by decide +kernel
theorem dX4_mayFollow_38 : decode cX4_mayFollow 38 = .ok (.iload_n 1, 1) := by decide +kernel
theorem dX4_mayFollow_39 : decode cX4_mayFollow 39 = .ok (.iconst 2, 1) := by decide +kernel
theorem dX4_mayFollow_40 : decode cX4_mayFollow 40 = .ok (.if_icmp .gt 7, 3) := by decide +kernel
theorem dX4_mayFollow_43 : decode cX4_mayFollow 43 = .ok (.iconst 1, 1) := by decide +kernel
theorem dX4_mayFollow_44 : decode cX4_mayFollow 44 = .ok (.goto 4, 3) := by decide +kernel
theorem dX4_mayFollow_47 : decode cX4_mayFollow 47 = .ok (.iconst 0, 1) := by decide +kernel
theorem dX4_mayFollow_48 : decode cX4_mayFollow 48 = .ok (.ireturn, 1) := by decide +kernel
def fX4_mayFollow_43 (M : jw_M) : Option Int :=
  some 1
set_option maxRecDepth 100000 in
theorem pX4_mayFollow_43 (G : jw_G) (M : jw_M) : jw_Rn G YX4_mayFollow 1 0 0 true (fun v => (v, M)) 43 [] [] M (fX4_mayFollow_43 M) := by
  unfold fX4_mayFollow_43
  refine jw_iconst (pc := 43) dX4_mayFollow_43 ?_
  refine jw_goto (pc := 44) 48 dX4_mayFollow_44 (by decide) ?_
  exact jw_ret (pc := 48) (v := 1) dX4_mayFollow_48 (Or.inr rfl) rfl rfl
def fX4_mayFollow (a1 : Int) (a2 : Int) (M : jw_M) : Option Int :=
  if a2 = (-1) then (some 0) else (if a1 = 6 then (some 0) else (if a1 = (-1) then (if a2 = 0 then (some 1) else (some 0)) else (if a2 < a1 then (some 0) else (if a1 < 2 then (if (2 : Int) < a2 then (some 0) else (fX4_mayFollow_43 M)) else (fX4_mayFollow_43 M)))))
set_option maxRecDepth 100000 in
theorem rX4_mayFollow (G : jw_G) (a1 : Int) (a2 : Int) (ha1 : jw_r a1) (ha2 : jw_r a2) (M : jw_M) : jw_Rn G YX4_mayFollow 1 0 0 true (fun v => (v, M)) 0 [(0, jI a1), (1, jI a2)] [] M (fX4_mayFollow a1 a2 M) := by
  unfold fX4_mayFollow
  refine jw_iload_n (pc := 0) 1 dX4_mayFollow_0 rfl ?_
  refine jw_iconst (pc := 1) dX4_mayFollow_1 ?_
  refine jw_ic_eq (pc := 2) 11 dX4_mayFollow_2 (by decide) ha2 (jw_rc _ rfl) (fun _ => ?_) (fun _ => ?_)
  · refine jw_iconst (pc := 11) dX4_mayFollow_11 ?_
    exact jw_ret (pc := 12) (v := 0) dX4_mayFollow_12 (Or.inl rfl) rfl rfl
  · refine jw_iload_n (pc := 5) 0 dX4_mayFollow_5 rfl ?_
    refine jw_bipush (pc := 6) dX4_mayFollow_6 rfl ?_
    refine jw_ic_ne (pc := 8) 13 dX4_mayFollow_8 (by decide) ha1 (jw_rc _ rfl) (fun _ => ?_) (fun _ => ?_)
    · refine jw_iconst (pc := 11) dX4_mayFollow_11 ?_
      exact jw_ret (pc := 12) (v := 0) dX4_mayFollow_12 (Or.inl rfl) rfl rfl
    · refine jw_iload_n (pc := 13) 0 dX4_mayFollow_13 rfl ?_
      refine jw_iconst (pc := 14) dX4_mayFollow_14 ?_
      refine jw_ic_ne (pc := 15) 28 dX4_mayFollow_15 (by decide) ha1 (jw_rc _ rfl) (fun _ => ?_) (fun _ => ?_)
      · refine jw_iload_n (pc := 18) 1 dX4_mayFollow_18 rfl ?_
        refine jw_if_ne (pc := 19) 26 dX4_mayFollow_19 (by decide) ha2 (fun _ => ?_) (fun _ => ?_)
        · refine jw_iconst (pc := 22) dX4_mayFollow_22 ?_
          refine jw_goto (pc := 23) 27 dX4_mayFollow_23 (by decide) ?_
          exact jw_ret (pc := 27) (v := 1) dX4_mayFollow_27 (Or.inr rfl) rfl rfl
        · refine jw_iconst (pc := 26) dX4_mayFollow_26 ?_
          exact jw_ret (pc := 27) (v := 0) dX4_mayFollow_27 (Or.inl rfl) rfl rfl
      · refine jw_iload_n (pc := 28) 1 dX4_mayFollow_28 rfl ?_
        refine jw_iload_n (pc := 29) 0 dX4_mayFollow_29 rfl ?_
        refine jw_ic_lt (pc := 30) 47 dX4_mayFollow_30 (by decide) ha2 ha1 (fun _ => ?_) (fun _ => ?_)
        · refine jw_iconst (pc := 47) dX4_mayFollow_47 ?_
          exact jw_ret (pc := 48) (v := 0) dX4_mayFollow_48 (Or.inl rfl) rfl rfl
        · refine jw_iload_n (pc := 33) 0 dX4_mayFollow_33 rfl ?_
          refine jw_iconst (pc := 34) dX4_mayFollow_34 ?_
          refine jw_ic_ge (pc := 35) 43 dX4_mayFollow_35 (by decide) ha1 (jw_rc _ rfl) (fun _ => ?_) (fun _ => ?_)
          · refine jw_iload_n (pc := 38) 1 dX4_mayFollow_38 rfl ?_
            refine jw_iconst (pc := 39) dX4_mayFollow_39 ?_
            refine jw_ic_gt (pc := 40) 47 dX4_mayFollow_40 (by decide) ha2 (jw_rc _ rfl) (fun _ => ?_) (fun _ => ?_)
            · refine jw_iconst (pc := 47) dX4_mayFollow_47 ?_
              exact jw_ret (pc := 48) (v := 0) dX4_mayFollow_48 (Or.inl rfl) rfl rfl
            · exact jw_few [] rfl (pX4_mayFollow_43 G M)
          · exact jw_few [] rfl (pX4_mayFollow_43 G M)
theorem kX4_mayFollow (G : jw_G) (a1 : Int) (a2 : Int) (ha1 : jw_r a1) (ha2 : jw_r a2) (M : jw_M) : jw_Ct G YX4_mayFollow (some .boolean) 1 0 0 true (fun v => (v, M)) yX4_mayFollow [jI a1, jI a2] M (fX4_mayFollow a1 a2 M) := jw_met (by decide) rfl rfl rfl (Nat.le_of_ble_eq_true rfl) (rX4_mayFollow G a1 a2 ha1 ha2 M)
abbrev YX4_take : jw_Y := (RX4, cX4_take, 3, 0, "take")
theorem qX4_take : jw_cy YX4_take none yX4_take 2 := ⟨by decide, jt_650, jt_4, by decide, by decide +kernel⟩
theorem dX4_take_0 : decode cX4_take 0 = .ok (.iload_n 2, 1) := by decide +kernel
theorem dX4_take_1 : decode cX4_take 1 = .ok (.tableswitch 171 0 5 #[39, 55, 83, 111, 133, 149], 39) := by decide +kernel
theorem dX4_take_40 : decode cX4_take 40 = .ok (.aload_n 1, 1) := by decide +kernel
theorem dX4_take_41 : decode cX4_take 41 = .ok (.getfield 49, 3) := by decide +kernel
theorem dX4_take_44 : decode cX4_take 44 = .ok (.aload_n 0, 1) := by decide +kernel
theorem dX4_take_45 : decode cX4_take 45 = .ok (.getfield 19, 3) := by decide +kernel
theorem dX4_take_48 : decode cX4_take 48 = .ok (.iconst 0, 1) := by decide +kernel
theorem dX4_take_49 : decode cX4_take 49 = .ok (.iaload, 1) := by decide +kernel
theorem dX4_take_50 : decode cX4_take 50 = .ok (.invokevirtual 96, 3) := by decide +kernel
theorem dX4_take_53 : decode cX4_take 53 = .ok (.goto 144, 3) := by decide +kernel
theorem dX4_take_56 : decode cX4_take 56 = .ok (.aload_n 1, 1) := by decide +kernel
theorem dX4_take_57 : decode cX4_take 57 = .ok (.getfield 49, 3) := by decide +kernel
theorem dX4_take_60 : decode cX4_take 60 = .ok (.aload_n 0, 1) := by decide +kernel
theorem dX4_take_61 : decode cX4_take 61 = .ok (.getfield 19, 3) := by decide +kernel
theorem dX4_take_64 : decode cX4_take 64 = .ok (.iconst 0, 1) := by decide +kernel
theorem dX4_take_65 : decode cX4_take 65 = .ok (.iaload, 1) := by decide +kernel
theorem dX4_take_66 : decode cX4_take 66 = .ok (.aload_n 0, 1) := by decide +kernel
theorem dX4_take_67 : decode cX4_take 67 = .ok (.getfield 19, 3) := by decide +kernel
theorem dX4_take_70 : decode cX4_take 70 = .ok (.iconst 1, 1) := by decide +kernel
theorem dX4_take_71 : decode cX4_take 71 = .ok (.iaload, 1) := by decide +kernel
theorem dX4_take_72 : decode cX4_take 72 = .ok (.aload_n 0, 1) := by decide +kernel
theorem dX4_take_73 : decode cX4_take 73 = .ok (.getfield 19, 3) := by decide +kernel
theorem dX4_take_76 : decode cX4_take 76 = .ok (.iconst 2, 1) := by decide +kernel
theorem dX4_take_77 : decode cX4_take 77 = .ok (.iaload, 1) := by decide +kernel
theorem dX4_take_78 : decode cX4_take 78 = .ok (.invokevirtual 100, 3) := by decide +kernel
theorem dX4_take_81 : decode cX4_take 81 = .ok (.goto 116, 3) := by decide +kernel
theorem dX4_take_84 : decode cX4_take 84 = .ok (.aload_n 1, 1) := by decide +kernel
theorem dX4_take_85 : decode cX4_take 85 = .ok (.getfield 104, 3) := by decide +kernel
theorem dX4_take_88 : decode cX4_take 88 = .ok (.aload_n 0, 1) := by decide +kernel
theorem dX4_take_89 : decode cX4_take 89 = .ok (.getfield 19, 3) := by decide +kernel
theorem dX4_take_92 : decode cX4_take 92 = .ok (.iconst 0, 1) := by decide +kernel
theorem dX4_take_93 : decode cX4_take 93 = .ok (.iaload, 1) := by decide +kernel
theorem dX4_take_94 : decode cX4_take 94 = .ok (.aload_n 0, 1) := by decide +kernel
theorem dX4_take_95 : decode cX4_take 95 = .ok (.getfield 19, 3) := by decide +kernel
theorem dX4_take_98 : decode cX4_take 98 = .ok (.iconst 1, 1) := by decide +kernel
theorem dX4_take_99 : decode cX4_take 99 = .ok (.iaload, 1) := by decide +kernel
theorem dX4_take_100 : decode cX4_take 100 = .ok (.aload_n 0, 1) := by decide +kernel
theorem dX4_take_101 : decode cX4_take 101 = .ok (.getfield 19, 3) := by decide +kernel
theorem dX4_take_104 : decode cX4_take 104 = .ok (.iconst 2, 1) := by decide +kernel
theorem dX4_take_105 : decode cX4_take 105 = .ok (.iaload, 1) := by decide +kernel
theorem dX4_take_106 : decode cX4_take 106 = .ok (.invokevirtual 108, 3) := by decide +kernel
theorem dX4_take_109 : decode cX4_take 109 = .ok (.goto 88, 3) := by decide +kernel
theorem dX4_take_112 : decode cX4_take 112 = .ok (.aload_n 1, 1) := by decide +kernel
theorem dX4_take_113 : decode cX4_take 113 = .ok (.getfield 104, 3) := by decide +kernel
theorem dX4_take_116 : decode cX4_take 116 = .ok (.aload_n 0, 1) := by decide +kernel
theorem dX4_take_117 : decode cX4_take 117 = .ok (.getfield 19, 3) := by decide +kernel
theorem dX4_take_120 : decode cX4_take 120 = .ok (.iconst 0, 1) := by decide +kernel
theorem dX4_take_121 : decode cX4_take 121 = .ok (.iaload, 1) := by decide +kernel
theorem dX4_take_122 : decode cX4_take 122 = .ok (.aload_n 0, 1) := by decide +kernel
theorem dX4_take_123 : decode cX4_take 123 = .ok (.getfield 19, 3) := by decide +kernel
theorem dX4_take_126 : decode cX4_take 126 = .ok (.iconst 1, 1) := by decide +kernel
theorem dX4_take_127 : decode cX4_take 127 = .ok (.iaload, 1) := by decide +kernel
theorem dX4_take_128 : decode cX4_take 128 = .ok (.invokevirtual 113, 3) := by decide +kernel
theorem dX4_take_131 : decode cX4_take 131 = .ok (.goto 66, 3) := by decide +kernel
theorem dX4_take_134 : decode cX4_take 134 = .ok (.aload_n 1, 1) := by decide +kernel
theorem dX4_take_135 : decode cX4_take 135 = .ok (.getfield 104, 3) := by decide +kernel
theorem dX4_take_138 : decode cX4_take 138 = .ok (.aload_n 0, 1) := by decide +kernel
theorem dX4_take_139 : decode cX4_take 139 = .ok (.getfield 19, 3) := by decide +kernel
theorem dX4_take_142 : decode cX4_take 142 = .ok (.iconst 0, 1) := by decide +kernel
theorem dX4_take_143 : decode cX4_take 143 = .ok (.iaload, 1) := by decide +kernel
theorem dX4_take_144 : decode cX4_take 144 = .ok (.invokevirtual 117, 3) := by decide +kernel
theorem dX4_take_147 : decode cX4_take 147 = .ok (.goto 50, 3) := by decide +kernel
theorem dX4_take_150 : decode cX4_take 150 = .ok (.aload_n 1, 1) := by decide +kernel
theorem dX4_take_151 : decode cX4_take 151 = .ok (.getfield 49, 3) := by decide +kernel
theorem dX4_take_154 : decode cX4_take 154 = .ok (.aload_n 0, 1) := by decide +kernel
theorem dX4_take_155 : decode cX4_take 155 = .ok (.getfield 19, 3) := by decide +kernel
theorem dX4_take_158 : decode cX4_take 158 = .ok (.iconst 0, 1) := by decide +kernel
theorem dX4_take_159 : decode cX4_take 159 = .ok (.iaload, 1) := by decide +kernel
theorem dX4_take_160 : decode cX4_take 160 = .ok (.aload_n 0, 1) := by decide +kernel
theorem dX4_take_161 : decode cX4_take 161 = .ok (.getfield 19, 3) := by decide +kernel
theorem dX4_take_164 : decode cX4_take 164 = .ok (.iconst 1, 1) := by decide +kernel
theorem dX4_take_165 : decode cX4_take 165 = .ok (.iaload, 1) := by decide +kernel
theorem dX4_take_166 : decode cX4_take 166 = .ok (.invokevirtual 120, 3) := by decide +kernel
theorem dX4_take_169 : decode cX4_take 169 = .ok (.goto 28, 3) := by decide +kernel
theorem dX4_take_172 : decode cX4_take 172 = .ok (.aload_n 1, 1) := by decide +kernel
theorem dX4_take_173 : decode cX4_take 173 = .ok (.getfield 49, 3) := by decide +kernel
theorem dX4_take_176 : decode cX4_take 176 = .ok (.aload_n 0, 1) := by decide +kernel
theorem dX4_take_177 : decode cX4_take 177 = .ok (.getfield 19, 3) := by decide +kernel
theorem dX4_take_180 : decode cX4_take 180 = .ok (.iconst 0, 1) := by decide +kernel
theorem dX4_take_181 : decode cX4_take 181 = .ok (.iaload, 1) := by decide +kernel
theorem dX4_take_182 : decode cX4_take 182 = .ok (.aload_n 0, 1) := by decide +kernel
theorem dX4_take_183 : decode cX4_take 183 = .ok (.getfield 19, 3) := by decide +kernel
theorem dX4_take_186 : decode cX4_take 186 = .ok (.iconst 1, 1) := by decide +kernel
theorem dX4_take_187 : decode cX4_take 187 = .ok (.iaload, 1) := by decide +kernel
theorem dX4_take_188 : decode cX4_take 188 = .ok (.aload_n 0, 1) := by decide +kernel
theorem dX4_take_189 : decode cX4_take 189 = .ok (.getfield 19, 3) := by decide +kernel
theorem dX4_take_192 : decode cX4_take 192 = .ok (.iconst 2, 1) := by decide +kernel
theorem dX4_take_193 : decode cX4_take 193 = .ok (.iaload, 1) := by decide +kernel
theorem dX4_take_194 : decode cX4_take 194 = .ok (.invokevirtual 123, 3) := by decide +kernel
theorem dX4_take_197 : decode cX4_take 197 = .ok (.return_, 1) := by decide +kernel
def fX4_take (a1 : Nat) (a2 : Int) (M : jw_M) : Option jw_M :=
  if jw_tag a1 = 7 then (if a2 = 0 then (if 0 ≤ (0 : Int) ∧ (0 : Int) < 3 then Option.bind (fX9_addCorner (a1 + 1) (M 7 0) M) (fun M2 => some M2) else none) else (if a2 = 1 then (if 0 ≤ (0 : Int) ∧ (0 : Int) < 3 then if 0 ≤ (1 : Int) ∧ (1 : Int) < 3 then if 0 ≤ (2 : Int) ∧ (2 : Int) < 3 then Option.bind (fX9_addStreet (a1 + 1) (M 7 0) (M 7 1) (M 7 2) M) (fun M7 => some M7) else none else none else none) else (if a2 = 2 then (if 0 ≤ (0 : Int) ∧ (0 : Int) < 3 then if 0 ≤ (1 : Int) ∧ (1 : Int) < 3 then if 0 ≤ (2 : Int) ∧ (2 : Int) < 3 then Option.bind (fX10_addGoods (a1 + 8) (M 7 0) (M 7 1) (M 7 2) M) (fun M12 => some M12) else none else none else none) else (if a2 = 3 then (if 0 ≤ (0 : Int) ∧ (0 : Int) < 3 then if 0 ≤ (1 : Int) ∧ (1 : Int) < 3 then Option.bind (fX10_addSeller (a1 + 8) (M 7 0) (M 7 1) M) (fun M16 => some M16) else none else none) else (if a2 = 4 then (if 0 ≤ (0 : Int) ∧ (0 : Int) < 3 then Option.bind (fX10_addWatcher (a1 + 8) (M 7 0) M) (fun M19 => some M19) else none) else (if a2 = 5 then (if 0 ≤ (0 : Int) ∧ (0 : Int) < 3 then if 0 ≤ (1 : Int) ∧ (1 : Int) < 3 then Option.bind (fX9_addCellar (a1 + 1) (M 7 0) (M 7 1) M) (fun M23 => some M23) else none else none) else (if 0 ≤ (0 : Int) ∧ (0 : Int) < 3 then if 0 ≤ (1 : Int) ∧ (1 : Int) < 3 then if 0 ≤ (2 : Int) ∧ (2 : Int) < 3 then Option.bind (fX9_setLaw (a1 + 1) (M 7 0) (M 7 1) (M 7 2) M) (fun M28 => some M28) else none else none else none))))))) else none
set_option maxRecDepth 100000 in
theorem rX4_take (G : jw_G) (a1 : Nat) (a2 : Int) (ha2 : jw_r a2) (M : jw_M) : jw_Rn G YX4_take 3 0 0 true (fun M1 => (0, M1)) 0 [(0, jR G 5), (1, jR G a1), (2, jI a2)] [] M (fX4_take a1 a2 M) := by
  unfold fX4_take
  refine jw_ck (fun ha1 => ?_)
  refine jw_iload_n (pc := 0) 2 dX4_take_0 rfl ?_
  refine jw_ite (fun c3 => ?_) (fun c3 => ?_)
  · refine jw_tsin (pc := 1) 40 0 dX4_take_1 ha2 c3 rfl rfl (by decide) ?_
    refine jw_aloadR (pc := 40) 1 dX4_take_40 rfl ?_
    refine jw_getR (pc := 41) (j := 1) rfl dX4_take_41 jv_7 ji_7 (Or.inr ⟨_, jt_263⟩) ha1 (jn_7 ha1) (by decide) (by decide) rfl (jf_7_1 ha1).1 ?_
    refine jw_aloadR (pc := 44) 0 dX4_take_44 rfl ?_
    refine jw_getR (pc := 45) (j := 6) rfl dX4_take_45 jv_4 ji_4 (Or.inl jt_62) jg_5 jl_5 (by decide) (by decide) rfl jf_4_6 ?_
    refine jw_iconst (pc := 48) dX4_take_48 ?_
    refine jw_iald (pc := 49) dX4_take_49 jg_7 jl_7 (jw_ho jg_7 (by decide)) (jw_rc _ rfl) rfl (fun h1 => ?_)
    refine jw_callVM (pc := 50) (As := [jI (M 7 0)]) (st := []) dX4_take_50 rfl (Nat.le_of_ble_eq_true rfl) qX9_addCorner jt_651 jt_652 jt_653 rfl rfl (Nat.le_of_ble_eq_true rfl) jv_9 rfl (jf_7_1 ha1).2.1 (jf_7_1 ha1).2.2 (by decide) (jw_ho (jf_7_1 ha1).2.1 (by decide)) (kX9_addCorner G (a1 + 1) (M 7 0) h1 M) (fun M2 => ?_)
    refine jw_goto (pc := 53) 197 dX4_take_53 (by decide) ?_
    exact jw_ret (pc := 197) (v := 0) dX4_take_197 trivial rfl rfl
  · refine jw_ite (fun c8 => ?_) (fun c8 => ?_)
    · refine jw_tsin (pc := 1) 56 1 dX4_take_1 ha2 c8 rfl rfl (by decide) ?_
      refine jw_aloadR (pc := 56) 1 dX4_take_56 rfl ?_
      refine jw_getR (pc := 57) (j := 1) rfl dX4_take_57 jv_7 ji_7 (Or.inr ⟨_, jt_263⟩) ha1 (jn_7 ha1) (by decide) (by decide) rfl (jf_7_1 ha1).1 ?_
      refine jw_aloadR (pc := 60) 0 dX4_take_60 rfl ?_
      refine jw_getR (pc := 61) (j := 6) rfl dX4_take_61 jv_4 ji_4 (Or.inl jt_62) jg_5 jl_5 (by decide) (by decide) rfl jf_4_6 ?_
      refine jw_iconst (pc := 64) dX4_take_64 ?_
      refine jw_iald (pc := 65) dX4_take_65 jg_7 jl_7 (jw_ho jg_7 (by decide)) (jw_rc _ rfl) rfl (fun h4 => ?_)
      refine jw_aloadR (pc := 66) 0 dX4_take_66 rfl ?_
      refine jw_getR (pc := 67) (j := 6) rfl dX4_take_67 jv_4 ji_4 (Or.inl jt_62) jg_5 jl_5 (by decide) (by decide) rfl jf_4_6 ?_
      refine jw_iconst (pc := 70) dX4_take_70 ?_
      refine jw_iald (pc := 71) dX4_take_71 jg_7 jl_7 (jw_ho jg_7 (by decide)) (jw_rc _ rfl) rfl (fun h5 => ?_)
      refine jw_aloadR (pc := 72) 0 dX4_take_72 rfl ?_
      refine jw_getR (pc := 73) (j := 6) rfl dX4_take_73 jv_4 ji_4 (Or.inl jt_62) jg_5 jl_5 (by decide) (by decide) rfl jf_4_6 ?_
      refine jw_iconst (pc := 76) dX4_take_76 ?_
      refine jw_iald (pc := 77) dX4_take_77 jg_7 jl_7 (jw_ho jg_7 (by decide)) (jw_rc _ rfl) rfl (fun h6 => ?_)
      refine jw_callVM (pc := 78) (As := [jI (M 7 0), jI (M 7 1), jI (M 7 2)]) (st := []) dX4_take_78 rfl (Nat.le_of_ble_eq_true rfl) qX9_addStreet jt_655 jt_656 jt_657 rfl rfl (Nat.le_of_ble_eq_true rfl) jv_9 rfl (jf_7_1 ha1).2.1 (jf_7_1 ha1).2.2 (by decide) (jw_ho (jf_7_1 ha1).2.1 (by decide)) (kX9_addStreet G (a1 + 1) (M 7 0) (M 7 1) (M 7 2) h4 h5 h6 M) (fun M7 => ?_)
      refine jw_goto (pc := 81) 197 dX4_take_81 (by decide) ?_
      exact jw_ret (pc := 197) (v := 0) dX4_take_197 trivial rfl rfl
    · refine jw_ite (fun c13 => ?_) (fun c13 => ?_)
      · refine jw_tsin (pc := 1) 84 2 dX4_take_1 ha2 c13 rfl rfl (by decide) ?_
        refine jw_aloadR (pc := 84) 1 dX4_take_84 rfl ?_
        refine jw_getR (pc := 85) (j := 2) rfl dX4_take_85 jv_7 ji_7 (Or.inr ⟨_, jt_270⟩) ha1 (jn_7 ha1) (by decide) (by decide) rfl (jf_7_2 ha1).1 ?_
        refine jw_aloadR (pc := 88) 0 dX4_take_88 rfl ?_
        refine jw_getR (pc := 89) (j := 6) rfl dX4_take_89 jv_4 ji_4 (Or.inl jt_62) jg_5 jl_5 (by decide) (by decide) rfl jf_4_6 ?_
        refine jw_iconst (pc := 92) dX4_take_92 ?_
        refine jw_iald (pc := 93) dX4_take_93 jg_7 jl_7 (jw_ho jg_7 (by decide)) (jw_rc _ rfl) rfl (fun h9 => ?_)
        refine jw_aloadR (pc := 94) 0 dX4_take_94 rfl ?_
        refine jw_getR (pc := 95) (j := 6) rfl dX4_take_95 jv_4 ji_4 (Or.inl jt_62) jg_5 jl_5 (by decide) (by decide) rfl jf_4_6 ?_
        refine jw_iconst (pc := 98) dX4_take_98 ?_
        refine jw_iald (pc := 99) dX4_take_99 jg_7 jl_7 (jw_ho jg_7 (by decide)) (jw_rc _ rfl) rfl (fun h10 => ?_)
        refine jw_aloadR (pc := 100) 0 dX4_take_100 rfl ?_
        refine jw_getR (pc := 101) (j := 6) rfl dX4_take_101 jv_4 ji_4 (Or.inl jt_62) jg_5 jl_5 (by decide) (by decide) rfl jf_4_6 ?_
        refine jw_iconst (pc := 104) dX4_take_104 ?_
        refine jw_iald (pc := 105) dX4_take_105 jg_7 jl_7 (jw_ho jg_7 (by decide)) (jw_rc _ rfl) rfl (fun h11 => ?_)
        refine jw_callVM (pc := 106) (As := [jI (M 7 0), jI (M 7 1), jI (M 7 2)]) (st := []) dX4_take_106 rfl (Nat.le_of_ble_eq_true rfl) qX10_addGoods jt_666 jt_667 jt_668 rfl rfl (Nat.le_of_ble_eq_true rfl) jv_10 rfl (jf_7_2 ha1).2.1 (jf_7_2 ha1).2.2 (by decide) (jw_ho (jf_7_2 ha1).2.1 (by decide)) (kX10_addGoods G (a1 + 8) (M 7 0) (M 7 1) (M 7 2) h9 h10 h11 M) (fun M12 => ?_)
        refine jw_goto (pc := 109) 197 dX4_take_109 (by decide) ?_
        exact jw_ret (pc := 197) (v := 0) dX4_take_197 trivial rfl rfl
      · refine jw_ite (fun c17 => ?_) (fun c17 => ?_)
        · refine jw_tsin (pc := 1) 112 3 dX4_take_1 ha2 c17 rfl rfl (by decide) ?_
          refine jw_aloadR (pc := 112) 1 dX4_take_112 rfl ?_
          refine jw_getR (pc := 113) (j := 2) rfl dX4_take_113 jv_7 ji_7 (Or.inr ⟨_, jt_270⟩) ha1 (jn_7 ha1) (by decide) (by decide) rfl (jf_7_2 ha1).1 ?_
          refine jw_aloadR (pc := 116) 0 dX4_take_116 rfl ?_
          refine jw_getR (pc := 117) (j := 6) rfl dX4_take_117 jv_4 ji_4 (Or.inl jt_62) jg_5 jl_5 (by decide) (by decide) rfl jf_4_6 ?_
          refine jw_iconst (pc := 120) dX4_take_120 ?_
          refine jw_iald (pc := 121) dX4_take_121 jg_7 jl_7 (jw_ho jg_7 (by decide)) (jw_rc _ rfl) rfl (fun h14 => ?_)
          refine jw_aloadR (pc := 122) 0 dX4_take_122 rfl ?_
          refine jw_getR (pc := 123) (j := 6) rfl dX4_take_123 jv_4 ji_4 (Or.inl jt_62) jg_5 jl_5 (by decide) (by decide) rfl jf_4_6 ?_
          refine jw_iconst (pc := 126) dX4_take_126 ?_
          refine jw_iald (pc := 127) dX4_take_127 jg_7 jl_7 (jw_ho jg_7 (by decide)) (jw_rc _ rfl) rfl (fun h15 => ?_)
          refine jw_callVM (pc := 128) (As := [jI (M 7 0), jI (M 7 1)]) (st := []) dX4_take_128 rfl (Nat.le_of_ble_eq_true rfl) qX10_addSeller jt_670 jt_671 jt_672 rfl rfl (Nat.le_of_ble_eq_true rfl) jv_10 rfl (jf_7_2 ha1).2.1 (jf_7_2 ha1).2.2 (by decide) (jw_ho (jf_7_2 ha1).2.1 (by decide)) (kX10_addSeller G (a1 + 8) (M 7 0) (M 7 1) h14 h15 M) (fun M16 => ?_)
          refine jw_goto (pc := 131) 197 dX4_take_131 (by decide) ?_
          exact jw_ret (pc := 197) (v := 0) dX4_take_197 trivial rfl rfl
        · refine jw_ite (fun c20 => ?_) (fun c20 => ?_)
          · refine jw_tsin (pc := 1) 134 4 dX4_take_1 ha2 c20 rfl rfl (by decide) ?_
            refine jw_aloadR (pc := 134) 1 dX4_take_134 rfl ?_
            refine jw_getR (pc := 135) (j := 2) rfl dX4_take_135 jv_7 ji_7 (Or.inr ⟨_, jt_270⟩) ha1 (jn_7 ha1) (by decide) (by decide) rfl (jf_7_2 ha1).1 ?_
            refine jw_aloadR (pc := 138) 0 dX4_take_138 rfl ?_
            refine jw_getR (pc := 139) (j := 6) rfl dX4_take_139 jv_4 ji_4 (Or.inl jt_62) jg_5 jl_5 (by decide) (by decide) rfl jf_4_6 ?_
            refine jw_iconst (pc := 142) dX4_take_142 ?_
            refine jw_iald (pc := 143) dX4_take_143 jg_7 jl_7 (jw_ho jg_7 (by decide)) (jw_rc _ rfl) rfl (fun h18 => ?_)
            refine jw_callVM (pc := 144) (As := [jI (M 7 0)]) (st := []) dX4_take_144 rfl (Nat.le_of_ble_eq_true rfl) qX10_addWatcher jt_674 jt_675 jt_676 rfl rfl (Nat.le_of_ble_eq_true rfl) jv_10 rfl (jf_7_2 ha1).2.1 (jf_7_2 ha1).2.2 (by decide) (jw_ho (jf_7_2 ha1).2.1 (by decide)) (kX10_addWatcher G (a1 + 8) (M 7 0) h18 M) (fun M19 => ?_)
            refine jw_goto (pc := 147) 197 dX4_take_147 (by decide) ?_
            exact jw_ret (pc := 197) (v := 0) dX4_take_197 trivial rfl rfl
          · refine jw_ite (fun c24 => ?_) (fun c24 => ?_)
            · refine jw_tsin (pc := 1) 150 5 dX4_take_1 ha2 c24 rfl rfl (by decide) ?_
              refine jw_aloadR (pc := 150) 1 dX4_take_150 rfl ?_
              refine jw_getR (pc := 151) (j := 1) rfl dX4_take_151 jv_7 ji_7 (Or.inr ⟨_, jt_263⟩) ha1 (jn_7 ha1) (by decide) (by decide) rfl (jf_7_1 ha1).1 ?_
              refine jw_aloadR (pc := 154) 0 dX4_take_154 rfl ?_
              refine jw_getR (pc := 155) (j := 6) rfl dX4_take_155 jv_4 ji_4 (Or.inl jt_62) jg_5 jl_5 (by decide) (by decide) rfl jf_4_6 ?_
              refine jw_iconst (pc := 158) dX4_take_158 ?_
              refine jw_iald (pc := 159) dX4_take_159 jg_7 jl_7 (jw_ho jg_7 (by decide)) (jw_rc _ rfl) rfl (fun h21 => ?_)
              refine jw_aloadR (pc := 160) 0 dX4_take_160 rfl ?_
              refine jw_getR (pc := 161) (j := 6) rfl dX4_take_161 jv_4 ji_4 (Or.inl jt_62) jg_5 jl_5 (by decide) (by decide) rfl jf_4_6 ?_
              refine jw_iconst (pc := 164) dX4_take_164 ?_
              refine jw_iald (pc := 165) dX4_take_165 jg_7 jl_7 (jw_ho jg_7 (by decide)) (jw_rc _ rfl) rfl (fun h22 => ?_)
              refine jw_callVM (pc := 166) (As := [jI (M 7 0), jI (M 7 1)]) (st := []) dX4_take_166 rfl (Nat.le_of_ble_eq_true rfl) qX9_addCellar jt_678 jt_679 jt_680 rfl rfl (Nat.le_of_ble_eq_true rfl) jv_9 rfl (jf_7_1 ha1).2.1 (jf_7_1 ha1).2.2 (by decide) (jw_ho (jf_7_1 ha1).2.1 (by decide)) (kX9_addCellar G (a1 + 1) (M 7 0) (M 7 1) h21 h22 M) (fun M23 => ?_)
              refine jw_goto (pc := 169) 197 dX4_take_169 (by decide) ?_
              exact jw_ret (pc := 197) (v := 0) dX4_take_197 trivial rfl rfl
            · refine jw_tsout (pc := 1) 172 dX4_take_1 ha2 (by omega) (by decide) ?_
              refine jw_aloadR (pc := 172) 1 dX4_take_172 rfl ?_
              refine jw_getR (pc := 173) (j := 1) rfl dX4_take_173 jv_7 ji_7 (Or.inr ⟨_, jt_263⟩) ha1 (jn_7 ha1) (by decide) (by decide) rfl (jf_7_1 ha1).1 ?_
              refine jw_aloadR (pc := 176) 0 dX4_take_176 rfl ?_
              refine jw_getR (pc := 177) (j := 6) rfl dX4_take_177 jv_4 ji_4 (Or.inl jt_62) jg_5 jl_5 (by decide) (by decide) rfl jf_4_6 ?_
              refine jw_iconst (pc := 180) dX4_take_180 ?_
              refine jw_iald (pc := 181) dX4_take_181 jg_7 jl_7 (jw_ho jg_7 (by decide)) (jw_rc _ rfl) rfl (fun h25 => ?_)
              refine jw_aloadR (pc := 182) 0 dX4_take_182 rfl ?_
              refine jw_getR (pc := 183) (j := 6) rfl dX4_take_183 jv_4 ji_4 (Or.inl jt_62) jg_5 jl_5 (by decide) (by decide) rfl jf_4_6 ?_
              refine jw_iconst (pc := 186) dX4_take_186 ?_
              refine jw_iald (pc := 187) dX4_take_187 jg_7 jl_7 (jw_ho jg_7 (by decide)) (jw_rc _ rfl) rfl (fun h26 => ?_)
              refine jw_aloadR (pc := 188) 0 dX4_take_188 rfl ?_
              refine jw_getR (pc := 189) (j := 6) rfl dX4_take_189 jv_4 ji_4 (Or.inl jt_62) jg_5 jl_5 (by decide) (by decide) rfl jf_4_6 ?_
              refine jw_iconst (pc := 192) dX4_take_192 ?_
              refine jw_iald (pc := 193) dX4_take_193 jg_7 jl_7 (jw_ho jg_7 (by decide)) (jw_rc _ rfl) rfl (fun h27 => ?_)
              refine jw_callVM (pc := 194) (As := [jI (M 7 0), jI (M 7 1), jI (M 7 2)]) (st := []) dX4_take_194 rfl (Nat.le_of_ble_eq_true rfl) qX9_setLaw jt_682 jt_507 jt_508 rfl rfl (Nat.le_of_ble_eq_true rfl) jv_9 rfl (jf_7_1 ha1).2.1 (jf_7_1 ha1).2.2 (by decide) (jw_ho (jf_7_1 ha1).2.1 (by decide)) (kX9_setLaw G (a1 + 1) (M 7 0) (M 7 1) (M 7 2) h25 h26 h27 M) (fun M28 => ?_)
              exact jw_ret (pc := 197) (v := 0) dX4_take_197 trivial rfl rfl
theorem kX4_take (G : jw_G) (a1 : Nat) (a2 : Int) (ha2 : jw_r a2) (M : jw_M) : jw_Ct G YX4_take none 3 0 0 true (fun M1 => (0, M1)) yX4_take [jR G 5, jR G a1, jI a2] M (fX4_take a1 a2 M) := jw_met (by decide) rfl rfl rfl (Nat.le_of_ble_eq_true rfl) (rX4_take G a1 a2 ha2 M)
abbrev YX4_statement : jw_Y := (RX4, cX4_statement, 5, 1, "statement")
theorem qX4_statement : jw_cy YX4_statement (some .int) yX4_statement 3 := ⟨by decide, jt_631, jt_4, by decide, by decide +kernel⟩
theorem dX4_statement_0 : decode cX4_statement 0 = .ok (.iload_n 2, 1) := by decide +kernel
theorem dX4_statement_1 : decode cX4_statement 1 = .ok (.iload_n 3, 1) := by decide +kernel
theorem dX4_statement_2 : decode cX4_statement 2 = .ok (.invokestatic 70, 3) := by decide +kernel
theorem dX4_statement_5 : decode cX4_statement 5 = .ok (.ifCond .ne 5, 3) := by decide +kernel
theorem dX4_statement_8 : decode cX4_statement 8 = .ok (.iconst 1, 1) := by decide +kernel
theorem dX4_statement_9 : decode cX4_statement 9 = .ok (.ireturn, 1) := by decide +kernel
theorem dX4_statement_10 : decode cX4_statement 10 = .ok (.aload_n 0, 1) := by decide +kernel
theorem dX4_statement_11 : decode cX4_statement 11 = .ok (.getfield 23, 3) := by decide +kernel
theorem dX4_statement_14 : decode cX4_statement 14 = .ok (.iload_n 3, 1) := by decide +kernel
theorem dX4_statement_15 : decode cX4_statement 15 = .ok (.iaload, 1) := by decide +kernel
theorem dX4_statement_16 : decode cX4_statement 16 = .ok (.getstatic 74, 3) := by decide +kernel
theorem dX4_statement_19 : decode cX4_statement 19 = .ok (.iload_n 3, 1) := by decide +kernel
theorem dX4_statement_20 : decode cX4_statement 20 = .ok (.iaload, 1) := by decide +kernel
theorem dX4_statement_21 : decode cX4_statement 21 = .ok (.if_icmp .lt 5, 3) := by decide +kernel
theorem dX4_statement_24 : decode cX4_statement 24 = .ok (.iconst 3, 1) := by decide +kernel
theorem dX4_statement_25 : decode cX4_statement 25 = .ok (.ireturn, 1) := by decide +kernel
theorem dX4_statement_26 : decode cX4_statement 26 = .ok (.aload_n 0, 1) := by decide +kernel
theorem dX4_statement_27 : decode cX4_statement 27 = .ok (.invokevirtual 43, 3) := by decide +kernel
theorem dX4_statement_30 : decode cX4_statement 30 = .ok (.iconst 0, 1) := by decide +kernel
theorem dX4_statement_31 : decode cX4_statement 31 = .ok (.istore 4, 2) := by decide +kernel
theorem dX4_statement_33 : decode cX4_statement 33 = .ok (.iload 4, 2) := by decide +kernel
theorem dX4_statement_35 : decode cX4_statement 35 = .ok (.getstatic 77, 3) := by decide +kernel
theorem dX4_statement_38 : decode cX4_statement 38 = .ok (.iload_n 3, 1) := by decide +kernel
theorem dX4_statement_39 : decode cX4_statement 39 = .ok (.iaload, 1) := by decide +kernel
theorem dX4_statement_40 : decode cX4_statement 40 = .ok (.if_icmp .ge 46, 3) := by decide +kernel
theorem dX4_statement_43 : decode cX4_statement 43 = .ok (.aload_n 0, 1) := by decide +kernel
theorem dX4_statement_44 : decode cX4_statement 44 = .ok (.getfield 46, 3) := by decide +kernel
theorem dX4_statement_47 : decode cX4_statement 47 = .ok (.iconst 2, 1) := by decide +kernel
theorem dX4_statement_48 : decode cX4_statement 48 = .ok (.if_icmp .eq 5, 3) := by decide +kernel
theorem dX4_statement_51 : decode cX4_statement 51 = .ok (.iconst 1, 1) := by decide +kernel
theorem dX4_statement_52 : decode cX4_statement 52 = .ok (.ireturn, 1) := by decide +kernel
theorem dX4_statement_53 : decode cX4_statement 53 = .ok (.aload_n 0, 1) := by decide +kernel
theorem dX4_statement_54 : decode cX4_statement 54 = .ok (.iload_n 3, 1) := by decide +kernel
theorem dX4_statement_55 : decode cX4_statement 55 = .ok (.iload 4, 2) := by decide +kernel
theorem dX4_statement_57 : decode cX4_statement 57 = .ok (.invokevirtual 80, 3) := by decide +kernel
theorem dX4_statement_60 : decode cX4_statement 60 = .ok (.ifCond .ne 5, 3) := by decide +kernel
theorem dX4_statement_63 : decode cX4_statement 63 = .ok (.iconst 2, 1) := by decide +kernel
theorem dX4_statement_64 : decode cX4_statement 64 = .ok (.ireturn, 1) := by decide +kernel
theorem dX4_statement_65 : decode cX4_statement 65 = .ok (.aload_n 0, 1) := by decide +kernel
theorem dX4_statement_66 : decode cX4_statement 66 = .ok (.getfield 19, 3) := by decide +kernel
theorem dX4_statement_69 : decode cX4_statement 69 = .ok (.iload 4, 2) := by decide +kernel
theorem dX4_statement_71 : decode cX4_statement 71 = .ok (.aload_n 0, 1) := by decide +kernel
theorem dX4_statement_72 : decode cX4_statement 72 = .ok (.getfield 83, 3) := by decide +kernel
theorem dX4_statement_75 : decode cX4_statement 75 = .ok (.iastore, 1) := by decide +kernel
theorem dX4_statement_76 : decode cX4_statement 76 = .ok (.aload_n 0, 1) := by decide +kernel
theorem dX4_statement_77 : decode cX4_statement 77 = .ok (.invokevirtual 43, 3) := by decide +kernel
theorem dX4_statement_80 : decode cX4_statement 80 = .ok (.iinc 4 1, 3) := by decide +kernel
theorem dX4_statement_83 : decode cX4_statement 83 = .ok (.goto (-50), 3) := by decide +kernel
theorem dX4_statement_86 : decode cX4_statement 86 = .ok (.aload_n 0, 1) := by decide +kernel
theorem dX4_statement_87 : decode cX4_statement 87 = .ok (.getfield 46, 3) := by decide +kernel
theorem dX4_statement_90 : decode cX4_statement 90 = .ok (.iconst 3, 1) := by decide +kernel
theorem dX4_statement_91 : decode cX4_statement 91 = .ok (.if_icmp .eq 5, 3) := by decide +kernel
theorem dX4_statement_94 : decode cX4_statement 94 = .ok (.iconst 1, 1) := by decide +kernel
theorem dX4_statement_95 : decode cX4_statement 95 = .ok (.ireturn, 1) := by decide +kernel
theorem dX4_statement_96 : decode cX4_statement 96 = .ok (.aload_n 0, 1) := by decide +kernel
theorem dX4_statement_97 : decode cX4_statement 97 = .ok (.invokevirtual 43, 3) := by decide +kernel
theorem dX4_statement_100 : decode cX4_statement 100 = .ok (.aload_n 0, 1) := by decide +kernel
theorem dX4_statement_101 : decode cX4_statement 101 = .ok (.getfield 23, 3) := by decide +kernel
theorem dX4_statement_104 : decode cX4_statement 104 = .ok (.iload_n 3, 1) := by decide +kernel
theorem dX4_statement_105 : decode cX4_statement 105 = .ok (.dup2, 1) := by decide +kernel
theorem dX4_statement_106 : decode cX4_statement 106 = .ok (.iaload, 1) := by decide +kernel
theorem dX4_statement_107 : decode cX4_statement 107 = .ok (.iconst 1, 1) := by decide +kernel
theorem dX4_statement_108 : decode cX4_statement 108 = .ok (.iadd, 1) := by decide +kernel
theorem dX4_statement_109 : decode cX4_statement 109 = .ok (.iastore, 1) := by decide +kernel
theorem dX4_statement_110 : decode cX4_statement 110 = .ok (.aload_n 0, 1) := by decide +kernel
theorem dX4_statement_111 : decode cX4_statement 111 = .ok (.aload_n 1, 1) := by decide +kernel
theorem dX4_statement_112 : decode cX4_statement 112 = .ok (.iload_n 3, 1) := by decide +kernel
theorem dX4_statement_113 : decode cX4_statement 113 = .ok (.invokevirtual 86, 3) := by decide +kernel
theorem dX4_statement_116 : decode cX4_statement 116 = .ok (.iconst 0, 1) := by decide +kernel
theorem dX4_statement_117 : decode cX4_statement 117 = .ok (.ireturn, 1) := by decide +kernel
def fX4_statement_33 (a1 : Nat) : Nat → Int → Int → jw_M → Option (Int × jw_M)
  | 0, _, _, _ => none
  | k + 1, x3, x4, M => if 0 ≤ x3 ∧ x3 < 7 then if x4 < jw_x1.getD (x3).toNat 0 then (if M 5 4 = 2 then (Option.bind (fX4_isAsTold x3 x4 M) (fun v6 => if v6 = 0 then (some (2, M)) else (if 0 ≤ x4 ∧ x4 < 3 then Option.bind (some (jw_up M 7 x4 (M 5 5))) (fun M8 => Option.bind (fX4_nextToken  M8) (fun M9 => Option.bind (some (jw_w (x4 + 1))) (fun v10 => fX4_statement_33 a1 k x3 v10 M9))) else none))) else (some (1, M))) else (if M 5 4 = 3 then (Option.bind (fX4_nextToken  M) (fun M12 => if 0 ≤ x3 ∧ x3 < 7 then if 0 ≤ x3 ∧ x3 < 7 then Option.bind (some (jw_up M12 8 x3 (jw_w ((M12 8 x3) + 1)))) (fun M14 => Option.bind (fX4_take a1 x3 M14) (fun M15 => some (0, M15))) else none else none)) else (some (1, M))) else none
set_option maxRecDepth 100000 in
theorem pX4_statement_33 (G : jw_G) (a1 : Nat) (ha1 : jw_tag a1 = 7) : ∀ (k : Nat) (x3 : Int) (x4 : Int) (hx3 : jw_r x3) (hx4 : jw_r x4) (M : jw_M), jw_Rn G YX4_statement 4 0 0 true (fun q => q) 33 [(0, jR G 5), (1, jR G a1), (3, jI x3), (4, jI x4)] [] M (fX4_statement_33 a1 k x3 x4 M) := by
  intro k
  induction k with
  | zero =>
    intro x3 x4 hx3 hx4 M
    exact jw_none
  | succ k ih =>
    intro x3 x4 hx3 hx4 M
    rw [fX4_statement_33]
    refine jw_iload (pc := 33) 3 dX4_statement_33 rfl ?_
    refine jw_gsta (pc := 35) 1 rfl dX4_statement_35 js_1 jt_637 ?_
    refine jw_iload_n (pc := 38) 2 dX4_statement_38 rfl ?_
    refine jw_sald (pc := 39) dX4_statement_39 js_1 hx3 rfl ?_
    refine jw_ic_ge (pc := 40) 86 dX4_statement_40 (by decide) hx4 (jw_xr _ _ rfl) (fun _ => ?_) (fun _ => ?_)
    · refine jw_aloadR (pc := 43) 0 dX4_statement_43 rfl ?_
      refine jw_getI (pc := 44) (j := 4) rfl dX4_statement_44 jv_4 ji_4 (Or.inl jt_60) jg_5 jl_5 (by decide) (by decide) (jw_ho jg_5 (by decide)) (Or.inl rfl) rfl (fun h5 => ?_)
      refine jw_iconst (pc := 47) dX4_statement_47 ?_
      refine jw_ic_eq (pc := 48) 53 dX4_statement_48 (by decide) h5 (jw_rc _ rfl) (fun _ => ?_) (fun _ => ?_)
      · refine jw_aloadR (pc := 53) 0 dX4_statement_53 rfl ?_
        refine jw_iload_n (pc := 54) 2 dX4_statement_54 rfl ?_
        refine jw_iload (pc := 55) 3 dX4_statement_55 rfl ?_
        refine jw_callVz (pc := 57) (As := [jI x3, jI x4]) (st := []) dX4_statement_57 rfl (Nat.le_of_ble_eq_true rfl) qX4_isAsTold jt_639 jt_641 jp_10 rfl rfl (Nat.le_of_ble_eq_true rfl) jv_4 rfl jg_5 jl_5 (by decide) (jw_ho jg_5 (by decide)) (kX4_isAsTold G x3 x4 hx3 hx4 M) (fun v6 hv6 => ?_)
        refine jw_if_ne (pc := 60) 65 dX4_statement_60 (by decide) (jw_bz hv6) (fun _ => ?_) (fun _ => ?_)
        · refine jw_iconst (pc := 63) dX4_statement_63 ?_
          exact jw_ret (pc := 64) (v := 2) dX4_statement_64 (jw_rc _ rfl) rfl rfl
        · refine jw_aloadR (pc := 65) 0 dX4_statement_65 rfl ?_
          refine jw_getR (pc := 66) (j := 6) rfl dX4_statement_66 jv_4 ji_4 (Or.inl jt_62) jg_5 jl_5 (by decide) (by decide) rfl jf_4_6 ?_
          refine jw_iload (pc := 69) 3 dX4_statement_69 rfl ?_
          refine jw_aloadR (pc := 71) 0 dX4_statement_71 rfl ?_
          refine jw_getI (pc := 72) (j := 5) rfl dX4_statement_72 jv_4 ji_4 (Or.inl jt_61) jg_5 jl_5 (by decide) (by decide) (jw_ho jg_5 (by decide)) (Or.inl rfl) rfl (fun h7 => ?_)
          refine jw_iast (pc := 75) dX4_statement_75 jg_7 jl_7 (jw_ho jg_7 (by decide)) hx4 h7 rfl ?_
          refine jw_letM (fun M8 => ?_)
          refine jw_aloadR (pc := 76) 0 dX4_statement_76 rfl ?_
          refine jw_callVM (pc := 77) (As := []) (st := []) dX4_statement_77 rfl (Nat.le_of_ble_eq_true rfl) qX4_nextToken jt_531 jt_533 jp_2 rfl rfl (Nat.le_of_ble_eq_true rfl) jv_4 rfl jg_5 jl_5 (by decide) (jw_ho jg_5 (by decide)) (kX4_nextToken G  M8) (fun M9 => ?_)
          refine jw_iincL (pc := 80) 3 (lv' := (fun y => [(4, y), (0, jR G 5), (1, jR G a1), (3, jI x3)])) dX4_statement_80 rfl (Nat.le_of_ble_eq_true rfl) (fun _ => rfl) (fun v10 hv10 => ?_)
          refine jw_goto (pc := 83) 33 dX4_statement_83 (by decide) ?_
          exact jw_few [1, 2, 3, 0] rfl (ih x3 v10 hx3 hv10 M9)
      · refine jw_iconst (pc := 51) dX4_statement_51 ?_
        exact jw_ret (pc := 52) (v := 1) dX4_statement_52 (jw_rc _ rfl) rfl rfl
    · refine jw_aloadR (pc := 86) 0 dX4_statement_86 rfl ?_
      refine jw_getI (pc := 87) (j := 4) rfl dX4_statement_87 jv_4 ji_4 (Or.inl jt_60) jg_5 jl_5 (by decide) (by decide) (jw_ho jg_5 (by decide)) (Or.inl rfl) rfl (fun h11 => ?_)
      refine jw_iconst (pc := 90) dX4_statement_90 ?_
      refine jw_ic_eq (pc := 91) 96 dX4_statement_91 (by decide) h11 (jw_rc _ rfl) (fun _ => ?_) (fun _ => ?_)
      · refine jw_aloadR (pc := 96) 0 dX4_statement_96 rfl ?_
        refine jw_callVM (pc := 97) (As := []) (st := []) dX4_statement_97 rfl (Nat.le_of_ble_eq_true rfl) qX4_nextToken jt_531 jt_533 jp_2 rfl rfl (Nat.le_of_ble_eq_true rfl) jv_4 rfl jg_5 jl_5 (by decide) (jw_ho jg_5 (by decide)) (kX4_nextToken G  M) (fun M12 => ?_)
        refine jw_aloadR (pc := 100) 0 dX4_statement_100 rfl ?_
        refine jw_getR (pc := 101) (j := 7) rfl dX4_statement_101 jv_4 ji_4 (Or.inl jt_63) jg_5 jl_5 (by decide) (by decide) rfl jf_4_7 ?_
        refine jw_iload_n (pc := 104) 2 dX4_statement_104 rfl ?_
        refine jw_dup2 (pc := 105) dX4_statement_105 rfl rfl ?_
        refine jw_iald (pc := 106) dX4_statement_106 jg_8 jl_8 (jw_ho jg_8 (by decide)) hx3 rfl (fun h13 => ?_)
        refine jw_iconst (pc := 107) dX4_statement_107 ?_
        refine jw_iadd (pc := 108) dX4_statement_108 ?_
        refine jw_iast (pc := 109) dX4_statement_109 jg_8 jl_8 (jw_ho jg_8 (by decide)) hx3 (jw_wr _) rfl ?_
        refine jw_letM (fun M14 => ?_)
        refine jw_aloadR (pc := 110) 0 dX4_statement_110 rfl ?_
        refine jw_aloadR (pc := 111) 1 dX4_statement_111 rfl ?_
        refine jw_iload_n (pc := 112) 2 dX4_statement_112 rfl ?_
        refine jw_callVM (pc := 113) (As := [jR G a1, jI x3]) (st := []) dX4_statement_113 rfl (Nat.le_of_ble_eq_true rfl) qX4_take jt_647 jt_649 jp_11 rfl rfl (Nat.le_of_ble_eq_true rfl) jv_4 rfl jg_5 jl_5 (by decide) (jw_ho jg_5 (by decide)) (kX4_take G a1 x3 hx3 M14) (fun M15 => ?_)
        refine jw_iconst (pc := 116) dX4_statement_116 ?_
        exact jw_ret (pc := 117) (v := 0) dX4_statement_117 (jw_rc _ rfl) rfl rfl
      · refine jw_iconst (pc := 94) dX4_statement_94 ?_
        exact jw_ret (pc := 95) (v := 1) dX4_statement_95 (jw_rc _ rfl) rfl rfl
def fX4_statement (a1 : Nat) (a2 : Int) (a3 : Int) (M : jw_M) : Option (Int × jw_M) :=
  if jw_tag a1 = 7 then (Option.bind (fX4_mayFollow a2 a3 M) (fun v1 => if v1 = 0 then (some (1, M)) else (if 0 ≤ a3 ∧ a3 < 7 then if 0 ≤ a3 ∧ a3 < 7 then if M 8 a3 < jw_x0.getD (a3).toNat 0 then (Option.bind (fX4_nextToken  M) (fun M3 => Option.bind (some 0) (fun v4 => fX4_statement_33 a1 jw_fu a3 v4 M3))) else (some (3, M)) else none else none))) else none
set_option maxRecDepth 100000 in
theorem rX4_statement (G : jw_G) (a1 : Nat) (a2 : Int) (a3 : Int) (ha2 : jw_r a2) (ha3 : jw_r a3) (M : jw_M) : jw_Rn G YX4_statement 4 0 0 true (fun q => q) 0 [(0, jR G 5), (1, jR G a1), (2, jI a2), (3, jI a3)] [] M (fX4_statement a1 a2 a3 M) := by
  unfold fX4_statement
  refine jw_ck (fun ha1 => ?_)
  refine jw_iload_n (pc := 0) 2 dX4_statement_0 rfl ?_
  refine jw_iload_n (pc := 1) 3 dX4_statement_1 rfl ?_
  refine jw_callSz (pc := 2) (As := [jI a2, jI a3]) (st := []) dX4_statement_2 rfl (Nat.le_of_ble_eq_true rfl) qX4_mayFollow jt_632 jt_633 rfl rfl (Nat.le_of_ble_eq_true rfl) (kX4_mayFollow G a2 a3 ha2 ha3 M) (fun v1 hv1 => ?_)
  refine jw_if_ne (pc := 5) 10 dX4_statement_5 (by decide) (jw_bz hv1) (fun _ => ?_) (fun _ => ?_)
  · refine jw_iconst (pc := 8) dX4_statement_8 ?_
    exact jw_ret (pc := 9) (v := 1) dX4_statement_9 (jw_rc _ rfl) rfl rfl
  · refine jw_aloadR (pc := 10) 0 dX4_statement_10 rfl ?_
    refine jw_getR (pc := 11) (j := 7) rfl dX4_statement_11 jv_4 ji_4 (Or.inl jt_63) jg_5 jl_5 (by decide) (by decide) rfl jf_4_7 ?_
    refine jw_iload_n (pc := 14) 3 dX4_statement_14 rfl ?_
    refine jw_iald (pc := 15) dX4_statement_15 jg_8 jl_8 (jw_ho jg_8 (by decide)) ha3 rfl (fun h2 => ?_)
    refine jw_gsta (pc := 16) 0 rfl dX4_statement_16 js_0 jt_635 ?_
    refine jw_iload_n (pc := 19) 3 dX4_statement_19 rfl ?_
    refine jw_sald (pc := 20) dX4_statement_20 js_0 ha3 rfl ?_
    refine jw_ic_lt (pc := 21) 26 dX4_statement_21 (by decide) h2 (jw_xr _ _ rfl) (fun _ => ?_) (fun _ => ?_)
    · refine jw_aloadR (pc := 26) 0 dX4_statement_26 rfl ?_
      refine jw_callVM (pc := 27) (As := []) (st := []) dX4_statement_27 rfl (Nat.le_of_ble_eq_true rfl) qX4_nextToken jt_531 jt_533 jp_2 rfl rfl (Nat.le_of_ble_eq_true rfl) jv_4 rfl jg_5 jl_5 (by decide) (jw_ho jg_5 (by decide)) (kX4_nextToken G  M) (fun M3 => ?_)
      refine jw_iconst (pc := 30) dX4_statement_30 ?_
      refine jw_istoreL (pc := 31) (lv' := (fun y => [(4, y), (0, jR G 5), (1, jR G a1), (2, jI a2), (3, jI a3)])) dX4_statement_31 (jw_rc _ rfl) (by decide) (fun _ => rfl) (fun v4 hv4 => ?_)
      exact jw_few [1, 2, 4, 0] rfl (pX4_statement_33 G a1 ha1 jw_fu a3 v4 ha3 hv4 M3)
    · refine jw_iconst (pc := 24) dX4_statement_24 ?_
      exact jw_ret (pc := 25) (v := 3) dX4_statement_25 (jw_rc _ rfl) rfl rfl
theorem kX4_statement (G : jw_G) (a1 : Nat) (a2 : Int) (a3 : Int) (ha2 : jw_r a2) (ha3 : jw_r a3) (M : jw_M) : jw_Ct G YX4_statement (some .int) 4 0 0 true (fun q => q) yX4_statement [jR G 5, jR G a1, jI a2, jI a3] M (fX4_statement a1 a2 a3 M) := jw_met (by decide) rfl rfl rfl (Nat.le_of_ble_eq_true rfl) (rX4_statement G a1 a2 a3 ha2 ha3 M)
abbrev YX4_spelling : jw_Y := (RX4, cX4_spelling, 1, 3, "spelling")
theorem qX4_spelling : jw_cy YX4_spelling (some (.object "java/lang/String")) yX4_spelling 1 := ⟨by decide, jt_568, jt_4, by decide, by decide +kernel⟩
theorem dX4_spelling_0 : decode cX4_spelling 0 = .ok (.iload_n 0, 1) := by decide +kernel
theorem dX4_spelling_1 : decode cX4_spelling 1 = .ok (.tableswitch 57 0 5 #[39, 42, 45, 48, 51, 54], 39) := by decide +kernel
theorem dX4_spelling_40 : decode cX4_spelling 40 = .ok (.ldc 156, 2) := by decide +kernel
theorem dX4_spelling_42 : decode cX4_spelling 42 = .ok (.areturn, 1) := by decide +kernel
theorem dX4_spelling_43 : decode cX4_spelling 43 = .ok (.ldc 158, 2) := by decide +kernel
theorem dX4_spelling_45 : decode cX4_spelling 45 = .ok (.areturn, 1) := by decide +kernel
theorem dX4_spelling_46 : decode cX4_spelling 46 = .ok (.ldc 160, 2) := by decide +kernel
theorem dX4_spelling_48 : decode cX4_spelling 48 = .ok (.areturn, 1) := by decide +kernel
theorem dX4_spelling_49 : decode cX4_spelling 49 = .ok (.ldc 162, 2) := by decide +kernel
theorem dX4_spelling_51 : decode cX4_spelling 51 = .ok (.areturn, 1) := by decide +kernel
theorem dX4_spelling_52 : decode cX4_spelling 52 = .ok (.ldc 164, 2) := by decide +kernel
theorem dX4_spelling_54 : decode cX4_spelling 54 = .ok (.areturn, 1) := by decide +kernel
theorem dX4_spelling_55 : decode cX4_spelling 55 = .ok (.ldc 166, 2) := by decide +kernel
theorem dX4_spelling_57 : decode cX4_spelling 57 = .ok (.areturn, 1) := by decide +kernel
theorem dX4_spelling_58 : decode cX4_spelling 58 = .ok (.ldc 168, 2) := by decide +kernel
theorem dX4_spelling_60 : decode cX4_spelling 60 = .ok (.areturn, 1) := by decide +kernel
def fX4_spelling (a1 : Int) (M : jw_M) : Option Int :=
  if a1 = 0 then (some 0) else (if a1 = 1 then (some 1) else (if a1 = 2 then (some 2) else (if a1 = 3 then (some 3) else (if a1 = 4 then (some 4) else (if a1 = 5 then (some 5) else (some 6))))))
set_option maxRecDepth 100000 in
theorem rX4_spelling (G : jw_G) (a1 : Int) (ha1 : jw_r a1) (M : jw_M) : jw_Rn G YX4_spelling 1 0 0 true (fun v => (v, M)) 0 [(0, jI a1)] [] M (fX4_spelling a1 M) := by
  unfold fX4_spelling
  refine jw_iload_n (pc := 0) 0 dX4_spelling_0 rfl ?_
  refine jw_ite (fun c1 => ?_) (fun c1 => ?_)
  · refine jw_tsin (pc := 1) 40 0 dX4_spelling_1 ha1 c1 rfl rfl (by decide) ?_
    refine jw_ldcS (pc := 40) (x := 0) 0 rfl dX4_spelling_40 rfl rfl ?_
    exact jw_ret (pc := 42) (v := 0) dX4_spelling_42 (by decide : (0 : Int) ≤ 0 ∧ (0 : Int) < 7) rfl rfl
  · refine jw_ite (fun c2 => ?_) (fun c2 => ?_)
    · refine jw_tsin (pc := 1) 43 1 dX4_spelling_1 ha1 c2 rfl rfl (by decide) ?_
      refine jw_ldcS (pc := 43) (x := 1) 1 rfl dX4_spelling_43 rfl rfl ?_
      exact jw_ret (pc := 45) (v := 1) dX4_spelling_45 (by decide : (0 : Int) ≤ 1 ∧ (1 : Int) < 7) rfl rfl
    · refine jw_ite (fun c3 => ?_) (fun c3 => ?_)
      · refine jw_tsin (pc := 1) 46 2 dX4_spelling_1 ha1 c3 rfl rfl (by decide) ?_
        refine jw_ldcS (pc := 46) (x := 2) 2 rfl dX4_spelling_46 rfl rfl ?_
        exact jw_ret (pc := 48) (v := 2) dX4_spelling_48 (by decide : (0 : Int) ≤ 2 ∧ (2 : Int) < 7) rfl rfl
      · refine jw_ite (fun c4 => ?_) (fun c4 => ?_)
        · refine jw_tsin (pc := 1) 49 3 dX4_spelling_1 ha1 c4 rfl rfl (by decide) ?_
          refine jw_ldcS (pc := 49) (x := 3) 3 rfl dX4_spelling_49 rfl rfl ?_
          exact jw_ret (pc := 51) (v := 3) dX4_spelling_51 (by decide : (0 : Int) ≤ 3 ∧ (3 : Int) < 7) rfl rfl
        · refine jw_ite (fun c5 => ?_) (fun c5 => ?_)
          · refine jw_tsin (pc := 1) 52 4 dX4_spelling_1 ha1 c5 rfl rfl (by decide) ?_
            refine jw_ldcS (pc := 52) (x := 4) 4 rfl dX4_spelling_52 rfl rfl ?_
            exact jw_ret (pc := 54) (v := 4) dX4_spelling_54 (by decide : (0 : Int) ≤ 4 ∧ (4 : Int) < 7) rfl rfl
          · refine jw_ite (fun c6 => ?_) (fun c6 => ?_)
            · refine jw_tsin (pc := 1) 55 5 dX4_spelling_1 ha1 c6 rfl rfl (by decide) ?_
              refine jw_ldcS (pc := 55) (x := 5) 5 rfl dX4_spelling_55 rfl rfl ?_
              exact jw_ret (pc := 57) (v := 5) dX4_spelling_57 (by decide : (0 : Int) ≤ 5 ∧ (5 : Int) < 7) rfl rfl
            · refine jw_tsout (pc := 1) 58 dX4_spelling_1 ha1 (by omega) (by decide) ?_
              refine jw_ldcS (pc := 58) (x := 6) 6 rfl dX4_spelling_58 rfl rfl ?_
              exact jw_ret (pc := 60) (v := 6) dX4_spelling_60 (by decide : (0 : Int) ≤ 6 ∧ (6 : Int) < 7) rfl rfl
theorem kX4_spelling (G : jw_G) (a1 : Int) (ha1 : jw_r a1) (M : jw_M) : jw_Ct G YX4_spelling (some (.object "java/lang/String")) 1 0 0 true (fun v => (v, M)) yX4_spelling [jI a1] M (fX4_spelling a1 M) := jw_met (by decide) rfl rfl rfl (Nat.le_of_ble_eq_true rfl) (rX4_spelling G a1 ha1 M)
abbrev YX4_spells : jw_Y := (RX4, cX4_spells, 3, 4, "spells")
theorem qX4_spells : jw_cy YX4_spells (some .boolean) yX4_spells 1 := ⟨by decide, jt_579, jt_4, by decide, by decide +kernel⟩
theorem dX4_spells_0 : decode cX4_spells 0 = .ok (.aload_n 0, 1) := by decide +kernel
theorem dX4_spells_1 : decode cX4_spells 1 = .ok (.getfield 40, 3) := by decide +kernel
theorem dX4_spells_4 : decode cX4_spells 4 = .ok (.aload_n 0, 1) := by decide +kernel
theorem dX4_spells_5 : decode cX4_spells 5 = .ok (.getfield 26, 3) := by decide +kernel
theorem dX4_spells_8 : decode cX4_spells 8 = .ok (.isub, 1) := by decide +kernel
theorem dX4_spells_9 : decode cX4_spells 9 = .ok (.aload_n 1, 1) := by decide +kernel
theorem dX4_spells_10 : decode cX4_spells 10 = .ok (.invokevirtual 148, 3) := by decide +kernel
theorem dX4_spells_13 : decode cX4_spells 13 = .ok (.if_icmp .eq 5, 3) := by decide +kernel
theorem dX4_spells_16 : decode cX4_spells 16 = .ok (.iconst 0, 1) := by decide +kernel
theorem dX4_spells_17 : decode cX4_spells 17 = .ok (.ireturn, 1) := by decide +kernel
theorem dX4_spells_18 : decode cX4_spells 18 = .ok (.iconst 0, 1) := by decide +kernel
theorem dX4_spells_19 : decode cX4_spells 19 = .ok (.istore_n 2, 1) := by decide +kernel
theorem dX4_spells_20 : decode cX4_spells 20 = .ok (.iload_n 2, 1) := by decide +kernel
theorem dX4_spells_21 : decode cX4_spells 21 = .ok (.aload_n 1, 1) := by decide +kernel
theorem dX4_spells_22 : decode cX4_spells 22 = .ok (.invokevirtual 148, 3) := by decide +kernel
theorem dX4_spells_25 : decode cX4_spells 25 = .ok (.if_icmp .ge 30, 3) := by decide +kernel
theorem dX4_spells_28 : decode cX4_spells 28 = .ok (.aload_n 0, 1) := by decide +kernel
theorem dX4_spells_29 : decode cX4_spells 29 = .ok (.getfield 11, 3) := by decide +kernel
theorem dX4_spells_32 : decode cX4_spells 32 = .ok (.aload_n 0, 1) := by decide +kernel
theorem dX4_spells_33 : decode cX4_spells 33 = .ok (.getfield 26, 3) := by decide +kernel
theorem dX4_spells_36 : decode cX4_spells 36 = .ok (.iload_n 2, 1) := by decide +kernel
theorem dX4_spells_37 : decode cX4_spells 37 = .ok (.iadd, 1) := by decide +kernel
theorem dX4_spells_38 : decode cX4_spells 38 = .ok (.baload, 1) := by decide +kernel
theorem dX4_spells_39 : decode cX4_spells 39 = .ok (.aload_n 1, 1) := by decide +kernel
theorem dX4_spells_40 : decode cX4_spells 40 = .ok (.iload_n 2, 1) := by decide +kernel
theorem dX4_spells_41 : decode cX4_spells 41 = .ok (.invokevirtual 152, 3) := by decide +kernel
theorem dX4_spells_44 : decode cX4_spells 44 = .ok (.if_icmp .eq 5, 3) := by decide +kernel
theorem dX4_spells_47 : decode cX4_spells 47 = .ok (.iconst 0, 1) := by decide +kernel
theorem dX4_spells_48 : decode cX4_spells 48 = .ok (.ireturn, 1) := by decide +kernel
theorem dX4_spells_49 : decode cX4_spells 49 = .ok (.iinc 2 1, 3) := by decide +kernel
theorem dX4_spells_52 : decode cX4_spells 52 = .ok (.goto (-32), 3) := by decide +kernel
theorem dX4_spells_55 : decode cX4_spells 55 = .ok (.iconst 1, 1) := by decide +kernel
theorem dX4_spells_56 : decode cX4_spells 56 = .ok (.ireturn, 1) := by decide +kernel
def fX4_spells_20 (a1 : Int) : Nat → Int → jw_M → Option (Int × jw_M)
  | 0, _, _ => none
  | k + 1, x2, M => if x2 < jw_sl a1 then (if 0 ≤ jw_w ((M 5 2) + x2) ∧ jw_w ((M 5 2) + x2) < 600 then if 0 ≤ x2 ∧ x2 < jw_sl a1 then if M 6 (jw_w ((M 5 2) + x2)) = jw_sc a1 x2 then (Option.bind (some (jw_w (x2 + 1))) (fun v12 => fX4_spells_20 a1 k v12 M)) else (some (0, M)) else none else none) else (some (1, M))
set_option maxRecDepth 100000 in
theorem pX4_spells_20 (G : jw_G) (a1 : Int) (ha1 : 0 ≤ a1 ∧ a1 < 7) : ∀ (k : Nat) (x2 : Int) (hx2 : jw_r x2) (M : jw_M), jw_Rn G YX4_spells 8 0 0 true (fun q => q) 20 [(0, jR G 5), (1, jS G a1), (2, jI x2)] [] M (fX4_spells_20 a1 k x2 M) := by
  intro k
  induction k with
  | zero =>
    intro x2 hx2 M
    exact jw_none
  | succ k ih =>
    intro x2 hx2 M
    rw [fX4_spells_20]
    refine jw_iload_n (pc := 20) 2 dX4_spells_20 rfl ?_
    refine jw_aloadS (pc := 21) 1 dX4_spells_21 rfl ?_
    refine jw_slenR (pc := 22) dX4_spells_22 jt_580 (by decide) (Nat.le_of_ble_eq_true rfl) ha1 ?_
    refine jw_ic_ge (pc := 25) 55 dX4_spells_25 (by decide) hx2 (jw_slr _) (fun _ => ?_) (fun _ => ?_)
    · refine jw_aloadR (pc := 28) 0 dX4_spells_28 rfl ?_
      refine jw_getR (pc := 29) (j := 0) rfl dX4_spells_29 jv_4 ji_4 (Or.inl jt_56) jg_5 jl_5 (by decide) (by decide) rfl jf_4_0 ?_
      refine jw_aloadR (pc := 32) 0 dX4_spells_32 rfl ?_
      refine jw_getI (pc := 33) (j := 2) rfl dX4_spells_33 jv_4 ji_4 (Or.inl jt_58) jg_5 jl_5 (by decide) (by decide) (jw_ho jg_5 (by decide)) (Or.inl rfl) rfl (fun h8 => ?_)
      refine jw_iload_n (pc := 36) 2 dX4_spells_36 rfl ?_
      refine jw_iadd (pc := 37) dX4_spells_37 ?_
      refine jw_bald (pc := 38) dX4_spells_38 jg_6 jl_6 (jw_ho jg_6 (by decide)) (jw_wr _) rfl (fun h9 => ?_)
      refine jw_aloadS (pc := 39) 1 dX4_spells_39 rfl ?_
      refine jw_iload_n (pc := 40) 2 dX4_spells_40 rfl ?_
      refine jw_scatR (pc := 41) dX4_spells_41 jt_590 (by decide) (Nat.le_of_ble_eq_true rfl) ha1 hx2 ?_
      refine jw_ic_eq (pc := 44) 49 dX4_spells_44 (by decide) h9 (jw_scr _ _) (fun _ => ?_) (fun _ => ?_)
      · refine jw_iincL (pc := 49) 2 (lv' := (fun y => [(2, y), (0, jR G 5), (1, jS G a1)])) dX4_spells_49 rfl (Nat.le_of_ble_eq_true rfl) (fun _ => rfl) (fun v12 hv12 => ?_)
        refine jw_goto (pc := 52) 20 dX4_spells_52 (by decide) ?_
        exact jw_few [1, 2, 0] rfl (ih v12 hv12 M)
      · refine jw_iconst (pc := 47) dX4_spells_47 ?_
        exact jw_ret (pc := 48) (v := 0) dX4_spells_48 (Or.inl rfl) rfl rfl
    · refine jw_iconst (pc := 55) dX4_spells_55 ?_
      exact jw_ret (pc := 56) (v := 1) dX4_spells_56 (Or.inr rfl) rfl rfl
def fX4_spells (a1 : Int) (M : jw_M) : Option (Int × jw_M) :=
  if jw_w ((M 5 3) - (M 5 2)) = jw_sl a1 then (Option.bind (some 0) (fun v5 => fX4_spells_20 a1 jw_fu v5 M)) else (some (0, M))
set_option maxRecDepth 100000 in
theorem rX4_spells (G : jw_G) (a1 : Int) (ha1 : 0 ≤ a1 ∧ a1 < 7) (M : jw_M) : jw_Rn G YX4_spells 8 0 0 true (fun q => q) 0 [(0, jR G 5), (1, jS G a1)] [] M (fX4_spells a1 M) := by
  unfold fX4_spells
  refine jw_aloadR (pc := 0) 0 dX4_spells_0 rfl ?_
  refine jw_getI (pc := 1) (j := 3) rfl dX4_spells_1 jv_4 ji_4 (Or.inl jt_59) jg_5 jl_5 (by decide) (by decide) (jw_ho jg_5 (by decide)) (Or.inl rfl) rfl (fun h1 => ?_)
  refine jw_aloadR (pc := 4) 0 dX4_spells_4 rfl ?_
  refine jw_getI (pc := 5) (j := 2) rfl dX4_spells_5 jv_4 ji_4 (Or.inl jt_58) jg_5 jl_5 (by decide) (by decide) (jw_ho jg_5 (by decide)) (Or.inl rfl) rfl (fun h2 => ?_)
  refine jw_isub (pc := 8) dX4_spells_8 ?_
  refine jw_aloadS (pc := 9) 1 dX4_spells_9 rfl ?_
  refine jw_slenR (pc := 10) dX4_spells_10 jt_580 (by decide) (Nat.le_of_ble_eq_true rfl) ha1 ?_
  refine jw_ic_eq (pc := 13) 18 dX4_spells_13 (by decide) (jw_wr _) (jw_slr _) (fun _ => ?_) (fun _ => ?_)
  · refine jw_iconst (pc := 18) dX4_spells_18 ?_
    refine jw_istore_nL (pc := 19) (lv' := (fun y => [(2, y), (0, jR G 5), (1, jS G a1)])) dX4_spells_19 (jw_rc _ rfl) (by decide) (fun _ => rfl) (fun v5 hv5 => ?_)
    exact jw_few [1, 2, 0] rfl (pX4_spells_20 G a1 ha1 jw_fu v5 hv5 M)
  · refine jw_iconst (pc := 16) dX4_spells_16 ?_
    exact jw_ret (pc := 17) (v := 0) dX4_spells_17 (Or.inl rfl) rfl rfl
theorem kX4_spells (G : jw_G) (a1 : Int) (ha1 : 0 ≤ a1 ∧ a1 < 7) (M : jw_M) : jw_Ct G YX4_spells (some .boolean) 8 0 0 true (fun q => q) yX4_spells [jR G 5, jS G a1] M (fX4_spells a1 M) := jw_met (by decide) rfl rfl rfl (Nat.le_of_ble_eq_true rfl) (rX4_spells G a1 ha1 M)
abbrev YX4_wordHere : jw_Y := (RX4, cX4_wordHere, 2, 1, "wordHere")
theorem qX4_wordHere : jw_cy YX4_wordHere (some .int) yX4_wordHere 0 := ⟨by decide, jt_565, jt_4, by decide, by decide +kernel⟩
theorem dX4_wordHere_0 : decode cX4_wordHere 0 = .ok (.iconst 0, 1) := by decide +kernel
theorem dX4_wordHere_1 : decode cX4_wordHere 1 = .ok (.istore_n 1, 1) := by decide +kernel
theorem dX4_wordHere_2 : decode cX4_wordHere 2 = .ok (.iload_n 1, 1) := by decide +kernel
theorem dX4_wordHere_3 : decode cX4_wordHere 3 = .ok (.bipush 7, 2) := by decide +kernel
theorem dX4_wordHere_5 : decode cX4_wordHere 5 = .ok (.if_icmp .ge 22, 3) := by decide +kernel
theorem dX4_wordHere_8 : decode cX4_wordHere 8 = .ok (.aload_n 0, 1) := by decide +kernel
theorem dX4_wordHere_9 : decode cX4_wordHere 9 = .ok (.iload_n 1, 1) := by decide +kernel
theorem dX4_wordHere_10 : decode cX4_wordHere 10 = .ok (.invokestatic 140, 3) := by decide +kernel
theorem dX4_wordHere_13 : decode cX4_wordHere 13 = .ok (.invokevirtual 144, 3) := by decide +kernel
theorem dX4_wordHere_16 : decode cX4_wordHere 16 = .ok (.ifCond .eq 5, 3) := by decide +kernel
theorem dX4_wordHere_19 : decode cX4_wordHere 19 = .ok (.iload_n 1, 1) := by decide +kernel
theorem dX4_wordHere_20 : decode cX4_wordHere 20 = .ok (.ireturn, 1) := by decide +kernel
theorem dX4_wordHere_21 : decode cX4_wordHere 21 = .ok (.iinc 1 1, 3) := by decide +kernel
theorem dX4_wordHere_24 : decode cX4_wordHere 24 = .ok (.goto (-22), 3) := by decide +kernel
theorem dX4_wordHere_27 : decode cX4_wordHere 27 = .ok (.iconst (-1), 1) := by decide +kernel
theorem dX4_wordHere_28 : decode cX4_wordHere 28 = .ok (.ireturn, 1) := by decide +kernel
def fX4_wordHere_2 : Nat → Int → jw_M → Option (Int × jw_M)
  | 0, _, _ => none
  | k + 1, x1, M => if x1 < 7 then (Option.bind (fX4_spelling x1 M) (fun v2 => jw_b2 (fX4_spells v2 M) (fun v3 M4 => if v3 = 0 then (Option.bind (some (jw_w (x1 + 1))) (fun v5 => fX4_wordHere_2 k v5 M4)) else (some (x1, M4))))) else (some ((-1), M))
set_option maxRecDepth 100000 in
theorem pX4_wordHere_2 (G : jw_G) : ∀ (k : Nat) (x1 : Int) (hx1 : jw_r x1) (M : jw_M), jw_Rn G YX4_wordHere 9 0 0 true (fun q => q) 2 [(0, jR G 5), (1, jI x1)] [] M (fX4_wordHere_2 k x1 M) := by
  intro k
  induction k with
  | zero =>
    intro x1 hx1 M
    exact jw_none
  | succ k ih =>
    intro x1 hx1 M
    rw [fX4_wordHere_2]
    refine jw_iload_n (pc := 2) 1 dX4_wordHere_2 rfl ?_
    refine jw_bipush (pc := 3) dX4_wordHere_3 rfl ?_
    refine jw_ic_ge (pc := 5) 27 dX4_wordHere_5 (by decide) hx1 (jw_rc _ rfl) (fun _ => ?_) (fun _ => ?_)
    · refine jw_aloadR (pc := 8) 0 dX4_wordHere_8 rfl ?_
      refine jw_iload_n (pc := 9) 1 dX4_wordHere_9 rfl ?_
      refine jw_callSs (pc := 10) (As := [jI x1]) (st := [jR G 5]) dX4_wordHere_10 rfl (Nat.le_of_ble_eq_true rfl) qX4_spelling jt_566 jt_567 rfl rfl (Nat.le_of_ble_eq_true rfl) (kX4_spelling G x1 hx1 M) (fun v2 hv2 => ?_)
      refine jw_callVMz (pc := 13) (As := [jS G v2]) (st := []) dX4_wordHere_13 rfl (Nat.le_of_ble_eq_true rfl) qX4_spells jt_576 jt_578 jp_8 rfl rfl (Nat.le_of_ble_eq_true rfl) jv_4 rfl jg_5 jl_5 (by decide) (jw_ho jg_5 (by decide)) (kX4_spells G v2 hv2 M) (fun v3 M4 hv3 => ?_)
      refine jw_if_eq (pc := 16) 21 dX4_wordHere_16 (by decide) (jw_bz hv3) (fun _ => ?_) (fun _ => ?_)
      · refine jw_iincL (pc := 21) 1 (lv' := (fun y => [(1, y), (0, jR G 5)])) dX4_wordHere_21 rfl (Nat.le_of_ble_eq_true rfl) (fun _ => rfl) (fun v5 hv5 => ?_)
        refine jw_goto (pc := 24) 2 dX4_wordHere_24 (by decide) ?_
        exact jw_few [1, 0] rfl (ih v5 hv5 M4)
      · refine jw_iload_n (pc := 19) 1 dX4_wordHere_19 rfl ?_
        exact jw_ret (pc := 20) (v := x1) dX4_wordHere_20 hx1 rfl rfl
    · refine jw_iconst (pc := 27) dX4_wordHere_27 ?_
      exact jw_ret (pc := 28) (v := (-1)) dX4_wordHere_28 (jw_rc _ rfl) rfl rfl
def fX4_wordHere (M : jw_M) : Option (Int × jw_M) :=
  Option.bind (some 0) (fun v1 => fX4_wordHere_2 jw_fu v1 M)
set_option maxRecDepth 100000 in
theorem rX4_wordHere (G : jw_G) (M : jw_M) : jw_Rn G YX4_wordHere 9 0 0 true (fun q => q) 0 [(0, jR G 5)] [] M (fX4_wordHere M) := by
  unfold fX4_wordHere
  refine jw_iconst (pc := 0) dX4_wordHere_0 ?_
  refine jw_istore_nL (pc := 1) (lv' := (fun y => [(1, y), (0, jR G 5)])) dX4_wordHere_1 (jw_rc _ rfl) (by decide) (fun _ => rfl) (fun v1 hv1 => ?_)
  exact jw_few [1, 0] rfl (pX4_wordHere_2 G jw_fu v1 hv1 M)
theorem kX4_wordHere (G : jw_G) (M : jw_M) : jw_Ct G YX4_wordHere (some .int) 9 0 0 true (fun q => q) yX4_wordHere [jR G 5] M (fX4_wordHere M) := jw_met (by decide) rfl rfl rfl (Nat.le_of_ble_eq_true rfl) (rX4_wordHere G M)
abbrev YX4_readInto : jw_Y := (RX4, cX4_readInto, 6, 1, "readInto")
theorem qX4_readInto : jw_cy YX4_readInto (some .int) yX4_readInto 1 := ⟨by decide, jt_496, jt_4, by decide, by decide +kernel⟩
theorem dX4_readInto_0 : decode cX4_readInto 0 = .ok (.aload_n 1, 1) := by decide +kernel
theorem dX4_readInto_1 : decode cX4_readInto 1 = .ok (.invokevirtual 29, 3) := by decide +kernel
theorem dX4_readInto_4 : decode cX4_readInto 4 = .ok (.aload_n 0, 1) := by decide +kernel
theorem dX4_readInto_5 : decode cX4_readInto 5 = .ok (.getfield 23, 3) := by decide +kernel
theorem dX4_readInto_8 : decode cX4_readInto 8 = .ok (.iconst 0, 1) := by decide +kernel
theorem dX4_readInto_9 : decode cX4_readInto 9 = .ok (.invokestatic 34, 3) := by decide +kernel
theorem dX4_readInto_12 : decode cX4_readInto 12 = .ok (.aload_n 0, 1) := by decide +kernel
theorem dX4_readInto_13 : decode cX4_readInto 13 = .ok (.iconst 0, 1) := by decide +kernel
theorem dX4_readInto_14 : decode cX4_readInto 14 = .ok (.putfield 40, 3) := by decide +kernel
theorem dX4_readInto_17 : decode cX4_readInto 17 = .ok (.aload_n 0, 1) := by decide +kernel
theorem dX4_readInto_18 : decode cX4_readInto 18 = .ok (.invokevirtual 43, 3) := by decide +kernel
theorem dX4_readInto_21 : decode cX4_readInto 21 = .ok (.iconst (-1), 1) := by decide +kernel
theorem dX4_readInto_22 : decode cX4_readInto 22 = .ok (.istore_n 2, 1) := by decide +kernel
theorem dX4_readInto_23 : decode cX4_readInto 23 = .ok (.iconst 0, 1) := by decide +kernel
theorem dX4_readInto_24 : decode cX4_readInto 24 = .ok (.istore_n 3, 1) := by decide +kernel
theorem dX4_readInto_25 : decode cX4_readInto 25 = .ok (.iload_n 3, 1) := by decide +kernel
theorem dX4_readInto_26 : decode cX4_readInto 26 = .ok (.sipush 600, 3) := by decide +kernel
theorem dX4_readInto_29 : decode cX4_readInto 29 = .ok (.if_icmp .gt 74, 3) := by decide +kernel
theorem dX4_readInto_32 : decode cX4_readInto 32 = .ok (.aload_n 0, 1) := by decide +kernel
theorem dX4_readInto_33 : decode cX4_readInto 33 = .ok (.getfield 46, 3) := by decide +kernel
theorem dX4_readInto_36 : decode cX4_readInto 36 = .ok (.ifCond .ne 22, 3) := by decide +kernel
theorem dX4_readInto_39 : decode cX4_readInto 39 = .ok (.iload_n 2, 1) := by decide +kernel
theorem dX4_readInto_40 : decode cX4_readInto 40 = .ok (.iconst 2, 1) := by decide +kernel
theorem dX4_readInto_41 : decode cX4_readInto 41 = .ok (.if_icmp .lt 17, 3) := by decide +kernel
theorem dX4_readInto_44 : decode cX4_readInto 44 = .ok (.aload_n 1, 1) := by decide +kernel
theorem dX4_readInto_45 : decode cX4_readInto 45 = .ok (.getfield 49, 3) := by decide +kernel
theorem dX4_readInto_48 : decode cX4_readInto 48 = .ok (.invokevirtual 53, 3) := by decide +kernel
theorem dX4_readInto_51 : decode cX4_readInto 51 = .ok (.aload_n 1, 1) := by decide +kernel
theorem dX4_readInto_52 : decode cX4_readInto 52 = .ok (.iconst 1, 1) := by decide +kernel
theorem dX4_readInto_53 : decode cX4_readInto 53 = .ok (.putfield 58, 3) := by decide +kernel
theorem dX4_readInto_56 : decode cX4_readInto 56 = .ok (.iconst 0, 1) := by decide +kernel
theorem dX4_readInto_57 : decode cX4_readInto 57 = .ok (.ireturn, 1) := by decide +kernel
theorem dX4_readInto_58 : decode cX4_readInto 58 = .ok (.aload_n 0, 1) := by decide +kernel
theorem dX4_readInto_59 : decode cX4_readInto 59 = .ok (.getfield 46, 3) := by decide +kernel
theorem dX4_readInto_62 : decode cX4_readInto 62 = .ok (.iconst 1, 1) := by decide +kernel
theorem dX4_readInto_63 : decode cX4_readInto 63 = .ok (.if_icmp .ne 10, 3) := by decide +kernel
theorem dX4_readInto_66 : decode cX4_readInto 66 = .ok (.aload_n 0, 1) := by decide +kernel
theorem dX4_readInto_67 : decode cX4_readInto 67 = .ok (.invokevirtual 62, 3) := by decide +kernel
theorem dX4_readInto_70 : decode cX4_readInto 70 = .ok (.goto 4, 3) := by decide +kernel
theorem dX4_readInto_73 : decode cX4_readInto 73 = .ok (.iconst (-1), 1) := by decide +kernel
theorem dX4_readInto_74 : decode cX4_readInto 74 = .ok (.istore 4, 2) := by decide +kernel
theorem dX4_readInto_76 : decode cX4_readInto 76 = .ok (.aload_n 0, 1) := by decide +kernel
theorem dX4_readInto_77 : decode cX4_readInto 77 = .ok (.aload_n 1, 1) := by decide +kernel
theorem dX4_readInto_78 : decode cX4_readInto 78 = .ok (.iload_n 2, 1) := by decide +kernel
theorem dX4_readInto_79 : decode cX4_readInto 79 = .ok (.iload 4, 2) := by decide +kernel
theorem dX4_readInto_81 : decode cX4_readInto 81 = .ok (.invokevirtual 66, 3) := by decide +kernel
theorem dX4_readInto_84 : decode cX4_readInto 84 = .ok (.istore 5, 2) := by decide +kernel
theorem dX4_readInto_86 : decode cX4_readInto 86 = .ok (.iload 5, 2) := by decide +kernel
theorem dX4_readInto_88 : decode cX4_readInto 88 = .ok (.ifCond .eq 6, 3) := by decide +kernel
theorem dX4_readInto_91 : decode cX4_readInto 91 = .ok (.iload 5, 2) := by decide +kernel
theorem dX4_readInto_93 : decode cX4_readInto 93 = .ok (.ireturn, 1) := by decide +kernel
theorem dX4_readInto_94 : decode cX4_readInto 94 = .ok (.iload 4, 2) := by decide +kernel
theorem dX4_readInto_96 : decode cX4_readInto 96 = .ok (.istore_n 2, 1) := by decide +kernel
theorem dX4_readInto_97 : decode cX4_readInto 97 = .ok (.iinc 3 1, 3) := by decide +kernel
theorem dX4_readInto_100 : decode cX4_readInto 100 = .ok (.goto (-75), 3) := by decide +kernel
theorem dX4_readInto_103 : decode cX4_readInto 103 = .ok (.iconst 1, 1) := by decide +kernel
theorem dX4_readInto_104 : decode cX4_readInto 104 = .ok (.ireturn, 1) := by decide +kernel
def fX4_readInto_74 (a1 : Nat) (r25 : Int → Int → jw_M → Option (Int × jw_M)) (x2 : Int) (x3 : Int) (xs0 : Int) (M : jw_M) : Option (Int × jw_M) :=
  Option.bind (some xs0) (fun v11 => jw_b2 (fX4_statement a1 x2 v11 M) (fun v12 M13 => Option.bind (some v12) (fun v14 => if v14 = 0 then (Option.bind (some v11) (fun v15 => Option.bind (some (jw_w (x3 + 1))) (fun v16 => r25 v15 v16 M13))) else (some (v14, M13)))))
set_option maxRecDepth 100000 in
theorem pX4_readInto_74 (G : jw_G) (a1 : Nat) (ha1 : jw_tag a1 = 7) (r25 : Int → Int → jw_M → Option (Int × jw_M)) (hr25 : ∀ (x2 : Int) (x3 : Int) (hx2 : jw_r x2) (hx3 : jw_r x3) (M : jw_M), jw_Rn G YX4_readInto 10 0 0 true (fun q => q) 25 [(0, jR G 5), (1, jR G a1), (2, jI x2), (3, jI x3)] [] M (r25 x2 x3 M)) : ∀ (x2 : Int) (x3 : Int) (xs0 : Int) (hx2 : jw_r x2) (hx3 : jw_r x3) (hxs0 : jw_r xs0) (M : jw_M), jw_Rn G YX4_readInto 10 0 0 true (fun q => q) 74 [(0, jR G 5), (1, jR G a1), (2, jI x2), (3, jI x3)] [jI xs0] M (fX4_readInto_74 a1 r25 x2 x3 xs0 M) := by
  intro x2 x3 xs0 hx2 hx3 hxs0 M
  unfold fX4_readInto_74
  refine jw_istoreL (pc := 74) (lv' := (fun y => [(4, y), (0, jR G 5), (1, jR G a1), (2, jI x2), (3, jI x3)])) dX4_readInto_74 hxs0 (by decide) (fun _ => rfl) (fun v11 hv11 => ?_)
  refine jw_aloadR (pc := 76) 1 dX4_readInto_76 rfl ?_
  refine jw_aloadR (pc := 77) 2 dX4_readInto_77 rfl ?_
  refine jw_iload_n (pc := 78) 3 dX4_readInto_78 rfl ?_
  refine jw_iload (pc := 79) 0 dX4_readInto_79 rfl ?_
  refine jw_callVMi (pc := 81) (As := [jR G a1, jI x2, jI v11]) (st := []) dX4_readInto_81 rfl (Nat.le_of_ble_eq_true rfl) qX4_statement jt_628 jt_630 jp_9 rfl rfl (Nat.le_of_ble_eq_true rfl) jv_4 rfl jg_5 jl_5 (by decide) (jw_ho jg_5 (by decide)) (kX4_statement G a1 x2 v11 hx2 hv11 M) (fun v12 M13 hv12 => ?_)
  refine jw_istoreL (pc := 84) (lv' := (fun y => [(5, y), (4, jI v11), (0, jR G 5), (1, jR G a1), (2, jI x2), (3, jI x3)])) dX4_readInto_84 hv12 (by decide) (fun _ => rfl) (fun v14 hv14 => ?_)
  refine jw_iload (pc := 86) 0 dX4_readInto_86 rfl ?_
  refine jw_if_eq (pc := 88) 94 dX4_readInto_88 (by decide) hv14 (fun _ => ?_) (fun _ => ?_)
  · refine jw_iload (pc := 94) 1 dX4_readInto_94 rfl ?_
    refine jw_istore_nL (pc := 96) (lv' := (fun y => [(2, y), (5, jI v14), (4, jI v11), (0, jR G 5), (1, jR G a1), (3, jI x3)])) dX4_readInto_96 hv11 (by decide) (fun _ => rfl) (fun v15 hv15 => ?_)
    refine jw_iincL (pc := 97) 5 (lv' := (fun y => [(3, y), (2, jI v15), (5, jI v14), (4, jI v11), (0, jR G 5), (1, jR G a1)])) dX4_readInto_97 rfl (Nat.le_of_ble_eq_true rfl) (fun _ => rfl) (fun v16 hv16 => ?_)
    refine jw_goto (pc := 100) 25 dX4_readInto_100 (by decide) ?_
    exact jw_few [4, 5, 1, 0] rfl (hr25 v15 v16 hv15 hv16 M13)
  · refine jw_iload (pc := 91) 0 dX4_readInto_91 rfl ?_
    exact jw_ret (pc := 93) (v := v14) dX4_readInto_93 hv14 rfl rfl
def fX4_readInto_58 (a1 : Nat) (r25 : Int → Int → jw_M → Option (Int × jw_M)) (x2 : Int) (x3 : Int) (M : jw_M) : Option (Int × jw_M) :=
  if M 5 4 = 1 then (jw_b2 (fX4_wordHere  M) (fun v9 M10 => fX4_readInto_74 a1 r25 x2 x3 v9 M10)) else (fX4_readInto_74 a1 r25 x2 x3 (-1) M)
set_option maxRecDepth 100000 in
theorem pX4_readInto_58 (G : jw_G) (a1 : Nat) (ha1 : jw_tag a1 = 7) (r25 : Int → Int → jw_M → Option (Int × jw_M)) (hr25 : ∀ (x2 : Int) (x3 : Int) (hx2 : jw_r x2) (hx3 : jw_r x3) (M : jw_M), jw_Rn G YX4_readInto 10 0 0 true (fun q => q) 25 [(0, jR G 5), (1, jR G a1), (2, jI x2), (3, jI x3)] [] M (r25 x2 x3 M)) : ∀ (x2 : Int) (x3 : Int) (hx2 : jw_r x2) (hx3 : jw_r x3) (M : jw_M), jw_Rn G YX4_readInto 10 0 0 true (fun q => q) 58 [(0, jR G 5), (1, jR G a1), (2, jI x2), (3, jI x3)] [] M (fX4_readInto_58 a1 r25 x2 x3 M) := by
  intro x2 x3 hx2 hx3 M
  unfold fX4_readInto_58
  refine jw_aloadR (pc := 58) 0 dX4_readInto_58 rfl ?_
  refine jw_getI (pc := 59) (j := 4) rfl dX4_readInto_59 jv_4 ji_4 (Or.inl jt_60) jg_5 jl_5 (by decide) (by decide) (jw_ho jg_5 (by decide)) (Or.inl rfl) rfl (fun h8 => ?_)
  refine jw_iconst (pc := 62) dX4_readInto_62 ?_
  refine jw_ic_ne (pc := 63) 73 dX4_readInto_63 (by decide) h8 (jw_rc _ rfl) (fun _ => ?_) (fun _ => ?_)
  · refine jw_aloadR (pc := 66) 0 dX4_readInto_66 rfl ?_
    refine jw_callVMi (pc := 67) (As := []) (st := []) dX4_readInto_67 rfl (Nat.le_of_ble_eq_true rfl) qX4_wordHere jt_562 jt_564 jp_7 rfl rfl (Nat.le_of_ble_eq_true rfl) jv_4 rfl jg_5 jl_5 (by decide) (jw_ho jg_5 (by decide)) (kX4_wordHere G  M) (fun v9 M10 hv9 => ?_)
    refine jw_goto (pc := 70) 74 dX4_readInto_70 (by decide) ?_
    exact jw_few [0, 1, 2, 3] rfl (pX4_readInto_74 G a1 ha1 r25 hr25 x2 x3 v9 hx2 hx3 hv9 M10)
  · refine jw_iconst (pc := 73) dX4_readInto_73 ?_
    exact jw_few [0, 1, 2, 3] rfl (pX4_readInto_74 G a1 ha1 r25 hr25 x2 x3 (-1) hx2 hx3 (jw_rc _ rfl) M)
def fX4_readInto_25 (a1 : Nat) : Nat → Int → Int → jw_M → Option (Int × jw_M)
  | 0, _, _, _ => none
  | k + 1, x2, x3, M => if (600 : Int) < x3 then (some (1, M)) else (if M 5 4 = 0 then (if x2 < 2 then (fX4_readInto_58 a1 (fX4_readInto_25 a1 k) x2 x3 M) else (Option.bind (fX9_measure (a1 + 1) M) (fun M17 => Option.bind (some (jw_up M17 a1 0 1)) (fun M18 => some (0, M18))))) else (fX4_readInto_58 a1 (fX4_readInto_25 a1 k) x2 x3 M))
set_option maxRecDepth 100000 in
theorem pX4_readInto_25 (G : jw_G) (a1 : Nat) (ha1 : jw_tag a1 = 7) : ∀ (k : Nat) (x2 : Int) (x3 : Int) (hx2 : jw_r x2) (hx3 : jw_r x3) (M : jw_M), jw_Rn G YX4_readInto 10 0 0 true (fun q => q) 25 [(0, jR G 5), (1, jR G a1), (2, jI x2), (3, jI x3)] [] M (fX4_readInto_25 a1 k x2 x3 M) := by
  intro k
  induction k with
  | zero =>
    intro x2 x3 hx2 hx3 M
    exact jw_none
  | succ k ih =>
    intro x2 x3 hx2 hx3 M
    rw [fX4_readInto_25]
    refine jw_iload_n (pc := 25) 3 dX4_readInto_25 rfl ?_
    refine jw_sipush (pc := 26) dX4_readInto_26 rfl ?_
    refine jw_ic_gt (pc := 29) 103 dX4_readInto_29 (by decide) hx3 (jw_rc _ rfl) (fun _ => ?_) (fun _ => ?_)
    · refine jw_iconst (pc := 103) dX4_readInto_103 ?_
      exact jw_ret (pc := 104) (v := 1) dX4_readInto_104 (jw_rc _ rfl) rfl rfl
    · refine jw_aloadR (pc := 32) 0 dX4_readInto_32 rfl ?_
      refine jw_getI (pc := 33) (j := 4) rfl dX4_readInto_33 jv_4 ji_4 (Or.inl jt_60) jg_5 jl_5 (by decide) (by decide) (jw_ho jg_5 (by decide)) (Or.inl rfl) rfl (fun h7 => ?_)
      refine jw_if_ne (pc := 36) 58 dX4_readInto_36 (by decide) h7 (fun _ => ?_) (fun _ => ?_)
      · refine jw_iload_n (pc := 39) 2 dX4_readInto_39 rfl ?_
        refine jw_iconst (pc := 40) dX4_readInto_40 ?_
        refine jw_ic_lt (pc := 41) 58 dX4_readInto_41 (by decide) hx2 (jw_rc _ rfl) (fun _ => ?_) (fun _ => ?_)
        · exact jw_few [0, 1, 2, 3] rfl (pX4_readInto_58 G a1 ha1 (fX4_readInto_25 a1 k) ih x2 x3 hx2 hx3 M)
        · refine jw_aloadR (pc := 44) 1 dX4_readInto_44 rfl ?_
          refine jw_getR (pc := 45) (j := 1) rfl dX4_readInto_45 jv_7 ji_7 (Or.inr ⟨_, jt_263⟩) ha1 (jn_7 ha1) (by decide) (by decide) rfl (jf_7_1 ha1).1 ?_
          refine jw_callVM (pc := 48) (As := []) (st := []) dX4_readInto_48 rfl (Nat.le_of_ble_eq_true rfl) qX9_measure jt_549 jt_550 jt_551 rfl rfl (Nat.le_of_ble_eq_true rfl) jv_9 rfl (jf_7_1 ha1).2.1 (jf_7_1 ha1).2.2 (by decide) (jw_ho (jf_7_1 ha1).2.1 (by decide)) (kX9_measure G (a1 + 1) M) (fun M17 => ?_)
          refine jw_aloadR (pc := 51) 1 dX4_readInto_51 rfl ?_
          refine jw_iconst (pc := 52) dX4_readInto_52 ?_
          refine jw_putZ (pc := 53) (j := 0) tyX7 rfl dX4_readInto_53 jv_7 ji_7 tyX7_ok nmX7 (Or.inr ⟨_, jt_257⟩) rfl ha1 (jn_7 ha1) (by decide) (by decide) (jw_ho ha1 (by decide)) rfl rfl (Or.inr rfl) rfl ?_
          refine jw_letM (fun M18 => ?_)
          refine jw_iconst (pc := 56) dX4_readInto_56 ?_
          exact jw_ret (pc := 57) (v := 0) dX4_readInto_57 (jw_rc _ rfl) rfl rfl
      · exact jw_few [0, 1, 2, 3] rfl (pX4_readInto_58 G a1 ha1 (fX4_readInto_25 a1 k) ih x2 x3 hx2 hx3 M)
def fX4_readInto (a1 : Nat) (M : jw_M) : Option (Int × jw_M) :=
  if jw_tag a1 = 7 then (Option.bind (fX7_clear a1 M) (fun M1 => Option.bind (fJ7_fill_53178 8 0 M1) (fun M2 => Option.bind (some (jw_up M2 5 3 0)) (fun M3 => Option.bind (fX4_nextToken  M3) (fun M4 => Option.bind (some (-1)) (fun v5 => Option.bind (some 0) (fun v6 => fX4_readInto_25 a1 jw_fu v5 v6 M4))))))) else none
set_option maxRecDepth 100000 in
theorem rX4_readInto (G : jw_G) (a1 : Nat) (M : jw_M) : jw_Rn G YX4_readInto 10 0 0 true (fun q => q) 0 [(0, jR G 5), (1, jR G a1)] [] M (fX4_readInto a1 M) := by
  unfold fX4_readInto
  refine jw_ck (fun ha1 => ?_)
  refine jw_aloadR (pc := 0) 1 dX4_readInto_0 rfl ?_
  refine jw_callVM (pc := 1) (As := []) (st := []) dX4_readInto_1 rfl (Nat.le_of_ble_eq_true rfl) qX7_clear jt_497 jt_498 jt_499 rfl rfl (Nat.le_of_ble_eq_true rfl) jv_7 rfl ha1 (jn_7 ha1) (by decide) (jw_ho ha1 (by decide)) (kX7_clear G a1 M) (fun M1 => ?_)
  refine jw_aloadR (pc := 4) 0 dX4_readInto_4 rfl ?_
  refine jw_getR (pc := 5) (j := 7) rfl dX4_readInto_5 jv_4 ji_4 (Or.inl jt_63) jg_5 jl_5 (by decide) (by decide) rfl jf_4_7 ?_
  refine jw_iconst (pc := 8) dX4_readInto_8 ?_
  refine jw_callSM (pc := 9) (As := [jR G 8, jI 0]) (st := []) dX4_readInto_9 rfl (Nat.le_of_ble_eq_true rfl) qJ7_fill_53178 jt_530 jt_37 rfl rfl (Nat.le_of_ble_eq_true rfl) (kJ7_fill_53178 G 8 0 (jw_rc _ rfl) M1) (fun M2 => ?_)
  refine jw_aloadR (pc := 12) 0 dX4_readInto_12 rfl ?_
  refine jw_iconst (pc := 13) dX4_readInto_13 ?_
  refine jw_putI (pc := 14) (j := 3) tyX4 rfl dX4_readInto_14 jv_4 ji_4 tyX4_ok nmX4 (Or.inl jt_59) rfl jg_5 jl_5 (by decide) (by decide) (jw_ho jg_5 (by decide)) rfl rfl (jw_rc _ rfl) rfl ?_
  refine jw_letM (fun M3 => ?_)
  refine jw_aloadR (pc := 17) 0 dX4_readInto_17 rfl ?_
  refine jw_callVM (pc := 18) (As := []) (st := []) dX4_readInto_18 rfl (Nat.le_of_ble_eq_true rfl) qX4_nextToken jt_531 jt_533 jp_2 rfl rfl (Nat.le_of_ble_eq_true rfl) jv_4 rfl jg_5 jl_5 (by decide) (jw_ho jg_5 (by decide)) (kX4_nextToken G  M3) (fun M4 => ?_)
  refine jw_iconst (pc := 21) dX4_readInto_21 ?_
  refine jw_istore_nL (pc := 22) (lv' := (fun y => [(2, y), (0, jR G 5), (1, jR G a1)])) dX4_readInto_22 (jw_rc _ rfl) (by decide) (fun _ => rfl) (fun v5 hv5 => ?_)
  refine jw_iconst (pc := 23) dX4_readInto_23 ?_
  refine jw_istore_nL (pc := 24) (lv' := (fun y => [(3, y), (2, jI v5), (0, jR G 5), (1, jR G a1)])) dX4_readInto_24 (jw_rc _ rfl) (by decide) (fun _ => rfl) (fun v6 hv6 => ?_)
  exact jw_few [2, 3, 1, 0] rfl (pX4_readInto_25 G a1 ha1 jw_fu v5 v6 hv5 hv6 M4)
theorem kX4_readInto (G : jw_G) (a1 : Nat) (M : jw_M) : jw_Ct G YX4_readInto (some .int) 10 0 0 true (fun q => q) yX4_readInto [jR G 5, jR G a1] M (fX4_readInto a1 M) := jw_met (by decide) rfl rfl rfl (Nat.le_of_ble_eq_true rfl) (rX4_readInto G a1 M)
