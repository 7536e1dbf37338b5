abbrev YX0_kindOf : jw_Y := (RX0, cX0_kindOf, 3, 1, "kindOf")
theorem qX0_kindOf : jw_cy YX0_kindOf (some .int) yX0_kindOf 1 := ⟨by decide, jt_1162, jt_13, by decide, by decide +kernel⟩
theorem dX0_kindOf_0 : decode cX0_kindOf 0 = .ok (.aload_n 0, 1) := by decide +kernel
theorem dX0_kindOf_1 : decode cX0_kindOf 1 = .ok (.getfield 19, 3) := by decide +kernel
theorem dX0_kindOf_4 : decode cX0_kindOf 4 = .ok (.getfield 23, 3) := by decide +kernel
theorem dX0_kindOf_7 : decode cX0_kindOf 7 = .ok (.getfield 29, 3) := by decide +kernel
theorem dX0_kindOf_10 : decode cX0_kindOf 10 = .ok (.ifCond .eq 18, 3) := by decide +kernel
theorem dX0_kindOf_13 : decode cX0_kindOf 13 = .ok (.aload_n 0, 1) := by decide +kernel
theorem dX0_kindOf_14 : decode cX0_kindOf 14 = .ok (.getfield 19, 3) := by decide +kernel
theorem dX0_kindOf_17 : decode cX0_kindOf 17 = .ok (.getfield 23, 3) := by decide +kernel
theorem dX0_kindOf_20 : decode cX0_kindOf 20 = .ok (.getfield 34, 3) := by decide +kernel
theorem dX0_kindOf_23 : decode cX0_kindOf 23 = .ok (.iload_n 1, 1) := by decide +kernel
theorem dX0_kindOf_24 : decode cX0_kindOf 24 = .ok (.iaload, 1) := by decide +kernel
theorem dX0_kindOf_25 : decode cX0_kindOf 25 = .ok (.ifCond .ne 5, 3) := by decide +kernel
theorem dX0_kindOf_28 : decode cX0_kindOf 28 = .ok (.iconst 1, 1) := by decide +kernel
theorem dX0_kindOf_29 : decode cX0_kindOf 29 = .ok (.ireturn, 1) := by decide +kernel
theorem dX0_kindOf_30 : decode cX0_kindOf 30 = .ok (.aload_n 0, 1) := by decide +kernel
theorem dX0_kindOf_31 : decode cX0_kindOf 31 = .ok (.getfield 19, 3) := by decide +kernel
theorem dX0_kindOf_34 : decode cX0_kindOf 34 = .ok (.getfield 23, 3) := by decide +kernel
theorem dX0_kindOf_37 : decode cX0_kindOf 37 = .ok (.getfield 34, 3) := by decide +kernel
theorem dX0_kindOf_40 : decode cX0_kindOf 40 = .ok (.iload_n 1, 1) := by decide +kernel
theorem dX0_kindOf_41 : decode cX0_kindOf 41 = .ok (.iaload, 1) := by decide +kernel
theorem dX0_kindOf_42 : decode cX0_kindOf 42 = .ok (.iconst 1, 1) := by decide +kernel
theorem dX0_kindOf_43 : decode cX0_kindOf 43 = .ok (.if_icmp .ne 5, 3) := by decide +kernel
theorem dX0_kindOf_46 : decode cX0_kindOf 46 = .ok (.iconst 2, 1) := by decide +kernel
theorem dX0_kindOf_47 : decode cX0_kindOf 47 = .ok (.ireturn, 1) := by decide +kernel
theorem dX0_kindOf_48 : decode cX0_kindOf 48 = .ok (.aload_n 0, 1) := by decide +kernel
theorem dX0_kindOf_49 : decode cX0_kindOf 49 = .ok (.getfield 19, 3) := by decide +kernel
theorem dX0_kindOf_52 : decode cX0_kindOf 52 = .ok (.getfield 37, 3) := by decide +kernel
theorem dX0_kindOf_55 : decode cX0_kindOf 55 = .ok (.getfield 41, 3) := by decide +kernel
theorem dX0_kindOf_58 : decode cX0_kindOf 58 = .ok (.aload_n 0, 1) := by decide +kernel
theorem dX0_kindOf_59 : decode cX0_kindOf 59 = .ok (.getfield 19, 3) := by decide +kernel
theorem dX0_kindOf_62 : decode cX0_kindOf 62 = .ok (.getfield 46, 3) := by decide +kernel
theorem dX0_kindOf_65 : decode cX0_kindOf 65 = .ok (.getfield 50, 3) := by decide +kernel
theorem dX0_kindOf_68 : decode cX0_kindOf 68 = .ok (.iload_n 1, 1) := by decide +kernel
theorem dX0_kindOf_69 : decode cX0_kindOf 69 = .ok (.iaload, 1) := by decide +kernel
theorem dX0_kindOf_70 : decode cX0_kindOf 70 = .ok (.iaload, 1) := by decide +kernel
theorem dX0_kindOf_71 : decode cX0_kindOf 71 = .ok (.istore_n 2, 1) := by decide +kernel
theorem dX0_kindOf_72 : decode cX0_kindOf 72 = .ok (.aload_n 0, 1) := by decide +kernel
theorem dX0_kindOf_73 : decode cX0_kindOf 73 = .ok (.getfield 19, 3) := by decide +kernel
theorem dX0_kindOf_76 : decode cX0_kindOf 76 = .ok (.getfield 46, 3) := by decide +kernel
theorem dX0_kindOf_79 : decode cX0_kindOf 79 = .ok (.iload_n 1, 1) := by decide +kernel
theorem dX0_kindOf_80 : decode cX0_kindOf 80 = .ok (.invokevirtual 55, 3) := by decide +kernel
theorem dX0_kindOf_83 : decode cX0_kindOf 83 = .ok (.bipush 60, 2) := by decide +kernel
theorem dX0_kindOf_85 : decode cX0_kindOf 85 = .ok (.iload_n 2, 1) := by decide +kernel
theorem dX0_kindOf_86 : decode cX0_kindOf 86 = .ok (.imul, 1) := by decide +kernel
theorem dX0_kindOf_87 : decode cX0_kindOf 87 = .ok (.if_icmp .le 7, 3) := by decide +kernel
theorem dX0_kindOf_90 : decode cX0_kindOf 90 = .ok (.iconst 4, 1) := by decide +kernel
theorem dX0_kindOf_91 : decode cX0_kindOf 91 = .ok (.goto 4, 3) := by decide +kernel
theorem dX0_kindOf_94 : decode cX0_kindOf 94 = .ok (.iconst 3, 1) := by decide +kernel
theorem dX0_kindOf_95 : decode cX0_kindOf 95 = .ok (.ireturn, 1) := by decide +kernel
def fX0_kindOf (a1 : Int) (M : jw_M) : Option Int :=
  if M (9 + 15) 0 = 0 then (some 1) else (if 0 ≤ a1 ∧ a1 < 5 then if M ((9 + 15) + 4) a1 = 0 then (some 1) else (if 0 ≤ a1 ∧ a1 < 5 then if M ((9 + 15) + 4) a1 = 1 then (some 2) else (if 0 ≤ a1 ∧ a1 < 5 then if 0 ≤ M ((9 + 8) + 5) a1 ∧ M ((9 + 8) + 5) a1 < 7 then Option.bind (some (M ((9 + 1) + 1) (M ((9 + 8) + 5) a1))) (fun v6 => Option.bind (fX10_lossOf (9 + 8) a1 M) (fun v7 => if jw_w (60 * v6) < v7 then (some 4) else (some 3))) else none else none) else none) else none)
set_option maxRecDepth 100000 in
theorem rX0_kindOf (G : jw_G) (a1 : Int) (ha1 : jw_r a1) (M : jw_M) : jw_Rn G YX0_kindOf 2 0 0 true (fun v => (v, M)) 0 [(0, jR G 125), (1, jI a1)] [] M (fX0_kindOf a1 M) := by
  unfold fX0_kindOf
  refine jw_aloadR (pc := 0) 0 dX0_kindOf_0 rfl ?_
  refine jw_getR (pc := 1) (j := 0) rfl dX0_kindOf_1 jv_0 ji_0 (Or.inl jt_362) jg_125 jl_125 (by decide) (by decide) rfl jf_0_0 ?_
  refine jw_getR (pc := 4) (j := 3) rfl dX0_kindOf_4 jv_7 ji_7 (Or.inr ⟨_, jt_272⟩) jg_9 jl_9 (by decide) (by decide) rfl (jf_7_3 jg_9).1 ?_
  refine jw_getI (pc := 7) (j := 0) rfl dX0_kindOf_7 jv_3 ji_3 (Or.inr ⟨_, jt_197⟩) (jf_7_3 jg_9).2.1 (jf_7_3 jg_9).2.2 (by decide) (by decide) (jw_ho (jf_7_3 jg_9).2.1 (by decide)) (Or.inl rfl) rfl (fun h1 => ?_)
  refine jw_if_eq (pc := 10) 28 dX0_kindOf_10 (by decide) h1 (fun _ => ?_) (fun _ => ?_)
  · refine jw_iconst (pc := 28) dX0_kindOf_28 ?_
    exact jw_ret (pc := 29) (v := 1) dX0_kindOf_29 (jw_rc _ rfl) rfl rfl
  · refine jw_aloadR (pc := 13) 0 dX0_kindOf_13 rfl ?_
    refine jw_getR (pc := 14) (j := 0) rfl dX0_kindOf_14 jv_0 ji_0 (Or.inl jt_362) jg_125 jl_125 (by decide) (by decide) rfl jf_0_0 ?_
    refine jw_getR (pc := 17) (j := 3) rfl dX0_kindOf_17 jv_7 ji_7 (Or.inr ⟨_, jt_272⟩) jg_9 jl_9 (by decide) (by decide) rfl (jf_7_3 jg_9).1 ?_
    refine jw_getR (pc := 20) (j := 5) rfl dX0_kindOf_20 jv_3 ji_3 (Or.inr ⟨_, jt_207⟩) (jf_7_3 jg_9).2.1 (jf_7_3 jg_9).2.2 (by decide) (by decide) rfl (jf_3_5 (jf_7_3 jg_9).2.1).1 ?_
    refine jw_iload_n (pc := 23) 1 dX0_kindOf_23 rfl ?_
    refine jw_iald (pc := 24) dX0_kindOf_24 (jf_3_5 (jf_7_3 jg_9).2.1).2.1 (jf_3_5 (jf_7_3 jg_9).2.1).2.2 (jw_ho (jf_3_5 (jf_7_3 jg_9).2.1).2.1 (by decide)) ha1 rfl (fun h2 => ?_)
    refine jw_if_ne (pc := 25) 30 dX0_kindOf_25 (by decide) h2 (fun _ => ?_) (fun _ => ?_)
    · refine jw_iconst (pc := 28) dX0_kindOf_28 ?_
      exact jw_ret (pc := 29) (v := 1) dX0_kindOf_29 (jw_rc _ rfl) rfl rfl
    · refine jw_aloadR (pc := 30) 0 dX0_kindOf_30 rfl ?_
      refine jw_getR (pc := 31) (j := 0) rfl dX0_kindOf_31 jv_0 ji_0 (Or.inl jt_362) jg_125 jl_125 (by decide) (by decide) rfl jf_0_0 ?_
      refine jw_getR (pc := 34) (j := 3) rfl dX0_kindOf_34 jv_7 ji_7 (Or.inr ⟨_, jt_272⟩) jg_9 jl_9 (by decide) (by decide) rfl (jf_7_3 jg_9).1 ?_
      refine jw_getR (pc := 37) (j := 5) rfl dX0_kindOf_37 jv_3 ji_3 (Or.inr ⟨_, jt_207⟩) (jf_7_3 jg_9).2.1 (jf_7_3 jg_9).2.2 (by decide) (by decide) rfl (jf_3_5 (jf_7_3 jg_9).2.1).1 ?_
      refine jw_iload_n (pc := 40) 1 dX0_kindOf_40 rfl ?_
      refine jw_iald (pc := 41) dX0_kindOf_41 (jf_3_5 (jf_7_3 jg_9).2.1).2.1 (jf_3_5 (jf_7_3 jg_9).2.1).2.2 (jw_ho (jf_3_5 (jf_7_3 jg_9).2.1).2.1 (by decide)) ha1 rfl (fun h3 => ?_)
      refine jw_iconst (pc := 42) dX0_kindOf_42 ?_
      refine jw_ic_ne (pc := 43) 48 dX0_kindOf_43 (by decide) h3 (jw_rc _ rfl) (fun _ => ?_) (fun _ => ?_)
      · refine jw_iconst (pc := 46) dX0_kindOf_46 ?_
        exact jw_ret (pc := 47) (v := 2) dX0_kindOf_47 (jw_rc _ rfl) rfl rfl
      · refine jw_aloadR (pc := 48) 0 dX0_kindOf_48 rfl ?_
        refine jw_getR (pc := 49) (j := 0) rfl dX0_kindOf_49 jv_0 ji_0 (Or.inl jt_362) jg_125 jl_125 (by decide) (by decide) rfl jf_0_0 ?_
        refine jw_getR (pc := 52) (j := 1) rfl dX0_kindOf_52 jv_7 ji_7 (Or.inr ⟨_, jt_262⟩) jg_9 jl_9 (by decide) (by decide) rfl (jf_7_1 jg_9).1 ?_
        refine jw_getR (pc := 55) (j := 1) rfl dX0_kindOf_55 jv_9 ji_9 (Or.inr ⟨_, jt_99⟩) (jf_7_1 jg_9).2.1 (jf_7_1 jg_9).2.2 (by decide) (by decide) rfl (jf_9_1 (jf_7_1 jg_9).2.1).1 ?_
        refine jw_aloadR (pc := 58) 0 dX0_kindOf_58 rfl ?_
        refine jw_getR (pc := 59) (j := 0) rfl dX0_kindOf_59 jv_0 ji_0 (Or.inl jt_362) jg_125 jl_125 (by decide) (by decide) rfl jf_0_0 ?_
        refine jw_getR (pc := 62) (j := 2) rfl dX0_kindOf_62 jv_7 ji_7 (Or.inr ⟨_, jt_268⟩) jg_9 jl_9 (by decide) (by decide) rfl (jf_7_2 jg_9).1 ?_
        refine jw_getR (pc := 65) (j := 6) rfl dX0_kindOf_65 jv_10 ji_10 (Or.inr ⟨_, jt_161⟩) (jf_7_2 jg_9).2.1 (jf_7_2 jg_9).2.2 (by decide) (by decide) rfl (jf_10_6 (jf_7_2 jg_9).2.1).1 ?_
        refine jw_iload_n (pc := 68) 1 dX0_kindOf_68 rfl ?_
        refine jw_iald (pc := 69) dX0_kindOf_69 (jf_10_6 (jf_7_2 jg_9).2.1).2.1 (jf_10_6 (jf_7_2 jg_9).2.1).2.2 (jw_ho (jf_10_6 (jf_7_2 jg_9).2.1).2.1 (by decide)) ha1 rfl (fun h4 => ?_)
        refine jw_iald (pc := 70) dX0_kindOf_70 (jf_9_1 (jf_7_1 jg_9).2.1).2.1 (jf_9_1 (jf_7_1 jg_9).2.1).2.2 (jw_ho (jf_9_1 (jf_7_1 jg_9).2.1).2.1 (by decide)) h4 rfl (fun h5 => ?_)
        refine jw_istore_nL (pc := 71) (lv' := (fun y => [(2, y), (0, jR G 125), (1, jI a1)])) dX0_kindOf_71 h5 (by decide) (fun _ => rfl) (fun v6 hv6 => ?_)
        refine jw_aloadR (pc := 72) 1 dX0_kindOf_72 rfl ?_
        refine jw_getR (pc := 73) (j := 0) rfl dX0_kindOf_73 jv_0 ji_0 (Or.inl jt_362) jg_125 jl_125 (by decide) (by decide) rfl jf_0_0 ?_
        refine jw_getR (pc := 76) (j := 2) rfl dX0_kindOf_76 jv_7 ji_7 (Or.inr ⟨_, jt_268⟩) jg_9 jl_9 (by decide) (by decide) rfl (jf_7_2 jg_9).1 ?_
        refine jw_iload_n (pc := 79) 2 dX0_kindOf_79 rfl ?_
        refine jw_callVi (pc := 80) (As := [jI a1]) (st := []) dX0_kindOf_80 rfl (Nat.le_of_ble_eq_true rfl) qX10_lossOf jt_1163 jt_830 jt_831 rfl rfl (Nat.le_of_ble_eq_true rfl) jv_10 rfl (jf_7_2 jg_9).2.1 (jf_7_2 jg_9).2.2 (by decide) (jw_ho (jf_7_2 jg_9).2.1 (by decide)) (kX10_lossOf G (9 + 8) a1 ha1 M) (fun v7 hv7 => ?_)
        refine jw_bipush (pc := 83) dX0_kindOf_83 rfl ?_
        refine jw_iload_n (pc := 85) 0 dX0_kindOf_85 rfl ?_
        refine jw_imul (pc := 86) dX0_kindOf_86 ?_
        refine jw_ic_le (pc := 87) 94 dX0_kindOf_87 (by decide) hv7 (jw_wr _) (fun _ => ?_) (fun _ => ?_)
        · refine jw_iconst (pc := 90) dX0_kindOf_90 ?_
          refine jw_goto (pc := 91) 95 dX0_kindOf_91 (by decide) ?_
          exact jw_ret (pc := 95) (v := 4) dX0_kindOf_95 (jw_rc _ rfl) rfl rfl
        · refine jw_iconst (pc := 94) dX0_kindOf_94 ?_
          exact jw_ret (pc := 95) (v := 3) dX0_kindOf_95 (jw_rc _ rfl) rfl rfl
theorem kX0_kindOf (G : jw_G) (a1 : Int) (ha1 : jw_r a1) (M : jw_M) : jw_Ct G YX0_kindOf (some .int) 2 0 0 true (fun v => (v, M)) yX0_kindOf [jR G 125, jI a1] M (fX0_kindOf a1 M) := jw_met (by decide) rfl rfl rfl (Nat.le_of_ble_eq_true rfl) (rX0_kindOf G a1 ha1 M)
abbrev YX0_isTakenAs : jw_Y := (RX0, cX0_isTakenAs, 2, 4, "isTakenAs")
theorem qX0_isTakenAs : jw_cy YX0_isTakenAs (some .boolean) yX0_isTakenAs 2 := ⟨by decide, jt_1170, jt_13, by decide, by decide +kernel⟩
theorem dX0_isTakenAs_0 : decode cX0_isTakenAs 0 = .ok (.iload_n 1, 1) := by decide +kernel
theorem dX0_isTakenAs_1 : decode cX0_isTakenAs 1 = .ok (.tableswitch 65 0 3 #[31, 33, 65, 49], 31) := by decide +kernel
theorem dX0_isTakenAs_32 : decode cX0_isTakenAs 32 = .ok (.iconst 1, 1) := by decide +kernel
theorem dX0_isTakenAs_33 : decode cX0_isTakenAs 33 = .ok (.ireturn, 1) := by decide +kernel
theorem dX0_isTakenAs_34 : decode cX0_isTakenAs 34 = .ok (.iload_n 0, 1) := by decide +kernel
theorem dX0_isTakenAs_35 : decode cX0_isTakenAs 35 = .ok (.iconst 1, 1) := by decide +kernel
theorem dX0_isTakenAs_36 : decode cX0_isTakenAs 36 = .ok (.if_icmp .eq 8, 3) := by decide +kernel
theorem dX0_isTakenAs_39 : decode cX0_isTakenAs 39 = .ok (.iload_n 0, 1) := by decide +kernel
theorem dX0_isTakenAs_40 : decode cX0_isTakenAs 40 = .ok (.iconst 2, 1) := by decide +kernel
theorem dX0_isTakenAs_41 : decode cX0_isTakenAs 41 = .ok (.if_icmp .ne 7, 3) := by decide +kernel
theorem dX0_isTakenAs_44 : decode cX0_isTakenAs 44 = .ok (.iconst 1, 1) := by decide +kernel
theorem dX0_isTakenAs_45 : decode cX0_isTakenAs 45 = .ok (.goto 4, 3) := by decide +kernel
theorem dX0_isTakenAs_48 : decode cX0_isTakenAs 48 = .ok (.iconst 0, 1) := by decide +kernel
theorem dX0_isTakenAs_49 : decode cX0_isTakenAs 49 = .ok (.ireturn, 1) := by decide +kernel
theorem dX0_isTakenAs_50 : decode cX0_isTakenAs 50 = .ok (.iload_n 0, 1) := by decide +kernel
theorem dX0_isTakenAs_51 : decode cX0_isTakenAs 51 = .ok (.iconst 3, 1) := by decide +kernel
theorem dX0_isTakenAs_52 : decode cX0_isTakenAs 52 = .ok (.if_icmp .eq 8, 3) := by decide +kernel
theorem dX0_isTakenAs_55 : decode cX0_isTakenAs 55 = .ok (.iload_n 0, 1) := by decide +kernel
theorem dX0_isTakenAs_56 : decode cX0_isTakenAs 56 = .ok (.iconst 4, 1) := by decide +kernel
theorem dX0_isTakenAs_57 : decode cX0_isTakenAs 57 = .ok (.if_icmp .ne 7, 3) := by decide +kernel
theorem dX0_isTakenAs_60 : decode cX0_isTakenAs 60 = .ok (.iconst 1, 1) := by decide +kernel
theorem dX0_isTakenAs_61 : decode cX0_isTakenAs 61 = .ok (.goto 4, 3) := by decide +kernel
theorem dX0_isTakenAs_64 : decode cX0_isTakenAs 64 = .ok (.iconst 0, 1) := by decide +kernel
theorem dX0_isTakenAs_65 : decode cX0_isTakenAs 65 = .ok (.ireturn, 1) := by decide +kernel
theorem dX0_isTakenAs_66 : decode cX0_isTakenAs 66 = .ok (.iload_n 0, 1) := by decide +kernel
theorem dX0_isTakenAs_67 : decode cX0_isTakenAs 67 = .ok (.iload_n 1, 1) := by decide +kernel
theorem dX0_isTakenAs_68 : decode cX0_isTakenAs 68 = .ok (.if_icmp .ne 7, 3) := by decide +kernel
theorem dX0_isTakenAs_71 : decode cX0_isTakenAs 71 = .ok (.iconst 1, 1) := by decide +kernel
theorem dX0_isTakenAs_72 : decode cX0_isTakenAs 72 = .ok (.goto 4, 3) := by decide +kernel
theorem dX0_isTakenAs_75 : decode cX0_isTakenAs 75 = .ok (.iconst 0, 1) := by decide +kernel
theorem dX0_isTakenAs_76 : decode cX0_isTakenAs 76 = .ok (.ireturn, 1) := by decide +kernel
def fX0_isTakenAs_44 (M : jw_M) : Option Int :=
  some 1
set_option maxRecDepth 100000 in
theorem pX0_isTakenAs_44 (G : jw_G) (M : jw_M) : jw_Rn G YX0_isTakenAs 1 0 0 true (fun v => (v, M)) 44 [] [] M (fX0_isTakenAs_44 M) := by
  unfold fX0_isTakenAs_44
  refine jw_iconst (pc := 44) dX0_isTakenAs_44 ?_
  refine jw_goto (pc := 45) 49 dX0_isTakenAs_45 (by decide) ?_
  exact jw_ret (pc := 49) (v := 1) dX0_isTakenAs_49 (Or.inr rfl) rfl rfl
def fX0_isTakenAs_60 (M : jw_M) : Option Int :=
  some 1
set_option maxRecDepth 100000 in
theorem pX0_isTakenAs_60 (G : jw_G) (M : jw_M) : jw_Rn G YX0_isTakenAs 1 0 0 true (fun v => (v, M)) 60 [] [] M (fX0_isTakenAs_60 M) := by
  unfold fX0_isTakenAs_60
  refine jw_iconst (pc := 60) dX0_isTakenAs_60 ?_
  refine jw_goto (pc := 61) 65 dX0_isTakenAs_61 (by decide) ?_
  exact jw_ret (pc := 65) (v := 1) dX0_isTakenAs_65 (Or.inr rfl) rfl rfl
def fX0_isTakenAs (a1 : Int) (a2 : Int) (M : jw_M) : Option Int :=
  if a2 = 0 then (some 1) else (if a2 = 1 then (if a1 = 1 then (fX0_isTakenAs_44 M) else (if a1 = 2 then (fX0_isTakenAs_44 M) else (some 0))) else (if a2 = 3 then (if a1 = 3 then (fX0_isTakenAs_60 M) else (if a1 = 4 then (fX0_isTakenAs_60 M) else (some 0))) else (if a1 = a2 then (some 1) else (some 0))))
set_option maxRecDepth 100000 in
theorem rX0_isTakenAs (G : jw_G) (a1 : Int) (a2 : Int) (ha1 : jw_r a1) (ha2 : jw_r a2) (M : jw_M) : jw_Rn G YX0_isTakenAs 1 0 0 true (fun v => (v, M)) 0 [(0, jI a1), (1, jI a2)] [] M (fX0_isTakenAs a1 a2 M) := by
  unfold fX0_isTakenAs
  refine jw_iload_n (pc := 0) 1 dX0_isTakenAs_0 rfl ?_
  refine jw_ite (fun c1 => ?_) (fun c1 => ?_)
  · refine jw_tsin (pc := 1) 32 0 dX0_isTakenAs_1 ha2 c1 rfl rfl (by decide) ?_
    refine jw_iconst (pc := 32) dX0_isTakenAs_32 ?_
    exact jw_ret (pc := 33) (v := 1) dX0_isTakenAs_33 (Or.inr rfl) rfl rfl
  · refine jw_ite (fun c2 => ?_) (fun c2 => ?_)
    · refine jw_tsin (pc := 1) 34 1 dX0_isTakenAs_1 ha2 c2 rfl rfl (by decide) ?_
      refine jw_iload_n (pc := 34) 0 dX0_isTakenAs_34 rfl ?_
      refine jw_iconst (pc := 35) dX0_isTakenAs_35 ?_
      refine jw_ic_eq (pc := 36) 44 dX0_isTakenAs_36 (by decide) ha1 (jw_rc _ rfl) (fun _ => ?_) (fun _ => ?_)
      · exact jw_few [] rfl (pX0_isTakenAs_44 G M)
      · refine jw_iload_n (pc := 39) 0 dX0_isTakenAs_39 rfl ?_
        refine jw_iconst (pc := 40) dX0_isTakenAs_40 ?_
        refine jw_ic_ne (pc := 41) 48 dX0_isTakenAs_41 (by decide) ha1 (jw_rc _ rfl) (fun _ => ?_) (fun _ => ?_)
        · exact jw_few [] rfl (pX0_isTakenAs_44 G M)
        · refine jw_iconst (pc := 48) dX0_isTakenAs_48 ?_
          exact jw_ret (pc := 49) (v := 0) dX0_isTakenAs_49 (Or.inl rfl) rfl rfl
    · refine jw_ite (fun c3 => ?_) (fun c3 => ?_)
      · refine jw_tsin (pc := 1) 50 3 dX0_isTakenAs_1 ha2 c3 rfl rfl (by decide) ?_
        refine jw_iload_n (pc := 50) 0 dX0_isTakenAs_50 rfl ?_
        refine jw_iconst (pc := 51) dX0_isTakenAs_51 ?_
        refine jw_ic_eq (pc := 52) 60 dX0_isTakenAs_52 (by decide) ha1 (jw_rc _ rfl) (fun _ => ?_) (fun _ => ?_)
        · exact jw_few [] rfl (pX0_isTakenAs_60 G M)
        · refine jw_iload_n (pc := 55) 0 dX0_isTakenAs_55 rfl ?_
          refine jw_iconst (pc := 56) dX0_isTakenAs_56 ?_
          refine jw_ic_ne (pc := 57) 64 dX0_isTakenAs_57 (by decide) ha1 (jw_rc _ rfl) (fun _ => ?_) (fun _ => ?_)
          · exact jw_few [] rfl (pX0_isTakenAs_60 G M)
          · refine jw_iconst (pc := 64) dX0_isTakenAs_64 ?_
            exact jw_ret (pc := 65) (v := 0) dX0_isTakenAs_65 (Or.inl rfl) rfl rfl
      · rcases Decidable.em (a2 = 2) with c4 | c4
        · refine jw_tsin (pc := 1) 66 2 dX0_isTakenAs_1 ha2 c4 rfl rfl (by decide) ?_
          refine jw_iload_n (pc := 66) 0 dX0_isTakenAs_66 rfl ?_
          refine jw_iload_n (pc := 67) 1 dX0_isTakenAs_67 rfl ?_
          refine jw_ic_ne (pc := 68) 75 dX0_isTakenAs_68 (by decide) ha1 ha2 (fun _ => ?_) (fun _ => ?_)
          · refine jw_iconst (pc := 71) dX0_isTakenAs_71 ?_
            refine jw_goto (pc := 72) 76 dX0_isTakenAs_72 (by decide) ?_
            exact jw_ret (pc := 76) (v := 1) dX0_isTakenAs_76 (Or.inr rfl) rfl rfl
          · refine jw_iconst (pc := 75) dX0_isTakenAs_75 ?_
            exact jw_ret (pc := 76) (v := 0) dX0_isTakenAs_76 (Or.inl rfl) rfl rfl
        · refine jw_tsout (pc := 1) 66 dX0_isTakenAs_1 ha2 (by omega) (by decide) ?_
          refine jw_iload_n (pc := 66) 0 dX0_isTakenAs_66 rfl ?_
          refine jw_iload_n (pc := 67) 1 dX0_isTakenAs_67 rfl ?_
          refine jw_ic_ne (pc := 68) 75 dX0_isTakenAs_68 (by decide) ha1 ha2 (fun _ => ?_) (fun _ => ?_)
          · refine jw_iconst (pc := 71) dX0_isTakenAs_71 ?_
            refine jw_goto (pc := 72) 76 dX0_isTakenAs_72 (by decide) ?_
            exact jw_ret (pc := 76) (v := 1) dX0_isTakenAs_76 (Or.inr rfl) rfl rfl
          · refine jw_iconst (pc := 75) dX0_isTakenAs_75 ?_
            exact jw_ret (pc := 76) (v := 0) dX0_isTakenAs_76 (Or.inl rfl) rfl rfl
theorem kX0_isTakenAs (G : jw_G) (a1 : Int) (a2 : Int) (ha1 : jw_r a1) (ha2 : jw_r a2) (M : jw_M) : jw_Ct G YX0_isTakenAs (some .boolean) 1 0 0 true (fun v => (v, M)) yX0_isTakenAs [jI a1, jI a2] M (fX0_isTakenAs a1 a2 M) := jw_met (by decide) rfl rfl rfl (Nat.le_of_ble_eq_true rfl) (rX0_isTakenAs G a1 a2 ha1 ha2 M)
abbrev YX0_begins : jw_Y := (RX0, cX0_begins, 2, 0, "begins")
theorem qX0_begins : jw_cy YX0_begins none yX0_begins 1 := ⟨by decide, jt_1191, jt_13, by decide, by decide +kernel⟩
theorem dX0_begins_0 : decode cX0_begins 0 = .ok (.aload_n 0, 1) := by decide +kernel
theorem dX0_begins_1 : decode cX0_begins 1 = .ok (.getfield 15, 3) := by decide +kernel
theorem dX0_begins_4 : decode cX0_begins 4 = .ok (.bipush 16, 2) := by decide +kernel
theorem dX0_begins_6 : decode cX0_begins 6 = .ok (.if_icmp .ge 23, 3) := by decide +kernel
theorem dX0_begins_9 : decode cX0_begins 9 = .ok (.aload_n 0, 1) := by decide +kernel
theorem dX0_begins_10 : decode cX0_begins 10 = .ok (.getfield 11, 3) := by decide +kernel
theorem dX0_begins_13 : decode cX0_begins 13 = .ok (.aload_n 0, 1) := by decide +kernel
theorem dX0_begins_14 : decode cX0_begins 14 = .ok (.getfield 15, 3) := by decide +kernel
theorem dX0_begins_17 : decode cX0_begins 17 = .ok (.iload_n 1, 1) := by decide +kernel
theorem dX0_begins_18 : decode cX0_begins 18 = .ok (.iastore, 1) := by decide +kernel
theorem dX0_begins_19 : decode cX0_begins 19 = .ok (.aload_n 0, 1) := by decide +kernel
theorem dX0_begins_20 : decode cX0_begins 20 = .ok (.dup, 1) := by decide +kernel
theorem dX0_begins_21 : decode cX0_begins 21 = .ok (.getfield 15, 3) := by decide +kernel
theorem dX0_begins_24 : decode cX0_begins 24 = .ok (.iconst 1, 1) := by decide +kernel
theorem dX0_begins_25 : decode cX0_begins 25 = .ok (.iadd, 1) := by decide +kernel
theorem dX0_begins_26 : decode cX0_begins 26 = .ok (.putfield 15, 3) := by decide +kernel
theorem dX0_begins_29 : decode cX0_begins 29 = .ok (.return_, 1) := by decide +kernel
def fX0_begins (a1 : Int) (M : jw_M) : Option jw_M :=
  if M 125 2 < 16 then (if 0 ≤ M 125 2 ∧ M 125 2 < 16 then Option.bind (some (jw_up M 126 (M 125 2) a1)) (fun M3 => Option.bind (some (jw_up M3 125 2 (jw_w ((M3 125 2) + 1)))) (fun M5 => some M5)) else none) else (some M)
set_option maxRecDepth 100000 in
theorem rX0_begins (G : jw_G) (a1 : Int) (ha1 : jw_r a1) (M : jw_M) : jw_Rn G YX0_begins 1 0 0 true (fun M1 => (0, M1)) 0 [(0, jR G 125), (1, jI a1)] [] M (fX0_begins a1 M) := by
  unfold fX0_begins
  refine jw_aloadR (pc := 0) 0 dX0_begins_0 rfl ?_
  refine jw_getI (pc := 1) (j := 2) rfl dX0_begins_1 jv_0 ji_0 (Or.inl jt_364) jg_125 jl_125 (by decide) (by decide) (jw_ho jg_125 (by decide)) (Or.inl rfl) rfl (fun h1 => ?_)
  refine jw_bipush (pc := 4) dX0_begins_4 rfl ?_
  refine jw_ic_ge (pc := 6) 29 dX0_begins_6 (by decide) h1 (jw_rc _ rfl) (fun _ => ?_) (fun _ => ?_)
  · refine jw_aloadR (pc := 9) 0 dX0_begins_9 rfl ?_
    refine jw_getR (pc := 10) (j := 1) rfl dX0_begins_10 jv_0 ji_0 (Or.inl jt_363) jg_125 jl_125 (by decide) (by decide) rfl jf_0_1 ?_
    refine jw_aloadR (pc := 13) 0 dX0_begins_13 rfl ?_
    refine jw_getI (pc := 14) (j := 2) rfl dX0_begins_14 jv_0 ji_0 (Or.inl jt_364) jg_125 jl_125 (by decide) (by decide) (jw_ho jg_125 (by decide)) (Or.inl rfl) rfl (fun h2 => ?_)
    refine jw_iload_n (pc := 17) 1 dX0_begins_17 rfl ?_
    refine jw_iast (pc := 18) dX0_begins_18 jg_126 jl_126 (jw_ho jg_126 (by decide)) h2 ha1 rfl ?_
    refine jw_letM (fun M3 => ?_)
    refine jw_aloadR (pc := 19) 0 dX0_begins_19 rfl ?_
    refine jw_dup (pc := 20) dX0_begins_20 rfl ?_
    refine jw_getI (pc := 21) (j := 2) rfl dX0_begins_21 jv_0 ji_0 (Or.inl jt_364) jg_125 jl_125 (by decide) (by decide) (jw_ho jg_125 (by decide)) (Or.inl rfl) rfl (fun h4 => ?_)
    refine jw_iconst (pc := 24) dX0_begins_24 ?_
    refine jw_iadd (pc := 25) dX0_begins_25 ?_
    refine jw_putI (pc := 26) (j := 2) tyX0 rfl dX0_begins_26 jv_0 ji_0 tyX0_ok nmX0 (Or.inl jt_364) rfl jg_125 jl_125 (by decide) (by decide) (jw_ho jg_125 (by decide)) rfl rfl (jw_wr _) rfl ?_
    refine jw_letM (fun M5 => ?_)
    exact jw_ret (pc := 29) (v := 0) dX0_begins_29 trivial rfl rfl
  · exact jw_ret (pc := 29) (v := 0) dX0_begins_29 trivial rfl rfl
theorem kX0_begins (G : jw_G) (a1 : Int) (ha1 : jw_r a1) (M : jw_M) : jw_Ct G YX0_begins none 1 0 0 true (fun M1 => (0, M1)) yX0_begins [jR G 125, jI a1] M (fX0_begins a1 M) := jw_met (by decide) rfl rfl rfl (Nat.le_of_ble_eq_true rfl) (rX0_begins G a1 ha1 M)
abbrev YX0_body : jw_Y := (RX0, cX0_body, 5, 1, "body")
theorem qX0_body : jw_cy YX0_body (some .int) yX0_body 3 := ⟨by decide, jt_1187, jt_13, by decide, by decide +kernel⟩
theorem dX0_body_0 : decode cX0_body 0 = .ok (.iload_n 3, 1) := by decide +kernel
theorem dX0_body_1 : decode cX0_body 1 = .ok (.bipush 16, 2) := by decide +kernel
theorem dX0_body_3 : decode cX0_body 3 = .ok (.if_icmp .le 5, 3) := by decide +kernel
theorem dX0_body_6 : decode cX0_body 6 = .ok (.iconst 0, 1) := by decide +kernel
theorem dX0_body_7 : decode cX0_body 7 = .ok (.ireturn, 1) := by decide +kernel
theorem dX0_body_8 : decode cX0_body 8 = .ok (.aload_n 0, 1) := by decide +kernel
theorem dX0_body_9 : decode cX0_body 9 = .ok (.iload_n 1, 1) := by decide +kernel
theorem dX0_body_10 : decode cX0_body 10 = .ok (.invokevirtual 72, 3) := by decide +kernel
theorem dX0_body_13 : decode cX0_body 13 = .ok (.iload_n 3, 1) := by decide +kernel
theorem dX0_body_14 : decode cX0_body 14 = .ok (.iconst 1, 1) := by decide +kernel
theorem dX0_body_15 : decode cX0_body 15 = .ok (.iadd, 1) := by decide +kernel
theorem dX0_body_16 : decode cX0_body 16 = .ok (.istore 4, 2) := by decide +kernel
theorem dX0_body_18 : decode cX0_body 18 = .ok (.iload_n 1, 1) := by decide +kernel
theorem dX0_body_19 : decode cX0_body 19 = .ok (.tableswitch 231 10 23 #[69, 81, 108, 127, 150, 231, 231, 231, 231, 231, 162, 164, 190, 217], 69) := by decide +kernel
theorem dX0_body_88 : decode cX0_body 88 = .ok (.aload_n 0, 1) := by decide +kernel
theorem dX0_body_89 : decode cX0_body 89 = .ok (.getfield 19, 3) := by decide +kernel
theorem dX0_body_92 : decode cX0_body 92 = .ok (.getfield 46, 3) := by decide +kernel
theorem dX0_body_95 : decode cX0_body 95 = .ok (.iload_n 2, 1) := by decide +kernel
theorem dX0_body_96 : decode cX0_body 96 = .ok (.invokevirtual 76, 3) := by decide +kernel
theorem dX0_body_99 : decode cX0_body 99 = .ok (.ireturn, 1) := by decide +kernel
theorem dX0_body_100 : decode cX0_body 100 = .ok (.aload_n 0, 1) := by decide +kernel
theorem dX0_body_101 : decode cX0_body 101 = .ok (.bipush 10, 2) := by decide +kernel
theorem dX0_body_103 : decode cX0_body 103 = .ok (.iload_n 2, 1) := by decide +kernel
theorem dX0_body_104 : decode cX0_body 104 = .ok (.iload 4, 2) := by decide +kernel
theorem dX0_body_106 : decode cX0_body 106 = .ok (.invokevirtual 68, 3) := by decide +kernel
theorem dX0_body_109 : decode cX0_body 109 = .ok (.aload_n 0, 1) := by decide +kernel
theorem dX0_body_110 : decode cX0_body 110 = .ok (.getstatic 65, 3) := by decide +kernel
theorem dX0_body_113 : decode cX0_body 113 = .ok (.aload_n 0, 1) := by decide +kernel
theorem dX0_body_114 : decode cX0_body 114 = .ok (.iload_n 2, 1) := by decide +kernel
theorem dX0_body_115 : decode cX0_body 115 = .ok (.invokevirtual 59, 3) := by decide +kernel
theorem dX0_body_118 : decode cX0_body 118 = .ok (.iaload, 1) := by decide +kernel
theorem dX0_body_119 : decode cX0_body 119 = .ok (.iload_n 2, 1) := by decide +kernel
theorem dX0_body_120 : decode cX0_body 120 = .ok (.iload 4, 2) := by decide +kernel
theorem dX0_body_122 : decode cX0_body 122 = .ok (.invokevirtual 68, 3) := by decide +kernel
theorem dX0_body_125 : decode cX0_body 125 = .ok (.iadd, 1) := by decide +kernel
theorem dX0_body_126 : decode cX0_body 126 = .ok (.ireturn, 1) := by decide +kernel
theorem dX0_body_127 : decode cX0_body 127 = .ok (.aload_n 0, 1) := by decide +kernel
theorem dX0_body_128 : decode cX0_body 128 = .ok (.bipush 11, 2) := by decide +kernel
theorem dX0_body_130 : decode cX0_body 130 = .ok (.iload_n 2, 1) := by decide +kernel
theorem dX0_body_131 : decode cX0_body 131 = .ok (.iload 4, 2) := by decide +kernel
theorem dX0_body_133 : decode cX0_body 133 = .ok (.invokevirtual 68, 3) := by decide +kernel
theorem dX0_body_136 : decode cX0_body 136 = .ok (.aload_n 0, 1) := by decide +kernel
theorem dX0_body_137 : decode cX0_body 137 = .ok (.getfield 19, 3) := by decide +kernel
theorem dX0_body_140 : decode cX0_body 140 = .ok (.iload_n 2, 1) := by decide +kernel
theorem dX0_body_141 : decode cX0_body 141 = .ok (.invokevirtual 79, 3) := by decide +kernel
theorem dX0_body_144 : decode cX0_body 144 = .ok (.isub, 1) := by decide +kernel
theorem dX0_body_145 : decode cX0_body 145 = .ok (.ireturn, 1) := by decide +kernel
theorem dX0_body_146 : decode cX0_body 146 = .ok (.aload_n 0, 1) := by decide +kernel
theorem dX0_body_147 : decode cX0_body 147 = .ok (.bipush 10, 2) := by decide +kernel
theorem dX0_body_149 : decode cX0_body 149 = .ok (.iload_n 2, 1) := by decide +kernel
theorem dX0_body_150 : decode cX0_body 150 = .ok (.iload 4, 2) := by decide +kernel
theorem dX0_body_152 : decode cX0_body 152 = .ok (.invokevirtual 68, 3) := by decide +kernel
theorem dX0_body_155 : decode cX0_body 155 = .ok (.ineg, 1) := by decide +kernel
theorem dX0_body_156 : decode cX0_body 156 = .ok (.aload_n 0, 1) := by decide +kernel
theorem dX0_body_157 : decode cX0_body 157 = .ok (.getfield 19, 3) := by decide +kernel
theorem dX0_body_160 : decode cX0_body 160 = .ok (.getfield 46, 3) := by decide +kernel
theorem dX0_body_163 : decode cX0_body 163 = .ok (.iload_n 2, 1) := by decide +kernel
theorem dX0_body_164 : decode cX0_body 164 = .ok (.invokevirtual 82, 3) := by decide +kernel
theorem dX0_body_167 : decode cX0_body 167 = .ok (.isub, 1) := by decide +kernel
theorem dX0_body_168 : decode cX0_body 168 = .ok (.ireturn, 1) := by decide +kernel
theorem dX0_body_169 : decode cX0_body 169 = .ok (.iconst 2, 1) := by decide +kernel
theorem dX0_body_170 : decode cX0_body 170 = .ok (.aload_n 0, 1) := by decide +kernel
theorem dX0_body_171 : decode cX0_body 171 = .ok (.bipush 13, 2) := by decide +kernel
theorem dX0_body_173 : decode cX0_body 173 = .ok (.iload_n 2, 1) := by decide +kernel
theorem dX0_body_174 : decode cX0_body 174 = .ok (.iload 4, 2) := by decide +kernel
theorem dX0_body_176 : decode cX0_body 176 = .ok (.invokevirtual 68, 3) := by decide +kernel
theorem dX0_body_179 : decode cX0_body 179 = .ok (.imul, 1) := by decide +kernel
theorem dX0_body_180 : decode cX0_body 180 = .ok (.ireturn, 1) := by decide +kernel
theorem dX0_body_181 : decode cX0_body 181 = .ok (.iload_n 2, 1) := by decide +kernel
theorem dX0_body_182 : decode cX0_body 182 = .ok (.ireturn, 1) := by decide +kernel
theorem dX0_body_183 : decode cX0_body 183 = .ok (.aload_n 0, 1) := by decide +kernel
theorem dX0_body_184 : decode cX0_body 184 = .ok (.bipush 20, 2) := by decide +kernel
theorem dX0_body_186 : decode cX0_body 186 = .ok (.iload_n 2, 1) := by decide +kernel
theorem dX0_body_187 : decode cX0_body 187 = .ok (.iload 4, 2) := by decide +kernel
theorem dX0_body_189 : decode cX0_body 189 = .ok (.invokevirtual 68, 3) := by decide +kernel
theorem dX0_body_192 : decode cX0_body 192 = .ok (.bipush 10, 2) := by decide +kernel
theorem dX0_body_194 : decode cX0_body 194 = .ok (.aload_n 0, 1) := by decide +kernel
theorem dX0_body_195 : decode cX0_body 195 = .ok (.getfield 19, 3) := by decide +kernel
theorem dX0_body_198 : decode cX0_body 198 = .ok (.getfield 46, 3) := by decide +kernel
theorem dX0_body_201 : decode cX0_body 201 = .ok (.getfield 50, 3) := by decide +kernel
theorem dX0_body_204 : decode cX0_body 204 = .ok (.iload_n 2, 1) := by decide +kernel
theorem dX0_body_205 : decode cX0_body 205 = .ok (.iaload, 1) := by decide +kernel
theorem dX0_body_206 : decode cX0_body 206 = .ok (.imul, 1) := by decide +kernel
theorem dX0_body_207 : decode cX0_body 207 = .ok (.iadd, 1) := by decide +kernel
theorem dX0_body_208 : decode cX0_body 208 = .ok (.ireturn, 1) := by decide +kernel
theorem dX0_body_209 : decode cX0_body 209 = .ok (.aload_n 0, 1) := by decide +kernel
theorem dX0_body_210 : decode cX0_body 210 = .ok (.bipush 20, 2) := by decide +kernel
theorem dX0_body_212 : decode cX0_body 212 = .ok (.iload_n 2, 1) := by decide +kernel
theorem dX0_body_213 : decode cX0_body 213 = .ok (.iload 4, 2) := by decide +kernel
theorem dX0_body_215 : decode cX0_body 215 = .ok (.invokevirtual 68, 3) := by decide +kernel
theorem dX0_body_218 : decode cX0_body 218 = .ok (.aload_n 0, 1) := by decide +kernel
theorem dX0_body_219 : decode cX0_body 219 = .ok (.getstatic 62, 3) := by decide +kernel
theorem dX0_body_222 : decode cX0_body 222 = .ok (.aload_n 0, 1) := by decide +kernel
theorem dX0_body_223 : decode cX0_body 223 = .ok (.iload_n 2, 1) := by decide +kernel
theorem dX0_body_224 : decode cX0_body 224 = .ok (.invokevirtual 59, 3) := by decide +kernel
theorem dX0_body_227 : decode cX0_body 227 = .ok (.iaload, 1) := by decide +kernel
theorem dX0_body_228 : decode cX0_body 228 = .ok (.iload_n 2, 1) := by decide +kernel
theorem dX0_body_229 : decode cX0_body 229 = .ok (.iload 4, 2) := by decide +kernel
theorem dX0_body_231 : decode cX0_body 231 = .ok (.invokevirtual 68, 3) := by decide +kernel
theorem dX0_body_234 : decode cX0_body 234 = .ok (.isub, 1) := by decide +kernel
theorem dX0_body_235 : decode cX0_body 235 = .ok (.ireturn, 1) := by decide +kernel
theorem dX0_body_236 : decode cX0_body 236 = .ok (.aload_n 0, 1) := by decide +kernel
theorem dX0_body_237 : decode cX0_body 237 = .ok (.bipush 21, 2) := by decide +kernel
theorem dX0_body_239 : decode cX0_body 239 = .ok (.iload_n 2, 1) := by decide +kernel
theorem dX0_body_240 : decode cX0_body 240 = .ok (.iload 4, 2) := by decide +kernel
theorem dX0_body_242 : decode cX0_body 242 = .ok (.invokevirtual 68, 3) := by decide +kernel
theorem dX0_body_245 : decode cX0_body 245 = .ok (.sipush 500, 3) := by decide +kernel
theorem dX0_body_248 : decode cX0_body 248 = .ok (.iadd, 1) := by decide +kernel
theorem dX0_body_249 : decode cX0_body 249 = .ok (.ireturn, 1) := by decide +kernel
theorem dX0_body_250 : decode cX0_body 250 = .ok (.iconst 0, 1) := by decide +kernel
theorem dX0_body_251 : decode cX0_body 251 = .ok (.ireturn, 1) := by decide +kernel
def bX0_body (sf : Int → Int → Int → jw_M → Option (Int × jw_M)) (a1 : Int) (a2 : Int) (a3 : Int) (M : jw_M) : Option (Int × jw_M) :=
  if (16 : Int) < a3 then (some (0, M)) else (Option.bind (fX0_begins a1 M) (fun M1 => Option.bind (some (jw_w (a3 + 1))) (fun v2 => if a1 = 10 then (Option.bind (fX10_worthOf (9 + 8) a2 M1) (fun v3 => some (v3, M1))) else (if a1 = 11 then (jw_b2 (sf 10 a2 v2 M1) (fun v5 M6 => Option.bind (fX0_kindOf a2 M6) (fun v7 => if 0 ≤ v7 ∧ v7 < 5 then jw_b2 (sf (jw_x6.getD (v7).toNat 0) a2 v2 M6) (fun v8 M9 => some (jw_w (v5 + v8), M9)) else none))) else (if a1 = 12 then (jw_b2 (sf 11 a2 v2 M1) (fun v11 M12 => Option.bind (fX7_minutesGone 9 a2 M12) (fun v13 => some (jw_w (v11 - v13), M12)))) else (if a1 = 13 then (jw_b2 (sf 10 a2 v2 M1) (fun v15 M16 => Option.bind (fX10_fineOf (9 + 8) a2 M16) (fun v17 => some (jw_w ((jw_w (-v15)) - v17), M16)))) else (if a1 = 14 then (jw_b2 (sf 13 a2 v2 M1) (fun v19 M20 => some (jw_w (2 * v19), M20))) else (if a1 = 20 then (some (a2, M1)) else (if a1 = 21 then (jw_b2 (sf 20 a2 v2 M1) (fun v23 M24 => if 0 ≤ a2 ∧ a2 < 5 then some (jw_w (v23 + (jw_w (10 * (M24 ((9 + 8) + 5) a2)))), M24) else none)) else (if a1 = 22 then (jw_b2 (sf 20 a2 v2 M1) (fun v27 M28 => Option.bind (fX0_kindOf a2 M28) (fun v29 => if 0 ≤ v29 ∧ v29 < 5 then jw_b2 (sf (jw_x5.getD (v29).toNat 0) a2 v2 M28) (fun v30 M31 => some (jw_w (v27 - v30), M31)) else none))) else (if a1 = 23 then (jw_b2 (sf 21 a2 v2 M1) (fun v33 M34 => some (jw_w (v33 + 500), M34))) else (some (0, M1)))))))))))))
def fX0_body : Nat → Int → Int → Int → jw_M → Option (Int × jw_M)
  | 0, _, _, _, _ => none
  | k + 1, a1, a2, a3, M => bX0_body (fX0_body k) a1 a2 a3 M
set_option maxRecDepth 100000 in
theorem rX0_body (G : jw_G) (h2 : Nat) (hb : 3 ≤ h2) (sf : Int → Int → Int → jw_M → Option (Int × jw_M)) (hsf : ∀ (a1 : Int) (a2 : Int) (a3 : Int) (ha1 : jw_r a1) (ha2 : jw_r a2) (ha3 : jw_r a3) (M : jw_M), jw_Ct G YX0_body (some .int) h2 0 0 true (fun q => q) yX0_body [jR G 125, jI a1, jI a2, jI a3] M (sf a1 a2 a3 M)) (a1 : Int) (a2 : Int) (a3 : Int) (ha1 : jw_r a1) (ha2 : jw_r a2) (ha3 : jw_r a3) (M : jw_M) : jw_Rn G YX0_body (h2 + 1) 0 0 true (fun q => q) 0 [(0, jR G 125), (1, jI a1), (2, jI a2), (3, jI a3)] [] M (bX0_body sf a1 a2 a3 M) := by
  unfold bX0_body
  refine jw_iload_n (pc := 0) 3 dX0_body_0 rfl ?_
  refine jw_bipush (pc := 1) dX0_body_1 rfl ?_
  refine jw_ic_le (pc := 3) 8 dX0_body_3 (by decide) ha3 (jw_rc _ rfl) (fun _ => ?_) (fun _ => ?_)
  · refine jw_iconst (pc := 6) dX0_body_6 ?_
    exact jw_ret (pc := 7) (v := 0) dX0_body_7 (jw_rc _ rfl) rfl rfl
  · refine jw_aloadR (pc := 8) 0 dX0_body_8 rfl ?_
    refine jw_iload_n (pc := 9) 1 dX0_body_9 rfl ?_
    refine jw_callVM (pc := 10) (As := [jI a1]) (st := []) dX0_body_10 rfl (by omega) qX0_begins jt_1188 jt_1190 jp_42 rfl rfl (Nat.le_of_ble_eq_true rfl) jv_0 rfl jg_125 jl_125 (by decide) (jw_ho jg_125 (by decide)) (kX0_begins G a1 ha1 M) (fun M1 => ?_)
    refine jw_iload_n (pc := 13) 3 dX0_body_13 rfl ?_
    refine jw_iconst (pc := 14) dX0_body_14 ?_
    refine jw_iadd (pc := 15) dX0_body_15 ?_
    refine jw_istoreL (pc := 16) (lv' := (fun y => [(4, y), (0, jR G 125), (1, jI a1), (2, jI a2), (3, jI a3)])) dX0_body_16 (jw_wr _) (by decide) (fun _ => rfl) (fun v2 hv2 => ?_)
    refine jw_iload_n (pc := 18) 2 dX0_body_18 rfl ?_
    refine jw_ite (fun c4 => ?_) (fun c4 => ?_)
    · refine jw_tsin (pc := 19) 88 10 dX0_body_19 ha1 c4 rfl rfl (by decide) ?_
      refine jw_aloadR (pc := 88) 1 dX0_body_88 rfl ?_
      refine jw_getR (pc := 89) (j := 0) rfl dX0_body_89 jv_0 ji_0 (Or.inl jt_362) jg_125 jl_125 (by decide) (by decide) rfl jf_0_0 ?_
      refine jw_getR (pc := 92) (j := 2) rfl dX0_body_92 jv_7 ji_7 (Or.inr ⟨_, jt_268⟩) jg_9 jl_9 (by decide) (by decide) rfl (jf_7_2 jg_9).1 ?_
      refine jw_iload_n (pc := 95) 3 dX0_body_95 rfl ?_
      refine jw_callVi (pc := 96) (As := [jI a2]) (st := []) dX0_body_96 rfl (by omega) qX10_worthOf jt_1192 jt_766 jt_767 rfl rfl (Nat.le_of_ble_eq_true rfl) jv_10 rfl (jf_7_2 jg_9).2.1 (jf_7_2 jg_9).2.2 (by decide) (jw_ho (jf_7_2 jg_9).2.1 (by decide)) (kX10_worthOf G (9 + 8) a2 ha2 M1) (fun v3 hv3 => ?_)
      exact jw_ret (pc := 99) (v := v3) dX0_body_99 hv3 rfl rfl
    · refine jw_ite (fun c10 => ?_) (fun c10 => ?_)
      · refine jw_tsin (pc := 19) 100 11 dX0_body_19 ha1 c10 rfl rfl (by decide) ?_
        refine jw_aloadR (pc := 100) 1 dX0_body_100 rfl ?_
        refine jw_bipush (pc := 101) dX0_body_101 rfl ?_
        refine jw_iload_n (pc := 103) 3 dX0_body_103 rfl ?_
        refine jw_iload (pc := 104) 0 dX0_body_104 rfl ?_
        refine jw_callVMi (pc := 106) (As := [jI 10, jI a2, jI v2]) (st := []) dX0_body_106 rfl (Nat.le_refl _) qX0_body jt_1184 jt_1186 jp_41 rfl rfl (Nat.le_of_ble_eq_true rfl) jv_0 rfl jg_125 jl_125 (by decide) (jw_ho jg_125 (by decide)) (hsf 10 a2 v2 (jw_rc _ rfl) ha2 hv2 M1) (fun v5 M6 hv5 => ?_)
        refine jw_aloadR (pc := 109) 1 dX0_body_109 rfl ?_
        refine jw_gsta (pc := 110) 6 rfl dX0_body_110 js_6 jt_1182 ?_
        refine jw_aloadR (pc := 113) 1 dX0_body_113 rfl ?_
        refine jw_iload_n (pc := 114) 3 dX0_body_114 rfl ?_
        refine jw_callVi (pc := 115) (As := [jI a2]) (st := [jA G 6, jR G 125, jI v5]) dX0_body_115 rfl (by omega) qX0_kindOf jt_1179 jt_1160 jt_1161 rfl rfl (Nat.le_of_ble_eq_true rfl) jv_0 rfl jg_125 jl_125 (by decide) (jw_ho jg_125 (by decide)) (kX0_kindOf G a2 ha2 M6) (fun v7 hv7 => ?_)
        refine jw_sald (pc := 118) dX0_body_118 js_6 hv7 rfl ?_
        refine jw_iload_n (pc := 119) 3 dX0_body_119 rfl ?_
        refine jw_iload (pc := 120) 0 dX0_body_120 rfl ?_
        refine jw_callVMi (pc := 122) (As := [jI (jw_x6.getD (v7).toNat 0), jI a2, jI v2]) (st := [jI v5]) dX0_body_122 rfl (Nat.le_refl _) qX0_body jt_1184 jt_1186 jp_41 rfl rfl (Nat.le_of_ble_eq_true rfl) jv_0 rfl jg_125 jl_125 (by decide) (jw_ho jg_125 (by decide)) (hsf (jw_x6.getD (v7).toNat 0) a2 v2 (jw_xr _ _ rfl) ha2 hv2 M6) (fun v8 M9 hv8 => ?_)
        refine jw_iadd (pc := 125) dX0_body_125 ?_
        exact jw_ret (pc := 126) (v := jw_w (v5 + v8)) dX0_body_126 (jw_wr _) rfl rfl
      · refine jw_ite (fun c14 => ?_) (fun c14 => ?_)
        · refine jw_tsin (pc := 19) 127 12 dX0_body_19 ha1 c14 rfl rfl (by decide) ?_
          refine jw_aloadR (pc := 127) 1 dX0_body_127 rfl ?_
          refine jw_bipush (pc := 128) dX0_body_128 rfl ?_
          refine jw_iload_n (pc := 130) 3 dX0_body_130 rfl ?_
          refine jw_iload (pc := 131) 0 dX0_body_131 rfl ?_
          refine jw_callVMi (pc := 133) (As := [jI 11, jI a2, jI v2]) (st := []) dX0_body_133 rfl (Nat.le_refl _) qX0_body jt_1184 jt_1186 jp_41 rfl rfl (Nat.le_of_ble_eq_true rfl) jv_0 rfl jg_125 jl_125 (by decide) (jw_ho jg_125 (by decide)) (hsf 11 a2 v2 (jw_rc _ rfl) ha2 hv2 M1) (fun v11 M12 hv11 => ?_)
          refine jw_aloadR (pc := 136) 1 dX0_body_136 rfl ?_
          refine jw_getR (pc := 137) (j := 0) rfl dX0_body_137 jv_0 ji_0 (Or.inl jt_362) jg_125 jl_125 (by decide) (by decide) rfl jf_0_0 ?_
          refine jw_iload_n (pc := 140) 3 dX0_body_140 rfl ?_
          refine jw_callVi (pc := 141) (As := [jI a2]) (st := [jI v11]) dX0_body_141 rfl (by omega) qX7_minutesGone jt_1193 jt_850 jt_851 rfl rfl (Nat.le_of_ble_eq_true rfl) jv_7 rfl jg_9 jl_9 (by decide) (jw_ho jg_9 (by decide)) (kX7_minutesGone G 9 a2 ha2 M12) (fun v13 hv13 => ?_)
          refine jw_isub (pc := 144) dX0_body_144 ?_
          exact jw_ret (pc := 145) (v := jw_w (v11 - v13)) dX0_body_145 (jw_wr _) rfl rfl
        · refine jw_ite (fun c18 => ?_) (fun c18 => ?_)
          · refine jw_tsin (pc := 19) 146 13 dX0_body_19 ha1 c18 rfl rfl (by decide) ?_
            refine jw_aloadR (pc := 146) 1 dX0_body_146 rfl ?_
            refine jw_bipush (pc := 147) dX0_body_147 rfl ?_
            refine jw_iload_n (pc := 149) 3 dX0_body_149 rfl ?_
            refine jw_iload (pc := 150) 0 dX0_body_150 rfl ?_
            refine jw_callVMi (pc := 152) (As := [jI 10, jI a2, jI v2]) (st := []) dX0_body_152 rfl (Nat.le_refl _) qX0_body jt_1184 jt_1186 jp_41 rfl rfl (Nat.le_of_ble_eq_true rfl) jv_0 rfl jg_125 jl_125 (by decide) (jw_ho jg_125 (by decide)) (hsf 10 a2 v2 (jw_rc _ rfl) ha2 hv2 M1) (fun v15 M16 hv15 => ?_)
            refine jw_ineg (pc := 155) dX0_body_155 ?_
            refine jw_aloadR (pc := 156) 1 dX0_body_156 rfl ?_
            refine jw_getR (pc := 157) (j := 0) rfl dX0_body_157 jv_0 ji_0 (Or.inl jt_362) jg_125 jl_125 (by decide) (by decide) rfl jf_0_0 ?_
            refine jw_getR (pc := 160) (j := 2) rfl dX0_body_160 jv_7 ji_7 (Or.inr ⟨_, jt_268⟩) jg_9 jl_9 (by decide) (by decide) rfl (jf_7_2 jg_9).1 ?_
            refine jw_iload_n (pc := 163) 3 dX0_body_163 rfl ?_
            refine jw_callVi (pc := 164) (As := [jI a2]) (st := [jI (jw_w (-v15))]) dX0_body_164 rfl (by omega) qX10_fineOf jt_1194 jt_770 jt_771 rfl rfl (Nat.le_of_ble_eq_true rfl) jv_10 rfl (jf_7_2 jg_9).2.1 (jf_7_2 jg_9).2.2 (by decide) (jw_ho (jf_7_2 jg_9).2.1 (by decide)) (kX10_fineOf G (9 + 8) a2 ha2 M16) (fun v17 hv17 => ?_)
            refine jw_isub (pc := 167) dX0_body_167 ?_
            exact jw_ret (pc := 168) (v := jw_w ((jw_w (-v15)) - v17)) dX0_body_168 (jw_wr _) rfl rfl
          · refine jw_ite (fun c21 => ?_) (fun c21 => ?_)
            · refine jw_tsin (pc := 19) 169 14 dX0_body_19 ha1 c21 rfl rfl (by decide) ?_
              refine jw_iconst (pc := 169) dX0_body_169 ?_
              refine jw_aloadR (pc := 170) 1 dX0_body_170 rfl ?_
              refine jw_bipush (pc := 171) dX0_body_171 rfl ?_
              refine jw_iload_n (pc := 173) 3 dX0_body_173 rfl ?_
              refine jw_iload (pc := 174) 0 dX0_body_174 rfl ?_
              refine jw_callVMi (pc := 176) (As := [jI 13, jI a2, jI v2]) (st := [jI 2]) dX0_body_176 rfl (Nat.le_refl _) qX0_body jt_1184 jt_1186 jp_41 rfl rfl (Nat.le_of_ble_eq_true rfl) jv_0 rfl jg_125 jl_125 (by decide) (jw_ho jg_125 (by decide)) (hsf 13 a2 v2 (jw_rc _ rfl) ha2 hv2 M1) (fun v19 M20 hv19 => ?_)
              refine jw_imul (pc := 179) dX0_body_179 ?_
              exact jw_ret (pc := 180) (v := jw_w (2 * v19)) dX0_body_180 (jw_wr _) rfl rfl
            · refine jw_ite (fun c22 => ?_) (fun c22 => ?_)
              · refine jw_tsin (pc := 19) 181 20 dX0_body_19 ha1 c22 rfl rfl (by decide) ?_
                refine jw_iload_n (pc := 181) 3 dX0_body_181 rfl ?_
                exact jw_ret (pc := 182) (v := a2) dX0_body_182 ha2 rfl rfl
              · refine jw_ite (fun c26 => ?_) (fun c26 => ?_)
                · refine jw_tsin (pc := 19) 183 21 dX0_body_19 ha1 c26 rfl rfl (by decide) ?_
                  refine jw_aloadR (pc := 183) 1 dX0_body_183 rfl ?_
                  refine jw_bipush (pc := 184) dX0_body_184 rfl ?_
                  refine jw_iload_n (pc := 186) 3 dX0_body_186 rfl ?_
                  refine jw_iload (pc := 187) 0 dX0_body_187 rfl ?_
                  refine jw_callVMi (pc := 189) (As := [jI 20, jI a2, jI v2]) (st := []) dX0_body_189 rfl (Nat.le_refl _) qX0_body jt_1184 jt_1186 jp_41 rfl rfl (Nat.le_of_ble_eq_true rfl) jv_0 rfl jg_125 jl_125 (by decide) (jw_ho jg_125 (by decide)) (hsf 20 a2 v2 (jw_rc _ rfl) ha2 hv2 M1) (fun v23 M24 hv23 => ?_)
                  refine jw_bipush (pc := 192) dX0_body_192 rfl ?_
                  refine jw_aloadR (pc := 194) 1 dX0_body_194 rfl ?_
                  refine jw_getR (pc := 195) (j := 0) rfl dX0_body_195 jv_0 ji_0 (Or.inl jt_362) jg_125 jl_125 (by decide) (by decide) rfl jf_0_0 ?_
                  refine jw_getR (pc := 198) (j := 2) rfl dX0_body_198 jv_7 ji_7 (Or.inr ⟨_, jt_268⟩) jg_9 jl_9 (by decide) (by decide) rfl (jf_7_2 jg_9).1 ?_
                  refine jw_getR (pc := 201) (j := 6) rfl dX0_body_201 jv_10 ji_10 (Or.inr ⟨_, jt_161⟩) (jf_7_2 jg_9).2.1 (jf_7_2 jg_9).2.2 (by decide) (by decide) rfl (jf_10_6 (jf_7_2 jg_9).2.1).1 ?_
                  refine jw_iload_n (pc := 204) 3 dX0_body_204 rfl ?_
                  refine jw_iald (pc := 205) dX0_body_205 (jf_10_6 (jf_7_2 jg_9).2.1).2.1 (jf_10_6 (jf_7_2 jg_9).2.1).2.2 (jw_ho (jf_10_6 (jf_7_2 jg_9).2.1).2.1 (by decide)) ha2 rfl (fun h25 => ?_)
                  refine jw_imul (pc := 206) dX0_body_206 ?_
                  refine jw_iadd (pc := 207) dX0_body_207 ?_
                  exact jw_ret (pc := 208) (v := jw_w (v23 + (jw_w (10 * (M24 ((9 + 8) + 5) a2))))) dX0_body_208 (jw_wr _) rfl rfl
                · refine jw_ite (fun c32 => ?_) (fun c32 => ?_)
                  · refine jw_tsin (pc := 19) 209 22 dX0_body_19 ha1 c32 rfl rfl (by decide) ?_
                    refine jw_aloadR (pc := 209) 1 dX0_body_209 rfl ?_
                    refine jw_bipush (pc := 210) dX0_body_210 rfl ?_
                    refine jw_iload_n (pc := 212) 3 dX0_body_212 rfl ?_
                    refine jw_iload (pc := 213) 0 dX0_body_213 rfl ?_
                    refine jw_callVMi (pc := 215) (As := [jI 20, jI a2, jI v2]) (st := []) dX0_body_215 rfl (Nat.le_refl _) qX0_body jt_1184 jt_1186 jp_41 rfl rfl (Nat.le_of_ble_eq_true rfl) jv_0 rfl jg_125 jl_125 (by decide) (jw_ho jg_125 (by decide)) (hsf 20 a2 v2 (jw_rc _ rfl) ha2 hv2 M1) (fun v27 M28 hv27 => ?_)
                    refine jw_aloadR (pc := 218) 1 dX0_body_218 rfl ?_
                    refine jw_gsta (pc := 219) 5 rfl dX0_body_219 js_5 jt_1180 ?_
                    refine jw_aloadR (pc := 222) 1 dX0_body_222 rfl ?_
                    refine jw_iload_n (pc := 223) 3 dX0_body_223 rfl ?_
                    refine jw_callVi (pc := 224) (As := [jI a2]) (st := [jA G 5, jR G 125, jI v27]) dX0_body_224 rfl (by omega) qX0_kindOf jt_1179 jt_1160 jt_1161 rfl rfl (Nat.le_of_ble_eq_true rfl) jv_0 rfl jg_125 jl_125 (by decide) (jw_ho jg_125 (by decide)) (kX0_kindOf G a2 ha2 M28) (fun v29 hv29 => ?_)
                    refine jw_sald (pc := 227) dX0_body_227 js_5 hv29 rfl ?_
                    refine jw_iload_n (pc := 228) 3 dX0_body_228 rfl ?_
                    refine jw_iload (pc := 229) 0 dX0_body_229 rfl ?_
                    refine jw_callVMi (pc := 231) (As := [jI (jw_x5.getD (v29).toNat 0), jI a2, jI v2]) (st := [jI v27]) dX0_body_231 rfl (Nat.le_refl _) qX0_body jt_1184 jt_1186 jp_41 rfl rfl (Nat.le_of_ble_eq_true rfl) jv_0 rfl jg_125 jl_125 (by decide) (jw_ho jg_125 (by decide)) (hsf (jw_x5.getD (v29).toNat 0) a2 v2 (jw_xr _ _ rfl) ha2 hv2 M28) (fun v30 M31 hv30 => ?_)
                    refine jw_isub (pc := 234) dX0_body_234 ?_
                    exact jw_ret (pc := 235) (v := jw_w (v27 - v30)) dX0_body_235 (jw_wr _) rfl rfl
                  · refine jw_ite (fun c35 => ?_) (fun c35 => ?_)
                    · refine jw_tsin (pc := 19) 236 23 dX0_body_19 ha1 c35 rfl rfl (by decide) ?_
                      refine jw_aloadR (pc := 236) 1 dX0_body_236 rfl ?_
                      refine jw_bipush (pc := 237) dX0_body_237 rfl ?_
                      refine jw_iload_n (pc := 239) 3 dX0_body_239 rfl ?_
                      refine jw_iload (pc := 240) 0 dX0_body_240 rfl ?_
                      refine jw_callVMi (pc := 242) (As := [jI 21, jI a2, jI v2]) (st := []) dX0_body_242 rfl (Nat.le_refl _) qX0_body jt_1184 jt_1186 jp_41 rfl rfl (Nat.le_of_ble_eq_true rfl) jv_0 rfl jg_125 jl_125 (by decide) (jw_ho jg_125 (by decide)) (hsf 21 a2 v2 (jw_rc _ rfl) ha2 hv2 M1) (fun v33 M34 hv33 => ?_)
                      refine jw_sipush (pc := 245) dX0_body_245 rfl ?_
                      refine jw_iadd (pc := 248) dX0_body_248 ?_
                      exact jw_ret (pc := 249) (v := jw_w (v33 + 500)) dX0_body_249 (jw_wr _) rfl rfl
                    · rcases Decidable.em (a1 = 15) with c36 | c36
                      · refine jw_tsin (pc := 19) 250 15 dX0_body_19 ha1 c36 rfl rfl (by decide) ?_
                        refine jw_iconst (pc := 250) dX0_body_250 ?_
                        exact jw_ret (pc := 251) (v := 0) dX0_body_251 (jw_rc _ rfl) rfl rfl
                      · rcases Decidable.em (a1 = 16) with c37 | c37
                        · refine jw_tsin (pc := 19) 250 16 dX0_body_19 ha1 c37 rfl rfl (by decide) ?_
                          refine jw_iconst (pc := 250) dX0_body_250 ?_
                          exact jw_ret (pc := 251) (v := 0) dX0_body_251 (jw_rc _ rfl) rfl rfl
                        · rcases Decidable.em (a1 = 17) with c38 | c38
                          · refine jw_tsin (pc := 19) 250 17 dX0_body_19 ha1 c38 rfl rfl (by decide) ?_
                            refine jw_iconst (pc := 250) dX0_body_250 ?_
                            exact jw_ret (pc := 251) (v := 0) dX0_body_251 (jw_rc _ rfl) rfl rfl
                          · rcases Decidable.em (a1 = 18) with c39 | c39
                            · refine jw_tsin (pc := 19) 250 18 dX0_body_19 ha1 c39 rfl rfl (by decide) ?_
                              refine jw_iconst (pc := 250) dX0_body_250 ?_
                              exact jw_ret (pc := 251) (v := 0) dX0_body_251 (jw_rc _ rfl) rfl rfl
                            · rcases Decidable.em (a1 = 19) with c40 | c40
                              · refine jw_tsin (pc := 19) 250 19 dX0_body_19 ha1 c40 rfl rfl (by decide) ?_
                                refine jw_iconst (pc := 250) dX0_body_250 ?_
                                exact jw_ret (pc := 251) (v := 0) dX0_body_251 (jw_rc _ rfl) rfl rfl
                              · refine jw_tsout (pc := 19) 250 dX0_body_19 ha1 (by omega) (by decide) ?_
                                refine jw_iconst (pc := 250) dX0_body_250 ?_
                                exact jw_ret (pc := 251) (v := 0) dX0_body_251 (jw_rc _ rfl) rfl rfl
theorem kX0_body (G : jw_G) : ∀ (n : Nat) (a1 : Int) (a2 : Int) (a3 : Int) (ha1 : jw_r a1) (ha2 : jw_r a2) (ha3 : jw_r a3) (M : jw_M), jw_Ct G YX0_body (some .int) (3 + n) 0 0 true (fun q => q) yX0_body [jR G 125, jI a1, jI a2, jI a3] M (fX0_body n a1 a2 a3 M) := by
  intro n
  induction n with
  | zero =>
    intro a1 a2 a3 ha1 ha2 ha3 M hg x hx
    cases hx
  | succ k ih =>
    intro a1 a2 a3 ha1 ha2 ha3 M
    rw [fX0_body]
    exact jw_met (by decide) rfl rfl rfl (Nat.le_of_ble_eq_true rfl) (rX0_body G (3 + k) (by omega) (fX0_body k) ih a1 a2 a3 ha1 ha2 ha3 M)
abbrev YX0_answer : jw_Y := (RX0, cX0_answer, 4, 1, "answer")
theorem qX0_answer : jw_cy YX0_answer (some .int) yX0_answer 2 := ⟨by decide, jt_1178, jt_13, by decide, by decide +kernel⟩
theorem dX0_answer_0 : decode cX0_answer 0 = .ok (.aload_n 0, 1) := by decide +kernel
theorem dX0_answer_1 : decode cX0_answer 1 = .ok (.iconst 0, 1) := by decide +kernel
theorem dX0_answer_2 : decode cX0_answer 2 = .ok (.putfield 15, 3) := by decide +kernel
theorem dX0_answer_5 : decode cX0_answer 5 = .ok (.aload_n 0, 1) := by decide +kernel
theorem dX0_answer_6 : decode cX0_answer 6 = .ok (.iload_n 1, 1) := by decide +kernel
theorem dX0_answer_7 : decode cX0_answer 7 = .ok (.invokevirtual 59, 3) := by decide +kernel
theorem dX0_answer_10 : decode cX0_answer 10 = .ok (.istore_n 3, 1) := by decide +kernel
theorem dX0_answer_11 : decode cX0_answer 11 = .ok (.aload_n 0, 1) := by decide +kernel
theorem dX0_answer_12 : decode cX0_answer 12 = .ok (.iload_n 2, 1) := by decide +kernel
theorem dX0_answer_13 : decode cX0_answer 13 = .ok (.ifCond .ne 11, 3) := by decide +kernel
theorem dX0_answer_16 : decode cX0_answer 16 = .ok (.getstatic 62, 3) := by decide +kernel
theorem dX0_answer_19 : decode cX0_answer 19 = .ok (.iload_n 3, 1) := by decide +kernel
theorem dX0_answer_20 : decode cX0_answer 20 = .ok (.iaload, 1) := by decide +kernel
theorem dX0_answer_21 : decode cX0_answer 21 = .ok (.goto 8, 3) := by decide +kernel
theorem dX0_answer_24 : decode cX0_answer 24 = .ok (.getstatic 65, 3) := by decide +kernel
theorem dX0_answer_27 : decode cX0_answer 27 = .ok (.iload_n 3, 1) := by decide +kernel
theorem dX0_answer_28 : decode cX0_answer 28 = .ok (.iaload, 1) := by decide +kernel
theorem dX0_answer_29 : decode cX0_answer 29 = .ok (.iload_n 1, 1) := by decide +kernel
theorem dX0_answer_30 : decode cX0_answer 30 = .ok (.iconst 0, 1) := by decide +kernel
theorem dX0_answer_31 : decode cX0_answer 31 = .ok (.invokevirtual 68, 3) := by decide +kernel
theorem dX0_answer_34 : decode cX0_answer 34 = .ok (.ireturn, 1) := by decide +kernel
def fX0_answer_29 (x1 : Int) (xs0 : Int) (M : jw_M) : Option (Int × jw_M) :=
  jw_b2 (fX0_body jw_rn xs0 x1 0 M) (fun v4 M5 => some (v4, M5))
set_option maxRecDepth 100000 in
theorem pX0_answer_29 (G : jw_G) : ∀ (x1 : Int) (xs0 : Int) (hx1 : jw_r x1) (hxs0 : jw_r xs0) (M : jw_M), jw_Rn G YX0_answer 28 0 0 true (fun q => q) 29 [(1, jI x1)] [jI xs0, jR G 125] M (fX0_answer_29 x1 xs0 M) := by
  intro x1 xs0 hx1 hxs0 M
  unfold fX0_answer_29
  refine jw_iload_n (pc := 29) 0 dX0_answer_29 rfl ?_
  refine jw_iconst (pc := 30) dX0_answer_30 ?_
  refine jw_callVMi (pc := 31) (As := [jI xs0, jI x1, jI 0]) (st := []) dX0_answer_31 rfl (Nat.le_of_ble_eq_true rfl) qX0_body jt_1184 jt_1186 jp_41 rfl rfl (Nat.le_of_ble_eq_true rfl) jv_0 rfl jg_125 jl_125 (by decide) (jw_ho jg_125 (by decide)) (kX0_body G jw_rn xs0 x1 0 hxs0 hx1 (jw_rc _ rfl) M) (fun v4 M5 hv4 => ?_)
  exact jw_ret (pc := 34) (v := v4) dX0_answer_34 hv4 rfl rfl
def fX0_answer (a1 : Int) (a2 : Int) (M : jw_M) : Option (Int × jw_M) :=
  Option.bind (some (jw_up M 125 2 0)) (fun M1 => Option.bind (fX0_kindOf a1 M1) (fun v2 => Option.bind (some v2) (fun v3 => if a2 = 0 then (if 0 ≤ v3 ∧ v3 < 5 then fX0_answer_29 a1 (jw_x5.getD (v3).toNat 0) M1 else none) else (if 0 ≤ v3 ∧ v3 < 5 then fX0_answer_29 a1 (jw_x6.getD (v3).toNat 0) M1 else none))))
set_option maxRecDepth 100000 in
theorem rX0_answer (G : jw_G) (a1 : Int) (a2 : Int) (ha1 : jw_r a1) (ha2 : jw_r a2) (M : jw_M) : jw_Rn G YX0_answer 28 0 0 true (fun q => q) 0 [(0, jR G 125), (1, jI a1), (2, jI a2)] [] M (fX0_answer a1 a2 M) := by
  unfold fX0_answer
  refine jw_aloadR (pc := 0) 0 dX0_answer_0 rfl ?_
  refine jw_iconst (pc := 1) dX0_answer_1 ?_
  refine jw_putI (pc := 2) (j := 2) tyX0 rfl dX0_answer_2 jv_0 ji_0 tyX0_ok nmX0 (Or.inl jt_364) rfl jg_125 jl_125 (by decide) (by decide) (jw_ho jg_125 (by decide)) rfl rfl (jw_rc _ rfl) rfl ?_
  refine jw_letM (fun M1 => ?_)
  refine jw_aloadR (pc := 5) 0 dX0_answer_5 rfl ?_
  refine jw_iload_n (pc := 6) 1 dX0_answer_6 rfl ?_
  refine jw_callVi (pc := 7) (As := [jI a1]) (st := []) dX0_answer_7 rfl (Nat.le_of_ble_eq_true rfl) qX0_kindOf jt_1179 jt_1160 jt_1161 rfl rfl (Nat.le_of_ble_eq_true rfl) jv_0 rfl jg_125 jl_125 (by decide) (jw_ho jg_125 (by decide)) (kX0_kindOf G a1 ha1 M1) (fun v2 hv2 => ?_)
  refine jw_istore_nL (pc := 10) (lv' := (fun y => [(3, y), (0, jR G 125), (1, jI a1), (2, jI a2)])) dX0_answer_10 hv2 (by decide) (fun _ => rfl) (fun v3 hv3 => ?_)
  refine jw_aloadR (pc := 11) 1 dX0_answer_11 rfl ?_
  refine jw_iload_n (pc := 12) 3 dX0_answer_12 rfl ?_
  refine jw_if_ne (pc := 13) 24 dX0_answer_13 (by decide) ha2 (fun _ => ?_) (fun _ => ?_)
  · refine jw_gsta (pc := 16) 5 rfl dX0_answer_16 js_5 jt_1180 ?_
    refine jw_iload_n (pc := 19) 0 dX0_answer_19 rfl ?_
    refine jw_sald (pc := 20) dX0_answer_20 js_5 hv3 rfl ?_
    refine jw_goto (pc := 21) 29 dX0_answer_21 (by decide) ?_
    exact jw_few [2] rfl (pX0_answer_29 G a1 (jw_x5.getD (v3).toNat 0) ha1 (jw_xr _ _ rfl) M1)
  · refine jw_gsta (pc := 24) 6 rfl dX0_answer_24 js_6 jt_1182 ?_
    refine jw_iload_n (pc := 27) 0 dX0_answer_27 rfl ?_
    refine jw_sald (pc := 28) dX0_answer_28 js_6 hv3 rfl ?_
    exact jw_few [2] rfl (pX0_answer_29 G a1 (jw_x6.getD (v3).toNat 0) ha1 (jw_xr _ _ rfl) M1)
theorem kX0_answer (G : jw_G) (a1 : Int) (a2 : Int) (ha1 : jw_r a1) (ha2 : jw_r a2) (M : jw_M) : jw_Ct G YX0_answer (some .int) 28 0 0 true (fun q => q) yX0_answer [jR G 125, jI a1, jI a2] M (fX0_answer a1 a2 M) := jw_met (by decide) rfl rfl rfl (Nat.le_of_ble_eq_true rfl) (rX0_answer G a1 a2 ha1 ha2 M)
abbrev YX0_traced : jw_Y := (RX0, cX0_traced, 2, 1, "traced")
theorem qX0_traced : jw_cy YX0_traced (some .int) yX0_traced 1 := ⟨by decide, jt_1202, jt_13, by decide, by decide +kernel⟩
theorem dX0_traced_0 : decode cX0_traced 0 = .ok (.iload_n 1, 1) := by decide +kernel
theorem dX0_traced_1 : decode cX0_traced 1 = .ok (.ifCond .lt 20, 3) := by decide +kernel
theorem dX0_traced_4 : decode cX0_traced 4 = .ok (.iload_n 1, 1) := by decide +kernel
theorem dX0_traced_5 : decode cX0_traced 5 = .ok (.aload_n 0, 1) := by decide +kernel
theorem dX0_traced_6 : decode cX0_traced 6 = .ok (.getfield 15, 3) := by decide +kernel
theorem dX0_traced_9 : decode cX0_traced 9 = .ok (.if_icmp .ge 12, 3) := by decide +kernel
theorem dX0_traced_12 : decode cX0_traced 12 = .ok (.aload_n 0, 1) := by decide +kernel
theorem dX0_traced_13 : decode cX0_traced 13 = .ok (.getfield 11, 3) := by decide +kernel
theorem dX0_traced_16 : decode cX0_traced 16 = .ok (.iload_n 1, 1) := by decide +kernel
theorem dX0_traced_17 : decode cX0_traced 17 = .ok (.iaload, 1) := by decide +kernel
theorem dX0_traced_18 : decode cX0_traced 18 = .ok (.goto 5, 3) := by decide +kernel
theorem dX0_traced_21 : decode cX0_traced 21 = .ok (.ldc 85, 2) := by decide +kernel
theorem dX0_traced_23 : decode cX0_traced 23 = .ok (.ireturn, 1) := by decide +kernel
def fX0_traced (a1 : Int) (M : jw_M) : Option Int :=
  if a1 < 0 then (some (-1000000)) else (if a1 < M 125 2 then (if 0 ≤ a1 ∧ a1 < 16 then some (M 126 a1) else none) else (some (-1000000)))
set_option maxRecDepth 100000 in
theorem rX0_traced (G : jw_G) (a1 : Int) (ha1 : jw_r a1) (M : jw_M) : jw_Rn G YX0_traced 1 0 0 true (fun v => (v, M)) 0 [(0, jR G 125), (1, jI a1)] [] M (fX0_traced a1 M) := by
  unfold fX0_traced
  refine jw_iload_n (pc := 0) 1 dX0_traced_0 rfl ?_
  refine jw_if_lt (pc := 1) 21 dX0_traced_1 (by decide) ha1 (fun _ => ?_) (fun _ => ?_)
  · refine jw_ldc (pc := 21) (n := (-1000000)) dX0_traced_21 jt_1203 (by decide) ?_
    exact jw_ret (pc := 23) (v := (-1000000)) dX0_traced_23 (jw_rc _ rfl) rfl rfl
  · refine jw_iload_n (pc := 4) 1 dX0_traced_4 rfl ?_
    refine jw_aloadR (pc := 5) 0 dX0_traced_5 rfl ?_
    refine jw_getI (pc := 6) (j := 2) rfl dX0_traced_6 jv_0 ji_0 (Or.inl jt_364) jg_125 jl_125 (by decide) (by decide) (jw_ho jg_125 (by decide)) (Or.inl rfl) rfl (fun h1 => ?_)
    refine jw_ic_ge (pc := 9) 21 dX0_traced_9 (by decide) ha1 h1 (fun _ => ?_) (fun _ => ?_)
    · refine jw_aloadR (pc := 12) 0 dX0_traced_12 rfl ?_
      refine jw_getR (pc := 13) (j := 1) rfl dX0_traced_13 jv_0 ji_0 (Or.inl jt_363) jg_125 jl_125 (by decide) (by decide) rfl jf_0_1 ?_
      refine jw_iload_n (pc := 16) 1 dX0_traced_16 rfl ?_
      refine jw_iald (pc := 17) dX0_traced_17 jg_126 jl_126 (jw_ho jg_126 (by decide)) ha1 rfl (fun h2 => ?_)
      refine jw_goto (pc := 18) 23 dX0_traced_18 (by decide) ?_
      exact jw_ret (pc := 23) (v := M 126 a1) dX0_traced_23 h2 rfl rfl
    · refine jw_ldc (pc := 21) (n := (-1000000)) dX0_traced_21 jt_1203 (by decide) ?_
      exact jw_ret (pc := 23) (v := (-1000000)) dX0_traced_23 (jw_rc _ rfl) rfl rfl
theorem kX0_traced (G : jw_G) (a1 : Int) (ha1 : jw_r a1) (M : jw_M) : jw_Ct G YX0_traced (some .int) 1 0 0 true (fun v => (v, M)) yX0_traced [jR G 125, jI a1] M (fX0_traced a1 M) := jw_met (by decide) rfl rfl rfl (Nat.le_of_ble_eq_true rfl) (rX0_traced G a1 ha1 M)
abbrev YX8_scoreAmong : jw_Y := (RX8, cX8_scoreAmong, 7, 1, "scoreAmong")
theorem qX8_scoreAmong : jw_cy YX8_scoreAmong (some .int) yX8_scoreAmong 3 := ⟨by decide, jt_907, jt_11, by decide, by decide +kernel⟩
theorem dX8_scoreAmong_0 : decode cX8_scoreAmong 0 = .ok (.iload_n 3, 1) := by decide +kernel
theorem dX8_scoreAmong_1 : decode cX8_scoreAmong 1 = .ok (.iconst 1, 1) := by decide +kernel
theorem dX8_scoreAmong_2 : decode cX8_scoreAmong 2 = .ok (.if_icmp .ge 7, 3) := by decide +kernel
theorem dX8_scoreAmong_5 : decode cX8_scoreAmong 5 = .ok (.iconst 0, 1) := by decide +kernel
theorem dX8_scoreAmong_6 : decode cX8_scoreAmong 6 = .ok (.goto 17, 3) := by decide +kernel
theorem dX8_scoreAmong_9 : decode cX8_scoreAmong 9 = .ok (.bipush 60, 2) := by decide +kernel
theorem dX8_scoreAmong_11 : decode cX8_scoreAmong 11 = .ok (.aload_n 0, 1) := by decide +kernel
theorem dX8_scoreAmong_12 : decode cX8_scoreAmong 12 = .ok (.getfield 27, 3) := by decide +kernel
theorem dX8_scoreAmong_15 : decode cX8_scoreAmong 15 = .ok (.getfield 54, 3) := by decide +kernel
theorem dX8_scoreAmong_18 : decode cX8_scoreAmong 18 = .ok (.iload_n 2, 1) := by decide +kernel
theorem dX8_scoreAmong_19 : decode cX8_scoreAmong 19 = .ok (.iaload, 1) := by decide +kernel
theorem dX8_scoreAmong_20 : decode cX8_scoreAmong 20 = .ok (.imul, 1) := by decide +kernel
theorem dX8_scoreAmong_21 : decode cX8_scoreAmong 21 = .ok (.iload_n 3, 1) := by decide +kernel
theorem dX8_scoreAmong_22 : decode cX8_scoreAmong 22 = .ok (.idiv, 1) := by decide +kernel
theorem dX8_scoreAmong_23 : decode cX8_scoreAmong 23 = .ok (.istore 4, 2) := by decide +kernel
theorem dX8_scoreAmong_25 : decode cX8_scoreAmong 25 = .ok (.bipush 10, 2) := by decide +kernel
theorem dX8_scoreAmong_27 : decode cX8_scoreAmong 27 = .ok (.aload_n 0, 1) := by decide +kernel
theorem dX8_scoreAmong_28 : decode cX8_scoreAmong 28 = .ok (.getfield 32, 3) := by decide +kernel
theorem dX8_scoreAmong_31 : decode cX8_scoreAmong 31 = .ok (.iload_n 1, 1) := by decide +kernel
theorem dX8_scoreAmong_32 : decode cX8_scoreAmong 32 = .ok (.invokevirtual 59, 3) := by decide +kernel
theorem dX8_scoreAmong_35 : decode cX8_scoreAmong 35 = .ok (.imul, 1) := by decide +kernel
theorem dX8_scoreAmong_36 : decode cX8_scoreAmong 36 = .ok (.aload_n 0, 1) := by decide +kernel
theorem dX8_scoreAmong_37 : decode cX8_scoreAmong 37 = .ok (.getfield 37, 3) := by decide +kernel
theorem dX8_scoreAmong_40 : decode cX8_scoreAmong 40 = .ok (.iload_n 2, 1) := by decide +kernel
theorem dX8_scoreAmong_41 : decode cX8_scoreAmong 41 = .ok (.invokevirtual 63, 3) := by decide +kernel
theorem dX8_scoreAmong_44 : decode cX8_scoreAmong 44 = .ok (.imul, 1) := by decide +kernel
theorem dX8_scoreAmong_45 : decode cX8_scoreAmong 45 = .ok (.istore 5, 2) := by decide +kernel
theorem dX8_scoreAmong_47 : decode cX8_scoreAmong 47 = .ok (.aload_n 0, 1) := by decide +kernel
theorem dX8_scoreAmong_48 : decode cX8_scoreAmong 48 = .ok (.getfield 37, 3) := by decide +kernel
theorem dX8_scoreAmong_51 : decode cX8_scoreAmong 51 = .ok (.invokevirtual 68, 3) := by decide +kernel
theorem dX8_scoreAmong_54 : decode cX8_scoreAmong 54 = .ok (.istore 6, 2) := by decide +kernel
theorem dX8_scoreAmong_56 : decode cX8_scoreAmong 56 = .ok (.iload 6, 2) := by decide +kernel
theorem dX8_scoreAmong_58 : decode cX8_scoreAmong 58 = .ok (.iconst 1, 1) := by decide +kernel
theorem dX8_scoreAmong_59 : decode cX8_scoreAmong 59 = .ok (.if_icmp .ge 8, 3) := by decide +kernel
theorem dX8_scoreAmong_62 : decode cX8_scoreAmong 62 = .ok (.iload 4, 2) := by decide +kernel
theorem dX8_scoreAmong_64 : decode cX8_scoreAmong 64 = .ok (.goto 11, 3) := by decide +kernel
theorem dX8_scoreAmong_67 : decode cX8_scoreAmong 67 = .ok (.iload 4, 2) := by decide +kernel
theorem dX8_scoreAmong_69 : decode cX8_scoreAmong 69 = .ok (.iload 5, 2) := by decide +kernel
theorem dX8_scoreAmong_71 : decode cX8_scoreAmong 71 = .ok (.iload 6, 2) := by decide +kernel
theorem dX8_scoreAmong_73 : decode cX8_scoreAmong 73 = .ok (.idiv, 1) := by decide +kernel
theorem dX8_scoreAmong_74 : decode cX8_scoreAmong 74 = .ok (.isub, 1) := by decide +kernel
theorem dX8_scoreAmong_75 : decode cX8_scoreAmong 75 = .ok (.ireturn, 1) := by decide +kernel
def fX8_scoreAmong_23 (M : jw_M) (x1 : Int) (x2 : Int) (xs0 : Int) : Option Int :=
  Option.bind (some xs0) (fun v1 => Option.bind (fX10_lossOf 17 x1 M) (fun v2 => Option.bind (fX1_fearedAbove 30 x2 M) (fun v3 => Option.bind (some (jw_w ((jw_w (10 * v2)) * v3))) (fun v4 => Option.bind (fX1_fearedBelow 30 M) (fun v5 => Option.bind (some v5) (fun v6 => if v6 < 1 then (some v1) else (if v6 ≠ 0 then some (jw_w (v1 - (jw_w (Int.tdiv v4 v6)))) else none)))))))
set_option maxRecDepth 100000 in
theorem pX8_scoreAmong_23 (G : jw_G) (M : jw_M) : ∀ (x1 : Int) (x2 : Int) (xs0 : Int) (hx1 : jw_r x1) (hx2 : jw_r x2) (hxs0 : jw_r xs0), jw_Rn G YX8_scoreAmong 2 0 0 true (fun v => (v, M)) 23 [(0, jR G 119), (1, jI x1), (2, jI x2)] [jI xs0] M (fX8_scoreAmong_23 M x1 x2 xs0) := by
  intro x1 x2 xs0 hx1 hx2 hxs0
  unfold fX8_scoreAmong_23
  refine jw_istoreL (pc := 23) (lv' := (fun y => [(4, y), (0, jR G 119), (1, jI x1), (2, jI x2)])) dX8_scoreAmong_23 hxs0 (by decide) (fun _ => rfl) (fun v1 hv1 => ?_)
  refine jw_bipush (pc := 25) dX8_scoreAmong_25 rfl ?_
  refine jw_aloadR (pc := 27) 1 dX8_scoreAmong_27 rfl ?_
  refine jw_getR (pc := 28) (j := 1) rfl dX8_scoreAmong_28 jv_8 ji_8 (Or.inl jt_301) jg_119 jl_119 (by decide) (by decide) rfl jf_8_1 ?_
  refine jw_iload_n (pc := 31) 2 dX8_scoreAmong_31 rfl ?_
  refine jw_callVi (pc := 32) (As := [jI x1]) (st := [jI 10]) dX8_scoreAmong_32 rfl (Nat.le_of_ble_eq_true rfl) qX10_lossOf jt_908 jt_830 jt_831 rfl rfl (Nat.le_of_ble_eq_true rfl) jv_10 rfl jg_17 jl_17 (by decide) (jw_ho jg_17 (by decide)) (kX10_lossOf G 17 x1 hx1 M) (fun v2 hv2 => ?_)
  refine jw_imul (pc := 35) dX8_scoreAmong_35 ?_
  refine jw_aloadR (pc := 36) 1 dX8_scoreAmong_36 rfl ?_
  refine jw_getR (pc := 37) (j := 2) rfl dX8_scoreAmong_37 jv_8 ji_8 (Or.inl jt_302) jg_119 jl_119 (by decide) (by decide) rfl jf_8_2 ?_
  refine jw_iload_n (pc := 40) 3 dX8_scoreAmong_40 rfl ?_
  refine jw_callVi (pc := 41) (As := [jI x2]) (st := [jI (jw_w (10 * v2))]) dX8_scoreAmong_41 rfl (Nat.le_of_ble_eq_true rfl) qX1_fearedAbove jt_909 jt_880 jt_881 rfl rfl (Nat.le_of_ble_eq_true rfl) jv_1 rfl jg_30 jl_30 (by decide) (jw_ho jg_30 (by decide)) (kX1_fearedAbove G 30 x2 hx2 M) (fun v3 hv3 => ?_)
  refine jw_imul (pc := 44) dX8_scoreAmong_44 ?_
  refine jw_istoreL (pc := 45) (lv' := (fun y => [(5, y), (4, jI v1), (0, jR G 119), (1, jI x1), (2, jI x2)])) dX8_scoreAmong_45 (jw_wr _) (by decide) (fun _ => rfl) (fun v4 hv4 => ?_)
  refine jw_aloadR (pc := 47) 2 dX8_scoreAmong_47 rfl ?_
  refine jw_getR (pc := 48) (j := 2) rfl dX8_scoreAmong_48 jv_8 ji_8 (Or.inl jt_302) jg_119 jl_119 (by decide) (by decide) rfl jf_8_2 ?_
  refine jw_callVi (pc := 51) (As := []) (st := []) dX8_scoreAmong_51 rfl (Nat.le_of_ble_eq_true rfl) qX1_fearedBelow jt_910 jt_884 jt_885 rfl rfl (Nat.le_of_ble_eq_true rfl) jv_1 rfl jg_30 jl_30 (by decide) (jw_ho jg_30 (by decide)) (kX1_fearedBelow G 30 M) (fun v5 hv5 => ?_)
  refine jw_istoreL (pc := 54) (lv' := (fun y => [(6, y), (5, jI v4), (4, jI v1), (0, jR G 119), (1, jI x1), (2, jI x2)])) dX8_scoreAmong_54 hv5 (by decide) (fun _ => rfl) (fun v6 hv6 => ?_)
  refine jw_iload (pc := 56) 0 dX8_scoreAmong_56 rfl ?_
  refine jw_iconst (pc := 58) dX8_scoreAmong_58 ?_
  refine jw_ic_ge (pc := 59) 67 dX8_scoreAmong_59 (by decide) hv6 (jw_rc _ rfl) (fun _ => ?_) (fun _ => ?_)
  · refine jw_iload (pc := 62) 2 dX8_scoreAmong_62 rfl ?_
    refine jw_goto (pc := 64) 75 dX8_scoreAmong_64 (by decide) ?_
    exact jw_ret (pc := 75) (v := v1) dX8_scoreAmong_75 hv1 rfl rfl
  · refine jw_iload (pc := 67) 2 dX8_scoreAmong_67 rfl ?_
    refine jw_iload (pc := 69) 1 dX8_scoreAmong_69 rfl ?_
    refine jw_iload (pc := 71) 0 dX8_scoreAmong_71 rfl ?_
    refine jw_idiv (pc := 73) dX8_scoreAmong_73 hv4 hv6 ?_
    refine jw_isub (pc := 74) dX8_scoreAmong_74 ?_
    exact jw_ret (pc := 75) (v := jw_w (v1 - (jw_w (Int.tdiv v4 v6)))) dX8_scoreAmong_75 (jw_wr _) rfl rfl
def fX8_scoreAmong (a1 : Int) (a2 : Int) (a3 : Int) (M : jw_M) : Option Int :=
  if a3 < 1 then (fX8_scoreAmong_23 M a1 a2 0) else (if 0 ≤ a2 ∧ a2 < 7 then if a3 ≠ 0 then fX8_scoreAmong_23 M a1 a2 (jw_w (Int.tdiv (jw_w (60 * (M (10 + 1) a2))) a3)) else none else none)
set_option maxRecDepth 100000 in
theorem rX8_scoreAmong (G : jw_G) (a1 : Int) (a2 : Int) (a3 : Int) (ha1 : jw_r a1) (ha2 : jw_r a2) (ha3 : jw_r a3) (M : jw_M) : jw_Rn G YX8_scoreAmong 2 0 0 true (fun v => (v, M)) 0 [(0, jR G 119), (1, jI a1), (2, jI a2), (3, jI a3)] [] M (fX8_scoreAmong a1 a2 a3 M) := by
  unfold fX8_scoreAmong
  refine jw_iload_n (pc := 0) 3 dX8_scoreAmong_0 rfl ?_
  refine jw_iconst (pc := 1) dX8_scoreAmong_1 ?_
  refine jw_ic_ge (pc := 2) 9 dX8_scoreAmong_2 (by decide) ha3 (jw_rc _ rfl) (fun _ => ?_) (fun _ => ?_)
  · refine jw_iconst (pc := 5) dX8_scoreAmong_5 ?_
    refine jw_goto (pc := 6) 23 dX8_scoreAmong_6 (by decide) ?_
    exact jw_few [0, 1, 2] rfl (pX8_scoreAmong_23 G M a1 a2 0 ha1 ha2 (jw_rc _ rfl))
  · refine jw_bipush (pc := 9) dX8_scoreAmong_9 rfl ?_
    refine jw_aloadR (pc := 11) 0 dX8_scoreAmong_11 rfl ?_
    refine jw_getR (pc := 12) (j := 0) rfl dX8_scoreAmong_12 jv_8 ji_8 (Or.inl jt_300) jg_119 jl_119 (by decide) (by decide) rfl jf_8_0 ?_
    refine jw_getR (pc := 15) (j := 1) rfl dX8_scoreAmong_15 jv_9 ji_9 (Or.inr ⟨_, jt_100⟩) jg_10 jl_10 (by decide) (by decide) rfl (jf_9_1 jg_10).1 ?_
    refine jw_iload_n (pc := 18) 2 dX8_scoreAmong_18 rfl ?_
    refine jw_iald (pc := 19) dX8_scoreAmong_19 (jf_9_1 jg_10).2.1 (jf_9_1 jg_10).2.2 (jw_ho (jf_9_1 jg_10).2.1 (by decide)) ha2 rfl (fun h7 => ?_)
    refine jw_imul (pc := 20) dX8_scoreAmong_20 ?_
    refine jw_iload_n (pc := 21) 3 dX8_scoreAmong_21 rfl ?_
    refine jw_idiv (pc := 22) dX8_scoreAmong_22 (jw_wr _) ha3 ?_
    exact jw_few [0, 1, 2] rfl (pX8_scoreAmong_23 G M a1 a2 (jw_w (Int.tdiv (jw_w (60 * (M (10 + 1) a2))) a3)) ha1 ha2 (jw_wr _))
theorem kX8_scoreAmong (G : jw_G) (a1 : Int) (a2 : Int) (a3 : Int) (ha1 : jw_r a1) (ha2 : jw_r a2) (ha3 : jw_r a3) (M : jw_M) : jw_Ct G YX8_scoreAmong (some .int) 2 0 0 true (fun v => (v, M)) yX8_scoreAmong [jR G 119, jI a1, jI a2, jI a3] M (fX8_scoreAmong a1 a2 a3 M) := jw_met (by decide) rfl rfl rfl (Nat.le_of_ble_eq_true rfl) (rX8_scoreAmong G a1 a2 a3 ha1 ha2 ha3 M)
abbrev YX8_scoreAt : jw_Y := (RX8, cX8_scoreAt, 5, 1, "scoreAt")
theorem qX8_scoreAt : jw_cy YX8_scoreAt (some .int) yX8_scoreAt 2 := ⟨by decide, jt_903, jt_11, by decide, by decide +kernel⟩
theorem dX8_scoreAt_0 : decode cX8_scoreAt 0 = .ok (.iconst 1, 1) := by decide +kernel
theorem dX8_scoreAt_1 : decode cX8_scoreAt 1 = .ok (.istore_n 3, 1) := by decide +kernel
theorem dX8_scoreAt_2 : decode cX8_scoreAt 2 = .ok (.iconst 0, 1) := by decide +kernel
theorem dX8_scoreAt_3 : decode cX8_scoreAt 3 = .ok (.istore 4, 2) := by decide +kernel
theorem dX8_scoreAt_5 : decode cX8_scoreAt 5 = .ok (.iload 4, 2) := by decide +kernel
theorem dX8_scoreAt_7 : decode cX8_scoreAt 7 = .ok (.aload_n 0, 1) := by decide +kernel
theorem dX8_scoreAt_8 : decode cX8_scoreAt 8 = .ok (.getfield 32, 3) := by decide +kernel
theorem dX8_scoreAt_11 : decode cX8_scoreAt 11 = .ok (.getfield 38, 3) := by decide +kernel
theorem dX8_scoreAt_14 : decode cX8_scoreAt 14 = .ok (.if_icmp .ge 54, 3) := by decide +kernel
theorem dX8_scoreAt_17 : decode cX8_scoreAt 17 = .ok (.iload 4, 2) := by decide +kernel
theorem dX8_scoreAt_19 : decode cX8_scoreAt 19 = .ok (.iload_n 1, 1) := by decide +kernel
theorem dX8_scoreAt_20 : decode cX8_scoreAt 20 = .ok (.if_icmp .eq 42, 3) := by decide +kernel
theorem dX8_scoreAt_23 : decode cX8_scoreAt 23 = .ok (.aload_n 0, 1) := by decide +kernel
theorem dX8_scoreAt_24 : decode cX8_scoreAt 24 = .ok (.getfield 32, 3) := by decide +kernel
theorem dX8_scoreAt_27 : decode cX8_scoreAt 27 = .ok (.getfield 44, 3) := by decide +kernel
theorem dX8_scoreAt_30 : decode cX8_scoreAt 30 = .ok (.iload 4, 2) := by decide +kernel
theorem dX8_scoreAt_32 : decode cX8_scoreAt 32 = .ok (.iaload, 1) := by decide +kernel
theorem dX8_scoreAt_33 : decode cX8_scoreAt 33 = .ok (.aload_n 0, 1) := by decide +kernel
theorem dX8_scoreAt_34 : decode cX8_scoreAt 34 = .ok (.getfield 32, 3) := by decide +kernel
theorem dX8_scoreAt_37 : decode cX8_scoreAt 37 = .ok (.getfield 44, 3) := by decide +kernel
theorem dX8_scoreAt_40 : decode cX8_scoreAt 40 = .ok (.iload_n 1, 1) := by decide +kernel
theorem dX8_scoreAt_41 : decode cX8_scoreAt 41 = .ok (.iaload, 1) := by decide +kernel
theorem dX8_scoreAt_42 : decode cX8_scoreAt 42 = .ok (.if_icmp .ne 20, 3) := by decide +kernel
theorem dX8_scoreAt_45 : decode cX8_scoreAt 45 = .ok (.aload_n 0, 1) := by decide +kernel
theorem dX8_scoreAt_46 : decode cX8_scoreAt 46 = .ok (.getfield 32, 3) := by decide +kernel
theorem dX8_scoreAt_49 : decode cX8_scoreAt 49 = .ok (.getfield 47, 3) := by decide +kernel
theorem dX8_scoreAt_52 : decode cX8_scoreAt 52 = .ok (.iload 4, 2) := by decide +kernel
theorem dX8_scoreAt_54 : decode cX8_scoreAt 54 = .ok (.iaload, 1) := by decide +kernel
theorem dX8_scoreAt_55 : decode cX8_scoreAt 55 = .ok (.iload_n 2, 1) := by decide +kernel
theorem dX8_scoreAt_56 : decode cX8_scoreAt 56 = .ok (.if_icmp .ne 6, 3) := by decide +kernel
theorem dX8_scoreAt_59 : decode cX8_scoreAt 59 = .ok (.iinc 3 1, 3) := by decide +kernel
theorem dX8_scoreAt_62 : decode cX8_scoreAt 62 = .ok (.iinc 4 1, 3) := by decide +kernel
theorem dX8_scoreAt_65 : decode cX8_scoreAt 65 = .ok (.goto (-60), 3) := by decide +kernel
theorem dX8_scoreAt_68 : decode cX8_scoreAt 68 = .ok (.aload_n 0, 1) := by decide +kernel
theorem dX8_scoreAt_69 : decode cX8_scoreAt 69 = .ok (.iload_n 1, 1) := by decide +kernel
theorem dX8_scoreAt_70 : decode cX8_scoreAt 70 = .ok (.iload_n 2, 1) := by decide +kernel
theorem dX8_scoreAt_71 : decode cX8_scoreAt 71 = .ok (.iload_n 3, 1) := by decide +kernel
theorem dX8_scoreAt_72 : decode cX8_scoreAt 72 = .ok (.invokevirtual 50, 3) := by decide +kernel
theorem dX8_scoreAt_75 : decode cX8_scoreAt 75 = .ok (.ireturn, 1) := by decide +kernel
def fX8_scoreAt_62 (M : jw_M) (r5 : Int → Int → Int → Int → Option Int) (x1 : Int) (x2 : Int) (x3 : Int) (x4 : Int) : Option Int :=
  Option.bind (some (jw_w (x4 + 1))) (fun v4 => r5 x1 x2 x3 v4)
set_option maxRecDepth 100000 in
theorem pX8_scoreAt_62 (G : jw_G) (M : jw_M) (r5 : Int → Int → Int → Int → Option Int) (hr5 : ∀ (x1 : Int) (x2 : Int) (x3 : Int) (x4 : Int) (hx1 : jw_r x1) (hx2 : jw_r x2) (hx3 : jw_r x3) (hx4 : jw_r x4), jw_Rn G YX8_scoreAt 3 0 0 true (fun v => (v, M)) 5 [(0, jR G 119), (1, jI x1), (2, jI x2), (3, jI x3), (4, jI x4)] [] M (r5 x1 x2 x3 x4)) : ∀ (x1 : Int) (x2 : Int) (x3 : Int) (x4 : Int) (hx1 : jw_r x1) (hx2 : jw_r x2) (hx3 : jw_r x3) (hx4 : jw_r x4), jw_Rn G YX8_scoreAt 3 0 0 true (fun v => (v, M)) 62 [(0, jR G 119), (1, jI x1), (2, jI x2), (3, jI x3), (4, jI x4)] [] M (fX8_scoreAt_62 M r5 x1 x2 x3 x4) := by
  intro x1 x2 x3 x4 hx1 hx2 hx3 hx4
  unfold fX8_scoreAt_62
  refine jw_iincL (pc := 62) 4 (lv' := (fun y => [(4, y), (0, jR G 119), (1, jI x1), (2, jI x2), (3, jI x3)])) dX8_scoreAt_62 rfl (Nat.le_of_ble_eq_true rfl) (fun _ => rfl) (fun v4 hv4 => ?_)
  refine jw_goto (pc := 65) 5 dX8_scoreAt_65 (by decide) ?_
  exact jw_few [1, 2, 3, 4, 0] rfl (hr5 x1 x2 x3 v4 hx1 hx2 hx3 hv4)
def fX8_scoreAt_5 (M : jw_M) : Nat → Int → Int → Int → Int → Option Int
  | 0, _, _, _, _ => none
  | k + 1, x1, x2, x3, x4 => if x4 < M 17 4 then (if x4 = x1 then (fX8_scoreAt_62 M (fX8_scoreAt_5 M k) x1 x2 x3 x4) else (if 0 ≤ x4 ∧ x4 < 5 then if 0 ≤ x1 ∧ x1 < 5 then if M (17 + 4) x4 = M (17 + 4) x1 then (if 0 ≤ x4 ∧ x4 < 5 then if M (17 + 5) x4 = x2 then (Option.bind (some (jw_w (x3 + 1))) (fun v8 => fX8_scoreAt_62 M (fX8_scoreAt_5 M k) x1 x2 v8 x4)) else (fX8_scoreAt_62 M (fX8_scoreAt_5 M k) x1 x2 x3 x4) else none) else (fX8_scoreAt_62 M (fX8_scoreAt_5 M k) x1 x2 x3 x4) else none else none)) else (Option.bind (fX8_scoreAmong x1 x2 x3 M) (fun v9 => some v9))
set_option maxRecDepth 100000 in
theorem pX8_scoreAt_5 (G : jw_G) (M : jw_M) : ∀ (k : Nat) (x1 : Int) (x2 : Int) (x3 : Int) (x4 : Int) (hx1 : jw_r x1) (hx2 : jw_r x2) (hx3 : jw_r x3) (hx4 : jw_r x4), jw_Rn G YX8_scoreAt 3 0 0 true (fun v => (v, M)) 5 [(0, jR G 119), (1, jI x1), (2, jI x2), (3, jI x3), (4, jI x4)] [] M (fX8_scoreAt_5 M k x1 x2 x3 x4) := by
  intro k
  induction k with
  | zero =>
    intro x1 x2 x3 x4 hx1 hx2 hx3 hx4
    exact jw_none
  | succ k ih =>
    intro x1 x2 x3 x4 hx1 hx2 hx3 hx4
    rw [fX8_scoreAt_5]
    refine jw_iload (pc := 5) 4 dX8_scoreAt_5 rfl ?_
    refine jw_aloadR (pc := 7) 0 dX8_scoreAt_7 rfl ?_
    refine jw_getR (pc := 8) (j := 1) rfl dX8_scoreAt_8 jv_8 ji_8 (Or.inl jt_301) jg_119 jl_119 (by decide) (by decide) rfl jf_8_1 ?_
    refine jw_getI (pc := 11) (j := 4) rfl dX8_scoreAt_11 jv_10 ji_10 (Or.inr ⟨_, jt_153⟩) jg_17 jl_17 (by decide) (by decide) (jw_ho jg_17 (by decide)) (Or.inl rfl) rfl (fun h3 => ?_)
    refine jw_ic_ge (pc := 14) 68 dX8_scoreAt_14 (by decide) hx4 h3 (fun _ => ?_) (fun _ => ?_)
    · refine jw_iload (pc := 17) 4 dX8_scoreAt_17 rfl ?_
      refine jw_iload_n (pc := 19) 1 dX8_scoreAt_19 rfl ?_
      refine jw_ic_eq (pc := 20) 62 dX8_scoreAt_20 (by decide) hx4 hx1 (fun _ => ?_) (fun _ => ?_)
      · exact jw_few [0, 1, 2, 3, 4] rfl (pX8_scoreAt_62 G M (fX8_scoreAt_5 M k) ih x1 x2 x3 x4 hx1 hx2 hx3 hx4)
      · refine jw_aloadR (pc := 23) 0 dX8_scoreAt_23 rfl ?_
        refine jw_getR (pc := 24) (j := 1) rfl dX8_scoreAt_24 jv_8 ji_8 (Or.inl jt_301) jg_119 jl_119 (by decide) (by decide) rfl jf_8_1 ?_
        refine jw_getR (pc := 27) (j := 5) rfl dX8_scoreAt_27 jv_10 ji_10 (Or.inr ⟨_, jt_157⟩) jg_17 jl_17 (by decide) (by decide) rfl (jf_10_5 jg_17).1 ?_
        refine jw_iload (pc := 30) 4 dX8_scoreAt_30 rfl ?_
        refine jw_iald (pc := 32) dX8_scoreAt_32 (jf_10_5 jg_17).2.1 (jf_10_5 jg_17).2.2 (jw_ho (jf_10_5 jg_17).2.1 (by decide)) hx4 rfl (fun h5 => ?_)
        refine jw_aloadR (pc := 33) 0 dX8_scoreAt_33 rfl ?_
        refine jw_getR (pc := 34) (j := 1) rfl dX8_scoreAt_34 jv_8 ji_8 (Or.inl jt_301) jg_119 jl_119 (by decide) (by decide) rfl jf_8_1 ?_
        refine jw_getR (pc := 37) (j := 5) rfl dX8_scoreAt_37 jv_10 ji_10 (Or.inr ⟨_, jt_157⟩) jg_17 jl_17 (by decide) (by decide) rfl (jf_10_5 jg_17).1 ?_
        refine jw_iload_n (pc := 40) 1 dX8_scoreAt_40 rfl ?_
        refine jw_iald (pc := 41) dX8_scoreAt_41 (jf_10_5 jg_17).2.1 (jf_10_5 jg_17).2.2 (jw_ho (jf_10_5 jg_17).2.1 (by decide)) hx1 rfl (fun h6 => ?_)
        refine jw_ic_ne (pc := 42) 62 dX8_scoreAt_42 (by decide) h5 h6 (fun _ => ?_) (fun _ => ?_)
        · refine jw_aloadR (pc := 45) 0 dX8_scoreAt_45 rfl ?_
          refine jw_getR (pc := 46) (j := 1) rfl dX8_scoreAt_46 jv_8 ji_8 (Or.inl jt_301) jg_119 jl_119 (by decide) (by decide) rfl jf_8_1 ?_
          refine jw_getR (pc := 49) (j := 6) rfl dX8_scoreAt_49 jv_10 ji_10 (Or.inr ⟨_, jt_160⟩) jg_17 jl_17 (by decide) (by decide) rfl (jf_10_6 jg_17).1 ?_
          refine jw_iload (pc := 52) 4 dX8_scoreAt_52 rfl ?_
          refine jw_iald (pc := 54) dX8_scoreAt_54 (jf_10_6 jg_17).2.1 (jf_10_6 jg_17).2.2 (jw_ho (jf_10_6 jg_17).2.1 (by decide)) hx4 rfl (fun h7 => ?_)
          refine jw_iload_n (pc := 55) 2 dX8_scoreAt_55 rfl ?_
          refine jw_ic_ne (pc := 56) 62 dX8_scoreAt_56 (by decide) h7 hx2 (fun _ => ?_) (fun _ => ?_)
          · refine jw_iincL (pc := 59) 3 (lv' := (fun y => [(3, y), (0, jR G 119), (1, jI x1), (2, jI x2), (4, jI x4)])) dX8_scoreAt_59 rfl (Nat.le_of_ble_eq_true rfl) (fun _ => rfl) (fun v8 hv8 => ?_)
            exact jw_few [1, 2, 3, 0, 4] rfl (pX8_scoreAt_62 G M (fX8_scoreAt_5 M k) ih x1 x2 v8 x4 hx1 hx2 hv8 hx4)
          · exact jw_few [0, 1, 2, 3, 4] rfl (pX8_scoreAt_62 G M (fX8_scoreAt_5 M k) ih x1 x2 x3 x4 hx1 hx2 hx3 hx4)
        · exact jw_few [0, 1, 2, 3, 4] rfl (pX8_scoreAt_62 G M (fX8_scoreAt_5 M k) ih x1 x2 x3 x4 hx1 hx2 hx3 hx4)
    · refine jw_aloadR (pc := 68) 0 dX8_scoreAt_68 rfl ?_
      refine jw_iload_n (pc := 69) 1 dX8_scoreAt_69 rfl ?_
      refine jw_iload_n (pc := 70) 2 dX8_scoreAt_70 rfl ?_
      refine jw_iload_n (pc := 71) 3 dX8_scoreAt_71 rfl ?_
      refine jw_callVi (pc := 72) (As := [jI x1, jI x2, jI x3]) (st := []) dX8_scoreAt_72 rfl (Nat.le_of_ble_eq_true rfl) qX8_scoreAmong jt_904 jt_905 jt_906 rfl rfl (Nat.le_of_ble_eq_true rfl) jv_8 rfl jg_119 jl_119 (by decide) (jw_ho jg_119 (by decide)) (kX8_scoreAmong G x1 x2 x3 hx1 hx2 hx3 M) (fun v9 hv9 => ?_)
      exact jw_ret (pc := 75) (v := v9) dX8_scoreAt_75 hv9 rfl rfl
def fX8_scoreAt (a1 : Int) (a2 : Int) (M : jw_M) : Option Int :=
  Option.bind (some 1) (fun v1 => Option.bind (some 0) (fun v2 => fX8_scoreAt_5 M jw_fu a1 a2 v1 v2))
set_option maxRecDepth 100000 in
theorem rX8_scoreAt (G : jw_G) (a1 : Int) (a2 : Int) (ha1 : jw_r a1) (ha2 : jw_r a2) (M : jw_M) : jw_Rn G YX8_scoreAt 3 0 0 true (fun v => (v, M)) 0 [(0, jR G 119), (1, jI a1), (2, jI a2)] [] M (fX8_scoreAt a1 a2 M) := by
  unfold fX8_scoreAt
  refine jw_iconst (pc := 0) dX8_scoreAt_0 ?_
  refine jw_istore_nL (pc := 1) (lv' := (fun y => [(3, y), (0, jR G 119), (1, jI a1), (2, jI a2)])) dX8_scoreAt_1 (jw_rc _ rfl) (by decide) (fun _ => rfl) (fun v1 hv1 => ?_)
  refine jw_iconst (pc := 2) dX8_scoreAt_2 ?_
  refine jw_istoreL (pc := 3) (lv' := (fun y => [(4, y), (3, jI v1), (0, jR G 119), (1, jI a1), (2, jI a2)])) dX8_scoreAt_3 (jw_rc _ rfl) (by decide) (fun _ => rfl) (fun v2 hv2 => ?_)
  exact jw_few [2, 3, 4, 1, 0] rfl (pX8_scoreAt_5 G M jw_fu a1 a2 v1 v2 ha1 ha2 hv1 hv2)
theorem kX8_scoreAt (G : jw_G) (a1 : Int) (a2 : Int) (ha1 : jw_r a1) (ha2 : jw_r a2) (M : jw_M) : jw_Ct G YX8_scoreAt (some .int) 3 0 0 true (fun v => (v, M)) yX8_scoreAt [jR G 119, jI a1, jI a2] M (fX8_scoreAt a1 a2 M) := jw_met (by decide) rfl rfl rfl (Nat.le_of_ble_eq_true rfl) (rX8_scoreAt G a1 a2 ha1 ha2 M)
abbrev YX8_isLawful : jw_Y := (RX8, cX8_isLawful, 5, 4, "isLawful")
theorem qX8_isLawful : jw_cy YX8_isLawful (some .boolean) yX8_isLawful 3 := ⟨by decide, jt_922, jt_11, by decide, by decide +kernel⟩
theorem dX8_isLawful_0 : decode cX8_isLawful 0 = .ok (.iconst 0, 1) := by decide +kernel
theorem dX8_isLawful_1 : decode cX8_isLawful 1 = .ok (.istore 4, 2) := by decide +kernel
theorem dX8_isLawful_3 : decode cX8_isLawful 3 = .ok (.iload 4, 2) := by decide +kernel
theorem dX8_isLawful_5 : decode cX8_isLawful 5 = .ok (.aload_n 0, 1) := by decide +kernel
theorem dX8_isLawful_6 : decode cX8_isLawful 6 = .ok (.getfield 32, 3) := by decide +kernel
theorem dX8_isLawful_9 : decode cX8_isLawful 9 = .ok (.getfield 38, 3) := by decide +kernel
theorem dX8_isLawful_12 : decode cX8_isLawful 12 = .ok (.if_icmp .ge 59, 3) := by decide +kernel
theorem dX8_isLawful_15 : decode cX8_isLawful 15 = .ok (.iload 4, 2) := by decide +kernel
theorem dX8_isLawful_17 : decode cX8_isLawful 17 = .ok (.iload_n 2, 1) := by decide +kernel
theorem dX8_isLawful_18 : decode cX8_isLawful 18 = .ok (.if_icmp .eq 47, 3) := by decide +kernel
theorem dX8_isLawful_21 : decode cX8_isLawful 21 = .ok (.aload_n 0, 1) := by decide +kernel
theorem dX8_isLawful_22 : decode cX8_isLawful 22 = .ok (.getfield 32, 3) := by decide +kernel
theorem dX8_isLawful_25 : decode cX8_isLawful 25 = .ok (.getfield 44, 3) := by decide +kernel
theorem dX8_isLawful_28 : decode cX8_isLawful 28 = .ok (.iload 4, 2) := by decide +kernel
theorem dX8_isLawful_30 : decode cX8_isLawful 30 = .ok (.iaload, 1) := by decide +kernel
theorem dX8_isLawful_31 : decode cX8_isLawful 31 = .ok (.iload_n 1, 1) := by decide +kernel
theorem dX8_isLawful_32 : decode cX8_isLawful 32 = .ok (.if_icmp .ne 33, 3) := by decide +kernel
theorem dX8_isLawful_35 : decode cX8_isLawful 35 = .ok (.aload_n 0, 1) := by decide +kernel
theorem dX8_isLawful_36 : decode cX8_isLawful 36 = .ok (.getfield 27, 3) := by decide +kernel
theorem dX8_isLawful_39 : decode cX8_isLawful 39 = .ok (.aload_n 0, 1) := by decide +kernel
theorem dX8_isLawful_40 : decode cX8_isLawful 40 = .ok (.getfield 32, 3) := by decide +kernel
theorem dX8_isLawful_43 : decode cX8_isLawful 43 = .ok (.getfield 47, 3) := by decide +kernel
theorem dX8_isLawful_46 : decode cX8_isLawful 46 = .ok (.iload 4, 2) := by decide +kernel
theorem dX8_isLawful_48 : decode cX8_isLawful 48 = .ok (.iaload, 1) := by decide +kernel
theorem dX8_isLawful_49 : decode cX8_isLawful 49 = .ok (.iload_n 3, 1) := by decide +kernel
theorem dX8_isLawful_50 : decode cX8_isLawful 50 = .ok (.invokevirtual 72, 3) := by decide +kernel
theorem dX8_isLawful_53 : decode cX8_isLawful 53 = .ok (.aload_n 0, 1) := by decide +kernel
theorem dX8_isLawful_54 : decode cX8_isLawful 54 = .ok (.getfield 27, 3) := by decide +kernel
theorem dX8_isLawful_57 : decode cX8_isLawful 57 = .ok (.getfield 76, 3) := by decide +kernel
theorem dX8_isLawful_60 : decode cX8_isLawful 60 = .ok (.if_icmp .ge 5, 3) := by decide +kernel
theorem dX8_isLawful_63 : decode cX8_isLawful 63 = .ok (.iconst 0, 1) := by decide +kernel
theorem dX8_isLawful_64 : decode cX8_isLawful 64 = .ok (.ireturn, 1) := by decide +kernel
theorem dX8_isLawful_65 : decode cX8_isLawful 65 = .ok (.iinc 4 1, 3) := by decide +kernel
theorem dX8_isLawful_68 : decode cX8_isLawful 68 = .ok (.goto (-65), 3) := by decide +kernel
theorem dX8_isLawful_71 : decode cX8_isLawful 71 = .ok (.iconst 1, 1) := by decide +kernel
theorem dX8_isLawful_72 : decode cX8_isLawful 72 = .ok (.ireturn, 1) := by decide +kernel
def fX8_isLawful_65 (M : jw_M) (r3 : Int → Int → Int → Int → Option Int) (x1 : Int) (x2 : Int) (x3 : Int) (x4 : Int) : Option Int :=
  Option.bind (some (jw_w (x4 + 1))) (fun v3 => r3 x1 x2 x3 v3)
set_option maxRecDepth 100000 in
theorem pX8_isLawful_65 (G : jw_G) (M : jw_M) (r3 : Int → Int → Int → Int → Option Int) (hr3 : ∀ (x1 : Int) (x2 : Int) (x3 : Int) (x4 : Int) (hx1 : jw_r x1) (hx2 : jw_r x2) (hx3 : jw_r x3) (hx4 : jw_r x4), jw_Rn G YX8_isLawful 2 0 0 true (fun v => (v, M)) 3 [(0, jR G 119), (1, jI x1), (2, jI x2), (3, jI x3), (4, jI x4)] [] M (r3 x1 x2 x3 x4)) : ∀ (x1 : Int) (x2 : Int) (x3 : Int) (x4 : Int) (hx1 : jw_r x1) (hx2 : jw_r x2) (hx3 : jw_r x3) (hx4 : jw_r x4), jw_Rn G YX8_isLawful 2 0 0 true (fun v => (v, M)) 65 [(0, jR G 119), (1, jI x1), (2, jI x2), (3, jI x3), (4, jI x4)] [] M (fX8_isLawful_65 M r3 x1 x2 x3 x4) := by
  intro x1 x2 x3 x4 hx1 hx2 hx3 hx4
  unfold fX8_isLawful_65
  refine jw_iincL (pc := 65) 4 (lv' := (fun y => [(4, y), (0, jR G 119), (1, jI x1), (2, jI x2), (3, jI x3)])) dX8_isLawful_65 rfl (Nat.le_of_ble_eq_true rfl) (fun _ => rfl) (fun v3 hv3 => ?_)
  refine jw_goto (pc := 68) 3 dX8_isLawful_68 (by decide) ?_
  exact jw_few [1, 2, 3, 4, 0] rfl (hr3 x1 x2 x3 v3 hx1 hx2 hx3 hv3)
def fX8_isLawful_3 (M : jw_M) : Nat → Int → Int → Int → Int → Option Int
  | 0, _, _, _, _ => none
  | k + 1, x1, x2, x3, x4 => if x4 < M 17 4 then (if x4 = x2 then (fX8_isLawful_65 M (fX8_isLawful_3 M k) x1 x2 x3 x4) else (if 0 ≤ x4 ∧ x4 < 5 then if M (17 + 4) x4 = x1 then (if 0 ≤ x4 ∧ x4 < 5 then Option.bind (fX9_walkTo 10 (M (17 + 5) x4) x3 M) (fun v6 => if v6 < M 10 8 then (some 0) else (fX8_isLawful_65 M (fX8_isLawful_3 M k) x1 x2 x3 x4)) else none) else (fX8_isLawful_65 M (fX8_isLawful_3 M k) x1 x2 x3 x4) else none)) else (some 1)
set_option maxRecDepth 100000 in
theorem pX8_isLawful_3 (G : jw_G) (M : jw_M) : ∀ (k : Nat) (x1 : Int) (x2 : Int) (x3 : Int) (x4 : Int) (hx1 : jw_r x1) (hx2 : jw_r x2) (hx3 : jw_r x3) (hx4 : jw_r x4), jw_Rn G YX8_isLawful 2 0 0 true (fun v => (v, M)) 3 [(0, jR G 119), (1, jI x1), (2, jI x2), (3, jI x3), (4, jI x4)] [] M (fX8_isLawful_3 M k x1 x2 x3 x4) := by
  intro k
  induction k with
  | zero =>
    intro x1 x2 x3 x4 hx1 hx2 hx3 hx4
    exact jw_none
  | succ k ih =>
    intro x1 x2 x3 x4 hx1 hx2 hx3 hx4
    rw [fX8_isLawful_3]
    refine jw_iload (pc := 3) 4 dX8_isLawful_3 rfl ?_
    refine jw_aloadR (pc := 5) 0 dX8_isLawful_5 rfl ?_
    refine jw_getR (pc := 6) (j := 1) rfl dX8_isLawful_6 jv_8 ji_8 (Or.inl jt_301) jg_119 jl_119 (by decide) (by decide) rfl jf_8_1 ?_
    refine jw_getI (pc := 9) (j := 4) rfl dX8_isLawful_9 jv_10 ji_10 (Or.inr ⟨_, jt_153⟩) jg_17 jl_17 (by decide) (by decide) (jw_ho jg_17 (by decide)) (Or.inl rfl) rfl (fun h2 => ?_)
    refine jw_ic_ge (pc := 12) 71 dX8_isLawful_12 (by decide) hx4 h2 (fun _ => ?_) (fun _ => ?_)
    · refine jw_iload (pc := 15) 4 dX8_isLawful_15 rfl ?_
      refine jw_iload_n (pc := 17) 2 dX8_isLawful_17 rfl ?_
      refine jw_ic_eq (pc := 18) 65 dX8_isLawful_18 (by decide) hx4 hx2 (fun _ => ?_) (fun _ => ?_)
      · exact jw_few [0, 1, 2, 3, 4] rfl (pX8_isLawful_65 G M (fX8_isLawful_3 M k) ih x1 x2 x3 x4 hx1 hx2 hx3 hx4)
      · refine jw_aloadR (pc := 21) 0 dX8_isLawful_21 rfl ?_
        refine jw_getR (pc := 22) (j := 1) rfl dX8_isLawful_22 jv_8 ji_8 (Or.inl jt_301) jg_119 jl_119 (by decide) (by decide) rfl jf_8_1 ?_
        refine jw_getR (pc := 25) (j := 5) rfl dX8_isLawful_25 jv_10 ji_10 (Or.inr ⟨_, jt_157⟩) jg_17 jl_17 (by decide) (by decide) rfl (jf_10_5 jg_17).1 ?_
        refine jw_iload (pc := 28) 4 dX8_isLawful_28 rfl ?_
        refine jw_iald (pc := 30) dX8_isLawful_30 (jf_10_5 jg_17).2.1 (jf_10_5 jg_17).2.2 (jw_ho (jf_10_5 jg_17).2.1 (by decide)) hx4 rfl (fun h4 => ?_)
        refine jw_iload_n (pc := 31) 1 dX8_isLawful_31 rfl ?_
        refine jw_ic_ne (pc := 32) 65 dX8_isLawful_32 (by decide) h4 hx1 (fun _ => ?_) (fun _ => ?_)
        · refine jw_aloadR (pc := 35) 0 dX8_isLawful_35 rfl ?_
          refine jw_getR (pc := 36) (j := 0) rfl dX8_isLawful_36 jv_8 ji_8 (Or.inl jt_300) jg_119 jl_119 (by decide) (by decide) rfl jf_8_0 ?_
          refine jw_aloadR (pc := 39) 0 dX8_isLawful_39 rfl ?_
          refine jw_getR (pc := 40) (j := 1) rfl dX8_isLawful_40 jv_8 ji_8 (Or.inl jt_301) jg_119 jl_119 (by decide) (by decide) rfl jf_8_1 ?_
          refine jw_getR (pc := 43) (j := 6) rfl dX8_isLawful_43 jv_10 ji_10 (Or.inr ⟨_, jt_160⟩) jg_17 jl_17 (by decide) (by decide) rfl (jf_10_6 jg_17).1 ?_
          refine jw_iload (pc := 46) 4 dX8_isLawful_46 rfl ?_
          refine jw_iald (pc := 48) dX8_isLawful_48 (jf_10_6 jg_17).2.1 (jf_10_6 jg_17).2.2 (jw_ho (jf_10_6 jg_17).2.1 (by decide)) hx4 rfl (fun h5 => ?_)
          refine jw_iload_n (pc := 49) 3 dX8_isLawful_49 rfl ?_
          refine jw_callVi (pc := 50) (As := [jI (M (17 + 5) x4), jI x3]) (st := []) dX8_isLawful_50 rfl (Nat.le_of_ble_eq_true rfl) qX9_walkTo jt_923 jt_737 jt_738 rfl rfl (Nat.le_of_ble_eq_true rfl) jv_9 rfl jg_10 jl_10 (by decide) (jw_ho jg_10 (by decide)) (kX9_walkTo G 10 (M (17 + 5) x4) x3 h5 hx3 M) (fun v6 hv6 => ?_)
          refine jw_aloadR (pc := 53) 0 dX8_isLawful_53 rfl ?_
          refine jw_getR (pc := 54) (j := 0) rfl dX8_isLawful_54 jv_8 ji_8 (Or.inl jt_300) jg_119 jl_119 (by decide) (by decide) rfl jf_8_0 ?_
          refine jw_getI (pc := 57) (j := 8) rfl dX8_isLawful_57 jv_9 ji_9 (Or.inr ⟨_, jt_113⟩) jg_10 jl_10 (by decide) (by decide) (jw_ho jg_10 (by decide)) (Or.inl rfl) rfl (fun h7 => ?_)
          refine jw_ic_ge (pc := 60) 65 dX8_isLawful_60 (by decide) hv6 h7 (fun _ => ?_) (fun _ => ?_)
          · refine jw_iconst (pc := 63) dX8_isLawful_63 ?_
            exact jw_ret (pc := 64) (v := 0) dX8_isLawful_64 (Or.inl rfl) rfl rfl
          · exact jw_few [0, 1, 2, 3, 4] rfl (pX8_isLawful_65 G M (fX8_isLawful_3 M k) ih x1 x2 x3 x4 hx1 hx2 hx3 hx4)
        · exact jw_few [0, 1, 2, 3, 4] rfl (pX8_isLawful_65 G M (fX8_isLawful_3 M k) ih x1 x2 x3 x4 hx1 hx2 hx3 hx4)
    · refine jw_iconst (pc := 71) dX8_isLawful_71 ?_
      exact jw_ret (pc := 72) (v := 1) dX8_isLawful_72 (Or.inr rfl) rfl rfl
def fX8_isLawful (a1 : Int) (a2 : Int) (a3 : Int) (M : jw_M) : Option Int :=
  Option.bind (some 0) (fun v1 => fX8_isLawful_3 M jw_fu a1 a2 a3 v1)
set_option maxRecDepth 100000 in
theorem rX8_isLawful (G : jw_G) (a1 : Int) (a2 : Int) (a3 : Int) (ha1 : jw_r a1) (ha2 : jw_r a2) (ha3 : jw_r a3) (M : jw_M) : jw_Rn G YX8_isLawful 2 0 0 true (fun v => (v, M)) 0 [(0, jR G 119), (1, jI a1), (2, jI a2), (3, jI a3)] [] M (fX8_isLawful a1 a2 a3 M) := by
  unfold fX8_isLawful
  refine jw_iconst (pc := 0) dX8_isLawful_0 ?_
  refine jw_istoreL (pc := 1) (lv' := (fun y => [(4, y), (0, jR G 119), (1, jI a1), (2, jI a2), (3, jI a3)])) dX8_isLawful_1 (jw_rc _ rfl) (by decide) (fun _ => rfl) (fun v1 hv1 => ?_)
  exact jw_few [1, 2, 3, 4, 0] rfl (pX8_isLawful_3 G M jw_fu a1 a2 a3 v1 ha1 ha2 ha3 hv1)
theorem kX8_isLawful (G : jw_G) (a1 : Int) (a2 : Int) (a3 : Int) (ha1 : jw_r a1) (ha2 : jw_r a2) (ha3 : jw_r a3) (M : jw_M) : jw_Ct G YX8_isLawful (some .boolean) 2 0 0 true (fun v => (v, M)) yX8_isLawful [jR G 119, jI a1, jI a2, jI a3] M (fX8_isLawful a1 a2 a3 M) := jw_met (by decide) rfl rfl rfl (Nat.le_of_ble_eq_true rfl) (rX8_isLawful G a1 a2 a3 ha1 ha2 ha3 M)
abbrev YX8_lawfulCorners : jw_Y := (RX8, cX8_lawfulCorners, 5, 1, "lawfulCorners")
theorem qX8_lawfulCorners : jw_cy YX8_lawfulCorners (some .int) yX8_lawfulCorners 2 := ⟨by decide, jt_918, jt_11, by decide, by decide +kernel⟩
theorem dX8_lawfulCorners_0 : decode cX8_lawfulCorners 0 = .ok (.iconst 0, 1) := by decide +kernel
theorem dX8_lawfulCorners_1 : decode cX8_lawfulCorners 1 = .ok (.istore_n 3, 1) := by decide +kernel
theorem dX8_lawfulCorners_2 : decode cX8_lawfulCorners 2 = .ok (.iconst 0, 1) := by decide +kernel
theorem dX8_lawfulCorners_3 : decode cX8_lawfulCorners 3 = .ok (.istore 4, 2) := by decide +kernel
theorem dX8_lawfulCorners_5 : decode cX8_lawfulCorners 5 = .ok (.iload 4, 2) := by decide +kernel
theorem dX8_lawfulCorners_7 : decode cX8_lawfulCorners 7 = .ok (.aload_n 0, 1) := by decide +kernel
theorem dX8_lawfulCorners_8 : decode cX8_lawfulCorners 8 = .ok (.getfield 27, 3) := by decide +kernel
theorem dX8_lawfulCorners_11 : decode cX8_lawfulCorners 11 = .ok (.getfield 79, 3) := by decide +kernel
theorem dX8_lawfulCorners_14 : decode cX8_lawfulCorners 14 = .ok (.if_icmp .ge 27, 3) := by decide +kernel
theorem dX8_lawfulCorners_17 : decode cX8_lawfulCorners 17 = .ok (.aload_n 0, 1) := by decide +kernel
theorem dX8_lawfulCorners_18 : decode cX8_lawfulCorners 18 = .ok (.iload_n 1, 1) := by decide +kernel
theorem dX8_lawfulCorners_19 : decode cX8_lawfulCorners 19 = .ok (.iload_n 2, 1) := by decide +kernel
theorem dX8_lawfulCorners_20 : decode cX8_lawfulCorners 20 = .ok (.iload 4, 2) := by decide +kernel
theorem dX8_lawfulCorners_22 : decode cX8_lawfulCorners 22 = .ok (.invokevirtual 82, 3) := by decide +kernel
theorem dX8_lawfulCorners_25 : decode cX8_lawfulCorners 25 = .ok (.ifCond .eq 10, 3) := by decide +kernel
theorem dX8_lawfulCorners_28 : decode cX8_lawfulCorners 28 = .ok (.iload_n 3, 1) := by decide +kernel
theorem dX8_lawfulCorners_29 : decode cX8_lawfulCorners 29 = .ok (.iconst 1, 1) := by decide +kernel
theorem dX8_lawfulCorners_30 : decode cX8_lawfulCorners 30 = .ok (.iload 4, 2) := by decide +kernel
theorem dX8_lawfulCorners_32 : decode cX8_lawfulCorners 32 = .ok (.ishl, 1) := by decide +kernel
theorem dX8_lawfulCorners_33 : decode cX8_lawfulCorners 33 = .ok (.ior, 1) := by decide +kernel
theorem dX8_lawfulCorners_34 : decode cX8_lawfulCorners 34 = .ok (.istore_n 3, 1) := by decide +kernel
theorem dX8_lawfulCorners_35 : decode cX8_lawfulCorners 35 = .ok (.iinc 4 1, 3) := by decide +kernel
theorem dX8_lawfulCorners_38 : decode cX8_lawfulCorners 38 = .ok (.goto (-33), 3) := by decide +kernel
theorem dX8_lawfulCorners_41 : decode cX8_lawfulCorners 41 = .ok (.iload_n 3, 1) := by decide +kernel
theorem dX8_lawfulCorners_42 : decode cX8_lawfulCorners 42 = .ok (.ireturn, 1) := by decide +kernel
def fX8_lawfulCorners_35 (M : jw_M) (r5 : Int → Int → Int → Int → Option Int) (x1 : Int) (x2 : Int) (x3 : Int) (x4 : Int) : Option Int :=
  Option.bind (some (jw_w (x4 + 1))) (fun v5 => r5 x1 x2 x3 v5)
set_option maxRecDepth 100000 in
theorem pX8_lawfulCorners_35 (G : jw_G) (M : jw_M) (r5 : Int → Int → Int → Int → Option Int) (hr5 : ∀ (x1 : Int) (x2 : Int) (x3 : Int) (x4 : Int) (hx1 : jw_r x1) (hx2 : jw_r x2) (hx3 : jw_r x3) (hx4 : jw_r x4), jw_Rn G YX8_lawfulCorners 3 0 0 true (fun v => (v, M)) 5 [(0, jR G 119), (1, jI x1), (2, jI x2), (3, jI x3), (4, jI x4)] [] M (r5 x1 x2 x3 x4)) : ∀ (x1 : Int) (x2 : Int) (x3 : Int) (x4 : Int) (hx1 : jw_r x1) (hx2 : jw_r x2) (hx3 : jw_r x3) (hx4 : jw_r x4), jw_Rn G YX8_lawfulCorners 3 0 0 true (fun v => (v, M)) 35 [(0, jR G 119), (1, jI x1), (2, jI x2), (3, jI x3), (4, jI x4)] [] M (fX8_lawfulCorners_35 M r5 x1 x2 x3 x4) := by
  intro x1 x2 x3 x4 hx1 hx2 hx3 hx4
  unfold fX8_lawfulCorners_35
  refine jw_iincL (pc := 35) 4 (lv' := (fun y => [(4, y), (0, jR G 119), (1, jI x1), (2, jI x2), (3, jI x3)])) dX8_lawfulCorners_35 rfl (Nat.le_of_ble_eq_true rfl) (fun _ => rfl) (fun v5 hv5 => ?_)
  refine jw_goto (pc := 38) 5 dX8_lawfulCorners_38 (by decide) ?_
  exact jw_few [1, 2, 3, 4, 0] rfl (hr5 x1 x2 x3 v5 hx1 hx2 hx3 hv5)
def fX8_lawfulCorners_5 (M : jw_M) : Nat → Int → Int → Int → Int → Option Int
  | 0, _, _, _, _ => none
  | k + 1, x1, x2, x3, x4 => if x4 < M 10 0 then (Option.bind (fX8_isLawful x1 x2 x4 M) (fun v4 => if v4 = 0 then (fX8_lawfulCorners_35 M (fX8_lawfulCorners_5 M k) x1 x2 x3 x4) else (Option.bind (some (jw_ior x3 (jw_ishl 1 x4))) (fun v6 => fX8_lawfulCorners_35 M (fX8_lawfulCorners_5 M k) x1 x2 v6 x4)))) else (some x3)
set_option maxRecDepth 100000 in
theorem pX8_lawfulCorners_5 (G : jw_G) (M : jw_M) : ∀ (k : Nat) (x1 : Int) (x2 : Int) (x3 : Int) (x4 : Int) (hx1 : jw_r x1) (hx2 : jw_r x2) (hx3 : jw_r x3) (hx4 : jw_r x4), jw_Rn G YX8_lawfulCorners 3 0 0 true (fun v => (v, M)) 5 [(0, jR G 119), (1, jI x1), (2, jI x2), (3, jI x3), (4, jI x4)] [] M (fX8_lawfulCorners_5 M k x1 x2 x3 x4) := by
  intro k
  induction k with
  | zero =>
    intro x1 x2 x3 x4 hx1 hx2 hx3 hx4
    exact jw_none
  | succ k ih =>
    intro x1 x2 x3 x4 hx1 hx2 hx3 hx4
    rw [fX8_lawfulCorners_5]
    refine jw_iload (pc := 5) 4 dX8_lawfulCorners_5 rfl ?_
    refine jw_aloadR (pc := 7) 0 dX8_lawfulCorners_7 rfl ?_
    refine jw_getR (pc := 8) (j := 0) rfl dX8_lawfulCorners_8 jv_8 ji_8 (Or.inl jt_300) jg_119 jl_119 (by decide) (by decide) rfl jf_8_0 ?_
    refine jw_getI (pc := 11) (j := 0) rfl dX8_lawfulCorners_11 jv_9 ji_9 (Or.inr ⟨_, jt_95⟩) jg_10 jl_10 (by decide) (by decide) (jw_ho jg_10 (by decide)) (Or.inl rfl) rfl (fun h3 => ?_)
    refine jw_ic_ge (pc := 14) 41 dX8_lawfulCorners_14 (by decide) hx4 h3 (fun _ => ?_) (fun _ => ?_)
    · refine jw_aloadR (pc := 17) 0 dX8_lawfulCorners_17 rfl ?_
      refine jw_iload_n (pc := 18) 1 dX8_lawfulCorners_18 rfl ?_
      refine jw_iload_n (pc := 19) 2 dX8_lawfulCorners_19 rfl ?_
      refine jw_iload (pc := 20) 4 dX8_lawfulCorners_20 rfl ?_
      refine jw_callVz (pc := 22) (As := [jI x1, jI x2, jI x4]) (st := []) dX8_lawfulCorners_22 rfl (Nat.le_of_ble_eq_true rfl) qX8_isLawful jt_919 jt_920 jt_921 rfl rfl (Nat.le_of_ble_eq_true rfl) jv_8 rfl jg_119 jl_119 (by decide) (jw_ho jg_119 (by decide)) (kX8_isLawful G x1 x2 x4 hx1 hx2 hx4 M) (fun v4 hv4 => ?_)
      refine jw_if_eq (pc := 25) 35 dX8_lawfulCorners_25 (by decide) (jw_bz hv4) (fun _ => ?_) (fun _ => ?_)
      · exact jw_few [0, 1, 2, 3, 4] rfl (pX8_lawfulCorners_35 G M (fX8_lawfulCorners_5 M k) ih x1 x2 x3 x4 hx1 hx2 hx3 hx4)
      · refine jw_iload_n (pc := 28) 3 dX8_lawfulCorners_28 rfl ?_
        refine jw_iconst (pc := 29) dX8_lawfulCorners_29 ?_
        refine jw_iload (pc := 30) 4 dX8_lawfulCorners_30 rfl ?_
        refine jw_ishlr (pc := 32) dX8_lawfulCorners_32 ?_
        refine jw_iorr (pc := 33) dX8_lawfulCorners_33 ?_
        refine jw_istore_nL (pc := 34) (lv' := (fun y => [(3, y), (0, jR G 119), (1, jI x1), (2, jI x2), (4, jI x4)])) dX8_lawfulCorners_34 (jw_rI _) (by decide) (fun _ => rfl) (fun v6 hv6 => ?_)
        exact jw_few [1, 2, 3, 0, 4] rfl (pX8_lawfulCorners_35 G M (fX8_lawfulCorners_5 M k) ih x1 x2 v6 x4 hx1 hx2 hv6 hx4)
    · refine jw_iload_n (pc := 41) 3 dX8_lawfulCorners_41 rfl ?_
      exact jw_ret (pc := 42) (v := x3) dX8_lawfulCorners_42 hx3 rfl rfl
def fX8_lawfulCorners (a1 : Int) (a2 : Int) (M : jw_M) : Option Int :=
  Option.bind (some 0) (fun v1 => Option.bind (some 0) (fun v2 => fX8_lawfulCorners_5 M jw_fu a1 a2 v1 v2))
set_option maxRecDepth 100000 in
theorem rX8_lawfulCorners (G : jw_G) (a1 : Int) (a2 : Int) (ha1 : jw_r a1) (ha2 : jw_r a2) (M : jw_M) : jw_Rn G YX8_lawfulCorners 3 0 0 true (fun v => (v, M)) 0 [(0, jR G 119), (1, jI a1), (2, jI a2)] [] M (fX8_lawfulCorners a1 a2 M) := by
  unfold fX8_lawfulCorners
  refine jw_iconst (pc := 0) dX8_lawfulCorners_0 ?_
  refine jw_istore_nL (pc := 1) (lv' := (fun y => [(3, y), (0, jR G 119), (1, jI a1), (2, jI a2)])) dX8_lawfulCorners_1 (jw_rc _ rfl) (by decide) (fun _ => rfl) (fun v1 hv1 => ?_)
  refine jw_iconst (pc := 2) dX8_lawfulCorners_2 ?_
  refine jw_istoreL (pc := 3) (lv' := (fun y => [(4, y), (3, jI v1), (0, jR G 119), (1, jI a1), (2, jI a2)])) dX8_lawfulCorners_3 (jw_rc _ rfl) (by decide) (fun _ => rfl) (fun v2 hv2 => ?_)
  exact jw_few [2, 3, 4, 1, 0] rfl (pX8_lawfulCorners_5 G M jw_fu a1 a2 v1 v2 ha1 ha2 hv1 hv2)
theorem kX8_lawfulCorners (G : jw_G) (a1 : Int) (a2 : Int) (ha1 : jw_r a1) (ha2 : jw_r a2) (M : jw_M) : jw_Ct G YX8_lawfulCorners (some .int) 3 0 0 true (fun v => (v, M)) yX8_lawfulCorners [jR G 119, jI a1, jI a2] M (fX8_lawfulCorners a1 a2 M) := jw_met (by decide) rfl rfl rfl (Nat.le_of_ble_eq_true rfl) (rX8_lawfulCorners G a1 a2 ha1 ha2 M)
abbrev YX8_bestCorner : jw_Y := (RX8, cX8_bestCorner, 6, 1, "bestCorner")
theorem qX8_bestCorner : jw_cy YX8_bestCorner (some .int) yX8_bestCorner 1 := ⟨by decide, jt_943, jt_11, by decide, by decide +kernel⟩
theorem dX8_bestCorner_0 : decode cX8_bestCorner 0 = .ok (.aload_n 0, 1) := by decide +kernel
theorem dX8_bestCorner_1 : decode cX8_bestCorner 1 = .ok (.getfield 32, 3) := by decide +kernel
theorem dX8_bestCorner_4 : decode cX8_bestCorner 4 = .ok (.getfield 47, 3) := by decide +kernel
theorem dX8_bestCorner_7 : decode cX8_bestCorner 7 = .ok (.iload_n 1, 1) := by decide +kernel
theorem dX8_bestCorner_8 : decode cX8_bestCorner 8 = .ok (.iaload, 1) := by decide +kernel
theorem dX8_bestCorner_9 : decode cX8_bestCorner 9 = .ok (.istore_n 2, 1) := by decide +kernel
theorem dX8_bestCorner_10 : decode cX8_bestCorner 10 = .ok (.aload_n 0, 1) := by decide +kernel
theorem dX8_bestCorner_11 : decode cX8_bestCorner 11 = .ok (.iload_n 1, 1) := by decide +kernel
theorem dX8_bestCorner_12 : decode cX8_bestCorner 12 = .ok (.iload_n 2, 1) := by decide +kernel
theorem dX8_bestCorner_13 : decode cX8_bestCorner 13 = .ok (.invokevirtual 94, 3) := by decide +kernel
theorem dX8_bestCorner_16 : decode cX8_bestCorner 16 = .ok (.istore_n 3, 1) := by decide +kernel
theorem dX8_bestCorner_17 : decode cX8_bestCorner 17 = .ok (.iconst 0, 1) := by decide +kernel
theorem dX8_bestCorner_18 : decode cX8_bestCorner 18 = .ok (.istore 4, 2) := by decide +kernel
theorem dX8_bestCorner_20 : decode cX8_bestCorner 20 = .ok (.iload 4, 2) := by decide +kernel
theorem dX8_bestCorner_22 : decode cX8_bestCorner 22 = .ok (.aload_n 0, 1) := by decide +kernel
theorem dX8_bestCorner_23 : decode cX8_bestCorner 23 = .ok (.getfield 27, 3) := by decide +kernel
theorem dX8_bestCorner_26 : decode cX8_bestCorner 26 = .ok (.getfield 79, 3) := by decide +kernel
theorem dX8_bestCorner_29 : decode cX8_bestCorner 29 = .ok (.if_icmp .ge 49, 3) := by decide +kernel
theorem dX8_bestCorner_32 : decode cX8_bestCorner 32 = .ok (.aload_n 0, 1) := by decide +kernel
theorem dX8_bestCorner_33 : decode cX8_bestCorner 33 = .ok (.iload_n 1, 1) := by decide +kernel
theorem dX8_bestCorner_34 : decode cX8_bestCorner 34 = .ok (.iload 4, 2) := by decide +kernel
theorem dX8_bestCorner_36 : decode cX8_bestCorner 36 = .ok (.invokevirtual 94, 3) := by decide +kernel
theorem dX8_bestCorner_39 : decode cX8_bestCorner 39 = .ok (.istore 5, 2) := by decide +kernel
theorem dX8_bestCorner_41 : decode cX8_bestCorner 41 = .ok (.iload 5, 2) := by decide +kernel
theorem dX8_bestCorner_43 : decode cX8_bestCorner 43 = .ok (.iload_n 3, 1) := by decide +kernel
theorem dX8_bestCorner_44 : decode cX8_bestCorner 44 = .ok (.if_icmp .le 28, 3) := by decide +kernel
theorem dX8_bestCorner_47 : decode cX8_bestCorner 47 = .ok (.aload_n 0, 1) := by decide +kernel
theorem dX8_bestCorner_48 : decode cX8_bestCorner 48 = .ok (.aload_n 0, 1) := by decide +kernel
theorem dX8_bestCorner_49 : decode cX8_bestCorner 49 = .ok (.getfield 32, 3) := by decide +kernel
theorem dX8_bestCorner_52 : decode cX8_bestCorner 52 = .ok (.getfield 44, 3) := by decide +kernel
theorem dX8_bestCorner_55 : decode cX8_bestCorner 55 = .ok (.iload_n 1, 1) := by decide +kernel
theorem dX8_bestCorner_56 : decode cX8_bestCorner 56 = .ok (.iaload, 1) := by decide +kernel
theorem dX8_bestCorner_57 : decode cX8_bestCorner 57 = .ok (.iload_n 1, 1) := by decide +kernel
theorem dX8_bestCorner_58 : decode cX8_bestCorner 58 = .ok (.iload 4, 2) := by decide +kernel
theorem dX8_bestCorner_60 : decode cX8_bestCorner 60 = .ok (.invokevirtual 82, 3) := by decide +kernel
theorem dX8_bestCorner_63 : decode cX8_bestCorner 63 = .ok (.ifCond .eq 9, 3) := by decide +kernel
theorem dX8_bestCorner_66 : decode cX8_bestCorner 66 = .ok (.iload 4, 2) := by decide +kernel
theorem dX8_bestCorner_68 : decode cX8_bestCorner 68 = .ok (.istore_n 2, 1) := by decide +kernel
theorem dX8_bestCorner_69 : decode cX8_bestCorner 69 = .ok (.iload 5, 2) := by decide +kernel
theorem dX8_bestCorner_71 : decode cX8_bestCorner 71 = .ok (.istore_n 3, 1) := by decide +kernel
theorem dX8_bestCorner_72 : decode cX8_bestCorner 72 = .ok (.iinc 4 1, 3) := by decide +kernel
theorem dX8_bestCorner_75 : decode cX8_bestCorner 75 = .ok (.goto (-55), 3) := by decide +kernel
theorem dX8_bestCorner_78 : decode cX8_bestCorner 78 = .ok (.iload_n 2, 1) := by decide +kernel
theorem dX8_bestCorner_79 : decode cX8_bestCorner 79 = .ok (.ireturn, 1) := by decide +kernel
def fX8_bestCorner_72 (M : jw_M) (r20 : Int → Int → Int → Int → Option Int) (x1 : Int) (x2 : Int) (x3 : Int) (x4 : Int) : Option Int :=
  Option.bind (some (jw_w (x4 + 1))) (fun v11 => r20 x1 x2 x3 v11)
set_option maxRecDepth 100000 in
theorem pX8_bestCorner_72 (G : jw_G) (M : jw_M) (r20 : Int → Int → Int → Int → Option Int) (hr20 : ∀ (x1 : Int) (x2 : Int) (x3 : Int) (x4 : Int) (hx1 : jw_r x1) (hx2 : jw_r x2) (hx3 : jw_r x3) (hx4 : jw_r x4), jw_Rn G YX8_bestCorner 4 0 0 true (fun v => (v, M)) 20 [(0, jR G 119), (1, jI x1), (2, jI x2), (3, jI x3), (4, jI x4)] [] M (r20 x1 x2 x3 x4)) : ∀ (x1 : Int) (x2 : Int) (x3 : Int) (x4 : Int) (hx1 : jw_r x1) (hx2 : jw_r x2) (hx3 : jw_r x3) (hx4 : jw_r x4), jw_Rn G YX8_bestCorner 4 0 0 true (fun v => (v, M)) 72 [(0, jR G 119), (1, jI x1), (2, jI x2), (3, jI x3), (4, jI x4)] [] M (fX8_bestCorner_72 M r20 x1 x2 x3 x4) := by
  intro x1 x2 x3 x4 hx1 hx2 hx3 hx4
  unfold fX8_bestCorner_72
  refine jw_iincL (pc := 72) 4 (lv' := (fun y => [(4, y), (0, jR G 119), (1, jI x1), (2, jI x2), (3, jI x3)])) dX8_bestCorner_72 rfl (Nat.le_of_ble_eq_true rfl) (fun _ => rfl) (fun v11 hv11 => ?_)
  refine jw_goto (pc := 75) 20 dX8_bestCorner_75 (by decide) ?_
  exact jw_few [1, 2, 3, 4, 0] rfl (hr20 x1 x2 x3 v11 hx1 hx2 hx3 hv11)
def fX8_bestCorner_20 (M : jw_M) : Nat → Int → Int → Int → Int → Option Int
  | 0, _, _, _, _ => none
  | k + 1, x1, x2, x3, x4 => if x4 < M 10 0 then (Option.bind (fX8_scoreAt x1 x4 M) (fun v7 => Option.bind (some v7) (fun v8 => if x3 < v8 then (if 0 ≤ x1 ∧ x1 < 5 then Option.bind (fX8_isLawful (M (17 + 4) x1) x1 x4 M) (fun v10 => if v10 = 0 then (fX8_bestCorner_72 M (fX8_bestCorner_20 M k) x1 x2 x3 x4) else (Option.bind (some x4) (fun v12 => Option.bind (some v8) (fun v13 => fX8_bestCorner_72 M (fX8_bestCorner_20 M k) x1 v12 v13 x4)))) else none) else (fX8_bestCorner_72 M (fX8_bestCorner_20 M k) x1 x2 x3 x4)))) else (some x2)
set_option maxRecDepth 100000 in
theorem pX8_bestCorner_20 (G : jw_G) (M : jw_M) : ∀ (k : Nat) (x1 : Int) (x2 : Int) (x3 : Int) (x4 : Int) (hx1 : jw_r x1) (hx2 : jw_r x2) (hx3 : jw_r x3) (hx4 : jw_r x4), jw_Rn G YX8_bestCorner 4 0 0 true (fun v => (v, M)) 20 [(0, jR G 119), (1, jI x1), (2, jI x2), (3, jI x3), (4, jI x4)] [] M (fX8_bestCorner_20 M k x1 x2 x3 x4) := by
  intro k
  induction k with
  | zero =>
    intro x1 x2 x3 x4 hx1 hx2 hx3 hx4
    exact jw_none
  | succ k ih =>
    intro x1 x2 x3 x4 hx1 hx2 hx3 hx4
    rw [fX8_bestCorner_20]
    refine jw_iload (pc := 20) 4 dX8_bestCorner_20 rfl ?_
    refine jw_aloadR (pc := 22) 0 dX8_bestCorner_22 rfl ?_
    refine jw_getR (pc := 23) (j := 0) rfl dX8_bestCorner_23 jv_8 ji_8 (Or.inl jt_300) jg_119 jl_119 (by decide) (by decide) rfl jf_8_0 ?_
    refine jw_getI (pc := 26) (j := 0) rfl dX8_bestCorner_26 jv_9 ji_9 (Or.inr ⟨_, jt_95⟩) jg_10 jl_10 (by decide) (by decide) (jw_ho jg_10 (by decide)) (Or.inl rfl) rfl (fun h6 => ?_)
    refine jw_ic_ge (pc := 29) 78 dX8_bestCorner_29 (by decide) hx4 h6 (fun _ => ?_) (fun _ => ?_)
    · refine jw_aloadR (pc := 32) 0 dX8_bestCorner_32 rfl ?_
      refine jw_iload_n (pc := 33) 1 dX8_bestCorner_33 rfl ?_
      refine jw_iload (pc := 34) 4 dX8_bestCorner_34 rfl ?_
      refine jw_callVi (pc := 36) (As := [jI x1, jI x4]) (st := []) dX8_bestCorner_36 rfl (Nat.le_of_ble_eq_true rfl) qX8_scoreAt jt_944 jt_901 jt_902 rfl rfl (Nat.le_of_ble_eq_true rfl) jv_8 rfl jg_119 jl_119 (by decide) (jw_ho jg_119 (by decide)) (kX8_scoreAt G x1 x4 hx1 hx4 M) (fun v7 hv7 => ?_)
      refine jw_istoreL (pc := 39) (lv' := (fun y => [(5, y), (0, jR G 119), (1, jI x1), (2, jI x2), (3, jI x3), (4, jI x4)])) dX8_bestCorner_39 hv7 (by decide) (fun _ => rfl) (fun v8 hv8 => ?_)
      refine jw_iload (pc := 41) 0 dX8_bestCorner_41 rfl ?_
      refine jw_iload_n (pc := 43) 4 dX8_bestCorner_43 rfl ?_
      refine jw_ic_le (pc := 44) 72 dX8_bestCorner_44 (by decide) hv8 hx3 (fun _ => ?_) (fun _ => ?_)
      · refine jw_aloadR (pc := 47) 1 dX8_bestCorner_47 rfl ?_
        refine jw_aloadR (pc := 48) 1 dX8_bestCorner_48 rfl ?_
        refine jw_getR (pc := 49) (j := 1) rfl dX8_bestCorner_49 jv_8 ji_8 (Or.inl jt_301) jg_119 jl_119 (by decide) (by decide) rfl jf_8_1 ?_
        refine jw_getR (pc := 52) (j := 5) rfl dX8_bestCorner_52 jv_10 ji_10 (Or.inr ⟨_, jt_157⟩) jg_17 jl_17 (by decide) (by decide) rfl (jf_10_5 jg_17).1 ?_
        refine jw_iload_n (pc := 55) 2 dX8_bestCorner_55 rfl ?_
        refine jw_iald (pc := 56) dX8_bestCorner_56 (jf_10_5 jg_17).2.1 (jf_10_5 jg_17).2.2 (jw_ho (jf_10_5 jg_17).2.1 (by decide)) hx1 rfl (fun h9 => ?_)
        refine jw_iload_n (pc := 57) 2 dX8_bestCorner_57 rfl ?_
        refine jw_iload (pc := 58) 5 dX8_bestCorner_58 rfl ?_
        refine jw_callVz (pc := 60) (As := [jI (M (17 + 4) x1), jI x1, jI x4]) (st := []) dX8_bestCorner_60 rfl (Nat.le_of_ble_eq_true rfl) qX8_isLawful jt_919 jt_920 jt_921 rfl rfl (Nat.le_of_ble_eq_true rfl) jv_8 rfl jg_119 jl_119 (by decide) (jw_ho jg_119 (by decide)) (kX8_isLawful G (M (17 + 4) x1) x1 x4 h9 hx1 hx4 M) (fun v10 hv10 => ?_)
        refine jw_if_eq (pc := 63) 72 dX8_bestCorner_63 (by decide) (jw_bz hv10) (fun _ => ?_) (fun _ => ?_)
        · exact jw_few [1, 2, 3, 4, 5] rfl (pX8_bestCorner_72 G M (fX8_bestCorner_20 M k) ih x1 x2 x3 x4 hx1 hx2 hx3 hx4)
        · refine jw_iload (pc := 66) 5 dX8_bestCorner_66 rfl ?_
          refine jw_istore_nL (pc := 68) (lv' := (fun y => [(2, y), (5, jI v8), (0, jR G 119), (1, jI x1), (3, jI x3), (4, jI x4)])) dX8_bestCorner_68 hx4 (by decide) (fun _ => rfl) (fun v12 hv12 => ?_)
          refine jw_iload (pc := 69) 1 dX8_bestCorner_69 rfl ?_
          refine jw_istore_nL (pc := 71) (lv' := (fun y => [(3, y), (2, jI v12), (5, jI v8), (0, jR G 119), (1, jI x1), (4, jI x4)])) dX8_bestCorner_71 hv8 (by decide) (fun _ => rfl) (fun v13 hv13 => ?_)
          exact jw_few [3, 4, 1, 0, 5] rfl (pX8_bestCorner_72 G M (fX8_bestCorner_20 M k) ih x1 v12 v13 x4 hx1 hv12 hv13 hx4)
      · exact jw_few [1, 2, 3, 4, 5] rfl (pX8_bestCorner_72 G M (fX8_bestCorner_20 M k) ih x1 x2 x3 x4 hx1 hx2 hx3 hx4)
    · refine jw_iload_n (pc := 78) 2 dX8_bestCorner_78 rfl ?_
      exact jw_ret (pc := 79) (v := x2) dX8_bestCorner_79 hx2 rfl rfl
def fX8_bestCorner (a1 : Int) (M : jw_M) : Option Int :=
  if 0 ≤ a1 ∧ a1 < 5 then Option.bind (some (M (17 + 5) a1)) (fun v2 => Option.bind (fX8_scoreAt a1 v2 M) (fun v3 => Option.bind (some v3) (fun v4 => Option.bind (some 0) (fun v5 => fX8_bestCorner_20 M jw_fu a1 v2 v4 v5)))) else none
set_option maxRecDepth 100000 in
theorem rX8_bestCorner (G : jw_G) (a1 : Int) (ha1 : jw_r a1) (M : jw_M) : jw_Rn G YX8_bestCorner 4 0 0 true (fun v => (v, M)) 0 [(0, jR G 119), (1, jI a1)] [] M (fX8_bestCorner a1 M) := by
  unfold fX8_bestCorner
  refine jw_aloadR (pc := 0) 0 dX8_bestCorner_0 rfl ?_
  refine jw_getR (pc := 1) (j := 1) rfl dX8_bestCorner_1 jv_8 ji_8 (Or.inl jt_301) jg_119 jl_119 (by decide) (by decide) rfl jf_8_1 ?_
  refine jw_getR (pc := 4) (j := 6) rfl dX8_bestCorner_4 jv_10 ji_10 (Or.inr ⟨_, jt_160⟩) jg_17 jl_17 (by decide) (by decide) rfl (jf_10_6 jg_17).1 ?_
  refine jw_iload_n (pc := 7) 1 dX8_bestCorner_7 rfl ?_
  refine jw_iald (pc := 8) dX8_bestCorner_8 (jf_10_6 jg_17).2.1 (jf_10_6 jg_17).2.2 (jw_ho (jf_10_6 jg_17).2.1 (by decide)) ha1 rfl (fun h1 => ?_)
  refine jw_istore_nL (pc := 9) (lv' := (fun y => [(2, y), (0, jR G 119), (1, jI a1)])) dX8_bestCorner_9 h1 (by decide) (fun _ => rfl) (fun v2 hv2 => ?_)
  refine jw_aloadR (pc := 10) 1 dX8_bestCorner_10 rfl ?_
  refine jw_iload_n (pc := 11) 2 dX8_bestCorner_11 rfl ?_
  refine jw_iload_n (pc := 12) 0 dX8_bestCorner_12 rfl ?_
  refine jw_callVi (pc := 13) (As := [jI a1, jI v2]) (st := []) dX8_bestCorner_13 rfl (Nat.le_of_ble_eq_true rfl) qX8_scoreAt jt_944 jt_901 jt_902 rfl rfl (Nat.le_of_ble_eq_true rfl) jv_8 rfl jg_119 jl_119 (by decide) (jw_ho jg_119 (by decide)) (kX8_scoreAt G a1 v2 ha1 hv2 M) (fun v3 hv3 => ?_)
  refine jw_istore_nL (pc := 16) (lv' := (fun y => [(3, y), (2, jI v2), (0, jR G 119), (1, jI a1)])) dX8_bestCorner_16 hv3 (by decide) (fun _ => rfl) (fun v4 hv4 => ?_)
  refine jw_iconst (pc := 17) dX8_bestCorner_17 ?_
  refine jw_istoreL (pc := 18) (lv' := (fun y => [(4, y), (3, jI v4), (2, jI v2), (0, jR G 119), (1, jI a1)])) dX8_bestCorner_18 (jw_rc _ rfl) (by decide) (fun _ => rfl) (fun v5 hv5 => ?_)
  exact jw_few [3, 4, 2, 1, 0] rfl (pX8_bestCorner_20 G M jw_fu a1 v2 v4 v5 ha1 hv2 hv4 hv5)
theorem kX8_bestCorner (G : jw_G) (a1 : Int) (ha1 : jw_r a1) (M : jw_M) : jw_Ct G YX8_bestCorner (some .int) 4 0 0 true (fun v => (v, M)) yX8_bestCorner [jR G 119, jI a1] M (fX8_bestCorner a1 M) := jw_met (by decide) rfl rfl rfl (Nat.le_of_ble_eq_true rfl) (rX8_bestCorner G a1 ha1 M)
abbrev YX8_allAtRest : jw_Y := (RX8, cX8_allAtRest, 2, 4, "allAtRest")
theorem qX8_allAtRest : jw_cy YX8_allAtRest (some .boolean) yX8_allAtRest 0 := ⟨by decide, jt_939, jt_11, by decide, by decide +kernel⟩
theorem dX8_allAtRest_0 : decode cX8_allAtRest 0 = .ok (.iconst 0, 1) := by decide +kernel
theorem dX8_allAtRest_1 : decode cX8_allAtRest 1 = .ok (.istore_n 1, 1) := by decide +kernel
theorem dX8_allAtRest_2 : decode cX8_allAtRest 2 = .ok (.iload_n 1, 1) := by decide +kernel
theorem dX8_allAtRest_3 : decode cX8_allAtRest 3 = .ok (.aload_n 0, 1) := by decide +kernel
theorem dX8_allAtRest_4 : decode cX8_allAtRest 4 = .ok (.getfield 32, 3) := by decide +kernel
theorem dX8_allAtRest_7 : decode cX8_allAtRest 7 = .ok (.getfield 38, 3) := by decide +kernel
theorem dX8_allAtRest_10 : decode cX8_allAtRest 10 = .ok (.if_icmp .ge 28, 3) := by decide +kernel
theorem dX8_allAtRest_13 : decode cX8_allAtRest 13 = .ok (.aload_n 0, 1) := by decide +kernel
theorem dX8_allAtRest_14 : decode cX8_allAtRest 14 = .ok (.iload_n 1, 1) := by decide +kernel
theorem dX8_allAtRest_15 : decode cX8_allAtRest 15 = .ok (.invokevirtual 86, 3) := by decide +kernel
theorem dX8_allAtRest_18 : decode cX8_allAtRest 18 = .ok (.aload_n 0, 1) := by decide +kernel
theorem dX8_allAtRest_19 : decode cX8_allAtRest 19 = .ok (.getfield 32, 3) := by decide +kernel
theorem dX8_allAtRest_22 : decode cX8_allAtRest 22 = .ok (.getfield 47, 3) := by decide +kernel
theorem dX8_allAtRest_25 : decode cX8_allAtRest 25 = .ok (.iload_n 1, 1) := by decide +kernel
theorem dX8_allAtRest_26 : decode cX8_allAtRest 26 = .ok (.iaload, 1) := by decide +kernel
theorem dX8_allAtRest_27 : decode cX8_allAtRest 27 = .ok (.if_icmp .eq 5, 3) := by decide +kernel
theorem dX8_allAtRest_30 : decode cX8_allAtRest 30 = .ok (.iconst 0, 1) := by decide +kernel
theorem dX8_allAtRest_31 : decode cX8_allAtRest 31 = .ok (.ireturn, 1) := by decide +kernel
theorem dX8_allAtRest_32 : decode cX8_allAtRest 32 = .ok (.iinc 1 1, 3) := by decide +kernel
theorem dX8_allAtRest_35 : decode cX8_allAtRest 35 = .ok (.goto (-33), 3) := by decide +kernel
theorem dX8_allAtRest_38 : decode cX8_allAtRest 38 = .ok (.iconst 1, 1) := by decide +kernel
theorem dX8_allAtRest_39 : decode cX8_allAtRest 39 = .ok (.ireturn, 1) := by decide +kernel
def fX8_allAtRest_2 (M : jw_M) : Nat → Int → Option Int
  | 0, _ => none
  | k + 1, x1 => if x1 < M 17 4 then (Option.bind (fX8_bestCorner x1 M) (fun v3 => if 0 ≤ x1 ∧ x1 < 5 then if v3 = M (17 + 5) x1 then (Option.bind (some (jw_w (x1 + 1))) (fun v5 => fX8_allAtRest_2 M k v5)) else (some 0) else none)) else (some 1)
set_option maxRecDepth 100000 in
theorem pX8_allAtRest_2 (G : jw_G) (M : jw_M) : ∀ (k : Nat) (x1 : Int) (hx1 : jw_r x1), jw_Rn G YX8_allAtRest 5 0 0 true (fun v => (v, M)) 2 [(0, jR G 119), (1, jI x1)] [] M (fX8_allAtRest_2 M k x1) := by
  intro k
  induction k with
  | zero =>
    intro x1 hx1
    exact jw_none
  | succ k ih =>
    intro x1 hx1
    rw [fX8_allAtRest_2]
    refine jw_iload_n (pc := 2) 1 dX8_allAtRest_2 rfl ?_
    refine jw_aloadR (pc := 3) 0 dX8_allAtRest_3 rfl ?_
    refine jw_getR (pc := 4) (j := 1) rfl dX8_allAtRest_4 jv_8 ji_8 (Or.inl jt_301) jg_119 jl_119 (by decide) (by decide) rfl jf_8_1 ?_
    refine jw_getI (pc := 7) (j := 4) rfl dX8_allAtRest_7 jv_10 ji_10 (Or.inr ⟨_, jt_153⟩) jg_17 jl_17 (by decide) (by decide) (jw_ho jg_17 (by decide)) (Or.inl rfl) rfl (fun h2 => ?_)
    refine jw_ic_ge (pc := 10) 38 dX8_allAtRest_10 (by decide) hx1 h2 (fun _ => ?_) (fun _ => ?_)
    · refine jw_aloadR (pc := 13) 0 dX8_allAtRest_13 rfl ?_
      refine jw_iload_n (pc := 14) 1 dX8_allAtRest_14 rfl ?_
      refine jw_callVi (pc := 15) (As := [jI x1]) (st := []) dX8_allAtRest_15 rfl (Nat.le_of_ble_eq_true rfl) qX8_bestCorner jt_940 jt_942 jp_19 rfl rfl (Nat.le_of_ble_eq_true rfl) jv_8 rfl jg_119 jl_119 (by decide) (jw_ho jg_119 (by decide)) (kX8_bestCorner G x1 hx1 M) (fun v3 hv3 => ?_)
      refine jw_aloadR (pc := 18) 0 dX8_allAtRest_18 rfl ?_
      refine jw_getR (pc := 19) (j := 1) rfl dX8_allAtRest_19 jv_8 ji_8 (Or.inl jt_301) jg_119 jl_119 (by decide) (by decide) rfl jf_8_1 ?_
      refine jw_getR (pc := 22) (j := 6) rfl dX8_allAtRest_22 jv_10 ji_10 (Or.inr ⟨_, jt_160⟩) jg_17 jl_17 (by decide) (by decide) rfl (jf_10_6 jg_17).1 ?_
      refine jw_iload_n (pc := 25) 1 dX8_allAtRest_25 rfl ?_
      refine jw_iald (pc := 26) dX8_allAtRest_26 (jf_10_6 jg_17).2.1 (jf_10_6 jg_17).2.2 (jw_ho (jf_10_6 jg_17).2.1 (by decide)) hx1 rfl (fun h4 => ?_)
      refine jw_ic_eq (pc := 27) 32 dX8_allAtRest_27 (by decide) hv3 h4 (fun _ => ?_) (fun _ => ?_)
      · refine jw_iincL (pc := 32) 1 (lv' := (fun y => [(1, y), (0, jR G 119)])) dX8_allAtRest_32 rfl (Nat.le_of_ble_eq_true rfl) (fun _ => rfl) (fun v5 hv5 => ?_)
        refine jw_goto (pc := 35) 2 dX8_allAtRest_35 (by decide) ?_
        exact jw_few [1, 0] rfl (ih v5 hv5)
      · refine jw_iconst (pc := 30) dX8_allAtRest_30 ?_
        exact jw_ret (pc := 31) (v := 0) dX8_allAtRest_31 (Or.inl rfl) rfl rfl
    · refine jw_iconst (pc := 38) dX8_allAtRest_38 ?_
      exact jw_ret (pc := 39) (v := 1) dX8_allAtRest_39 (Or.inr rfl) rfl rfl
def fX8_allAtRest (M : jw_M) : Option Int :=
  Option.bind (some 0) (fun v1 => fX8_allAtRest_2 M jw_fu v1)
set_option maxRecDepth 100000 in
theorem rX8_allAtRest (G : jw_G) (M : jw_M) : jw_Rn G YX8_allAtRest 5 0 0 true (fun v => (v, M)) 0 [(0, jR G 119)] [] M (fX8_allAtRest M) := by
  unfold fX8_allAtRest
  refine jw_iconst (pc := 0) dX8_allAtRest_0 ?_
  refine jw_istore_nL (pc := 1) (lv' := (fun y => [(1, y), (0, jR G 119)])) dX8_allAtRest_1 (jw_rc _ rfl) (by decide) (fun _ => rfl) (fun v1 hv1 => ?_)
  exact jw_few [1, 0] rfl (pX8_allAtRest_2 G M jw_fu v1 hv1)
theorem kX8_allAtRest (G : jw_G) (M : jw_M) : jw_Ct G YX8_allAtRest (some .boolean) 5 0 0 true (fun v => (v, M)) yX8_allAtRest [jR G 119] M (fX8_allAtRest M) := jw_met (by decide) rfl rfl rfl (Nat.le_of_ble_eq_true rfl) (rX8_allAtRest G M)
abbrev YX8_moveOnce : jw_Y := (RX8, cX8_moveOnce, 4, 4, "moveOnce")
theorem qX8_moveOnce : jw_cy YX8_moveOnce (some .boolean) yX8_moveOnce 0 := ⟨by decide, jt_956, jt_11, by decide, by decide +kernel⟩
theorem dX8_moveOnce_0 : decode cX8_moveOnce 0 = .ok (.iconst 0, 1) := by decide +kernel
theorem dX8_moveOnce_1 : decode cX8_moveOnce 1 = .ok (.istore_n 1, 1) := by decide +kernel
theorem dX8_moveOnce_2 : decode cX8_moveOnce 2 = .ok (.iconst 0, 1) := by decide +kernel
theorem dX8_moveOnce_3 : decode cX8_moveOnce 3 = .ok (.istore_n 2, 1) := by decide +kernel
theorem dX8_moveOnce_4 : decode cX8_moveOnce 4 = .ok (.iload_n 2, 1) := by decide +kernel
theorem dX8_moveOnce_5 : decode cX8_moveOnce 5 = .ok (.aload_n 0, 1) := by decide +kernel
theorem dX8_moveOnce_6 : decode cX8_moveOnce 6 = .ok (.getfield 32, 3) := by decide +kernel
theorem dX8_moveOnce_9 : decode cX8_moveOnce 9 = .ok (.getfield 38, 3) := by decide +kernel
theorem dX8_moveOnce_12 : decode cX8_moveOnce 12 = .ok (.if_icmp .ge 40, 3) := by decide +kernel
theorem dX8_moveOnce_15 : decode cX8_moveOnce 15 = .ok (.aload_n 0, 1) := by decide +kernel
theorem dX8_moveOnce_16 : decode cX8_moveOnce 16 = .ok (.iload_n 2, 1) := by decide +kernel
theorem dX8_moveOnce_17 : decode cX8_moveOnce 17 = .ok (.invokevirtual 86, 3) := by decide +kernel
theorem dX8_moveOnce_20 : decode cX8_moveOnce 20 = .ok (.istore_n 3, 1) := by decide +kernel
theorem dX8_moveOnce_21 : decode cX8_moveOnce 21 = .ok (.iload_n 3, 1) := by decide +kernel
theorem dX8_moveOnce_22 : decode cX8_moveOnce 22 = .ok (.aload_n 0, 1) := by decide +kernel
theorem dX8_moveOnce_23 : decode cX8_moveOnce 23 = .ok (.getfield 32, 3) := by decide +kernel
theorem dX8_moveOnce_26 : decode cX8_moveOnce 26 = .ok (.getfield 47, 3) := by decide +kernel
theorem dX8_moveOnce_29 : decode cX8_moveOnce 29 = .ok (.iload_n 2, 1) := by decide +kernel
theorem dX8_moveOnce_30 : decode cX8_moveOnce 30 = .ok (.iaload, 1) := by decide +kernel
theorem dX8_moveOnce_31 : decode cX8_moveOnce 31 = .ok (.if_icmp .eq 15, 3) := by decide +kernel
theorem dX8_moveOnce_34 : decode cX8_moveOnce 34 = .ok (.aload_n 0, 1) := by decide +kernel
theorem dX8_moveOnce_35 : decode cX8_moveOnce 35 = .ok (.getfield 32, 3) := by decide +kernel
theorem dX8_moveOnce_38 : decode cX8_moveOnce 38 = .ok (.getfield 47, 3) := by decide +kernel
theorem dX8_moveOnce_41 : decode cX8_moveOnce 41 = .ok (.iload_n 2, 1) := by decide +kernel
theorem dX8_moveOnce_42 : decode cX8_moveOnce 42 = .ok (.iload_n 3, 1) := by decide +kernel
theorem dX8_moveOnce_43 : decode cX8_moveOnce 43 = .ok (.iastore, 1) := by decide +kernel
theorem dX8_moveOnce_44 : decode cX8_moveOnce 44 = .ok (.iconst 1, 1) := by decide +kernel
theorem dX8_moveOnce_45 : decode cX8_moveOnce 45 = .ok (.istore_n 1, 1) := by decide +kernel
theorem dX8_moveOnce_46 : decode cX8_moveOnce 46 = .ok (.iinc 2 1, 3) := by decide +kernel
theorem dX8_moveOnce_49 : decode cX8_moveOnce 49 = .ok (.goto (-45), 3) := by decide +kernel
theorem dX8_moveOnce_52 : decode cX8_moveOnce 52 = .ok (.iload_n 1, 1) := by decide +kernel
theorem dX8_moveOnce_53 : decode cX8_moveOnce 53 = .ok (.ireturn, 1) := by decide +kernel
def fX8_moveOnce_46 (r4 : Int → Int → jw_M → Option (Int × jw_M)) (x1 : Int) (x2 : Int) (M : jw_M) : Option (Int × jw_M) :=
  Option.bind (some (jw_w (x2 + 1))) (fun v7 => r4 x1 v7 M)
set_option maxRecDepth 100000 in
theorem pX8_moveOnce_46 (G : jw_G) (r4 : Int → Int → jw_M → Option (Int × jw_M)) (hr4 : ∀ (x1 : Int) (x2 : Int) (hx1 : jw_r x1) (hx2 : jw_r x2) (M : jw_M), jw_Rn G YX8_moveOnce 5 0 0 true (fun q => q) 4 [(0, jR G 119), (1, jI x1), (2, jI x2)] [] M (r4 x1 x2 M)) : ∀ (x1 : Int) (x2 : Int) (hx1 : jw_r x1) (hx2 : jw_r x2) (M : jw_M), jw_Rn G YX8_moveOnce 5 0 0 true (fun q => q) 46 [(0, jR G 119), (1, jI x1), (2, jI x2)] [] M (fX8_moveOnce_46 r4 x1 x2 M) := by
  intro x1 x2 hx1 hx2 M
  unfold fX8_moveOnce_46
  refine jw_iincL (pc := 46) 2 (lv' := (fun y => [(2, y), (0, jR G 119), (1, jI x1)])) dX8_moveOnce_46 rfl (Nat.le_of_ble_eq_true rfl) (fun _ => rfl) (fun v7 hv7 => ?_)
  refine jw_goto (pc := 49) 4 dX8_moveOnce_49 (by decide) ?_
  exact jw_few [1, 2, 0] rfl (hr4 x1 v7 hx1 hv7 M)
def fX8_moveOnce_4 : Nat → Int → Int → jw_M → Option (Int × jw_M)
  | 0, _, _, _ => none
  | k + 1, x1, x2, M => if x2 < M 17 4 then (Option.bind (fX8_bestCorner x2 M) (fun v4 => Option.bind (some v4) (fun v5 => if 0 ≤ x2 ∧ x2 < 5 then if v5 = M (17 + 5) x2 then (fX8_moveOnce_46 (fX8_moveOnce_4 k) x1 x2 M) else (if 0 ≤ x2 ∧ x2 < 5 then Option.bind (some (jw_up M (17 + 5) x2 v5)) (fun M8 => Option.bind (some 1) (fun v9 => fX8_moveOnce_46 (fX8_moveOnce_4 k) v9 x2 M8)) else none) else none))) else (if x1 = 0 ∨ x1 = 1 then some (x1, M) else none)
set_option maxRecDepth 100000 in
theorem pX8_moveOnce_4 (G : jw_G) : ∀ (k : Nat) (x1 : Int) (x2 : Int) (hx1 : jw_r x1) (hx2 : jw_r x2) (M : jw_M), jw_Rn G YX8_moveOnce 5 0 0 true (fun q => q) 4 [(0, jR G 119), (1, jI x1), (2, jI x2)] [] M (fX8_moveOnce_4 k x1 x2 M) := by
  intro k
  induction k with
  | zero =>
    intro x1 x2 hx1 hx2 M
    exact jw_none
  | succ k ih =>
    intro x1 x2 hx1 hx2 M
    rw [fX8_moveOnce_4]
    refine jw_iload_n (pc := 4) 2 dX8_moveOnce_4 rfl ?_
    refine jw_aloadR (pc := 5) 0 dX8_moveOnce_5 rfl ?_
    refine jw_getR (pc := 6) (j := 1) rfl dX8_moveOnce_6 jv_8 ji_8 (Or.inl jt_301) jg_119 jl_119 (by decide) (by decide) rfl jf_8_1 ?_
    refine jw_getI (pc := 9) (j := 4) rfl dX8_moveOnce_9 jv_10 ji_10 (Or.inr ⟨_, jt_153⟩) jg_17 jl_17 (by decide) (by decide) (jw_ho jg_17 (by decide)) (Or.inl rfl) rfl (fun h3 => ?_)
    refine jw_ic_ge (pc := 12) 52 dX8_moveOnce_12 (by decide) hx2 h3 (fun _ => ?_) (fun _ => ?_)
    · refine jw_aloadR (pc := 15) 0 dX8_moveOnce_15 rfl ?_
      refine jw_iload_n (pc := 16) 2 dX8_moveOnce_16 rfl ?_
      refine jw_callVi (pc := 17) (As := [jI x2]) (st := []) dX8_moveOnce_17 rfl (Nat.le_of_ble_eq_true rfl) qX8_bestCorner jt_940 jt_942 jp_19 rfl rfl (Nat.le_of_ble_eq_true rfl) jv_8 rfl jg_119 jl_119 (by decide) (jw_ho jg_119 (by decide)) (kX8_bestCorner G x2 hx2 M) (fun v4 hv4 => ?_)
      refine jw_istore_nL (pc := 20) (lv' := (fun y => [(3, y), (0, jR G 119), (1, jI x1), (2, jI x2)])) dX8_moveOnce_20 hv4 (by decide) (fun _ => rfl) (fun v5 hv5 => ?_)
      refine jw_iload_n (pc := 21) 0 dX8_moveOnce_21 rfl ?_
      refine jw_aloadR (pc := 22) 1 dX8_moveOnce_22 rfl ?_
      refine jw_getR (pc := 23) (j := 1) rfl dX8_moveOnce_23 jv_8 ji_8 (Or.inl jt_301) jg_119 jl_119 (by decide) (by decide) rfl jf_8_1 ?_
      refine jw_getR (pc := 26) (j := 6) rfl dX8_moveOnce_26 jv_10 ji_10 (Or.inr ⟨_, jt_160⟩) jg_17 jl_17 (by decide) (by decide) rfl (jf_10_6 jg_17).1 ?_
      refine jw_iload_n (pc := 29) 3 dX8_moveOnce_29 rfl ?_
      refine jw_iald (pc := 30) dX8_moveOnce_30 (jf_10_6 jg_17).2.1 (jf_10_6 jg_17).2.2 (jw_ho (jf_10_6 jg_17).2.1 (by decide)) hx2 rfl (fun h6 => ?_)
      refine jw_ic_eq (pc := 31) 46 dX8_moveOnce_31 (by decide) hv5 h6 (fun _ => ?_) (fun _ => ?_)
      · exact jw_few [1, 2, 3] rfl (pX8_moveOnce_46 G (fX8_moveOnce_4 k) ih x1 x2 hx1 hx2 M)
      · refine jw_aloadR (pc := 34) 1 dX8_moveOnce_34 rfl ?_
        refine jw_getR (pc := 35) (j := 1) rfl dX8_moveOnce_35 jv_8 ji_8 (Or.inl jt_301) jg_119 jl_119 (by decide) (by decide) rfl jf_8_1 ?_
        refine jw_getR (pc := 38) (j := 6) rfl dX8_moveOnce_38 jv_10 ji_10 (Or.inr ⟨_, jt_160⟩) jg_17 jl_17 (by decide) (by decide) rfl (jf_10_6 jg_17).1 ?_
        refine jw_iload_n (pc := 41) 3 dX8_moveOnce_41 rfl ?_
        refine jw_iload_n (pc := 42) 0 dX8_moveOnce_42 rfl ?_
        refine jw_iast (pc := 43) dX8_moveOnce_43 (jf_10_6 jg_17).2.1 (jf_10_6 jg_17).2.2 (jw_ho (jf_10_6 jg_17).2.1 (by decide)) hx2 hv5 rfl ?_
        refine jw_letM (fun M8 => ?_)
        refine jw_iconst (pc := 44) dX8_moveOnce_44 ?_
        refine jw_istore_nL (pc := 45) (lv' := (fun y => [(1, y), (3, jI v5), (0, jR G 119), (2, jI x2)])) dX8_moveOnce_45 (jw_rc _ rfl) (by decide) (fun _ => rfl) (fun v9 hv9 => ?_)
        exact jw_few [2, 0, 3] rfl (pX8_moveOnce_46 G (fX8_moveOnce_4 k) ih v9 x2 hv9 hx2 M8)
    · refine jw_iload_n (pc := 52) 1 dX8_moveOnce_52 rfl ?_
      refine jw_ck (fun h10 => ?_)
      exact jw_ret (pc := 53) (v := x1) dX8_moveOnce_53 h10 rfl rfl
def fX8_moveOnce (M : jw_M) : Option (Int × jw_M) :=
  Option.bind (some 0) (fun v1 => Option.bind (some 0) (fun v2 => fX8_moveOnce_4 jw_fu v1 v2 M))
set_option maxRecDepth 100000 in
theorem rX8_moveOnce (G : jw_G) (M : jw_M) : jw_Rn G YX8_moveOnce 5 0 0 true (fun q => q) 0 [(0, jR G 119)] [] M (fX8_moveOnce M) := by
  unfold fX8_moveOnce
  refine jw_iconst (pc := 0) dX8_moveOnce_0 ?_
  refine jw_istore_nL (pc := 1) (lv' := (fun y => [(1, y), (0, jR G 119)])) dX8_moveOnce_1 (jw_rc _ rfl) (by decide) (fun _ => rfl) (fun v1 hv1 => ?_)
  refine jw_iconst (pc := 2) dX8_moveOnce_2 ?_
  refine jw_istore_nL (pc := 3) (lv' := (fun y => [(2, y), (1, jI v1), (0, jR G 119)])) dX8_moveOnce_3 (jw_rc _ rfl) (by decide) (fun _ => rfl) (fun v2 hv2 => ?_)
  exact jw_few [2, 1, 0] rfl (pX8_moveOnce_4 G jw_fu v1 v2 hv1 hv2 M)
theorem kX8_moveOnce (G : jw_G) (M : jw_M) : jw_Ct G YX8_moveOnce (some .boolean) 5 0 0 true (fun q => q) yX8_moveOnce [jR G 119] M (fX8_moveOnce M) := jw_met (by decide) rfl rfl rfl (Nat.le_of_ble_eq_true rfl) (rX8_moveOnce G M)
abbrev YX8_moveTillRest : jw_Y := (RX8, cX8_moveTillRest, 2, 1, "moveTillRest")
theorem qX8_moveTillRest : jw_cy YX8_moveTillRest (some .int) yX8_moveTillRest 0 := ⟨by decide, jt_952, jt_11, by decide, by decide +kernel⟩
theorem dX8_moveTillRest_0 : decode cX8_moveTillRest 0 = .ok (.iconst 0, 1) := by decide +kernel
theorem dX8_moveTillRest_1 : decode cX8_moveTillRest 1 = .ok (.istore_n 1, 1) := by decide +kernel
theorem dX8_moveTillRest_2 : decode cX8_moveTillRest 2 = .ok (.iload_n 1, 1) := by decide +kernel
theorem dX8_moveTillRest_3 : decode cX8_moveTillRest 3 = .ok (.bipush 40, 2) := by decide +kernel
theorem dX8_moveTillRest_5 : decode cX8_moveTillRest 5 = .ok (.if_icmp .ge 18, 3) := by decide +kernel
theorem dX8_moveTillRest_8 : decode cX8_moveTillRest 8 = .ok (.aload_n 0, 1) := by decide +kernel
theorem dX8_moveTillRest_9 : decode cX8_moveTillRest 9 = .ok (.invokevirtual 89, 3) := by decide +kernel
theorem dX8_moveTillRest_12 : decode cX8_moveTillRest 12 = .ok (.ifCond .ne 5, 3) := by decide +kernel
theorem dX8_moveTillRest_15 : decode cX8_moveTillRest 15 = .ok (.iload_n 1, 1) := by decide +kernel
theorem dX8_moveTillRest_16 : decode cX8_moveTillRest 16 = .ok (.ireturn, 1) := by decide +kernel
theorem dX8_moveTillRest_17 : decode cX8_moveTillRest 17 = .ok (.iinc 1 1, 3) := by decide +kernel
theorem dX8_moveTillRest_20 : decode cX8_moveTillRest 20 = .ok (.goto (-18), 3) := by decide +kernel
theorem dX8_moveTillRest_23 : decode cX8_moveTillRest 23 = .ok (.ldc 93, 2) := by decide +kernel
theorem dX8_moveTillRest_25 : decode cX8_moveTillRest 25 = .ok (.ireturn, 1) := by decide +kernel
def fX8_moveTillRest_2 : Nat → Int → jw_M → Option (Int × jw_M)
  | 0, _, _ => none
  | k + 1, x1, M => if x1 < 40 then (jw_b2 (fX8_moveOnce  M) (fun v2 M3 => if v2 = 0 then (some (x1, M3)) else (Option.bind (some (jw_w (x1 + 1))) (fun v4 => fX8_moveTillRest_2 k v4 M3)))) else (some ((-1000000), M))
set_option maxRecDepth 100000 in
theorem pX8_moveTillRest_2 (G : jw_G) : ∀ (k : Nat) (x1 : Int) (hx1 : jw_r x1) (M : jw_M), jw_Rn G YX8_moveTillRest 6 0 0 true (fun q => q) 2 [(0, jR G 119), (1, jI x1)] [] M (fX8_moveTillRest_2 k x1 M) := by
  intro k
  induction k with
  | zero =>
    intro x1 hx1 M
    exact jw_none
  | succ k ih =>
    intro x1 hx1 M
    rw [fX8_moveTillRest_2]
    refine jw_iload_n (pc := 2) 1 dX8_moveTillRest_2 rfl ?_
    refine jw_bipush (pc := 3) dX8_moveTillRest_3 rfl ?_
    refine jw_ic_ge (pc := 5) 23 dX8_moveTillRest_5 (by decide) hx1 (jw_rc _ rfl) (fun _ => ?_) (fun _ => ?_)
    · refine jw_aloadR (pc := 8) 0 dX8_moveTillRest_8 rfl ?_
      refine jw_callVMz (pc := 9) (As := []) (st := []) dX8_moveTillRest_9 rfl (Nat.le_of_ble_eq_true rfl) qX8_moveOnce jt_953 jt_955 jp_20 rfl rfl (Nat.le_of_ble_eq_true rfl) jv_8 rfl jg_119 jl_119 (by decide) (jw_ho jg_119 (by decide)) (kX8_moveOnce G  M) (fun v2 M3 hv2 => ?_)
      refine jw_if_ne (pc := 12) 17 dX8_moveTillRest_12 (by decide) (jw_bz hv2) (fun _ => ?_) (fun _ => ?_)
      · refine jw_iload_n (pc := 15) 1 dX8_moveTillRest_15 rfl ?_
        exact jw_ret (pc := 16) (v := x1) dX8_moveTillRest_16 hx1 rfl rfl
      · refine jw_iincL (pc := 17) 1 (lv' := (fun y => [(1, y), (0, jR G 119)])) dX8_moveTillRest_17 rfl (Nat.le_of_ble_eq_true rfl) (fun _ => rfl) (fun v4 hv4 => ?_)
        refine jw_goto (pc := 20) 2 dX8_moveTillRest_20 (by decide) ?_
        exact jw_few [1, 0] rfl (ih v4 hv4 M3)
    · refine jw_ldc (pc := 23) (n := (-1000000)) dX8_moveTillRest_23 jt_957 (by decide) ?_
      exact jw_ret (pc := 25) (v := (-1000000)) dX8_moveTillRest_25 (jw_rc _ rfl) rfl rfl
def fX8_moveTillRest (M : jw_M) : Option (Int × jw_M) :=
  Option.bind (some 0) (fun v1 => fX8_moveTillRest_2 jw_fu v1 M)
set_option maxRecDepth 100000 in
theorem rX8_moveTillRest (G : jw_G) (M : jw_M) : jw_Rn G YX8_moveTillRest 6 0 0 true (fun q => q) 0 [(0, jR G 119)] [] M (fX8_moveTillRest M) := by
  unfold fX8_moveTillRest
  refine jw_iconst (pc := 0) dX8_moveTillRest_0 ?_
  refine jw_istore_nL (pc := 1) (lv' := (fun y => [(1, y), (0, jR G 119)])) dX8_moveTillRest_1 (jw_rc _ rfl) (by decide) (fun _ => rfl) (fun v1 hv1 => ?_)
  exact jw_few [1, 0] rfl (pX8_moveTillRest_2 G jw_fu v1 hv1 M)
theorem kX8_moveTillRest (G : jw_G) (M : jw_M) : jw_Ct G YX8_moveTillRest (some .int) 6 0 0 true (fun q => q) yX8_moveTillRest [jR G 119] M (fX8_moveTillRest M) := jw_met (by decide) rfl rfl rfl (Nat.le_of_ble_eq_true rfl) (rX8_moveTillRest G M)
abbrev YX8_fillScores : jw_Y := (RX8, cX8_fillScores, 4, 0, "fillScores")
theorem qX8_fillScores : jw_cy YX8_fillScores none yX8_fillScores 0 := ⟨by decide, jt_970, jt_11, by decide, by decide +kernel⟩
theorem dX8_fillScores_0 : decode cX8_fillScores 0 = .ok (.iconst 0, 1) := by decide +kernel
theorem dX8_fillScores_1 : decode cX8_fillScores 1 = .ok (.istore_n 1, 1) := by decide +kernel
theorem dX8_fillScores_2 : decode cX8_fillScores 2 = .ok (.iload_n 1, 1) := by decide +kernel
theorem dX8_fillScores_3 : decode cX8_fillScores 3 = .ok (.aload_n 0, 1) := by decide +kernel
theorem dX8_fillScores_4 : decode cX8_fillScores 4 = .ok (.getfield 32, 3) := by decide +kernel
theorem dX8_fillScores_7 : decode cX8_fillScores 7 = .ok (.getfield 38, 3) := by decide +kernel
theorem dX8_fillScores_10 : decode cX8_fillScores 10 = .ok (.if_icmp .ge 65, 3) := by decide +kernel
theorem dX8_fillScores_13 : decode cX8_fillScores 13 = .ok (.iconst 0, 1) := by decide +kernel
theorem dX8_fillScores_14 : decode cX8_fillScores 14 = .ok (.istore_n 2, 1) := by decide +kernel
theorem dX8_fillScores_15 : decode cX8_fillScores 15 = .ok (.iload_n 2, 1) := by decide +kernel
theorem dX8_fillScores_16 : decode cX8_fillScores 16 = .ok (.aload_n 0, 1) := by decide +kernel
theorem dX8_fillScores_17 : decode cX8_fillScores 17 = .ok (.getfield 27, 3) := by decide +kernel
theorem dX8_fillScores_20 : decode cX8_fillScores 20 = .ok (.getfield 79, 3) := by decide +kernel
theorem dX8_fillScores_23 : decode cX8_fillScores 23 = .ok (.if_icmp .ge 46, 3) := by decide +kernel
theorem dX8_fillScores_26 : decode cX8_fillScores 26 = .ok (.iconst 1, 1) := by decide +kernel
theorem dX8_fillScores_27 : decode cX8_fillScores 27 = .ok (.istore_n 3, 1) := by decide +kernel
theorem dX8_fillScores_28 : decode cX8_fillScores 28 = .ok (.iload_n 3, 1) := by decide +kernel
theorem dX8_fillScores_29 : decode cX8_fillScores 29 = .ok (.bipush 6, 2) := by decide +kernel
theorem dX8_fillScores_31 : decode cX8_fillScores 31 = .ok (.if_icmp .ge 32, 3) := by decide +kernel
theorem dX8_fillScores_34 : decode cX8_fillScores 34 = .ok (.aload_n 0, 1) := by decide +kernel
theorem dX8_fillScores_35 : decode cX8_fillScores 35 = .ok (.getfield 18, 3) := by decide +kernel
theorem dX8_fillScores_38 : decode cX8_fillScores 38 = .ok (.iload_n 1, 1) := by decide +kernel
theorem dX8_fillScores_39 : decode cX8_fillScores 39 = .ok (.bipush 7, 2) := by decide +kernel
theorem dX8_fillScores_41 : decode cX8_fillScores 41 = .ok (.imul, 1) := by decide +kernel
theorem dX8_fillScores_42 : decode cX8_fillScores 42 = .ok (.iload_n 2, 1) := by decide +kernel
theorem dX8_fillScores_43 : decode cX8_fillScores 43 = .ok (.iadd, 1) := by decide +kernel
theorem dX8_fillScores_44 : decode cX8_fillScores 44 = .ok (.bipush 6, 2) := by decide +kernel
theorem dX8_fillScores_46 : decode cX8_fillScores 46 = .ok (.imul, 1) := by decide +kernel
theorem dX8_fillScores_47 : decode cX8_fillScores 47 = .ok (.iload_n 3, 1) := by decide +kernel
theorem dX8_fillScores_48 : decode cX8_fillScores 48 = .ok (.iadd, 1) := by decide +kernel
theorem dX8_fillScores_49 : decode cX8_fillScores 49 = .ok (.aload_n 0, 1) := by decide +kernel
theorem dX8_fillScores_50 : decode cX8_fillScores 50 = .ok (.iload_n 1, 1) := by decide +kernel
theorem dX8_fillScores_51 : decode cX8_fillScores 51 = .ok (.iload_n 2, 1) := by decide +kernel
theorem dX8_fillScores_52 : decode cX8_fillScores 52 = .ok (.iload_n 3, 1) := by decide +kernel
theorem dX8_fillScores_53 : decode cX8_fillScores 53 = .ok (.invokevirtual 50, 3) := by decide +kernel
theorem dX8_fillScores_56 : decode cX8_fillScores 56 = .ok (.iastore, 1) := by decide +kernel
theorem dX8_fillScores_57 : decode cX8_fillScores 57 = .ok (.iinc 3 1, 3) := by decide +kernel
theorem dX8_fillScores_60 : decode cX8_fillScores 60 = .ok (.goto (-32), 3) := by decide +kernel
theorem dX8_fillScores_63 : decode cX8_fillScores 63 = .ok (.iinc 2 1, 3) := by decide +kernel
theorem dX8_fillScores_66 : decode cX8_fillScores 66 = .ok (.goto (-51), 3) := by decide +kernel
theorem dX8_fillScores_69 : decode cX8_fillScores 69 = .ok (.iinc 1 1, 3) := by decide +kernel
theorem dX8_fillScores_72 : decode cX8_fillScores 72 = .ok (.goto (-70), 3) := by decide +kernel
theorem dX8_fillScores_75 : decode cX8_fillScores 75 = .ok (.return_, 1) := by decide +kernel
def fX8_fillScores_28 (r2 : Int → jw_M → Option jw_M) (r15 : Int → Int → jw_M → Option jw_M) : Nat → Int → Int → Int → jw_M → Option jw_M
  | 0, _, _, _, _ => none
  | k + 1, x1, x2, x3, M => if x3 < 6 then (Option.bind (fX8_scoreAmong x1 x2 x3 M) (fun v6 => if 0 ≤ jw_w ((jw_w ((jw_w ((jw_w (x1 * 7)) + x2)) * 6)) + x3) ∧ jw_w ((jw_w ((jw_w ((jw_w (x1 * 7)) + x2)) * 6)) + x3) < 210 then Option.bind (some (jw_up M 122 (jw_w ((jw_w ((jw_w ((jw_w (x1 * 7)) + x2)) * 6)) + x3)) v6)) (fun M7 => Option.bind (some (jw_w (x3 + 1))) (fun v8 => fX8_fillScores_28 r2 r15 k x1 x2 v8 M7)) else none)) else (Option.bind (some (jw_w (x2 + 1))) (fun v9 => r15 x1 v9 M))
set_option maxRecDepth 100000 in
theorem pX8_fillScores_28 (G : jw_G) (r2 : Int → jw_M → Option jw_M) (r15 : Int → Int → jw_M → Option jw_M) (hr2 : ∀ (x1 : Int) (hx1 : jw_r x1) (M : jw_M), jw_Rn G YX8_fillScores 3 0 0 true (fun M1 => (0, M1)) 2 [(0, jR G 119), (1, jI x1)] [] M (r2 x1 M)) (hr15 : ∀ (x1 : Int) (x2 : Int) (hx1 : jw_r x1) (hx2 : jw_r x2) (M : jw_M), jw_Rn G YX8_fillScores 3 0 0 true (fun M1 => (0, M1)) 15 [(0, jR G 119), (1, jI x1), (2, jI x2)] [] M (r15 x1 x2 M)) : ∀ (k : Nat) (x1 : Int) (x2 : Int) (x3 : Int) (hx1 : jw_r x1) (hx2 : jw_r x2) (hx3 : jw_r x3) (M : jw_M), jw_Rn G YX8_fillScores 3 0 0 true (fun M1 => (0, M1)) 28 [(0, jR G 119), (1, jI x1), (2, jI x2), (3, jI x3)] [] M (fX8_fillScores_28 r2 r15 k x1 x2 x3 M) := by
  intro k
  induction k with
  | zero =>
    intro x1 x2 x3 hx1 hx2 hx3 M
    exact jw_none
  | succ k ih =>
    intro x1 x2 x3 hx1 hx2 hx3 M
    rw [fX8_fillScores_28]
    refine jw_iload_n (pc := 28) 3 dX8_fillScores_28 rfl ?_
    refine jw_bipush (pc := 29) dX8_fillScores_29 rfl ?_
    refine jw_ic_ge (pc := 31) 63 dX8_fillScores_31 (by decide) hx3 (jw_rc _ rfl) (fun _ => ?_) (fun _ => ?_)
    · refine jw_aloadR (pc := 34) 0 dX8_fillScores_34 rfl ?_
      refine jw_getR (pc := 35) (j := 5) rfl dX8_fillScores_35 jv_8 ji_8 (Or.inl jt_305) jg_119 jl_119 (by decide) (by decide) rfl jf_8_5 ?_
      refine jw_iload_n (pc := 38) 1 dX8_fillScores_38 rfl ?_
      refine jw_bipush (pc := 39) dX8_fillScores_39 rfl ?_
      refine jw_imul (pc := 41) dX8_fillScores_41 ?_
      refine jw_iload_n (pc := 42) 2 dX8_fillScores_42 rfl ?_
      refine jw_iadd (pc := 43) dX8_fillScores_43 ?_
      refine jw_bipush (pc := 44) dX8_fillScores_44 rfl ?_
      refine jw_imul (pc := 46) dX8_fillScores_46 ?_
      refine jw_iload_n (pc := 47) 3 dX8_fillScores_47 rfl ?_
      refine jw_iadd (pc := 48) dX8_fillScores_48 ?_
      refine jw_aloadR (pc := 49) 0 dX8_fillScores_49 rfl ?_
      refine jw_iload_n (pc := 50) 1 dX8_fillScores_50 rfl ?_
      refine jw_iload_n (pc := 51) 2 dX8_fillScores_51 rfl ?_
      refine jw_iload_n (pc := 52) 3 dX8_fillScores_52 rfl ?_
      refine jw_callVi (pc := 53) (As := [jI x1, jI x2, jI x3]) (st := [jI (jw_w ((jw_w ((jw_w ((jw_w (x1 * 7)) + x2)) * 6)) + x3)), jR G 122]) dX8_fillScores_53 rfl (Nat.le_of_ble_eq_true rfl) qX8_scoreAmong jt_904 jt_905 jt_906 rfl rfl (Nat.le_of_ble_eq_true rfl) jv_8 rfl jg_119 jl_119 (by decide) (jw_ho jg_119 (by decide)) (kX8_scoreAmong G x1 x2 x3 hx1 hx2 hx3 M) (fun v6 hv6 => ?_)
      refine jw_iast (pc := 56) dX8_fillScores_56 jg_122 jl_122 (jw_ho jg_122 (by decide)) (jw_wr _) hv6 rfl ?_
      refine jw_letM (fun M7 => ?_)
      refine jw_iincL (pc := 57) 3 (lv' := (fun y => [(3, y), (0, jR G 119), (1, jI x1), (2, jI x2)])) dX8_fillScores_57 rfl (Nat.le_of_ble_eq_true rfl) (fun _ => rfl) (fun v8 hv8 => ?_)
      refine jw_goto (pc := 60) 28 dX8_fillScores_60 (by decide) ?_
      exact jw_few [1, 2, 3, 0] rfl (ih x1 x2 v8 hx1 hx2 hv8 M7)
    · refine jw_iincL (pc := 63) 2 (lv' := (fun y => [(2, y), (0, jR G 119), (1, jI x1), (3, jI x3)])) dX8_fillScores_63 rfl (Nat.le_of_ble_eq_true rfl) (fun _ => rfl) (fun v9 hv9 => ?_)
      refine jw_goto (pc := 66) 15 dX8_fillScores_66 (by decide) ?_
      exact jw_few [1, 2, 0] rfl (hr15 x1 v9 hx1 hv9 M)
def fX8_fillScores_15 (r2 : Int → jw_M → Option jw_M) : Nat → Int → Int → jw_M → Option jw_M
  | 0, _, _, _ => none
  | k + 1, x1, x2, M => if x2 < M 10 0 then (Option.bind (some 1) (fun v5 => fX8_fillScores_28 r2 (fX8_fillScores_15 r2 k) jw_fu x1 x2 v5 M)) else (Option.bind (some (jw_w (x1 + 1))) (fun v10 => r2 v10 M))
set_option maxRecDepth 100000 in
theorem pX8_fillScores_15 (G : jw_G) (r2 : Int → jw_M → Option jw_M) (hr2 : ∀ (x1 : Int) (hx1 : jw_r x1) (M : jw_M), jw_Rn G YX8_fillScores 3 0 0 true (fun M1 => (0, M1)) 2 [(0, jR G 119), (1, jI x1)] [] M (r2 x1 M)) : ∀ (k : Nat) (x1 : Int) (x2 : Int) (hx1 : jw_r x1) (hx2 : jw_r x2) (M : jw_M), jw_Rn G YX8_fillScores 3 0 0 true (fun M1 => (0, M1)) 15 [(0, jR G 119), (1, jI x1), (2, jI x2)] [] M (fX8_fillScores_15 r2 k x1 x2 M) := by
  intro k
  induction k with
  | zero =>
    intro x1 x2 hx1 hx2 M
    exact jw_none
  | succ k ih =>
    intro x1 x2 hx1 hx2 M
    rw [fX8_fillScores_15]
    refine jw_iload_n (pc := 15) 2 dX8_fillScores_15 rfl ?_
    refine jw_aloadR (pc := 16) 0 dX8_fillScores_16 rfl ?_
    refine jw_getR (pc := 17) (j := 0) rfl dX8_fillScores_17 jv_8 ji_8 (Or.inl jt_300) jg_119 jl_119 (by decide) (by decide) rfl jf_8_0 ?_
    refine jw_getI (pc := 20) (j := 0) rfl dX8_fillScores_20 jv_9 ji_9 (Or.inr ⟨_, jt_95⟩) jg_10 jl_10 (by decide) (by decide) (jw_ho jg_10 (by decide)) (Or.inl rfl) rfl (fun h4 => ?_)
    refine jw_ic_ge (pc := 23) 69 dX8_fillScores_23 (by decide) hx2 h4 (fun _ => ?_) (fun _ => ?_)
    · refine jw_iconst (pc := 26) dX8_fillScores_26 ?_
      refine jw_istore_nL (pc := 27) (lv' := (fun y => [(3, y), (0, jR G 119), (1, jI x1), (2, jI x2)])) dX8_fillScores_27 (jw_rc _ rfl) (by decide) (fun _ => rfl) (fun v5 hv5 => ?_)
      exact jw_few [1, 2, 3, 0] rfl (pX8_fillScores_28 G r2 (fX8_fillScores_15 r2 k) hr2 ih jw_fu x1 x2 v5 hx1 hx2 hv5 M)
    · refine jw_iincL (pc := 69) 1 (lv' := (fun y => [(1, y), (0, jR G 119), (2, jI x2)])) dX8_fillScores_69 rfl (Nat.le_of_ble_eq_true rfl) (fun _ => rfl) (fun v10 hv10 => ?_)
      refine jw_goto (pc := 72) 2 dX8_fillScores_72 (by decide) ?_
      exact jw_few [1, 0] rfl (hr2 v10 hv10 M)
def fX8_fillScores_2 : Nat → Int → jw_M → Option jw_M
  | 0, _, _ => none
  | k + 1, x1, M => if x1 < M 17 4 then (Option.bind (some 0) (fun v3 => fX8_fillScores_15 (fX8_fillScores_2 k) jw_fu x1 v3 M)) else (some M)
set_option maxRecDepth 100000 in
theorem pX8_fillScores_2 (G : jw_G) : ∀ (k : Nat) (x1 : Int) (hx1 : jw_r x1) (M : jw_M), jw_Rn G YX8_fillScores 3 0 0 true (fun M1 => (0, M1)) 2 [(0, jR G 119), (1, jI x1)] [] M (fX8_fillScores_2 k x1 M) := by
  intro k
  induction k with
  | zero =>
    intro x1 hx1 M
    exact jw_none
  | succ k ih =>
    intro x1 hx1 M
    rw [fX8_fillScores_2]
    refine jw_iload_n (pc := 2) 1 dX8_fillScores_2 rfl ?_
    refine jw_aloadR (pc := 3) 0 dX8_fillScores_3 rfl ?_
    refine jw_getR (pc := 4) (j := 1) rfl dX8_fillScores_4 jv_8 ji_8 (Or.inl jt_301) jg_119 jl_119 (by decide) (by decide) rfl jf_8_1 ?_
    refine jw_getI (pc := 7) (j := 4) rfl dX8_fillScores_7 jv_10 ji_10 (Or.inr ⟨_, jt_153⟩) jg_17 jl_17 (by decide) (by decide) (jw_ho jg_17 (by decide)) (Or.inl rfl) rfl (fun h2 => ?_)
    refine jw_ic_ge (pc := 10) 75 dX8_fillScores_10 (by decide) hx1 h2 (fun _ => ?_) (fun _ => ?_)
    · refine jw_iconst (pc := 13) dX8_fillScores_13 ?_
      refine jw_istore_nL (pc := 14) (lv' := (fun y => [(2, y), (0, jR G 119), (1, jI x1)])) dX8_fillScores_14 (jw_rc _ rfl) (by decide) (fun _ => rfl) (fun v3 hv3 => ?_)
      exact jw_few [1, 2, 0] rfl (pX8_fillScores_15 G (fX8_fillScores_2 k) ih jw_fu x1 v3 hx1 hv3 M)
    · exact jw_ret (pc := 75) (v := 0) dX8_fillScores_75 trivial rfl rfl
def fX8_fillScores (M : jw_M) : Option jw_M :=
  Option.bind (some 0) (fun v1 => fX8_fillScores_2 jw_fu v1 M)
set_option maxRecDepth 100000 in
theorem rX8_fillScores (G : jw_G) (M : jw_M) : jw_Rn G YX8_fillScores 3 0 0 true (fun M1 => (0, M1)) 0 [(0, jR G 119)] [] M (fX8_fillScores M) := by
  unfold fX8_fillScores
  refine jw_iconst (pc := 0) dX8_fillScores_0 ?_
  refine jw_istore_nL (pc := 1) (lv' := (fun y => [(1, y), (0, jR G 119)])) dX8_fillScores_1 (jw_rc _ rfl) (by decide) (fun _ => rfl) (fun v1 hv1 => ?_)
  exact jw_few [1, 0] rfl (pX8_fillScores_2 G jw_fu v1 hv1 M)
theorem kX8_fillScores (G : jw_G) (M : jw_M) : jw_Ct G YX8_fillScores none 3 0 0 true (fun M1 => (0, M1)) yX8_fillScores [jR G 119] M (fX8_fillScores M) := jw_met (by decide) rfl rfl rfl (Nat.le_of_ble_eq_true rfl) (rX8_fillScores G M)
abbrev YX8_isClear : jw_Y := (RX8, cX8_isClear, 5, 4, "isClear")
theorem qX8_isClear : jw_cy YX8_isClear (some .boolean) yX8_isClear 3 := ⟨by decide, jt_990, jt_11, by decide, by decide +kernel⟩
theorem dX8_isClear_0 : decode cX8_isClear 0 = .ok (.iload_n 3, 1) := by decide +kernel
theorem dX8_isClear_1 : decode cX8_isClear 1 = .ok (.istore 4, 2) := by decide +kernel
theorem dX8_isClear_3 : decode cX8_isClear 3 = .ok (.iload 4, 2) := by decide +kernel
theorem dX8_isClear_5 : decode cX8_isClear 5 = .ok (.aload_n 0, 1) := by decide +kernel
theorem dX8_isClear_6 : decode cX8_isClear 6 = .ok (.getfield 32, 3) := by decide +kernel
theorem dX8_isClear_9 : decode cX8_isClear 9 = .ok (.getfield 38, 3) := by decide +kernel
theorem dX8_isClear_12 : decode cX8_isClear 12 = .ok (.if_icmp .ge 64, 3) := by decide +kernel
theorem dX8_isClear_15 : decode cX8_isClear 15 = .ok (.iload 4, 2) := by decide +kernel
theorem dX8_isClear_17 : decode cX8_isClear 17 = .ok (.iload_n 1, 1) := by decide +kernel
theorem dX8_isClear_18 : decode cX8_isClear 18 = .ok (.if_icmp .eq 52, 3) := by decide +kernel
theorem dX8_isClear_21 : decode cX8_isClear 21 = .ok (.aload_n 0, 1) := by decide +kernel
theorem dX8_isClear_22 : decode cX8_isClear 22 = .ok (.getfield 32, 3) := by decide +kernel
theorem dX8_isClear_25 : decode cX8_isClear 25 = .ok (.getfield 44, 3) := by decide +kernel
theorem dX8_isClear_28 : decode cX8_isClear 28 = .ok (.iload 4, 2) := by decide +kernel
theorem dX8_isClear_30 : decode cX8_isClear 30 = .ok (.iaload, 1) := by decide +kernel
theorem dX8_isClear_31 : decode cX8_isClear 31 = .ok (.aload_n 0, 1) := by decide +kernel
theorem dX8_isClear_32 : decode cX8_isClear 32 = .ok (.getfield 32, 3) := by decide +kernel
theorem dX8_isClear_35 : decode cX8_isClear 35 = .ok (.getfield 44, 3) := by decide +kernel
theorem dX8_isClear_38 : decode cX8_isClear 38 = .ok (.iload_n 1, 1) := by decide +kernel
theorem dX8_isClear_39 : decode cX8_isClear 39 = .ok (.iaload, 1) := by decide +kernel
theorem dX8_isClear_40 : decode cX8_isClear 40 = .ok (.if_icmp .ne 30, 3) := by decide +kernel
theorem dX8_isClear_43 : decode cX8_isClear 43 = .ok (.aload_n 0, 1) := by decide +kernel
theorem dX8_isClear_44 : decode cX8_isClear 44 = .ok (.getfield 27, 3) := by decide +kernel
theorem dX8_isClear_47 : decode cX8_isClear 47 = .ok (.aload_n 0, 1) := by decide +kernel
theorem dX8_isClear_48 : decode cX8_isClear 48 = .ok (.getfield 9, 3) := by decide +kernel
theorem dX8_isClear_51 : decode cX8_isClear 51 = .ok (.iload 4, 2) := by decide +kernel
theorem dX8_isClear_53 : decode cX8_isClear 53 = .ok (.iaload, 1) := by decide +kernel
theorem dX8_isClear_54 : decode cX8_isClear 54 = .ok (.iload_n 2, 1) := by decide +kernel
theorem dX8_isClear_55 : decode cX8_isClear 55 = .ok (.invokevirtual 72, 3) := by decide +kernel
theorem dX8_isClear_58 : decode cX8_isClear 58 = .ok (.aload_n 0, 1) := by decide +kernel
theorem dX8_isClear_59 : decode cX8_isClear 59 = .ok (.getfield 27, 3) := by decide +kernel
theorem dX8_isClear_62 : decode cX8_isClear 62 = .ok (.getfield 76, 3) := by decide +kernel
theorem dX8_isClear_65 : decode cX8_isClear 65 = .ok (.if_icmp .ge 5, 3) := by decide +kernel
theorem dX8_isClear_68 : decode cX8_isClear 68 = .ok (.iconst 0, 1) := by decide +kernel
theorem dX8_isClear_69 : decode cX8_isClear 69 = .ok (.ireturn, 1) := by decide +kernel
theorem dX8_isClear_70 : decode cX8_isClear 70 = .ok (.iinc 4 1, 3) := by decide +kernel
theorem dX8_isClear_73 : decode cX8_isClear 73 = .ok (.goto (-70), 3) := by decide +kernel
theorem dX8_isClear_76 : decode cX8_isClear 76 = .ok (.iconst 1, 1) := by decide +kernel
theorem dX8_isClear_77 : decode cX8_isClear 77 = .ok (.ireturn, 1) := by decide +kernel
def fX8_isClear_70 (M : jw_M) (r3 : Int → Int → Int → Option Int) (x1 : Int) (x2 : Int) (x4 : Int) : Option Int :=
  Option.bind (some (jw_w (x4 + 1))) (fun v3 => r3 x1 x2 v3)
set_option maxRecDepth 100000 in
theorem pX8_isClear_70 (G : jw_G) (M : jw_M) (r3 : Int → Int → Int → Option Int) (hr3 : ∀ (x1 : Int) (x2 : Int) (x4 : Int) (hx1 : jw_r x1) (hx2 : jw_r x2) (hx4 : jw_r x4), jw_Rn G YX8_isClear 2 0 0 true (fun v => (v, M)) 3 [(0, jR G 119), (1, jI x1), (2, jI x2), (4, jI x4)] [] M (r3 x1 x2 x4)) : ∀ (x1 : Int) (x2 : Int) (x4 : Int) (hx1 : jw_r x1) (hx2 : jw_r x2) (hx4 : jw_r x4), jw_Rn G YX8_isClear 2 0 0 true (fun v => (v, M)) 70 [(0, jR G 119), (1, jI x1), (2, jI x2), (4, jI x4)] [] M (fX8_isClear_70 M r3 x1 x2 x4) := by
  intro x1 x2 x4 hx1 hx2 hx4
  unfold fX8_isClear_70
  refine jw_iincL (pc := 70) 3 (lv' := (fun y => [(4, y), (0, jR G 119), (1, jI x1), (2, jI x2)])) dX8_isClear_70 rfl (Nat.le_of_ble_eq_true rfl) (fun _ => rfl) (fun v3 hv3 => ?_)
  refine jw_goto (pc := 73) 3 dX8_isClear_73 (by decide) ?_
  exact jw_few [1, 2, 3, 0] rfl (hr3 x1 x2 v3 hx1 hx2 hv3)
def fX8_isClear_3 (M : jw_M) : Nat → Int → Int → Int → Option Int
  | 0, _, _, _ => none
  | k + 1, x1, x2, x4 => if x4 < M 17 4 then (if x4 = x1 then (fX8_isClear_70 M (fX8_isClear_3 M k) x1 x2 x4) else (if 0 ≤ x4 ∧ x4 < 5 then if 0 ≤ x1 ∧ x1 < 5 then if M (17 + 4) x4 = M (17 + 4) x1 then (if 0 ≤ x4 ∧ x4 < 5 then Option.bind (fX9_walkTo 10 (M 120 x4) x2 M) (fun v7 => if v7 < M 10 8 then (some 0) else (fX8_isClear_70 M (fX8_isClear_3 M k) x1 x2 x4)) else none) else (fX8_isClear_70 M (fX8_isClear_3 M k) x1 x2 x4) else none else none)) else (some 1)
set_option maxRecDepth 100000 in
theorem pX8_isClear_3 (G : jw_G) (M : jw_M) : ∀ (k : Nat) (x1 : Int) (x2 : Int) (x4 : Int) (hx1 : jw_r x1) (hx2 : jw_r x2) (hx4 : jw_r x4), jw_Rn G YX8_isClear 2 0 0 true (fun v => (v, M)) 3 [(0, jR G 119), (1, jI x1), (2, jI x2), (4, jI x4)] [] M (fX8_isClear_3 M k x1 x2 x4) := by
  intro k
  induction k with
  | zero =>
    intro x1 x2 x4 hx1 hx2 hx4
    exact jw_none
  | succ k ih =>
    intro x1 x2 x4 hx1 hx2 hx4
    rw [fX8_isClear_3]
    refine jw_iload (pc := 3) 3 dX8_isClear_3 rfl ?_
    refine jw_aloadR (pc := 5) 0 dX8_isClear_5 rfl ?_
    refine jw_getR (pc := 6) (j := 1) rfl dX8_isClear_6 jv_8 ji_8 (Or.inl jt_301) jg_119 jl_119 (by decide) (by decide) rfl jf_8_1 ?_
    refine jw_getI (pc := 9) (j := 4) rfl dX8_isClear_9 jv_10 ji_10 (Or.inr ⟨_, jt_153⟩) jg_17 jl_17 (by decide) (by decide) (jw_ho jg_17 (by decide)) (Or.inl rfl) rfl (fun h2 => ?_)
    refine jw_ic_ge (pc := 12) 76 dX8_isClear_12 (by decide) hx4 h2 (fun _ => ?_) (fun _ => ?_)
    · refine jw_iload (pc := 15) 3 dX8_isClear_15 rfl ?_
      refine jw_iload_n (pc := 17) 1 dX8_isClear_17 rfl ?_
      refine jw_ic_eq (pc := 18) 70 dX8_isClear_18 (by decide) hx4 hx1 (fun _ => ?_) (fun _ => ?_)
      · exact jw_few [0, 1, 2, 3] rfl (pX8_isClear_70 G M (fX8_isClear_3 M k) ih x1 x2 x4 hx1 hx2 hx4)
      · refine jw_aloadR (pc := 21) 0 dX8_isClear_21 rfl ?_
        refine jw_getR (pc := 22) (j := 1) rfl dX8_isClear_22 jv_8 ji_8 (Or.inl jt_301) jg_119 jl_119 (by decide) (by decide) rfl jf_8_1 ?_
        refine jw_getR (pc := 25) (j := 5) rfl dX8_isClear_25 jv_10 ji_10 (Or.inr ⟨_, jt_157⟩) jg_17 jl_17 (by decide) (by decide) rfl (jf_10_5 jg_17).1 ?_
        refine jw_iload (pc := 28) 3 dX8_isClear_28 rfl ?_
        refine jw_iald (pc := 30) dX8_isClear_30 (jf_10_5 jg_17).2.1 (jf_10_5 jg_17).2.2 (jw_ho (jf_10_5 jg_17).2.1 (by decide)) hx4 rfl (fun h4 => ?_)
        refine jw_aloadR (pc := 31) 0 dX8_isClear_31 rfl ?_
        refine jw_getR (pc := 32) (j := 1) rfl dX8_isClear_32 jv_8 ji_8 (Or.inl jt_301) jg_119 jl_119 (by decide) (by decide) rfl jf_8_1 ?_
        refine jw_getR (pc := 35) (j := 5) rfl dX8_isClear_35 jv_10 ji_10 (Or.inr ⟨_, jt_157⟩) jg_17 jl_17 (by decide) (by decide) rfl (jf_10_5 jg_17).1 ?_
        refine jw_iload_n (pc := 38) 1 dX8_isClear_38 rfl ?_
        refine jw_iald (pc := 39) dX8_isClear_39 (jf_10_5 jg_17).2.1 (jf_10_5 jg_17).2.2 (jw_ho (jf_10_5 jg_17).2.1 (by decide)) hx1 rfl (fun h5 => ?_)
        refine jw_ic_ne (pc := 40) 70 dX8_isClear_40 (by decide) h4 h5 (fun _ => ?_) (fun _ => ?_)
        · refine jw_aloadR (pc := 43) 0 dX8_isClear_43 rfl ?_
          refine jw_getR (pc := 44) (j := 0) rfl dX8_isClear_44 jv_8 ji_8 (Or.inl jt_300) jg_119 jl_119 (by decide) (by decide) rfl jf_8_0 ?_
          refine jw_aloadR (pc := 47) 0 dX8_isClear_47 rfl ?_
          refine jw_getR (pc := 48) (j := 3) rfl dX8_isClear_48 jv_8 ji_8 (Or.inl jt_303) jg_119 jl_119 (by decide) (by decide) rfl jf_8_3 ?_
          refine jw_iload (pc := 51) 3 dX8_isClear_51 rfl ?_
          refine jw_iald (pc := 53) dX8_isClear_53 jg_120 jl_120 (jw_ho jg_120 (by decide)) hx4 rfl (fun h6 => ?_)
          refine jw_iload_n (pc := 54) 2 dX8_isClear_54 rfl ?_
          refine jw_callVi (pc := 55) (As := [jI (M 120 x4), jI x2]) (st := []) dX8_isClear_55 rfl (Nat.le_of_ble_eq_true rfl) qX9_walkTo jt_923 jt_737 jt_738 rfl rfl (Nat.le_of_ble_eq_true rfl) jv_9 rfl jg_10 jl_10 (by decide) (jw_ho jg_10 (by decide)) (kX9_walkTo G 10 (M 120 x4) x2 h6 hx2 M) (fun v7 hv7 => ?_)
          refine jw_aloadR (pc := 58) 0 dX8_isClear_58 rfl ?_
          refine jw_getR (pc := 59) (j := 0) rfl dX8_isClear_59 jv_8 ji_8 (Or.inl jt_300) jg_119 jl_119 (by decide) (by decide) rfl jf_8_0 ?_
          refine jw_getI (pc := 62) (j := 8) rfl dX8_isClear_62 jv_9 ji_9 (Or.inr ⟨_, jt_113⟩) jg_10 jl_10 (by decide) (by decide) (jw_ho jg_10 (by decide)) (Or.inl rfl) rfl (fun h8 => ?_)
          refine jw_ic_ge (pc := 65) 70 dX8_isClear_65 (by decide) hv7 h8 (fun _ => ?_) (fun _ => ?_)
          · refine jw_iconst (pc := 68) dX8_isClear_68 ?_
            exact jw_ret (pc := 69) (v := 0) dX8_isClear_69 (Or.inl rfl) rfl rfl
          · exact jw_few [0, 1, 2, 3] rfl (pX8_isClear_70 G M (fX8_isClear_3 M k) ih x1 x2 x4 hx1 hx2 hx4)
        · exact jw_few [0, 1, 2, 3] rfl (pX8_isClear_70 G M (fX8_isClear_3 M k) ih x1 x2 x4 hx1 hx2 hx4)
    · refine jw_iconst (pc := 76) dX8_isClear_76 ?_
      exact jw_ret (pc := 77) (v := 1) dX8_isClear_77 (Or.inr rfl) rfl rfl
def fX8_isClear (a1 : Int) (a2 : Int) (a3 : Int) (M : jw_M) : Option Int :=
  Option.bind (some a3) (fun v1 => fX8_isClear_3 M jw_fu a1 a2 v1)
set_option maxRecDepth 100000 in
theorem rX8_isClear (G : jw_G) (a1 : Int) (a2 : Int) (a3 : Int) (ha1 : jw_r a1) (ha2 : jw_r a2) (ha3 : jw_r a3) (M : jw_M) : jw_Rn G YX8_isClear 2 0 0 true (fun v => (v, M)) 0 [(0, jR G 119), (1, jI a1), (2, jI a2), (3, jI a3)] [] M (fX8_isClear a1 a2 a3 M) := by
  unfold fX8_isClear
  refine jw_iload_n (pc := 0) 3 dX8_isClear_0 rfl ?_
  refine jw_istoreL (pc := 1) (lv' := (fun y => [(4, y), (0, jR G 119), (1, jI a1), (2, jI a2), (3, jI a3)])) dX8_isClear_1 ha3 (by decide) (fun _ => rfl) (fun v1 hv1 => ?_)
  exact jw_few [1, 2, 3, 0] rfl (pX8_isClear_3 G M jw_fu a1 a2 v1 ha1 ha2 hv1)
theorem kX8_isClear (G : jw_G) (a1 : Int) (a2 : Int) (a3 : Int) (ha1 : jw_r a1) (ha2 : jw_r a2) (ha3 : jw_r a3) (M : jw_M) : jw_Ct G YX8_isClear (some .boolean) 2 0 0 true (fun v => (v, M)) yX8_isClear [jR G 119, jI a1, jI a2, jI a3] M (fX8_isClear a1 a2 a3 M) := jw_met (by decide) rfl rfl rfl (Nat.le_of_ble_eq_true rfl) (rX8_isClear G a1 a2 a3 ha1 ha2 ha3 M)
abbrev YX8_numberOfWay : jw_Y := (RX8, cX8_numberOfWay, 3, 1, "numberOfWay")
theorem qX8_numberOfWay : jw_cy YX8_numberOfWay (some .int) yX8_numberOfWay 0 := ⟨by decide, jt_994, jt_11, by decide, by decide +kernel⟩
theorem dX8_numberOfWay_0 : decode cX8_numberOfWay 0 = .ok (.iconst 0, 1) := by decide +kernel
theorem dX8_numberOfWay_1 : decode cX8_numberOfWay 1 = .ok (.istore_n 1, 1) := by decide +kernel
theorem dX8_numberOfWay_2 : decode cX8_numberOfWay 2 = .ok (.aload_n 0, 1) := by decide +kernel
theorem dX8_numberOfWay_3 : decode cX8_numberOfWay 3 = .ok (.getfield 32, 3) := by decide +kernel
theorem dX8_numberOfWay_6 : decode cX8_numberOfWay 6 = .ok (.getfield 38, 3) := by decide +kernel
theorem dX8_numberOfWay_9 : decode cX8_numberOfWay 9 = .ok (.iconst 1, 1) := by decide +kernel
theorem dX8_numberOfWay_10 : decode cX8_numberOfWay 10 = .ok (.isub, 1) := by decide +kernel
theorem dX8_numberOfWay_11 : decode cX8_numberOfWay 11 = .ok (.istore_n 2, 1) := by decide +kernel
theorem dX8_numberOfWay_12 : decode cX8_numberOfWay 12 = .ok (.iload_n 2, 1) := by decide +kernel
theorem dX8_numberOfWay_13 : decode cX8_numberOfWay 13 = .ok (.ifCond .lt 21, 3) := by decide +kernel
theorem dX8_numberOfWay_16 : decode cX8_numberOfWay 16 = .ok (.bipush 7, 2) := by decide +kernel
theorem dX8_numberOfWay_18 : decode cX8_numberOfWay 18 = .ok (.iload_n 1, 1) := by decide +kernel
theorem dX8_numberOfWay_19 : decode cX8_numberOfWay 19 = .ok (.imul, 1) := by decide +kernel
theorem dX8_numberOfWay_20 : decode cX8_numberOfWay 20 = .ok (.aload_n 0, 1) := by decide +kernel
theorem dX8_numberOfWay_21 : decode cX8_numberOfWay 21 = .ok (.getfield 9, 3) := by decide +kernel
theorem dX8_numberOfWay_24 : decode cX8_numberOfWay 24 = .ok (.iload_n 2, 1) := by decide +kernel
theorem dX8_numberOfWay_25 : decode cX8_numberOfWay 25 = .ok (.iaload, 1) := by decide +kernel
theorem dX8_numberOfWay_26 : decode cX8_numberOfWay 26 = .ok (.iadd, 1) := by decide +kernel
theorem dX8_numberOfWay_27 : decode cX8_numberOfWay 27 = .ok (.istore_n 1, 1) := by decide +kernel
theorem dX8_numberOfWay_28 : decode cX8_numberOfWay 28 = .ok (.iinc 2 (-1), 3) := by decide +kernel
theorem dX8_numberOfWay_31 : decode cX8_numberOfWay 31 = .ok (.goto (-19), 3) := by decide +kernel
theorem dX8_numberOfWay_34 : decode cX8_numberOfWay 34 = .ok (.iload_n 1, 1) := by decide +kernel
theorem dX8_numberOfWay_35 : decode cX8_numberOfWay 35 = .ok (.ireturn, 1) := by decide +kernel
def fX8_numberOfWay_12 (M : jw_M) : Nat → Int → Int → Option Int
  | 0, _, _ => none
  | k + 1, x1, x2 => if x2 < 0 then (some x1) else (if 0 ≤ x2 ∧ x2 < 5 then Option.bind (some (jw_w ((jw_w (7 * x1)) + (M 120 x2)))) (fun v5 => Option.bind (some (jw_w (x2 + (-1)))) (fun v6 => fX8_numberOfWay_12 M k v5 v6)) else none)
set_option maxRecDepth 100000 in
theorem pX8_numberOfWay_12 (G : jw_G) (M : jw_M) : ∀ (k : Nat) (x1 : Int) (x2 : Int) (hx1 : jw_r x1) (hx2 : jw_r x2), jw_Rn G YX8_numberOfWay 1 0 0 true (fun v => (v, M)) 12 [(0, jR G 119), (1, jI x1), (2, jI x2)] [] M (fX8_numberOfWay_12 M k x1 x2) := by
  intro k
  induction k with
  | zero =>
    intro x1 x2 hx1 hx2
    exact jw_none
  | succ k ih =>
    intro x1 x2 hx1 hx2
    rw [fX8_numberOfWay_12]
    refine jw_iload_n (pc := 12) 2 dX8_numberOfWay_12 rfl ?_
    refine jw_if_lt (pc := 13) 34 dX8_numberOfWay_13 (by decide) hx2 (fun _ => ?_) (fun _ => ?_)
    · refine jw_iload_n (pc := 34) 1 dX8_numberOfWay_34 rfl ?_
      exact jw_ret (pc := 35) (v := x1) dX8_numberOfWay_35 hx1 rfl rfl
    · refine jw_bipush (pc := 16) dX8_numberOfWay_16 rfl ?_
      refine jw_iload_n (pc := 18) 1 dX8_numberOfWay_18 rfl ?_
      refine jw_imul (pc := 19) dX8_numberOfWay_19 ?_
      refine jw_aloadR (pc := 20) 0 dX8_numberOfWay_20 rfl ?_
      refine jw_getR (pc := 21) (j := 3) rfl dX8_numberOfWay_21 jv_8 ji_8 (Or.inl jt_303) jg_119 jl_119 (by decide) (by decide) rfl jf_8_3 ?_
      refine jw_iload_n (pc := 24) 2 dX8_numberOfWay_24 rfl ?_
      refine jw_iald (pc := 25) dX8_numberOfWay_25 jg_120 jl_120 (jw_ho jg_120 (by decide)) hx2 rfl (fun h4 => ?_)
      refine jw_iadd (pc := 26) dX8_numberOfWay_26 ?_
      refine jw_istore_nL (pc := 27) (lv' := (fun y => [(1, y), (0, jR G 119), (2, jI x2)])) dX8_numberOfWay_27 (jw_wr _) (by decide) (fun _ => rfl) (fun v5 hv5 => ?_)
      refine jw_iincL (pc := 28) 2 (lv' := (fun y => [(2, y), (1, jI v5), (0, jR G 119)])) dX8_numberOfWay_28 rfl (Nat.le_of_ble_eq_true rfl) (fun _ => rfl) (fun v6 hv6 => ?_)
      refine jw_goto (pc := 31) 12 dX8_numberOfWay_31 (by decide) ?_
      exact jw_few [2, 1, 0] rfl (ih v5 v6 hv5 hv6)
def fX8_numberOfWay (M : jw_M) : Option Int :=
  Option.bind (some 0) (fun v1 => Option.bind (some (jw_w ((M 17 4) - 1))) (fun v3 => fX8_numberOfWay_12 M jw_fu v1 v3))
set_option maxRecDepth 100000 in
theorem rX8_numberOfWay (G : jw_G) (M : jw_M) : jw_Rn G YX8_numberOfWay 1 0 0 true (fun v => (v, M)) 0 [(0, jR G 119)] [] M (fX8_numberOfWay M) := by
  unfold fX8_numberOfWay
  refine jw_iconst (pc := 0) dX8_numberOfWay_0 ?_
  refine jw_istore_nL (pc := 1) (lv' := (fun y => [(1, y), (0, jR G 119)])) dX8_numberOfWay_1 (jw_rc _ rfl) (by decide) (fun _ => rfl) (fun v1 hv1 => ?_)
  refine jw_aloadR (pc := 2) 1 dX8_numberOfWay_2 rfl ?_
  refine jw_getR (pc := 3) (j := 1) rfl dX8_numberOfWay_3 jv_8 ji_8 (Or.inl jt_301) jg_119 jl_119 (by decide) (by decide) rfl jf_8_1 ?_
  refine jw_getI (pc := 6) (j := 4) rfl dX8_numberOfWay_6 jv_10 ji_10 (Or.inr ⟨_, jt_153⟩) jg_17 jl_17 (by decide) (by decide) (jw_ho jg_17 (by decide)) (Or.inl rfl) rfl (fun h2 => ?_)
  refine jw_iconst (pc := 9) dX8_numberOfWay_9 ?_
  refine jw_isub (pc := 10) dX8_numberOfWay_10 ?_
  refine jw_istore_nL (pc := 11) (lv' := (fun y => [(2, y), (1, jI v1), (0, jR G 119)])) dX8_numberOfWay_11 (jw_wr _) (by decide) (fun _ => rfl) (fun v3 hv3 => ?_)
  exact jw_few [2, 1, 0] rfl (pX8_numberOfWay_12 G M jw_fu v1 v3 hv1 hv3)
theorem kX8_numberOfWay (G : jw_G) (M : jw_M) : jw_Ct G YX8_numberOfWay (some .int) 1 0 0 true (fun v => (v, M)) yX8_numberOfWay [jR G 119] M (fX8_numberOfWay M) := jw_met (by decide) rfl rfl rfl (Nat.le_of_ble_eq_true rfl) (rX8_numberOfWay G M)
abbrev YX8_searchedScore : jw_Y := (RX8, cX8_searchedScore, 5, 1, "searchedScore")
theorem qX8_searchedScore : jw_cy YX8_searchedScore (some .int) yX8_searchedScore 3 := ⟨by decide, jt_986, jt_11, by decide, by decide +kernel⟩
theorem dX8_searchedScore_0 : decode cX8_searchedScore 0 = .ok (.aload_n 0, 1) := by decide +kernel
theorem dX8_searchedScore_1 : decode cX8_searchedScore 1 = .ok (.getfield 15, 3) := by decide +kernel
theorem dX8_searchedScore_4 : decode cX8_searchedScore 4 = .ok (.aload_n 0, 1) := by decide +kernel
theorem dX8_searchedScore_5 : decode cX8_searchedScore 5 = .ok (.getfield 32, 3) := by decide +kernel
theorem dX8_searchedScore_8 : decode cX8_searchedScore 8 = .ok (.getfield 44, 3) := by decide +kernel
theorem dX8_searchedScore_11 : decode cX8_searchedScore 11 = .ok (.iload_n 1, 1) := by decide +kernel
theorem dX8_searchedScore_12 : decode cX8_searchedScore 12 = .ok (.iaload, 1) := by decide +kernel
theorem dX8_searchedScore_13 : decode cX8_searchedScore 13 = .ok (.bipush 7, 2) := by decide +kernel
theorem dX8_searchedScore_15 : decode cX8_searchedScore 15 = .ok (.imul, 1) := by decide +kernel
theorem dX8_searchedScore_16 : decode cX8_searchedScore 16 = .ok (.iload_n 2, 1) := by decide +kernel
theorem dX8_searchedScore_17 : decode cX8_searchedScore 17 = .ok (.iadd, 1) := by decide +kernel
theorem dX8_searchedScore_18 : decode cX8_searchedScore 18 = .ok (.iaload, 1) := by decide +kernel
theorem dX8_searchedScore_19 : decode cX8_searchedScore 19 = .ok (.iload_n 3, 1) := by decide +kernel
theorem dX8_searchedScore_20 : decode cX8_searchedScore 20 = .ok (.iadd, 1) := by decide +kernel
theorem dX8_searchedScore_21 : decode cX8_searchedScore 21 = .ok (.istore 4, 2) := by decide +kernel
theorem dX8_searchedScore_23 : decode cX8_searchedScore 23 = .ok (.aload_n 0, 1) := by decide +kernel
theorem dX8_searchedScore_24 : decode cX8_searchedScore 24 = .ok (.getfield 18, 3) := by decide +kernel
theorem dX8_searchedScore_27 : decode cX8_searchedScore 27 = .ok (.iload_n 1, 1) := by decide +kernel
theorem dX8_searchedScore_28 : decode cX8_searchedScore 28 = .ok (.bipush 7, 2) := by decide +kernel
theorem dX8_searchedScore_30 : decode cX8_searchedScore 30 = .ok (.imul, 1) := by decide +kernel
theorem dX8_searchedScore_31 : decode cX8_searchedScore 31 = .ok (.iload_n 2, 1) := by decide +kernel
theorem dX8_searchedScore_32 : decode cX8_searchedScore 32 = .ok (.iadd, 1) := by decide +kernel
theorem dX8_searchedScore_33 : decode cX8_searchedScore 33 = .ok (.bipush 6, 2) := by decide +kernel
theorem dX8_searchedScore_35 : decode cX8_searchedScore 35 = .ok (.imul, 1) := by decide +kernel
theorem dX8_searchedScore_36 : decode cX8_searchedScore 36 = .ok (.iload 4, 2) := by decide +kernel
theorem dX8_searchedScore_38 : decode cX8_searchedScore 38 = .ok (.iadd, 1) := by decide +kernel
theorem dX8_searchedScore_39 : decode cX8_searchedScore 39 = .ok (.iaload, 1) := by decide +kernel
theorem dX8_searchedScore_40 : decode cX8_searchedScore 40 = .ok (.ireturn, 1) := by decide +kernel
def fX8_searchedScore (a1 : Int) (a2 : Int) (a3 : Int) (M : jw_M) : Option Int :=
  if 0 ≤ a1 ∧ a1 < 5 then if 0 ≤ jw_w ((jw_w ((M (17 + 4) a1) * 7)) + a2) ∧ jw_w ((jw_w ((M (17 + 4) a1) * 7)) + a2) < 28 then Option.bind (some (jw_w ((M 121 (jw_w ((jw_w ((M (17 + 4) a1) * 7)) + a2))) + a3))) (fun v3 => if 0 ≤ jw_w ((jw_w ((jw_w ((jw_w (a1 * 7)) + a2)) * 6)) + v3) ∧ jw_w ((jw_w ((jw_w ((jw_w (a1 * 7)) + a2)) * 6)) + v3) < 210 then some (M 122 (jw_w ((jw_w ((jw_w ((jw_w (a1 * 7)) + a2)) * 6)) + v3))) else none) else none else none
set_option maxRecDepth 100000 in
theorem rX8_searchedScore (G : jw_G) (a1 : Int) (a2 : Int) (a3 : Int) (ha1 : jw_r a1) (ha2 : jw_r a2) (ha3 : jw_r a3) (M : jw_M) : jw_Rn G YX8_searchedScore 1 0 0 true (fun v => (v, M)) 0 [(0, jR G 119), (1, jI a1), (2, jI a2), (3, jI a3)] [] M (fX8_searchedScore a1 a2 a3 M) := by
  unfold fX8_searchedScore
  refine jw_aloadR (pc := 0) 0 dX8_searchedScore_0 rfl ?_
  refine jw_getR (pc := 1) (j := 4) rfl dX8_searchedScore_1 jv_8 ji_8 (Or.inl jt_304) jg_119 jl_119 (by decide) (by decide) rfl jf_8_4 ?_
  refine jw_aloadR (pc := 4) 0 dX8_searchedScore_4 rfl ?_
  refine jw_getR (pc := 5) (j := 1) rfl dX8_searchedScore_5 jv_8 ji_8 (Or.inl jt_301) jg_119 jl_119 (by decide) (by decide) rfl jf_8_1 ?_
  refine jw_getR (pc := 8) (j := 5) rfl dX8_searchedScore_8 jv_10 ji_10 (Or.inr ⟨_, jt_157⟩) jg_17 jl_17 (by decide) (by decide) rfl (jf_10_5 jg_17).1 ?_
  refine jw_iload_n (pc := 11) 1 dX8_searchedScore_11 rfl ?_
  refine jw_iald (pc := 12) dX8_searchedScore_12 (jf_10_5 jg_17).2.1 (jf_10_5 jg_17).2.2 (jw_ho (jf_10_5 jg_17).2.1 (by decide)) ha1 rfl (fun h1 => ?_)
  refine jw_bipush (pc := 13) dX8_searchedScore_13 rfl ?_
  refine jw_imul (pc := 15) dX8_searchedScore_15 ?_
  refine jw_iload_n (pc := 16) 2 dX8_searchedScore_16 rfl ?_
  refine jw_iadd (pc := 17) dX8_searchedScore_17 ?_
  refine jw_iald (pc := 18) dX8_searchedScore_18 jg_121 jl_121 (jw_ho jg_121 (by decide)) (jw_wr _) rfl (fun h2 => ?_)
  refine jw_iload_n (pc := 19) 3 dX8_searchedScore_19 rfl ?_
  refine jw_iadd (pc := 20) dX8_searchedScore_20 ?_
  refine jw_istoreL (pc := 21) (lv' := (fun y => [(4, y), (0, jR G 119), (1, jI a1), (2, jI a2), (3, jI a3)])) dX8_searchedScore_21 (jw_wr _) (by decide) (fun _ => rfl) (fun v3 hv3 => ?_)
  refine jw_aloadR (pc := 23) 1 dX8_searchedScore_23 rfl ?_
  refine jw_getR (pc := 24) (j := 5) rfl dX8_searchedScore_24 jv_8 ji_8 (Or.inl jt_305) jg_119 jl_119 (by decide) (by decide) rfl jf_8_5 ?_
  refine jw_iload_n (pc := 27) 2 dX8_searchedScore_27 rfl ?_
  refine jw_bipush (pc := 28) dX8_searchedScore_28 rfl ?_
  refine jw_imul (pc := 30) dX8_searchedScore_30 ?_
  refine jw_iload_n (pc := 31) 3 dX8_searchedScore_31 rfl ?_
  refine jw_iadd (pc := 32) dX8_searchedScore_32 ?_
  refine jw_bipush (pc := 33) dX8_searchedScore_33 rfl ?_
  refine jw_imul (pc := 35) dX8_searchedScore_35 ?_
  refine jw_iload (pc := 36) 0 dX8_searchedScore_36 rfl ?_
  refine jw_iadd (pc := 38) dX8_searchedScore_38 ?_
  refine jw_iald (pc := 39) dX8_searchedScore_39 jg_122 jl_122 (jw_ho jg_122 (by decide)) (jw_wr _) rfl (fun h4 => ?_)
  exact jw_ret (pc := 40) (v := M 122 (jw_w ((jw_w ((jw_w ((jw_w (a1 * 7)) + a2)) * 6)) + v3))) dX8_searchedScore_40 h4 rfl rfl
theorem kX8_searchedScore (G : jw_G) (a1 : Int) (a2 : Int) (a3 : Int) (ha1 : jw_r a1) (ha2 : jw_r a2) (ha3 : jw_r a3) (M : jw_M) : jw_Ct G YX8_searchedScore (some .int) 1 0 0 true (fun v => (v, M)) yX8_searchedScore [jR G 119, jI a1, jI a2, jI a3] M (fX8_searchedScore a1 a2 a3 M) := jw_met (by decide) rfl rfl rfl (Nat.le_of_ble_eq_true rfl) (rX8_searchedScore G a1 a2 a3 ha1 ha2 ha3 M)
abbrev YX8_wantsToMove : jw_Y := (RX8, cX8_wantsToMove, 5, 4, "wantsToMove")
theorem qX8_wantsToMove : jw_cy YX8_wantsToMove (some .boolean) yX8_wantsToMove 1 := ⟨by decide, jt_982, jt_11, by decide, by decide +kernel⟩
theorem dX8_wantsToMove_0 : decode cX8_wantsToMove 0 = .ok (.aload_n 0, 1) := by decide +kernel
theorem dX8_wantsToMove_1 : decode cX8_wantsToMove 1 = .ok (.getfield 9, 3) := by decide +kernel
theorem dX8_wantsToMove_4 : decode cX8_wantsToMove 4 = .ok (.iload_n 1, 1) := by decide +kernel
theorem dX8_wantsToMove_5 : decode cX8_wantsToMove 5 = .ok (.iaload, 1) := by decide +kernel
theorem dX8_wantsToMove_6 : decode cX8_wantsToMove 6 = .ok (.istore_n 2, 1) := by decide +kernel
theorem dX8_wantsToMove_7 : decode cX8_wantsToMove 7 = .ok (.aload_n 0, 1) := by decide +kernel
theorem dX8_wantsToMove_8 : decode cX8_wantsToMove 8 = .ok (.iload_n 1, 1) := by decide +kernel
theorem dX8_wantsToMove_9 : decode cX8_wantsToMove 9 = .ok (.iload_n 2, 1) := by decide +kernel
theorem dX8_wantsToMove_10 : decode cX8_wantsToMove 10 = .ok (.iconst 0, 1) := by decide +kernel
theorem dX8_wantsToMove_11 : decode cX8_wantsToMove 11 = .ok (.invokevirtual 132, 3) := by decide +kernel
theorem dX8_wantsToMove_14 : decode cX8_wantsToMove 14 = .ok (.istore_n 3, 1) := by decide +kernel
theorem dX8_wantsToMove_15 : decode cX8_wantsToMove 15 = .ok (.iconst 0, 1) := by decide +kernel
theorem dX8_wantsToMove_16 : decode cX8_wantsToMove 16 = .ok (.istore 4, 2) := by decide +kernel
theorem dX8_wantsToMove_18 : decode cX8_wantsToMove 18 = .ok (.iload 4, 2) := by decide +kernel
theorem dX8_wantsToMove_20 : decode cX8_wantsToMove 20 = .ok (.aload_n 0, 1) := by decide +kernel
theorem dX8_wantsToMove_21 : decode cX8_wantsToMove 21 = .ok (.getfield 27, 3) := by decide +kernel
theorem dX8_wantsToMove_24 : decode cX8_wantsToMove 24 = .ok (.getfield 79, 3) := by decide +kernel
theorem dX8_wantsToMove_27 : decode cX8_wantsToMove 27 = .ok (.if_icmp .ge 40, 3) := by decide +kernel
theorem dX8_wantsToMove_30 : decode cX8_wantsToMove 30 = .ok (.iload 4, 2) := by decide +kernel
theorem dX8_wantsToMove_32 : decode cX8_wantsToMove 32 = .ok (.iload_n 2, 1) := by decide +kernel
theorem dX8_wantsToMove_33 : decode cX8_wantsToMove 33 = .ok (.if_icmp .eq 28, 3) := by decide +kernel
theorem dX8_wantsToMove_36 : decode cX8_wantsToMove 36 = .ok (.aload_n 0, 1) := by decide +kernel
theorem dX8_wantsToMove_37 : decode cX8_wantsToMove 37 = .ok (.iload_n 1, 1) := by decide +kernel
theorem dX8_wantsToMove_38 : decode cX8_wantsToMove 38 = .ok (.iload 4, 2) := by decide +kernel
theorem dX8_wantsToMove_40 : decode cX8_wantsToMove 40 = .ok (.iconst 1, 1) := by decide +kernel
theorem dX8_wantsToMove_41 : decode cX8_wantsToMove 41 = .ok (.invokevirtual 132, 3) := by decide +kernel
theorem dX8_wantsToMove_44 : decode cX8_wantsToMove 44 = .ok (.iload_n 3, 1) := by decide +kernel
theorem dX8_wantsToMove_45 : decode cX8_wantsToMove 45 = .ok (.if_icmp .le 16, 3) := by decide +kernel
theorem dX8_wantsToMove_48 : decode cX8_wantsToMove 48 = .ok (.aload_n 0, 1) := by decide +kernel
theorem dX8_wantsToMove_49 : decode cX8_wantsToMove 49 = .ok (.iload_n 1, 1) := by decide +kernel
theorem dX8_wantsToMove_50 : decode cX8_wantsToMove 50 = .ok (.iload 4, 2) := by decide +kernel
theorem dX8_wantsToMove_52 : decode cX8_wantsToMove 52 = .ok (.iconst 0, 1) := by decide +kernel
theorem dX8_wantsToMove_53 : decode cX8_wantsToMove 53 = .ok (.invokevirtual 122, 3) := by decide +kernel
theorem dX8_wantsToMove_56 : decode cX8_wantsToMove 56 = .ok (.ifCond .eq 5, 3) := by decide +kernel
theorem dX8_wantsToMove_59 : decode cX8_wantsToMove 59 = .ok (.iconst 1, 1) := by decide +kernel
theorem dX8_wantsToMove_60 : decode cX8_wantsToMove 60 = .ok (.ireturn, 1) := by decide +kernel
theorem dX8_wantsToMove_61 : decode cX8_wantsToMove 61 = .ok (.iinc 4 1, 3) := by decide +kernel
theorem dX8_wantsToMove_64 : decode cX8_wantsToMove 64 = .ok (.goto (-46), 3) := by decide +kernel
theorem dX8_wantsToMove_67 : decode cX8_wantsToMove 67 = .ok (.iconst 0, 1) := by decide +kernel
theorem dX8_wantsToMove_68 : decode cX8_wantsToMove 68 = .ok (.ireturn, 1) := by decide +kernel
def fX8_wantsToMove_61 (M : jw_M) (r18 : Int → Int → Int → Int → Option Int) (x1 : Int) (x2 : Int) (x3 : Int) (x4 : Int) : Option Int :=
  Option.bind (some (jw_w (x4 + 1))) (fun v7 => r18 x1 x2 x3 v7)
set_option maxRecDepth 100000 in
theorem pX8_wantsToMove_61 (G : jw_G) (M : jw_M) (r18 : Int → Int → Int → Int → Option Int) (hr18 : ∀ (x1 : Int) (x2 : Int) (x3 : Int) (x4 : Int) (hx1 : jw_r x1) (hx2 : jw_r x2) (hx3 : jw_r x3) (hx4 : jw_r x4), jw_Rn G YX8_wantsToMove 3 0 0 true (fun v => (v, M)) 18 [(0, jR G 119), (1, jI x1), (2, jI x2), (3, jI x3), (4, jI x4)] [] M (r18 x1 x2 x3 x4)) : ∀ (x1 : Int) (x2 : Int) (x3 : Int) (x4 : Int) (hx1 : jw_r x1) (hx2 : jw_r x2) (hx3 : jw_r x3) (hx4 : jw_r x4), jw_Rn G YX8_wantsToMove 3 0 0 true (fun v => (v, M)) 61 [(0, jR G 119), (1, jI x1), (2, jI x2), (3, jI x3), (4, jI x4)] [] M (fX8_wantsToMove_61 M r18 x1 x2 x3 x4) := by
  intro x1 x2 x3 x4 hx1 hx2 hx3 hx4
  unfold fX8_wantsToMove_61
  refine jw_iincL (pc := 61) 4 (lv' := (fun y => [(4, y), (0, jR G 119), (1, jI x1), (2, jI x2), (3, jI x3)])) dX8_wantsToMove_61 rfl (Nat.le_of_ble_eq_true rfl) (fun _ => rfl) (fun v7 hv7 => ?_)
  refine jw_goto (pc := 64) 18 dX8_wantsToMove_64 (by decide) ?_
  exact jw_few [1, 2, 3, 4, 0] rfl (hr18 x1 x2 x3 v7 hx1 hx2 hx3 hv7)
def fX8_wantsToMove_18 (M : jw_M) : Nat → Int → Int → Int → Int → Option Int
  | 0, _, _, _, _ => none
  | k + 1, x1, x2, x3, x4 => if x4 < M 10 0 then (if x4 = x2 then (fX8_wantsToMove_61 M (fX8_wantsToMove_18 M k) x1 x2 x3 x4) else (Option.bind (fX8_searchedScore x1 x4 1 M) (fun v8 => if x3 < v8 then (Option.bind (fX8_isClear x1 x4 0 M) (fun v9 => if v9 = 0 then (fX8_wantsToMove_61 M (fX8_wantsToMove_18 M k) x1 x2 x3 x4) else (some 1))) else (fX8_wantsToMove_61 M (fX8_wantsToMove_18 M k) x1 x2 x3 x4)))) else (some 0)
set_option maxRecDepth 100000 in
theorem pX8_wantsToMove_18 (G : jw_G) (M : jw_M) : ∀ (k : Nat) (x1 : Int) (x2 : Int) (x3 : Int) (x4 : Int) (hx1 : jw_r x1) (hx2 : jw_r x2) (hx3 : jw_r x3) (hx4 : jw_r x4), jw_Rn G YX8_wantsToMove 3 0 0 true (fun v => (v, M)) 18 [(0, jR G 119), (1, jI x1), (2, jI x2), (3, jI x3), (4, jI x4)] [] M (fX8_wantsToMove_18 M k x1 x2 x3 x4) := by
  intro k
  induction k with
  | zero =>
    intro x1 x2 x3 x4 hx1 hx2 hx3 hx4
    exact jw_none
  | succ k ih =>
    intro x1 x2 x3 x4 hx1 hx2 hx3 hx4
    rw [fX8_wantsToMove_18]
    refine jw_iload (pc := 18) 4 dX8_wantsToMove_18 rfl ?_
    refine jw_aloadR (pc := 20) 0 dX8_wantsToMove_20 rfl ?_
    refine jw_getR (pc := 21) (j := 0) rfl dX8_wantsToMove_21 jv_8 ji_8 (Or.inl jt_300) jg_119 jl_119 (by decide) (by decide) rfl jf_8_0 ?_
    refine jw_getI (pc := 24) (j := 0) rfl dX8_wantsToMove_24 jv_9 ji_9 (Or.inr ⟨_, jt_95⟩) jg_10 jl_10 (by decide) (by decide) (jw_ho jg_10 (by decide)) (Or.inl rfl) rfl (fun h6 => ?_)
    refine jw_ic_ge (pc := 27) 67 dX8_wantsToMove_27 (by decide) hx4 h6 (fun _ => ?_) (fun _ => ?_)
    · refine jw_iload (pc := 30) 4 dX8_wantsToMove_30 rfl ?_
      refine jw_iload_n (pc := 32) 2 dX8_wantsToMove_32 rfl ?_
      refine jw_ic_eq (pc := 33) 61 dX8_wantsToMove_33 (by decide) hx4 hx2 (fun _ => ?_) (fun _ => ?_)
      · exact jw_few [0, 1, 2, 3, 4] rfl (pX8_wantsToMove_61 G M (fX8_wantsToMove_18 M k) ih x1 x2 x3 x4 hx1 hx2 hx3 hx4)
      · refine jw_aloadR (pc := 36) 0 dX8_wantsToMove_36 rfl ?_
        refine jw_iload_n (pc := 37) 1 dX8_wantsToMove_37 rfl ?_
        refine jw_iload (pc := 38) 4 dX8_wantsToMove_38 rfl ?_
        refine jw_iconst (pc := 40) dX8_wantsToMove_40 ?_
        refine jw_callVi (pc := 41) (As := [jI x1, jI x4, jI 1]) (st := []) dX8_wantsToMove_41 rfl (Nat.le_of_ble_eq_true rfl) qX8_searchedScore jt_983 jt_985 jp_25 rfl rfl (Nat.le_of_ble_eq_true rfl) jv_8 rfl jg_119 jl_119 (by decide) (jw_ho jg_119 (by decide)) (kX8_searchedScore G x1 x4 1 hx1 hx4 (jw_rc _ rfl) M) (fun v8 hv8 => ?_)
        refine jw_iload_n (pc := 44) 3 dX8_wantsToMove_44 rfl ?_
        refine jw_ic_le (pc := 45) 61 dX8_wantsToMove_45 (by decide) hv8 hx3 (fun _ => ?_) (fun _ => ?_)
        · refine jw_aloadR (pc := 48) 0 dX8_wantsToMove_48 rfl ?_
          refine jw_iload_n (pc := 49) 1 dX8_wantsToMove_49 rfl ?_
          refine jw_iload (pc := 50) 4 dX8_wantsToMove_50 rfl ?_
          refine jw_iconst (pc := 52) dX8_wantsToMove_52 ?_
          refine jw_callVz (pc := 53) (As := [jI x1, jI x4, jI 0]) (st := []) dX8_wantsToMove_53 rfl (Nat.le_of_ble_eq_true rfl) qX8_isClear jt_987 jt_989 jp_26 rfl rfl (Nat.le_of_ble_eq_true rfl) jv_8 rfl jg_119 jl_119 (by decide) (jw_ho jg_119 (by decide)) (kX8_isClear G x1 x4 0 hx1 hx4 (jw_rc _ rfl) M) (fun v9 hv9 => ?_)
          refine jw_if_eq (pc := 56) 61 dX8_wantsToMove_56 (by decide) (jw_bz hv9) (fun _ => ?_) (fun _ => ?_)
          · exact jw_few [0, 1, 2, 3, 4] rfl (pX8_wantsToMove_61 G M (fX8_wantsToMove_18 M k) ih x1 x2 x3 x4 hx1 hx2 hx3 hx4)
          · refine jw_iconst (pc := 59) dX8_wantsToMove_59 ?_
            exact jw_ret (pc := 60) (v := 1) dX8_wantsToMove_60 (Or.inr rfl) rfl rfl
        · exact jw_few [0, 1, 2, 3, 4] rfl (pX8_wantsToMove_61 G M (fX8_wantsToMove_18 M k) ih x1 x2 x3 x4 hx1 hx2 hx3 hx4)
    · refine jw_iconst (pc := 67) dX8_wantsToMove_67 ?_
      exact jw_ret (pc := 68) (v := 0) dX8_wantsToMove_68 (Or.inl rfl) rfl rfl
def fX8_wantsToMove (a1 : Int) (M : jw_M) : Option Int :=
  if 0 ≤ a1 ∧ a1 < 5 then Option.bind (some (M 120 a1)) (fun v2 => Option.bind (fX8_searchedScore a1 v2 0 M) (fun v3 => Option.bind (some v3) (fun v4 => Option.bind (some 0) (fun v5 => fX8_wantsToMove_18 M jw_fu a1 v2 v4 v5)))) else none
set_option maxRecDepth 100000 in
theorem rX8_wantsToMove (G : jw_G) (a1 : Int) (ha1 : jw_r a1) (M : jw_M) : jw_Rn G YX8_wantsToMove 3 0 0 true (fun v => (v, M)) 0 [(0, jR G 119), (1, jI a1)] [] M (fX8_wantsToMove a1 M) := by
  unfold fX8_wantsToMove
  refine jw_aloadR (pc := 0) 0 dX8_wantsToMove_0 rfl ?_
  refine jw_getR (pc := 1) (j := 3) rfl dX8_wantsToMove_1 jv_8 ji_8 (Or.inl jt_303) jg_119 jl_119 (by decide) (by decide) rfl jf_8_3 ?_
  refine jw_iload_n (pc := 4) 1 dX8_wantsToMove_4 rfl ?_
  refine jw_iald (pc := 5) dX8_wantsToMove_5 jg_120 jl_120 (jw_ho jg_120 (by decide)) ha1 rfl (fun h1 => ?_)
  refine jw_istore_nL (pc := 6) (lv' := (fun y => [(2, y), (0, jR G 119), (1, jI a1)])) dX8_wantsToMove_6 h1 (by decide) (fun _ => rfl) (fun v2 hv2 => ?_)
  refine jw_aloadR (pc := 7) 1 dX8_wantsToMove_7 rfl ?_
  refine jw_iload_n (pc := 8) 2 dX8_wantsToMove_8 rfl ?_
  refine jw_iload_n (pc := 9) 0 dX8_wantsToMove_9 rfl ?_
  refine jw_iconst (pc := 10) dX8_wantsToMove_10 ?_
  refine jw_callVi (pc := 11) (As := [jI a1, jI v2, jI 0]) (st := []) dX8_wantsToMove_11 rfl (Nat.le_of_ble_eq_true rfl) qX8_searchedScore jt_983 jt_985 jp_25 rfl rfl (Nat.le_of_ble_eq_true rfl) jv_8 rfl jg_119 jl_119 (by decide) (jw_ho jg_119 (by decide)) (kX8_searchedScore G a1 v2 0 ha1 hv2 (jw_rc _ rfl) M) (fun v3 hv3 => ?_)
  refine jw_istore_nL (pc := 14) (lv' := (fun y => [(3, y), (2, jI v2), (0, jR G 119), (1, jI a1)])) dX8_wantsToMove_14 hv3 (by decide) (fun _ => rfl) (fun v4 hv4 => ?_)
  refine jw_iconst (pc := 15) dX8_wantsToMove_15 ?_
  refine jw_istoreL (pc := 16) (lv' := (fun y => [(4, y), (3, jI v4), (2, jI v2), (0, jR G 119), (1, jI a1)])) dX8_wantsToMove_16 (jw_rc _ rfl) (by decide) (fun _ => rfl) (fun v5 hv5 => ?_)
  exact jw_few [3, 4, 2, 1, 0] rfl (pX8_wantsToMove_18 G M jw_fu a1 v2 v4 v5 ha1 hv2 hv4 hv5)
theorem kX8_wantsToMove (G : jw_G) (a1 : Int) (ha1 : jw_r a1) (M : jw_M) : jw_Ct G YX8_wantsToMove (some .boolean) 3 0 0 true (fun v => (v, M)) yX8_wantsToMove [jR G 119, jI a1] M (fX8_wantsToMove a1 M) := jw_met (by decide) rfl rfl rfl (Nat.le_of_ble_eq_true rfl) (rX8_wantsToMove G a1 ha1 M)
abbrev YX8_noteIfAtRest : jw_Y := (RX8, cX8_noteIfAtRest, 2, 0, "noteIfAtRest")
theorem qX8_noteIfAtRest : jw_cy YX8_noteIfAtRest none yX8_noteIfAtRest 0 := ⟨by decide, jt_978, jt_11, by decide, by decide +kernel⟩
theorem dX8_noteIfAtRest_0 : decode cX8_noteIfAtRest 0 = .ok (.iconst 0, 1) := by decide +kernel
theorem dX8_noteIfAtRest_1 : decode cX8_noteIfAtRest 1 = .ok (.istore_n 1, 1) := by decide +kernel
theorem dX8_noteIfAtRest_2 : decode cX8_noteIfAtRest 2 = .ok (.iload_n 1, 1) := by decide +kernel
theorem dX8_noteIfAtRest_3 : decode cX8_noteIfAtRest 3 = .ok (.aload_n 0, 1) := by decide +kernel
theorem dX8_noteIfAtRest_4 : decode cX8_noteIfAtRest 4 = .ok (.getfield 32, 3) := by decide +kernel
theorem dX8_noteIfAtRest_7 : decode cX8_noteIfAtRest 7 = .ok (.getfield 38, 3) := by decide +kernel
theorem dX8_noteIfAtRest_10 : decode cX8_noteIfAtRest 10 = .ok (.if_icmp .ge 18, 3) := by decide +kernel
theorem dX8_noteIfAtRest_13 : decode cX8_noteIfAtRest 13 = .ok (.aload_n 0, 1) := by decide +kernel
theorem dX8_noteIfAtRest_14 : decode cX8_noteIfAtRest 14 = .ok (.iload_n 1, 1) := by decide +kernel
theorem dX8_noteIfAtRest_15 : decode cX8_noteIfAtRest 15 = .ok (.invokevirtual 125, 3) := by decide +kernel
theorem dX8_noteIfAtRest_18 : decode cX8_noteIfAtRest 18 = .ok (.ifCond .eq 4, 3) := by decide +kernel
theorem dX8_noteIfAtRest_21 : decode cX8_noteIfAtRest 21 = .ok (.return_, 1) := by decide +kernel
theorem dX8_noteIfAtRest_22 : decode cX8_noteIfAtRest 22 = .ok (.iinc 1 1, 3) := by decide +kernel
theorem dX8_noteIfAtRest_25 : decode cX8_noteIfAtRest 25 = .ok (.goto (-23), 3) := by decide +kernel
theorem dX8_noteIfAtRest_28 : decode cX8_noteIfAtRest 28 = .ok (.aload_n 0, 1) := by decide +kernel
theorem dX8_noteIfAtRest_29 : decode cX8_noteIfAtRest 29 = .ok (.getfield 100, 3) := by decide +kernel
theorem dX8_noteIfAtRest_32 : decode cX8_noteIfAtRest 32 = .ok (.aload_n 0, 1) := by decide +kernel
theorem dX8_noteIfAtRest_33 : decode cX8_noteIfAtRest 33 = .ok (.getfield 97, 3) := by decide +kernel
theorem dX8_noteIfAtRest_36 : decode cX8_noteIfAtRest 36 = .ok (.if_icmp .ne 11, 3) := by decide +kernel
theorem dX8_noteIfAtRest_39 : decode cX8_noteIfAtRest 39 = .ok (.aload_n 0, 1) := by decide +kernel
theorem dX8_noteIfAtRest_40 : decode cX8_noteIfAtRest 40 = .ok (.aload_n 0, 1) := by decide +kernel
theorem dX8_noteIfAtRest_41 : decode cX8_noteIfAtRest 41 = .ok (.invokevirtual 129, 3) := by decide +kernel
theorem dX8_noteIfAtRest_44 : decode cX8_noteIfAtRest 44 = .ok (.putfield 103, 3) := by decide +kernel
theorem dX8_noteIfAtRest_47 : decode cX8_noteIfAtRest 47 = .ok (.aload_n 0, 1) := by decide +kernel
theorem dX8_noteIfAtRest_48 : decode cX8_noteIfAtRest 48 = .ok (.dup, 1) := by decide +kernel
theorem dX8_noteIfAtRest_49 : decode cX8_noteIfAtRest 49 = .ok (.getfield 100, 3) := by decide +kernel
theorem dX8_noteIfAtRest_52 : decode cX8_noteIfAtRest 52 = .ok (.iconst 1, 1) := by decide +kernel
theorem dX8_noteIfAtRest_53 : decode cX8_noteIfAtRest 53 = .ok (.iadd, 1) := by decide +kernel
theorem dX8_noteIfAtRest_54 : decode cX8_noteIfAtRest 54 = .ok (.putfield 100, 3) := by decide +kernel
theorem dX8_noteIfAtRest_57 : decode cX8_noteIfAtRest 57 = .ok (.return_, 1) := by decide +kernel
def fX8_noteIfAtRest_47 (M : jw_M) : Option jw_M :=
  Option.bind (some (jw_up M 119 7 (jw_w ((M 119 7) + 1)))) (fun M10 => some M10)
set_option maxRecDepth 100000 in
theorem pX8_noteIfAtRest_47 (G : jw_G) : ∀ (M : jw_M), jw_Rn G YX8_noteIfAtRest 4 0 0 true (fun M1 => (0, M1)) 47 [(0, jR G 119)] [] M (fX8_noteIfAtRest_47 M) := by
  intro M
  unfold fX8_noteIfAtRest_47
  refine jw_aloadR (pc := 47) 0 dX8_noteIfAtRest_47 rfl ?_
  refine jw_dup (pc := 48) dX8_noteIfAtRest_48 rfl ?_
  refine jw_getI (pc := 49) (j := 7) rfl dX8_noteIfAtRest_49 jv_8 ji_8 (Or.inl jt_307) jg_119 jl_119 (by decide) (by decide) (jw_ho jg_119 (by decide)) (Or.inl rfl) rfl (fun h9 => ?_)
  refine jw_iconst (pc := 52) dX8_noteIfAtRest_52 ?_
  refine jw_iadd (pc := 53) dX8_noteIfAtRest_53 ?_
  refine jw_putI (pc := 54) (j := 7) tyX8 rfl dX8_noteIfAtRest_54 jv_8 ji_8 tyX8_ok nmX8 (Or.inl jt_307) rfl jg_119 jl_119 (by decide) (by decide) (jw_ho jg_119 (by decide)) rfl rfl (jw_wr _) rfl ?_
  refine jw_letM (fun M10 => ?_)
  exact jw_ret (pc := 57) (v := 0) dX8_noteIfAtRest_57 trivial rfl rfl
def fX8_noteIfAtRest_2 : Nat → Int → jw_M → Option jw_M
  | 0, _, _ => none
  | k + 1, x1, M => if x1 < M 17 4 then (Option.bind (fX8_wantsToMove x1 M) (fun v3 => if v3 = 0 then (Option.bind (some (jw_w (x1 + 1))) (fun v4 => fX8_noteIfAtRest_2 k v4 M)) else (some M))) else (if M 119 7 = M 119 6 then (Option.bind (fX8_numberOfWay  M) (fun v7 => Option.bind (some (jw_up M 119 8 v7)) (fun M8 => fX8_noteIfAtRest_47 M8))) else (fX8_noteIfAtRest_47 M))
set_option maxRecDepth 100000 in
theorem pX8_noteIfAtRest_2 (G : jw_G) : ∀ (k : Nat) (x1 : Int) (hx1 : jw_r x1) (M : jw_M), jw_Rn G YX8_noteIfAtRest 4 0 0 true (fun M1 => (0, M1)) 2 [(0, jR G 119), (1, jI x1)] [] M (fX8_noteIfAtRest_2 k x1 M) := by
  intro k
  induction k with
  | zero =>
    intro x1 hx1 M
    exact jw_none
  | succ k ih =>
    intro x1 hx1 M
    rw [fX8_noteIfAtRest_2]
    refine jw_iload_n (pc := 2) 1 dX8_noteIfAtRest_2 rfl ?_
    refine jw_aloadR (pc := 3) 0 dX8_noteIfAtRest_3 rfl ?_
    refine jw_getR (pc := 4) (j := 1) rfl dX8_noteIfAtRest_4 jv_8 ji_8 (Or.inl jt_301) jg_119 jl_119 (by decide) (by decide) rfl jf_8_1 ?_
    refine jw_getI (pc := 7) (j := 4) rfl dX8_noteIfAtRest_7 jv_10 ji_10 (Or.inr ⟨_, jt_153⟩) jg_17 jl_17 (by decide) (by decide) (jw_ho jg_17 (by decide)) (Or.inl rfl) rfl (fun h2 => ?_)
    refine jw_ic_ge (pc := 10) 28 dX8_noteIfAtRest_10 (by decide) hx1 h2 (fun _ => ?_) (fun _ => ?_)
    · refine jw_aloadR (pc := 13) 0 dX8_noteIfAtRest_13 rfl ?_
      refine jw_iload_n (pc := 14) 1 dX8_noteIfAtRest_14 rfl ?_
      refine jw_callVz (pc := 15) (As := [jI x1]) (st := []) dX8_noteIfAtRest_15 rfl (Nat.le_of_ble_eq_true rfl) qX8_wantsToMove jt_979 jt_981 jp_24 rfl rfl (Nat.le_of_ble_eq_true rfl) jv_8 rfl jg_119 jl_119 (by decide) (jw_ho jg_119 (by decide)) (kX8_wantsToMove G x1 hx1 M) (fun v3 hv3 => ?_)
      refine jw_if_eq (pc := 18) 22 dX8_noteIfAtRest_18 (by decide) (jw_bz hv3) (fun _ => ?_) (fun _ => ?_)
      · refine jw_iincL (pc := 22) 1 (lv' := (fun y => [(1, y), (0, jR G 119)])) dX8_noteIfAtRest_22 rfl (Nat.le_of_ble_eq_true rfl) (fun _ => rfl) (fun v4 hv4 => ?_)
        refine jw_goto (pc := 25) 2 dX8_noteIfAtRest_25 (by decide) ?_
        exact jw_few [1, 0] rfl (ih v4 hv4 M)
      · exact jw_ret (pc := 21) (v := 0) dX8_noteIfAtRest_21 trivial rfl rfl
    · refine jw_aloadR (pc := 28) 0 dX8_noteIfAtRest_28 rfl ?_
      refine jw_getI (pc := 29) (j := 7) rfl dX8_noteIfAtRest_29 jv_8 ji_8 (Or.inl jt_307) jg_119 jl_119 (by decide) (by decide) (jw_ho jg_119 (by decide)) (Or.inl rfl) rfl (fun h5 => ?_)
      refine jw_aloadR (pc := 32) 0 dX8_noteIfAtRest_32 rfl ?_
      refine jw_getI (pc := 33) (j := 6) rfl dX8_noteIfAtRest_33 jv_8 ji_8 (Or.inl jt_306) jg_119 jl_119 (by decide) (by decide) (jw_ho jg_119 (by decide)) (Or.inl rfl) rfl (fun h6 => ?_)
      refine jw_ic_ne (pc := 36) 47 dX8_noteIfAtRest_36 (by decide) h5 h6 (fun _ => ?_) (fun _ => ?_)
      · refine jw_aloadR (pc := 39) 0 dX8_noteIfAtRest_39 rfl ?_
        refine jw_aloadR (pc := 40) 0 dX8_noteIfAtRest_40 rfl ?_
        refine jw_callVi (pc := 41) (As := []) (st := [jR G 119]) dX8_noteIfAtRest_41 rfl (Nat.le_of_ble_eq_true rfl) qX8_numberOfWay jt_991 jt_993 jp_27 rfl rfl (Nat.le_of_ble_eq_true rfl) jv_8 rfl jg_119 jl_119 (by decide) (jw_ho jg_119 (by decide)) (kX8_numberOfWay G  M) (fun v7 hv7 => ?_)
        refine jw_putI (pc := 44) (j := 8) tyX8 rfl dX8_noteIfAtRest_44 jv_8 ji_8 tyX8_ok nmX8 (Or.inl jt_308) rfl jg_119 jl_119 (by decide) (by decide) (jw_ho jg_119 (by decide)) rfl rfl hv7 rfl ?_
        refine jw_letM (fun M8 => ?_)
        exact jw_few [0] rfl (pX8_noteIfAtRest_47 G M8)
      · exact jw_few [0] rfl (pX8_noteIfAtRest_47 G M)
def fX8_noteIfAtRest (M : jw_M) : Option jw_M :=
  Option.bind (some 0) (fun v1 => fX8_noteIfAtRest_2 jw_fu v1 M)
set_option maxRecDepth 100000 in
theorem rX8_noteIfAtRest (G : jw_G) (M : jw_M) : jw_Rn G YX8_noteIfAtRest 4 0 0 true (fun M1 => (0, M1)) 0 [(0, jR G 119)] [] M (fX8_noteIfAtRest M) := by
  unfold fX8_noteIfAtRest
  refine jw_iconst (pc := 0) dX8_noteIfAtRest_0 ?_
  refine jw_istore_nL (pc := 1) (lv' := (fun y => [(1, y), (0, jR G 119)])) dX8_noteIfAtRest_1 (jw_rc _ rfl) (by decide) (fun _ => rfl) (fun v1 hv1 => ?_)
  exact jw_few [1, 0] rfl (pX8_noteIfAtRest_2 G jw_fu v1 hv1 M)
theorem kX8_noteIfAtRest (G : jw_G) (M : jw_M) : jw_Ct G YX8_noteIfAtRest none 4 0 0 true (fun M1 => (0, M1)) yX8_noteIfAtRest [jR G 119] M (fX8_noteIfAtRest M) := jw_met (by decide) rfl rfl rfl (Nat.le_of_ble_eq_true rfl) (rX8_noteIfAtRest G M)
abbrev YX8_place : jw_Y := (RX8, cX8_place, 4, 0, "place")
theorem qX8_place : jw_cy YX8_place none yX8_place 1 := ⟨by decide, jt_974, jt_11, by decide, by decide +kernel⟩
theorem dX8_place_0 : decode cX8_place 0 = .ok (.iload_n 1, 1) := by decide +kernel
theorem dX8_place_1 : decode cX8_place 1 = .ok (.ifCond .ge 8, 3) := by decide +kernel
theorem dX8_place_4 : decode cX8_place 4 = .ok (.aload_n 0, 1) := by decide +kernel
theorem dX8_place_5 : decode cX8_place 5 = .ok (.invokevirtual 119, 3) := by decide +kernel
theorem dX8_place_8 : decode cX8_place 8 = .ok (.return_, 1) := by decide +kernel
theorem dX8_place_9 : decode cX8_place 9 = .ok (.iload_n 1, 1) := by decide +kernel
theorem dX8_place_10 : decode cX8_place 10 = .ok (.iconst 5, 1) := by decide +kernel
theorem dX8_place_11 : decode cX8_place 11 = .ok (.if_icmp .lt 4, 3) := by decide +kernel
theorem dX8_place_14 : decode cX8_place 14 = .ok (.return_, 1) := by decide +kernel
theorem dX8_place_15 : decode cX8_place 15 = .ok (.iconst 0, 1) := by decide +kernel
theorem dX8_place_16 : decode cX8_place 16 = .ok (.istore_n 2, 1) := by decide +kernel
theorem dX8_place_17 : decode cX8_place 17 = .ok (.iload_n 2, 1) := by decide +kernel
theorem dX8_place_18 : decode cX8_place 18 = .ok (.aload_n 0, 1) := by decide +kernel
theorem dX8_place_19 : decode cX8_place 19 = .ok (.getfield 27, 3) := by decide +kernel
theorem dX8_place_22 : decode cX8_place 22 = .ok (.getfield 79, 3) := by decide +kernel
theorem dX8_place_25 : decode cX8_place 25 = .ok (.if_icmp .ge 79, 3) := by decide +kernel
theorem dX8_place_28 : decode cX8_place 28 = .ok (.aload_n 0, 1) := by decide +kernel
theorem dX8_place_29 : decode cX8_place 29 = .ok (.getfield 103, 3) := by decide +kernel
theorem dX8_place_32 : decode cX8_place 32 = .ok (.ldc 93, 2) := by decide +kernel
theorem dX8_place_34 : decode cX8_place 34 = .ok (.if_icmp .ne 70, 3) := by decide +kernel
theorem dX8_place_37 : decode cX8_place 37 = .ok (.aload_n 0, 1) := by decide +kernel
theorem dX8_place_38 : decode cX8_place 38 = .ok (.iload_n 1, 1) := by decide +kernel
theorem dX8_place_39 : decode cX8_place 39 = .ok (.iload_n 2, 1) := by decide +kernel
theorem dX8_place_40 : decode cX8_place 40 = .ok (.iload_n 1, 1) := by decide +kernel
theorem dX8_place_41 : decode cX8_place 41 = .ok (.iconst 1, 1) := by decide +kernel
theorem dX8_place_42 : decode cX8_place 42 = .ok (.iadd, 1) := by decide +kernel
theorem dX8_place_43 : decode cX8_place 43 = .ok (.invokevirtual 122, 3) := by decide +kernel
theorem dX8_place_46 : decode cX8_place 46 = .ok (.ifCond .eq 52, 3) := by decide +kernel
theorem dX8_place_49 : decode cX8_place 49 = .ok (.aload_n 0, 1) := by decide +kernel
theorem dX8_place_50 : decode cX8_place 50 = .ok (.getfield 32, 3) := by decide +kernel
theorem dX8_place_53 : decode cX8_place 53 = .ok (.getfield 44, 3) := by decide +kernel
theorem dX8_place_56 : decode cX8_place 56 = .ok (.iload_n 1, 1) := by decide +kernel
theorem dX8_place_57 : decode cX8_place 57 = .ok (.iaload, 1) := by decide +kernel
theorem dX8_place_58 : decode cX8_place 58 = .ok (.bipush 7, 2) := by decide +kernel
theorem dX8_place_60 : decode cX8_place 60 = .ok (.imul, 1) := by decide +kernel
theorem dX8_place_61 : decode cX8_place 61 = .ok (.iload_n 2, 1) := by decide +kernel
theorem dX8_place_62 : decode cX8_place 62 = .ok (.iadd, 1) := by decide +kernel
theorem dX8_place_63 : decode cX8_place 63 = .ok (.istore_n 3, 1) := by decide +kernel
theorem dX8_place_64 : decode cX8_place 64 = .ok (.aload_n 0, 1) := by decide +kernel
theorem dX8_place_65 : decode cX8_place 65 = .ok (.getfield 9, 3) := by decide +kernel
theorem dX8_place_68 : decode cX8_place 68 = .ok (.iload_n 1, 1) := by decide +kernel
theorem dX8_place_69 : decode cX8_place 69 = .ok (.iload_n 2, 1) := by decide +kernel
theorem dX8_place_70 : decode cX8_place 70 = .ok (.iastore, 1) := by decide +kernel
theorem dX8_place_71 : decode cX8_place 71 = .ok (.aload_n 0, 1) := by decide +kernel
theorem dX8_place_72 : decode cX8_place 72 = .ok (.getfield 15, 3) := by decide +kernel
theorem dX8_place_75 : decode cX8_place 75 = .ok (.iload_n 3, 1) := by decide +kernel
theorem dX8_place_76 : decode cX8_place 76 = .ok (.dup2, 1) := by decide +kernel
theorem dX8_place_77 : decode cX8_place 77 = .ok (.iaload, 1) := by decide +kernel
theorem dX8_place_78 : decode cX8_place 78 = .ok (.iconst 1, 1) := by decide +kernel
theorem dX8_place_79 : decode cX8_place 79 = .ok (.iadd, 1) := by decide +kernel
theorem dX8_place_80 : decode cX8_place 80 = .ok (.iastore, 1) := by decide +kernel
theorem dX8_place_81 : decode cX8_place 81 = .ok (.aload_n 0, 1) := by decide +kernel
theorem dX8_place_82 : decode cX8_place 82 = .ok (.iload_n 1, 1) := by decide +kernel
theorem dX8_place_83 : decode cX8_place 83 = .ok (.iconst 1, 1) := by decide +kernel
theorem dX8_place_84 : decode cX8_place 84 = .ok (.isub, 1) := by decide +kernel
theorem dX8_place_85 : decode cX8_place 85 = .ok (.invokevirtual 115, 3) := by decide +kernel
theorem dX8_place_88 : decode cX8_place 88 = .ok (.aload_n 0, 1) := by decide +kernel
theorem dX8_place_89 : decode cX8_place 89 = .ok (.getfield 15, 3) := by decide +kernel
theorem dX8_place_92 : decode cX8_place 92 = .ok (.iload_n 3, 1) := by decide +kernel
theorem dX8_place_93 : decode cX8_place 93 = .ok (.dup2, 1) := by decide +kernel
theorem dX8_place_94 : decode cX8_place 94 = .ok (.iaload, 1) := by decide +kernel
theorem dX8_place_95 : decode cX8_place 95 = .ok (.iconst 1, 1) := by decide +kernel
theorem dX8_place_96 : decode cX8_place 96 = .ok (.isub, 1) := by decide +kernel
theorem dX8_place_97 : decode cX8_place 97 = .ok (.iastore, 1) := by decide +kernel
theorem dX8_place_98 : decode cX8_place 98 = .ok (.iinc 2 1, 3) := by decide +kernel
theorem dX8_place_101 : decode cX8_place 101 = .ok (.goto (-84), 3) := by decide +kernel
theorem dX8_place_104 : decode cX8_place 104 = .ok (.return_, 1) := by decide +kernel
def fX8_place_98 (sf : Int → jw_M → Option jw_M) (r17 : Int → Int → jw_M → Option jw_M) (x1 : Int) (x2 : Int) (M : jw_M) : Option jw_M :=
  Option.bind (some (jw_w (x2 + 1))) (fun v6 => r17 x1 v6 M)
set_option maxRecDepth 100000 in
theorem pX8_place_98 (G : jw_G) (h2 : Nat) (hb : 5 ≤ h2) (sf : Int → jw_M → Option jw_M) (hsf : ∀ (a1 : Int) (ha1 : jw_r a1) (M : jw_M), jw_Ct G YX8_place none h2 0 0 true (fun M1 => (0, M1)) yX8_place [jR G 119, jI a1] M (sf a1 M)) (r17 : Int → Int → jw_M → Option jw_M) (hr17 : ∀ (x1 : Int) (x2 : Int) (hx1 : jw_r x1) (hx2 : jw_r x2) (M : jw_M), jw_Rn G YX8_place (h2 + 1) 0 0 true (fun M1 => (0, M1)) 17 [(0, jR G 119), (1, jI x1), (2, jI x2)] [] M (r17 x1 x2 M)) : ∀ (x1 : Int) (x2 : Int) (hx1 : jw_r x1) (hx2 : jw_r x2) (M : jw_M), jw_Rn G YX8_place (h2 + 1) 0 0 true (fun M1 => (0, M1)) 98 [(0, jR G 119), (1, jI x1), (2, jI x2)] [] M (fX8_place_98 sf r17 x1 x2 M) := by
  intro x1 x2 hx1 hx2 M
  unfold fX8_place_98
  refine jw_iincL (pc := 98) 2 (lv' := (fun y => [(2, y), (0, jR G 119), (1, jI x1)])) dX8_place_98 rfl (Nat.le_of_ble_eq_true rfl) (fun _ => rfl) (fun v6 hv6 => ?_)
  refine jw_goto (pc := 101) 17 dX8_place_101 (by decide) ?_
  exact jw_few [1, 2, 0] rfl (hr17 x1 v6 hx1 hv6 M)
def fX8_place_17 (sf : Int → jw_M → Option jw_M) : Nat → Int → Int → jw_M → Option jw_M
  | 0, _, _, _ => none
  | k + 1, x1, x2, M => if x2 < M 10 0 then (if M 119 8 = (-1000000) then (Option.bind (fX8_isClear x1 x2 (jw_w (x1 + 1)) M) (fun v5 => if v5 = 0 then (fX8_place_98 sf (fX8_place_17 sf k) x1 x2 M) else (if 0 ≤ x1 ∧ x1 < 5 then Option.bind (some (jw_w ((jw_w ((M (17 + 4) x1) * 7)) + x2))) (fun v8 => if 0 ≤ x1 ∧ x1 < 5 then Option.bind (some (jw_up M 120 x1 x2)) (fun M9 => if 0 ≤ v8 ∧ v8 < 28 then if 0 ≤ v8 ∧ v8 < 28 then Option.bind (some (jw_up M9 121 v8 (jw_w ((M9 121 v8) + 1)))) (fun M11 => Option.bind (sf (jw_w (x1 - 1)) M11) (fun M12 => if 0 ≤ v8 ∧ v8 < 28 then if 0 ≤ v8 ∧ v8 < 28 then Option.bind (some (jw_up M12 121 v8 (jw_w ((M12 121 v8) - 1)))) (fun M14 => fX8_place_98 sf (fX8_place_17 sf k) x1 x2 M14) else none else none)) else none else none) else none) else none))) else (some M)) else (some M)
set_option maxRecDepth 100000 in
theorem pX8_place_17 (G : jw_G) (h2 : Nat) (hb : 5 ≤ h2) (sf : Int → jw_M → Option jw_M) (hsf : ∀ (a1 : Int) (ha1 : jw_r a1) (M : jw_M), jw_Ct G YX8_place none h2 0 0 true (fun M1 => (0, M1)) yX8_place [jR G 119, jI a1] M (sf a1 M)) : ∀ (k : Nat) (x1 : Int) (x2 : Int) (hx1 : jw_r x1) (hx2 : jw_r x2) (M : jw_M), jw_Rn G YX8_place (h2 + 1) 0 0 true (fun M1 => (0, M1)) 17 [(0, jR G 119), (1, jI x1), (2, jI x2)] [] M (fX8_place_17 sf k x1 x2 M) := by
  intro k
  induction k with
  | zero =>
    intro x1 x2 hx1 hx2 M
    exact jw_none
  | succ k ih =>
    intro x1 x2 hx1 hx2 M
    rw [fX8_place_17]
    refine jw_iload_n (pc := 17) 2 dX8_place_17 rfl ?_
    refine jw_aloadR (pc := 18) 0 dX8_place_18 rfl ?_
    refine jw_getR (pc := 19) (j := 0) rfl dX8_place_19 jv_8 ji_8 (Or.inl jt_300) jg_119 jl_119 (by decide) (by decide) rfl jf_8_0 ?_
    refine jw_getI (pc := 22) (j := 0) rfl dX8_place_22 jv_9 ji_9 (Or.inr ⟨_, jt_95⟩) jg_10 jl_10 (by decide) (by decide) (jw_ho jg_10 (by decide)) (Or.inl rfl) rfl (fun h3 => ?_)
    refine jw_ic_ge (pc := 25) 104 dX8_place_25 (by decide) hx2 h3 (fun _ => ?_) (fun _ => ?_)
    · refine jw_aloadR (pc := 28) 0 dX8_place_28 rfl ?_
      refine jw_getI (pc := 29) (j := 8) rfl dX8_place_29 jv_8 ji_8 (Or.inl jt_308) jg_119 jl_119 (by decide) (by decide) (jw_ho jg_119 (by decide)) (Or.inl rfl) rfl (fun h4 => ?_)
      refine jw_ldc (pc := 32) (n := (-1000000)) dX8_place_32 jt_957 (by decide) ?_
      refine jw_ic_ne (pc := 34) 104 dX8_place_34 (by decide) h4 (jw_rc _ rfl) (fun _ => ?_) (fun _ => ?_)
      · refine jw_aloadR (pc := 37) 0 dX8_place_37 rfl ?_
        refine jw_iload_n (pc := 38) 1 dX8_place_38 rfl ?_
        refine jw_iload_n (pc := 39) 2 dX8_place_39 rfl ?_
        refine jw_iload_n (pc := 40) 1 dX8_place_40 rfl ?_
        refine jw_iconst (pc := 41) dX8_place_41 ?_
        refine jw_iadd (pc := 42) dX8_place_42 ?_
        refine jw_callVz (pc := 43) (As := [jI x1, jI x2, jI (jw_w (x1 + 1))]) (st := []) dX8_place_43 rfl (by omega) qX8_isClear jt_987 jt_989 jp_26 rfl rfl (Nat.le_of_ble_eq_true rfl) jv_8 rfl jg_119 jl_119 (by decide) (jw_ho jg_119 (by decide)) (kX8_isClear G x1 x2 (jw_w (x1 + 1)) hx1 hx2 (jw_wr _) M) (fun v5 hv5 => ?_)
        refine jw_if_eq (pc := 46) 98 dX8_place_46 (by decide) (jw_bz hv5) (fun _ => ?_) (fun _ => ?_)
        · exact jw_few [0, 1, 2] rfl (pX8_place_98 G h2 hb sf hsf (fX8_place_17 sf k) ih x1 x2 hx1 hx2 M)
        · refine jw_aloadR (pc := 49) 0 dX8_place_49 rfl ?_
          refine jw_getR (pc := 50) (j := 1) rfl dX8_place_50 jv_8 ji_8 (Or.inl jt_301) jg_119 jl_119 (by decide) (by decide) rfl jf_8_1 ?_
          refine jw_getR (pc := 53) (j := 5) rfl dX8_place_53 jv_10 ji_10 (Or.inr ⟨_, jt_157⟩) jg_17 jl_17 (by decide) (by decide) rfl (jf_10_5 jg_17).1 ?_
          refine jw_iload_n (pc := 56) 1 dX8_place_56 rfl ?_
          refine jw_iald (pc := 57) dX8_place_57 (jf_10_5 jg_17).2.1 (jf_10_5 jg_17).2.2 (jw_ho (jf_10_5 jg_17).2.1 (by decide)) hx1 rfl (fun h7 => ?_)
          refine jw_bipush (pc := 58) dX8_place_58 rfl ?_
          refine jw_imul (pc := 60) dX8_place_60 ?_
          refine jw_iload_n (pc := 61) 2 dX8_place_61 rfl ?_
          refine jw_iadd (pc := 62) dX8_place_62 ?_
          refine jw_istore_nL (pc := 63) (lv' := (fun y => [(3, y), (0, jR G 119), (1, jI x1), (2, jI x2)])) dX8_place_63 (jw_wr _) (by decide) (fun _ => rfl) (fun v8 hv8 => ?_)
          refine jw_aloadR (pc := 64) 1 dX8_place_64 rfl ?_
          refine jw_getR (pc := 65) (j := 3) rfl dX8_place_65 jv_8 ji_8 (Or.inl jt_303) jg_119 jl_119 (by decide) (by decide) rfl jf_8_3 ?_
          refine jw_iload_n (pc := 68) 2 dX8_place_68 rfl ?_
          refine jw_iload_n (pc := 69) 3 dX8_place_69 rfl ?_
          refine jw_iast (pc := 70) dX8_place_70 jg_120 jl_120 (jw_ho jg_120 (by decide)) hx1 hx2 rfl ?_
          refine jw_letM (fun M9 => ?_)
          refine jw_aloadR (pc := 71) 1 dX8_place_71 rfl ?_
          refine jw_getR (pc := 72) (j := 4) rfl dX8_place_72 jv_8 ji_8 (Or.inl jt_304) jg_119 jl_119 (by decide) (by decide) rfl jf_8_4 ?_
          refine jw_iload_n (pc := 75) 0 dX8_place_75 rfl ?_
          refine jw_dup2 (pc := 76) dX8_place_76 rfl rfl ?_
          refine jw_iald (pc := 77) dX8_place_77 jg_121 jl_121 (jw_ho jg_121 (by decide)) hv8 rfl (fun h10 => ?_)
          refine jw_iconst (pc := 78) dX8_place_78 ?_
          refine jw_iadd (pc := 79) dX8_place_79 ?_
          refine jw_iast (pc := 80) dX8_place_80 jg_121 jl_121 (jw_ho jg_121 (by decide)) hv8 (jw_wr _) rfl ?_
          refine jw_letM (fun M11 => ?_)
          refine jw_aloadR (pc := 81) 1 dX8_place_81 rfl ?_
          refine jw_iload_n (pc := 82) 2 dX8_place_82 rfl ?_
          refine jw_iconst (pc := 83) dX8_place_83 ?_
          refine jw_isub (pc := 84) dX8_place_84 ?_
          refine jw_callVM (pc := 85) (As := [jI (jw_w (x1 - 1))]) (st := []) dX8_place_85 rfl (Nat.le_refl _) qX8_place jt_971 jt_973 jp_22 rfl rfl (Nat.le_of_ble_eq_true rfl) jv_8 rfl jg_119 jl_119 (by decide) (jw_ho jg_119 (by decide)) (hsf (jw_w (x1 - 1)) (jw_wr _) M11) (fun M12 => ?_)
          refine jw_aloadR (pc := 88) 1 dX8_place_88 rfl ?_
          refine jw_getR (pc := 89) (j := 4) rfl dX8_place_89 jv_8 ji_8 (Or.inl jt_304) jg_119 jl_119 (by decide) (by decide) rfl jf_8_4 ?_
          refine jw_iload_n (pc := 92) 0 dX8_place_92 rfl ?_
          refine jw_dup2 (pc := 93) dX8_place_93 rfl rfl ?_
          refine jw_iald (pc := 94) dX8_place_94 jg_121 jl_121 (jw_ho jg_121 (by decide)) hv8 rfl (fun h13 => ?_)
          refine jw_iconst (pc := 95) dX8_place_95 ?_
          refine jw_isub (pc := 96) dX8_place_96 ?_
          refine jw_iast (pc := 97) dX8_place_97 jg_121 jl_121 (jw_ho jg_121 (by decide)) hv8 (jw_wr _) rfl ?_
          refine jw_letM (fun M14 => ?_)
          exact jw_few [1, 2, 3] rfl (pX8_place_98 G h2 hb sf hsf (fX8_place_17 sf k) ih x1 x2 hx1 hx2 M14)
      · exact jw_ret (pc := 104) (v := 0) dX8_place_104 trivial rfl rfl
    · exact jw_ret (pc := 104) (v := 0) dX8_place_104 trivial rfl rfl
def bX8_place (sf : Int → jw_M → Option jw_M) (a1 : Int) (M : jw_M) : Option jw_M :=
  if a1 < 0 then (Option.bind (fX8_noteIfAtRest  M) (fun M1 => some M1)) else (if a1 < 5 then (Option.bind (some 0) (fun v2 => fX8_place_17 sf jw_fu a1 v2 M)) else (some M))
def fX8_place : Nat → Int → jw_M → Option jw_M
  | 0, _, _ => none
  | k + 1, a1, M => bX8_place (fX8_place k) a1 M
set_option maxRecDepth 100000 in
theorem rX8_place (G : jw_G) (h2 : Nat) (hb : 5 ≤ h2) (sf : Int → jw_M → Option jw_M) (hsf : ∀ (a1 : Int) (ha1 : jw_r a1) (M : jw_M), jw_Ct G YX8_place none h2 0 0 true (fun M1 => (0, M1)) yX8_place [jR G 119, jI a1] M (sf a1 M)) (a1 : Int) (ha1 : jw_r a1) (M : jw_M) : jw_Rn G YX8_place (h2 + 1) 0 0 true (fun M1 => (0, M1)) 0 [(0, jR G 119), (1, jI a1)] [] M (bX8_place sf a1 M) := by
  unfold bX8_place
  refine jw_iload_n (pc := 0) 1 dX8_place_0 rfl ?_
  refine jw_if_ge (pc := 1) 9 dX8_place_1 (by decide) ha1 (fun _ => ?_) (fun _ => ?_)
  · refine jw_aloadR (pc := 4) 0 dX8_place_4 rfl ?_
    refine jw_callVM (pc := 5) (As := []) (st := []) dX8_place_5 rfl (by omega) qX8_noteIfAtRest jt_975 jt_977 jp_23 rfl rfl (Nat.le_of_ble_eq_true rfl) jv_8 rfl jg_119 jl_119 (by decide) (jw_ho jg_119 (by decide)) (kX8_noteIfAtRest G  M) (fun M1 => ?_)
    exact jw_ret (pc := 8) (v := 0) dX8_place_8 trivial rfl rfl
  · refine jw_iload_n (pc := 9) 1 dX8_place_9 rfl ?_
    refine jw_iconst (pc := 10) dX8_place_10 ?_
    refine jw_ic_lt (pc := 11) 15 dX8_place_11 (by decide) ha1 (jw_rc _ rfl) (fun _ => ?_) (fun _ => ?_)
    · refine jw_iconst (pc := 15) dX8_place_15 ?_
      refine jw_istore_nL (pc := 16) (lv' := (fun y => [(2, y), (0, jR G 119), (1, jI a1)])) dX8_place_16 (jw_rc _ rfl) (by decide) (fun _ => rfl) (fun v2 hv2 => ?_)
      exact jw_few [1, 2, 0] rfl (pX8_place_17 G h2 hb sf hsf jw_fu a1 v2 ha1 hv2 M)
    · exact jw_ret (pc := 14) (v := 0) dX8_place_14 trivial rfl rfl
theorem kX8_place (G : jw_G) : ∀ (n : Nat) (a1 : Int) (ha1 : jw_r a1) (M : jw_M), jw_Ct G YX8_place none (5 + n) 0 0 true (fun M1 => (0, M1)) yX8_place [jR G 119, jI a1] M (fX8_place n a1 M) := by
  intro n
  induction n with
  | zero =>
    intro a1 ha1 M hg x hx
    cases hx
  | succ k ih =>
    intro a1 ha1 M
    rw [fX8_place]
    exact jw_met (by decide) rfl rfl rfl (Nat.le_of_ble_eq_true rfl) (rX8_place G (5 + k) (by omega) (fX8_place k) ih a1 ha1 M)
abbrev YX8_findRest : jw_Y := (RX8, cX8_findRest, 2, 1, "findRest")
theorem qX8_findRest : jw_cy YX8_findRest (some .int) yX8_findRest 1 := ⟨by decide, jt_965, jt_11, by decide, by decide +kernel⟩
theorem dX8_findRest_0 : decode cX8_findRest 0 = .ok (.aload_n 0, 1) := by decide +kernel
theorem dX8_findRest_1 : decode cX8_findRest 1 = .ok (.iload_n 1, 1) := by decide +kernel
theorem dX8_findRest_2 : decode cX8_findRest 2 = .ok (.putfield 97, 3) := by decide +kernel
theorem dX8_findRest_5 : decode cX8_findRest 5 = .ok (.aload_n 0, 1) := by decide +kernel
theorem dX8_findRest_6 : decode cX8_findRest 6 = .ok (.iconst 0, 1) := by decide +kernel
theorem dX8_findRest_7 : decode cX8_findRest 7 = .ok (.putfield 100, 3) := by decide +kernel
theorem dX8_findRest_10 : decode cX8_findRest 10 = .ok (.aload_n 0, 1) := by decide +kernel
theorem dX8_findRest_11 : decode cX8_findRest 11 = .ok (.ldc 93, 2) := by decide +kernel
theorem dX8_findRest_13 : decode cX8_findRest 13 = .ok (.putfield 103, 3) := by decide +kernel
theorem dX8_findRest_16 : decode cX8_findRest 16 = .ok (.aload_n 0, 1) := by decide +kernel
theorem dX8_findRest_17 : decode cX8_findRest 17 = .ok (.getfield 15, 3) := by decide +kernel
theorem dX8_findRest_20 : decode cX8_findRest 20 = .ok (.iconst 0, 1) := by decide +kernel
theorem dX8_findRest_21 : decode cX8_findRest 21 = .ok (.invokestatic 106, 3) := by decide +kernel
theorem dX8_findRest_24 : decode cX8_findRest 24 = .ok (.aload_n 0, 1) := by decide +kernel
theorem dX8_findRest_25 : decode cX8_findRest 25 = .ok (.invokevirtual 112, 3) := by decide +kernel
theorem dX8_findRest_28 : decode cX8_findRest 28 = .ok (.aload_n 0, 1) := by decide +kernel
theorem dX8_findRest_29 : decode cX8_findRest 29 = .ok (.aload_n 0, 1) := by decide +kernel
theorem dX8_findRest_30 : decode cX8_findRest 30 = .ok (.getfield 32, 3) := by decide +kernel
theorem dX8_findRest_33 : decode cX8_findRest 33 = .ok (.getfield 38, 3) := by decide +kernel
theorem dX8_findRest_36 : decode cX8_findRest 36 = .ok (.iconst 1, 1) := by decide +kernel
theorem dX8_findRest_37 : decode cX8_findRest 37 = .ok (.isub, 1) := by decide +kernel
theorem dX8_findRest_38 : decode cX8_findRest 38 = .ok (.invokevirtual 115, 3) := by decide +kernel
theorem dX8_findRest_41 : decode cX8_findRest 41 = .ok (.iload_n 1, 1) := by decide +kernel
theorem dX8_findRest_42 : decode cX8_findRest 42 = .ok (.iconst (-1), 1) := by decide +kernel
theorem dX8_findRest_43 : decode cX8_findRest 43 = .ok (.if_icmp .ne 10, 3) := by decide +kernel
theorem dX8_findRest_46 : decode cX8_findRest 46 = .ok (.aload_n 0, 1) := by decide +kernel
theorem dX8_findRest_47 : decode cX8_findRest 47 = .ok (.getfield 100, 3) := by decide +kernel
theorem dX8_findRest_50 : decode cX8_findRest 50 = .ok (.goto 7, 3) := by decide +kernel
theorem dX8_findRest_53 : decode cX8_findRest 53 = .ok (.aload_n 0, 1) := by decide +kernel
theorem dX8_findRest_54 : decode cX8_findRest 54 = .ok (.getfield 103, 3) := by decide +kernel
theorem dX8_findRest_57 : decode cX8_findRest 57 = .ok (.ireturn, 1) := by decide +kernel
def fX8_findRest (a1 : Int) (M : jw_M) : Option (Int × jw_M) :=
  Option.bind (some (jw_up M 119 6 a1)) (fun M1 => Option.bind (some (jw_up M1 119 7 0)) (fun M2 => Option.bind (some (jw_up M2 119 8 (-1000000))) (fun M3 => Option.bind (fJ7_fill_53178 121 0 M3) (fun M4 => Option.bind (fX8_fillScores  M4) (fun M5 => Option.bind (fX8_place jw_rn (jw_w ((M5 17 4) - 1)) M5) (fun M7 => if a1 = (-1) then (some (M7 119 7, M7)) else (some (M7 119 8, M7))))))))
set_option maxRecDepth 100000 in
theorem rX8_findRest (G : jw_G) (a1 : Int) (ha1 : jw_r a1) (M : jw_M) : jw_Rn G YX8_findRest 30 0 0 true (fun q => q) 0 [(0, jR G 119), (1, jI a1)] [] M (fX8_findRest a1 M) := by
  unfold fX8_findRest
  refine jw_aloadR (pc := 0) 0 dX8_findRest_0 rfl ?_
  refine jw_iload_n (pc := 1) 1 dX8_findRest_1 rfl ?_
  refine jw_putI (pc := 2) (j := 6) tyX8 rfl dX8_findRest_2 jv_8 ji_8 tyX8_ok nmX8 (Or.inl jt_306) rfl jg_119 jl_119 (by decide) (by decide) (jw_ho jg_119 (by decide)) rfl rfl ha1 rfl ?_
  refine jw_letM (fun M1 => ?_)
  refine jw_aloadR (pc := 5) 0 dX8_findRest_5 rfl ?_
  refine jw_iconst (pc := 6) dX8_findRest_6 ?_
  refine jw_putI (pc := 7) (j := 7) tyX8 rfl dX8_findRest_7 jv_8 ji_8 tyX8_ok nmX8 (Or.inl jt_307) rfl jg_119 jl_119 (by decide) (by decide) (jw_ho jg_119 (by decide)) rfl rfl (jw_rc _ rfl) rfl ?_
  refine jw_letM (fun M2 => ?_)
  refine jw_aloadR (pc := 10) 0 dX8_findRest_10 rfl ?_
  refine jw_ldc (pc := 11) (n := (-1000000)) dX8_findRest_11 jt_957 (by decide) ?_
  refine jw_putI (pc := 13) (j := 8) tyX8 rfl dX8_findRest_13 jv_8 ji_8 tyX8_ok nmX8 (Or.inl jt_308) rfl jg_119 jl_119 (by decide) (by decide) (jw_ho jg_119 (by decide)) rfl rfl (jw_rc _ rfl) rfl ?_
  refine jw_letM (fun M3 => ?_)
  refine jw_aloadR (pc := 16) 0 dX8_findRest_16 rfl ?_
  refine jw_getR (pc := 17) (j := 4) rfl dX8_findRest_17 jv_8 ji_8 (Or.inl jt_304) jg_119 jl_119 (by decide) (by decide) rfl jf_8_4 ?_
  refine jw_iconst (pc := 20) dX8_findRest_20 ?_
  refine jw_callSM (pc := 21) (As := [jR G 121, jI 0]) (st := []) dX8_findRest_21 rfl (Nat.le_of_ble_eq_true rfl) qJ7_fill_53178 jt_966 jt_37 rfl rfl (Nat.le_of_ble_eq_true rfl) (kJ7_fill_53178 G 121 0 (jw_rc _ rfl) M3) (fun M4 => ?_)
  refine jw_aloadR (pc := 24) 0 dX8_findRest_24 rfl ?_
  refine jw_callVM (pc := 25) (As := []) (st := []) dX8_findRest_25 rfl (Nat.le_of_ble_eq_true rfl) qX8_fillScores jt_967 jt_969 jp_21 rfl rfl (Nat.le_of_ble_eq_true rfl) jv_8 rfl jg_119 jl_119 (by decide) (jw_ho jg_119 (by decide)) (kX8_fillScores G  M4) (fun M5 => ?_)
  refine jw_aloadR (pc := 28) 0 dX8_findRest_28 rfl ?_
  refine jw_aloadR (pc := 29) 0 dX8_findRest_29 rfl ?_
  refine jw_getR (pc := 30) (j := 1) rfl dX8_findRest_30 jv_8 ji_8 (Or.inl jt_301) jg_119 jl_119 (by decide) (by decide) rfl jf_8_1 ?_
  refine jw_getI (pc := 33) (j := 4) rfl dX8_findRest_33 jv_10 ji_10 (Or.inr ⟨_, jt_153⟩) jg_17 jl_17 (by decide) (by decide) (jw_ho jg_17 (by decide)) (Or.inl rfl) rfl (fun h6 => ?_)
  refine jw_iconst (pc := 36) dX8_findRest_36 ?_
  refine jw_isub (pc := 37) dX8_findRest_37 ?_
  refine jw_callVM (pc := 38) (As := [jI (jw_w ((M5 17 4) - 1))]) (st := []) dX8_findRest_38 rfl (Nat.le_of_ble_eq_true rfl) qX8_place jt_971 jt_973 jp_22 rfl rfl (Nat.le_of_ble_eq_true rfl) jv_8 rfl jg_119 jl_119 (by decide) (jw_ho jg_119 (by decide)) (kX8_place G jw_rn (jw_w ((M5 17 4) - 1)) (jw_wr _) M5) (fun M7 => ?_)
  refine jw_iload_n (pc := 41) 1 dX8_findRest_41 rfl ?_
  refine jw_iconst (pc := 42) dX8_findRest_42 ?_
  refine jw_ic_ne (pc := 43) 53 dX8_findRest_43 (by decide) ha1 (jw_rc _ rfl) (fun _ => ?_) (fun _ => ?_)
  · refine jw_aloadR (pc := 46) 0 dX8_findRest_46 rfl ?_
    refine jw_getI (pc := 47) (j := 7) rfl dX8_findRest_47 jv_8 ji_8 (Or.inl jt_307) jg_119 jl_119 (by decide) (by decide) (jw_ho jg_119 (by decide)) (Or.inl rfl) rfl (fun h8 => ?_)
    refine jw_goto (pc := 50) 57 dX8_findRest_50 (by decide) ?_
    exact jw_ret (pc := 57) (v := M7 119 7) dX8_findRest_57 h8 rfl rfl
  · refine jw_aloadR (pc := 53) 0 dX8_findRest_53 rfl ?_
    refine jw_getI (pc := 54) (j := 8) rfl dX8_findRest_54 jv_8 ji_8 (Or.inl jt_308) jg_119 jl_119 (by decide) (by decide) (jw_ho jg_119 (by decide)) (Or.inl rfl) rfl (fun h9 => ?_)
    exact jw_ret (pc := 57) (v := M7 119 8) dX8_findRest_57 h9 rfl rfl
theorem kX8_findRest (G : jw_G) (a1 : Int) (ha1 : jw_r a1) (M : jw_M) : jw_Ct G YX8_findRest (some .int) 30 0 0 true (fun q => q) yX8_findRest [jR G 119, jI a1] M (fX8_findRest a1 M) := jw_met (by decide) rfl rfl rfl (Nat.le_of_ble_eq_true rfl) (rX8_findRest G a1 ha1 M)
