abbrev YX5_gain : jw_Y := (RX5, cX5_gain, 6, 1, "gain")
theorem qX5_gain : jw_cy YX5_gain (some .int) yX5_gain 3 := ⟨by decide, jt_1022, jt_12, by decide, by decide +kernel⟩
theorem dX5_gain_0 : decode cX5_gain 0 = .ok (.iload_n 2, 1) := by decide +kernel
theorem dX5_gain_1 : decode cX5_gain 1 = .ok (.ineg, 1) := by decide +kernel
theorem dX5_gain_2 : decode cX5_gain 2 = .ok (.istore 4, 2) := by decide +kernel
theorem dX5_gain_4 : decode cX5_gain 4 = .ok (.iconst 0, 1) := by decide +kernel
theorem dX5_gain_5 : decode cX5_gain 5 = .ok (.istore 5, 2) := by decide +kernel
theorem dX5_gain_7 : decode cX5_gain 7 = .ok (.iload 5, 2) := by decide +kernel
theorem dX5_gain_9 : decode cX5_gain 9 = .ok (.aload_n 0, 1) := by decide +kernel
theorem dX5_gain_10 : decode cX5_gain 10 = .ok (.getfield 26, 3) := by decide +kernel
theorem dX5_gain_13 : decode cX5_gain 13 = .ok (.getfield 32, 3) := by decide +kernel
theorem dX5_gain_16 : decode cX5_gain 16 = .ok (.if_icmp .ge 34, 3) := by decide +kernel
theorem dX5_gain_19 : decode cX5_gain 19 = .ok (.iload_n 3, 1) := by decide +kernel
theorem dX5_gain_20 : decode cX5_gain 20 = .ok (.iload 5, 2) := by decide +kernel
theorem dX5_gain_22 : decode cX5_gain 22 = .ok (.ishr, 1) := by decide +kernel
theorem dX5_gain_23 : decode cX5_gain 23 = .ok (.iconst 1, 1) := by decide +kernel
theorem dX5_gain_24 : decode cX5_gain 24 = .ok (.iand, 1) := by decide +kernel
theorem dX5_gain_25 : decode cX5_gain 25 = .ok (.iconst 1, 1) := by decide +kernel
theorem dX5_gain_26 : decode cX5_gain 26 = .ok (.if_icmp .ne 18, 3) := by decide +kernel
theorem dX5_gain_29 : decode cX5_gain 29 = .ok (.iload 4, 2) := by decide +kernel
theorem dX5_gain_31 : decode cX5_gain 31 = .ok (.aload_n 0, 1) := by decide +kernel
theorem dX5_gain_32 : decode cX5_gain 32 = .ok (.getfield 31, 3) := by decide +kernel
theorem dX5_gain_35 : decode cX5_gain 35 = .ok (.iload_n 1, 1) := by decide +kernel
theorem dX5_gain_36 : decode cX5_gain 36 = .ok (.iload 5, 2) := by decide +kernel
theorem dX5_gain_38 : decode cX5_gain 38 = .ok (.invokevirtual 55, 3) := by decide +kernel
theorem dX5_gain_41 : decode cX5_gain 41 = .ok (.iadd, 1) := by decide +kernel
theorem dX5_gain_42 : decode cX5_gain 42 = .ok (.istore 4, 2) := by decide +kernel
theorem dX5_gain_44 : decode cX5_gain 44 = .ok (.iinc 5 1, 3) := by decide +kernel
theorem dX5_gain_47 : decode cX5_gain 47 = .ok (.goto (-40), 3) := by decide +kernel
theorem dX5_gain_50 : decode cX5_gain 50 = .ok (.iload 4, 2) := by decide +kernel
theorem dX5_gain_52 : decode cX5_gain 52 = .ok (.iconst 0, 1) := by decide +kernel
theorem dX5_gain_53 : decode cX5_gain 53 = .ok (.invokestatic 64, 3) := by decide +kernel
theorem dX5_gain_56 : decode cX5_gain 56 = .ok (.ireturn, 1) := by decide +kernel
def fX5_gain_44 (M : jw_M) (r7 : Int → Int → Int → Int → Option Int) (x1 : Int) (x3 : Int) (x4 : Int) (x5 : Int) : Option Int :=
  Option.bind (some (jw_w (x5 + 1))) (fun v6 => r7 x1 x3 x4 v6)
set_option maxRecDepth 100000 in
theorem pX5_gain_44 (G : jw_G) (M : jw_M) (r7 : Int → Int → Int → Int → Option Int) (hr7 : ∀ (x1 : Int) (x3 : Int) (x4 : Int) (x5 : Int) (hx1 : jw_r x1) (hx3 : jw_r x3) (hx4 : jw_r x4) (hx5 : jw_r x5), jw_Rn G YX5_gain 2 0 0 true (fun v => (v, M)) 7 [(0, jR G 123), (1, jI x1), (3, jI x3), (4, jI x4), (5, jI x5)] [] M (r7 x1 x3 x4 x5)) : ∀ (x1 : Int) (x3 : Int) (x4 : Int) (x5 : Int) (hx1 : jw_r x1) (hx3 : jw_r x3) (hx4 : jw_r x4) (hx5 : jw_r x5), jw_Rn G YX5_gain 2 0 0 true (fun v => (v, M)) 44 [(0, jR G 123), (1, jI x1), (3, jI x3), (4, jI x4), (5, jI x5)] [] M (fX5_gain_44 M r7 x1 x3 x4 x5) := by
  intro x1 x3 x4 x5 hx1 hx3 hx4 hx5
  unfold fX5_gain_44
  refine jw_iincL (pc := 44) 4 (lv' := (fun y => [(5, y), (0, jR G 123), (1, jI x1), (3, jI x3), (4, jI x4)])) dX5_gain_44 rfl (Nat.le_of_ble_eq_true rfl) (fun _ => rfl) (fun v6 hv6 => ?_)
  refine jw_goto (pc := 47) 7 dX5_gain_47 (by decide) ?_
  exact jw_few [1, 2, 3, 4, 0] rfl (hr7 x1 x3 x4 v6 hx1 hx3 hx4 hv6)
def fX5_gain_7 (M : jw_M) : Nat → Int → Int → Int → Int → Option Int
  | 0, _, _, _, _ => none
  | k + 1, x1, x3, x4, x5 => if x5 < M 17 4 then (if jw_iand (jw_ishr x3 x5) 1 = 1 then (Option.bind (fX1_savedBy 30 x1 x5 M) (fun v4 => Option.bind (some (jw_w (x4 + v4))) (fun v5 => fX5_gain_44 M (fX5_gain_7 M k) x1 x3 v5 x5))) else (fX5_gain_44 M (fX5_gain_7 M k) x1 x3 x4 x5)) else (some (jw_max x4 0))
set_option maxRecDepth 100000 in
theorem pX5_gain_7 (G : jw_G) (M : jw_M) : ∀ (k : Nat) (x1 : Int) (x3 : Int) (x4 : Int) (x5 : Int) (hx1 : jw_r x1) (hx3 : jw_r x3) (hx4 : jw_r x4) (hx5 : jw_r x5), jw_Rn G YX5_gain 2 0 0 true (fun v => (v, M)) 7 [(0, jR G 123), (1, jI x1), (3, jI x3), (4, jI x4), (5, jI x5)] [] M (fX5_gain_7 M k x1 x3 x4 x5) := by
  intro k
  induction k with
  | zero =>
    intro x1 x3 x4 x5 hx1 hx3 hx4 hx5
    exact jw_none
  | succ k ih =>
    intro x1 x3 x4 x5 hx1 hx3 hx4 hx5
    rw [fX5_gain_7]
    refine jw_iload (pc := 7) 4 dX5_gain_7 rfl ?_
    refine jw_aloadR (pc := 9) 0 dX5_gain_9 rfl ?_
    refine jw_getR (pc := 10) (j := 1) rfl dX5_gain_10 jv_5 ji_5 (Or.inl jt_336) jg_123 jl_123 (by decide) (by decide) rfl jf_5_1 ?_
    refine jw_getI (pc := 13) (j := 4) rfl dX5_gain_13 jv_10 ji_10 (Or.inr ⟨_, jt_151⟩) jg_17 jl_17 (by decide) (by decide) (jw_ho jg_17 (by decide)) (Or.inl rfl) rfl (fun h3 => ?_)
    refine jw_ic_ge (pc := 16) 50 dX5_gain_16 (by decide) hx5 h3 (fun _ => ?_) (fun _ => ?_)
    · refine jw_iload_n (pc := 19) 2 dX5_gain_19 rfl ?_
      refine jw_iload (pc := 20) 4 dX5_gain_20 rfl ?_
      refine jw_ishrr (pc := 22) dX5_gain_22 ?_
      refine jw_iconst (pc := 23) dX5_gain_23 ?_
      refine jw_iandr (pc := 24) dX5_gain_24 ?_
      refine jw_iconst (pc := 25) dX5_gain_25 ?_
      refine jw_ic_ne (pc := 26) 44 dX5_gain_26 (by decide) (jw_rI _) (jw_rc _ rfl) (fun _ => ?_) (fun _ => ?_)
      · refine jw_iload (pc := 29) 3 dX5_gain_29 rfl ?_
        refine jw_aloadR (pc := 31) 0 dX5_gain_31 rfl ?_
        refine jw_getR (pc := 32) (j := 2) rfl dX5_gain_32 jv_5 ji_5 (Or.inl jt_337) jg_123 jl_123 (by decide) (by decide) rfl jf_5_2 ?_
        refine jw_iload_n (pc := 35) 1 dX5_gain_35 rfl ?_
        refine jw_iload (pc := 36) 4 dX5_gain_36 rfl ?_
        refine jw_callVi (pc := 38) (As := [jI x1, jI x5]) (st := [jI x4]) dX5_gain_38 rfl (Nat.le_of_ble_eq_true rfl) qX1_savedBy jt_1023 jt_1000 jt_1001 rfl rfl (Nat.le_of_ble_eq_true rfl) jv_1 rfl jg_30 jl_30 (by decide) (jw_ho jg_30 (by decide)) (kX1_savedBy G 30 x1 x5 hx1 hx5 M) (fun v4 hv4 => ?_)
        refine jw_iadd (pc := 41) dX5_gain_41 ?_
        refine jw_istoreL (pc := 42) (lv' := (fun y => [(4, y), (0, jR G 123), (1, jI x1), (3, jI x3), (5, jI x5)])) dX5_gain_42 (jw_wr _) (by decide) (fun _ => rfl) (fun v5 hv5 => ?_)
        exact jw_few [1, 2, 3, 0, 4] rfl (pX5_gain_44 G M (fX5_gain_7 M k) ih x1 x3 v5 x5 hx1 hx3 hv5 hx5)
      · exact jw_few [0, 1, 2, 3, 4] rfl (pX5_gain_44 G M (fX5_gain_7 M k) ih x1 x3 x4 x5 hx1 hx3 hx4 hx5)
    · refine jw_iload (pc := 50) 3 dX5_gain_50 rfl ?_
      refine jw_iconst (pc := 52) dX5_gain_52 ?_
      refine jw_mmax (pc := 53) dX5_gain_53 jt_1024 jt_1025 jt_20 jt_1026 (by decide) (Nat.le_of_ble_eq_true rfl) hx4 (jw_rc _ rfl) ?_
      exact jw_ret (pc := 56) (v := jw_max x4 0) dX5_gain_56 (jw_maxr hx4 (jw_rc _ rfl)) rfl rfl
def fX5_gain (a1 : Int) (a2 : Int) (a3 : Int) (M : jw_M) : Option Int :=
  Option.bind (some (jw_w (-a2))) (fun v1 => Option.bind (some 0) (fun v2 => fX5_gain_7 M jw_fu a1 a3 v1 v2))
set_option maxRecDepth 100000 in
theorem rX5_gain (G : jw_G) (a1 : Int) (a2 : Int) (a3 : Int) (ha1 : jw_r a1) (ha2 : jw_r a2) (ha3 : jw_r a3) (M : jw_M) : jw_Rn G YX5_gain 2 0 0 true (fun v => (v, M)) 0 [(0, jR G 123), (1, jI a1), (2, jI a2), (3, jI a3)] [] M (fX5_gain a1 a2 a3 M) := by
  unfold fX5_gain
  refine jw_iload_n (pc := 0) 2 dX5_gain_0 rfl ?_
  refine jw_ineg (pc := 1) dX5_gain_1 ?_
  refine jw_istoreL (pc := 2) (lv' := (fun y => [(4, y), (0, jR G 123), (1, jI a1), (2, jI a2), (3, jI a3)])) dX5_gain_2 (jw_wr _) (by decide) (fun _ => rfl) (fun v1 hv1 => ?_)
  refine jw_iconst (pc := 4) dX5_gain_4 ?_
  refine jw_istoreL (pc := 5) (lv' := (fun y => [(5, y), (4, jI v1), (0, jR G 123), (1, jI a1), (2, jI a2), (3, jI a3)])) dX5_gain_5 (jw_rc _ rfl) (by decide) (fun _ => rfl) (fun v2 hv2 => ?_)
  exact jw_few [2, 3, 5, 1, 0] rfl (pX5_gain_7 G M jw_fu a1 a3 v1 v2 ha1 ha3 hv1 hv2)
theorem kX5_gain (G : jw_G) (a1 : Int) (a2 : Int) (a3 : Int) (ha1 : jw_r a1) (ha2 : jw_r a2) (ha3 : jw_r a3) (M : jw_M) : jw_Ct G YX5_gain (some .int) 2 0 0 true (fun v => (v, M)) yX5_gain [jR G 123, jI a1, jI a2, jI a3] M (fX5_gain a1 a2 a3 M) := jw_met (by decide) rfl rfl rfl (Nat.le_of_ble_eq_true rfl) (rX5_gain G a1 a2 a3 ha1 ha2 ha3 M)
abbrev YX5_share : jw_Y := (RX5, cX5_share, 12, 0, "share")
theorem qX5_share : jw_cy YX5_share none yX5_share 3 := ⟨by decide, jt_1010, jt_12, by decide, by decide +kernel⟩
theorem dX5_share_0 : decode cX5_share 0 = .ok (.aload_n 0, 1) := by decide +kernel
theorem dX5_share_1 : decode cX5_share 1 = .ok (.getfield 26, 3) := by decide +kernel
theorem dX5_share_4 : decode cX5_share 4 = .ok (.getfield 32, 3) := by decide +kernel
theorem dX5_share_7 : decode cX5_share 7 = .ok (.istore 4, 2) := by decide +kernel
theorem dX5_share_9 : decode cX5_share 9 = .ok (.lconst 0, 1) := by decide +kernel
theorem dX5_share_10 : decode cX5_share 10 = .ok (.lstore 5, 2) := by decide +kernel
theorem dX5_share_12 : decode cX5_share 12 = .ok (.iconst 0, 1) := by decide +kernel
theorem dX5_share_13 : decode cX5_share 13 = .ok (.istore 7, 2) := by decide +kernel
theorem dX5_share_15 : decode cX5_share 15 = .ok (.iload 7, 2) := by decide +kernel
theorem dX5_share_17 : decode cX5_share 17 = .ok (.iconst 1, 1) := by decide +kernel
theorem dX5_share_18 : decode cX5_share 18 = .ok (.iload 4, 2) := by decide +kernel
theorem dX5_share_20 : decode cX5_share 20 = .ok (.ishl, 1) := by decide +kernel
theorem dX5_share_21 : decode cX5_share 21 = .ok (.if_icmp .ge 80, 3) := by decide +kernel
theorem dX5_share_24 : decode cX5_share 24 = .ok (.iload 7, 2) := by decide +kernel
theorem dX5_share_26 : decode cX5_share 26 = .ok (.iload_n 3, 1) := by decide +kernel
theorem dX5_share_27 : decode cX5_share 27 = .ok (.ishr, 1) := by decide +kernel
theorem dX5_share_28 : decode cX5_share 28 = .ok (.iconst 1, 1) := by decide +kernel
theorem dX5_share_29 : decode cX5_share 29 = .ok (.iand, 1) := by decide +kernel
theorem dX5_share_30 : decode cX5_share 30 = .ok (.ifCond .ne 65, 3) := by decide +kernel
theorem dX5_share_33 : decode cX5_share 33 = .ok (.iload 7, 2) := by decide +kernel
theorem dX5_share_35 : decode cX5_share 35 = .ok (.invokestatic 38, 3) := by decide +kernel
theorem dX5_share_38 : decode cX5_share 38 = .ok (.istore 8, 2) := by decide +kernel
theorem dX5_share_40 : decode cX5_share 40 = .ok (.getstatic 44, 3) := by decide +kernel
theorem dX5_share_43 : decode cX5_share 43 = .ok (.iload 8, 2) := by decide +kernel
theorem dX5_share_45 : decode cX5_share 45 = .ok (.iaload, 1) := by decide +kernel
theorem dX5_share_46 : decode cX5_share 46 = .ok (.getstatic 44, 3) := by decide +kernel
theorem dX5_share_49 : decode cX5_share 49 = .ok (.iload 4, 2) := by decide +kernel
theorem dX5_share_51 : decode cX5_share 51 = .ok (.iconst 1, 1) := by decide +kernel
theorem dX5_share_52 : decode cX5_share 52 = .ok (.isub, 1) := by decide +kernel
theorem dX5_share_53 : decode cX5_share 53 = .ok (.iload 8, 2) := by decide +kernel
theorem dX5_share_55 : decode cX5_share 55 = .ok (.isub, 1) := by decide +kernel
theorem dX5_share_56 : decode cX5_share 56 = .ok (.iaload, 1) := by decide +kernel
theorem dX5_share_57 : decode cX5_share 57 = .ok (.imul, 1) := by decide +kernel
theorem dX5_share_58 : decode cX5_share 58 = .ok (.i2l, 1) := by decide +kernel
theorem dX5_share_59 : decode cX5_share 59 = .ok (.lstore 9, 2) := by decide +kernel
theorem dX5_share_61 : decode cX5_share 61 = .ok (.aload_n 0, 1) := by decide +kernel
theorem dX5_share_62 : decode cX5_share 62 = .ok (.iload_n 1, 1) := by decide +kernel
theorem dX5_share_63 : decode cX5_share 63 = .ok (.iload_n 2, 1) := by decide +kernel
theorem dX5_share_64 : decode cX5_share 64 = .ok (.iload 7, 2) := by decide +kernel
theorem dX5_share_66 : decode cX5_share 66 = .ok (.iconst 1, 1) := by decide +kernel
theorem dX5_share_67 : decode cX5_share 67 = .ok (.iload_n 3, 1) := by decide +kernel
theorem dX5_share_68 : decode cX5_share 68 = .ok (.ishl, 1) := by decide +kernel
theorem dX5_share_69 : decode cX5_share 69 = .ok (.ior, 1) := by decide +kernel
theorem dX5_share_70 : decode cX5_share 70 = .ok (.invokevirtual 47, 3) := by decide +kernel
theorem dX5_share_73 : decode cX5_share 73 = .ok (.aload_n 0, 1) := by decide +kernel
theorem dX5_share_74 : decode cX5_share 74 = .ok (.iload_n 1, 1) := by decide +kernel
theorem dX5_share_75 : decode cX5_share 75 = .ok (.iload_n 2, 1) := by decide +kernel
theorem dX5_share_76 : decode cX5_share 76 = .ok (.iload 7, 2) := by decide +kernel
theorem dX5_share_78 : decode cX5_share 78 = .ok (.invokevirtual 47, 3) := by decide +kernel
theorem dX5_share_81 : decode cX5_share 81 = .ok (.isub, 1) := by decide +kernel
theorem dX5_share_82 : decode cX5_share 82 = .ok (.istore 11, 2) := by decide +kernel
theorem dX5_share_84 : decode cX5_share 84 = .ok (.lload 5, 2) := by decide +kernel
theorem dX5_share_86 : decode cX5_share 86 = .ok (.lload 9, 2) := by decide +kernel
theorem dX5_share_88 : decode cX5_share 88 = .ok (.iload 11, 2) := by decide +kernel
theorem dX5_share_90 : decode cX5_share 90 = .ok (.i2l, 1) := by decide +kernel
theorem dX5_share_91 : decode cX5_share 91 = .ok (.lmul, 1) := by decide +kernel
theorem dX5_share_92 : decode cX5_share 92 = .ok (.ladd, 1) := by decide +kernel
theorem dX5_share_93 : decode cX5_share 93 = .ok (.lstore 5, 2) := by decide +kernel
theorem dX5_share_95 : decode cX5_share 95 = .ok (.iinc 7 1, 3) := by decide +kernel
theorem dX5_share_98 : decode cX5_share 98 = .ok (.goto (-83), 3) := by decide +kernel
theorem dX5_share_101 : decode cX5_share 101 = .ok (.aload_n 0, 1) := by decide +kernel
theorem dX5_share_102 : decode cX5_share 102 = .ok (.getstatic 44, 3) := by decide +kernel
theorem dX5_share_105 : decode cX5_share 105 = .ok (.iload 4, 2) := by decide +kernel
theorem dX5_share_107 : decode cX5_share 107 = .ok (.iaload, 1) := by decide +kernel
theorem dX5_share_108 : decode cX5_share 108 = .ok (.i2l, 1) := by decide +kernel
theorem dX5_share_109 : decode cX5_share 109 = .ok (.putfield 51, 3) := by decide +kernel
theorem dX5_share_112 : decode cX5_share 112 = .ok (.aload_n 0, 1) := by decide +kernel
theorem dX5_share_113 : decode cX5_share 113 = .ok (.aload_n 0, 1) := by decide +kernel
theorem dX5_share_114 : decode cX5_share 114 = .ok (.getfield 31, 3) := by decide +kernel
theorem dX5_share_117 : decode cX5_share 117 = .ok (.iload_n 1, 1) := by decide +kernel
theorem dX5_share_118 : decode cX5_share 118 = .ok (.iload_n 3, 1) := by decide +kernel
theorem dX5_share_119 : decode cX5_share 119 = .ok (.invokevirtual 55, 3) := by decide +kernel
theorem dX5_share_122 : decode cX5_share 122 = .ok (.i2l, 1) := by decide +kernel
theorem dX5_share_123 : decode cX5_share 123 = .ok (.aload_n 0, 1) := by decide +kernel
theorem dX5_share_124 : decode cX5_share 124 = .ok (.getfield 51, 3) := by decide +kernel
theorem dX5_share_127 : decode cX5_share 127 = .ok (.lmul, 1) := by decide +kernel
theorem dX5_share_128 : decode cX5_share 128 = .ok (.lload 5, 2) := by decide +kernel
theorem dX5_share_130 : decode cX5_share 130 = .ok (.lsub, 1) := by decide +kernel
theorem dX5_share_131 : decode cX5_share 131 = .ok (.putfield 61, 3) := by decide +kernel
theorem dX5_share_134 : decode cX5_share 134 = .ok (.return_, 1) := by decide +kernel
def fX5_share_95 (r15 : Int → Int → Int → Int → Int → Int → jw_M → Option jw_M) (x1 : Int) (x2 : Int) (x3 : Int) (x4 : Int) (x5 : Int) (x7 : Int) (M : jw_M) : Option jw_M :=
  Option.bind (some (jw_w (x7 + 1))) (fun v12 => r15 x1 x2 x3 x4 x5 v12 M)
set_option maxRecDepth 100000 in
theorem pX5_share_95 (G : jw_G) (r15 : Int → Int → Int → Int → Int → Int → jw_M → Option jw_M) (hr15 : ∀ (x1 : Int) (x2 : Int) (x3 : Int) (x4 : Int) (x5 : Int) (x7 : Int) (hx1 : jw_r x1) (hx2 : jw_r x2) (hx3 : jw_r x3) (hx4 : jw_r x4) (hx5 : jw_q x5) (hx7 : jw_r x7) (M : jw_M), jw_Rn G YX5_share 3 0 0 true (fun M1 => (0, M1)) 15 [(0, jR G 123), (1, jI x1), (2, jI x2), (3, jI x3), (4, jI x4), (5, jL x5), (7, jI x7)] [] M (r15 x1 x2 x3 x4 x5 x7 M)) : ∀ (x1 : Int) (x2 : Int) (x3 : Int) (x4 : Int) (x5 : Int) (x7 : Int) (hx1 : jw_r x1) (hx2 : jw_r x2) (hx3 : jw_r x3) (hx4 : jw_r x4) (hx5 : jw_q x5) (hx7 : jw_r x7) (M : jw_M), jw_Rn G YX5_share 3 0 0 true (fun M1 => (0, M1)) 95 [(0, jR G 123), (1, jI x1), (2, jI x2), (3, jI x3), (4, jI x4), (5, jL x5), (7, jI x7)] [] M (fX5_share_95 r15 x1 x2 x3 x4 x5 x7 M) := by
  intro x1 x2 x3 x4 x5 x7 hx1 hx2 hx3 hx4 hx5 hx7 M
  unfold fX5_share_95
  refine jw_iincL (pc := 95) 6 (lv' := (fun y => [(7, y), (0, jR G 123), (1, jI x1), (2, jI x2), (3, jI x3), (4, jI x4), (5, jL x5)])) dX5_share_95 rfl (Nat.le_of_ble_eq_true rfl) (fun _ => rfl) (fun v12 hv12 => ?_)
  refine jw_goto (pc := 98) 15 dX5_share_98 (by decide) ?_
  exact jw_few [1, 2, 3, 4, 5, 6, 0] rfl (hr15 x1 x2 x3 x4 x5 v12 hx1 hx2 hx3 hx4 hx5 hv12 M)
def fX5_share_15 : Nat → Int → Int → Int → Int → Int → Int → jw_M → Option jw_M
  | 0, _, _, _, _, _, _, _ => none
  | k + 1, x1, x2, x3, x4, x5, x7, M => if x7 < jw_ishl 1 x4 then (if jw_iand (jw_ishr x7 x3) 1 = 0 then (Option.bind (fJ6_bitCount_0f7a4 x7 M) (fun v5 => Option.bind (some v5) (fun v6 => if 0 ≤ v6 ∧ v6 < 6 then if 0 ≤ jw_w ((jw_w (x4 - 1)) - v6) ∧ jw_w ((jw_w (x4 - 1)) - v6) < 6 then Option.bind (some (jw_w ((jw_x4.getD (v6).toNat 0) * (jw_x4.getD (jw_w ((jw_w (x4 - 1)) - v6)).toNat 0)))) (fun v7 => Option.bind (fX5_gain x1 x2 (jw_ior x7 (jw_ishl 1 x3)) M) (fun v8 => Option.bind (fX5_gain x1 x2 x7 M) (fun v9 => Option.bind (some (jw_w (v8 - v9))) (fun v10 => Option.bind (some (jw_v (x5 + (jw_v (v7 * v10))))) (fun v11 => fX5_share_95 (fX5_share_15 k) x1 x2 x3 x4 v11 x7 M))))) else none else none))) else (fX5_share_95 (fX5_share_15 k) x1 x2 x3 x4 x5 x7 M)) else (if 0 ≤ x4 ∧ x4 < 6 then Option.bind (some (jw_up M 123 5 (jw_x4.getD (x4).toNat 0))) (fun M13 => Option.bind (fX1_savedBy 30 x1 x3 M13) (fun v14 => Option.bind (some (jw_up M13 123 4 (jw_v ((jw_v (v14 * (M13 123 5))) - x5)))) (fun M16 => some M16))) else none)
set_option maxRecDepth 100000 in
theorem pX5_share_15 (G : jw_G) : ∀ (k : Nat) (x1 : Int) (x2 : Int) (x3 : Int) (x4 : Int) (x5 : Int) (x7 : Int) (hx1 : jw_r x1) (hx2 : jw_r x2) (hx3 : jw_r x3) (hx4 : jw_r x4) (hx5 : jw_q x5) (hx7 : jw_r x7) (M : jw_M), jw_Rn G YX5_share 3 0 0 true (fun M1 => (0, M1)) 15 [(0, jR G 123), (1, jI x1), (2, jI x2), (3, jI x3), (4, jI x4), (5, jL x5), (7, jI x7)] [] M (fX5_share_15 k x1 x2 x3 x4 x5 x7 M) := by
  intro k
  induction k with
  | zero =>
    intro x1 x2 x3 x4 x5 x7 hx1 hx2 hx3 hx4 hx5 hx7 M
    exact jw_none
  | succ k ih =>
    intro x1 x2 x3 x4 x5 x7 hx1 hx2 hx3 hx4 hx5 hx7 M
    rw [fX5_share_15]
    refine jw_iload (pc := 15) 6 dX5_share_15 rfl ?_
    refine jw_iconst (pc := 17) dX5_share_17 ?_
    refine jw_iload (pc := 18) 4 dX5_share_18 rfl ?_
    refine jw_ishlr (pc := 20) dX5_share_20 ?_
    refine jw_ic_ge (pc := 21) 101 dX5_share_21 (by decide) hx7 (jw_rI _) (fun _ => ?_) (fun _ => ?_)
    · refine jw_iload (pc := 24) 6 dX5_share_24 rfl ?_
      refine jw_iload_n (pc := 26) 3 dX5_share_26 rfl ?_
      refine jw_ishrr (pc := 27) dX5_share_27 ?_
      refine jw_iconst (pc := 28) dX5_share_28 ?_
      refine jw_iandr (pc := 29) dX5_share_29 ?_
      refine jw_if_ne (pc := 30) 95 dX5_share_30 (by decide) (jw_rI _) (fun _ => ?_) (fun _ => ?_)
      · refine jw_iload (pc := 33) 6 dX5_share_33 rfl ?_
        refine jw_callSi (pc := 35) (As := [jI x7]) (st := []) dX5_share_35 rfl (Nat.le_of_ble_eq_true rfl) qJ6_bitCount_0f7a4 jt_1011 jt_1012 rfl rfl (Nat.le_of_ble_eq_true rfl) (kJ6_bitCount_0f7a4 G x7 hx7 M) (fun v5 hv5 => ?_)
        refine jw_istoreL (pc := 38) (lv' := (fun y => [(8, y), (0, jR G 123), (1, jI x1), (2, jI x2), (3, jI x3), (4, jI x4), (5, jL x5), (7, jI x7)])) dX5_share_38 hv5 (by decide) (fun _ => rfl) (fun v6 hv6 => ?_)
        refine jw_gsta (pc := 40) 4 rfl dX5_share_40 js_4 jt_1017 ?_
        refine jw_iload (pc := 43) 0 dX5_share_43 rfl ?_
        refine jw_sald (pc := 45) dX5_share_45 js_4 hv6 rfl ?_
        refine jw_gsta (pc := 46) 4 rfl dX5_share_46 js_4 jt_1017 ?_
        refine jw_iload (pc := 49) 5 dX5_share_49 rfl ?_
        refine jw_iconst (pc := 51) dX5_share_51 ?_
        refine jw_isub (pc := 52) dX5_share_52 ?_
        refine jw_iload (pc := 53) 0 dX5_share_53 rfl ?_
        refine jw_isub (pc := 55) dX5_share_55 ?_
        refine jw_sald (pc := 56) dX5_share_56 js_4 (jw_wr _) rfl ?_
        refine jw_imul (pc := 57) dX5_share_57 ?_
        refine jw_i2lr (pc := 58) dX5_share_58 (jw_wr _) ?_
        refine jw_lstoreL (pc := 59) (lv' := (fun y => [(9, y), (8, jI v6), (0, jR G 123), (1, jI x1), (2, jI x2), (3, jI x3), (4, jI x4), (5, jL x5), (7, jI x7)])) dX5_share_59 (jw_rq (jw_wr _)) (by decide) (fun _ => rfl) (fun v7 hv7 => ?_)
        refine jw_aloadR (pc := 61) 2 dX5_share_61 rfl ?_
        refine jw_iload_n (pc := 62) 3 dX5_share_62 rfl ?_
        refine jw_iload_n (pc := 63) 4 dX5_share_63 rfl ?_
        refine jw_iload (pc := 64) 8 dX5_share_64 rfl ?_
        refine jw_iconst (pc := 66) dX5_share_66 ?_
        refine jw_iload_n (pc := 67) 5 dX5_share_67 rfl ?_
        refine jw_ishlr (pc := 68) dX5_share_68 ?_
        refine jw_iorr (pc := 69) dX5_share_69 ?_
        refine jw_callVi (pc := 70) (As := [jI x1, jI x2, jI (jw_ior x7 (jw_ishl 1 x3))]) (st := []) dX5_share_70 rfl (Nat.le_of_ble_eq_true rfl) qX5_gain jt_1019 jt_1021 jp_28 rfl rfl (Nat.le_of_ble_eq_true rfl) jv_5 rfl jg_123 jl_123 (by decide) (jw_ho jg_123 (by decide)) (kX5_gain G x1 x2 (jw_ior x7 (jw_ishl 1 x3)) hx1 hx2 (jw_rI _) M) (fun v8 hv8 => ?_)
        refine jw_aloadR (pc := 73) 2 dX5_share_73 rfl ?_
        refine jw_iload_n (pc := 74) 3 dX5_share_74 rfl ?_
        refine jw_iload_n (pc := 75) 4 dX5_share_75 rfl ?_
        refine jw_iload (pc := 76) 8 dX5_share_76 rfl ?_
        refine jw_callVi (pc := 78) (As := [jI x1, jI x2, jI x7]) (st := [jI v8]) dX5_share_78 rfl (Nat.le_of_ble_eq_true rfl) qX5_gain jt_1019 jt_1021 jp_28 rfl rfl (Nat.le_of_ble_eq_true rfl) jv_5 rfl jg_123 jl_123 (by decide) (jw_ho jg_123 (by decide)) (kX5_gain G x1 x2 x7 hx1 hx2 hx7 M) (fun v9 hv9 => ?_)
        refine jw_isub (pc := 81) dX5_share_81 ?_
        refine jw_istoreL (pc := 82) (lv' := (fun y => [(11, y), (9, jL v7), (8, jI v6), (0, jR G 123), (1, jI x1), (2, jI x2), (3, jI x3), (4, jI x4), (5, jL x5), (7, jI x7)])) dX5_share_82 (jw_wr _) (by decide) (fun _ => rfl) (fun v10 hv10 => ?_)
        refine jw_lload (pc := 84) 8 dX5_share_84 rfl ?_
        refine jw_lload (pc := 86) 1 dX5_share_86 rfl ?_
        refine jw_iload (pc := 88) 0 dX5_share_88 rfl ?_
        refine jw_i2lr (pc := 90) dX5_share_90 hv10 ?_
        refine jw_lmul (pc := 91) dX5_share_91 ?_
        refine jw_ladd (pc := 92) dX5_share_92 ?_
        refine jw_lstoreL (pc := 93) (lv' := (fun y => [(5, y), (11, jI v10), (9, jL v7), (8, jI v6), (0, jR G 123), (1, jI x1), (2, jI x2), (3, jI x3), (4, jI x4), (7, jI x7)])) dX5_share_93 (jw_vr _) (by decide) (fun _ => rfl) (fun v11 hv11 => ?_)
        exact jw_few [4, 5, 6, 7, 8, 0, 9] rfl (pX5_share_95 G (fX5_share_15 k) ih x1 x2 x3 x4 v11 x7 hx1 hx2 hx3 hx4 hv11 hx7 M)
      · exact jw_few [0, 1, 2, 3, 4, 5, 6] rfl (pX5_share_95 G (fX5_share_15 k) ih x1 x2 x3 x4 x5 x7 hx1 hx2 hx3 hx4 hx5 hx7 M)
    · refine jw_aloadR (pc := 101) 0 dX5_share_101 rfl ?_
      refine jw_gsta (pc := 102) 4 rfl dX5_share_102 js_4 jt_1017 ?_
      refine jw_iload (pc := 105) 4 dX5_share_105 rfl ?_
      refine jw_sald (pc := 107) dX5_share_107 js_4 hx4 rfl ?_
      refine jw_i2lr (pc := 108) dX5_share_108 (jw_xr _ _ rfl) ?_
      refine jw_putL (pc := 109) (j := 5) tyX5 rfl dX5_share_109 jv_5 ji_5 tyX5_ok nmX5 (Or.inl jt_341) rfl jg_123 jl_123 (by decide) (by decide) (jw_ho jg_123 (by decide)) rfl rfl (jw_rq (jw_xr _ _ rfl)) rfl ?_
      refine jw_letM (fun M13 => ?_)
      refine jw_aloadR (pc := 112) 0 dX5_share_112 rfl ?_
      refine jw_aloadR (pc := 113) 0 dX5_share_113 rfl ?_
      refine jw_getR (pc := 114) (j := 2) rfl dX5_share_114 jv_5 ji_5 (Or.inl jt_337) jg_123 jl_123 (by decide) (by decide) rfl jf_5_2 ?_
      refine jw_iload_n (pc := 117) 1 dX5_share_117 rfl ?_
      refine jw_iload_n (pc := 118) 3 dX5_share_118 rfl ?_
      refine jw_callVi (pc := 119) (As := [jI x1, jI x3]) (st := [jR G 123]) dX5_share_119 rfl (Nat.le_of_ble_eq_true rfl) qX1_savedBy jt_1023 jt_1000 jt_1001 rfl rfl (Nat.le_of_ble_eq_true rfl) jv_1 rfl jg_30 jl_30 (by decide) (jw_ho jg_30 (by decide)) (kX1_savedBy G 30 x1 x3 hx1 hx3 M13) (fun v14 hv14 => ?_)
      refine jw_i2lr (pc := 122) dX5_share_122 hv14 ?_
      refine jw_aloadR (pc := 123) 0 dX5_share_123 rfl ?_
      refine jw_getL (pc := 124) (j := 5) rfl dX5_share_124 jv_5 ji_5 (Or.inl jt_341) jg_123 jl_123 (by decide) (by decide) (jw_ho jg_123 (by decide)) rfl rfl (fun h15 => ?_)
      refine jw_lmul (pc := 127) dX5_share_127 ?_
      refine jw_lload (pc := 128) 5 dX5_share_128 rfl ?_
      refine jw_lsub (pc := 130) dX5_share_130 ?_
      refine jw_putL (pc := 131) (j := 4) tyX5 rfl dX5_share_131 jv_5 ji_5 tyX5_ok nmX5 (Or.inl jt_339) rfl jg_123 jl_123 (by decide) (by decide) (jw_ho jg_123 (by decide)) rfl rfl (jw_vr _) rfl ?_
      refine jw_letM (fun M16 => ?_)
      exact jw_ret (pc := 134) (v := 0) dX5_share_134 trivial rfl rfl
def fX5_share (a1 : Int) (a2 : Int) (a3 : Int) (M : jw_M) : Option jw_M :=
  Option.bind (some (M 17 4)) (fun v2 => Option.bind (some 0) (fun v3 => Option.bind (some 0) (fun v4 => fX5_share_15 jw_fu a1 a2 a3 v2 v3 v4 M)))
set_option maxRecDepth 100000 in
theorem rX5_share (G : jw_G) (a1 : Int) (a2 : Int) (a3 : Int) (ha1 : jw_r a1) (ha2 : jw_r a2) (ha3 : jw_r a3) (M : jw_M) : jw_Rn G YX5_share 3 0 0 true (fun M1 => (0, M1)) 0 [(0, jR G 123), (1, jI a1), (2, jI a2), (3, jI a3)] [] M (fX5_share a1 a2 a3 M) := by
  unfold fX5_share
  refine jw_aloadR (pc := 0) 0 dX5_share_0 rfl ?_
  refine jw_getR (pc := 1) (j := 1) rfl dX5_share_1 jv_5 ji_5 (Or.inl jt_336) jg_123 jl_123 (by decide) (by decide) rfl jf_5_1 ?_
  refine jw_getI (pc := 4) (j := 4) rfl dX5_share_4 jv_10 ji_10 (Or.inr ⟨_, jt_151⟩) jg_17 jl_17 (by decide) (by decide) (jw_ho jg_17 (by decide)) (Or.inl rfl) rfl (fun h1 => ?_)
  refine jw_istoreL (pc := 7) (lv' := (fun y => [(4, y), (0, jR G 123), (1, jI a1), (2, jI a2), (3, jI a3)])) dX5_share_7 h1 (by decide) (fun _ => rfl) (fun v2 hv2 => ?_)
  refine jw_lconst (pc := 9) (z := 0) dX5_share_9 rfl ?_
  refine jw_lstoreL (pc := 10) (lv' := (fun y => [(5, y), (4, jI v2), (0, jR G 123), (1, jI a1), (2, jI a2), (3, jI a3)])) dX5_share_10 (jw_qc _ rfl) (by decide) (fun _ => rfl) (fun v3 hv3 => ?_)
  refine jw_iconst (pc := 12) dX5_share_12 ?_
  refine jw_istoreL (pc := 13) (lv' := (fun y => [(7, y), (5, jL v3), (4, jI v2), (0, jR G 123), (1, jI a1), (2, jI a2), (3, jI a3)])) dX5_share_13 (jw_rc _ rfl) (by decide) (fun _ => rfl) (fun v4 hv4 => ?_)
  exact jw_few [3, 4, 5, 6, 2, 1, 0] rfl (pX5_share_15 G jw_fu a1 a2 a3 v2 v3 v4 ha1 ha2 ha3 hv2 hv3 hv4 M)
theorem kX5_share (G : jw_G) (a1 : Int) (a2 : Int) (a3 : Int) (ha1 : jw_r a1) (ha2 : jw_r a2) (ha3 : jw_r a3) (M : jw_M) : jw_Ct G YX5_share none 3 0 0 true (fun M1 => (0, M1)) yX5_share [jR G 123, jI a1, jI a2, jI a3] M (fX5_share a1 a2 a3 M) := jw_met (by decide) rfl rfl rfl (Nat.le_of_ble_eq_true rfl) (rX5_share G a1 a2 a3 ha1 ha2 ha3 M)
abbrev YX5_costWith : jw_Y := (RX5, cX5_costWith, 6, 1, "costWith")
theorem qX5_costWith : jw_cy YX5_costWith (some .int) yX5_costWith 3 := ⟨by decide, jt_1043, jt_12, by decide, by decide +kernel⟩
theorem dX5_costWith_0 : decode cX5_costWith 0 = .ok (.aload_n 0, 1) := by decide +kernel
theorem dX5_costWith_1 : decode cX5_costWith 1 = .ok (.getfield 21, 3) := by decide +kernel
theorem dX5_costWith_4 : decode cX5_costWith 4 = .ok (.aload_n 0, 1) := by decide +kernel
theorem dX5_costWith_5 : decode cX5_costWith 5 = .ok (.getfield 26, 3) := by decide +kernel
theorem dX5_costWith_8 : decode cX5_costWith 8 = .ok (.getfield 84, 3) := by decide +kernel
theorem dX5_costWith_11 : decode cX5_costWith 11 = .ok (.iload_n 1, 1) := by decide +kernel
theorem dX5_costWith_12 : decode cX5_costWith 12 = .ok (.iaload, 1) := by decide +kernel
theorem dX5_costWith_13 : decode cX5_costWith 13 = .ok (.aload_n 0, 1) := by decide +kernel
theorem dX5_costWith_14 : decode cX5_costWith 14 = .ok (.getfield 21, 3) := by decide +kernel
theorem dX5_costWith_17 : decode cX5_costWith 17 = .ok (.getfield 87, 3) := by decide +kernel
theorem dX5_costWith_20 : decode cX5_costWith 20 = .ok (.iload_n 2, 1) := by decide +kernel
theorem dX5_costWith_21 : decode cX5_costWith 21 = .ok (.iaload, 1) := by decide +kernel
theorem dX5_costWith_22 : decode cX5_costWith 22 = .ok (.invokevirtual 90, 3) := by decide +kernel
theorem dX5_costWith_25 : decode cX5_costWith 25 = .ok (.istore 4, 2) := by decide +kernel
theorem dX5_costWith_27 : decode cX5_costWith 27 = .ok (.iload 4, 2) := by decide +kernel
theorem dX5_costWith_29 : decode cX5_costWith 29 = .ok (.ldc 77, 2) := by decide +kernel
theorem dX5_costWith_31 : decode cX5_costWith 31 = .ok (.if_icmp .lt 6, 3) := by decide +kernel
theorem dX5_costWith_34 : decode cX5_costWith 34 = .ok (.ldc 77, 2) := by decide +kernel
theorem dX5_costWith_36 : decode cX5_costWith 36 = .ok (.ireturn, 1) := by decide +kernel
theorem dX5_costWith_37 : decode cX5_costWith 37 = .ok (.aload_n 0, 1) := by decide +kernel
theorem dX5_costWith_38 : decode cX5_costWith 38 = .ok (.getfield 21, 3) := by decide +kernel
theorem dX5_costWith_41 : decode cX5_costWith 41 = .ok (.getfield 93, 3) := by decide +kernel
theorem dX5_costWith_44 : decode cX5_costWith 44 = .ok (.iload_n 2, 1) := by decide +kernel
theorem dX5_costWith_45 : decode cX5_costWith 45 = .ok (.iaload, 1) := by decide +kernel
theorem dX5_costWith_46 : decode cX5_costWith 46 = .ok (.aload_n 0, 1) := by decide +kernel
theorem dX5_costWith_47 : decode cX5_costWith 47 = .ok (.getfield 26, 3) := by decide +kernel
theorem dX5_costWith_50 : decode cX5_costWith 50 = .ok (.iload_n 1, 1) := by decide +kernel
theorem dX5_costWith_51 : decode cX5_costWith 51 = .ok (.invokevirtual 96, 3) := by decide +kernel
theorem dX5_costWith_54 : decode cX5_costWith 54 = .ok (.imul, 1) := by decide +kernel
theorem dX5_costWith_55 : decode cX5_costWith 55 = .ok (.bipush 10, 2) := by decide +kernel
theorem dX5_costWith_57 : decode cX5_costWith 57 = .ok (.idiv, 1) := by decide +kernel
theorem dX5_costWith_58 : decode cX5_costWith 58 = .ok (.istore 5, 2) := by decide +kernel
theorem dX5_costWith_60 : decode cX5_costWith 60 = .ok (.iconst 2, 1) := by decide +kernel
theorem dX5_costWith_61 : decode cX5_costWith 61 = .ok (.iload 4, 2) := by decide +kernel
theorem dX5_costWith_63 : decode cX5_costWith 63 = .ok (.imul, 1) := by decide +kernel
theorem dX5_costWith_64 : decode cX5_costWith 64 = .ok (.iload 5, 2) := by decide +kernel
theorem dX5_costWith_66 : decode cX5_costWith 66 = .ok (.iadd, 1) := by decide +kernel
theorem dX5_costWith_67 : decode cX5_costWith 67 = .ok (.aload_n 0, 1) := by decide +kernel
theorem dX5_costWith_68 : decode cX5_costWith 68 = .ok (.getfield 9, 3) := by decide +kernel
theorem dX5_costWith_71 : decode cX5_costWith 71 = .ok (.iload_n 3, 1) := by decide +kernel
theorem dX5_costWith_72 : decode cX5_costWith 72 = .ok (.iconst 1, 1) := by decide +kernel
theorem dX5_costWith_73 : decode cX5_costWith 73 = .ok (.iload_n 2, 1) := by decide +kernel
theorem dX5_costWith_74 : decode cX5_costWith 74 = .ok (.ishl, 1) := by decide +kernel
theorem dX5_costWith_75 : decode cX5_costWith 75 = .ok (.ior, 1) := by decide +kernel
theorem dX5_costWith_76 : decode cX5_costWith 76 = .ok (.iaload, 1) := by decide +kernel
theorem dX5_costWith_77 : decode cX5_costWith 77 = .ok (.iadd, 1) := by decide +kernel
theorem dX5_costWith_78 : decode cX5_costWith 78 = .ok (.ireturn, 1) := by decide +kernel
def fX5_costWith (a1 : Int) (a2 : Int) (a3 : Int) (M : jw_M) : Option Int :=
  if 0 ≤ a1 ∧ a1 < 5 then if 0 ≤ a2 ∧ a2 < 6 then Option.bind (fX9_walkTo 10 (M (17 + 5) a1) (M (10 + 5) a2) M) (fun v3 => Option.bind (some v3) (fun v4 => if v4 < 1000000 then (if 0 ≤ a2 ∧ a2 < 6 then Option.bind (fX10_worthOf 17 a1 M) (fun v6 => if (10 : Int) ≠ 0 then Option.bind (some (jw_w (Int.tdiv (jw_w ((M (10 + 6) a2) * v6)) 10))) (fun v7 => if 0 ≤ jw_ior a3 (jw_ishl 1 a2) ∧ jw_ior a3 (jw_ishl 1 a2) < 64 then some (jw_w ((jw_w ((jw_w (2 * v4)) + v7)) + (M 124 (jw_ior a3 (jw_ishl 1 a2))))) else none) else none) else none) else (some 1000000))) else none else none
set_option maxRecDepth 100000 in
theorem rX5_costWith (G : jw_G) (a1 : Int) (a2 : Int) (a3 : Int) (ha1 : jw_r a1) (ha2 : jw_r a2) (ha3 : jw_r a3) (M : jw_M) : jw_Rn G YX5_costWith 2 0 0 true (fun v => (v, M)) 0 [(0, jR G 123), (1, jI a1), (2, jI a2), (3, jI a3)] [] M (fX5_costWith a1 a2 a3 M) := by
  unfold fX5_costWith
  refine jw_aloadR (pc := 0) 0 dX5_costWith_0 rfl ?_
  refine jw_getR (pc := 1) (j := 0) rfl dX5_costWith_1 jv_5 ji_5 (Or.inl jt_335) jg_123 jl_123 (by decide) (by decide) rfl jf_5_0 ?_
  refine jw_aloadR (pc := 4) 0 dX5_costWith_4 rfl ?_
  refine jw_getR (pc := 5) (j := 1) rfl dX5_costWith_5 jv_5 ji_5 (Or.inl jt_336) jg_123 jl_123 (by decide) (by decide) rfl jf_5_1 ?_
  refine jw_getR (pc := 8) (j := 6) rfl dX5_costWith_8 jv_10 ji_10 (Or.inr ⟨_, jt_162⟩) jg_17 jl_17 (by decide) (by decide) rfl (jf_10_6 jg_17).1 ?_
  refine jw_iload_n (pc := 11) 1 dX5_costWith_11 rfl ?_
  refine jw_iald (pc := 12) dX5_costWith_12 (jf_10_6 jg_17).2.1 (jf_10_6 jg_17).2.2 (jw_ho (jf_10_6 jg_17).2.1 (by decide)) ha1 rfl (fun h1 => ?_)
  refine jw_aloadR (pc := 13) 0 dX5_costWith_13 rfl ?_
  refine jw_getR (pc := 14) (j := 0) rfl dX5_costWith_14 jv_5 ji_5 (Or.inl jt_335) jg_123 jl_123 (by decide) (by decide) rfl jf_5_0 ?_
  refine jw_getR (pc := 17) (j := 6) rfl dX5_costWith_17 jv_9 ji_9 (Or.inr ⟨_, jt_109⟩) jg_10 jl_10 (by decide) (by decide) rfl (jf_9_6 jg_10).1 ?_
  refine jw_iload_n (pc := 20) 2 dX5_costWith_20 rfl ?_
  refine jw_iald (pc := 21) dX5_costWith_21 (jf_9_6 jg_10).2.1 (jf_9_6 jg_10).2.2 (jw_ho (jf_9_6 jg_10).2.1 (by decide)) ha2 rfl (fun h2 => ?_)
  refine jw_callVi (pc := 22) (As := [jI (M (17 + 5) a1), jI (M (10 + 5) a2)]) (st := []) dX5_costWith_22 rfl (Nat.le_of_ble_eq_true rfl) qX9_walkTo jt_1044 jt_737 jt_738 rfl rfl (Nat.le_of_ble_eq_true rfl) jv_9 rfl jg_10 jl_10 (by decide) (jw_ho jg_10 (by decide)) (kX9_walkTo G 10 (M (17 + 5) a1) (M (10 + 5) a2) h1 h2 M) (fun v3 hv3 => ?_)
  refine jw_istoreL (pc := 25) (lv' := (fun y => [(4, y), (0, jR G 123), (1, jI a1), (2, jI a2), (3, jI a3)])) dX5_costWith_25 hv3 (by decide) (fun _ => rfl) (fun v4 hv4 => ?_)
  refine jw_iload (pc := 27) 0 dX5_costWith_27 rfl ?_
  refine jw_ldc (pc := 29) (n := 1000000) dX5_costWith_29 jt_1039 (by decide) ?_
  refine jw_ic_lt (pc := 31) 37 dX5_costWith_31 (by decide) hv4 (jw_rc _ rfl) (fun _ => ?_) (fun _ => ?_)
  · refine jw_aloadR (pc := 37) 1 dX5_costWith_37 rfl ?_
    refine jw_getR (pc := 38) (j := 0) rfl dX5_costWith_38 jv_5 ji_5 (Or.inl jt_335) jg_123 jl_123 (by decide) (by decide) rfl jf_5_0 ?_
    refine jw_getR (pc := 41) (j := 7) rfl dX5_costWith_41 jv_9 ji_9 (Or.inr ⟨_, jt_111⟩) jg_10 jl_10 (by decide) (by decide) rfl (jf_9_7 jg_10).1 ?_
    refine jw_iload_n (pc := 44) 3 dX5_costWith_44 rfl ?_
    refine jw_iald (pc := 45) dX5_costWith_45 (jf_9_7 jg_10).2.1 (jf_9_7 jg_10).2.2 (jw_ho (jf_9_7 jg_10).2.1 (by decide)) ha2 rfl (fun h5 => ?_)
    refine jw_aloadR (pc := 46) 1 dX5_costWith_46 rfl ?_
    refine jw_getR (pc := 47) (j := 1) rfl dX5_costWith_47 jv_5 ji_5 (Or.inl jt_336) jg_123 jl_123 (by decide) (by decide) rfl jf_5_1 ?_
    refine jw_iload_n (pc := 50) 2 dX5_costWith_50 rfl ?_
    refine jw_callVi (pc := 51) (As := [jI a1]) (st := [jI (M (10 + 6) a2)]) dX5_costWith_51 rfl (Nat.le_of_ble_eq_true rfl) qX10_worthOf jt_1045 jt_766 jt_767 rfl rfl (Nat.le_of_ble_eq_true rfl) jv_10 rfl jg_17 jl_17 (by decide) (jw_ho jg_17 (by decide)) (kX10_worthOf G 17 a1 ha1 M) (fun v6 hv6 => ?_)
    refine jw_imul (pc := 54) dX5_costWith_54 ?_
    refine jw_bipush (pc := 55) dX5_costWith_55 rfl ?_
    refine jw_idiv (pc := 57) dX5_costWith_57 (jw_wr _) (jw_rc _ rfl) ?_
    refine jw_istoreL (pc := 58) (lv' := (fun y => [(5, y), (4, jI v4), (0, jR G 123), (1, jI a1), (2, jI a2), (3, jI a3)])) dX5_costWith_58 (jw_wr _) (by decide) (fun _ => rfl) (fun v7 hv7 => ?_)
    refine jw_iconst (pc := 60) dX5_costWith_60 ?_
    refine jw_iload (pc := 61) 1 dX5_costWith_61 rfl ?_
    refine jw_imul (pc := 63) dX5_costWith_63 ?_
    refine jw_iload (pc := 64) 0 dX5_costWith_64 rfl ?_
    refine jw_iadd (pc := 66) dX5_costWith_66 ?_
    refine jw_aloadR (pc := 67) 2 dX5_costWith_67 rfl ?_
    refine jw_getR (pc := 68) (j := 3) rfl dX5_costWith_68 jv_5 ji_5 (Or.inl jt_338) jg_123 jl_123 (by decide) (by decide) rfl jf_5_3 ?_
    refine jw_iload_n (pc := 71) 5 dX5_costWith_71 rfl ?_
    refine jw_iconst (pc := 72) dX5_costWith_72 ?_
    refine jw_iload_n (pc := 73) 4 dX5_costWith_73 rfl ?_
    refine jw_ishlr (pc := 74) dX5_costWith_74 ?_
    refine jw_iorr (pc := 75) dX5_costWith_75 ?_
    refine jw_iald (pc := 76) dX5_costWith_76 jg_124 jl_124 (jw_ho jg_124 (by decide)) (jw_rI _) rfl (fun h8 => ?_)
    refine jw_iadd (pc := 77) dX5_costWith_77 ?_
    exact jw_ret (pc := 78) (v := jw_w ((jw_w ((jw_w (2 * v4)) + v7)) + (M 124 (jw_ior a3 (jw_ishl 1 a2))))) dX5_costWith_78 (jw_wr _) rfl rfl
  · refine jw_ldc (pc := 34) (n := 1000000) dX5_costWith_34 jt_1039 (by decide) ?_
    exact jw_ret (pc := 36) (v := 1000000) dX5_costWith_36 (jw_rc _ rfl) rfl rfl
theorem kX5_costWith (G : jw_G) (a1 : Int) (a2 : Int) (a3 : Int) (ha1 : jw_r a1) (ha2 : jw_r a2) (ha3 : jw_r a3) (M : jw_M) : jw_Ct G YX5_costWith (some .int) 2 0 0 true (fun v => (v, M)) yX5_costWith [jR G 123, jI a1, jI a2, jI a3] M (fX5_costWith a1 a2 a3 M) := jw_met (by decide) rfl rfl rfl (Nat.le_of_ble_eq_true rfl) (rX5_costWith G a1 a2 a3 ha1 ha2 ha3 M)
abbrev YX5_leastFrom : jw_Y := (RX5, cX5_leastFrom, 5, 1, "leastFrom")
theorem qX5_leastFrom : jw_cy YX5_leastFrom (some .int) yX5_leastFrom 1 := ⟨by decide, jt_1038, jt_12, by decide, by decide +kernel⟩
theorem dX5_leastFrom_0 : decode cX5_leastFrom 0 = .ok (.iload_n 1, 1) := by decide +kernel
theorem dX5_leastFrom_1 : decode cX5_leastFrom 1 = .ok (.invokestatic 38, 3) := by decide +kernel
theorem dX5_leastFrom_4 : decode cX5_leastFrom 4 = .ok (.istore_n 2, 1) := by decide +kernel
theorem dX5_leastFrom_5 : decode cX5_leastFrom 5 = .ok (.iload_n 2, 1) := by decide +kernel
theorem dX5_leastFrom_6 : decode cX5_leastFrom 6 = .ok (.aload_n 0, 1) := by decide +kernel
theorem dX5_leastFrom_7 : decode cX5_leastFrom 7 = .ok (.getfield 26, 3) := by decide +kernel
theorem dX5_leastFrom_10 : decode cX5_leastFrom 10 = .ok (.getfield 32, 3) := by decide +kernel
theorem dX5_leastFrom_13 : decode cX5_leastFrom 13 = .ok (.if_icmp .lt 5, 3) := by decide +kernel
theorem dX5_leastFrom_16 : decode cX5_leastFrom 16 = .ok (.iconst 0, 1) := by decide +kernel
theorem dX5_leastFrom_17 : decode cX5_leastFrom 17 = .ok (.ireturn, 1) := by decide +kernel
theorem dX5_leastFrom_18 : decode cX5_leastFrom 18 = .ok (.ldc 77, 2) := by decide +kernel
theorem dX5_leastFrom_20 : decode cX5_leastFrom 20 = .ok (.istore_n 3, 1) := by decide +kernel
theorem dX5_leastFrom_21 : decode cX5_leastFrom 21 = .ok (.iconst 0, 1) := by decide +kernel
theorem dX5_leastFrom_22 : decode cX5_leastFrom 22 = .ok (.istore 4, 2) := by decide +kernel
theorem dX5_leastFrom_24 : decode cX5_leastFrom 24 = .ok (.iload 4, 2) := by decide +kernel
theorem dX5_leastFrom_26 : decode cX5_leastFrom 26 = .ok (.aload_n 0, 1) := by decide +kernel
theorem dX5_leastFrom_27 : decode cX5_leastFrom 27 = .ok (.getfield 21, 3) := by decide +kernel
theorem dX5_leastFrom_30 : decode cX5_leastFrom 30 = .ok (.getfield 69, 3) := by decide +kernel
theorem dX5_leastFrom_33 : decode cX5_leastFrom 33 = .ok (.if_icmp .ge 31, 3) := by decide +kernel
theorem dX5_leastFrom_36 : decode cX5_leastFrom 36 = .ok (.iload_n 1, 1) := by decide +kernel
theorem dX5_leastFrom_37 : decode cX5_leastFrom 37 = .ok (.iload 4, 2) := by decide +kernel
theorem dX5_leastFrom_39 : decode cX5_leastFrom 39 = .ok (.ishr, 1) := by decide +kernel
theorem dX5_leastFrom_40 : decode cX5_leastFrom 40 = .ok (.iconst 1, 1) := by decide +kernel
theorem dX5_leastFrom_41 : decode cX5_leastFrom 41 = .ok (.iand, 1) := by decide +kernel
theorem dX5_leastFrom_42 : decode cX5_leastFrom 42 = .ok (.ifCond .ne 16, 3) := by decide +kernel
theorem dX5_leastFrom_45 : decode cX5_leastFrom 45 = .ok (.iload_n 3, 1) := by decide +kernel
theorem dX5_leastFrom_46 : decode cX5_leastFrom 46 = .ok (.aload_n 0, 1) := by decide +kernel
theorem dX5_leastFrom_47 : decode cX5_leastFrom 47 = .ok (.iload_n 2, 1) := by decide +kernel
theorem dX5_leastFrom_48 : decode cX5_leastFrom 48 = .ok (.iload 4, 2) := by decide +kernel
theorem dX5_leastFrom_50 : decode cX5_leastFrom 50 = .ok (.iload_n 1, 1) := by decide +kernel
theorem dX5_leastFrom_51 : decode cX5_leastFrom 51 = .ok (.invokevirtual 78, 3) := by decide +kernel
theorem dX5_leastFrom_54 : decode cX5_leastFrom 54 = .ok (.invokestatic 81, 3) := by decide +kernel
theorem dX5_leastFrom_57 : decode cX5_leastFrom 57 = .ok (.istore_n 3, 1) := by decide +kernel
theorem dX5_leastFrom_58 : decode cX5_leastFrom 58 = .ok (.iinc 4 1, 3) := by decide +kernel
theorem dX5_leastFrom_61 : decode cX5_leastFrom 61 = .ok (.goto (-37), 3) := by decide +kernel
theorem dX5_leastFrom_64 : decode cX5_leastFrom 64 = .ok (.iload_n 3, 1) := by decide +kernel
theorem dX5_leastFrom_65 : decode cX5_leastFrom 65 = .ok (.ireturn, 1) := by decide +kernel
def fX5_leastFrom_58 (M : jw_M) (r24 : Int → Int → Int → Int → Option Int) (x1 : Int) (x2 : Int) (x3 : Int) (x4 : Int) : Option Int :=
  Option.bind (some (jw_w (x4 + 1))) (fun v9 => r24 x1 x2 x3 v9)
set_option maxRecDepth 100000 in
theorem pX5_leastFrom_58 (G : jw_G) (M : jw_M) (r24 : Int → Int → Int → Int → Option Int) (hr24 : ∀ (x1 : Int) (x2 : Int) (x3 : Int) (x4 : Int) (hx1 : jw_r x1) (hx2 : jw_r x2) (hx3 : jw_r x3) (hx4 : jw_r x4), jw_Rn G YX5_leastFrom 3 0 0 true (fun v => (v, M)) 24 [(0, jR G 123), (1, jI x1), (2, jI x2), (3, jI x3), (4, jI x4)] [] M (r24 x1 x2 x3 x4)) : ∀ (x1 : Int) (x2 : Int) (x3 : Int) (x4 : Int) (hx1 : jw_r x1) (hx2 : jw_r x2) (hx3 : jw_r x3) (hx4 : jw_r x4), jw_Rn G YX5_leastFrom 3 0 0 true (fun v => (v, M)) 58 [(0, jR G 123), (1, jI x1), (2, jI x2), (3, jI x3), (4, jI x4)] [] M (fX5_leastFrom_58 M r24 x1 x2 x3 x4) := by
  intro x1 x2 x3 x4 hx1 hx2 hx3 hx4
  unfold fX5_leastFrom_58
  refine jw_iincL (pc := 58) 4 (lv' := (fun y => [(4, y), (0, jR G 123), (1, jI x1), (2, jI x2), (3, jI x3)])) dX5_leastFrom_58 rfl (Nat.le_of_ble_eq_true rfl) (fun _ => rfl) (fun v9 hv9 => ?_)
  refine jw_goto (pc := 61) 24 dX5_leastFrom_61 (by decide) ?_
  exact jw_few [1, 2, 3, 4, 0] rfl (hr24 x1 x2 x3 v9 hx1 hx2 hx3 hv9)
def fX5_leastFrom_24 (M : jw_M) : Nat → Int → Int → Int → Int → Option Int
  | 0, _, _, _, _ => none
  | k + 1, x1, x2, x3, x4 => if x4 < M 10 5 then (if jw_iand (jw_ishr x1 x4) 1 = 0 then (Option.bind (fX5_costWith x2 x4 x1 M) (fun v7 => Option.bind (some (jw_min x3 v7)) (fun v8 => fX5_leastFrom_58 M (fX5_leastFrom_24 M k) x1 x2 v8 x4))) else (fX5_leastFrom_58 M (fX5_leastFrom_24 M k) x1 x2 x3 x4)) else (some x3)
set_option maxRecDepth 100000 in
theorem pX5_leastFrom_24 (G : jw_G) (M : jw_M) : ∀ (k : Nat) (x1 : Int) (x2 : Int) (x3 : Int) (x4 : Int) (hx1 : jw_r x1) (hx2 : jw_r x2) (hx3 : jw_r x3) (hx4 : jw_r x4), jw_Rn G YX5_leastFrom 3 0 0 true (fun v => (v, M)) 24 [(0, jR G 123), (1, jI x1), (2, jI x2), (3, jI x3), (4, jI x4)] [] M (fX5_leastFrom_24 M k x1 x2 x3 x4) := by
  intro k
  induction k with
  | zero =>
    intro x1 x2 x3 x4 hx1 hx2 hx3 hx4
    exact jw_none
  | succ k ih =>
    intro x1 x2 x3 x4 hx1 hx2 hx3 hx4
    rw [fX5_leastFrom_24]
    refine jw_iload (pc := 24) 4 dX5_leastFrom_24 rfl ?_
    refine jw_aloadR (pc := 26) 0 dX5_leastFrom_26 rfl ?_
    refine jw_getR (pc := 27) (j := 0) rfl dX5_leastFrom_27 jv_5 ji_5 (Or.inl jt_335) jg_123 jl_123 (by decide) (by decide) rfl jf_5_0 ?_
    refine jw_getI (pc := 30) (j := 5) rfl dX5_leastFrom_30 jv_9 ji_9 (Or.inr ⟨_, jt_106⟩) jg_10 jl_10 (by decide) (by decide) (jw_ho jg_10 (by decide)) (Or.inl rfl) rfl (fun h6 => ?_)
    refine jw_ic_ge (pc := 33) 64 dX5_leastFrom_33 (by decide) hx4 h6 (fun _ => ?_) (fun _ => ?_)
    · refine jw_iload_n (pc := 36) 1 dX5_leastFrom_36 rfl ?_
      refine jw_iload (pc := 37) 4 dX5_leastFrom_37 rfl ?_
      refine jw_ishrr (pc := 39) dX5_leastFrom_39 ?_
      refine jw_iconst (pc := 40) dX5_leastFrom_40 ?_
      refine jw_iandr (pc := 41) dX5_leastFrom_41 ?_
      refine jw_if_ne (pc := 42) 58 dX5_leastFrom_42 (by decide) (jw_rI _) (fun _ => ?_) (fun _ => ?_)
      · refine jw_iload_n (pc := 45) 3 dX5_leastFrom_45 rfl ?_
        refine jw_aloadR (pc := 46) 0 dX5_leastFrom_46 rfl ?_
        refine jw_iload_n (pc := 47) 2 dX5_leastFrom_47 rfl ?_
        refine jw_iload (pc := 48) 4 dX5_leastFrom_48 rfl ?_
        refine jw_iload_n (pc := 50) 1 dX5_leastFrom_50 rfl ?_
        refine jw_callVi (pc := 51) (As := [jI x2, jI x4, jI x1]) (st := [jI x3]) dX5_leastFrom_51 rfl (Nat.le_of_ble_eq_true rfl) qX5_costWith jt_1040 jt_1042 jp_30 rfl rfl (Nat.le_of_ble_eq_true rfl) jv_5 rfl jg_123 jl_123 (by decide) (jw_ho jg_123 (by decide)) (kX5_costWith G x2 x4 x1 hx2 hx4 hx1 M) (fun v7 hv7 => ?_)
        refine jw_mmin (pc := 54) dX5_leastFrom_54 jt_1046 jt_664 jt_20 jt_665 (by decide) (Nat.le_of_ble_eq_true rfl) hx3 hv7 ?_
        refine jw_istore_nL (pc := 57) (lv' := (fun y => [(3, y), (0, jR G 123), (1, jI x1), (2, jI x2), (4, jI x4)])) dX5_leastFrom_57 (jw_minr hx3 hv7) (by decide) (fun _ => rfl) (fun v8 hv8 => ?_)
        exact jw_few [1, 2, 3, 0, 4] rfl (pX5_leastFrom_58 G M (fX5_leastFrom_24 M k) ih x1 x2 v8 x4 hx1 hx2 hv8 hx4)
      · exact jw_few [0, 1, 2, 3, 4] rfl (pX5_leastFrom_58 G M (fX5_leastFrom_24 M k) ih x1 x2 x3 x4 hx1 hx2 hx3 hx4)
    · refine jw_iload_n (pc := 64) 3 dX5_leastFrom_64 rfl ?_
      exact jw_ret (pc := 65) (v := x3) dX5_leastFrom_65 hx3 rfl rfl
def fX5_leastFrom (a1 : Int) (M : jw_M) : Option Int :=
  Option.bind (fJ6_bitCount_0f7a4 a1 M) (fun v1 => Option.bind (some v1) (fun v2 => if v2 < M 17 4 then (Option.bind (some 1000000) (fun v4 => Option.bind (some 0) (fun v5 => fX5_leastFrom_24 M jw_fu a1 v2 v4 v5))) else (some 0)))
set_option maxRecDepth 100000 in
theorem rX5_leastFrom (G : jw_G) (a1 : Int) (ha1 : jw_r a1) (M : jw_M) : jw_Rn G YX5_leastFrom 3 0 0 true (fun v => (v, M)) 0 [(0, jR G 123), (1, jI a1)] [] M (fX5_leastFrom a1 M) := by
  unfold fX5_leastFrom
  refine jw_iload_n (pc := 0) 1 dX5_leastFrom_0 rfl ?_
  refine jw_callSi (pc := 1) (As := [jI a1]) (st := []) dX5_leastFrom_1 rfl (Nat.le_of_ble_eq_true rfl) qJ6_bitCount_0f7a4 jt_1011 jt_1012 rfl rfl (Nat.le_of_ble_eq_true rfl) (kJ6_bitCount_0f7a4 G a1 ha1 M) (fun v1 hv1 => ?_)
  refine jw_istore_nL (pc := 4) (lv' := (fun y => [(2, y), (0, jR G 123), (1, jI a1)])) dX5_leastFrom_4 hv1 (by decide) (fun _ => rfl) (fun v2 hv2 => ?_)
  refine jw_iload_n (pc := 5) 0 dX5_leastFrom_5 rfl ?_
  refine jw_aloadR (pc := 6) 1 dX5_leastFrom_6 rfl ?_
  refine jw_getR (pc := 7) (j := 1) rfl dX5_leastFrom_7 jv_5 ji_5 (Or.inl jt_336) jg_123 jl_123 (by decide) (by decide) rfl jf_5_1 ?_
  refine jw_getI (pc := 10) (j := 4) rfl dX5_leastFrom_10 jv_10 ji_10 (Or.inr ⟨_, jt_151⟩) jg_17 jl_17 (by decide) (by decide) (jw_ho jg_17 (by decide)) (Or.inl rfl) rfl (fun h3 => ?_)
  refine jw_ic_lt (pc := 13) 18 dX5_leastFrom_13 (by decide) hv2 h3 (fun _ => ?_) (fun _ => ?_)
  · refine jw_ldc (pc := 18) (n := 1000000) dX5_leastFrom_18 jt_1039 (by decide) ?_
    refine jw_istore_nL (pc := 20) (lv' := (fun y => [(3, y), (2, jI v2), (0, jR G 123), (1, jI a1)])) dX5_leastFrom_20 (jw_rc _ rfl) (by decide) (fun _ => rfl) (fun v4 hv4 => ?_)
    refine jw_iconst (pc := 21) dX5_leastFrom_21 ?_
    refine jw_istoreL (pc := 22) (lv' := (fun y => [(4, y), (3, jI v4), (2, jI v2), (0, jR G 123), (1, jI a1)])) dX5_leastFrom_22 (jw_rc _ rfl) (by decide) (fun _ => rfl) (fun v5 hv5 => ?_)
    exact jw_few [3, 4, 2, 1, 0] rfl (pX5_leastFrom_24 G M jw_fu a1 v2 v4 v5 ha1 hv2 hv4 hv5)
  · refine jw_iconst (pc := 16) dX5_leastFrom_16 ?_
    exact jw_ret (pc := 17) (v := 0) dX5_leastFrom_17 (jw_rc _ rfl) rfl rfl
theorem kX5_leastFrom (G : jw_G) (a1 : Int) (ha1 : jw_r a1) (M : jw_M) : jw_Ct G YX5_leastFrom (some .int) 3 0 0 true (fun v => (v, M)) yX5_leastFrom [jR G 123, jI a1] M (fX5_leastFrom a1 M) := jw_met (by decide) rfl rfl rfl (Nat.le_of_ble_eq_true rfl) (rX5_leastFrom G a1 ha1 M)
abbrev YX5_leastStorage : jw_Y := (RX5, cX5_leastStorage, 2, 1, "leastStorage")
theorem qX5_leastStorage : jw_cy YX5_leastStorage (some .int) yX5_leastStorage 0 := ⟨by decide, jt_1034, jt_12, by decide, by decide +kernel⟩
theorem dX5_leastStorage_0 : decode cX5_leastStorage 0 = .ok (.iconst 1, 1) := by decide +kernel
theorem dX5_leastStorage_1 : decode cX5_leastStorage 1 = .ok (.aload_n 0, 1) := by decide +kernel
theorem dX5_leastStorage_2 : decode cX5_leastStorage 2 = .ok (.getfield 21, 3) := by decide +kernel
theorem dX5_leastStorage_5 : decode cX5_leastStorage 5 = .ok (.getfield 69, 3) := by decide +kernel
theorem dX5_leastStorage_8 : decode cX5_leastStorage 8 = .ok (.ishl, 1) := by decide +kernel
theorem dX5_leastStorage_9 : decode cX5_leastStorage 9 = .ok (.iconst 1, 1) := by decide +kernel
theorem dX5_leastStorage_10 : decode cX5_leastStorage 10 = .ok (.isub, 1) := by decide +kernel
theorem dX5_leastStorage_11 : decode cX5_leastStorage 11 = .ok (.istore_n 1, 1) := by decide +kernel
theorem dX5_leastStorage_12 : decode cX5_leastStorage 12 = .ok (.iload_n 1, 1) := by decide +kernel
theorem dX5_leastStorage_13 : decode cX5_leastStorage 13 = .ok (.ifCond .lt 20, 3) := by decide +kernel
theorem dX5_leastStorage_16 : decode cX5_leastStorage 16 = .ok (.aload_n 0, 1) := by decide +kernel
theorem dX5_leastStorage_17 : decode cX5_leastStorage 17 = .ok (.getfield 9, 3) := by decide +kernel
theorem dX5_leastStorage_20 : decode cX5_leastStorage 20 = .ok (.iload_n 1, 1) := by decide +kernel
theorem dX5_leastStorage_21 : decode cX5_leastStorage 21 = .ok (.aload_n 0, 1) := by decide +kernel
theorem dX5_leastStorage_22 : decode cX5_leastStorage 22 = .ok (.iload_n 1, 1) := by decide +kernel
theorem dX5_leastStorage_23 : decode cX5_leastStorage 23 = .ok (.invokevirtual 74, 3) := by decide +kernel
theorem dX5_leastStorage_26 : decode cX5_leastStorage 26 = .ok (.iastore, 1) := by decide +kernel
theorem dX5_leastStorage_27 : decode cX5_leastStorage 27 = .ok (.iinc 1 (-1), 3) := by decide +kernel
theorem dX5_leastStorage_30 : decode cX5_leastStorage 30 = .ok (.goto (-18), 3) := by decide +kernel
theorem dX5_leastStorage_33 : decode cX5_leastStorage 33 = .ok (.aload_n 0, 1) := by decide +kernel
theorem dX5_leastStorage_34 : decode cX5_leastStorage 34 = .ok (.getfield 9, 3) := by decide +kernel
theorem dX5_leastStorage_37 : decode cX5_leastStorage 37 = .ok (.iconst 0, 1) := by decide +kernel
theorem dX5_leastStorage_38 : decode cX5_leastStorage 38 = .ok (.iaload, 1) := by decide +kernel
theorem dX5_leastStorage_39 : decode cX5_leastStorage 39 = .ok (.ireturn, 1) := by decide +kernel
def fX5_leastStorage_12 : Nat → Int → jw_M → Option (Int × jw_M)
  | 0, _, _ => none
  | k + 1, x1, M => if x1 < 0 then (if 0 ≤ (0 : Int) ∧ (0 : Int) < 64 then some (M 124 0, M) else none) else (Option.bind (fX5_leastFrom x1 M) (fun v4 => if 0 ≤ x1 ∧ x1 < 64 then Option.bind (some (jw_up M 124 x1 v4)) (fun M5 => Option.bind (some (jw_w (x1 + (-1)))) (fun v6 => fX5_leastStorage_12 k v6 M5)) else none))
set_option maxRecDepth 100000 in
theorem pX5_leastStorage_12 (G : jw_G) : ∀ (k : Nat) (x1 : Int) (hx1 : jw_r x1) (M : jw_M), jw_Rn G YX5_leastStorage 4 0 0 true (fun q => q) 12 [(0, jR G 123), (1, jI x1)] [] M (fX5_leastStorage_12 k x1 M) := by
  intro k
  induction k with
  | zero =>
    intro x1 hx1 M
    exact jw_none
  | succ k ih =>
    intro x1 hx1 M
    rw [fX5_leastStorage_12]
    refine jw_iload_n (pc := 12) 1 dX5_leastStorage_12 rfl ?_
    refine jw_if_lt (pc := 13) 33 dX5_leastStorage_13 (by decide) hx1 (fun _ => ?_) (fun _ => ?_)
    · refine jw_aloadR (pc := 33) 0 dX5_leastStorage_33 rfl ?_
      refine jw_getR (pc := 34) (j := 3) rfl dX5_leastStorage_34 jv_5 ji_5 (Or.inl jt_338) jg_123 jl_123 (by decide) (by decide) rfl jf_5_3 ?_
      refine jw_iconst (pc := 37) dX5_leastStorage_37 ?_
      refine jw_iald (pc := 38) dX5_leastStorage_38 jg_124 jl_124 (jw_ho jg_124 (by decide)) (jw_rc _ rfl) rfl (fun h3 => ?_)
      exact jw_ret (pc := 39) (v := M 124 0) dX5_leastStorage_39 h3 rfl rfl
    · refine jw_aloadR (pc := 16) 0 dX5_leastStorage_16 rfl ?_
      refine jw_getR (pc := 17) (j := 3) rfl dX5_leastStorage_17 jv_5 ji_5 (Or.inl jt_338) jg_123 jl_123 (by decide) (by decide) rfl jf_5_3 ?_
      refine jw_iload_n (pc := 20) 1 dX5_leastStorage_20 rfl ?_
      refine jw_aloadR (pc := 21) 0 dX5_leastStorage_21 rfl ?_
      refine jw_iload_n (pc := 22) 1 dX5_leastStorage_22 rfl ?_
      refine jw_callVi (pc := 23) (As := [jI x1]) (st := [jI x1, jR G 124]) dX5_leastStorage_23 rfl (Nat.le_of_ble_eq_true rfl) qX5_leastFrom jt_1035 jt_1037 jp_29 rfl rfl (Nat.le_of_ble_eq_true rfl) jv_5 rfl jg_123 jl_123 (by decide) (jw_ho jg_123 (by decide)) (kX5_leastFrom G x1 hx1 M) (fun v4 hv4 => ?_)
      refine jw_iast (pc := 26) dX5_leastStorage_26 jg_124 jl_124 (jw_ho jg_124 (by decide)) hx1 hv4 rfl ?_
      refine jw_letM (fun M5 => ?_)
      refine jw_iincL (pc := 27) 1 (lv' := (fun y => [(1, y), (0, jR G 123)])) dX5_leastStorage_27 rfl (Nat.le_of_ble_eq_true rfl) (fun _ => rfl) (fun v6 hv6 => ?_)
      refine jw_goto (pc := 30) 12 dX5_leastStorage_30 (by decide) ?_
      exact jw_few [1, 0] rfl (ih v6 hv6 M5)
def fX5_leastStorage (M : jw_M) : Option (Int × jw_M) :=
  Option.bind (some (jw_w ((jw_ishl 1 (M 10 5)) - 1))) (fun v2 => fX5_leastStorage_12 jw_fu v2 M)
set_option maxRecDepth 100000 in
theorem rX5_leastStorage (G : jw_G) (M : jw_M) : jw_Rn G YX5_leastStorage 4 0 0 true (fun q => q) 0 [(0, jR G 123)] [] M (fX5_leastStorage M) := by
  unfold fX5_leastStorage
  refine jw_iconst (pc := 0) dX5_leastStorage_0 ?_
  refine jw_aloadR (pc := 1) 0 dX5_leastStorage_1 rfl ?_
  refine jw_getR (pc := 2) (j := 0) rfl dX5_leastStorage_2 jv_5 ji_5 (Or.inl jt_335) jg_123 jl_123 (by decide) (by decide) rfl jf_5_0 ?_
  refine jw_getI (pc := 5) (j := 5) rfl dX5_leastStorage_5 jv_9 ji_9 (Or.inr ⟨_, jt_106⟩) jg_10 jl_10 (by decide) (by decide) (jw_ho jg_10 (by decide)) (Or.inl rfl) rfl (fun h1 => ?_)
  refine jw_ishlr (pc := 8) dX5_leastStorage_8 ?_
  refine jw_iconst (pc := 9) dX5_leastStorage_9 ?_
  refine jw_isub (pc := 10) dX5_leastStorage_10 ?_
  refine jw_istore_nL (pc := 11) (lv' := (fun y => [(1, y), (0, jR G 123)])) dX5_leastStorage_11 (jw_wr _) (by decide) (fun _ => rfl) (fun v2 hv2 => ?_)
  exact jw_few [1, 0] rfl (pX5_leastStorage_12 G jw_fu v2 hv2 M)
theorem kX5_leastStorage (G : jw_G) (M : jw_M) : jw_Ct G YX5_leastStorage (some .int) 4 0 0 true (fun q => q) yX5_leastStorage [jR G 123] M (fX5_leastStorage M) := jw_met (by decide) rfl rfl rfl (Nat.le_of_ble_eq_true rfl) (rX5_leastStorage G M)
abbrev YX5_firstOfLeast : jw_Y := (RX5, cX5_firstOfLeast, 4, 1, "firstOfLeast")
theorem qX5_firstOfLeast : jw_cy YX5_firstOfLeast (some .int) yX5_firstOfLeast 2 := ⟨by decide, jt_1055, jt_12, by decide, by decide +kernel⟩
theorem dX5_firstOfLeast_0 : decode cX5_firstOfLeast 0 = .ok (.iconst 0, 1) := by decide +kernel
theorem dX5_firstOfLeast_1 : decode cX5_firstOfLeast 1 = .ok (.istore_n 3, 1) := by decide +kernel
theorem dX5_firstOfLeast_2 : decode cX5_firstOfLeast 2 = .ok (.iload_n 3, 1) := by decide +kernel
theorem dX5_firstOfLeast_3 : decode cX5_firstOfLeast 3 = .ok (.aload_n 0, 1) := by decide +kernel
theorem dX5_firstOfLeast_4 : decode cX5_firstOfLeast 4 = .ok (.getfield 21, 3) := by decide +kernel
theorem dX5_firstOfLeast_7 : decode cX5_firstOfLeast 7 = .ok (.getfield 69, 3) := by decide +kernel
theorem dX5_firstOfLeast_10 : decode cX5_firstOfLeast 10 = .ok (.if_icmp .ge 35, 3) := by decide +kernel
theorem dX5_firstOfLeast_13 : decode cX5_firstOfLeast 13 = .ok (.iload_n 2, 1) := by decide +kernel
theorem dX5_firstOfLeast_14 : decode cX5_firstOfLeast 14 = .ok (.iload_n 3, 1) := by decide +kernel
theorem dX5_firstOfLeast_15 : decode cX5_firstOfLeast 15 = .ok (.ishr, 1) := by decide +kernel
theorem dX5_firstOfLeast_16 : decode cX5_firstOfLeast 16 = .ok (.iconst 1, 1) := by decide +kernel
theorem dX5_firstOfLeast_17 : decode cX5_firstOfLeast 17 = .ok (.iand, 1) := by decide +kernel
theorem dX5_firstOfLeast_18 : decode cX5_firstOfLeast 18 = .ok (.ifCond .ne 21, 3) := by decide +kernel
theorem dX5_firstOfLeast_21 : decode cX5_firstOfLeast 21 = .ok (.aload_n 0, 1) := by decide +kernel
theorem dX5_firstOfLeast_22 : decode cX5_firstOfLeast 22 = .ok (.iload_n 1, 1) := by decide +kernel
theorem dX5_firstOfLeast_23 : decode cX5_firstOfLeast 23 = .ok (.iload_n 3, 1) := by decide +kernel
theorem dX5_firstOfLeast_24 : decode cX5_firstOfLeast 24 = .ok (.iload_n 2, 1) := by decide +kernel
theorem dX5_firstOfLeast_25 : decode cX5_firstOfLeast 25 = .ok (.invokevirtual 78, 3) := by decide +kernel
theorem dX5_firstOfLeast_28 : decode cX5_firstOfLeast 28 = .ok (.aload_n 0, 1) := by decide +kernel
theorem dX5_firstOfLeast_29 : decode cX5_firstOfLeast 29 = .ok (.getfield 9, 3) := by decide +kernel
theorem dX5_firstOfLeast_32 : decode cX5_firstOfLeast 32 = .ok (.iload_n 2, 1) := by decide +kernel
theorem dX5_firstOfLeast_33 : decode cX5_firstOfLeast 33 = .ok (.iaload, 1) := by decide +kernel
theorem dX5_firstOfLeast_34 : decode cX5_firstOfLeast 34 = .ok (.if_icmp .ne 5, 3) := by decide +kernel
theorem dX5_firstOfLeast_37 : decode cX5_firstOfLeast 37 = .ok (.iload_n 3, 1) := by decide +kernel
theorem dX5_firstOfLeast_38 : decode cX5_firstOfLeast 38 = .ok (.ireturn, 1) := by decide +kernel
theorem dX5_firstOfLeast_39 : decode cX5_firstOfLeast 39 = .ok (.iinc 3 1, 3) := by decide +kernel
theorem dX5_firstOfLeast_42 : decode cX5_firstOfLeast 42 = .ok (.goto (-40), 3) := by decide +kernel
theorem dX5_firstOfLeast_45 : decode cX5_firstOfLeast 45 = .ok (.ldc 99, 2) := by decide +kernel
theorem dX5_firstOfLeast_47 : decode cX5_firstOfLeast 47 = .ok (.ireturn, 1) := by decide +kernel
def fX5_firstOfLeast_39 (M : jw_M) (r2 : Int → Int → Int → Option Int) (x1 : Int) (x2 : Int) (x3 : Int) : Option Int :=
  Option.bind (some (jw_w (x3 + 1))) (fun v5 => r2 x1 x2 v5)
set_option maxRecDepth 100000 in
theorem pX5_firstOfLeast_39 (G : jw_G) (M : jw_M) (r2 : Int → Int → Int → Option Int) (hr2 : ∀ (x1 : Int) (x2 : Int) (x3 : Int) (hx1 : jw_r x1) (hx2 : jw_r x2) (hx3 : jw_r x3), jw_Rn G YX5_firstOfLeast 3 0 0 true (fun v => (v, M)) 2 [(0, jR G 123), (1, jI x1), (2, jI x2), (3, jI x3)] [] M (r2 x1 x2 x3)) : ∀ (x1 : Int) (x2 : Int) (x3 : Int) (hx1 : jw_r x1) (hx2 : jw_r x2) (hx3 : jw_r x3), jw_Rn G YX5_firstOfLeast 3 0 0 true (fun v => (v, M)) 39 [(0, jR G 123), (1, jI x1), (2, jI x2), (3, jI x3)] [] M (fX5_firstOfLeast_39 M r2 x1 x2 x3) := by
  intro x1 x2 x3 hx1 hx2 hx3
  unfold fX5_firstOfLeast_39
  refine jw_iincL (pc := 39) 3 (lv' := (fun y => [(3, y), (0, jR G 123), (1, jI x1), (2, jI x2)])) dX5_firstOfLeast_39 rfl (Nat.le_of_ble_eq_true rfl) (fun _ => rfl) (fun v5 hv5 => ?_)
  refine jw_goto (pc := 42) 2 dX5_firstOfLeast_42 (by decide) ?_
  exact jw_few [1, 2, 3, 0] rfl (hr2 x1 x2 v5 hx1 hx2 hv5)
def fX5_firstOfLeast_2 (M : jw_M) : Nat → Int → Int → Int → Option Int
  | 0, _, _, _ => none
  | k + 1, x1, x2, x3 => if x3 < M 10 5 then (if jw_iand (jw_ishr x2 x3) 1 = 0 then (Option.bind (fX5_costWith x1 x3 x2 M) (fun v3 => if 0 ≤ x2 ∧ x2 < 64 then if v3 = M 124 x2 then (some x3) else (fX5_firstOfLeast_39 M (fX5_firstOfLeast_2 M k) x1 x2 x3) else none)) else (fX5_firstOfLeast_39 M (fX5_firstOfLeast_2 M k) x1 x2 x3)) else (some (-1000000))
set_option maxRecDepth 100000 in
theorem pX5_firstOfLeast_2 (G : jw_G) (M : jw_M) : ∀ (k : Nat) (x1 : Int) (x2 : Int) (x3 : Int) (hx1 : jw_r x1) (hx2 : jw_r x2) (hx3 : jw_r x3), jw_Rn G YX5_firstOfLeast 3 0 0 true (fun v => (v, M)) 2 [(0, jR G 123), (1, jI x1), (2, jI x2), (3, jI x3)] [] M (fX5_firstOfLeast_2 M k x1 x2 x3) := by
  intro k
  induction k with
  | zero =>
    intro x1 x2 x3 hx1 hx2 hx3
    exact jw_none
  | succ k ih =>
    intro x1 x2 x3 hx1 hx2 hx3
    rw [fX5_firstOfLeast_2]
    refine jw_iload_n (pc := 2) 3 dX5_firstOfLeast_2 rfl ?_
    refine jw_aloadR (pc := 3) 0 dX5_firstOfLeast_3 rfl ?_
    refine jw_getR (pc := 4) (j := 0) rfl dX5_firstOfLeast_4 jv_5 ji_5 (Or.inl jt_335) jg_123 jl_123 (by decide) (by decide) rfl jf_5_0 ?_
    refine jw_getI (pc := 7) (j := 5) rfl dX5_firstOfLeast_7 jv_9 ji_9 (Or.inr ⟨_, jt_106⟩) jg_10 jl_10 (by decide) (by decide) (jw_ho jg_10 (by decide)) (Or.inl rfl) rfl (fun h2 => ?_)
    refine jw_ic_ge (pc := 10) 45 dX5_firstOfLeast_10 (by decide) hx3 h2 (fun _ => ?_) (fun _ => ?_)
    · refine jw_iload_n (pc := 13) 2 dX5_firstOfLeast_13 rfl ?_
      refine jw_iload_n (pc := 14) 3 dX5_firstOfLeast_14 rfl ?_
      refine jw_ishrr (pc := 15) dX5_firstOfLeast_15 ?_
      refine jw_iconst (pc := 16) dX5_firstOfLeast_16 ?_
      refine jw_iandr (pc := 17) dX5_firstOfLeast_17 ?_
      refine jw_if_ne (pc := 18) 39 dX5_firstOfLeast_18 (by decide) (jw_rI _) (fun _ => ?_) (fun _ => ?_)
      · refine jw_aloadR (pc := 21) 0 dX5_firstOfLeast_21 rfl ?_
        refine jw_iload_n (pc := 22) 1 dX5_firstOfLeast_22 rfl ?_
        refine jw_iload_n (pc := 23) 3 dX5_firstOfLeast_23 rfl ?_
        refine jw_iload_n (pc := 24) 2 dX5_firstOfLeast_24 rfl ?_
        refine jw_callVi (pc := 25) (As := [jI x1, jI x3, jI x2]) (st := []) dX5_firstOfLeast_25 rfl (Nat.le_of_ble_eq_true rfl) qX5_costWith jt_1040 jt_1042 jp_30 rfl rfl (Nat.le_of_ble_eq_true rfl) jv_5 rfl jg_123 jl_123 (by decide) (jw_ho jg_123 (by decide)) (kX5_costWith G x1 x3 x2 hx1 hx3 hx2 M) (fun v3 hv3 => ?_)
        refine jw_aloadR (pc := 28) 0 dX5_firstOfLeast_28 rfl ?_
        refine jw_getR (pc := 29) (j := 3) rfl dX5_firstOfLeast_29 jv_5 ji_5 (Or.inl jt_338) jg_123 jl_123 (by decide) (by decide) rfl jf_5_3 ?_
        refine jw_iload_n (pc := 32) 2 dX5_firstOfLeast_32 rfl ?_
        refine jw_iald (pc := 33) dX5_firstOfLeast_33 jg_124 jl_124 (jw_ho jg_124 (by decide)) hx2 rfl (fun h4 => ?_)
        refine jw_ic_ne (pc := 34) 39 dX5_firstOfLeast_34 (by decide) hv3 h4 (fun _ => ?_) (fun _ => ?_)
        · refine jw_iload_n (pc := 37) 3 dX5_firstOfLeast_37 rfl ?_
          exact jw_ret (pc := 38) (v := x3) dX5_firstOfLeast_38 hx3 rfl rfl
        · exact jw_few [0, 1, 2, 3] rfl (pX5_firstOfLeast_39 G M (fX5_firstOfLeast_2 M k) ih x1 x2 x3 hx1 hx2 hx3)
      · exact jw_few [0, 1, 2, 3] rfl (pX5_firstOfLeast_39 G M (fX5_firstOfLeast_2 M k) ih x1 x2 x3 hx1 hx2 hx3)
    · refine jw_ldc (pc := 45) (n := (-1000000)) dX5_firstOfLeast_45 jt_1051 (by decide) ?_
      exact jw_ret (pc := 47) (v := (-1000000)) dX5_firstOfLeast_47 (jw_rc _ rfl) rfl rfl
def fX5_firstOfLeast (a1 : Int) (a2 : Int) (M : jw_M) : Option Int :=
  Option.bind (some 0) (fun v1 => fX5_firstOfLeast_2 M jw_fu a1 a2 v1)
set_option maxRecDepth 100000 in
theorem rX5_firstOfLeast (G : jw_G) (a1 : Int) (a2 : Int) (ha1 : jw_r a1) (ha2 : jw_r a2) (M : jw_M) : jw_Rn G YX5_firstOfLeast 3 0 0 true (fun v => (v, M)) 0 [(0, jR G 123), (1, jI a1), (2, jI a2)] [] M (fX5_firstOfLeast a1 a2 M) := by
  unfold fX5_firstOfLeast
  refine jw_iconst (pc := 0) dX5_firstOfLeast_0 ?_
  refine jw_istore_nL (pc := 1) (lv' := (fun y => [(3, y), (0, jR G 123), (1, jI a1), (2, jI a2)])) dX5_firstOfLeast_1 (jw_rc _ rfl) (by decide) (fun _ => rfl) (fun v1 hv1 => ?_)
  exact jw_few [1, 2, 3, 0] rfl (pX5_firstOfLeast_2 G M jw_fu a1 a2 v1 ha1 ha2 hv1)
theorem kX5_firstOfLeast (G : jw_G) (a1 : Int) (a2 : Int) (ha1 : jw_r a1) (ha2 : jw_r a2) (M : jw_M) : jw_Ct G YX5_firstOfLeast (some .int) 3 0 0 true (fun v => (v, M)) yX5_firstOfLeast [jR G 123, jI a1, jI a2] M (fX5_firstOfLeast a1 a2 M) := jw_met (by decide) rfl rfl rfl (Nat.le_of_ble_eq_true rfl) (rX5_firstOfLeast G a1 a2 ha1 ha2 M)
abbrev YX5_cellarFor : jw_Y := (RX5, cX5_cellarFor, 5, 1, "cellarFor")
theorem qX5_cellarFor : jw_cy YX5_cellarFor (some .int) yX5_cellarFor 1 := ⟨by decide, jt_1050, jt_12, by decide, by decide +kernel⟩
theorem dX5_cellarFor_0 : decode cX5_cellarFor 0 = .ok (.iconst 0, 1) := by decide +kernel
theorem dX5_cellarFor_1 : decode cX5_cellarFor 1 = .ok (.istore_n 2, 1) := by decide +kernel
theorem dX5_cellarFor_2 : decode cX5_cellarFor 2 = .ok (.ldc 99, 2) := by decide +kernel
theorem dX5_cellarFor_4 : decode cX5_cellarFor 4 = .ok (.istore_n 3, 1) := by decide +kernel
theorem dX5_cellarFor_5 : decode cX5_cellarFor 5 = .ok (.iconst 0, 1) := by decide +kernel
theorem dX5_cellarFor_6 : decode cX5_cellarFor 6 = .ok (.istore 4, 2) := by decide +kernel
theorem dX5_cellarFor_8 : decode cX5_cellarFor 8 = .ok (.iload 4, 2) := by decide +kernel
theorem dX5_cellarFor_10 : decode cX5_cellarFor 10 = .ok (.iload_n 1, 1) := by decide +kernel
theorem dX5_cellarFor_11 : decode cX5_cellarFor 11 = .ok (.if_icmp .gt 30, 3) := by decide +kernel
theorem dX5_cellarFor_14 : decode cX5_cellarFor 14 = .ok (.aload_n 0, 1) := by decide +kernel
theorem dX5_cellarFor_15 : decode cX5_cellarFor 15 = .ok (.iload 4, 2) := by decide +kernel
theorem dX5_cellarFor_17 : decode cX5_cellarFor 17 = .ok (.iload_n 2, 1) := by decide +kernel
theorem dX5_cellarFor_18 : decode cX5_cellarFor 18 = .ok (.invokevirtual 100, 3) := by decide +kernel
theorem dX5_cellarFor_21 : decode cX5_cellarFor 21 = .ok (.istore_n 3, 1) := by decide +kernel
theorem dX5_cellarFor_22 : decode cX5_cellarFor 22 = .ok (.iload_n 3, 1) := by decide +kernel
theorem dX5_cellarFor_23 : decode cX5_cellarFor 23 = .ok (.ifCond .ge 6, 3) := by decide +kernel
theorem dX5_cellarFor_26 : decode cX5_cellarFor 26 = .ok (.ldc 99, 2) := by decide +kernel
theorem dX5_cellarFor_28 : decode cX5_cellarFor 28 = .ok (.ireturn, 1) := by decide +kernel
theorem dX5_cellarFor_29 : decode cX5_cellarFor 29 = .ok (.iload_n 2, 1) := by decide +kernel
theorem dX5_cellarFor_30 : decode cX5_cellarFor 30 = .ok (.iconst 1, 1) := by decide +kernel
theorem dX5_cellarFor_31 : decode cX5_cellarFor 31 = .ok (.iload_n 3, 1) := by decide +kernel
theorem dX5_cellarFor_32 : decode cX5_cellarFor 32 = .ok (.ishl, 1) := by decide +kernel
theorem dX5_cellarFor_33 : decode cX5_cellarFor 33 = .ok (.ior, 1) := by decide +kernel
theorem dX5_cellarFor_34 : decode cX5_cellarFor 34 = .ok (.istore_n 2, 1) := by decide +kernel
theorem dX5_cellarFor_35 : decode cX5_cellarFor 35 = .ok (.iinc 4 1, 3) := by decide +kernel
theorem dX5_cellarFor_38 : decode cX5_cellarFor 38 = .ok (.goto (-30), 3) := by decide +kernel
theorem dX5_cellarFor_41 : decode cX5_cellarFor 41 = .ok (.iload_n 3, 1) := by decide +kernel
theorem dX5_cellarFor_42 : decode cX5_cellarFor 42 = .ok (.ireturn, 1) := by decide +kernel
def fX5_cellarFor_8 (M : jw_M) : Nat → Int → Int → Int → Int → Option Int
  | 0, _, _, _, _ => none
  | k + 1, x1, x2, x3, x4 => if x1 < x4 then (some x3) else (Option.bind (fX5_firstOfLeast x4 x2 M) (fun v4 => Option.bind (some v4) (fun v5 => if v5 < 0 then (some (-1000000)) else (Option.bind (some (jw_ior x2 (jw_ishl 1 v5))) (fun v6 => Option.bind (some (jw_w (x4 + 1))) (fun v7 => fX5_cellarFor_8 M k x1 v6 v5 v7))))))
set_option maxRecDepth 100000 in
theorem pX5_cellarFor_8 (G : jw_G) (M : jw_M) : ∀ (k : Nat) (x1 : Int) (x2 : Int) (x3 : Int) (x4 : Int) (hx1 : jw_r x1) (hx2 : jw_r x2) (hx3 : jw_r x3) (hx4 : jw_r x4), jw_Rn G YX5_cellarFor 4 0 0 true (fun v => (v, M)) 8 [(0, jR G 123), (1, jI x1), (2, jI x2), (3, jI x3), (4, jI x4)] [] M (fX5_cellarFor_8 M k x1 x2 x3 x4) := by
  intro k
  induction k with
  | zero =>
    intro x1 x2 x3 x4 hx1 hx2 hx3 hx4
    exact jw_none
  | succ k ih =>
    intro x1 x2 x3 x4 hx1 hx2 hx3 hx4
    rw [fX5_cellarFor_8]
    refine jw_iload (pc := 8) 4 dX5_cellarFor_8 rfl ?_
    refine jw_iload_n (pc := 10) 1 dX5_cellarFor_10 rfl ?_
    refine jw_ic_gt (pc := 11) 41 dX5_cellarFor_11 (by decide) hx4 hx1 (fun _ => ?_) (fun _ => ?_)
    · refine jw_iload_n (pc := 41) 3 dX5_cellarFor_41 rfl ?_
      exact jw_ret (pc := 42) (v := x3) dX5_cellarFor_42 hx3 rfl rfl
    · refine jw_aloadR (pc := 14) 0 dX5_cellarFor_14 rfl ?_
      refine jw_iload (pc := 15) 4 dX5_cellarFor_15 rfl ?_
      refine jw_iload_n (pc := 17) 2 dX5_cellarFor_17 rfl ?_
      refine jw_callVi (pc := 18) (As := [jI x4, jI x2]) (st := []) dX5_cellarFor_18 rfl (Nat.le_of_ble_eq_true rfl) qX5_firstOfLeast jt_1052 jt_1054 jp_31 rfl rfl (Nat.le_of_ble_eq_true rfl) jv_5 rfl jg_123 jl_123 (by decide) (jw_ho jg_123 (by decide)) (kX5_firstOfLeast G x4 x2 hx4 hx2 M) (fun v4 hv4 => ?_)
      refine jw_istore_nL (pc := 21) (lv' := (fun y => [(3, y), (0, jR G 123), (1, jI x1), (2, jI x2), (4, jI x4)])) dX5_cellarFor_21 hv4 (by decide) (fun _ => rfl) (fun v5 hv5 => ?_)
      refine jw_iload_n (pc := 22) 0 dX5_cellarFor_22 rfl ?_
      refine jw_if_ge (pc := 23) 29 dX5_cellarFor_23 (by decide) hv5 (fun _ => ?_) (fun _ => ?_)
      · refine jw_ldc (pc := 26) (n := (-1000000)) dX5_cellarFor_26 jt_1051 (by decide) ?_
        exact jw_ret (pc := 28) (v := (-1000000)) dX5_cellarFor_28 (jw_rc _ rfl) rfl rfl
      · refine jw_iload_n (pc := 29) 3 dX5_cellarFor_29 rfl ?_
        refine jw_iconst (pc := 30) dX5_cellarFor_30 ?_
        refine jw_iload_n (pc := 31) 0 dX5_cellarFor_31 rfl ?_
        refine jw_ishlr (pc := 32) dX5_cellarFor_32 ?_
        refine jw_iorr (pc := 33) dX5_cellarFor_33 ?_
        refine jw_istore_nL (pc := 34) (lv' := (fun y => [(2, y), (3, jI v5), (0, jR G 123), (1, jI x1), (4, jI x4)])) dX5_cellarFor_34 (jw_rI _) (by decide) (fun _ => rfl) (fun v6 hv6 => ?_)
        refine jw_iincL (pc := 35) 4 (lv' := (fun y => [(4, y), (2, jI v6), (3, jI v5), (0, jR G 123), (1, jI x1)])) dX5_cellarFor_35 rfl (Nat.le_of_ble_eq_true rfl) (fun _ => rfl) (fun v7 hv7 => ?_)
        refine jw_goto (pc := 38) 8 dX5_cellarFor_38 (by decide) ?_
        exact jw_few [3, 4, 1, 2, 0] rfl (ih x1 v6 v5 v7 hx1 hv6 hv5 hv7)
def fX5_cellarFor (a1 : Int) (M : jw_M) : Option Int :=
  Option.bind (some 0) (fun v1 => Option.bind (some (-1000000)) (fun v2 => Option.bind (some 0) (fun v3 => fX5_cellarFor_8 M jw_fu a1 v1 v2 v3)))
set_option maxRecDepth 100000 in
theorem rX5_cellarFor (G : jw_G) (a1 : Int) (ha1 : jw_r a1) (M : jw_M) : jw_Rn G YX5_cellarFor 4 0 0 true (fun v => (v, M)) 0 [(0, jR G 123), (1, jI a1)] [] M (fX5_cellarFor a1 M) := by
  unfold fX5_cellarFor
  refine jw_iconst (pc := 0) dX5_cellarFor_0 ?_
  refine jw_istore_nL (pc := 1) (lv' := (fun y => [(2, y), (0, jR G 123), (1, jI a1)])) dX5_cellarFor_1 (jw_rc _ rfl) (by decide) (fun _ => rfl) (fun v1 hv1 => ?_)
  refine jw_ldc (pc := 2) (n := (-1000000)) dX5_cellarFor_2 jt_1051 (by decide) ?_
  refine jw_istore_nL (pc := 4) (lv' := (fun y => [(3, y), (2, jI v1), (0, jR G 123), (1, jI a1)])) dX5_cellarFor_4 (jw_rc _ rfl) (by decide) (fun _ => rfl) (fun v2 hv2 => ?_)
  refine jw_iconst (pc := 5) dX5_cellarFor_5 ?_
  refine jw_istoreL (pc := 6) (lv' := (fun y => [(4, y), (3, jI v2), (2, jI v1), (0, jR G 123), (1, jI a1)])) dX5_cellarFor_6 (jw_rc _ rfl) (by decide) (fun _ => rfl) (fun v3 hv3 => ?_)
  exact jw_few [3, 4, 2, 1, 0] rfl (pX5_cellarFor_8 G M jw_fu a1 v1 v2 v3 ha1 hv1 hv2 hv3)
theorem kX5_cellarFor (G : jw_G) (a1 : Int) (ha1 : jw_r a1) (M : jw_M) : jw_Ct G YX5_cellarFor (some .int) 4 0 0 true (fun v => (v, M)) yX5_cellarFor [jR G 123, jI a1] M (fX5_cellarFor a1 M) := jw_met (by decide) rfl rfl rfl (Nat.le_of_ble_eq_true rfl) (rX5_cellarFor G a1 ha1 M)
abbrev YX5_bestWithout : jw_Y := (RX5, cX5_bestWithout, 4, 1, "bestWithout")
theorem qX5_bestWithout : jw_cy YX5_bestWithout (some .int) yX5_bestWithout 1 := ⟨by decide, jt_1084, jt_12, by decide, by decide +kernel⟩
theorem dX5_bestWithout_0 : decode cX5_bestWithout 0 = .ok (.ldc 99, 2) := by decide +kernel
theorem dX5_bestWithout_2 : decode cX5_bestWithout 2 = .ok (.istore_n 2, 1) := by decide +kernel
theorem dX5_bestWithout_3 : decode cX5_bestWithout 3 = .ok (.iconst 0, 1) := by decide +kernel
theorem dX5_bestWithout_4 : decode cX5_bestWithout 4 = .ok (.istore_n 3, 1) := by decide +kernel
theorem dX5_bestWithout_5 : decode cX5_bestWithout 5 = .ok (.iload_n 3, 1) := by decide +kernel
theorem dX5_bestWithout_6 : decode cX5_bestWithout 6 = .ok (.aload_n 0, 1) := by decide +kernel
theorem dX5_bestWithout_7 : decode cX5_bestWithout 7 = .ok (.getfield 21, 3) := by decide +kernel
theorem dX5_bestWithout_10 : decode cX5_bestWithout 10 = .ok (.getfield 103, 3) := by decide +kernel
theorem dX5_bestWithout_13 : decode cX5_bestWithout 13 = .ok (.if_icmp .ge 44, 3) := by decide +kernel
theorem dX5_bestWithout_16 : decode cX5_bestWithout 16 = .ok (.iload_n 1, 1) := by decide +kernel
theorem dX5_bestWithout_17 : decode cX5_bestWithout 17 = .ok (.iload_n 3, 1) := by decide +kernel
theorem dX5_bestWithout_18 : decode cX5_bestWithout 18 = .ok (.ishr, 1) := by decide +kernel
theorem dX5_bestWithout_19 : decode cX5_bestWithout 19 = .ok (.iconst 1, 1) := by decide +kernel
theorem dX5_bestWithout_20 : decode cX5_bestWithout 20 = .ok (.iand, 1) := by decide +kernel
theorem dX5_bestWithout_21 : decode cX5_bestWithout 21 = .ok (.ifCond .ne 30, 3) := by decide +kernel
theorem dX5_bestWithout_24 : decode cX5_bestWithout 24 = .ok (.iload_n 2, 1) := by decide +kernel
theorem dX5_bestWithout_25 : decode cX5_bestWithout 25 = .ok (.ifCond .lt 24, 3) := by decide +kernel
theorem dX5_bestWithout_28 : decode cX5_bestWithout 28 = .ok (.aload_n 0, 1) := by decide +kernel
theorem dX5_bestWithout_29 : decode cX5_bestWithout 29 = .ok (.getfield 21, 3) := by decide +kernel
theorem dX5_bestWithout_32 : decode cX5_bestWithout 32 = .ok (.getfield 109, 3) := by decide +kernel
theorem dX5_bestWithout_35 : decode cX5_bestWithout 35 = .ok (.iload_n 3, 1) := by decide +kernel
theorem dX5_bestWithout_36 : decode cX5_bestWithout 36 = .ok (.iaload, 1) := by decide +kernel
theorem dX5_bestWithout_37 : decode cX5_bestWithout 37 = .ok (.aload_n 0, 1) := by decide +kernel
theorem dX5_bestWithout_38 : decode cX5_bestWithout 38 = .ok (.getfield 21, 3) := by decide +kernel
theorem dX5_bestWithout_41 : decode cX5_bestWithout 41 = .ok (.getfield 109, 3) := by decide +kernel
theorem dX5_bestWithout_44 : decode cX5_bestWithout 44 = .ok (.iload_n 2, 1) := by decide +kernel
theorem dX5_bestWithout_45 : decode cX5_bestWithout 45 = .ok (.iaload, 1) := by decide +kernel
theorem dX5_bestWithout_46 : decode cX5_bestWithout 46 = .ok (.if_icmp .le 5, 3) := by decide +kernel
theorem dX5_bestWithout_49 : decode cX5_bestWithout 49 = .ok (.iload_n 3, 1) := by decide +kernel
theorem dX5_bestWithout_50 : decode cX5_bestWithout 50 = .ok (.istore_n 2, 1) := by decide +kernel
theorem dX5_bestWithout_51 : decode cX5_bestWithout 51 = .ok (.iinc 3 1, 3) := by decide +kernel
theorem dX5_bestWithout_54 : decode cX5_bestWithout 54 = .ok (.goto (-49), 3) := by decide +kernel
theorem dX5_bestWithout_57 : decode cX5_bestWithout 57 = .ok (.iload_n 2, 1) := by decide +kernel
theorem dX5_bestWithout_58 : decode cX5_bestWithout 58 = .ok (.ireturn, 1) := by decide +kernel
def fX5_bestWithout_51 (M : jw_M) (r5 : Int → Int → Int → Option Int) (x1 : Int) (x2 : Int) (x3 : Int) : Option Int :=
  Option.bind (some (jw_w (x3 + 1))) (fun v5 => r5 x1 x2 v5)
set_option maxRecDepth 100000 in
theorem pX5_bestWithout_51 (G : jw_G) (M : jw_M) (r5 : Int → Int → Int → Option Int) (hr5 : ∀ (x1 : Int) (x2 : Int) (x3 : Int) (hx1 : jw_r x1) (hx2 : jw_r x2) (hx3 : jw_r x3), jw_Rn G YX5_bestWithout 1 0 0 true (fun v => (v, M)) 5 [(0, jR G 123), (1, jI x1), (2, jI x2), (3, jI x3)] [] M (r5 x1 x2 x3)) : ∀ (x1 : Int) (x2 : Int) (x3 : Int) (hx1 : jw_r x1) (hx2 : jw_r x2) (hx3 : jw_r x3), jw_Rn G YX5_bestWithout 1 0 0 true (fun v => (v, M)) 51 [(0, jR G 123), (1, jI x1), (2, jI x2), (3, jI x3)] [] M (fX5_bestWithout_51 M r5 x1 x2 x3) := by
  intro x1 x2 x3 hx1 hx2 hx3
  unfold fX5_bestWithout_51
  refine jw_iincL (pc := 51) 3 (lv' := (fun y => [(3, y), (0, jR G 123), (1, jI x1), (2, jI x2)])) dX5_bestWithout_51 rfl (Nat.le_of_ble_eq_true rfl) (fun _ => rfl) (fun v5 hv5 => ?_)
  refine jw_goto (pc := 54) 5 dX5_bestWithout_54 (by decide) ?_
  exact jw_few [1, 2, 3, 0] rfl (hr5 x1 x2 v5 hx1 hx2 hv5)
def fX5_bestWithout_49 (M : jw_M) (r5 : Int → Int → Int → Option Int) (x1 : Int) (x3 : Int) : Option Int :=
  Option.bind (some x3) (fun v4 => fX5_bestWithout_51 M r5 x1 v4 x3)
set_option maxRecDepth 100000 in
theorem pX5_bestWithout_49 (G : jw_G) (M : jw_M) (r5 : Int → Int → Int → Option Int) (hr5 : ∀ (x1 : Int) (x2 : Int) (x3 : Int) (hx1 : jw_r x1) (hx2 : jw_r x2) (hx3 : jw_r x3), jw_Rn G YX5_bestWithout 1 0 0 true (fun v => (v, M)) 5 [(0, jR G 123), (1, jI x1), (2, jI x2), (3, jI x3)] [] M (r5 x1 x2 x3)) : ∀ (x1 : Int) (x3 : Int) (hx1 : jw_r x1) (hx3 : jw_r x3), jw_Rn G YX5_bestWithout 1 0 0 true (fun v => (v, M)) 49 [(0, jR G 123), (1, jI x1), (3, jI x3)] [] M (fX5_bestWithout_49 M r5 x1 x3) := by
  intro x1 x3 hx1 hx3
  unfold fX5_bestWithout_49
  refine jw_iload_n (pc := 49) 2 dX5_bestWithout_49 rfl ?_
  refine jw_istore_nL (pc := 50) (lv' := (fun y => [(2, y), (0, jR G 123), (1, jI x1), (3, jI x3)])) dX5_bestWithout_50 hx3 (by decide) (fun _ => rfl) (fun v4 hv4 => ?_)
  exact jw_few [1, 2, 0, 3] rfl (pX5_bestWithout_51 G M r5 hr5 x1 v4 x3 hx1 hv4 hx3)
def fX5_bestWithout_5 (M : jw_M) : Nat → Int → Int → Int → Option Int
  | 0, _, _, _ => none
  | k + 1, x1, x2, x3 => if x3 < M 10 0 then (if jw_iand (jw_ishr x1 x3) 1 = 0 then (if x2 < 0 then (fX5_bestWithout_49 M (fX5_bestWithout_5 M k) x1 x3) else (if 0 ≤ x3 ∧ x3 < 7 then if 0 ≤ x2 ∧ x2 < 7 then if M (10 + 1) x2 < M (10 + 1) x3 then (fX5_bestWithout_49 M (fX5_bestWithout_5 M k) x1 x3) else (fX5_bestWithout_51 M (fX5_bestWithout_5 M k) x1 x2 x3) else none else none)) else (fX5_bestWithout_51 M (fX5_bestWithout_5 M k) x1 x2 x3)) else (some x2)
set_option maxRecDepth 100000 in
theorem pX5_bestWithout_5 (G : jw_G) (M : jw_M) : ∀ (k : Nat) (x1 : Int) (x2 : Int) (x3 : Int) (hx1 : jw_r x1) (hx2 : jw_r x2) (hx3 : jw_r x3), jw_Rn G YX5_bestWithout 1 0 0 true (fun v => (v, M)) 5 [(0, jR G 123), (1, jI x1), (2, jI x2), (3, jI x3)] [] M (fX5_bestWithout_5 M k x1 x2 x3) := by
  intro k
  induction k with
  | zero =>
    intro x1 x2 x3 hx1 hx2 hx3
    exact jw_none
  | succ k ih =>
    intro x1 x2 x3 hx1 hx2 hx3
    rw [fX5_bestWithout_5]
    refine jw_iload_n (pc := 5) 3 dX5_bestWithout_5 rfl ?_
    refine jw_aloadR (pc := 6) 0 dX5_bestWithout_6 rfl ?_
    refine jw_getR (pc := 7) (j := 0) rfl dX5_bestWithout_7 jv_5 ji_5 (Or.inl jt_335) jg_123 jl_123 (by decide) (by decide) rfl jf_5_0 ?_
    refine jw_getI (pc := 10) (j := 0) rfl dX5_bestWithout_10 jv_9 ji_9 (Or.inr ⟨_, jt_97⟩) jg_10 jl_10 (by decide) (by decide) (jw_ho jg_10 (by decide)) (Or.inl rfl) rfl (fun h3 => ?_)
    refine jw_ic_ge (pc := 13) 57 dX5_bestWithout_13 (by decide) hx3 h3 (fun _ => ?_) (fun _ => ?_)
    · refine jw_iload_n (pc := 16) 1 dX5_bestWithout_16 rfl ?_
      refine jw_iload_n (pc := 17) 3 dX5_bestWithout_17 rfl ?_
      refine jw_ishrr (pc := 18) dX5_bestWithout_18 ?_
      refine jw_iconst (pc := 19) dX5_bestWithout_19 ?_
      refine jw_iandr (pc := 20) dX5_bestWithout_20 ?_
      refine jw_if_ne (pc := 21) 51 dX5_bestWithout_21 (by decide) (jw_rI _) (fun _ => ?_) (fun _ => ?_)
      · refine jw_iload_n (pc := 24) 2 dX5_bestWithout_24 rfl ?_
        refine jw_if_lt (pc := 25) 49 dX5_bestWithout_25 (by decide) hx2 (fun _ => ?_) (fun _ => ?_)
        · exact jw_few [0, 1, 3] rfl (pX5_bestWithout_49 G M (fX5_bestWithout_5 M k) ih x1 x3 hx1 hx3)
        · refine jw_aloadR (pc := 28) 0 dX5_bestWithout_28 rfl ?_
          refine jw_getR (pc := 29) (j := 0) rfl dX5_bestWithout_29 jv_5 ji_5 (Or.inl jt_335) jg_123 jl_123 (by decide) (by decide) rfl jf_5_0 ?_
          refine jw_getR (pc := 32) (j := 1) rfl dX5_bestWithout_32 jv_9 ji_9 (Or.inr ⟨_, jt_101⟩) jg_10 jl_10 (by decide) (by decide) rfl (jf_9_1 jg_10).1 ?_
          refine jw_iload_n (pc := 35) 3 dX5_bestWithout_35 rfl ?_
          refine jw_iald (pc := 36) dX5_bestWithout_36 (jf_9_1 jg_10).2.1 (jf_9_1 jg_10).2.2 (jw_ho (jf_9_1 jg_10).2.1 (by decide)) hx3 rfl (fun h6 => ?_)
          refine jw_aloadR (pc := 37) 0 dX5_bestWithout_37 rfl ?_
          refine jw_getR (pc := 38) (j := 0) rfl dX5_bestWithout_38 jv_5 ji_5 (Or.inl jt_335) jg_123 jl_123 (by decide) (by decide) rfl jf_5_0 ?_
          refine jw_getR (pc := 41) (j := 1) rfl dX5_bestWithout_41 jv_9 ji_9 (Or.inr ⟨_, jt_101⟩) jg_10 jl_10 (by decide) (by decide) rfl (jf_9_1 jg_10).1 ?_
          refine jw_iload_n (pc := 44) 2 dX5_bestWithout_44 rfl ?_
          refine jw_iald (pc := 45) dX5_bestWithout_45 (jf_9_1 jg_10).2.1 (jf_9_1 jg_10).2.2 (jw_ho (jf_9_1 jg_10).2.1 (by decide)) hx2 rfl (fun h7 => ?_)
          refine jw_ic_le (pc := 46) 51 dX5_bestWithout_46 (by decide) h6 h7 (fun _ => ?_) (fun _ => ?_)
          · exact jw_few [0, 1, 3] rfl (pX5_bestWithout_49 G M (fX5_bestWithout_5 M k) ih x1 x3 hx1 hx3)
          · exact jw_few [0, 1, 2, 3] rfl (pX5_bestWithout_51 G M (fX5_bestWithout_5 M k) ih x1 x2 x3 hx1 hx2 hx3)
      · exact jw_few [0, 1, 2, 3] rfl (pX5_bestWithout_51 G M (fX5_bestWithout_5 M k) ih x1 x2 x3 hx1 hx2 hx3)
    · refine jw_iload_n (pc := 57) 2 dX5_bestWithout_57 rfl ?_
      exact jw_ret (pc := 58) (v := x2) dX5_bestWithout_58 hx2 rfl rfl
def fX5_bestWithout (a1 : Int) (M : jw_M) : Option Int :=
  Option.bind (some (-1000000)) (fun v1 => Option.bind (some 0) (fun v2 => fX5_bestWithout_5 M jw_fu a1 v1 v2))
set_option maxRecDepth 100000 in
theorem rX5_bestWithout (G : jw_G) (a1 : Int) (ha1 : jw_r a1) (M : jw_M) : jw_Rn G YX5_bestWithout 1 0 0 true (fun v => (v, M)) 0 [(0, jR G 123), (1, jI a1)] [] M (fX5_bestWithout a1 M) := by
  unfold fX5_bestWithout
  refine jw_ldc (pc := 0) (n := (-1000000)) dX5_bestWithout_0 jt_1051 (by decide) ?_
  refine jw_istore_nL (pc := 2) (lv' := (fun y => [(2, y), (0, jR G 123), (1, jI a1)])) dX5_bestWithout_2 (jw_rc _ rfl) (by decide) (fun _ => rfl) (fun v1 hv1 => ?_)
  refine jw_iconst (pc := 3) dX5_bestWithout_3 ?_
  refine jw_istore_nL (pc := 4) (lv' := (fun y => [(3, y), (2, jI v1), (0, jR G 123), (1, jI a1)])) dX5_bestWithout_4 (jw_rc _ rfl) (by decide) (fun _ => rfl) (fun v2 hv2 => ?_)
  exact jw_few [2, 3, 1, 0] rfl (pX5_bestWithout_5 G M jw_fu a1 v1 v2 ha1 hv1 hv2)
theorem kX5_bestWithout (G : jw_G) (a1 : Int) (ha1 : jw_r a1) (M : jw_M) : jw_Ct G YX5_bestWithout (some .int) 1 0 0 true (fun v => (v, M)) yX5_bestWithout [jR G 123, jI a1] M (fX5_bestWithout a1 M) := jw_met (by decide) rfl rfl rfl (Nat.le_of_ble_eq_true rfl) (rX5_bestWithout G a1 ha1 M)
abbrev YX5_mixRounds : jw_Y := (RX5, cX5_mixRounds, 11, 0, "mixRounds")
theorem qX5_mixRounds : jw_cy YX5_mixRounds none yX5_mixRounds 1 := ⟨by decide, jt_1080, jt_12, by decide, by decide +kernel⟩
theorem dX5_mixRounds_0 : decode cX5_mixRounds 0 = .ok (.lconst 1, 1) := by decide +kernel
theorem dX5_mixRounds_1 : decode cX5_mixRounds 1 = .ok (.lstore_n 2, 1) := by decide +kernel
theorem dX5_mixRounds_2 : decode cX5_mixRounds 2 = .ok (.lconst 0, 1) := by decide +kernel
theorem dX5_mixRounds_3 : decode cX5_mixRounds 3 = .ok (.lstore 4, 2) := by decide +kernel
theorem dX5_mixRounds_5 : decode cX5_mixRounds 5 = .ok (.aload_n 0, 1) := by decide +kernel
theorem dX5_mixRounds_6 : decode cX5_mixRounds 6 = .ok (.lconst 0, 1) := by decide +kernel
theorem dX5_mixRounds_7 : decode cX5_mixRounds 7 = .ok (.putfield 51, 3) := by decide +kernel
theorem dX5_mixRounds_10 : decode cX5_mixRounds 10 = .ok (.aload_n 0, 1) := by decide +kernel
theorem dX5_mixRounds_11 : decode cX5_mixRounds 11 = .ok (.lconst 0, 1) := by decide +kernel
theorem dX5_mixRounds_12 : decode cX5_mixRounds 12 = .ok (.putfield 61, 3) := by decide +kernel
theorem dX5_mixRounds_15 : decode cX5_mixRounds 15 = .ok (.iconst 0, 1) := by decide +kernel
theorem dX5_mixRounds_16 : decode cX5_mixRounds 16 = .ok (.istore 6, 2) := by decide +kernel
theorem dX5_mixRounds_18 : decode cX5_mixRounds 18 = .ok (.iconst 0, 1) := by decide +kernel
theorem dX5_mixRounds_19 : decode cX5_mixRounds 19 = .ok (.istore 7, 2) := by decide +kernel
theorem dX5_mixRounds_21 : decode cX5_mixRounds 21 = .ok (.iload 7, 2) := by decide +kernel
theorem dX5_mixRounds_23 : decode cX5_mixRounds 23 = .ok (.aload_n 0, 1) := by decide +kernel
theorem dX5_mixRounds_24 : decode cX5_mixRounds 24 = .ok (.getfield 21, 3) := by decide +kernel
theorem dX5_mixRounds_27 : decode cX5_mixRounds 27 = .ok (.getfield 103, 3) := by decide +kernel
theorem dX5_mixRounds_30 : decode cX5_mixRounds 30 = .ok (.if_icmp .ge 118, 3) := by decide +kernel
theorem dX5_mixRounds_33 : decode cX5_mixRounds 33 = .ok (.aload_n 0, 1) := by decide +kernel
theorem dX5_mixRounds_34 : decode cX5_mixRounds 34 = .ok (.iload 6, 2) := by decide +kernel
theorem dX5_mixRounds_36 : decode cX5_mixRounds 36 = .ok (.invokevirtual 106, 3) := by decide +kernel
theorem dX5_mixRounds_39 : decode cX5_mixRounds 39 = .ok (.istore 8, 2) := by decide +kernel
theorem dX5_mixRounds_41 : decode cX5_mixRounds 41 = .ok (.iload 8, 2) := by decide +kernel
theorem dX5_mixRounds_43 : decode cX5_mixRounds 43 = .ok (.ifCond .ge 6, 3) := by decide +kernel
theorem dX5_mixRounds_46 : decode cX5_mixRounds 46 = .ok (.goto 102, 3) := by decide +kernel
theorem dX5_mixRounds_49 : decode cX5_mixRounds 49 = .ok (.aload_n 0, 1) := by decide +kernel
theorem dX5_mixRounds_50 : decode cX5_mixRounds 50 = .ok (.getfield 21, 3) := by decide +kernel
theorem dX5_mixRounds_53 : decode cX5_mixRounds 53 = .ok (.getfield 109, 3) := by decide +kernel
theorem dX5_mixRounds_56 : decode cX5_mixRounds 56 = .ok (.iload 8, 2) := by decide +kernel
theorem dX5_mixRounds_58 : decode cX5_mixRounds 58 = .ok (.iaload, 1) := by decide +kernel
theorem dX5_mixRounds_59 : decode cX5_mixRounds 59 = .ok (.istore 9, 2) := by decide +kernel
theorem dX5_mixRounds_61 : decode cX5_mixRounds 61 = .ok (.iload 7, 2) := by decide +kernel
theorem dX5_mixRounds_63 : decode cX5_mixRounds 63 = .ok (.ifCond .le 22, 3) := by decide +kernel
theorem dX5_mixRounds_66 : decode cX5_mixRounds 66 = .ok (.iload 9, 2) := by decide +kernel
theorem dX5_mixRounds_68 : decode cX5_mixRounds 68 = .ok (.i2l, 1) := by decide +kernel
theorem dX5_mixRounds_69 : decode cX5_mixRounds 69 = .ok (.aload_n 0, 1) := by decide +kernel
theorem dX5_mixRounds_70 : decode cX5_mixRounds 70 = .ok (.getfield 51, 3) := by decide +kernel
theorem dX5_mixRounds_73 : decode cX5_mixRounds 73 = .ok (.lmul, 1) := by decide +kernel
theorem dX5_mixRounds_74 : decode cX5_mixRounds 74 = .ok (.aload_n 0, 1) := by decide +kernel
theorem dX5_mixRounds_75 : decode cX5_mixRounds 75 = .ok (.getfield 61, 3) := by decide +kernel
theorem dX5_mixRounds_78 : decode cX5_mixRounds 78 = .ok (.lcmp, 1) := by decide +kernel
theorem dX5_mixRounds_79 : decode cX5_mixRounds 79 = .ok (.ifCond .gt 6, 3) := by decide +kernel
theorem dX5_mixRounds_82 : decode cX5_mixRounds 82 = .ok (.goto 66, 3) := by decide +kernel
theorem dX5_mixRounds_85 : decode cX5_mixRounds 85 = .ok (.iload 6, 2) := by decide +kernel
theorem dX5_mixRounds_87 : decode cX5_mixRounds 87 = .ok (.iconst 1, 1) := by decide +kernel
theorem dX5_mixRounds_88 : decode cX5_mixRounds 88 = .ok (.iload 8, 2) := by decide +kernel
theorem dX5_mixRounds_90 : decode cX5_mixRounds 90 = .ok (.ishl, 1) := by decide +kernel
theorem dX5_mixRounds_91 : decode cX5_mixRounds 91 = .ok (.ior, 1) := by decide +kernel
theorem dX5_mixRounds_92 : decode cX5_mixRounds 92 = .ok (.istore 6, 2) := by decide +kernel
theorem dX5_mixRounds_94 : decode cX5_mixRounds 94 = .ok (.iload 9, 2) := by decide +kernel
theorem dX5_mixRounds_96 : decode cX5_mixRounds 96 = .ok (.iload_n 1, 1) := by decide +kernel
theorem dX5_mixRounds_97 : decode cX5_mixRounds 97 = .ok (.iadd, 1) := by decide +kernel
theorem dX5_mixRounds_98 : decode cX5_mixRounds 98 = .ok (.istore 10, 2) := by decide +kernel
theorem dX5_mixRounds_100 : decode cX5_mixRounds 100 = .ok (.lload 4, 2) := by decide +kernel
theorem dX5_mixRounds_102 : decode cX5_mixRounds 102 = .ok (.iload 10, 2) := by decide +kernel
theorem dX5_mixRounds_104 : decode cX5_mixRounds 104 = .ok (.i2l, 1) := by decide +kernel
theorem dX5_mixRounds_105 : decode cX5_mixRounds 105 = .ok (.lmul, 1) := by decide +kernel
theorem dX5_mixRounds_106 : decode cX5_mixRounds 106 = .ok (.iload 9, 2) := by decide +kernel
theorem dX5_mixRounds_108 : decode cX5_mixRounds 108 = .ok (.i2l, 1) := by decide +kernel
theorem dX5_mixRounds_109 : decode cX5_mixRounds 109 = .ok (.lload_n 2, 1) := by decide +kernel
theorem dX5_mixRounds_110 : decode cX5_mixRounds 110 = .ok (.lmul, 1) := by decide +kernel
theorem dX5_mixRounds_111 : decode cX5_mixRounds 111 = .ok (.ladd, 1) := by decide +kernel
theorem dX5_mixRounds_112 : decode cX5_mixRounds 112 = .ok (.lstore 4, 2) := by decide +kernel
theorem dX5_mixRounds_114 : decode cX5_mixRounds 114 = .ok (.aload_n 0, 1) := by decide +kernel
theorem dX5_mixRounds_115 : decode cX5_mixRounds 115 = .ok (.aload_n 0, 1) := by decide +kernel
theorem dX5_mixRounds_116 : decode cX5_mixRounds 116 = .ok (.getfield 51, 3) := by decide +kernel
theorem dX5_mixRounds_119 : decode cX5_mixRounds 119 = .ok (.iload 10, 2) := by decide +kernel
theorem dX5_mixRounds_121 : decode cX5_mixRounds 121 = .ok (.i2l, 1) := by decide +kernel
theorem dX5_mixRounds_122 : decode cX5_mixRounds 122 = .ok (.lmul, 1) := by decide +kernel
theorem dX5_mixRounds_123 : decode cX5_mixRounds 123 = .ok (.lload_n 2, 1) := by decide +kernel
theorem dX5_mixRounds_124 : decode cX5_mixRounds 124 = .ok (.ladd, 1) := by decide +kernel
theorem dX5_mixRounds_125 : decode cX5_mixRounds 125 = .ok (.putfield 51, 3) := by decide +kernel
theorem dX5_mixRounds_128 : decode cX5_mixRounds 128 = .ok (.lload_n 2, 1) := by decide +kernel
theorem dX5_mixRounds_129 : decode cX5_mixRounds 129 = .ok (.iload 10, 2) := by decide +kernel
theorem dX5_mixRounds_131 : decode cX5_mixRounds 131 = .ok (.i2l, 1) := by decide +kernel
theorem dX5_mixRounds_132 : decode cX5_mixRounds 132 = .ok (.lmul, 1) := by decide +kernel
theorem dX5_mixRounds_133 : decode cX5_mixRounds 133 = .ok (.lstore_n 2, 1) := by decide +kernel
theorem dX5_mixRounds_134 : decode cX5_mixRounds 134 = .ok (.aload_n 0, 1) := by decide +kernel
theorem dX5_mixRounds_135 : decode cX5_mixRounds 135 = .ok (.lload 4, 2) := by decide +kernel
theorem dX5_mixRounds_137 : decode cX5_mixRounds 137 = .ok (.lload_n 2, 1) := by decide +kernel
theorem dX5_mixRounds_138 : decode cX5_mixRounds 138 = .ok (.lsub, 1) := by decide +kernel
theorem dX5_mixRounds_139 : decode cX5_mixRounds 139 = .ok (.putfield 61, 3) := by decide +kernel
theorem dX5_mixRounds_142 : decode cX5_mixRounds 142 = .ok (.iinc 7 1, 3) := by decide +kernel
theorem dX5_mixRounds_145 : decode cX5_mixRounds 145 = .ok (.goto (-124), 3) := by decide +kernel
theorem dX5_mixRounds_148 : decode cX5_mixRounds 148 = .ok (.return_, 1) := by decide +kernel
def fX5_mixRounds_85 (r21 : Int → Int → Int → Int → Int → jw_M → Option jw_M) (x1 : Int) (x2 : Int) (x4 : Int) (x6 : Int) (x7 : Int) (x8 : Int) (x9 : Int) (M : jw_M) : Option jw_M :=
  Option.bind (some (jw_ior x6 (jw_ishl 1 x8))) (fun v14 => Option.bind (some (jw_w (x9 + x1))) (fun v15 => Option.bind (some (jw_v ((jw_v (x4 * v15)) + (jw_v (x9 * x2))))) (fun v16 => Option.bind (some (jw_up M 123 5 (jw_v ((jw_v ((M 123 5) * v15)) + x2)))) (fun M18 => Option.bind (some (jw_v (x2 * v15))) (fun v19 => Option.bind (some (jw_up M18 123 4 (jw_v (v16 - v19)))) (fun M20 => Option.bind (some (jw_w (x7 + 1))) (fun v21 => r21 x1 v19 v16 v14 v21 M20)))))))
set_option maxRecDepth 100000 in
theorem pX5_mixRounds_85 (G : jw_G) (r21 : Int → Int → Int → Int → Int → jw_M → Option jw_M) (hr21 : ∀ (x1 : Int) (x2 : Int) (x4 : Int) (x6 : Int) (x7 : Int) (hx1 : jw_r x1) (hx2 : jw_q x2) (hx4 : jw_q x4) (hx6 : jw_r x6) (hx7 : jw_r x7) (M : jw_M), jw_Rn G YX5_mixRounds 2 0 0 true (fun M1 => (0, M1)) 21 [(0, jR G 123), (1, jI x1), (2, jL x2), (4, jL x4), (6, jI x6), (7, jI x7)] [] M (r21 x1 x2 x4 x6 x7 M)) : ∀ (x1 : Int) (x2 : Int) (x4 : Int) (x6 : Int) (x7 : Int) (x8 : Int) (x9 : Int) (hx1 : jw_r x1) (hx2 : jw_q x2) (hx4 : jw_q x4) (hx6 : jw_r x6) (hx7 : jw_r x7) (hx8 : jw_r x8) (hx9 : jw_r x9) (M : jw_M), jw_Rn G YX5_mixRounds 2 0 0 true (fun M1 => (0, M1)) 85 [(0, jR G 123), (1, jI x1), (2, jL x2), (4, jL x4), (6, jI x6), (7, jI x7), (8, jI x8), (9, jI x9)] [] M (fX5_mixRounds_85 r21 x1 x2 x4 x6 x7 x8 x9 M) := by
  intro x1 x2 x4 x6 x7 x8 x9 hx1 hx2 hx4 hx6 hx7 hx8 hx9 M
  unfold fX5_mixRounds_85
  refine jw_iload (pc := 85) 4 dX5_mixRounds_85 rfl ?_
  refine jw_iconst (pc := 87) dX5_mixRounds_87 ?_
  refine jw_iload (pc := 88) 6 dX5_mixRounds_88 rfl ?_
  refine jw_ishlr (pc := 90) dX5_mixRounds_90 ?_
  refine jw_iorr (pc := 91) dX5_mixRounds_91 ?_
  refine jw_istoreL (pc := 92) (lv' := (fun y => [(6, y), (0, jR G 123), (1, jI x1), (2, jL x2), (4, jL x4), (7, jI x7), (8, jI x8), (9, jI x9)])) dX5_mixRounds_92 (jw_rI _) (by decide) (fun _ => rfl) (fun v14 hv14 => ?_)
  refine jw_iload (pc := 94) 7 dX5_mixRounds_94 rfl ?_
  refine jw_iload_n (pc := 96) 2 dX5_mixRounds_96 rfl ?_
  refine jw_iadd (pc := 97) dX5_mixRounds_97 ?_
  refine jw_istoreL (pc := 98) (lv' := (fun y => [(10, y), (6, jI v14), (0, jR G 123), (1, jI x1), (2, jL x2), (4, jL x4), (7, jI x7), (8, jI x8), (9, jI x9)])) dX5_mixRounds_98 (jw_wr _) (by decide) (fun _ => rfl) (fun v15 hv15 => ?_)
  refine jw_lload (pc := 100) 5 dX5_mixRounds_100 rfl ?_
  refine jw_iload (pc := 102) 0 dX5_mixRounds_102 rfl ?_
  refine jw_i2lr (pc := 104) dX5_mixRounds_104 hv15 ?_
  refine jw_lmul (pc := 105) dX5_mixRounds_105 ?_
  refine jw_iload (pc := 106) 8 dX5_mixRounds_106 rfl ?_
  refine jw_i2lr (pc := 108) dX5_mixRounds_108 hx9 ?_
  refine jw_lload_n (pc := 109) 4 dX5_mixRounds_109 rfl ?_
  refine jw_lmul (pc := 110) dX5_mixRounds_110 ?_
  refine jw_ladd (pc := 111) dX5_mixRounds_111 ?_
  refine jw_lstoreL (pc := 112) (lv' := (fun y => [(4, y), (10, jI v15), (6, jI v14), (0, jR G 123), (1, jI x1), (2, jL x2), (7, jI x7), (8, jI x8), (9, jI x9)])) dX5_mixRounds_112 (jw_vr _) (by decide) (fun _ => rfl) (fun v16 hv16 => ?_)
  refine jw_aloadR (pc := 114) 3 dX5_mixRounds_114 rfl ?_
  refine jw_aloadR (pc := 115) 3 dX5_mixRounds_115 rfl ?_
  refine jw_getL (pc := 116) (j := 5) rfl dX5_mixRounds_116 jv_5 ji_5 (Or.inl jt_341) jg_123 jl_123 (by decide) (by decide) (jw_ho jg_123 (by decide)) rfl rfl (fun h17 => ?_)
  refine jw_iload (pc := 119) 1 dX5_mixRounds_119 rfl ?_
  refine jw_i2lr (pc := 121) dX5_mixRounds_121 hv15 ?_
  refine jw_lmul (pc := 122) dX5_mixRounds_122 ?_
  refine jw_lload_n (pc := 123) 5 dX5_mixRounds_123 rfl ?_
  refine jw_ladd (pc := 124) dX5_mixRounds_124 ?_
  refine jw_putL (pc := 125) (j := 5) tyX5 rfl dX5_mixRounds_125 jv_5 ji_5 tyX5_ok nmX5 (Or.inl jt_341) rfl jg_123 jl_123 (by decide) (by decide) (jw_ho jg_123 (by decide)) rfl rfl (jw_vr _) rfl ?_
  refine jw_letM (fun M18 => ?_)
  refine jw_lload_n (pc := 128) 5 dX5_mixRounds_128 rfl ?_
  refine jw_iload (pc := 129) 1 dX5_mixRounds_129 rfl ?_
  refine jw_i2lr (pc := 131) dX5_mixRounds_131 hv15 ?_
  refine jw_lmul (pc := 132) dX5_mixRounds_132 ?_
  refine jw_lstore_nL (pc := 133) (lv' := (fun y => [(2, y), (4, jL v16), (10, jI v15), (6, jI v14), (0, jR G 123), (1, jI x1), (7, jI x7), (8, jI x8), (9, jI x9)])) dX5_mixRounds_133 (jw_vr _) (by decide) (fun _ => rfl) (fun v19 hv19 => ?_)
  refine jw_aloadR (pc := 134) 4 dX5_mixRounds_134 rfl ?_
  refine jw_lload (pc := 135) 1 dX5_mixRounds_135 rfl ?_
  refine jw_lload_n (pc := 137) 0 dX5_mixRounds_137 rfl ?_
  refine jw_lsub (pc := 138) dX5_mixRounds_138 ?_
  refine jw_putL (pc := 139) (j := 4) tyX5 rfl dX5_mixRounds_139 jv_5 ji_5 tyX5_ok nmX5 (Or.inl jt_339) rfl jg_123 jl_123 (by decide) (by decide) (jw_ho jg_123 (by decide)) rfl rfl (jw_vr _) rfl ?_
  refine jw_letM (fun M20 => ?_)
  refine jw_iincL (pc := 142) 6 (lv' := (fun y => [(7, y), (2, jL v19), (4, jL v16), (10, jI v15), (6, jI v14), (0, jR G 123), (1, jI x1), (8, jI x8), (9, jI x9)])) dX5_mixRounds_142 rfl (Nat.le_of_ble_eq_true rfl) (fun _ => rfl) (fun v21 hv21 => ?_)
  refine jw_goto (pc := 145) 21 dX5_mixRounds_145 (by decide) ?_
  exact jw_few [5, 6, 1, 2, 4, 0] rfl (hr21 x1 v19 v16 v14 v21 hx1 hv19 hv16 hv14 hv21 M20)
def fX5_mixRounds_21 : Nat → Int → Int → Int → Int → Int → jw_M → Option jw_M
  | 0, _, _, _, _, _, _ => none
  | k + 1, x1, x2, x4, x6, x7, M => if x7 < M 10 0 then (Option.bind (fX5_bestWithout x6 M) (fun v8 => Option.bind (some v8) (fun v9 => if v9 < 0 then (some M) else (if 0 ≤ v9 ∧ v9 < 7 then Option.bind (some (M (10 + 1) v9)) (fun v11 => if (0 : Int) < x7 then (if (0 : Int) < jw_cmp (jw_v (v11 * (M 123 5))) (M 123 4) then (fX5_mixRounds_85 (fX5_mixRounds_21 k) x1 x2 x4 x6 x7 v9 v11 M) else (some M)) else (fX5_mixRounds_85 (fX5_mixRounds_21 k) x1 x2 x4 x6 x7 v9 v11 M)) else none)))) else (some M)
set_option maxRecDepth 100000 in
theorem pX5_mixRounds_21 (G : jw_G) : ∀ (k : Nat) (x1 : Int) (x2 : Int) (x4 : Int) (x6 : Int) (x7 : Int) (hx1 : jw_r x1) (hx2 : jw_q x2) (hx4 : jw_q x4) (hx6 : jw_r x6) (hx7 : jw_r x7) (M : jw_M), jw_Rn G YX5_mixRounds 2 0 0 true (fun M1 => (0, M1)) 21 [(0, jR G 123), (1, jI x1), (2, jL x2), (4, jL x4), (6, jI x6), (7, jI x7)] [] M (fX5_mixRounds_21 k x1 x2 x4 x6 x7 M) := by
  intro k
  induction k with
  | zero =>
    intro x1 x2 x4 x6 x7 hx1 hx2 hx4 hx6 hx7 M
    exact jw_none
  | succ k ih =>
    intro x1 x2 x4 x6 x7 hx1 hx2 hx4 hx6 hx7 M
    rw [fX5_mixRounds_21]
    refine jw_iload (pc := 21) 5 dX5_mixRounds_21 rfl ?_
    refine jw_aloadR (pc := 23) 0 dX5_mixRounds_23 rfl ?_
    refine jw_getR (pc := 24) (j := 0) rfl dX5_mixRounds_24 jv_5 ji_5 (Or.inl jt_335) jg_123 jl_123 (by decide) (by decide) rfl jf_5_0 ?_
    refine jw_getI (pc := 27) (j := 0) rfl dX5_mixRounds_27 jv_9 ji_9 (Or.inr ⟨_, jt_97⟩) jg_10 jl_10 (by decide) (by decide) (jw_ho jg_10 (by decide)) (Or.inl rfl) rfl (fun h7 => ?_)
    refine jw_ic_ge (pc := 30) 148 dX5_mixRounds_30 (by decide) hx7 h7 (fun _ => ?_) (fun _ => ?_)
    · refine jw_aloadR (pc := 33) 0 dX5_mixRounds_33 rfl ?_
      refine jw_iload (pc := 34) 4 dX5_mixRounds_34 rfl ?_
      refine jw_callVi (pc := 36) (As := [jI x6]) (st := []) dX5_mixRounds_36 rfl (Nat.le_of_ble_eq_true rfl) qX5_bestWithout jt_1081 jt_1083 jp_34 rfl rfl (Nat.le_of_ble_eq_true rfl) jv_5 rfl jg_123 jl_123 (by decide) (jw_ho jg_123 (by decide)) (kX5_bestWithout G x6 hx6 M) (fun v8 hv8 => ?_)
      refine jw_istoreL (pc := 39) (lv' := (fun y => [(8, y), (0, jR G 123), (1, jI x1), (2, jL x2), (4, jL x4), (6, jI x6), (7, jI x7)])) dX5_mixRounds_39 hv8 (by decide) (fun _ => rfl) (fun v9 hv9 => ?_)
      refine jw_iload (pc := 41) 0 dX5_mixRounds_41 rfl ?_
      refine jw_if_ge (pc := 43) 49 dX5_mixRounds_43 (by decide) hv9 (fun _ => ?_) (fun _ => ?_)
      · refine jw_goto (pc := 46) 148 dX5_mixRounds_46 (by decide) ?_
        exact jw_ret (pc := 148) (v := 0) dX5_mixRounds_148 trivial rfl rfl
      · refine jw_aloadR (pc := 49) 1 dX5_mixRounds_49 rfl ?_
        refine jw_getR (pc := 50) (j := 0) rfl dX5_mixRounds_50 jv_5 ji_5 (Or.inl jt_335) jg_123 jl_123 (by decide) (by decide) rfl jf_5_0 ?_
        refine jw_getR (pc := 53) (j := 1) rfl dX5_mixRounds_53 jv_9 ji_9 (Or.inr ⟨_, jt_101⟩) jg_10 jl_10 (by decide) (by decide) rfl (jf_9_1 jg_10).1 ?_
        refine jw_iload (pc := 56) 0 dX5_mixRounds_56 rfl ?_
        refine jw_iald (pc := 58) dX5_mixRounds_58 (jf_9_1 jg_10).2.1 (jf_9_1 jg_10).2.2 (jw_ho (jf_9_1 jg_10).2.1 (by decide)) hv9 rfl (fun h10 => ?_)
        refine jw_istoreL (pc := 59) (lv' := (fun y => [(9, y), (8, jI v9), (0, jR G 123), (1, jI x1), (2, jL x2), (4, jL x4), (6, jI x6), (7, jI x7)])) dX5_mixRounds_59 h10 (by decide) (fun _ => rfl) (fun v11 hv11 => ?_)
        refine jw_iload (pc := 61) 7 dX5_mixRounds_61 rfl ?_
        refine jw_if_le (pc := 63) 85 dX5_mixRounds_63 (by decide) hx7 (fun _ => ?_) (fun _ => ?_)
        · refine jw_iload (pc := 66) 0 dX5_mixRounds_66 rfl ?_
          refine jw_i2lr (pc := 68) dX5_mixRounds_68 hv11 ?_
          refine jw_aloadR (pc := 69) 2 dX5_mixRounds_69 rfl ?_
          refine jw_getL (pc := 70) (j := 5) rfl dX5_mixRounds_70 jv_5 ji_5 (Or.inl jt_341) jg_123 jl_123 (by decide) (by decide) (jw_ho jg_123 (by decide)) rfl rfl (fun h12 => ?_)
          refine jw_lmul (pc := 73) dX5_mixRounds_73 ?_
          refine jw_aloadR (pc := 74) 2 dX5_mixRounds_74 rfl ?_
          refine jw_getL (pc := 75) (j := 4) rfl dX5_mixRounds_75 jv_5 ji_5 (Or.inl jt_339) jg_123 jl_123 (by decide) (by decide) (jw_ho jg_123 (by decide)) rfl rfl (fun h13 => ?_)
          refine jw_lcmp (pc := 78) dX5_mixRounds_78 (jw_vr _) h13 ?_
          refine jw_if_gt (pc := 79) 85 dX5_mixRounds_79 (by decide) (jw_cmpr _ _) (fun _ => ?_) (fun _ => ?_)
          · exact jw_few [2, 3, 4, 5, 6, 7, 1, 0] rfl (pX5_mixRounds_85 G (fX5_mixRounds_21 k) ih x1 x2 x4 x6 x7 v9 v11 hx1 hx2 hx4 hx6 hx7 hv9 hv11 M)
          · refine jw_goto (pc := 82) 148 dX5_mixRounds_82 (by decide) ?_
            exact jw_ret (pc := 148) (v := 0) dX5_mixRounds_148 trivial rfl rfl
        · exact jw_few [2, 3, 4, 5, 6, 7, 1, 0] rfl (pX5_mixRounds_85 G (fX5_mixRounds_21 k) ih x1 x2 x4 x6 x7 v9 v11 hx1 hx2 hx4 hx6 hx7 hv9 hv11 M)
    · exact jw_ret (pc := 148) (v := 0) dX5_mixRounds_148 trivial rfl rfl
def fX5_mixRounds (a1 : Int) (M : jw_M) : Option jw_M :=
  Option.bind (some 1) (fun v1 => Option.bind (some 0) (fun v2 => Option.bind (some (jw_up M 123 5 0)) (fun M3 => Option.bind (some (jw_up M3 123 4 0)) (fun M4 => Option.bind (some 0) (fun v5 => Option.bind (some 0) (fun v6 => fX5_mixRounds_21 jw_fu a1 v1 v2 v5 v6 M4))))))
set_option maxRecDepth 100000 in
theorem rX5_mixRounds (G : jw_G) (a1 : Int) (ha1 : jw_r a1) (M : jw_M) : jw_Rn G YX5_mixRounds 2 0 0 true (fun M1 => (0, M1)) 0 [(0, jR G 123), (1, jI a1)] [] M (fX5_mixRounds a1 M) := by
  unfold fX5_mixRounds
  refine jw_lconst (pc := 0) (z := 1) dX5_mixRounds_0 rfl ?_
  refine jw_lstore_nL (pc := 1) (lv' := (fun y => [(2, y), (0, jR G 123), (1, jI a1)])) dX5_mixRounds_1 (jw_qc _ rfl) (by decide) (fun _ => rfl) (fun v1 hv1 => ?_)
  refine jw_lconst (pc := 2) (z := 0) dX5_mixRounds_2 rfl ?_
  refine jw_lstoreL (pc := 3) (lv' := (fun y => [(4, y), (2, jL v1), (0, jR G 123), (1, jI a1)])) dX5_mixRounds_3 (jw_qc _ rfl) (by decide) (fun _ => rfl) (fun v2 hv2 => ?_)
  refine jw_aloadR (pc := 5) 2 dX5_mixRounds_5 rfl ?_
  refine jw_lconst (pc := 6) (z := 0) dX5_mixRounds_6 rfl ?_
  refine jw_putL (pc := 7) (j := 5) tyX5 rfl dX5_mixRounds_7 jv_5 ji_5 tyX5_ok nmX5 (Or.inl jt_341) rfl jg_123 jl_123 (by decide) (by decide) (jw_ho jg_123 (by decide)) rfl rfl (jw_qc _ rfl) rfl ?_
  refine jw_letM (fun M3 => ?_)
  refine jw_aloadR (pc := 10) 2 dX5_mixRounds_10 rfl ?_
  refine jw_lconst (pc := 11) (z := 0) dX5_mixRounds_11 rfl ?_
  refine jw_putL (pc := 12) (j := 4) tyX5 rfl dX5_mixRounds_12 jv_5 ji_5 tyX5_ok nmX5 (Or.inl jt_339) rfl jg_123 jl_123 (by decide) (by decide) (jw_ho jg_123 (by decide)) rfl rfl (jw_qc _ rfl) rfl ?_
  refine jw_letM (fun M4 => ?_)
  refine jw_iconst (pc := 15) dX5_mixRounds_15 ?_
  refine jw_istoreL (pc := 16) (lv' := (fun y => [(6, y), (4, jL v2), (2, jL v1), (0, jR G 123), (1, jI a1)])) dX5_mixRounds_16 (jw_rc _ rfl) (by decide) (fun _ => rfl) (fun v5 hv5 => ?_)
  refine jw_iconst (pc := 18) dX5_mixRounds_18 ?_
  refine jw_istoreL (pc := 19) (lv' := (fun y => [(7, y), (6, jI v5), (4, jL v2), (2, jL v1), (0, jR G 123), (1, jI a1)])) dX5_mixRounds_19 (jw_rc _ rfl) (by decide) (fun _ => rfl) (fun v6 hv6 => ?_)
  exact jw_few [4, 5, 3, 2, 1, 0] rfl (pX5_mixRounds_21 G jw_fu a1 v1 v2 v5 v6 ha1 hv1 hv2 hv5 hv6 M4)
theorem kX5_mixRounds (G : jw_G) (a1 : Int) (ha1 : jw_r a1) (M : jw_M) : jw_Ct G YX5_mixRounds none 2 0 0 true (fun M1 => (0, M1)) yX5_mixRounds [jR G 123, jI a1] M (fX5_mixRounds a1 M) := jw_met (by decide) rfl rfl rfl (Nat.le_of_ble_eq_true rfl) (rX5_mixRounds G a1 ha1 M)
abbrev YX5_oddsFromValue : jw_Y := (RX5, cX5_oddsFromValue, 4, 0, "oddsFromValue")
theorem qX5_oddsFromValue : jw_cy YX5_oddsFromValue none yX5_oddsFromValue 2 := ⟨by decide, jt_1092, jt_12, by decide, by decide +kernel⟩
theorem dX5_oddsFromValue_0 : decode cX5_oddsFromValue 0 = .ok (.aload_n 0, 1) := by decide +kernel
theorem dX5_oddsFromValue_1 : decode cX5_oddsFromValue 1 = .ok (.getfield 21, 3) := by decide +kernel
theorem dX5_oddsFromValue_4 : decode cX5_oddsFromValue 4 = .ok (.getfield 109, 3) := by decide +kernel
theorem dX5_oddsFromValue_7 : decode cX5_oddsFromValue 7 = .ok (.iload_n 2, 1) := by decide +kernel
theorem dX5_oddsFromValue_8 : decode cX5_oddsFromValue 8 = .ok (.iaload, 1) := by decide +kernel
theorem dX5_oddsFromValue_9 : decode cX5_oddsFromValue 9 = .ok (.istore_n 3, 1) := by decide +kernel
theorem dX5_oddsFromValue_10 : decode cX5_oddsFromValue 10 = .ok (.aload_n 0, 1) := by decide +kernel
theorem dX5_oddsFromValue_11 : decode cX5_oddsFromValue 11 = .ok (.iload_n 3, 1) := by decide +kernel
theorem dX5_oddsFromValue_12 : decode cX5_oddsFromValue 12 = .ok (.i2l, 1) := by decide +kernel
theorem dX5_oddsFromValue_13 : decode cX5_oddsFromValue 13 = .ok (.aload_n 0, 1) := by decide +kernel
theorem dX5_oddsFromValue_14 : decode cX5_oddsFromValue 14 = .ok (.getfield 51, 3) := by decide +kernel
theorem dX5_oddsFromValue_17 : decode cX5_oddsFromValue 17 = .ok (.lmul, 1) := by decide +kernel
theorem dX5_oddsFromValue_18 : decode cX5_oddsFromValue 18 = .ok (.aload_n 0, 1) := by decide +kernel
theorem dX5_oddsFromValue_19 : decode cX5_oddsFromValue 19 = .ok (.getfield 61, 3) := by decide +kernel
theorem dX5_oddsFromValue_22 : decode cX5_oddsFromValue 22 = .ok (.lsub, 1) := by decide +kernel
theorem dX5_oddsFromValue_23 : decode cX5_oddsFromValue 23 = .ok (.lconst 0, 1) := by decide +kernel
theorem dX5_oddsFromValue_24 : decode cX5_oddsFromValue 24 = .ok (.invokestatic 112, 3) := by decide +kernel
theorem dX5_oddsFromValue_27 : decode cX5_oddsFromValue 27 = .ok (.putfield 61, 3) := by decide +kernel
theorem dX5_oddsFromValue_30 : decode cX5_oddsFromValue 30 = .ok (.aload_n 0, 1) := by decide +kernel
theorem dX5_oddsFromValue_31 : decode cX5_oddsFromValue 31 = .ok (.aload_n 0, 1) := by decide +kernel
theorem dX5_oddsFromValue_32 : decode cX5_oddsFromValue 32 = .ok (.getfield 51, 3) := by decide +kernel
theorem dX5_oddsFromValue_35 : decode cX5_oddsFromValue 35 = .ok (.iload_n 3, 1) := by decide +kernel
theorem dX5_oddsFromValue_36 : decode cX5_oddsFromValue 36 = .ok (.iload_n 1, 1) := by decide +kernel
theorem dX5_oddsFromValue_37 : decode cX5_oddsFromValue 37 = .ok (.iadd, 1) := by decide +kernel
theorem dX5_oddsFromValue_38 : decode cX5_oddsFromValue 38 = .ok (.i2l, 1) := by decide +kernel
theorem dX5_oddsFromValue_39 : decode cX5_oddsFromValue 39 = .ok (.lmul, 1) := by decide +kernel
theorem dX5_oddsFromValue_40 : decode cX5_oddsFromValue 40 = .ok (.putfield 51, 3) := by decide +kernel
theorem dX5_oddsFromValue_43 : decode cX5_oddsFromValue 43 = .ok (.return_, 1) := by decide +kernel
def fX5_oddsFromValue (a1 : Int) (a2 : Int) (M : jw_M) : Option jw_M :=
  if 0 ≤ a2 ∧ a2 < 7 then Option.bind (some (M (10 + 1) a2)) (fun v2 => Option.bind (some (jw_up M 123 4 (jw_max (jw_v ((jw_v (v2 * (M 123 5))) - (M 123 4))) 0))) (fun M5 => Option.bind (some (jw_up M5 123 5 (jw_v ((M5 123 5) * (jw_w (v2 + a1)))))) (fun M7 => some M7))) else none
set_option maxRecDepth 100000 in
theorem rX5_oddsFromValue (G : jw_G) (a1 : Int) (a2 : Int) (ha1 : jw_r a1) (ha2 : jw_r a2) (M : jw_M) : jw_Rn G YX5_oddsFromValue 1 0 0 true (fun M1 => (0, M1)) 0 [(0, jR G 123), (1, jI a1), (2, jI a2)] [] M (fX5_oddsFromValue a1 a2 M) := by
  unfold fX5_oddsFromValue
  refine jw_aloadR (pc := 0) 0 dX5_oddsFromValue_0 rfl ?_
  refine jw_getR (pc := 1) (j := 0) rfl dX5_oddsFromValue_1 jv_5 ji_5 (Or.inl jt_335) jg_123 jl_123 (by decide) (by decide) rfl jf_5_0 ?_
  refine jw_getR (pc := 4) (j := 1) rfl dX5_oddsFromValue_4 jv_9 ji_9 (Or.inr ⟨_, jt_101⟩) jg_10 jl_10 (by decide) (by decide) rfl (jf_9_1 jg_10).1 ?_
  refine jw_iload_n (pc := 7) 2 dX5_oddsFromValue_7 rfl ?_
  refine jw_iald (pc := 8) dX5_oddsFromValue_8 (jf_9_1 jg_10).2.1 (jf_9_1 jg_10).2.2 (jw_ho (jf_9_1 jg_10).2.1 (by decide)) ha2 rfl (fun h1 => ?_)
  refine jw_istore_nL (pc := 9) (lv' := (fun y => [(3, y), (0, jR G 123), (1, jI a1), (2, jI a2)])) dX5_oddsFromValue_9 h1 (by decide) (fun _ => rfl) (fun v2 hv2 => ?_)
  refine jw_aloadR (pc := 10) 1 dX5_oddsFromValue_10 rfl ?_
  refine jw_iload_n (pc := 11) 0 dX5_oddsFromValue_11 rfl ?_
  refine jw_i2lr (pc := 12) dX5_oddsFromValue_12 hv2 ?_
  refine jw_aloadR (pc := 13) 1 dX5_oddsFromValue_13 rfl ?_
  refine jw_getL (pc := 14) (j := 5) rfl dX5_oddsFromValue_14 jv_5 ji_5 (Or.inl jt_341) jg_123 jl_123 (by decide) (by decide) (jw_ho jg_123 (by decide)) rfl rfl (fun h3 => ?_)
  refine jw_lmul (pc := 17) dX5_oddsFromValue_17 ?_
  refine jw_aloadR (pc := 18) 1 dX5_oddsFromValue_18 rfl ?_
  refine jw_getL (pc := 19) (j := 4) rfl dX5_oddsFromValue_19 jv_5 ji_5 (Or.inl jt_339) jg_123 jl_123 (by decide) (by decide) (jw_ho jg_123 (by decide)) rfl rfl (fun h4 => ?_)
  refine jw_lsub (pc := 22) dX5_oddsFromValue_22 ?_
  refine jw_lconst (pc := 23) (z := 0) dX5_oddsFromValue_23 rfl ?_
  refine jw_mmaxL (pc := 24) dX5_oddsFromValue_24 jt_1093 jt_1094 jt_20 jt_1095 (by decide) (Nat.le_of_ble_eq_true rfl) (jw_vr _) (jw_qc _ rfl) ?_
  refine jw_putL (pc := 27) (j := 4) tyX5 rfl dX5_oddsFromValue_27 jv_5 ji_5 tyX5_ok nmX5 (Or.inl jt_339) rfl jg_123 jl_123 (by decide) (by decide) (jw_ho jg_123 (by decide)) rfl rfl (jw_maxq (jw_vr _) (jw_qc _ rfl)) rfl ?_
  refine jw_letM (fun M5 => ?_)
  refine jw_aloadR (pc := 30) 1 dX5_oddsFromValue_30 rfl ?_
  refine jw_aloadR (pc := 31) 1 dX5_oddsFromValue_31 rfl ?_
  refine jw_getL (pc := 32) (j := 5) rfl dX5_oddsFromValue_32 jv_5 ji_5 (Or.inl jt_341) jg_123 jl_123 (by decide) (by decide) (jw_ho jg_123 (by decide)) rfl rfl (fun h6 => ?_)
  refine jw_iload_n (pc := 35) 0 dX5_oddsFromValue_35 rfl ?_
  refine jw_iload_n (pc := 36) 2 dX5_oddsFromValue_36 rfl ?_
  refine jw_iadd (pc := 37) dX5_oddsFromValue_37 ?_
  refine jw_i2lr (pc := 38) dX5_oddsFromValue_38 (jw_wr _) ?_
  refine jw_lmul (pc := 39) dX5_oddsFromValue_39 ?_
  refine jw_putL (pc := 40) (j := 5) tyX5 rfl dX5_oddsFromValue_40 jv_5 ji_5 tyX5_ok nmX5 (Or.inl jt_341) rfl jg_123 jl_123 (by decide) (by decide) (jw_ho jg_123 (by decide)) rfl rfl (jw_vr _) rfl ?_
  refine jw_letM (fun M7 => ?_)
  exact jw_ret (pc := 43) (v := 0) dX5_oddsFromValue_43 trivial rfl rfl
theorem kX5_oddsFromValue (G : jw_G) (a1 : Int) (a2 : Int) (ha1 : jw_r a1) (ha2 : jw_r a2) (M : jw_M) : jw_Ct G YX5_oddsFromValue none 1 0 0 true (fun M1 => (0, M1)) yX5_oddsFromValue [jR G 123, jI a1, jI a2] M (fX5_oddsFromValue a1 a2 M) := jw_met (by decide) rfl rfl rfl (Nat.le_of_ble_eq_true rfl) (rX5_oddsFromValue G a1 a2 ha1 ha2 M)
