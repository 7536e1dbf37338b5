abbrev YX9_setLaw : jw_Y := (RX9, cX9_setLaw, 4, 0, "setLaw")
theorem qX9_setLaw : jw_cy YX9_setLaw none yX9_setLaw 3 := ⟨by decide, jt_509, jt_6, by decide, by decide +kernel⟩
theorem dX9_setLaw_0 : decode cX9_setLaw 0 = .ok (.aload_n 0, 1) := by decide +kernel
theorem dX9_setLaw_1 : decode cX9_setLaw 1 = .ok (.iload_n 1, 1) := by decide +kernel
theorem dX9_setLaw_2 : decode cX9_setLaw 2 = .ok (.putfield 47, 3) := by decide +kernel
theorem dX9_setLaw_5 : decode cX9_setLaw 5 = .ok (.aload_n 0, 1) := by decide +kernel
theorem dX9_setLaw_6 : decode cX9_setLaw 6 = .ok (.iload_n 2, 1) := by decide +kernel
theorem dX9_setLaw_7 : decode cX9_setLaw 7 = .ok (.putfield 50, 3) := by decide +kernel
theorem dX9_setLaw_10 : decode cX9_setLaw 10 = .ok (.aload_n 0, 1) := by decide +kernel
theorem dX9_setLaw_11 : decode cX9_setLaw 11 = .ok (.iload_n 3, 1) := by decide +kernel
theorem dX9_setLaw_12 : decode cX9_setLaw 12 = .ok (.putfield 53, 3) := by decide +kernel
theorem dX9_setLaw_15 : decode cX9_setLaw 15 = .ok (.return_, 1) := by decide +kernel
def fX9_setLaw (t : Nat) (a1 : Int) (a2 : Int) (a3 : Int) (M : jw_M) : Option jw_M :=
  if jw_tag t = 9 then (Option.bind (some (jw_up M t 8 a1)) (fun M1 => Option.bind (some (jw_up M1 t 9 a2)) (fun M2 => Option.bind (some (jw_up M2 t 10 a3)) (fun M3 => some M3)))) else none
set_option maxRecDepth 100000 in
theorem rX9_setLaw (G : jw_G) (t : Nat) (a1 : Int) (a2 : Int) (a3 : Int) (ha1 : jw_r a1) (ha2 : jw_r a2) (ha3 : jw_r a3) (M : jw_M) : jw_Rn G YX9_setLaw 1 0 0 true (fun M1 => (0, M1)) 0 [(0, jR G t), (1, jI a1), (2, jI a2), (3, jI a3)] [] M (fX9_setLaw t a1 a2 a3 M) := by
  unfold fX9_setLaw
  refine jw_ck (fun ht => ?_)
  refine jw_aloadR (pc := 0) 0 dX9_setLaw_0 rfl ?_
  refine jw_iload_n (pc := 1) 1 dX9_setLaw_1 rfl ?_
  refine jw_putI (pc := 2) (j := 8) tyX9 rfl dX9_setLaw_2 jv_9 ji_9 tyX9_ok nmX9 (Or.inl jt_112) rfl ht (jn_9 ht) (by decide) (by decide) (jw_ho ht (by decide)) rfl rfl ha1 rfl ?_
  refine jw_letM (fun M1 => ?_)
  refine jw_aloadR (pc := 5) 0 dX9_setLaw_5 rfl ?_
  refine jw_iload_n (pc := 6) 2 dX9_setLaw_6 rfl ?_
  refine jw_putI (pc := 7) (j := 9) tyX9 rfl dX9_setLaw_7 jv_9 ji_9 tyX9_ok nmX9 (Or.inl jt_114) rfl ht (jn_9 ht) (by decide) (by decide) (jw_ho ht (by decide)) rfl rfl ha2 rfl ?_
  refine jw_letM (fun M2 => ?_)
  refine jw_aloadR (pc := 10) 0 dX9_setLaw_10 rfl ?_
  refine jw_iload_n (pc := 11) 3 dX9_setLaw_11 rfl ?_
  refine jw_putI (pc := 12) (j := 10) tyX9 rfl dX9_setLaw_12 jv_9 ji_9 tyX9_ok nmX9 (Or.inl jt_116) rfl ht (jn_9 ht) (by decide) (by decide) (jw_ho ht (by decide)) rfl rfl ha3 rfl ?_
  refine jw_letM (fun M3 => ?_)
  exact jw_ret (pc := 15) (v := 0) dX9_setLaw_15 trivial rfl rfl
theorem kX9_setLaw (G : jw_G) (t : Nat) (a1 : Int) (a2 : Int) (a3 : Int) (ha1 : jw_r a1) (ha2 : jw_r a2) (ha3 : jw_r a3) (M : jw_M) : jw_Ct G YX9_setLaw none 1 0 0 true (fun M1 => (0, M1)) yX9_setLaw [jR G t, jI a1, jI a2, jI a3] M (fX9_setLaw t a1 a2 a3 M) := jw_met (by decide) rfl rfl rfl (Nat.le_of_ble_eq_true rfl) (rX9_setLaw G t a1 a2 a3 ha1 ha2 ha3 M)
abbrev YX9_clear : jw_Y := (RX9, cX9_clear, 1, 0, "clear")
theorem qX9_clear : jw_cy YX9_clear none yX9_clear 0 := ⟨by decide, jt_504, jt_6, by decide, by decide +kernel⟩
theorem dX9_clear_0 : decode cX9_clear 0 = .ok (.aload_n 0, 1) := by decide +kernel
theorem dX9_clear_1 : decode cX9_clear 1 = .ok (.iconst 0, 1) := by decide +kernel
theorem dX9_clear_2 : decode cX9_clear 2 = .ok (.putfield 30, 3) := by decide +kernel
theorem dX9_clear_5 : decode cX9_clear 5 = .ok (.aload_n 0, 1) := by decide +kernel
theorem dX9_clear_6 : decode cX9_clear 6 = .ok (.iconst 0, 1) := by decide +kernel
theorem dX9_clear_7 : decode cX9_clear 7 = .ok (.putfield 34, 3) := by decide +kernel
theorem dX9_clear_10 : decode cX9_clear 10 = .ok (.aload_n 0, 1) := by decide +kernel
theorem dX9_clear_11 : decode cX9_clear 11 = .ok (.getfield 15, 3) := by decide +kernel
theorem dX9_clear_14 : decode cX9_clear 14 = .ok (.iconst 0, 1) := by decide +kernel
theorem dX9_clear_15 : decode cX9_clear 15 = .ok (.invokestatic 37, 3) := by decide +kernel
theorem dX9_clear_18 : decode cX9_clear 18 = .ok (.aload_n 0, 1) := by decide +kernel
theorem dX9_clear_19 : decode cX9_clear 19 = .ok (.iconst 0, 1) := by decide +kernel
theorem dX9_clear_20 : decode cX9_clear 20 = .ok (.bipush 11, 2) := by decide +kernel
theorem dX9_clear_22 : decode cX9_clear 22 = .ok (.iconst 3, 1) := by decide +kernel
theorem dX9_clear_23 : decode cX9_clear 23 = .ok (.invokevirtual 43, 3) := by decide +kernel
theorem dX9_clear_26 : decode cX9_clear 26 = .ok (.return_, 1) := by decide +kernel
def fX9_clear (t : Nat) (M : jw_M) : Option jw_M :=
  if jw_tag t = 9 then (Option.bind (some (jw_up M t 0 0)) (fun M1 => Option.bind (some (jw_up M1 t 5 0)) (fun M2 => Option.bind (fJ7_fill_53178 (t + 2) 0 M2) (fun M3 => Option.bind (fX9_setLaw t 0 11 3 M3) (fun M4 => some M4))))) else none
set_option maxRecDepth 100000 in
theorem rX9_clear (G : jw_G) (t : Nat) (M : jw_M) : jw_Rn G YX9_clear 2 0 0 true (fun M1 => (0, M1)) 0 [(0, jR G t)] [] M (fX9_clear t M) := by
  unfold fX9_clear
  refine jw_ck (fun ht => ?_)
  refine jw_aloadR (pc := 0) 0 dX9_clear_0 rfl ?_
  refine jw_iconst (pc := 1) dX9_clear_1 ?_
  refine jw_putI (pc := 2) (j := 0) tyX9 rfl dX9_clear_2 jv_9 ji_9 tyX9_ok nmX9 (Or.inl jt_94) rfl ht (jn_9 ht) (by decide) (by decide) (jw_ho ht (by decide)) rfl rfl (jw_rc _ rfl) rfl ?_
  refine jw_letM (fun M1 => ?_)
  refine jw_aloadR (pc := 5) 0 dX9_clear_5 rfl ?_
  refine jw_iconst (pc := 6) dX9_clear_6 ?_
  refine jw_putI (pc := 7) (j := 5) tyX9 rfl dX9_clear_7 jv_9 ji_9 tyX9_ok nmX9 (Or.inl jt_105) rfl ht (jn_9 ht) (by decide) (by decide) (jw_ho ht (by decide)) rfl rfl (jw_rc _ rfl) rfl ?_
  refine jw_letM (fun M2 => ?_)
  refine jw_aloadR (pc := 10) 0 dX9_clear_10 rfl ?_
  refine jw_getR (pc := 11) (j := 2) rfl dX9_clear_11 jv_9 ji_9 (Or.inl jt_102) ht (jn_9 ht) (by decide) (by decide) rfl (jf_9_2 ht).1 ?_
  refine jw_iconst (pc := 14) dX9_clear_14 ?_
  refine jw_callSM (pc := 15) (As := [jR G (t + 2), jI 0]) (st := []) dX9_clear_15 rfl (Nat.le_of_ble_eq_true rfl) qJ7_fill_53178 jt_505 jt_37 rfl rfl (Nat.le_of_ble_eq_true rfl) (kJ7_fill_53178 G (t + 2) 0 (jw_rc _ rfl) M2) (fun M3 => ?_)
  refine jw_aloadR (pc := 18) 0 dX9_clear_18 rfl ?_
  refine jw_iconst (pc := 19) dX9_clear_19 ?_
  refine jw_bipush (pc := 20) dX9_clear_20 rfl ?_
  refine jw_iconst (pc := 22) dX9_clear_22 ?_
  refine jw_callVM (pc := 23) (As := [jI 0, jI 11, jI 3]) (st := []) dX9_clear_23 rfl (Nat.le_of_ble_eq_true rfl) qX9_setLaw jt_506 jt_507 jt_508 rfl rfl (Nat.le_of_ble_eq_true rfl) jv_9 rfl ht (jn_9 ht) (by decide) (jw_ho ht (by decide)) (kX9_setLaw G t 0 11 3 (jw_rc _ rfl) (jw_rc _ rfl) (jw_rc _ rfl) M3) (fun M4 => ?_)
  exact jw_ret (pc := 26) (v := 0) dX9_clear_26 trivial rfl rfl
theorem kX9_clear (G : jw_G) (t : Nat) (M : jw_M) : jw_Ct G YX9_clear none 2 0 0 true (fun M1 => (0, M1)) yX9_clear [jR G t] M (fX9_clear t M) := jw_met (by decide) rfl rfl rfl (Nat.le_of_ble_eq_true rfl) (rX9_clear G t M)
abbrev YX9_takeFrom : jw_Y := (RX9, cX9_takeFrom, 2, 0, "takeFrom")
theorem qX9_takeFrom : jw_cy YX9_takeFrom none yX9_takeFrom 1 := ⟨by decide, jt_699, jt_6, by decide, by decide +kernel⟩
theorem dX9_takeFrom_0 : decode cX9_takeFrom 0 = .ok (.aload_n 0, 1) := by decide +kernel
theorem dX9_takeFrom_1 : decode cX9_takeFrom 1 = .ok (.aload_n 1, 1) := by decide +kernel
theorem dX9_takeFrom_2 : decode cX9_takeFrom 2 = .ok (.getfield 30, 3) := by decide +kernel
theorem dX9_takeFrom_5 : decode cX9_takeFrom 5 = .ok (.putfield 30, 3) := by decide +kernel
theorem dX9_takeFrom_8 : decode cX9_takeFrom 8 = .ok (.aload_n 0, 1) := by decide +kernel
theorem dX9_takeFrom_9 : decode cX9_takeFrom 9 = .ok (.aload_n 1, 1) := by decide +kernel
theorem dX9_takeFrom_10 : decode cX9_takeFrom 10 = .ok (.getfield 34, 3) := by decide +kernel
theorem dX9_takeFrom_13 : decode cX9_takeFrom 13 = .ok (.putfield 34, 3) := by decide +kernel
theorem dX9_takeFrom_16 : decode cX9_takeFrom 16 = .ok (.aload_n 0, 1) := by decide +kernel
theorem dX9_takeFrom_17 : decode cX9_takeFrom 17 = .ok (.aload_n 1, 1) := by decide +kernel
theorem dX9_takeFrom_18 : decode cX9_takeFrom 18 = .ok (.getfield 47, 3) := by decide +kernel
theorem dX9_takeFrom_21 : decode cX9_takeFrom 21 = .ok (.aload_n 1, 1) := by decide +kernel
theorem dX9_takeFrom_22 : decode cX9_takeFrom 22 = .ok (.getfield 50, 3) := by decide +kernel
theorem dX9_takeFrom_25 : decode cX9_takeFrom 25 = .ok (.aload_n 1, 1) := by decide +kernel
theorem dX9_takeFrom_26 : decode cX9_takeFrom 26 = .ok (.getfield 53, 3) := by decide +kernel
theorem dX9_takeFrom_29 : decode cX9_takeFrom 29 = .ok (.invokevirtual 43, 3) := by decide +kernel
theorem dX9_takeFrom_32 : decode cX9_takeFrom 32 = .ok (.aload_n 1, 1) := by decide +kernel
theorem dX9_takeFrom_33 : decode cX9_takeFrom 33 = .ok (.getfield 9, 3) := by decide +kernel
theorem dX9_takeFrom_36 : decode cX9_takeFrom 36 = .ok (.iconst 0, 1) := by decide +kernel
theorem dX9_takeFrom_37 : decode cX9_takeFrom 37 = .ok (.aload_n 0, 1) := by decide +kernel
theorem dX9_takeFrom_38 : decode cX9_takeFrom 38 = .ok (.getfield 9, 3) := by decide +kernel
theorem dX9_takeFrom_41 : decode cX9_takeFrom 41 = .ok (.iconst 0, 1) := by decide +kernel
theorem dX9_takeFrom_42 : decode cX9_takeFrom 42 = .ok (.aload_n 0, 1) := by decide +kernel
theorem dX9_takeFrom_43 : decode cX9_takeFrom 43 = .ok (.getfield 9, 3) := by decide +kernel
theorem dX9_takeFrom_46 : decode cX9_takeFrom 46 = .ok (.arraylength, 1) := by decide +kernel
theorem dX9_takeFrom_47 : decode cX9_takeFrom 47 = .ok (.invokestatic 56, 3) := by decide +kernel
theorem dX9_takeFrom_50 : decode cX9_takeFrom 50 = .ok (.aload_n 1, 1) := by decide +kernel
theorem dX9_takeFrom_51 : decode cX9_takeFrom 51 = .ok (.getfield 15, 3) := by decide +kernel
theorem dX9_takeFrom_54 : decode cX9_takeFrom 54 = .ok (.iconst 0, 1) := by decide +kernel
theorem dX9_takeFrom_55 : decode cX9_takeFrom 55 = .ok (.aload_n 0, 1) := by decide +kernel
theorem dX9_takeFrom_56 : decode cX9_takeFrom 56 = .ok (.getfield 15, 3) := by decide +kernel
theorem dX9_takeFrom_59 : decode cX9_takeFrom 59 = .ok (.iconst 0, 1) := by decide +kernel
theorem dX9_takeFrom_60 : decode cX9_takeFrom 60 = .ok (.aload_n 0, 1) := by decide +kernel
theorem dX9_takeFrom_61 : decode cX9_takeFrom 61 = .ok (.getfield 15, 3) := by decide +kernel
theorem dX9_takeFrom_64 : decode cX9_takeFrom 64 = .ok (.arraylength, 1) := by decide +kernel
theorem dX9_takeFrom_65 : decode cX9_takeFrom 65 = .ok (.invokestatic 56, 3) := by decide +kernel
theorem dX9_takeFrom_68 : decode cX9_takeFrom 68 = .ok (.aload_n 1, 1) := by decide +kernel
theorem dX9_takeFrom_69 : decode cX9_takeFrom 69 = .ok (.getfield 18, 3) := by decide +kernel
theorem dX9_takeFrom_72 : decode cX9_takeFrom 72 = .ok (.iconst 0, 1) := by decide +kernel
theorem dX9_takeFrom_73 : decode cX9_takeFrom 73 = .ok (.aload_n 0, 1) := by decide +kernel
theorem dX9_takeFrom_74 : decode cX9_takeFrom 74 = .ok (.getfield 18, 3) := by decide +kernel
theorem dX9_takeFrom_77 : decode cX9_takeFrom 77 = .ok (.iconst 0, 1) := by decide +kernel
theorem dX9_takeFrom_78 : decode cX9_takeFrom 78 = .ok (.aload_n 0, 1) := by decide +kernel
theorem dX9_takeFrom_79 : decode cX9_takeFrom 79 = .ok (.getfield 18, 3) := by decide +kernel
theorem dX9_takeFrom_82 : decode cX9_takeFrom 82 = .ok (.arraylength, 1) := by decide +kernel
theorem dX9_takeFrom_83 : decode cX9_takeFrom 83 = .ok (.invokestatic 56, 3) := by decide +kernel
theorem dX9_takeFrom_86 : decode cX9_takeFrom 86 = .ok (.aload_n 1, 1) := by decide +kernel
theorem dX9_takeFrom_87 : decode cX9_takeFrom 87 = .ok (.getfield 21, 3) := by decide +kernel
theorem dX9_takeFrom_90 : decode cX9_takeFrom 90 = .ok (.iconst 0, 1) := by decide +kernel
theorem dX9_takeFrom_91 : decode cX9_takeFrom 91 = .ok (.aload_n 0, 1) := by decide +kernel
theorem dX9_takeFrom_92 : decode cX9_takeFrom 92 = .ok (.getfield 21, 3) := by decide +kernel
theorem dX9_takeFrom_95 : decode cX9_takeFrom 95 = .ok (.iconst 0, 1) := by decide +kernel
theorem dX9_takeFrom_96 : decode cX9_takeFrom 96 = .ok (.aload_n 0, 1) := by decide +kernel
theorem dX9_takeFrom_97 : decode cX9_takeFrom 97 = .ok (.getfield 21, 3) := by decide +kernel
theorem dX9_takeFrom_100 : decode cX9_takeFrom 100 = .ok (.arraylength, 1) := by decide +kernel
theorem dX9_takeFrom_101 : decode cX9_takeFrom 101 = .ok (.invokestatic 56, 3) := by decide +kernel
theorem dX9_takeFrom_104 : decode cX9_takeFrom 104 = .ok (.aload_n 1, 1) := by decide +kernel
theorem dX9_takeFrom_105 : decode cX9_takeFrom 105 = .ok (.getfield 24, 3) := by decide +kernel
theorem dX9_takeFrom_108 : decode cX9_takeFrom 108 = .ok (.iconst 0, 1) := by decide +kernel
theorem dX9_takeFrom_109 : decode cX9_takeFrom 109 = .ok (.aload_n 0, 1) := by decide +kernel
theorem dX9_takeFrom_110 : decode cX9_takeFrom 110 = .ok (.getfield 24, 3) := by decide +kernel
theorem dX9_takeFrom_113 : decode cX9_takeFrom 113 = .ok (.iconst 0, 1) := by decide +kernel
theorem dX9_takeFrom_114 : decode cX9_takeFrom 114 = .ok (.aload_n 0, 1) := by decide +kernel
theorem dX9_takeFrom_115 : decode cX9_takeFrom 115 = .ok (.getfield 24, 3) := by decide +kernel
theorem dX9_takeFrom_118 : decode cX9_takeFrom 118 = .ok (.arraylength, 1) := by decide +kernel
theorem dX9_takeFrom_119 : decode cX9_takeFrom 119 = .ok (.invokestatic 56, 3) := by decide +kernel
theorem dX9_takeFrom_122 : decode cX9_takeFrom 122 = .ok (.aload_n 1, 1) := by decide +kernel
theorem dX9_takeFrom_123 : decode cX9_takeFrom 123 = .ok (.getfield 27, 3) := by decide +kernel
theorem dX9_takeFrom_126 : decode cX9_takeFrom 126 = .ok (.iconst 0, 1) := by decide +kernel
theorem dX9_takeFrom_127 : decode cX9_takeFrom 127 = .ok (.aload_n 0, 1) := by decide +kernel
theorem dX9_takeFrom_128 : decode cX9_takeFrom 128 = .ok (.getfield 27, 3) := by decide +kernel
theorem dX9_takeFrom_131 : decode cX9_takeFrom 131 = .ok (.iconst 0, 1) := by decide +kernel
theorem dX9_takeFrom_132 : decode cX9_takeFrom 132 = .ok (.aload_n 0, 1) := by decide +kernel
theorem dX9_takeFrom_133 : decode cX9_takeFrom 133 = .ok (.getfield 27, 3) := by decide +kernel
theorem dX9_takeFrom_136 : decode cX9_takeFrom 136 = .ok (.arraylength, 1) := by decide +kernel
theorem dX9_takeFrom_137 : decode cX9_takeFrom 137 = .ok (.invokestatic 56, 3) := by decide +kernel
theorem dX9_takeFrom_140 : decode cX9_takeFrom 140 = .ok (.return_, 1) := by decide +kernel
def fX9_takeFrom (t : Nat) (a1 : Nat) (M : jw_M) : Option jw_M :=
  if jw_tag t = 9 then (if jw_tag a1 = 9 then (Option.bind (some (jw_up M t 0 (M a1 0))) (fun M2 => Option.bind (some (jw_up M2 t 5 (M2 a1 5))) (fun M4 => Option.bind (fX9_setLaw t (M4 a1 8) (M4 a1 9) (M4 a1 10) M4) (fun M8 => if 0 ≤ (0 : Int) ∧ 0 ≤ (0 : Int) ∧ 0 ≤ (7 : Int) ∧ (0 : Int) + 7 ≤ 7 ∧ (0 : Int) + 7 ≤ 7 then Option.bind (some (jw_cp M8 (a1 + 1) 0 (t + 1) 0 7)) (fun M9 => if 0 ≤ (0 : Int) ∧ 0 ≤ (0 : Int) ∧ 0 ≤ (49 : Int) ∧ (0 : Int) + 49 ≤ 49 ∧ (0 : Int) + 49 ≤ 49 then Option.bind (some (jw_cp M9 (a1 + 2) 0 (t + 2) 0 49)) (fun M10 => if 0 ≤ (0 : Int) ∧ 0 ≤ (0 : Int) ∧ 0 ≤ (49 : Int) ∧ (0 : Int) + 49 ≤ 49 ∧ (0 : Int) + 49 ≤ 49 then Option.bind (some (jw_cp M10 (a1 + 3) 0 (t + 3) 0 49)) (fun M11 => if 0 ≤ (0 : Int) ∧ 0 ≤ (0 : Int) ∧ 0 ≤ (49 : Int) ∧ (0 : Int) + 49 ≤ 49 ∧ (0 : Int) + 49 ≤ 49 then Option.bind (some (jw_cp M11 (a1 + 4) 0 (t + 4) 0 49)) (fun M12 => if 0 ≤ (0 : Int) ∧ 0 ≤ (0 : Int) ∧ 0 ≤ (6 : Int) ∧ (0 : Int) + 6 ≤ 6 ∧ (0 : Int) + 6 ≤ 6 then Option.bind (some (jw_cp M12 (a1 + 5) 0 (t + 5) 0 6)) (fun M13 => if 0 ≤ (0 : Int) ∧ 0 ≤ (0 : Int) ∧ 0 ≤ (6 : Int) ∧ (0 : Int) + 6 ≤ 6 ∧ (0 : Int) + 6 ≤ 6 then Option.bind (some (jw_cp M13 (a1 + 6) 0 (t + 6) 0 6)) (fun M14 => some M14) else none) else none) else none) else none) else none) else none)))) else none) else none
set_option maxRecDepth 100000 in
theorem rX9_takeFrom (G : jw_G) (t : Nat) (a1 : Nat) (M : jw_M) : jw_Rn G YX9_takeFrom 2 0 0 true (fun M1 => (0, M1)) 0 [(0, jR G t), (1, jR G a1)] [] M (fX9_takeFrom t a1 M) := by
  unfold fX9_takeFrom
  refine jw_ck (fun ht => ?_)
  refine jw_ck (fun ha1 => ?_)
  refine jw_aloadR (pc := 0) 0 dX9_takeFrom_0 rfl ?_
  refine jw_aloadR (pc := 1) 1 dX9_takeFrom_1 rfl ?_
  refine jw_getI (pc := 2) (j := 0) rfl dX9_takeFrom_2 jv_9 ji_9 (Or.inl jt_94) ha1 (jn_9 ha1) (by decide) (by decide) (jw_ho ha1 (by decide)) (Or.inl rfl) rfl (fun h1 => ?_)
  refine jw_putI (pc := 5) (j := 0) tyX9 rfl dX9_takeFrom_5 jv_9 ji_9 tyX9_ok nmX9 (Or.inl jt_94) rfl ht (jn_9 ht) (by decide) (by decide) (jw_ho ht (by decide)) rfl rfl h1 rfl ?_
  refine jw_letM (fun M2 => ?_)
  refine jw_aloadR (pc := 8) 0 dX9_takeFrom_8 rfl ?_
  refine jw_aloadR (pc := 9) 1 dX9_takeFrom_9 rfl ?_
  refine jw_getI (pc := 10) (j := 5) rfl dX9_takeFrom_10 jv_9 ji_9 (Or.inl jt_105) ha1 (jn_9 ha1) (by decide) (by decide) (jw_ho ha1 (by decide)) (Or.inl rfl) rfl (fun h3 => ?_)
  refine jw_putI (pc := 13) (j := 5) tyX9 rfl dX9_takeFrom_13 jv_9 ji_9 tyX9_ok nmX9 (Or.inl jt_105) rfl ht (jn_9 ht) (by decide) (by decide) (jw_ho ht (by decide)) rfl rfl h3 rfl ?_
  refine jw_letM (fun M4 => ?_)
  refine jw_aloadR (pc := 16) 0 dX9_takeFrom_16 rfl ?_
  refine jw_aloadR (pc := 17) 1 dX9_takeFrom_17 rfl ?_
  refine jw_getI (pc := 18) (j := 8) rfl dX9_takeFrom_18 jv_9 ji_9 (Or.inl jt_112) ha1 (jn_9 ha1) (by decide) (by decide) (jw_ho ha1 (by decide)) (Or.inl rfl) rfl (fun h5 => ?_)
  refine jw_aloadR (pc := 21) 1 dX9_takeFrom_21 rfl ?_
  refine jw_getI (pc := 22) (j := 9) rfl dX9_takeFrom_22 jv_9 ji_9 (Or.inl jt_114) ha1 (jn_9 ha1) (by decide) (by decide) (jw_ho ha1 (by decide)) (Or.inl rfl) rfl (fun h6 => ?_)
  refine jw_aloadR (pc := 25) 1 dX9_takeFrom_25 rfl ?_
  refine jw_getI (pc := 26) (j := 10) rfl dX9_takeFrom_26 jv_9 ji_9 (Or.inl jt_116) ha1 (jn_9 ha1) (by decide) (by decide) (jw_ho ha1 (by decide)) (Or.inl rfl) rfl (fun h7 => ?_)
  refine jw_callVM (pc := 29) (As := [jI (M4 a1 8), jI (M4 a1 9), jI (M4 a1 10)]) (st := []) dX9_takeFrom_29 rfl (Nat.le_of_ble_eq_true rfl) qX9_setLaw jt_506 jt_507 jt_508 rfl rfl (Nat.le_of_ble_eq_true rfl) jv_9 rfl ht (jn_9 ht) (by decide) (jw_ho ht (by decide)) (kX9_setLaw G t (M4 a1 8) (M4 a1 9) (M4 a1 10) h5 h6 h7 M4) (fun M8 => ?_)
  refine jw_aloadR (pc := 32) 1 dX9_takeFrom_32 rfl ?_
  refine jw_getR (pc := 33) (j := 1) rfl dX9_takeFrom_33 jv_9 ji_9 (Or.inl jt_98) ha1 (jn_9 ha1) (by decide) (by decide) rfl (jf_9_1 ha1).1 ?_
  refine jw_iconst (pc := 36) dX9_takeFrom_36 ?_
  refine jw_aloadR (pc := 37) 0 dX9_takeFrom_37 rfl ?_
  refine jw_getR (pc := 38) (j := 1) rfl dX9_takeFrom_38 jv_9 ji_9 (Or.inl jt_98) ht (jn_9 ht) (by decide) (by decide) rfl (jf_9_1 ht).1 ?_
  refine jw_iconst (pc := 41) dX9_takeFrom_41 ?_
  refine jw_aloadR (pc := 42) 0 dX9_takeFrom_42 rfl ?_
  refine jw_getR (pc := 43) (j := 1) rfl dX9_takeFrom_43 jv_9 ji_9 (Or.inl jt_98) ht (jn_9 ht) (by decide) (by decide) rfl (jf_9_1 ht).1 ?_
  refine jw_alen (pc := 46) dX9_takeFrom_46 (jf_9_1 ht).2.1 (jf_9_1 ht).2.2 (jw_ho (jf_9_1 ht).2.1 (by decide)) rfl ?_
  refine jw_acopy (pc := 47) rfl dX9_takeFrom_47 jt_700 jt_467 jt_466 jt_15 (jf_9_1 ha1).2.1 (jf_9_1 ht).2.1 (jf_9_1 ha1).2.2 (jf_9_1 ht).2.2 (jw_ho (jf_9_1 ha1).2.1 (by decide)) (jw_ho (jf_9_1 ht).2.1 (by decide)) (jw_rc _ rfl) (jw_rc _ rfl) (jw_rc _ rfl) rfl rfl (by decide) (Nat.le_of_ble_eq_true rfl) ?_
  refine jw_letM (fun M9 => ?_)
  refine jw_aloadR (pc := 50) 1 dX9_takeFrom_50 rfl ?_
  refine jw_getR (pc := 51) (j := 2) rfl dX9_takeFrom_51 jv_9 ji_9 (Or.inl jt_102) ha1 (jn_9 ha1) (by decide) (by decide) rfl (jf_9_2 ha1).1 ?_
  refine jw_iconst (pc := 54) dX9_takeFrom_54 ?_
  refine jw_aloadR (pc := 55) 0 dX9_takeFrom_55 rfl ?_
  refine jw_getR (pc := 56) (j := 2) rfl dX9_takeFrom_56 jv_9 ji_9 (Or.inl jt_102) ht (jn_9 ht) (by decide) (by decide) rfl (jf_9_2 ht).1 ?_
  refine jw_iconst (pc := 59) dX9_takeFrom_59 ?_
  refine jw_aloadR (pc := 60) 0 dX9_takeFrom_60 rfl ?_
  refine jw_getR (pc := 61) (j := 2) rfl dX9_takeFrom_61 jv_9 ji_9 (Or.inl jt_102) ht (jn_9 ht) (by decide) (by decide) rfl (jf_9_2 ht).1 ?_
  refine jw_alen (pc := 64) dX9_takeFrom_64 (jf_9_2 ht).2.1 (jf_9_2 ht).2.2 (jw_ho (jf_9_2 ht).2.1 (by decide)) rfl ?_
  refine jw_acopy (pc := 65) rfl dX9_takeFrom_65 jt_700 jt_467 jt_466 jt_15 (jf_9_2 ha1).2.1 (jf_9_2 ht).2.1 (jf_9_2 ha1).2.2 (jf_9_2 ht).2.2 (jw_ho (jf_9_2 ha1).2.1 (by decide)) (jw_ho (jf_9_2 ht).2.1 (by decide)) (jw_rc _ rfl) (jw_rc _ rfl) (jw_rc _ rfl) rfl rfl (by decide) (Nat.le_of_ble_eq_true rfl) ?_
  refine jw_letM (fun M10 => ?_)
  refine jw_aloadR (pc := 68) 1 dX9_takeFrom_68 rfl ?_
  refine jw_getR (pc := 69) (j := 3) rfl dX9_takeFrom_69 jv_9 ji_9 (Or.inl jt_103) ha1 (jn_9 ha1) (by decide) (by decide) rfl (jf_9_3 ha1).1 ?_
  refine jw_iconst (pc := 72) dX9_takeFrom_72 ?_
  refine jw_aloadR (pc := 73) 0 dX9_takeFrom_73 rfl ?_
  refine jw_getR (pc := 74) (j := 3) rfl dX9_takeFrom_74 jv_9 ji_9 (Or.inl jt_103) ht (jn_9 ht) (by decide) (by decide) rfl (jf_9_3 ht).1 ?_
  refine jw_iconst (pc := 77) dX9_takeFrom_77 ?_
  refine jw_aloadR (pc := 78) 0 dX9_takeFrom_78 rfl ?_
  refine jw_getR (pc := 79) (j := 3) rfl dX9_takeFrom_79 jv_9 ji_9 (Or.inl jt_103) ht (jn_9 ht) (by decide) (by decide) rfl (jf_9_3 ht).1 ?_
  refine jw_alen (pc := 82) dX9_takeFrom_82 (jf_9_3 ht).2.1 (jf_9_3 ht).2.2 (jw_ho (jf_9_3 ht).2.1 (by decide)) rfl ?_
  refine jw_acopy (pc := 83) rfl dX9_takeFrom_83 jt_700 jt_467 jt_466 jt_15 (jf_9_3 ha1).2.1 (jf_9_3 ht).2.1 (jf_9_3 ha1).2.2 (jf_9_3 ht).2.2 (jw_ho (jf_9_3 ha1).2.1 (by decide)) (jw_ho (jf_9_3 ht).2.1 (by decide)) (jw_rc _ rfl) (jw_rc _ rfl) (jw_rc _ rfl) rfl rfl (by decide) (Nat.le_of_ble_eq_true rfl) ?_
  refine jw_letM (fun M11 => ?_)
  refine jw_aloadR (pc := 86) 1 dX9_takeFrom_86 rfl ?_
  refine jw_getR (pc := 87) (j := 4) rfl dX9_takeFrom_87 jv_9 ji_9 (Or.inl jt_104) ha1 (jn_9 ha1) (by decide) (by decide) rfl (jf_9_4 ha1).1 ?_
  refine jw_iconst (pc := 90) dX9_takeFrom_90 ?_
  refine jw_aloadR (pc := 91) 0 dX9_takeFrom_91 rfl ?_
  refine jw_getR (pc := 92) (j := 4) rfl dX9_takeFrom_92 jv_9 ji_9 (Or.inl jt_104) ht (jn_9 ht) (by decide) (by decide) rfl (jf_9_4 ht).1 ?_
  refine jw_iconst (pc := 95) dX9_takeFrom_95 ?_
  refine jw_aloadR (pc := 96) 0 dX9_takeFrom_96 rfl ?_
  refine jw_getR (pc := 97) (j := 4) rfl dX9_takeFrom_97 jv_9 ji_9 (Or.inl jt_104) ht (jn_9 ht) (by decide) (by decide) rfl (jf_9_4 ht).1 ?_
  refine jw_alen (pc := 100) dX9_takeFrom_100 (jf_9_4 ht).2.1 (jf_9_4 ht).2.2 (jw_ho (jf_9_4 ht).2.1 (by decide)) rfl ?_
  refine jw_acopy (pc := 101) rfl dX9_takeFrom_101 jt_700 jt_467 jt_466 jt_15 (jf_9_4 ha1).2.1 (jf_9_4 ht).2.1 (jf_9_4 ha1).2.2 (jf_9_4 ht).2.2 (jw_ho (jf_9_4 ha1).2.1 (by decide)) (jw_ho (jf_9_4 ht).2.1 (by decide)) (jw_rc _ rfl) (jw_rc _ rfl) (jw_rc _ rfl) rfl rfl (by decide) (Nat.le_of_ble_eq_true rfl) ?_
  refine jw_letM (fun M12 => ?_)
  refine jw_aloadR (pc := 104) 1 dX9_takeFrom_104 rfl ?_
  refine jw_getR (pc := 105) (j := 6) rfl dX9_takeFrom_105 jv_9 ji_9 (Or.inl jt_108) ha1 (jn_9 ha1) (by decide) (by decide) rfl (jf_9_6 ha1).1 ?_
  refine jw_iconst (pc := 108) dX9_takeFrom_108 ?_
  refine jw_aloadR (pc := 109) 0 dX9_takeFrom_109 rfl ?_
  refine jw_getR (pc := 110) (j := 6) rfl dX9_takeFrom_110 jv_9 ji_9 (Or.inl jt_108) ht (jn_9 ht) (by decide) (by decide) rfl (jf_9_6 ht).1 ?_
  refine jw_iconst (pc := 113) dX9_takeFrom_113 ?_
  refine jw_aloadR (pc := 114) 0 dX9_takeFrom_114 rfl ?_
  refine jw_getR (pc := 115) (j := 6) rfl dX9_takeFrom_115 jv_9 ji_9 (Or.inl jt_108) ht (jn_9 ht) (by decide) (by decide) rfl (jf_9_6 ht).1 ?_
  refine jw_alen (pc := 118) dX9_takeFrom_118 (jf_9_6 ht).2.1 (jf_9_6 ht).2.2 (jw_ho (jf_9_6 ht).2.1 (by decide)) rfl ?_
  refine jw_acopy (pc := 119) rfl dX9_takeFrom_119 jt_700 jt_467 jt_466 jt_15 (jf_9_6 ha1).2.1 (jf_9_6 ht).2.1 (jf_9_6 ha1).2.2 (jf_9_6 ht).2.2 (jw_ho (jf_9_6 ha1).2.1 (by decide)) (jw_ho (jf_9_6 ht).2.1 (by decide)) (jw_rc _ rfl) (jw_rc _ rfl) (jw_rc _ rfl) rfl rfl (by decide) (Nat.le_of_ble_eq_true rfl) ?_
  refine jw_letM (fun M13 => ?_)
  refine jw_aloadR (pc := 122) 1 dX9_takeFrom_122 rfl ?_
  refine jw_getR (pc := 123) (j := 7) rfl dX9_takeFrom_123 jv_9 ji_9 (Or.inl jt_110) ha1 (jn_9 ha1) (by decide) (by decide) rfl (jf_9_7 ha1).1 ?_
  refine jw_iconst (pc := 126) dX9_takeFrom_126 ?_
  refine jw_aloadR (pc := 127) 0 dX9_takeFrom_127 rfl ?_
  refine jw_getR (pc := 128) (j := 7) rfl dX9_takeFrom_128 jv_9 ji_9 (Or.inl jt_110) ht (jn_9 ht) (by decide) (by decide) rfl (jf_9_7 ht).1 ?_
  refine jw_iconst (pc := 131) dX9_takeFrom_131 ?_
  refine jw_aloadR (pc := 132) 0 dX9_takeFrom_132 rfl ?_
  refine jw_getR (pc := 133) (j := 7) rfl dX9_takeFrom_133 jv_9 ji_9 (Or.inl jt_110) ht (jn_9 ht) (by decide) (by decide) rfl (jf_9_7 ht).1 ?_
  refine jw_alen (pc := 136) dX9_takeFrom_136 (jf_9_7 ht).2.1 (jf_9_7 ht).2.2 (jw_ho (jf_9_7 ht).2.1 (by decide)) rfl ?_
  refine jw_acopy (pc := 137) rfl dX9_takeFrom_137 jt_700 jt_467 jt_466 jt_15 (jf_9_7 ha1).2.1 (jf_9_7 ht).2.1 (jf_9_7 ha1).2.2 (jf_9_7 ht).2.2 (jw_ho (jf_9_7 ha1).2.1 (by decide)) (jw_ho (jf_9_7 ht).2.1 (by decide)) (jw_rc _ rfl) (jw_rc _ rfl) (jw_rc _ rfl) rfl rfl (by decide) (Nat.le_of_ble_eq_true rfl) ?_
  refine jw_letM (fun M14 => ?_)
  exact jw_ret (pc := 140) (v := 0) dX9_takeFrom_140 trivial rfl rfl
theorem kX9_takeFrom (G : jw_G) (t : Nat) (a1 : Nat) (M : jw_M) : jw_Ct G YX9_takeFrom none 2 0 0 true (fun M1 => (0, M1)) yX9_takeFrom [jR G t, jR G a1] M (fX9_takeFrom t a1 M) := jw_met (by decide) rfl rfl rfl (Nat.le_of_ble_eq_true rfl) (rX9_takeFrom G t a1 M)
abbrev YX9_addCorner : jw_Y := (RX9, cX9_addCorner, 2, 0, "addCorner")
theorem qX9_addCorner : jw_cy YX9_addCorner none yX9_addCorner 1 := ⟨by decide, jt_654, jt_6, by decide, by decide +kernel⟩
theorem dX9_addCorner_0 : decode cX9_addCorner 0 = .ok (.aload_n 0, 1) := by decide +kernel
theorem dX9_addCorner_1 : decode cX9_addCorner 1 = .ok (.getfield 9, 3) := by decide +kernel
theorem dX9_addCorner_4 : decode cX9_addCorner 4 = .ok (.aload_n 0, 1) := by decide +kernel
theorem dX9_addCorner_5 : decode cX9_addCorner 5 = .ok (.getfield 30, 3) := by decide +kernel
theorem dX9_addCorner_8 : decode cX9_addCorner 8 = .ok (.iload_n 1, 1) := by decide +kernel
theorem dX9_addCorner_9 : decode cX9_addCorner 9 = .ok (.iastore, 1) := by decide +kernel
theorem dX9_addCorner_10 : decode cX9_addCorner 10 = .ok (.aload_n 0, 1) := by decide +kernel
theorem dX9_addCorner_11 : decode cX9_addCorner 11 = .ok (.dup, 1) := by decide +kernel
theorem dX9_addCorner_12 : decode cX9_addCorner 12 = .ok (.getfield 30, 3) := by decide +kernel
theorem dX9_addCorner_15 : decode cX9_addCorner 15 = .ok (.iconst 1, 1) := by decide +kernel
theorem dX9_addCorner_16 : decode cX9_addCorner 16 = .ok (.iadd, 1) := by decide +kernel
theorem dX9_addCorner_17 : decode cX9_addCorner 17 = .ok (.putfield 30, 3) := by decide +kernel
theorem dX9_addCorner_20 : decode cX9_addCorner 20 = .ok (.return_, 1) := by decide +kernel
def fX9_addCorner (t : Nat) (a1 : Int) (M : jw_M) : Option jw_M :=
  if jw_tag t = 9 then (if 0 ≤ M t 0 ∧ M t 0 < 7 then Option.bind (some (jw_up M (t + 1) (M t 0) a1)) (fun M2 => Option.bind (some (jw_up M2 t 0 (jw_w ((M2 t 0) + 1)))) (fun M4 => some M4)) else none) else none
set_option maxRecDepth 100000 in
theorem rX9_addCorner (G : jw_G) (t : Nat) (a1 : Int) (ha1 : jw_r a1) (M : jw_M) : jw_Rn G YX9_addCorner 1 0 0 true (fun M1 => (0, M1)) 0 [(0, jR G t), (1, jI a1)] [] M (fX9_addCorner t a1 M) := by
  unfold fX9_addCorner
  refine jw_ck (fun ht => ?_)
  refine jw_aloadR (pc := 0) 0 dX9_addCorner_0 rfl ?_
  refine jw_getR (pc := 1) (j := 1) rfl dX9_addCorner_1 jv_9 ji_9 (Or.inl jt_98) ht (jn_9 ht) (by decide) (by decide) rfl (jf_9_1 ht).1 ?_
  refine jw_aloadR (pc := 4) 0 dX9_addCorner_4 rfl ?_
  refine jw_getI (pc := 5) (j := 0) rfl dX9_addCorner_5 jv_9 ji_9 (Or.inl jt_94) ht (jn_9 ht) (by decide) (by decide) (jw_ho ht (by decide)) (Or.inl rfl) rfl (fun h1 => ?_)
  refine jw_iload_n (pc := 8) 1 dX9_addCorner_8 rfl ?_
  refine jw_iast (pc := 9) dX9_addCorner_9 (jf_9_1 ht).2.1 (jf_9_1 ht).2.2 (jw_ho (jf_9_1 ht).2.1 (by decide)) h1 ha1 rfl ?_
  refine jw_letM (fun M2 => ?_)
  refine jw_aloadR (pc := 10) 0 dX9_addCorner_10 rfl ?_
  refine jw_dup (pc := 11) dX9_addCorner_11 rfl ?_
  refine jw_getI (pc := 12) (j := 0) rfl dX9_addCorner_12 jv_9 ji_9 (Or.inl jt_94) ht (jn_9 ht) (by decide) (by decide) (jw_ho ht (by decide)) (Or.inl rfl) rfl (fun h3 => ?_)
  refine jw_iconst (pc := 15) dX9_addCorner_15 ?_
  refine jw_iadd (pc := 16) dX9_addCorner_16 ?_
  refine jw_putI (pc := 17) (j := 0) tyX9 rfl dX9_addCorner_17 jv_9 ji_9 tyX9_ok nmX9 (Or.inl jt_94) rfl ht (jn_9 ht) (by decide) (by decide) (jw_ho ht (by decide)) rfl rfl (jw_wr _) rfl ?_
  refine jw_letM (fun M4 => ?_)
  exact jw_ret (pc := 20) (v := 0) dX9_addCorner_20 trivial rfl rfl
theorem kX9_addCorner (G : jw_G) (t : Nat) (a1 : Int) (ha1 : jw_r a1) (M : jw_M) : jw_Ct G YX9_addCorner none 1 0 0 true (fun M1 => (0, M1)) yX9_addCorner [jR G t, jI a1] M (fX9_addCorner t a1 M) := jw_met (by decide) rfl rfl rfl (Nat.le_of_ble_eq_true rfl) (rX9_addCorner G t a1 ha1 M)
abbrev YX9_streetTo : jw_Y := (RX9, cX9_streetTo, 3, 1, "streetTo")
theorem qX9_streetTo : jw_cy YX9_streetTo (some .int) yX9_streetTo 2 := ⟨by decide, jt_662, jt_6, by decide, by decide +kernel⟩
theorem dX9_streetTo_0 : decode cX9_streetTo 0 = .ok (.aload_n 0, 1) := by decide +kernel
theorem dX9_streetTo_1 : decode cX9_streetTo 1 = .ok (.getfield 15, 3) := by decide +kernel
theorem dX9_streetTo_4 : decode cX9_streetTo 4 = .ok (.iload_n 1, 1) := by decide +kernel
theorem dX9_streetTo_5 : decode cX9_streetTo 5 = .ok (.bipush 7, 2) := by decide +kernel
theorem dX9_streetTo_7 : decode cX9_streetTo 7 = .ok (.imul, 1) := by decide +kernel
theorem dX9_streetTo_8 : decode cX9_streetTo 8 = .ok (.iload_n 2, 1) := by decide +kernel
theorem dX9_streetTo_9 : decode cX9_streetTo 9 = .ok (.iadd, 1) := by decide +kernel
theorem dX9_streetTo_10 : decode cX9_streetTo 10 = .ok (.iaload, 1) := by decide +kernel
theorem dX9_streetTo_11 : decode cX9_streetTo 11 = .ok (.ireturn, 1) := by decide +kernel
def fX9_streetTo (t : Nat) (a1 : Int) (a2 : Int) (M : jw_M) : Option Int :=
  if jw_tag t = 9 then (if 0 ≤ jw_w ((jw_w (a1 * 7)) + a2) ∧ jw_w ((jw_w (a1 * 7)) + a2) < 49 then some (M (t + 2) (jw_w ((jw_w (a1 * 7)) + a2))) else none) else none
set_option maxRecDepth 100000 in
theorem rX9_streetTo (G : jw_G) (t : Nat) (a1 : Int) (a2 : Int) (ha1 : jw_r a1) (ha2 : jw_r a2) (M : jw_M) : jw_Rn G YX9_streetTo 1 0 0 true (fun v => (v, M)) 0 [(0, jR G t), (1, jI a1), (2, jI a2)] [] M (fX9_streetTo t a1 a2 M) := by
  unfold fX9_streetTo
  refine jw_ck (fun ht => ?_)
  refine jw_aloadR (pc := 0) 0 dX9_streetTo_0 rfl ?_
  refine jw_getR (pc := 1) (j := 2) rfl dX9_streetTo_1 jv_9 ji_9 (Or.inl jt_102) ht (jn_9 ht) (by decide) (by decide) rfl (jf_9_2 ht).1 ?_
  refine jw_iload_n (pc := 4) 1 dX9_streetTo_4 rfl ?_
  refine jw_bipush (pc := 5) dX9_streetTo_5 rfl ?_
  refine jw_imul (pc := 7) dX9_streetTo_7 ?_
  refine jw_iload_n (pc := 8) 2 dX9_streetTo_8 rfl ?_
  refine jw_iadd (pc := 9) dX9_streetTo_9 ?_
  refine jw_iald (pc := 10) dX9_streetTo_10 (jf_9_2 ht).2.1 (jf_9_2 ht).2.2 (jw_ho (jf_9_2 ht).2.1 (by decide)) (jw_wr _) rfl (fun h1 => ?_)
  exact jw_ret (pc := 11) (v := M (t + 2) (jw_w ((jw_w (a1 * 7)) + a2))) dX9_streetTo_11 h1 rfl rfl
theorem kX9_streetTo (G : jw_G) (t : Nat) (a1 : Int) (a2 : Int) (ha1 : jw_r a1) (ha2 : jw_r a2) (M : jw_M) : jw_Ct G YX9_streetTo (some .int) 1 0 0 true (fun v => (v, M)) yX9_streetTo [jR G t, jI a1, jI a2] M (fX9_streetTo t a1 a2 M) := jw_met (by decide) rfl rfl rfl (Nat.le_of_ble_eq_true rfl) (rX9_streetTo G t a1 a2 ha1 ha2 M)
abbrev YX9_addStreet : jw_Y := (RX9, cX9_addStreet, 6, 0, "addStreet")
theorem qX9_addStreet : jw_cy YX9_addStreet none yX9_addStreet 3 := ⟨by decide, jt_658, jt_6, by decide, by decide +kernel⟩
theorem dX9_addStreet_0 : decode cX9_addStreet 0 = .ok (.aload_n 0, 1) := by decide +kernel
theorem dX9_addStreet_1 : decode cX9_addStreet 1 = .ok (.iload_n 1, 1) := by decide +kernel
theorem dX9_addStreet_2 : decode cX9_addStreet 2 = .ok (.iload_n 2, 1) := by decide +kernel
theorem dX9_addStreet_3 : decode cX9_addStreet 3 = .ok (.invokevirtual 62, 3) := by decide +kernel
theorem dX9_addStreet_6 : decode cX9_addStreet 6 = .ok (.istore 4, 2) := by decide +kernel
theorem dX9_addStreet_8 : decode cX9_addStreet 8 = .ok (.iload 4, 2) := by decide +kernel
theorem dX9_addStreet_10 : decode cX9_addStreet 10 = .ok (.ifCond .ne 7, 3) := by decide +kernel
theorem dX9_addStreet_13 : decode cX9_addStreet 13 = .ok (.iload_n 3, 1) := by decide +kernel
theorem dX9_addStreet_14 : decode cX9_addStreet 14 = .ok (.goto 9, 3) := by decide +kernel
theorem dX9_addStreet_17 : decode cX9_addStreet 17 = .ok (.iload 4, 2) := by decide +kernel
theorem dX9_addStreet_19 : decode cX9_addStreet 19 = .ok (.iload_n 3, 1) := by decide +kernel
theorem dX9_addStreet_20 : decode cX9_addStreet 20 = .ok (.invokestatic 66, 3) := by decide +kernel
theorem dX9_addStreet_23 : decode cX9_addStreet 23 = .ok (.istore 5, 2) := by decide +kernel
theorem dX9_addStreet_25 : decode cX9_addStreet 25 = .ok (.aload_n 0, 1) := by decide +kernel
theorem dX9_addStreet_26 : decode cX9_addStreet 26 = .ok (.getfield 15, 3) := by decide +kernel
theorem dX9_addStreet_29 : decode cX9_addStreet 29 = .ok (.iload_n 1, 1) := by decide +kernel
theorem dX9_addStreet_30 : decode cX9_addStreet 30 = .ok (.bipush 7, 2) := by decide +kernel
theorem dX9_addStreet_32 : decode cX9_addStreet 32 = .ok (.imul, 1) := by decide +kernel
theorem dX9_addStreet_33 : decode cX9_addStreet 33 = .ok (.iload_n 2, 1) := by decide +kernel
theorem dX9_addStreet_34 : decode cX9_addStreet 34 = .ok (.iadd, 1) := by decide +kernel
theorem dX9_addStreet_35 : decode cX9_addStreet 35 = .ok (.iload 5, 2) := by decide +kernel
theorem dX9_addStreet_37 : decode cX9_addStreet 37 = .ok (.iastore, 1) := by decide +kernel
theorem dX9_addStreet_38 : decode cX9_addStreet 38 = .ok (.aload_n 0, 1) := by decide +kernel
theorem dX9_addStreet_39 : decode cX9_addStreet 39 = .ok (.getfield 15, 3) := by decide +kernel
theorem dX9_addStreet_42 : decode cX9_addStreet 42 = .ok (.iload_n 2, 1) := by decide +kernel
theorem dX9_addStreet_43 : decode cX9_addStreet 43 = .ok (.bipush 7, 2) := by decide +kernel
theorem dX9_addStreet_45 : decode cX9_addStreet 45 = .ok (.imul, 1) := by decide +kernel
theorem dX9_addStreet_46 : decode cX9_addStreet 46 = .ok (.iload_n 1, 1) := by decide +kernel
theorem dX9_addStreet_47 : decode cX9_addStreet 47 = .ok (.iadd, 1) := by decide +kernel
theorem dX9_addStreet_48 : decode cX9_addStreet 48 = .ok (.iload 5, 2) := by decide +kernel
theorem dX9_addStreet_50 : decode cX9_addStreet 50 = .ok (.iastore, 1) := by decide +kernel
theorem dX9_addStreet_51 : decode cX9_addStreet 51 = .ok (.return_, 1) := by decide +kernel
def fX9_addStreet_23 (t : Nat) (x1 : Int) (x2 : Int) (xs0 : Int) (M : jw_M) : Option jw_M :=
  Option.bind (some xs0) (fun v3 => if 0 ≤ jw_w ((jw_w (x1 * 7)) + x2) ∧ jw_w ((jw_w (x1 * 7)) + x2) < 49 then Option.bind (some (jw_up M (t + 2) (jw_w ((jw_w (x1 * 7)) + x2)) v3)) (fun M4 => if 0 ≤ jw_w ((jw_w (x2 * 7)) + x1) ∧ jw_w ((jw_w (x2 * 7)) + x1) < 49 then Option.bind (some (jw_up M4 (t + 2) (jw_w ((jw_w (x2 * 7)) + x1)) v3)) (fun M5 => some M5) else none) else none)
set_option maxRecDepth 100000 in
theorem pX9_addStreet_23 (G : jw_G) (t : Nat) (ht : jw_tag t = 9) : ∀ (x1 : Int) (x2 : Int) (xs0 : Int) (hx1 : jw_r x1) (hx2 : jw_r x2) (hxs0 : jw_r xs0) (M : jw_M), jw_Rn G YX9_addStreet 2 0 0 true (fun M1 => (0, M1)) 23 [(0, jR G t), (1, jI x1), (2, jI x2)] [jI xs0] M (fX9_addStreet_23 t x1 x2 xs0 M) := by
  intro x1 x2 xs0 hx1 hx2 hxs0 M
  unfold fX9_addStreet_23
  refine jw_istoreL (pc := 23) (lv' := (fun y => [(5, y), (0, jR G t), (1, jI x1), (2, jI x2)])) dX9_addStreet_23 hxs0 (by decide) (fun _ => rfl) (fun v3 hv3 => ?_)
  refine jw_aloadR (pc := 25) 1 dX9_addStreet_25 rfl ?_
  refine jw_getR (pc := 26) (j := 2) rfl dX9_addStreet_26 jv_9 ji_9 (Or.inl jt_102) ht (jn_9 ht) (by decide) (by decide) rfl (jf_9_2 ht).1 ?_
  refine jw_iload_n (pc := 29) 2 dX9_addStreet_29 rfl ?_
  refine jw_bipush (pc := 30) dX9_addStreet_30 rfl ?_
  refine jw_imul (pc := 32) dX9_addStreet_32 ?_
  refine jw_iload_n (pc := 33) 3 dX9_addStreet_33 rfl ?_
  refine jw_iadd (pc := 34) dX9_addStreet_34 ?_
  refine jw_iload (pc := 35) 0 dX9_addStreet_35 rfl ?_
  refine jw_iast (pc := 37) dX9_addStreet_37 (jf_9_2 ht).2.1 (jf_9_2 ht).2.2 (jw_ho (jf_9_2 ht).2.1 (by decide)) (jw_wr _) hv3 rfl ?_
  refine jw_letM (fun M4 => ?_)
  refine jw_aloadR (pc := 38) 1 dX9_addStreet_38 rfl ?_
  refine jw_getR (pc := 39) (j := 2) rfl dX9_addStreet_39 jv_9 ji_9 (Or.inl jt_102) ht (jn_9 ht) (by decide) (by decide) rfl (jf_9_2 ht).1 ?_
  refine jw_iload_n (pc := 42) 3 dX9_addStreet_42 rfl ?_
  refine jw_bipush (pc := 43) dX9_addStreet_43 rfl ?_
  refine jw_imul (pc := 45) dX9_addStreet_45 ?_
  refine jw_iload_n (pc := 46) 2 dX9_addStreet_46 rfl ?_
  refine jw_iadd (pc := 47) dX9_addStreet_47 ?_
  refine jw_iload (pc := 48) 0 dX9_addStreet_48 rfl ?_
  refine jw_iast (pc := 50) dX9_addStreet_50 (jf_9_2 ht).2.1 (jf_9_2 ht).2.2 (jw_ho (jf_9_2 ht).2.1 (by decide)) (jw_wr _) hv3 rfl ?_
  refine jw_letM (fun M5 => ?_)
  exact jw_ret (pc := 51) (v := 0) dX9_addStreet_51 trivial rfl rfl
def fX9_addStreet (t : Nat) (a1 : Int) (a2 : Int) (a3 : Int) (M : jw_M) : Option jw_M :=
  if jw_tag t = 9 then (Option.bind (fX9_streetTo t a1 a2 M) (fun v1 => Option.bind (some v1) (fun v2 => if v2 = 0 then (fX9_addStreet_23 t a1 a2 a3 M) else (fX9_addStreet_23 t a1 a2 (jw_min v2 a3) M)))) else none
set_option maxRecDepth 100000 in
theorem rX9_addStreet (G : jw_G) (t : Nat) (a1 : Int) (a2 : Int) (a3 : Int) (ha1 : jw_r a1) (ha2 : jw_r a2) (ha3 : jw_r a3) (M : jw_M) : jw_Rn G YX9_addStreet 2 0 0 true (fun M1 => (0, M1)) 0 [(0, jR G t), (1, jI a1), (2, jI a2), (3, jI a3)] [] M (fX9_addStreet t a1 a2 a3 M) := by
  unfold fX9_addStreet
  refine jw_ck (fun ht => ?_)
  refine jw_aloadR (pc := 0) 0 dX9_addStreet_0 rfl ?_
  refine jw_iload_n (pc := 1) 1 dX9_addStreet_1 rfl ?_
  refine jw_iload_n (pc := 2) 2 dX9_addStreet_2 rfl ?_
  refine jw_callVi (pc := 3) (As := [jI a1, jI a2]) (st := []) dX9_addStreet_3 rfl (Nat.le_of_ble_eq_true rfl) qX9_streetTo jt_659 jt_660 jt_661 rfl rfl (Nat.le_of_ble_eq_true rfl) jv_9 rfl ht (jn_9 ht) (by decide) (jw_ho ht (by decide)) (kX9_streetTo G t a1 a2 ha1 ha2 M) (fun v1 hv1 => ?_)
  refine jw_istoreL (pc := 6) (lv' := (fun y => [(4, y), (0, jR G t), (1, jI a1), (2, jI a2), (3, jI a3)])) dX9_addStreet_6 hv1 (by decide) (fun _ => rfl) (fun v2 hv2 => ?_)
  refine jw_iload (pc := 8) 0 dX9_addStreet_8 rfl ?_
  refine jw_if_ne (pc := 10) 17 dX9_addStreet_10 (by decide) hv2 (fun _ => ?_) (fun _ => ?_)
  · refine jw_iload_n (pc := 13) 4 dX9_addStreet_13 rfl ?_
    refine jw_goto (pc := 14) 23 dX9_addStreet_14 (by decide) ?_
    exact jw_few [1, 2, 3] rfl (pX9_addStreet_23 G t ht a1 a2 a3 ha1 ha2 ha3 M)
  · refine jw_iload (pc := 17) 0 dX9_addStreet_17 rfl ?_
    refine jw_iload_n (pc := 19) 4 dX9_addStreet_19 rfl ?_
    refine jw_mmin (pc := 20) dX9_addStreet_20 jt_663 jt_664 jt_20 jt_665 (by decide) (Nat.le_of_ble_eq_true rfl) hv2 ha3 ?_
    exact jw_few [1, 2, 3] rfl (pX9_addStreet_23 G t ht a1 a2 (jw_min v2 a3) ha1 ha2 (jw_minr hv2 ha3) M)
theorem kX9_addStreet (G : jw_G) (t : Nat) (a1 : Int) (a2 : Int) (a3 : Int) (ha1 : jw_r a1) (ha2 : jw_r a2) (ha3 : jw_r a3) (M : jw_M) : jw_Ct G YX9_addStreet none 2 0 0 true (fun M1 => (0, M1)) yX9_addStreet [jR G t, jI a1, jI a2, jI a3] M (fX9_addStreet t a1 a2 a3 M) := jw_met (by decide) rfl rfl rfl (Nat.le_of_ble_eq_true rfl) (rX9_addStreet G t a1 a2 a3 ha1 ha2 ha3 M)
abbrev YX9_addCellar : jw_Y := (RX9, cX9_addCellar, 3, 0, "addCellar")
theorem qX9_addCellar : jw_cy YX9_addCellar none yX9_addCellar 2 := ⟨by decide, jt_681, jt_6, by decide, by decide +kernel⟩
theorem dX9_addCellar_0 : decode cX9_addCellar 0 = .ok (.aload_n 0, 1) := by decide +kernel
theorem dX9_addCellar_1 : decode cX9_addCellar 1 = .ok (.getfield 24, 3) := by decide +kernel
theorem dX9_addCellar_4 : decode cX9_addCellar 4 = .ok (.aload_n 0, 1) := by decide +kernel
theorem dX9_addCellar_5 : decode cX9_addCellar 5 = .ok (.getfield 34, 3) := by decide +kernel
theorem dX9_addCellar_8 : decode cX9_addCellar 8 = .ok (.iload_n 1, 1) := by decide +kernel
theorem dX9_addCellar_9 : decode cX9_addCellar 9 = .ok (.iastore, 1) := by decide +kernel
theorem dX9_addCellar_10 : decode cX9_addCellar 10 = .ok (.aload_n 0, 1) := by decide +kernel
theorem dX9_addCellar_11 : decode cX9_addCellar 11 = .ok (.getfield 27, 3) := by decide +kernel
theorem dX9_addCellar_14 : decode cX9_addCellar 14 = .ok (.aload_n 0, 1) := by decide +kernel
theorem dX9_addCellar_15 : decode cX9_addCellar 15 = .ok (.getfield 34, 3) := by decide +kernel
theorem dX9_addCellar_18 : decode cX9_addCellar 18 = .ok (.iload_n 2, 1) := by decide +kernel
theorem dX9_addCellar_19 : decode cX9_addCellar 19 = .ok (.iastore, 1) := by decide +kernel
theorem dX9_addCellar_20 : decode cX9_addCellar 20 = .ok (.aload_n 0, 1) := by decide +kernel
theorem dX9_addCellar_21 : decode cX9_addCellar 21 = .ok (.dup, 1) := by decide +kernel
theorem dX9_addCellar_22 : decode cX9_addCellar 22 = .ok (.getfield 34, 3) := by decide +kernel
theorem dX9_addCellar_25 : decode cX9_addCellar 25 = .ok (.iconst 1, 1) := by decide +kernel
theorem dX9_addCellar_26 : decode cX9_addCellar 26 = .ok (.iadd, 1) := by decide +kernel
theorem dX9_addCellar_27 : decode cX9_addCellar 27 = .ok (.putfield 34, 3) := by decide +kernel
theorem dX9_addCellar_30 : decode cX9_addCellar 30 = .ok (.return_, 1) := by decide +kernel
def fX9_addCellar (t : Nat) (a1 : Int) (a2 : Int) (M : jw_M) : Option jw_M :=
  if jw_tag t = 9 then (if 0 ≤ M t 5 ∧ M t 5 < 6 then Option.bind (some (jw_up M (t + 5) (M t 5) a1)) (fun M2 => if 0 ≤ M2 t 5 ∧ M2 t 5 < 6 then Option.bind (some (jw_up M2 (t + 6) (M2 t 5) a2)) (fun M4 => Option.bind (some (jw_up M4 t 5 (jw_w ((M4 t 5) + 1)))) (fun M6 => some M6)) else none) else none) else none
set_option maxRecDepth 100000 in
theorem rX9_addCellar (G : jw_G) (t : Nat) (a1 : Int) (a2 : Int) (ha1 : jw_r a1) (ha2 : jw_r a2) (M : jw_M) : jw_Rn G YX9_addCellar 1 0 0 true (fun M1 => (0, M1)) 0 [(0, jR G t), (1, jI a1), (2, jI a2)] [] M (fX9_addCellar t a1 a2 M) := by
  unfold fX9_addCellar
  refine jw_ck (fun ht => ?_)
  refine jw_aloadR (pc := 0) 0 dX9_addCellar_0 rfl ?_
  refine jw_getR (pc := 1) (j := 6) rfl dX9_addCellar_1 jv_9 ji_9 (Or.inl jt_108) ht (jn_9 ht) (by decide) (by decide) rfl (jf_9_6 ht).1 ?_
  refine jw_aloadR (pc := 4) 0 dX9_addCellar_4 rfl ?_
  refine jw_getI (pc := 5) (j := 5) rfl dX9_addCellar_5 jv_9 ji_9 (Or.inl jt_105) ht (jn_9 ht) (by decide) (by decide) (jw_ho ht (by decide)) (Or.inl rfl) rfl (fun h1 => ?_)
  refine jw_iload_n (pc := 8) 1 dX9_addCellar_8 rfl ?_
  refine jw_iast (pc := 9) dX9_addCellar_9 (jf_9_6 ht).2.1 (jf_9_6 ht).2.2 (jw_ho (jf_9_6 ht).2.1 (by decide)) h1 ha1 rfl ?_
  refine jw_letM (fun M2 => ?_)
  refine jw_aloadR (pc := 10) 0 dX9_addCellar_10 rfl ?_
  refine jw_getR (pc := 11) (j := 7) rfl dX9_addCellar_11 jv_9 ji_9 (Or.inl jt_110) ht (jn_9 ht) (by decide) (by decide) rfl (jf_9_7 ht).1 ?_
  refine jw_aloadR (pc := 14) 0 dX9_addCellar_14 rfl ?_
  refine jw_getI (pc := 15) (j := 5) rfl dX9_addCellar_15 jv_9 ji_9 (Or.inl jt_105) ht (jn_9 ht) (by decide) (by decide) (jw_ho ht (by decide)) (Or.inl rfl) rfl (fun h3 => ?_)
  refine jw_iload_n (pc := 18) 2 dX9_addCellar_18 rfl ?_
  refine jw_iast (pc := 19) dX9_addCellar_19 (jf_9_7 ht).2.1 (jf_9_7 ht).2.2 (jw_ho (jf_9_7 ht).2.1 (by decide)) h3 ha2 rfl ?_
  refine jw_letM (fun M4 => ?_)
  refine jw_aloadR (pc := 20) 0 dX9_addCellar_20 rfl ?_
  refine jw_dup (pc := 21) dX9_addCellar_21 rfl ?_
  refine jw_getI (pc := 22) (j := 5) rfl dX9_addCellar_22 jv_9 ji_9 (Or.inl jt_105) ht (jn_9 ht) (by decide) (by decide) (jw_ho ht (by decide)) (Or.inl rfl) rfl (fun h5 => ?_)
  refine jw_iconst (pc := 25) dX9_addCellar_25 ?_
  refine jw_iadd (pc := 26) dX9_addCellar_26 ?_
  refine jw_putI (pc := 27) (j := 5) tyX9 rfl dX9_addCellar_27 jv_9 ji_9 tyX9_ok nmX9 (Or.inl jt_105) rfl ht (jn_9 ht) (by decide) (by decide) (jw_ho ht (by decide)) rfl rfl (jw_wr _) rfl ?_
  refine jw_letM (fun M6 => ?_)
  exact jw_ret (pc := 30) (v := 0) dX9_addCellar_30 trivial rfl rfl
theorem kX9_addCellar (G : jw_G) (t : Nat) (a1 : Int) (a2 : Int) (ha1 : jw_r a1) (ha2 : jw_r a2) (M : jw_M) : jw_Ct G YX9_addCellar none 1 0 0 true (fun M1 => (0, M1)) yX9_addCellar [jR G t, jI a1, jI a2] M (fX9_addCellar t a1 a2 M) := jw_met (by decide) rfl rfl rfl (Nat.le_of_ble_eq_true rfl) (rX9_addCellar G t a1 a2 ha1 ha2 M)
abbrev YX9_isCorner : jw_Y := (RX9, cX9_isCorner, 2, 4, "isCorner")
theorem qX9_isCorner : jw_cy YX9_isCorner (some .boolean) yX9_isCorner 1 := ⟨by decide, jt_732, jt_6, by decide, by decide +kernel⟩
theorem dX9_isCorner_0 : decode cX9_isCorner 0 = .ok (.iload_n 1, 1) := by decide +kernel
theorem dX9_isCorner_1 : decode cX9_isCorner 1 = .ok (.ifCond .lt 15, 3) := by decide +kernel
theorem dX9_isCorner_4 : decode cX9_isCorner 4 = .ok (.iload_n 1, 1) := by decide +kernel
theorem dX9_isCorner_5 : decode cX9_isCorner 5 = .ok (.aload_n 0, 1) := by decide +kernel
theorem dX9_isCorner_6 : decode cX9_isCorner 6 = .ok (.getfield 30, 3) := by decide +kernel
theorem dX9_isCorner_9 : decode cX9_isCorner 9 = .ok (.if_icmp .ge 7, 3) := by decide +kernel
theorem dX9_isCorner_12 : decode cX9_isCorner 12 = .ok (.iconst 1, 1) := by decide +kernel
theorem dX9_isCorner_13 : decode cX9_isCorner 13 = .ok (.goto 4, 3) := by decide +kernel
theorem dX9_isCorner_16 : decode cX9_isCorner 16 = .ok (.iconst 0, 1) := by decide +kernel
theorem dX9_isCorner_17 : decode cX9_isCorner 17 = .ok (.ireturn, 1) := by decide +kernel
def fX9_isCorner (t : Nat) (a1 : Int) (M : jw_M) : Option Int :=
  if jw_tag t = 9 then (if a1 < 0 then (some 0) else (if a1 < M t 0 then (some 1) else (some 0))) else none
set_option maxRecDepth 100000 in
theorem rX9_isCorner (G : jw_G) (t : Nat) (a1 : Int) (ha1 : jw_r a1) (M : jw_M) : jw_Rn G YX9_isCorner 1 0 0 true (fun v => (v, M)) 0 [(0, jR G t), (1, jI a1)] [] M (fX9_isCorner t a1 M) := by
  unfold fX9_isCorner
  refine jw_ck (fun ht => ?_)
  refine jw_iload_n (pc := 0) 1 dX9_isCorner_0 rfl ?_
  refine jw_if_lt (pc := 1) 16 dX9_isCorner_1 (by decide) ha1 (fun _ => ?_) (fun _ => ?_)
  · refine jw_iconst (pc := 16) dX9_isCorner_16 ?_
    exact jw_ret (pc := 17) (v := 0) dX9_isCorner_17 (Or.inl rfl) rfl rfl
  · refine jw_iload_n (pc := 4) 1 dX9_isCorner_4 rfl ?_
    refine jw_aloadR (pc := 5) 0 dX9_isCorner_5 rfl ?_
    refine jw_getI (pc := 6) (j := 0) rfl dX9_isCorner_6 jv_9 ji_9 (Or.inl jt_94) ht (jn_9 ht) (by decide) (by decide) (jw_ho ht (by decide)) (Or.inl rfl) rfl (fun h1 => ?_)
    refine jw_ic_ge (pc := 9) 16 dX9_isCorner_9 (by decide) ha1 h1 (fun _ => ?_) (fun _ => ?_)
    · refine jw_iconst (pc := 12) dX9_isCorner_12 ?_
      refine jw_goto (pc := 13) 17 dX9_isCorner_13 (by decide) ?_
      exact jw_ret (pc := 17) (v := 1) dX9_isCorner_17 (Or.inr rfl) rfl rfl
    · refine jw_iconst (pc := 16) dX9_isCorner_16 ?_
      exact jw_ret (pc := 17) (v := 0) dX9_isCorner_17 (Or.inl rfl) rfl rfl
theorem kX9_isCorner (G : jw_G) (t : Nat) (a1 : Int) (ha1 : jw_r a1) (M : jw_M) : jw_Ct G YX9_isCorner (some .boolean) 1 0 0 true (fun v => (v, M)) yX9_isCorner [jR G t, jI a1] M (fX9_isCorner t a1 M) := jw_met (by decide) rfl rfl rfl (Nat.le_of_ble_eq_true rfl) (rX9_isCorner G t a1 ha1 M)
abbrev YX9_walkTo : jw_Y := (RX9, cX9_walkTo, 3, 1, "walkTo")
theorem qX9_walkTo : jw_cy YX9_walkTo (some .int) yX9_walkTo 2 := ⟨by decide, jt_739, jt_6, by decide, by decide +kernel⟩
theorem dX9_walkTo_0 : decode cX9_walkTo 0 = .ok (.aload_n 0, 1) := by decide +kernel
theorem dX9_walkTo_1 : decode cX9_walkTo 1 = .ok (.getfield 18, 3) := by decide +kernel
theorem dX9_walkTo_4 : decode cX9_walkTo 4 = .ok (.iload_n 1, 1) := by decide +kernel
theorem dX9_walkTo_5 : decode cX9_walkTo 5 = .ok (.bipush 7, 2) := by decide +kernel
theorem dX9_walkTo_7 : decode cX9_walkTo 7 = .ok (.imul, 1) := by decide +kernel
theorem dX9_walkTo_8 : decode cX9_walkTo 8 = .ok (.iload_n 2, 1) := by decide +kernel
theorem dX9_walkTo_9 : decode cX9_walkTo 9 = .ok (.iadd, 1) := by decide +kernel
theorem dX9_walkTo_10 : decode cX9_walkTo 10 = .ok (.iaload, 1) := by decide +kernel
theorem dX9_walkTo_11 : decode cX9_walkTo 11 = .ok (.ireturn, 1) := by decide +kernel
def fX9_walkTo (t : Nat) (a1 : Int) (a2 : Int) (M : jw_M) : Option Int :=
  if jw_tag t = 9 then (if 0 ≤ jw_w ((jw_w (a1 * 7)) + a2) ∧ jw_w ((jw_w (a1 * 7)) + a2) < 49 then some (M (t + 3) (jw_w ((jw_w (a1 * 7)) + a2))) else none) else none
set_option maxRecDepth 100000 in
theorem rX9_walkTo (G : jw_G) (t : Nat) (a1 : Int) (a2 : Int) (ha1 : jw_r a1) (ha2 : jw_r a2) (M : jw_M) : jw_Rn G YX9_walkTo 1 0 0 true (fun v => (v, M)) 0 [(0, jR G t), (1, jI a1), (2, jI a2)] [] M (fX9_walkTo t a1 a2 M) := by
  unfold fX9_walkTo
  refine jw_ck (fun ht => ?_)
  refine jw_aloadR (pc := 0) 0 dX9_walkTo_0 rfl ?_
  refine jw_getR (pc := 1) (j := 3) rfl dX9_walkTo_1 jv_9 ji_9 (Or.inl jt_103) ht (jn_9 ht) (by decide) (by decide) rfl (jf_9_3 ht).1 ?_
  refine jw_iload_n (pc := 4) 1 dX9_walkTo_4 rfl ?_
  refine jw_bipush (pc := 5) dX9_walkTo_5 rfl ?_
  refine jw_imul (pc := 7) dX9_walkTo_7 ?_
  refine jw_iload_n (pc := 8) 2 dX9_walkTo_8 rfl ?_
  refine jw_iadd (pc := 9) dX9_walkTo_9 ?_
  refine jw_iald (pc := 10) dX9_walkTo_10 (jf_9_3 ht).2.1 (jf_9_3 ht).2.2 (jw_ho (jf_9_3 ht).2.1 (by decide)) (jw_wr _) rfl (fun h1 => ?_)
  exact jw_ret (pc := 11) (v := M (t + 3) (jw_w ((jw_w (a1 * 7)) + a2))) dX9_walkTo_11 h1 rfl rfl
theorem kX9_walkTo (G : jw_G) (t : Nat) (a1 : Int) (a2 : Int) (ha1 : jw_r a1) (ha2 : jw_r a2) (M : jw_M) : jw_Ct G YX9_walkTo (some .int) 1 0 0 true (fun v => (v, M)) yX9_walkTo [jR G t, jI a1, jI a2] M (fX9_walkTo t a1 a2 M) := jw_met (by decide) rfl rfl rfl (Nat.le_of_ble_eq_true rfl) (rX9_walkTo G t a1 a2 ha1 ha2 M)
abbrev YX9_hearingTo : jw_Y := (RX9, cX9_hearingTo, 3, 1, "hearingTo")
theorem qX9_hearingTo : jw_cy YX9_hearingTo (some .int) yX9_hearingTo 2 := ⟨by decide, jt_743, jt_6, by decide, by decide +kernel⟩
theorem dX9_hearingTo_0 : decode cX9_hearingTo 0 = .ok (.aload_n 0, 1) := by decide +kernel
theorem dX9_hearingTo_1 : decode cX9_hearingTo 1 = .ok (.getfield 21, 3) := by decide +kernel
theorem dX9_hearingTo_4 : decode cX9_hearingTo 4 = .ok (.iload_n 1, 1) := by decide +kernel
theorem dX9_hearingTo_5 : decode cX9_hearingTo 5 = .ok (.bipush 7, 2) := by decide +kernel
theorem dX9_hearingTo_7 : decode cX9_hearingTo 7 = .ok (.imul, 1) := by decide +kernel
theorem dX9_hearingTo_8 : decode cX9_hearingTo 8 = .ok (.iload_n 2, 1) := by decide +kernel
theorem dX9_hearingTo_9 : decode cX9_hearingTo 9 = .ok (.iadd, 1) := by decide +kernel
theorem dX9_hearingTo_10 : decode cX9_hearingTo 10 = .ok (.iaload, 1) := by decide +kernel
theorem dX9_hearingTo_11 : decode cX9_hearingTo 11 = .ok (.ireturn, 1) := by decide +kernel
def fX9_hearingTo (t : Nat) (a1 : Int) (a2 : Int) (M : jw_M) : Option Int :=
  if jw_tag t = 9 then (if 0 ≤ jw_w ((jw_w (a1 * 7)) + a2) ∧ jw_w ((jw_w (a1 * 7)) + a2) < 49 then some (M (t + 4) (jw_w ((jw_w (a1 * 7)) + a2))) else none) else none
set_option maxRecDepth 100000 in
theorem rX9_hearingTo (G : jw_G) (t : Nat) (a1 : Int) (a2 : Int) (ha1 : jw_r a1) (ha2 : jw_r a2) (M : jw_M) : jw_Rn G YX9_hearingTo 1 0 0 true (fun v => (v, M)) 0 [(0, jR G t), (1, jI a1), (2, jI a2)] [] M (fX9_hearingTo t a1 a2 M) := by
  unfold fX9_hearingTo
  refine jw_ck (fun ht => ?_)
  refine jw_aloadR (pc := 0) 0 dX9_hearingTo_0 rfl ?_
  refine jw_getR (pc := 1) (j := 4) rfl dX9_hearingTo_1 jv_9 ji_9 (Or.inl jt_104) ht (jn_9 ht) (by decide) (by decide) rfl (jf_9_4 ht).1 ?_
  refine jw_iload_n (pc := 4) 1 dX9_hearingTo_4 rfl ?_
  refine jw_bipush (pc := 5) dX9_hearingTo_5 rfl ?_
  refine jw_imul (pc := 7) dX9_hearingTo_7 ?_
  refine jw_iload_n (pc := 8) 2 dX9_hearingTo_8 rfl ?_
  refine jw_iadd (pc := 9) dX9_hearingTo_9 ?_
  refine jw_iald (pc := 10) dX9_hearingTo_10 (jf_9_4 ht).2.1 (jf_9_4 ht).2.2 (jw_ho (jf_9_4 ht).2.1 (by decide)) (jw_wr _) rfl (fun h1 => ?_)
  exact jw_ret (pc := 11) (v := M (t + 4) (jw_w ((jw_w (a1 * 7)) + a2))) dX9_hearingTo_11 h1 rfl rfl
theorem kX9_hearingTo (G : jw_G) (t : Nat) (a1 : Int) (a2 : Int) (ha1 : jw_r a1) (ha2 : jw_r a2) (M : jw_M) : jw_Ct G YX9_hearingTo (some .int) 1 0 0 true (fun v => (v, M)) yX9_hearingTo [jR G t, jI a1, jI a2] M (fX9_hearingTo t a1 a2 M) := jw_met (by decide) rfl rfl rfl (Nat.le_of_ble_eq_true rfl) (rX9_hearingTo G t a1 a2 ha1 ha2 M)
abbrev YX9_minutesToPass : jw_Y := (RX9, cX9_minutesToPass, 2, 1, "minutesToPass")
theorem qX9_minutesToPass : jw_cy YX9_minutesToPass (some .int) yX9_minutesToPass 1 := ⟨by decide, jt_557, jt_6, by decide, by decide +kernel⟩
theorem dX9_minutesToPass_0 : decode cX9_minutesToPass 0 = .ok (.aload_n 0, 1) := by decide +kernel
theorem dX9_minutesToPass_1 : decode cX9_minutesToPass 1 = .ok (.getfield 53, 3) := by decide +kernel
theorem dX9_minutesToPass_4 : decode cX9_minutesToPass 4 = .ok (.iconst 1, 1) := by decide +kernel
theorem dX9_minutesToPass_5 : decode cX9_minutesToPass 5 = .ok (.if_icmp .ge 8, 3) := by decide +kernel
theorem dX9_minutesToPass_8 : decode cX9_minutesToPass 8 = .ok (.ldc 71, 2) := by decide +kernel
theorem dX9_minutesToPass_10 : decode cX9_minutesToPass 10 = .ok (.goto 16, 3) := by decide +kernel
theorem dX9_minutesToPass_13 : decode cX9_minutesToPass 13 = .ok (.iload_n 1, 1) := by decide +kernel
theorem dX9_minutesToPass_14 : decode cX9_minutesToPass 14 = .ok (.aload_n 0, 1) := by decide +kernel
theorem dX9_minutesToPass_15 : decode cX9_minutesToPass 15 = .ok (.getfield 53, 3) := by decide +kernel
theorem dX9_minutesToPass_18 : decode cX9_minutesToPass 18 = .ok (.iadd, 1) := by decide +kernel
theorem dX9_minutesToPass_19 : decode cX9_minutesToPass 19 = .ok (.iconst 1, 1) := by decide +kernel
theorem dX9_minutesToPass_20 : decode cX9_minutesToPass 20 = .ok (.isub, 1) := by decide +kernel
theorem dX9_minutesToPass_21 : decode cX9_minutesToPass 21 = .ok (.aload_n 0, 1) := by decide +kernel
theorem dX9_minutesToPass_22 : decode cX9_minutesToPass 22 = .ok (.getfield 53, 3) := by decide +kernel
theorem dX9_minutesToPass_25 : decode cX9_minutesToPass 25 = .ok (.idiv, 1) := by decide +kernel
theorem dX9_minutesToPass_26 : decode cX9_minutesToPass 26 = .ok (.ireturn, 1) := by decide +kernel
def fX9_minutesToPass (t : Nat) (a1 : Int) (M : jw_M) : Option Int :=
  if jw_tag t = 9 then (if M t 10 < 1 then (some 1000000) else (if M t 10 ≠ 0 then some (jw_w (Int.tdiv (jw_w ((jw_w (a1 + (M t 10))) - 1)) (M t 10))) else none)) else none
set_option maxRecDepth 100000 in
theorem rX9_minutesToPass (G : jw_G) (t : Nat) (a1 : Int) (ha1 : jw_r a1) (M : jw_M) : jw_Rn G YX9_minutesToPass 1 0 0 true (fun v => (v, M)) 0 [(0, jR G t), (1, jI a1)] [] M (fX9_minutesToPass t a1 M) := by
  unfold fX9_minutesToPass
  refine jw_ck (fun ht => ?_)
  refine jw_aloadR (pc := 0) 0 dX9_minutesToPass_0 rfl ?_
  refine jw_getI (pc := 1) (j := 10) rfl dX9_minutesToPass_1 jv_9 ji_9 (Or.inl jt_116) ht (jn_9 ht) (by decide) (by decide) (jw_ho ht (by decide)) (Or.inl rfl) rfl (fun h1 => ?_)
  refine jw_iconst (pc := 4) dX9_minutesToPass_4 ?_
  refine jw_ic_ge (pc := 5) 13 dX9_minutesToPass_5 (by decide) h1 (jw_rc _ rfl) (fun _ => ?_) (fun _ => ?_)
  · refine jw_ldc (pc := 8) (n := 1000000) dX9_minutesToPass_8 jt_553 (by decide) ?_
    refine jw_goto (pc := 10) 26 dX9_minutesToPass_10 (by decide) ?_
    exact jw_ret (pc := 26) (v := 1000000) dX9_minutesToPass_26 (jw_rc _ rfl) rfl rfl
  · refine jw_iload_n (pc := 13) 1 dX9_minutesToPass_13 rfl ?_
    refine jw_aloadR (pc := 14) 0 dX9_minutesToPass_14 rfl ?_
    refine jw_getI (pc := 15) (j := 10) rfl dX9_minutesToPass_15 jv_9 ji_9 (Or.inl jt_116) ht (jn_9 ht) (by decide) (by decide) (jw_ho ht (by decide)) (Or.inl rfl) rfl (fun h2 => ?_)
    refine jw_iadd (pc := 18) dX9_minutesToPass_18 ?_
    refine jw_iconst (pc := 19) dX9_minutesToPass_19 ?_
    refine jw_isub (pc := 20) dX9_minutesToPass_20 ?_
    refine jw_aloadR (pc := 21) 0 dX9_minutesToPass_21 rfl ?_
    refine jw_getI (pc := 22) (j := 10) rfl dX9_minutesToPass_22 jv_9 ji_9 (Or.inl jt_116) ht (jn_9 ht) (by decide) (by decide) (jw_ho ht (by decide)) (Or.inl rfl) rfl (fun h3 => ?_)
    refine jw_idiv (pc := 25) dX9_minutesToPass_25 (jw_wr _) h3 ?_
    exact jw_ret (pc := 26) (v := jw_w (Int.tdiv (jw_w ((jw_w (a1 + (M t 10))) - 1)) (M t 10))) dX9_minutesToPass_26 (jw_wr _) rfl rfl
theorem kX9_minutesToPass (G : jw_G) (t : Nat) (a1 : Int) (ha1 : jw_r a1) (M : jw_M) : jw_Ct G YX9_minutesToPass (some .int) 1 0 0 true (fun v => (v, M)) yX9_minutesToPass [jR G t, jI a1] M (fX9_minutesToPass t a1 M) := jw_met (by decide) rfl rfl rfl (Nat.le_of_ble_eq_true rfl) (rX9_minutesToPass G t a1 ha1 M)
abbrev YX9_shorten : jw_Y := (RX9, cX9_shorten, 6, 0, "shorten")
theorem qX9_shorten : jw_cy YX9_shorten none yX9_shorten 1 := ⟨by decide, jt_561, jt_6, by decide, by decide +kernel⟩
theorem dX9_shorten_0 : decode cX9_shorten 0 = .ok (.iconst 0, 1) := by decide +kernel
theorem dX9_shorten_1 : decode cX9_shorten 1 = .ok (.istore_n 2, 1) := by decide +kernel
theorem dX9_shorten_2 : decode cX9_shorten 2 = .ok (.iload_n 2, 1) := by decide +kernel
theorem dX9_shorten_3 : decode cX9_shorten 3 = .ok (.aload_n 0, 1) := by decide +kernel
theorem dX9_shorten_4 : decode cX9_shorten 4 = .ok (.getfield 30, 3) := by decide +kernel
theorem dX9_shorten_7 : decode cX9_shorten 7 = .ok (.if_icmp .ge 88, 3) := by decide +kernel
theorem dX9_shorten_10 : decode cX9_shorten 10 = .ok (.iconst 0, 1) := by decide +kernel
theorem dX9_shorten_11 : decode cX9_shorten 11 = .ok (.istore_n 3, 1) := by decide +kernel
theorem dX9_shorten_12 : decode cX9_shorten 12 = .ok (.iload_n 3, 1) := by decide +kernel
theorem dX9_shorten_13 : decode cX9_shorten 13 = .ok (.aload_n 0, 1) := by decide +kernel
theorem dX9_shorten_14 : decode cX9_shorten 14 = .ok (.getfield 30, 3) := by decide +kernel
theorem dX9_shorten_17 : decode cX9_shorten 17 = .ok (.if_icmp .ge 72, 3) := by decide +kernel
theorem dX9_shorten_20 : decode cX9_shorten 20 = .ok (.iconst 0, 1) := by decide +kernel
theorem dX9_shorten_21 : decode cX9_shorten 21 = .ok (.istore 4, 2) := by decide +kernel
theorem dX9_shorten_23 : decode cX9_shorten 23 = .ok (.iload 4, 2) := by decide +kernel
theorem dX9_shorten_25 : decode cX9_shorten 25 = .ok (.aload_n 0, 1) := by decide +kernel
theorem dX9_shorten_26 : decode cX9_shorten 26 = .ok (.getfield 30, 3) := by decide +kernel
theorem dX9_shorten_29 : decode cX9_shorten 29 = .ok (.if_icmp .ge 54, 3) := by decide +kernel
theorem dX9_shorten_32 : decode cX9_shorten 32 = .ok (.aload_n 1, 1) := by decide +kernel
theorem dX9_shorten_33 : decode cX9_shorten 33 = .ok (.iload_n 3, 1) := by decide +kernel
theorem dX9_shorten_34 : decode cX9_shorten 34 = .ok (.bipush 7, 2) := by decide +kernel
theorem dX9_shorten_36 : decode cX9_shorten 36 = .ok (.imul, 1) := by decide +kernel
theorem dX9_shorten_37 : decode cX9_shorten 37 = .ok (.iload_n 2, 1) := by decide +kernel
theorem dX9_shorten_38 : decode cX9_shorten 38 = .ok (.iadd, 1) := by decide +kernel
theorem dX9_shorten_39 : decode cX9_shorten 39 = .ok (.iaload, 1) := by decide +kernel
theorem dX9_shorten_40 : decode cX9_shorten 40 = .ok (.aload_n 1, 1) := by decide +kernel
theorem dX9_shorten_41 : decode cX9_shorten 41 = .ok (.iload_n 2, 1) := by decide +kernel
theorem dX9_shorten_42 : decode cX9_shorten 42 = .ok (.bipush 7, 2) := by decide +kernel
theorem dX9_shorten_44 : decode cX9_shorten 44 = .ok (.imul, 1) := by decide +kernel
theorem dX9_shorten_45 : decode cX9_shorten 45 = .ok (.iload 4, 2) := by decide +kernel
theorem dX9_shorten_47 : decode cX9_shorten 47 = .ok (.iadd, 1) := by decide +kernel
theorem dX9_shorten_48 : decode cX9_shorten 48 = .ok (.iaload, 1) := by decide +kernel
theorem dX9_shorten_49 : decode cX9_shorten 49 = .ok (.iadd, 1) := by decide +kernel
theorem dX9_shorten_50 : decode cX9_shorten 50 = .ok (.istore 5, 2) := by decide +kernel
theorem dX9_shorten_52 : decode cX9_shorten 52 = .ok (.iload 5, 2) := by decide +kernel
theorem dX9_shorten_54 : decode cX9_shorten 54 = .ok (.aload_n 1, 1) := by decide +kernel
theorem dX9_shorten_55 : decode cX9_shorten 55 = .ok (.iload_n 3, 1) := by decide +kernel
theorem dX9_shorten_56 : decode cX9_shorten 56 = .ok (.bipush 7, 2) := by decide +kernel
theorem dX9_shorten_58 : decode cX9_shorten 58 = .ok (.imul, 1) := by decide +kernel
theorem dX9_shorten_59 : decode cX9_shorten 59 = .ok (.iload 4, 2) := by decide +kernel
theorem dX9_shorten_61 : decode cX9_shorten 61 = .ok (.iadd, 1) := by decide +kernel
theorem dX9_shorten_62 : decode cX9_shorten 62 = .ok (.iaload, 1) := by decide +kernel
theorem dX9_shorten_63 : decode cX9_shorten 63 = .ok (.if_icmp .ge 14, 3) := by decide +kernel
theorem dX9_shorten_66 : decode cX9_shorten 66 = .ok (.aload_n 1, 1) := by decide +kernel
theorem dX9_shorten_67 : decode cX9_shorten 67 = .ok (.iload_n 3, 1) := by decide +kernel
theorem dX9_shorten_68 : decode cX9_shorten 68 = .ok (.bipush 7, 2) := by decide +kernel
theorem dX9_shorten_70 : decode cX9_shorten 70 = .ok (.imul, 1) := by decide +kernel
theorem dX9_shorten_71 : decode cX9_shorten 71 = .ok (.iload 4, 2) := by decide +kernel
theorem dX9_shorten_73 : decode cX9_shorten 73 = .ok (.iadd, 1) := by decide +kernel
theorem dX9_shorten_74 : decode cX9_shorten 74 = .ok (.iload 5, 2) := by decide +kernel
theorem dX9_shorten_76 : decode cX9_shorten 76 = .ok (.iastore, 1) := by decide +kernel
theorem dX9_shorten_77 : decode cX9_shorten 77 = .ok (.iinc 4 1, 3) := by decide +kernel
theorem dX9_shorten_80 : decode cX9_shorten 80 = .ok (.goto (-57), 3) := by decide +kernel
theorem dX9_shorten_83 : decode cX9_shorten 83 = .ok (.iinc 3 1, 3) := by decide +kernel
theorem dX9_shorten_86 : decode cX9_shorten 86 = .ok (.goto (-74), 3) := by decide +kernel
theorem dX9_shorten_89 : decode cX9_shorten 89 = .ok (.iinc 2 1, 3) := by decide +kernel
theorem dX9_shorten_92 : decode cX9_shorten 92 = .ok (.goto (-90), 3) := by decide +kernel
theorem dX9_shorten_95 : decode cX9_shorten 95 = .ok (.return_, 1) := by decide +kernel
def fX9_shorten_77 (t : Nat) (a1 : Nat) (r2 : Int → jw_M → Option jw_M) (r12 : Int → Int → jw_M → Option jw_M) (r23 : Int → Int → Int → jw_M → Option jw_M) (x2 : Int) (x3 : Int) (x4 : Int) (M : jw_M) : Option jw_M :=
  Option.bind (some (jw_w (x4 + 1))) (fun v12 => r23 x2 x3 v12 M)
set_option maxRecDepth 100000 in
theorem pX9_shorten_77 (G : jw_G) (t : Nat) (a1 : Nat) (ht : jw_tag t = 9) (ha1 : jw_tag a1 = 20) (r2 : Int → jw_M → Option jw_M) (r12 : Int → Int → jw_M → Option jw_M) (r23 : Int → Int → Int → jw_M → Option jw_M) (hr2 : ∀ (x2 : Int) (hx2 : jw_r x2) (M : jw_M), jw_Rn G YX9_shorten 1 0 0 true (fun M1 => (0, M1)) 2 [(0, jR G t), (1, jR G a1), (2, jI x2)] [] M (r2 x2 M)) (hr12 : ∀ (x2 : Int) (x3 : Int) (hx2 : jw_r x2) (hx3 : jw_r x3) (M : jw_M), jw_Rn G YX9_shorten 1 0 0 true (fun M1 => (0, M1)) 12 [(0, jR G t), (1, jR G a1), (2, jI x2), (3, jI x3)] [] M (r12 x2 x3 M)) (hr23 : ∀ (x2 : Int) (x3 : Int) (x4 : Int) (hx2 : jw_r x2) (hx3 : jw_r x3) (hx4 : jw_r x4) (M : jw_M), jw_Rn G YX9_shorten 1 0 0 true (fun M1 => (0, M1)) 23 [(0, jR G t), (1, jR G a1), (2, jI x2), (3, jI x3), (4, jI x4)] [] M (r23 x2 x3 x4 M)) : ∀ (x2 : Int) (x3 : Int) (x4 : Int) (hx2 : jw_r x2) (hx3 : jw_r x3) (hx4 : jw_r x4) (M : jw_M), jw_Rn G YX9_shorten 1 0 0 true (fun M1 => (0, M1)) 77 [(0, jR G t), (1, jR G a1), (2, jI x2), (3, jI x3), (4, jI x4)] [] M (fX9_shorten_77 t a1 r2 r12 r23 x2 x3 x4 M) := by
  intro x2 x3 x4 hx2 hx3 hx4 M
  unfold fX9_shorten_77
  refine jw_iincL (pc := 77) 4 (lv' := (fun y => [(4, y), (0, jR G t), (1, jR G a1), (2, jI x2), (3, jI x3)])) dX9_shorten_77 rfl (Nat.le_of_ble_eq_true rfl) (fun _ => rfl) (fun v12 hv12 => ?_)
  refine jw_goto (pc := 80) 23 dX9_shorten_80 (by decide) ?_
  exact jw_few [1, 2, 3, 4, 0] rfl (hr23 x2 x3 v12 hx2 hx3 hv12 M)
def fX9_shorten_23 (t : Nat) (a1 : Nat) (r2 : Int → jw_M → Option jw_M) (r12 : Int → Int → jw_M → Option jw_M) : Nat → Int → Int → Int → jw_M → Option jw_M
  | 0, _, _, _, _ => none
  | k + 1, x2, x3, x4, M => if x4 < M t 0 then (if 0 ≤ jw_w ((jw_w (x3 * 7)) + x2) ∧ jw_w ((jw_w (x3 * 7)) + x2) < (jw_len a1 : Int) then if 0 ≤ jw_w ((jw_w (x2 * 7)) + x4) ∧ jw_w ((jw_w (x2 * 7)) + x4) < (jw_len a1 : Int) then Option.bind (some (jw_w ((M a1 (jw_w ((jw_w (x3 * 7)) + x2))) + (M a1 (jw_w ((jw_w (x2 * 7)) + x4)))))) (fun v9 => if 0 ≤ jw_w ((jw_w (x3 * 7)) + x4) ∧ jw_w ((jw_w (x3 * 7)) + x4) < (jw_len a1 : Int) then if v9 < M a1 (jw_w ((jw_w (x3 * 7)) + x4)) then (if 0 ≤ jw_w ((jw_w (x3 * 7)) + x4) ∧ jw_w ((jw_w (x3 * 7)) + x4) < (jw_len a1 : Int) then Option.bind (some (jw_up M a1 (jw_w ((jw_w (x3 * 7)) + x4)) v9)) (fun M11 => fX9_shorten_77 t a1 r2 r12 (fX9_shorten_23 t a1 r2 r12 k) x2 x3 x4 M11) else none) else (fX9_shorten_77 t a1 r2 r12 (fX9_shorten_23 t a1 r2 r12 k) x2 x3 x4 M) else none) else none else none) else (Option.bind (some (jw_w (x3 + 1))) (fun v13 => r12 x2 v13 M))
set_option maxRecDepth 100000 in
theorem pX9_shorten_23 (G : jw_G) (t : Nat) (a1 : Nat) (ht : jw_tag t = 9) (ha1 : jw_tag a1 = 20) (r2 : Int → jw_M → Option jw_M) (r12 : Int → Int → jw_M → Option jw_M) (hr2 : ∀ (x2 : Int) (hx2 : jw_r x2) (M : jw_M), jw_Rn G YX9_shorten 1 0 0 true (fun M1 => (0, M1)) 2 [(0, jR G t), (1, jR G a1), (2, jI x2)] [] M (r2 x2 M)) (hr12 : ∀ (x2 : Int) (x3 : Int) (hx2 : jw_r x2) (hx3 : jw_r x3) (M : jw_M), jw_Rn G YX9_shorten 1 0 0 true (fun M1 => (0, M1)) 12 [(0, jR G t), (1, jR G a1), (2, jI x2), (3, jI x3)] [] M (r12 x2 x3 M)) : ∀ (k : Nat) (x2 : Int) (x3 : Int) (x4 : Int) (hx2 : jw_r x2) (hx3 : jw_r x3) (hx4 : jw_r x4) (M : jw_M), jw_Rn G YX9_shorten 1 0 0 true (fun M1 => (0, M1)) 23 [(0, jR G t), (1, jR G a1), (2, jI x2), (3, jI x3), (4, jI x4)] [] M (fX9_shorten_23 t a1 r2 r12 k x2 x3 x4 M) := by
  intro k
  induction k with
  | zero =>
    intro x2 x3 x4 hx2 hx3 hx4 M
    exact jw_none
  | succ k ih =>
    intro x2 x3 x4 hx2 hx3 hx4 M
    rw [fX9_shorten_23]
    refine jw_iload (pc := 23) 4 dX9_shorten_23 rfl ?_
    refine jw_aloadR (pc := 25) 0 dX9_shorten_25 rfl ?_
    refine jw_getI (pc := 26) (j := 0) rfl dX9_shorten_26 jv_9 ji_9 (Or.inl jt_94) ht (jn_9 ht) (by decide) (by decide) (jw_ho ht (by decide)) (Or.inl rfl) rfl (fun h6 => ?_)
    refine jw_ic_ge (pc := 29) 83 dX9_shorten_29 (by decide) hx4 h6 (fun _ => ?_) (fun _ => ?_)
    · refine jw_aloadR (pc := 32) 1 dX9_shorten_32 rfl ?_
      refine jw_iload_n (pc := 33) 3 dX9_shorten_33 rfl ?_
      refine jw_bipush (pc := 34) dX9_shorten_34 rfl ?_
      refine jw_imul (pc := 36) dX9_shorten_36 ?_
      refine jw_iload_n (pc := 37) 2 dX9_shorten_37 rfl ?_
      refine jw_iadd (pc := 38) dX9_shorten_38 ?_
      refine jw_iald (pc := 39) dX9_shorten_39 ha1 rfl (jw_ho ha1 (by decide)) (jw_wr _) rfl (fun h7 => ?_)
      refine jw_aloadR (pc := 40) 1 dX9_shorten_40 rfl ?_
      refine jw_iload_n (pc := 41) 2 dX9_shorten_41 rfl ?_
      refine jw_bipush (pc := 42) dX9_shorten_42 rfl ?_
      refine jw_imul (pc := 44) dX9_shorten_44 ?_
      refine jw_iload (pc := 45) 4 dX9_shorten_45 rfl ?_
      refine jw_iadd (pc := 47) dX9_shorten_47 ?_
      refine jw_iald (pc := 48) dX9_shorten_48 ha1 rfl (jw_ho ha1 (by decide)) (jw_wr _) rfl (fun h8 => ?_)
      refine jw_iadd (pc := 49) dX9_shorten_49 ?_
      refine jw_istoreL (pc := 50) (lv' := (fun y => [(5, y), (0, jR G t), (1, jR G a1), (2, jI x2), (3, jI x3), (4, jI x4)])) dX9_shorten_50 (jw_wr _) (by decide) (fun _ => rfl) (fun v9 hv9 => ?_)
      refine jw_iload (pc := 52) 0 dX9_shorten_52 rfl ?_
      refine jw_aloadR (pc := 54) 2 dX9_shorten_54 rfl ?_
      refine jw_iload_n (pc := 55) 4 dX9_shorten_55 rfl ?_
      refine jw_bipush (pc := 56) dX9_shorten_56 rfl ?_
      refine jw_imul (pc := 58) dX9_shorten_58 ?_
      refine jw_iload (pc := 59) 5 dX9_shorten_59 rfl ?_
      refine jw_iadd (pc := 61) dX9_shorten_61 ?_
      refine jw_iald (pc := 62) dX9_shorten_62 ha1 rfl (jw_ho ha1 (by decide)) (jw_wr _) rfl (fun h10 => ?_)
      refine jw_ic_ge (pc := 63) 77 dX9_shorten_63 (by decide) hv9 h10 (fun _ => ?_) (fun _ => ?_)
      · refine jw_aloadR (pc := 66) 2 dX9_shorten_66 rfl ?_
        refine jw_iload_n (pc := 67) 4 dX9_shorten_67 rfl ?_
        refine jw_bipush (pc := 68) dX9_shorten_68 rfl ?_
        refine jw_imul (pc := 70) dX9_shorten_70 ?_
        refine jw_iload (pc := 71) 5 dX9_shorten_71 rfl ?_
        refine jw_iadd (pc := 73) dX9_shorten_73 ?_
        refine jw_iload (pc := 74) 0 dX9_shorten_74 rfl ?_
        refine jw_iast (pc := 76) dX9_shorten_76 ha1 rfl (jw_ho ha1 (by decide)) (jw_wr _) hv9 rfl ?_
        refine jw_letM (fun M11 => ?_)
        exact jw_few [1, 2, 3, 4, 5] rfl (pX9_shorten_77 G t a1 ht ha1 r2 r12 (fX9_shorten_23 t a1 r2 r12 k) hr2 hr12 ih x2 x3 x4 hx2 hx3 hx4 M11)
      · exact jw_few [1, 2, 3, 4, 5] rfl (pX9_shorten_77 G t a1 ht ha1 r2 r12 (fX9_shorten_23 t a1 r2 r12 k) hr2 hr12 ih x2 x3 x4 hx2 hx3 hx4 M)
    · refine jw_iincL (pc := 83) 3 (lv' := (fun y => [(3, y), (0, jR G t), (1, jR G a1), (2, jI x2), (4, jI x4)])) dX9_shorten_83 rfl (Nat.le_of_ble_eq_true rfl) (fun _ => rfl) (fun v13 hv13 => ?_)
      refine jw_goto (pc := 86) 12 dX9_shorten_86 (by decide) ?_
      exact jw_few [1, 2, 3, 0] rfl (hr12 x2 v13 hx2 hv13 M)
def fX9_shorten_12 (t : Nat) (a1 : Nat) (r2 : Int → jw_M → Option jw_M) : Nat → Int → Int → jw_M → Option jw_M
  | 0, _, _, _ => none
  | k + 1, x2, x3, M => if x3 < M t 0 then (Option.bind (some 0) (fun v5 => fX9_shorten_23 t a1 r2 (fX9_shorten_12 t a1 r2 k) jw_fu x2 x3 v5 M)) else (Option.bind (some (jw_w (x2 + 1))) (fun v14 => r2 v14 M))
set_option maxRecDepth 100000 in
theorem pX9_shorten_12 (G : jw_G) (t : Nat) (a1 : Nat) (ht : jw_tag t = 9) (ha1 : jw_tag a1 = 20) (r2 : Int → jw_M → Option jw_M) (hr2 : ∀ (x2 : Int) (hx2 : jw_r x2) (M : jw_M), jw_Rn G YX9_shorten 1 0 0 true (fun M1 => (0, M1)) 2 [(0, jR G t), (1, jR G a1), (2, jI x2)] [] M (r2 x2 M)) : ∀ (k : Nat) (x2 : Int) (x3 : Int) (hx2 : jw_r x2) (hx3 : jw_r x3) (M : jw_M), jw_Rn G YX9_shorten 1 0 0 true (fun M1 => (0, M1)) 12 [(0, jR G t), (1, jR G a1), (2, jI x2), (3, jI x3)] [] M (fX9_shorten_12 t a1 r2 k x2 x3 M) := by
  intro k
  induction k with
  | zero =>
    intro x2 x3 hx2 hx3 M
    exact jw_none
  | succ k ih =>
    intro x2 x3 hx2 hx3 M
    rw [fX9_shorten_12]
    refine jw_iload_n (pc := 12) 3 dX9_shorten_12 rfl ?_
    refine jw_aloadR (pc := 13) 0 dX9_shorten_13 rfl ?_
    refine jw_getI (pc := 14) (j := 0) rfl dX9_shorten_14 jv_9 ji_9 (Or.inl jt_94) ht (jn_9 ht) (by decide) (by decide) (jw_ho ht (by decide)) (Or.inl rfl) rfl (fun h4 => ?_)
    refine jw_ic_ge (pc := 17) 89 dX9_shorten_17 (by decide) hx3 h4 (fun _ => ?_) (fun _ => ?_)
    · refine jw_iconst (pc := 20) dX9_shorten_20 ?_
      refine jw_istoreL (pc := 21) (lv' := (fun y => [(4, y), (0, jR G t), (1, jR G a1), (2, jI x2), (3, jI x3)])) dX9_shorten_21 (jw_rc _ rfl) (by decide) (fun _ => rfl) (fun v5 hv5 => ?_)
      exact jw_few [1, 2, 3, 4, 0] rfl (pX9_shorten_23 G t a1 ht ha1 r2 (fX9_shorten_12 t a1 r2 k) hr2 ih jw_fu x2 x3 v5 hx2 hx3 hv5 M)
    · refine jw_iincL (pc := 89) 2 (lv' := (fun y => [(2, y), (0, jR G t), (1, jR G a1), (3, jI x3)])) dX9_shorten_89 rfl (Nat.le_of_ble_eq_true rfl) (fun _ => rfl) (fun v14 hv14 => ?_)
      refine jw_goto (pc := 92) 2 dX9_shorten_92 (by decide) ?_
      exact jw_few [1, 2, 0] rfl (hr2 v14 hv14 M)
def fX9_shorten_2 (t : Nat) (a1 : Nat) : Nat → Int → jw_M → Option jw_M
  | 0, _, _ => none
  | k + 1, x2, M => if x2 < M t 0 then (Option.bind (some 0) (fun v3 => fX9_shorten_12 t a1 (fX9_shorten_2 t a1 k) jw_fu x2 v3 M)) else (some M)
set_option maxRecDepth 100000 in
theorem pX9_shorten_2 (G : jw_G) (t : Nat) (a1 : Nat) (ht : jw_tag t = 9) (ha1 : jw_tag a1 = 20) : ∀ (k : Nat) (x2 : Int) (hx2 : jw_r x2) (M : jw_M), jw_Rn G YX9_shorten 1 0 0 true (fun M1 => (0, M1)) 2 [(0, jR G t), (1, jR G a1), (2, jI x2)] [] M (fX9_shorten_2 t a1 k x2 M) := by
  intro k
  induction k with
  | zero =>
    intro x2 hx2 M
    exact jw_none
  | succ k ih =>
    intro x2 hx2 M
    rw [fX9_shorten_2]
    refine jw_iload_n (pc := 2) 2 dX9_shorten_2 rfl ?_
    refine jw_aloadR (pc := 3) 0 dX9_shorten_3 rfl ?_
    refine jw_getI (pc := 4) (j := 0) rfl dX9_shorten_4 jv_9 ji_9 (Or.inl jt_94) ht (jn_9 ht) (by decide) (by decide) (jw_ho ht (by decide)) (Or.inl rfl) rfl (fun h2 => ?_)
    refine jw_ic_ge (pc := 7) 95 dX9_shorten_7 (by decide) hx2 h2 (fun _ => ?_) (fun _ => ?_)
    · refine jw_iconst (pc := 10) dX9_shorten_10 ?_
      refine jw_istore_nL (pc := 11) (lv' := (fun y => [(3, y), (0, jR G t), (1, jR G a1), (2, jI x2)])) dX9_shorten_11 (jw_rc _ rfl) (by decide) (fun _ => rfl) (fun v3 hv3 => ?_)
      exact jw_few [1, 2, 3, 0] rfl (pX9_shorten_12 G t a1 ht ha1 (fX9_shorten_2 t a1 k) ih jw_fu x2 v3 hx2 hv3 M)
    · exact jw_ret (pc := 95) (v := 0) dX9_shorten_95 trivial rfl rfl
def fX9_shorten (t : Nat) (a1 : Nat) (M : jw_M) : Option jw_M :=
  if jw_tag t = 9 then (if jw_tag a1 = 20 then (Option.bind (some 0) (fun v1 => fX9_shorten_2 t a1 jw_fu v1 M)) else none) else none
set_option maxRecDepth 100000 in
theorem rX9_shorten (G : jw_G) (t : Nat) (a1 : Nat) (M : jw_M) : jw_Rn G YX9_shorten 1 0 0 true (fun M1 => (0, M1)) 0 [(0, jR G t), (1, jR G a1)] [] M (fX9_shorten t a1 M) := by
  unfold fX9_shorten
  refine jw_ck (fun ht => ?_)
  refine jw_ck (fun ha1 => ?_)
  refine jw_iconst (pc := 0) dX9_shorten_0 ?_
  refine jw_istore_nL (pc := 1) (lv' := (fun y => [(2, y), (0, jR G t), (1, jR G a1)])) dX9_shorten_1 (jw_rc _ rfl) (by decide) (fun _ => rfl) (fun v1 hv1 => ?_)
  exact jw_few [1, 2, 0] rfl (pX9_shorten_2 G t a1 ht ha1 jw_fu v1 hv1 M)
theorem kX9_shorten (G : jw_G) (t : Nat) (a1 : Nat) (M : jw_M) : jw_Ct G YX9_shorten none 1 0 0 true (fun M1 => (0, M1)) yX9_shorten [jR G t, jR G a1] M (fX9_shorten t a1 M) := jw_met (by decide) rfl rfl rfl (Nat.le_of_ble_eq_true rfl) (rX9_shorten G t a1 M)
abbrev YX9_measure : jw_Y := (RX9, cX9_measure, 5, 0, "measure")
theorem qX9_measure : jw_cy YX9_measure none yX9_measure 0 := ⟨by decide, jt_552, jt_6, by decide, by decide +kernel⟩
theorem dX9_measure_0 : decode cX9_measure 0 = .ok (.iconst 0, 1) := by decide +kernel
theorem dX9_measure_1 : decode cX9_measure 1 = .ok (.istore_n 1, 1) := by decide +kernel
theorem dX9_measure_2 : decode cX9_measure 2 = .ok (.iload_n 1, 1) := by decide +kernel
theorem dX9_measure_3 : decode cX9_measure 3 = .ok (.aload_n 0, 1) := by decide +kernel
theorem dX9_measure_4 : decode cX9_measure 4 = .ok (.getfield 30, 3) := by decide +kernel
theorem dX9_measure_7 : decode cX9_measure 7 = .ok (.if_icmp .ge 102, 3) := by decide +kernel
theorem dX9_measure_10 : decode cX9_measure 10 = .ok (.iconst 0, 1) := by decide +kernel
theorem dX9_measure_11 : decode cX9_measure 11 = .ok (.istore_n 2, 1) := by decide +kernel
theorem dX9_measure_12 : decode cX9_measure 12 = .ok (.iload_n 2, 1) := by decide +kernel
theorem dX9_measure_13 : decode cX9_measure 13 = .ok (.aload_n 0, 1) := by decide +kernel
theorem dX9_measure_14 : decode cX9_measure 14 = .ok (.getfield 30, 3) := by decide +kernel
theorem dX9_measure_17 : decode cX9_measure 17 = .ok (.if_icmp .ge 86, 3) := by decide +kernel
theorem dX9_measure_20 : decode cX9_measure 20 = .ok (.iload_n 1, 1) := by decide +kernel
theorem dX9_measure_21 : decode cX9_measure 21 = .ok (.bipush 7, 2) := by decide +kernel
theorem dX9_measure_23 : decode cX9_measure 23 = .ok (.imul, 1) := by decide +kernel
theorem dX9_measure_24 : decode cX9_measure 24 = .ok (.iload_n 2, 1) := by decide +kernel
theorem dX9_measure_25 : decode cX9_measure 25 = .ok (.iadd, 1) := by decide +kernel
theorem dX9_measure_26 : decode cX9_measure 26 = .ok (.istore_n 3, 1) := by decide +kernel
theorem dX9_measure_27 : decode cX9_measure 27 = .ok (.aload_n 0, 1) := by decide +kernel
theorem dX9_measure_28 : decode cX9_measure 28 = .ok (.getfield 15, 3) := by decide +kernel
theorem dX9_measure_31 : decode cX9_measure 31 = .ok (.iload_n 3, 1) := by decide +kernel
theorem dX9_measure_32 : decode cX9_measure 32 = .ok (.iaload, 1) := by decide +kernel
theorem dX9_measure_33 : decode cX9_measure 33 = .ok (.istore 4, 2) := by decide +kernel
theorem dX9_measure_35 : decode cX9_measure 35 = .ok (.iload_n 1, 1) := by decide +kernel
theorem dX9_measure_36 : decode cX9_measure 36 = .ok (.iload_n 2, 1) := by decide +kernel
theorem dX9_measure_37 : decode cX9_measure 37 = .ok (.if_icmp .ne 20, 3) := by decide +kernel
theorem dX9_measure_40 : decode cX9_measure 40 = .ok (.aload_n 0, 1) := by decide +kernel
theorem dX9_measure_41 : decode cX9_measure 41 = .ok (.getfield 18, 3) := by decide +kernel
theorem dX9_measure_44 : decode cX9_measure 44 = .ok (.iload_n 3, 1) := by decide +kernel
theorem dX9_measure_45 : decode cX9_measure 45 = .ok (.iconst 0, 1) := by decide +kernel
theorem dX9_measure_46 : decode cX9_measure 46 = .ok (.iastore, 1) := by decide +kernel
theorem dX9_measure_47 : decode cX9_measure 47 = .ok (.aload_n 0, 1) := by decide +kernel
theorem dX9_measure_48 : decode cX9_measure 48 = .ok (.getfield 21, 3) := by decide +kernel
theorem dX9_measure_51 : decode cX9_measure 51 = .ok (.iload_n 3, 1) := by decide +kernel
theorem dX9_measure_52 : decode cX9_measure 52 = .ok (.iconst 0, 1) := by decide +kernel
theorem dX9_measure_53 : decode cX9_measure 53 = .ok (.iastore, 1) := by decide +kernel
theorem dX9_measure_54 : decode cX9_measure 54 = .ok (.goto 43, 3) := by decide +kernel
theorem dX9_measure_57 : decode cX9_measure 57 = .ok (.aload_n 0, 1) := by decide +kernel
theorem dX9_measure_58 : decode cX9_measure 58 = .ok (.getfield 18, 3) := by decide +kernel
theorem dX9_measure_61 : decode cX9_measure 61 = .ok (.iload_n 3, 1) := by decide +kernel
theorem dX9_measure_62 : decode cX9_measure 62 = .ok (.iload 4, 2) := by decide +kernel
theorem dX9_measure_64 : decode cX9_measure 64 = .ok (.ifCond .ne 8, 3) := by decide +kernel
theorem dX9_measure_67 : decode cX9_measure 67 = .ok (.ldc 71, 2) := by decide +kernel
theorem dX9_measure_69 : decode cX9_measure 69 = .ok (.goto 5, 3) := by decide +kernel
theorem dX9_measure_72 : decode cX9_measure 72 = .ok (.iload 4, 2) := by decide +kernel
theorem dX9_measure_74 : decode cX9_measure 74 = .ok (.iastore, 1) := by decide +kernel
theorem dX9_measure_75 : decode cX9_measure 75 = .ok (.aload_n 0, 1) := by decide +kernel
theorem dX9_measure_76 : decode cX9_measure 76 = .ok (.getfield 21, 3) := by decide +kernel
theorem dX9_measure_79 : decode cX9_measure 79 = .ok (.iload_n 3, 1) := by decide +kernel
theorem dX9_measure_80 : decode cX9_measure 80 = .ok (.iload 4, 2) := by decide +kernel
theorem dX9_measure_82 : decode cX9_measure 82 = .ok (.ifCond .ne 8, 3) := by decide +kernel
theorem dX9_measure_85 : decode cX9_measure 85 = .ok (.ldc 71, 2) := by decide +kernel
theorem dX9_measure_87 : decode cX9_measure 87 = .ok (.goto 9, 3) := by decide +kernel
theorem dX9_measure_90 : decode cX9_measure 90 = .ok (.aload_n 0, 1) := by decide +kernel
theorem dX9_measure_91 : decode cX9_measure 91 = .ok (.iload 4, 2) := by decide +kernel
theorem dX9_measure_93 : decode cX9_measure 93 = .ok (.invokevirtual 72, 3) := by decide +kernel
theorem dX9_measure_96 : decode cX9_measure 96 = .ok (.iastore, 1) := by decide +kernel
theorem dX9_measure_97 : decode cX9_measure 97 = .ok (.iinc 2 1, 3) := by decide +kernel
theorem dX9_measure_100 : decode cX9_measure 100 = .ok (.goto (-88), 3) := by decide +kernel
theorem dX9_measure_103 : decode cX9_measure 103 = .ok (.iinc 1 1, 3) := by decide +kernel
theorem dX9_measure_106 : decode cX9_measure 106 = .ok (.goto (-104), 3) := by decide +kernel
theorem dX9_measure_109 : decode cX9_measure 109 = .ok (.aload_n 0, 1) := by decide +kernel
theorem dX9_measure_110 : decode cX9_measure 110 = .ok (.aload_n 0, 1) := by decide +kernel
theorem dX9_measure_111 : decode cX9_measure 111 = .ok (.getfield 18, 3) := by decide +kernel
theorem dX9_measure_114 : decode cX9_measure 114 = .ok (.invokevirtual 76, 3) := by decide +kernel
theorem dX9_measure_117 : decode cX9_measure 117 = .ok (.aload_n 0, 1) := by decide +kernel
theorem dX9_measure_118 : decode cX9_measure 118 = .ok (.aload_n 0, 1) := by decide +kernel
theorem dX9_measure_119 : decode cX9_measure 119 = .ok (.getfield 21, 3) := by decide +kernel
theorem dX9_measure_122 : decode cX9_measure 122 = .ok (.invokevirtual 76, 3) := by decide +kernel
theorem dX9_measure_125 : decode cX9_measure 125 = .ok (.return_, 1) := by decide +kernel
def fX9_measure_97 (t : Nat) (r2 : Int → jw_M → Option jw_M) (r12 : Int → Int → jw_M → Option jw_M) (x1 : Int) (x2 : Int) (M : jw_M) : Option jw_M :=
  Option.bind (some (jw_w (x2 + 1))) (fun v10 => r12 x1 v10 M)
set_option maxRecDepth 100000 in
theorem pX9_measure_97 (G : jw_G) (t : Nat) (ht : jw_tag t = 9) (r2 : Int → jw_M → Option jw_M) (r12 : Int → Int → jw_M → Option jw_M) (hr2 : ∀ (x1 : Int) (hx1 : jw_r x1) (M : jw_M), jw_Rn G YX9_measure 2 0 0 true (fun M1 => (0, M1)) 2 [(0, jR G t), (1, jI x1)] [] M (r2 x1 M)) (hr12 : ∀ (x1 : Int) (x2 : Int) (hx1 : jw_r x1) (hx2 : jw_r x2) (M : jw_M), jw_Rn G YX9_measure 2 0 0 true (fun M1 => (0, M1)) 12 [(0, jR G t), (1, jI x1), (2, jI x2)] [] M (r12 x1 x2 M)) : ∀ (x1 : Int) (x2 : Int) (hx1 : jw_r x1) (hx2 : jw_r x2) (M : jw_M), jw_Rn G YX9_measure 2 0 0 true (fun M1 => (0, M1)) 97 [(0, jR G t), (1, jI x1), (2, jI x2)] [] M (fX9_measure_97 t r2 r12 x1 x2 M) := by
  intro x1 x2 hx1 hx2 M
  unfold fX9_measure_97
  refine jw_iincL (pc := 97) 2 (lv' := (fun y => [(2, y), (0, jR G t), (1, jI x1)])) dX9_measure_97 rfl (Nat.le_of_ble_eq_true rfl) (fun _ => rfl) (fun v10 hv10 => ?_)
  refine jw_goto (pc := 100) 12 dX9_measure_100 (by decide) ?_
  exact jw_few [1, 2, 0] rfl (hr12 x1 v10 hx1 hv10 M)
def fX9_measure_96 (t : Nat) (r2 : Int → jw_M → Option jw_M) (r12 : Int → Int → jw_M → Option jw_M) (x1 : Int) (x2 : Int) (xs0 : Int) (xs1 : Int) (M : jw_M) : Option jw_M :=
  if 0 ≤ xs1 ∧ xs1 < 49 then Option.bind (some (jw_up M (t + 4) xs1 xs0)) (fun M12 => fX9_measure_97 t r2 r12 x1 x2 M12) else none
set_option maxRecDepth 100000 in
theorem pX9_measure_96 (G : jw_G) (t : Nat) (ht : jw_tag t = 9) (r2 : Int → jw_M → Option jw_M) (r12 : Int → Int → jw_M → Option jw_M) (hr2 : ∀ (x1 : Int) (hx1 : jw_r x1) (M : jw_M), jw_Rn G YX9_measure 2 0 0 true (fun M1 => (0, M1)) 2 [(0, jR G t), (1, jI x1)] [] M (r2 x1 M)) (hr12 : ∀ (x1 : Int) (x2 : Int) (hx1 : jw_r x1) (hx2 : jw_r x2) (M : jw_M), jw_Rn G YX9_measure 2 0 0 true (fun M1 => (0, M1)) 12 [(0, jR G t), (1, jI x1), (2, jI x2)] [] M (r12 x1 x2 M)) : ∀ (x1 : Int) (x2 : Int) (xs0 : Int) (xs1 : Int) (hx1 : jw_r x1) (hx2 : jw_r x2) (hxs0 : jw_r xs0) (hxs1 : jw_r xs1) (M : jw_M), jw_Rn G YX9_measure 2 0 0 true (fun M1 => (0, M1)) 96 [(0, jR G t), (1, jI x1), (2, jI x2)] [jI xs0, jI xs1, jR G (t + 4)] M (fX9_measure_96 t r2 r12 x1 x2 xs0 xs1 M) := by
  intro x1 x2 xs0 xs1 hx1 hx2 hxs0 hxs1 M
  unfold fX9_measure_96
  refine jw_iast (pc := 96) dX9_measure_96 (jf_9_4 ht).2.1 (jf_9_4 ht).2.2 (jw_ho (jf_9_4 ht).2.1 (by decide)) hxs1 hxs0 rfl ?_
  refine jw_letM (fun M12 => ?_)
  exact jw_few [0, 1, 2] rfl (pX9_measure_97 G t ht r2 r12 hr2 hr12 x1 x2 hx1 hx2 M12)
def fX9_measure_74 (t : Nat) (r2 : Int → jw_M → Option jw_M) (r12 : Int → Int → jw_M → Option jw_M) (x1 : Int) (x2 : Int) (x3 : Int) (x4 : Int) (xs0 : Int) (xs1 : Int) (M : jw_M) : Option jw_M :=
  if 0 ≤ xs1 ∧ xs1 < 49 then Option.bind (some (jw_up M (t + 3) xs1 xs0)) (fun M11 => if x4 = 0 then (fX9_measure_96 t r2 r12 x1 x2 1000000 x3 M11) else (Option.bind (fX9_minutesToPass t x4 M11) (fun v13 => fX9_measure_96 t r2 r12 x1 x2 v13 x3 M11))) else none
set_option maxRecDepth 100000 in
theorem pX9_measure_74 (G : jw_G) (t : Nat) (ht : jw_tag t = 9) (r2 : Int → jw_M → Option jw_M) (r12 : Int → Int → jw_M → Option jw_M) (hr2 : ∀ (x1 : Int) (hx1 : jw_r x1) (M : jw_M), jw_Rn G YX9_measure 2 0 0 true (fun M1 => (0, M1)) 2 [(0, jR G t), (1, jI x1)] [] M (r2 x1 M)) (hr12 : ∀ (x1 : Int) (x2 : Int) (hx1 : jw_r x1) (hx2 : jw_r x2) (M : jw_M), jw_Rn G YX9_measure 2 0 0 true (fun M1 => (0, M1)) 12 [(0, jR G t), (1, jI x1), (2, jI x2)] [] M (r12 x1 x2 M)) : ∀ (x1 : Int) (x2 : Int) (x3 : Int) (x4 : Int) (xs0 : Int) (xs1 : Int) (hx1 : jw_r x1) (hx2 : jw_r x2) (hx3 : jw_r x3) (hx4 : jw_r x4) (hxs0 : jw_r xs0) (hxs1 : jw_r xs1) (M : jw_M), jw_Rn G YX9_measure 2 0 0 true (fun M1 => (0, M1)) 74 [(0, jR G t), (1, jI x1), (2, jI x2), (3, jI x3), (4, jI x4)] [jI xs0, jI xs1, jR G (t + 3)] M (fX9_measure_74 t r2 r12 x1 x2 x3 x4 xs0 xs1 M) := by
  intro x1 x2 x3 x4 xs0 xs1 hx1 hx2 hx3 hx4 hxs0 hxs1 M
  unfold fX9_measure_74
  refine jw_iast (pc := 74) dX9_measure_74 (jf_9_3 ht).2.1 (jf_9_3 ht).2.2 (jw_ho (jf_9_3 ht).2.1 (by decide)) hxs1 hxs0 rfl ?_
  refine jw_letM (fun M11 => ?_)
  refine jw_aloadR (pc := 75) 0 dX9_measure_75 rfl ?_
  refine jw_getR (pc := 76) (j := 4) rfl dX9_measure_76 jv_9 ji_9 (Or.inl jt_104) ht (jn_9 ht) (by decide) (by decide) rfl (jf_9_4 ht).1 ?_
  refine jw_iload_n (pc := 79) 3 dX9_measure_79 rfl ?_
  refine jw_iload (pc := 80) 4 dX9_measure_80 rfl ?_
  refine jw_if_ne (pc := 82) 90 dX9_measure_82 (by decide) hx4 (fun _ => ?_) (fun _ => ?_)
  · refine jw_ldc (pc := 85) (n := 1000000) dX9_measure_85 jt_553 (by decide) ?_
    refine jw_goto (pc := 87) 96 dX9_measure_87 (by decide) ?_
    exact jw_few [0, 1, 2] rfl (pX9_measure_96 G t ht r2 r12 hr2 hr12 x1 x2 1000000 x3 hx1 hx2 (jw_rc _ rfl) hx3 M11)
  · refine jw_aloadR (pc := 90) 0 dX9_measure_90 rfl ?_
    refine jw_iload (pc := 91) 4 dX9_measure_91 rfl ?_
    refine jw_callVi (pc := 93) (As := [jI x4]) (st := [jI x3, jR G (t + 4)]) dX9_measure_93 rfl (Nat.le_of_ble_eq_true rfl) qX9_minutesToPass jt_554 jt_556 jp_5 rfl rfl (Nat.le_of_ble_eq_true rfl) jv_9 rfl ht (jn_9 ht) (by decide) (jw_ho ht (by decide)) (kX9_minutesToPass G t x4 hx4 M11) (fun v13 hv13 => ?_)
    exact jw_few [0, 1, 2] rfl (pX9_measure_96 G t ht r2 r12 hr2 hr12 x1 x2 v13 x3 hx1 hx2 hv13 hx3 M11)
def fX9_measure_12 (t : Nat) (r2 : Int → jw_M → Option jw_M) : Nat → Int → Int → jw_M → Option jw_M
  | 0, _, _, _ => none
  | k + 1, x1, x2, M => if x2 < M t 0 then (Option.bind (some (jw_w ((jw_w (x1 * 7)) + x2))) (fun v5 => if 0 ≤ v5 ∧ v5 < 49 then Option.bind (some (M (t + 2) v5)) (fun v7 => if x1 = x2 then (if 0 ≤ v5 ∧ v5 < 49 then Option.bind (some (jw_up M (t + 3) v5 0)) (fun M8 => if 0 ≤ v5 ∧ v5 < 49 then Option.bind (some (jw_up M8 (t + 4) v5 0)) (fun M9 => fX9_measure_97 t r2 (fX9_measure_12 t r2 k) x1 x2 M9) else none) else none) else (if v7 = 0 then (fX9_measure_74 t r2 (fX9_measure_12 t r2 k) x1 x2 v5 v7 1000000 v5 M) else (fX9_measure_74 t r2 (fX9_measure_12 t r2 k) x1 x2 v5 v7 v7 v5 M))) else none)) else (Option.bind (some (jw_w (x1 + 1))) (fun v14 => r2 v14 M))
set_option maxRecDepth 100000 in
theorem pX9_measure_12 (G : jw_G) (t : Nat) (ht : jw_tag t = 9) (r2 : Int → jw_M → Option jw_M) (hr2 : ∀ (x1 : Int) (hx1 : jw_r x1) (M : jw_M), jw_Rn G YX9_measure 2 0 0 true (fun M1 => (0, M1)) 2 [(0, jR G t), (1, jI x1)] [] M (r2 x1 M)) : ∀ (k : Nat) (x1 : Int) (x2 : Int) (hx1 : jw_r x1) (hx2 : jw_r x2) (M : jw_M), jw_Rn G YX9_measure 2 0 0 true (fun M1 => (0, M1)) 12 [(0, jR G t), (1, jI x1), (2, jI x2)] [] M (fX9_measure_12 t r2 k x1 x2 M) := by
  intro k
  induction k with
  | zero =>
    intro x1 x2 hx1 hx2 M
    exact jw_none
  | succ k ih =>
    intro x1 x2 hx1 hx2 M
    rw [fX9_measure_12]
    refine jw_iload_n (pc := 12) 2 dX9_measure_12 rfl ?_
    refine jw_aloadR (pc := 13) 0 dX9_measure_13 rfl ?_
    refine jw_getI (pc := 14) (j := 0) rfl dX9_measure_14 jv_9 ji_9 (Or.inl jt_94) ht (jn_9 ht) (by decide) (by decide) (jw_ho ht (by decide)) (Or.inl rfl) rfl (fun h4 => ?_)
    refine jw_ic_ge (pc := 17) 103 dX9_measure_17 (by decide) hx2 h4 (fun _ => ?_) (fun _ => ?_)
    · refine jw_iload_n (pc := 20) 1 dX9_measure_20 rfl ?_
      refine jw_bipush (pc := 21) dX9_measure_21 rfl ?_
      refine jw_imul (pc := 23) dX9_measure_23 ?_
      refine jw_iload_n (pc := 24) 2 dX9_measure_24 rfl ?_
      refine jw_iadd (pc := 25) dX9_measure_25 ?_
      refine jw_istore_nL (pc := 26) (lv' := (fun y => [(3, y), (0, jR G t), (1, jI x1), (2, jI x2)])) dX9_measure_26 (jw_wr _) (by decide) (fun _ => rfl) (fun v5 hv5 => ?_)
      refine jw_aloadR (pc := 27) 1 dX9_measure_27 rfl ?_
      refine jw_getR (pc := 28) (j := 2) rfl dX9_measure_28 jv_9 ji_9 (Or.inl jt_102) ht (jn_9 ht) (by decide) (by decide) rfl (jf_9_2 ht).1 ?_
      refine jw_iload_n (pc := 31) 0 dX9_measure_31 rfl ?_
      refine jw_iald (pc := 32) dX9_measure_32 (jf_9_2 ht).2.1 (jf_9_2 ht).2.2 (jw_ho (jf_9_2 ht).2.1 (by decide)) hv5 rfl (fun h6 => ?_)
      refine jw_istoreL (pc := 33) (lv' := (fun y => [(4, y), (3, jI v5), (0, jR G t), (1, jI x1), (2, jI x2)])) dX9_measure_33 h6 (by decide) (fun _ => rfl) (fun v7 hv7 => ?_)
      refine jw_iload_n (pc := 35) 3 dX9_measure_35 rfl ?_
      refine jw_iload_n (pc := 36) 4 dX9_measure_36 rfl ?_
      refine jw_ic_ne (pc := 37) 57 dX9_measure_37 (by decide) hx1 hx2 (fun _ => ?_) (fun _ => ?_)
      · refine jw_aloadR (pc := 40) 2 dX9_measure_40 rfl ?_
        refine jw_getR (pc := 41) (j := 3) rfl dX9_measure_41 jv_9 ji_9 (Or.inl jt_103) ht (jn_9 ht) (by decide) (by decide) rfl (jf_9_3 ht).1 ?_
        refine jw_iload_n (pc := 44) 1 dX9_measure_44 rfl ?_
        refine jw_iconst (pc := 45) dX9_measure_45 ?_
        refine jw_iast (pc := 46) dX9_measure_46 (jf_9_3 ht).2.1 (jf_9_3 ht).2.2 (jw_ho (jf_9_3 ht).2.1 (by decide)) hv5 (jw_rc _ rfl) rfl ?_
        refine jw_letM (fun M8 => ?_)
        refine jw_aloadR (pc := 47) 2 dX9_measure_47 rfl ?_
        refine jw_getR (pc := 48) (j := 4) rfl dX9_measure_48 jv_9 ji_9 (Or.inl jt_104) ht (jn_9 ht) (by decide) (by decide) rfl (jf_9_4 ht).1 ?_
        refine jw_iload_n (pc := 51) 1 dX9_measure_51 rfl ?_
        refine jw_iconst (pc := 52) dX9_measure_52 ?_
        refine jw_iast (pc := 53) dX9_measure_53 (jf_9_4 ht).2.1 (jf_9_4 ht).2.2 (jw_ho (jf_9_4 ht).2.1 (by decide)) hv5 (jw_rc _ rfl) rfl ?_
        refine jw_letM (fun M9 => ?_)
        refine jw_goto (pc := 54) 97 dX9_measure_54 (by decide) ?_
        exact jw_few [2, 3, 4] rfl (pX9_measure_97 G t ht r2 (fX9_measure_12 t r2 k) hr2 ih x1 x2 hx1 hx2 M9)
      · refine jw_aloadR (pc := 57) 2 dX9_measure_57 rfl ?_
        refine jw_getR (pc := 58) (j := 3) rfl dX9_measure_58 jv_9 ji_9 (Or.inl jt_103) ht (jn_9 ht) (by decide) (by decide) rfl (jf_9_3 ht).1 ?_
        refine jw_iload_n (pc := 61) 1 dX9_measure_61 rfl ?_
        refine jw_iload (pc := 62) 0 dX9_measure_62 rfl ?_
        refine jw_if_ne (pc := 64) 72 dX9_measure_64 (by decide) hv7 (fun _ => ?_) (fun _ => ?_)
        · refine jw_ldc (pc := 67) (n := 1000000) dX9_measure_67 jt_553 (by decide) ?_
          refine jw_goto (pc := 69) 74 dX9_measure_69 (by decide) ?_
          exact jw_few [2, 3, 4, 1, 0] rfl (pX9_measure_74 G t ht r2 (fX9_measure_12 t r2 k) hr2 ih x1 x2 v5 v7 1000000 v5 hx1 hx2 hv5 hv7 (jw_rc _ rfl) hv5 M)
        · refine jw_iload (pc := 72) 0 dX9_measure_72 rfl ?_
          exact jw_few [2, 3, 4, 1, 0] rfl (pX9_measure_74 G t ht r2 (fX9_measure_12 t r2 k) hr2 ih x1 x2 v5 v7 v7 v5 hx1 hx2 hv5 hv7 hv7 hv5 M)
    · refine jw_iincL (pc := 103) 1 (lv' := (fun y => [(1, y), (0, jR G t), (2, jI x2)])) dX9_measure_103 rfl (Nat.le_of_ble_eq_true rfl) (fun _ => rfl) (fun v14 hv14 => ?_)
      refine jw_goto (pc := 106) 2 dX9_measure_106 (by decide) ?_
      exact jw_few [1, 0] rfl (hr2 v14 hv14 M)
def fX9_measure_2 (t : Nat) : Nat → Int → jw_M → Option jw_M
  | 0, _, _ => none
  | k + 1, x1, M => if x1 < M t 0 then (Option.bind (some 0) (fun v3 => fX9_measure_12 t (fX9_measure_2 t k) jw_fu x1 v3 M)) else (Option.bind (fX9_shorten t (t + 3) M) (fun M15 => Option.bind (fX9_shorten t (t + 4) M15) (fun M16 => some M16)))
set_option maxRecDepth 100000 in
theorem pX9_measure_2 (G : jw_G) (t : Nat) (ht : jw_tag t = 9) : ∀ (k : Nat) (x1 : Int) (hx1 : jw_r x1) (M : jw_M), jw_Rn G YX9_measure 2 0 0 true (fun M1 => (0, M1)) 2 [(0, jR G t), (1, jI x1)] [] M (fX9_measure_2 t k x1 M) := by
  intro k
  induction k with
  | zero =>
    intro x1 hx1 M
    exact jw_none
  | succ k ih =>
    intro x1 hx1 M
    rw [fX9_measure_2]
    refine jw_iload_n (pc := 2) 1 dX9_measure_2 rfl ?_
    refine jw_aloadR (pc := 3) 0 dX9_measure_3 rfl ?_
    refine jw_getI (pc := 4) (j := 0) rfl dX9_measure_4 jv_9 ji_9 (Or.inl jt_94) ht (jn_9 ht) (by decide) (by decide) (jw_ho ht (by decide)) (Or.inl rfl) rfl (fun h2 => ?_)
    refine jw_ic_ge (pc := 7) 109 dX9_measure_7 (by decide) hx1 h2 (fun _ => ?_) (fun _ => ?_)
    · refine jw_iconst (pc := 10) dX9_measure_10 ?_
      refine jw_istore_nL (pc := 11) (lv' := (fun y => [(2, y), (0, jR G t), (1, jI x1)])) dX9_measure_11 (jw_rc _ rfl) (by decide) (fun _ => rfl) (fun v3 hv3 => ?_)
      exact jw_few [1, 2, 0] rfl (pX9_measure_12 G t ht (fX9_measure_2 t k) ih jw_fu x1 v3 hx1 hv3 M)
    · refine jw_aloadR (pc := 109) 0 dX9_measure_109 rfl ?_
      refine jw_aloadR (pc := 110) 0 dX9_measure_110 rfl ?_
      refine jw_getR (pc := 111) (j := 3) rfl dX9_measure_111 jv_9 ji_9 (Or.inl jt_103) ht (jn_9 ht) (by decide) (by decide) rfl (jf_9_3 ht).1 ?_
      refine jw_callVM (pc := 114) (As := [jR G (t + 3)]) (st := []) dX9_measure_114 rfl (Nat.le_of_ble_eq_true rfl) qX9_shorten jt_558 jt_560 jp_6 rfl rfl (Nat.le_of_ble_eq_true rfl) jv_9 rfl ht (jn_9 ht) (by decide) (jw_ho ht (by decide)) (kX9_shorten G t (t + 3) M) (fun M15 => ?_)
      refine jw_aloadR (pc := 117) 0 dX9_measure_117 rfl ?_
      refine jw_aloadR (pc := 118) 0 dX9_measure_118 rfl ?_
      refine jw_getR (pc := 119) (j := 4) rfl dX9_measure_119 jv_9 ji_9 (Or.inl jt_104) ht (jn_9 ht) (by decide) (by decide) rfl (jf_9_4 ht).1 ?_
      refine jw_callVM (pc := 122) (As := [jR G (t + 4)]) (st := []) dX9_measure_122 rfl (Nat.le_of_ble_eq_true rfl) qX9_shorten jt_558 jt_560 jp_6 rfl rfl (Nat.le_of_ble_eq_true rfl) jv_9 rfl ht (jn_9 ht) (by decide) (jw_ho ht (by decide)) (kX9_shorten G t (t + 4) M15) (fun M16 => ?_)
      exact jw_ret (pc := 125) (v := 0) dX9_measure_125 trivial rfl rfl
def fX9_measure (t : Nat) (M : jw_M) : Option jw_M :=
  if jw_tag t = 9 then (Option.bind (some 0) (fun v1 => fX9_measure_2 t jw_fu v1 M)) else none
set_option maxRecDepth 100000 in
theorem rX9_measure (G : jw_G) (t : Nat) (M : jw_M) : jw_Rn G YX9_measure 2 0 0 true (fun M1 => (0, M1)) 0 [(0, jR G t)] [] M (fX9_measure t M) := by
  unfold fX9_measure
  refine jw_ck (fun ht => ?_)
  refine jw_iconst (pc := 0) dX9_measure_0 ?_
  refine jw_istore_nL (pc := 1) (lv' := (fun y => [(1, y), (0, jR G t)])) dX9_measure_1 (jw_rc _ rfl) (by decide) (fun _ => rfl) (fun v1 hv1 => ?_)
  exact jw_few [1, 0] rfl (pX9_measure_2 G t ht jw_fu v1 hv1 M)
theorem kX9_measure (G : jw_G) (t : Nat) (M : jw_M) : jw_Ct G YX9_measure none 2 0 0 true (fun M1 => (0, M1)) yX9_measure [jR G t] M (fX9_measure t M) := jw_met (by decide) rfl rfl rfl (Nat.le_of_ble_eq_true rfl) (rX9_measure G t M)
abbrev YX9_pairsWithStreet : jw_Y := (RX9, cX9_pairsWithStreet, 4, 1, "pairsWithStreet")
theorem qX9_pairsWithStreet : jw_cy YX9_pairsWithStreet (some .int) yX9_pairsWithStreet 0 := ⟨by decide, jt_1216, jt_6, by decide, by decide +kernel⟩
theorem dX9_pairsWithStreet_0 : decode cX9_pairsWithStreet 0 = .ok (.iconst 0, 1) := by decide +kernel
theorem dX9_pairsWithStreet_1 : decode cX9_pairsWithStreet 1 = .ok (.istore_n 1, 1) := by decide +kernel
theorem dX9_pairsWithStreet_2 : decode cX9_pairsWithStreet 2 = .ok (.iconst 0, 1) := by decide +kernel
theorem dX9_pairsWithStreet_3 : decode cX9_pairsWithStreet 3 = .ok (.istore_n 2, 1) := by decide +kernel
theorem dX9_pairsWithStreet_4 : decode cX9_pairsWithStreet 4 = .ok (.iload_n 2, 1) := by decide +kernel
theorem dX9_pairsWithStreet_5 : decode cX9_pairsWithStreet 5 = .ok (.aload_n 0, 1) := by decide +kernel
theorem dX9_pairsWithStreet_6 : decode cX9_pairsWithStreet 6 = .ok (.getfield 30, 3) := by decide +kernel
theorem dX9_pairsWithStreet_9 : decode cX9_pairsWithStreet 9 = .ok (.if_icmp .ge 39, 3) := by decide +kernel
theorem dX9_pairsWithStreet_12 : decode cX9_pairsWithStreet 12 = .ok (.iload_n 2, 1) := by decide +kernel
theorem dX9_pairsWithStreet_13 : decode cX9_pairsWithStreet 13 = .ok (.iconst 1, 1) := by decide +kernel
theorem dX9_pairsWithStreet_14 : decode cX9_pairsWithStreet 14 = .ok (.iadd, 1) := by decide +kernel
theorem dX9_pairsWithStreet_15 : decode cX9_pairsWithStreet 15 = .ok (.istore_n 3, 1) := by decide +kernel
theorem dX9_pairsWithStreet_16 : decode cX9_pairsWithStreet 16 = .ok (.iload_n 3, 1) := by decide +kernel
theorem dX9_pairsWithStreet_17 : decode cX9_pairsWithStreet 17 = .ok (.aload_n 0, 1) := by decide +kernel
theorem dX9_pairsWithStreet_18 : decode cX9_pairsWithStreet 18 = .ok (.getfield 30, 3) := by decide +kernel
theorem dX9_pairsWithStreet_21 : decode cX9_pairsWithStreet 21 = .ok (.if_icmp .ge 21, 3) := by decide +kernel
theorem dX9_pairsWithStreet_24 : decode cX9_pairsWithStreet 24 = .ok (.aload_n 0, 1) := by decide +kernel
theorem dX9_pairsWithStreet_25 : decode cX9_pairsWithStreet 25 = .ok (.iload_n 2, 1) := by decide +kernel
theorem dX9_pairsWithStreet_26 : decode cX9_pairsWithStreet 26 = .ok (.iload_n 3, 1) := by decide +kernel
theorem dX9_pairsWithStreet_27 : decode cX9_pairsWithStreet 27 = .ok (.invokevirtual 62, 3) := by decide +kernel
theorem dX9_pairsWithStreet_30 : decode cX9_pairsWithStreet 30 = .ok (.ifCond .le 6, 3) := by decide +kernel
theorem dX9_pairsWithStreet_33 : decode cX9_pairsWithStreet 33 = .ok (.iinc 1 1, 3) := by decide +kernel
theorem dX9_pairsWithStreet_36 : decode cX9_pairsWithStreet 36 = .ok (.iinc 3 1, 3) := by decide +kernel
theorem dX9_pairsWithStreet_39 : decode cX9_pairsWithStreet 39 = .ok (.goto (-23), 3) := by decide +kernel
theorem dX9_pairsWithStreet_42 : decode cX9_pairsWithStreet 42 = .ok (.iinc 2 1, 3) := by decide +kernel
theorem dX9_pairsWithStreet_45 : decode cX9_pairsWithStreet 45 = .ok (.goto (-41), 3) := by decide +kernel
theorem dX9_pairsWithStreet_48 : decode cX9_pairsWithStreet 48 = .ok (.iload_n 1, 1) := by decide +kernel
theorem dX9_pairsWithStreet_49 : decode cX9_pairsWithStreet 49 = .ok (.ireturn, 1) := by decide +kernel
def fX9_pairsWithStreet_36 (t : Nat) (M : jw_M) (r4 : Int → Int → Option Int) (r16 : Int → Int → Int → Option Int) (x1 : Int) (x2 : Int) (x3 : Int) : Option Int :=
  Option.bind (some (jw_w (x3 + 1))) (fun v8 => r16 x1 x2 v8)
set_option maxRecDepth 100000 in
theorem pX9_pairsWithStreet_36 (G : jw_G) (t : Nat) (ht : jw_tag t = 9) (M : jw_M) (r4 : Int → Int → Option Int) (r16 : Int → Int → Int → Option Int) (hr4 : ∀ (x1 : Int) (x2 : Int) (hx1 : jw_r x1) (hx2 : jw_r x2), jw_Rn G YX9_pairsWithStreet 2 0 0 true (fun v => (v, M)) 4 [(0, jR G t), (1, jI x1), (2, jI x2)] [] M (r4 x1 x2)) (hr16 : ∀ (x1 : Int) (x2 : Int) (x3 : Int) (hx1 : jw_r x1) (hx2 : jw_r x2) (hx3 : jw_r x3), jw_Rn G YX9_pairsWithStreet 2 0 0 true (fun v => (v, M)) 16 [(0, jR G t), (1, jI x1), (2, jI x2), (3, jI x3)] [] M (r16 x1 x2 x3)) : ∀ (x1 : Int) (x2 : Int) (x3 : Int) (hx1 : jw_r x1) (hx2 : jw_r x2) (hx3 : jw_r x3), jw_Rn G YX9_pairsWithStreet 2 0 0 true (fun v => (v, M)) 36 [(0, jR G t), (1, jI x1), (2, jI x2), (3, jI x3)] [] M (fX9_pairsWithStreet_36 t M r4 r16 x1 x2 x3) := by
  intro x1 x2 x3 hx1 hx2 hx3
  unfold fX9_pairsWithStreet_36
  refine jw_iincL (pc := 36) 3 (lv' := (fun y => [(3, y), (0, jR G t), (1, jI x1), (2, jI x2)])) dX9_pairsWithStreet_36 rfl (Nat.le_of_ble_eq_true rfl) (fun _ => rfl) (fun v8 hv8 => ?_)
  refine jw_goto (pc := 39) 16 dX9_pairsWithStreet_39 (by decide) ?_
  exact jw_few [1, 2, 3, 0] rfl (hr16 x1 x2 v8 hx1 hx2 hv8)
def fX9_pairsWithStreet_16 (t : Nat) (M : jw_M) (r4 : Int → Int → Option Int) : Nat → Int → Int → Int → Option Int
  | 0, _, _, _ => none
  | k + 1, x1, x2, x3 => if x3 < M t 0 then (Option.bind (fX9_streetTo t x2 x3 M) (fun v6 => if (0 : Int) < v6 then (Option.bind (some (jw_w (x1 + 1))) (fun v7 => fX9_pairsWithStreet_36 t M r4 (fX9_pairsWithStreet_16 t M r4 k) v7 x2 x3)) else (fX9_pairsWithStreet_36 t M r4 (fX9_pairsWithStreet_16 t M r4 k) x1 x2 x3))) else (Option.bind (some (jw_w (x2 + 1))) (fun v9 => r4 x1 v9))
set_option maxRecDepth 100000 in
theorem pX9_pairsWithStreet_16 (G : jw_G) (t : Nat) (ht : jw_tag t = 9) (M : jw_M) (r4 : Int → Int → Option Int) (hr4 : ∀ (x1 : Int) (x2 : Int) (hx1 : jw_r x1) (hx2 : jw_r x2), jw_Rn G YX9_pairsWithStreet 2 0 0 true (fun v => (v, M)) 4 [(0, jR G t), (1, jI x1), (2, jI x2)] [] M (r4 x1 x2)) : ∀ (k : Nat) (x1 : Int) (x2 : Int) (x3 : Int) (hx1 : jw_r x1) (hx2 : jw_r x2) (hx3 : jw_r x3), jw_Rn G YX9_pairsWithStreet 2 0 0 true (fun v => (v, M)) 16 [(0, jR G t), (1, jI x1), (2, jI x2), (3, jI x3)] [] M (fX9_pairsWithStreet_16 t M r4 k x1 x2 x3) := by
  intro k
  induction k with
  | zero =>
    intro x1 x2 x3 hx1 hx2 hx3
    exact jw_none
  | succ k ih =>
    intro x1 x2 x3 hx1 hx2 hx3
    rw [fX9_pairsWithStreet_16]
    refine jw_iload_n (pc := 16) 3 dX9_pairsWithStreet_16 rfl ?_
    refine jw_aloadR (pc := 17) 0 dX9_pairsWithStreet_17 rfl ?_
    refine jw_getI (pc := 18) (j := 0) rfl dX9_pairsWithStreet_18 jv_9 ji_9 (Or.inl jt_94) ht (jn_9 ht) (by decide) (by decide) (jw_ho ht (by decide)) (Or.inl rfl) rfl (fun h5 => ?_)
    refine jw_ic_ge (pc := 21) 42 dX9_pairsWithStreet_21 (by decide) hx3 h5 (fun _ => ?_) (fun _ => ?_)
    · refine jw_aloadR (pc := 24) 0 dX9_pairsWithStreet_24 rfl ?_
      refine jw_iload_n (pc := 25) 2 dX9_pairsWithStreet_25 rfl ?_
      refine jw_iload_n (pc := 26) 3 dX9_pairsWithStreet_26 rfl ?_
      refine jw_callVi (pc := 27) (As := [jI x2, jI x3]) (st := []) dX9_pairsWithStreet_27 rfl (Nat.le_of_ble_eq_true rfl) qX9_streetTo jt_659 jt_660 jt_661 rfl rfl (Nat.le_of_ble_eq_true rfl) jv_9 rfl ht (jn_9 ht) (by decide) (jw_ho ht (by decide)) (kX9_streetTo G t x2 x3 hx2 hx3 M) (fun v6 hv6 => ?_)
      refine jw_if_le (pc := 30) 36 dX9_pairsWithStreet_30 (by decide) hv6 (fun _ => ?_) (fun _ => ?_)
      · refine jw_iincL (pc := 33) 1 (lv' := (fun y => [(1, y), (0, jR G t), (2, jI x2), (3, jI x3)])) dX9_pairsWithStreet_33 rfl (Nat.le_of_ble_eq_true rfl) (fun _ => rfl) (fun v7 hv7 => ?_)
        exact jw_few [1, 0, 2, 3] rfl (pX9_pairsWithStreet_36 G t ht M r4 (fX9_pairsWithStreet_16 t M r4 k) hr4 ih v7 x2 x3 hv7 hx2 hx3)
      · exact jw_few [0, 1, 2, 3] rfl (pX9_pairsWithStreet_36 G t ht M r4 (fX9_pairsWithStreet_16 t M r4 k) hr4 ih x1 x2 x3 hx1 hx2 hx3)
    · refine jw_iincL (pc := 42) 2 (lv' := (fun y => [(2, y), (0, jR G t), (1, jI x1), (3, jI x3)])) dX9_pairsWithStreet_42 rfl (Nat.le_of_ble_eq_true rfl) (fun _ => rfl) (fun v9 hv9 => ?_)
      refine jw_goto (pc := 45) 4 dX9_pairsWithStreet_45 (by decide) ?_
      exact jw_few [1, 2, 0] rfl (hr4 x1 v9 hx1 hv9)
def fX9_pairsWithStreet_4 (t : Nat) (M : jw_M) : Nat → Int → Int → Option Int
  | 0, _, _ => none
  | k + 1, x1, x2 => if x2 < M t 0 then (Option.bind (some (jw_w (x2 + 1))) (fun v4 => fX9_pairsWithStreet_16 t M (fX9_pairsWithStreet_4 t M k) jw_fu x1 x2 v4)) else (some x1)
set_option maxRecDepth 100000 in
theorem pX9_pairsWithStreet_4 (G : jw_G) (t : Nat) (ht : jw_tag t = 9) (M : jw_M) : ∀ (k : Nat) (x1 : Int) (x2 : Int) (hx1 : jw_r x1) (hx2 : jw_r x2), jw_Rn G YX9_pairsWithStreet 2 0 0 true (fun v => (v, M)) 4 [(0, jR G t), (1, jI x1), (2, jI x2)] [] M (fX9_pairsWithStreet_4 t M k x1 x2) := by
  intro k
  induction k with
  | zero =>
    intro x1 x2 hx1 hx2
    exact jw_none
  | succ k ih =>
    intro x1 x2 hx1 hx2
    rw [fX9_pairsWithStreet_4]
    refine jw_iload_n (pc := 4) 2 dX9_pairsWithStreet_4 rfl ?_
    refine jw_aloadR (pc := 5) 0 dX9_pairsWithStreet_5 rfl ?_
    refine jw_getI (pc := 6) (j := 0) rfl dX9_pairsWithStreet_6 jv_9 ji_9 (Or.inl jt_94) ht (jn_9 ht) (by decide) (by decide) (jw_ho ht (by decide)) (Or.inl rfl) rfl (fun h3 => ?_)
    refine jw_ic_ge (pc := 9) 48 dX9_pairsWithStreet_9 (by decide) hx2 h3 (fun _ => ?_) (fun _ => ?_)
    · refine jw_iload_n (pc := 12) 2 dX9_pairsWithStreet_12 rfl ?_
      refine jw_iconst (pc := 13) dX9_pairsWithStreet_13 ?_
      refine jw_iadd (pc := 14) dX9_pairsWithStreet_14 ?_
      refine jw_istore_nL (pc := 15) (lv' := (fun y => [(3, y), (0, jR G t), (1, jI x1), (2, jI x2)])) dX9_pairsWithStreet_15 (jw_wr _) (by decide) (fun _ => rfl) (fun v4 hv4 => ?_)
      exact jw_few [1, 2, 3, 0] rfl (pX9_pairsWithStreet_16 G t ht M (fX9_pairsWithStreet_4 t M k) ih jw_fu x1 x2 v4 hx1 hx2 hv4)
    · refine jw_iload_n (pc := 48) 1 dX9_pairsWithStreet_48 rfl ?_
      exact jw_ret (pc := 49) (v := x1) dX9_pairsWithStreet_49 hx1 rfl rfl
def fX9_pairsWithStreet (t : Nat) (M : jw_M) : Option Int :=
  if jw_tag t = 9 then (Option.bind (some 0) (fun v1 => Option.bind (some 0) (fun v2 => fX9_pairsWithStreet_4 t M jw_fu v1 v2))) else none
set_option maxRecDepth 100000 in
theorem rX9_pairsWithStreet (G : jw_G) (t : Nat) (M : jw_M) : jw_Rn G YX9_pairsWithStreet 2 0 0 true (fun v => (v, M)) 0 [(0, jR G t)] [] M (fX9_pairsWithStreet t M) := by
  unfold fX9_pairsWithStreet
  refine jw_ck (fun ht => ?_)
  refine jw_iconst (pc := 0) dX9_pairsWithStreet_0 ?_
  refine jw_istore_nL (pc := 1) (lv' := (fun y => [(1, y), (0, jR G t)])) dX9_pairsWithStreet_1 (jw_rc _ rfl) (by decide) (fun _ => rfl) (fun v1 hv1 => ?_)
  refine jw_iconst (pc := 2) dX9_pairsWithStreet_2 ?_
  refine jw_istore_nL (pc := 3) (lv' := (fun y => [(2, y), (1, jI v1), (0, jR G t)])) dX9_pairsWithStreet_3 (jw_rc _ rfl) (by decide) (fun _ => rfl) (fun v2 hv2 => ?_)
  exact jw_few [2, 1, 0] rfl (pX9_pairsWithStreet_4 G t ht M jw_fu v1 v2 hv1 hv2)
theorem kX9_pairsWithStreet (G : jw_G) (t : Nat) (M : jw_M) : jw_Ct G YX9_pairsWithStreet (some .int) 2 0 0 true (fun v => (v, M)) yX9_pairsWithStreet [jR G t] M (fX9_pairsWithStreet t M) := jw_met (by decide) rfl rfl rfl (Nat.le_of_ble_eq_true rfl) (rX9_pairsWithStreet G t M)
abbrev YX9_beside : jw_Y := (RX9, cX9_beside, 8, 1, "beside")
theorem qX9_beside : jw_cy YX9_beside (some .int) yX9_beside 3 := ⟨by decide, jt_1072, jt_6, by decide, by decide +kernel⟩
theorem dX9_beside_0 : decode cX9_beside 0 = .ok (.iconst 0, 1) := by decide +kernel
theorem dX9_beside_1 : decode cX9_beside 1 = .ok (.istore 4, 2) := by decide +kernel
theorem dX9_beside_3 : decode cX9_beside 3 = .ok (.iconst 0, 1) := by decide +kernel
theorem dX9_beside_4 : decode cX9_beside 4 = .ok (.istore 5, 2) := by decide +kernel
theorem dX9_beside_6 : decode cX9_beside 6 = .ok (.iload 5, 2) := by decide +kernel
theorem dX9_beside_8 : decode cX9_beside 8 = .ok (.aload_n 0, 1) := by decide +kernel
theorem dX9_beside_9 : decode cX9_beside 9 = .ok (.getfield 30, 3) := by decide +kernel
theorem dX9_beside_12 : decode cX9_beside 12 = .ok (.if_icmp .ge 81, 3) := by decide +kernel
theorem dX9_beside_15 : decode cX9_beside 15 = .ok (.iconst 0, 1) := by decide +kernel
theorem dX9_beside_16 : decode cX9_beside 16 = .ok (.istore 6, 2) := by decide +kernel
theorem dX9_beside_18 : decode cX9_beside 18 = .ok (.iload 6, 2) := by decide +kernel
theorem dX9_beside_20 : decode cX9_beside 20 = .ok (.aload_n 0, 1) := by decide +kernel
theorem dX9_beside_21 : decode cX9_beside 21 = .ok (.getfield 30, 3) := by decide +kernel
theorem dX9_beside_24 : decode cX9_beside 24 = .ok (.if_icmp .ge 63, 3) := by decide +kernel
theorem dX9_beside_27 : decode cX9_beside 27 = .ok (.iload 5, 2) := by decide +kernel
theorem dX9_beside_29 : decode cX9_beside 29 = .ok (.iload_n 1, 1) := by decide +kernel
theorem dX9_beside_30 : decode cX9_beside 30 = .ok (.if_icmp .ne 13, 3) := by decide +kernel
theorem dX9_beside_33 : decode cX9_beside 33 = .ok (.iload 6, 2) := by decide +kernel
theorem dX9_beside_35 : decode cX9_beside 35 = .ok (.iload_n 2, 1) := by decide +kernel
theorem dX9_beside_36 : decode cX9_beside 36 = .ok (.if_icmp .ne 7, 3) := by decide +kernel
theorem dX9_beside_39 : decode cX9_beside 39 = .ok (.iconst 1, 1) := by decide +kernel
theorem dX9_beside_40 : decode cX9_beside 40 = .ok (.goto 4, 3) := by decide +kernel
theorem dX9_beside_43 : decode cX9_beside 43 = .ok (.iconst 0, 1) := by decide +kernel
theorem dX9_beside_44 : decode cX9_beside 44 = .ok (.istore 7, 2) := by decide +kernel
theorem dX9_beside_46 : decode cX9_beside 46 = .ok (.iload_n 3, 1) := by decide +kernel
theorem dX9_beside_47 : decode cX9_beside 47 = .ok (.iload 5, 2) := by decide +kernel
theorem dX9_beside_49 : decode cX9_beside 49 = .ok (.ishr, 1) := by decide +kernel
theorem dX9_beside_50 : decode cX9_beside 50 = .ok (.iconst 1, 1) := by decide +kernel
theorem dX9_beside_51 : decode cX9_beside 51 = .ok (.iand, 1) := by decide +kernel
theorem dX9_beside_52 : decode cX9_beside 52 = .ok (.iconst 1, 1) := by decide +kernel
theorem dX9_beside_53 : decode cX9_beside 53 = .ok (.if_icmp .ne 28, 3) := by decide +kernel
theorem dX9_beside_56 : decode cX9_beside 56 = .ok (.iload 7, 2) := by decide +kernel
theorem dX9_beside_58 : decode cX9_beside 58 = .ok (.ifCond .ne 23, 3) := by decide +kernel
theorem dX9_beside_61 : decode cX9_beside 61 = .ok (.aload_n 0, 1) := by decide +kernel
theorem dX9_beside_62 : decode cX9_beside 62 = .ok (.iload 5, 2) := by decide +kernel
theorem dX9_beside_64 : decode cX9_beside 64 = .ok (.iload 6, 2) := by decide +kernel
theorem dX9_beside_66 : decode cX9_beside 66 = .ok (.invokevirtual 62, 3) := by decide +kernel
theorem dX9_beside_69 : decode cX9_beside 69 = .ok (.ifCond .le 12, 3) := by decide +kernel
theorem dX9_beside_72 : decode cX9_beside 72 = .ok (.iload 4, 2) := by decide +kernel
theorem dX9_beside_74 : decode cX9_beside 74 = .ok (.iconst 1, 1) := by decide +kernel
theorem dX9_beside_75 : decode cX9_beside 75 = .ok (.iload 6, 2) := by decide +kernel
theorem dX9_beside_77 : decode cX9_beside 77 = .ok (.ishl, 1) := by decide +kernel
theorem dX9_beside_78 : decode cX9_beside 78 = .ok (.ior, 1) := by decide +kernel
theorem dX9_beside_79 : decode cX9_beside 79 = .ok (.istore 4, 2) := by decide +kernel
theorem dX9_beside_81 : decode cX9_beside 81 = .ok (.iinc 6 1, 3) := by decide +kernel
theorem dX9_beside_84 : decode cX9_beside 84 = .ok (.goto (-66), 3) := by decide +kernel
theorem dX9_beside_87 : decode cX9_beside 87 = .ok (.iinc 5 1, 3) := by decide +kernel
theorem dX9_beside_90 : decode cX9_beside 90 = .ok (.goto (-84), 3) := by decide +kernel
theorem dX9_beside_93 : decode cX9_beside 93 = .ok (.iload 4, 2) := by decide +kernel
theorem dX9_beside_95 : decode cX9_beside 95 = .ok (.ireturn, 1) := by decide +kernel
def fX9_beside_81 (t : Nat) (M : jw_M) (r6 : Int → Int → Int → Int → Int → Option Int) (r18 : Int → Int → Int → Int → Int → Int → Option Int) (x1 : Int) (x2 : Int) (x3 : Int) (x4 : Int) (x5 : Int) (x6 : Int) : Option Int :=
  Option.bind (some (jw_w (x6 + 1))) (fun v9 => r18 x1 x2 x3 x4 x5 v9)
set_option maxRecDepth 100000 in
theorem pX9_beside_81 (G : jw_G) (t : Nat) (ht : jw_tag t = 9) (M : jw_M) (r6 : Int → Int → Int → Int → Int → Option Int) (r18 : Int → Int → Int → Int → Int → Int → Option Int) (hr6 : ∀ (x1 : Int) (x2 : Int) (x3 : Int) (x4 : Int) (x5 : Int) (hx1 : jw_r x1) (hx2 : jw_r x2) (hx3 : jw_r x3) (hx4 : jw_r x4) (hx5 : jw_r x5), jw_Rn G YX9_beside 2 0 0 true (fun v => (v, M)) 6 [(0, jR G t), (1, jI x1), (2, jI x2), (3, jI x3), (4, jI x4), (5, jI x5)] [] M (r6 x1 x2 x3 x4 x5)) (hr18 : ∀ (x1 : Int) (x2 : Int) (x3 : Int) (x4 : Int) (x5 : Int) (x6 : Int) (hx1 : jw_r x1) (hx2 : jw_r x2) (hx3 : jw_r x3) (hx4 : jw_r x4) (hx5 : jw_r x5) (hx6 : jw_r x6), jw_Rn G YX9_beside 2 0 0 true (fun v => (v, M)) 18 [(0, jR G t), (1, jI x1), (2, jI x2), (3, jI x3), (4, jI x4), (5, jI x5), (6, jI x6)] [] M (r18 x1 x2 x3 x4 x5 x6)) : ∀ (x1 : Int) (x2 : Int) (x3 : Int) (x4 : Int) (x5 : Int) (x6 : Int) (hx1 : jw_r x1) (hx2 : jw_r x2) (hx3 : jw_r x3) (hx4 : jw_r x4) (hx5 : jw_r x5) (hx6 : jw_r x6), jw_Rn G YX9_beside 2 0 0 true (fun v => (v, M)) 81 [(0, jR G t), (1, jI x1), (2, jI x2), (3, jI x3), (4, jI x4), (5, jI x5), (6, jI x6)] [] M (fX9_beside_81 t M r6 r18 x1 x2 x3 x4 x5 x6) := by
  intro x1 x2 x3 x4 x5 x6 hx1 hx2 hx3 hx4 hx5 hx6
  unfold fX9_beside_81
  refine jw_iincL (pc := 81) 6 (lv' := (fun y => [(6, y), (0, jR G t), (1, jI x1), (2, jI x2), (3, jI x3), (4, jI x4), (5, jI x5)])) dX9_beside_81 rfl (Nat.le_of_ble_eq_true rfl) (fun _ => rfl) (fun v9 hv9 => ?_)
  refine jw_goto (pc := 84) 18 dX9_beside_84 (by decide) ?_
  exact jw_few [1, 2, 3, 4, 5, 6, 0] rfl (hr18 x1 x2 x3 x4 x5 v9 hx1 hx2 hx3 hx4 hx5 hv9)
def fX9_beside_44 (t : Nat) (M : jw_M) (r6 : Int → Int → Int → Int → Int → Option Int) (r18 : Int → Int → Int → Int → Int → Int → Option Int) (x1 : Int) (x2 : Int) (x3 : Int) (x4 : Int) (x5 : Int) (x6 : Int) (xs0 : Int) : Option Int :=
  Option.bind (some xs0) (fun v6 => if jw_iand (jw_ishr x3 x5) 1 = 1 then (if v6 = 0 then (Option.bind (fX9_streetTo t x5 x6 M) (fun v7 => if (0 : Int) < v7 then (Option.bind (some (jw_ior x4 (jw_ishl 1 x6))) (fun v8 => fX9_beside_81 t M r6 r18 x1 x2 x3 v8 x5 x6)) else (fX9_beside_81 t M r6 r18 x1 x2 x3 x4 x5 x6))) else (fX9_beside_81 t M r6 r18 x1 x2 x3 x4 x5 x6)) else (fX9_beside_81 t M r6 r18 x1 x2 x3 x4 x5 x6))
set_option maxRecDepth 100000 in
theorem pX9_beside_44 (G : jw_G) (t : Nat) (ht : jw_tag t = 9) (M : jw_M) (r6 : Int → Int → Int → Int → Int → Option Int) (r18 : Int → Int → Int → Int → Int → Int → Option Int) (hr6 : ∀ (x1 : Int) (x2 : Int) (x3 : Int) (x4 : Int) (x5 : Int) (hx1 : jw_r x1) (hx2 : jw_r x2) (hx3 : jw_r x3) (hx4 : jw_r x4) (hx5 : jw_r x5), jw_Rn G YX9_beside 2 0 0 true (fun v => (v, M)) 6 [(0, jR G t), (1, jI x1), (2, jI x2), (3, jI x3), (4, jI x4), (5, jI x5)] [] M (r6 x1 x2 x3 x4 x5)) (hr18 : ∀ (x1 : Int) (x2 : Int) (x3 : Int) (x4 : Int) (x5 : Int) (x6 : Int) (hx1 : jw_r x1) (hx2 : jw_r x2) (hx3 : jw_r x3) (hx4 : jw_r x4) (hx5 : jw_r x5) (hx6 : jw_r x6), jw_Rn G YX9_beside 2 0 0 true (fun v => (v, M)) 18 [(0, jR G t), (1, jI x1), (2, jI x2), (3, jI x3), (4, jI x4), (5, jI x5), (6, jI x6)] [] M (r18 x1 x2 x3 x4 x5 x6)) : ∀ (x1 : Int) (x2 : Int) (x3 : Int) (x4 : Int) (x5 : Int) (x6 : Int) (xs0 : Int) (hx1 : jw_r x1) (hx2 : jw_r x2) (hx3 : jw_r x3) (hx4 : jw_r x4) (hx5 : jw_r x5) (hx6 : jw_r x6) (hxs0 : jw_r xs0), jw_Rn G YX9_beside 2 0 0 true (fun v => (v, M)) 44 [(0, jR G t), (1, jI x1), (2, jI x2), (3, jI x3), (4, jI x4), (5, jI x5), (6, jI x6)] [jI xs0] M (fX9_beside_44 t M r6 r18 x1 x2 x3 x4 x5 x6 xs0) := by
  intro x1 x2 x3 x4 x5 x6 xs0 hx1 hx2 hx3 hx4 hx5 hx6 hxs0
  unfold fX9_beside_44
  refine jw_istoreL (pc := 44) (lv' := (fun y => [(7, y), (0, jR G t), (1, jI x1), (2, jI x2), (3, jI x3), (4, jI x4), (5, jI x5), (6, jI x6)])) dX9_beside_44 hxs0 (by decide) (fun _ => rfl) (fun v6 hv6 => ?_)
  refine jw_iload_n (pc := 46) 4 dX9_beside_46 rfl ?_
  refine jw_iload (pc := 47) 6 dX9_beside_47 rfl ?_
  refine jw_ishrr (pc := 49) dX9_beside_49 ?_
  refine jw_iconst (pc := 50) dX9_beside_50 ?_
  refine jw_iandr (pc := 51) dX9_beside_51 ?_
  refine jw_iconst (pc := 52) dX9_beside_52 ?_
  refine jw_ic_ne (pc := 53) 81 dX9_beside_53 (by decide) (jw_rI _) (jw_rc _ rfl) (fun _ => ?_) (fun _ => ?_)
  · refine jw_iload (pc := 56) 0 dX9_beside_56 rfl ?_
    refine jw_if_ne (pc := 58) 81 dX9_beside_58 (by decide) hv6 (fun _ => ?_) (fun _ => ?_)
    · refine jw_aloadR (pc := 61) 1 dX9_beside_61 rfl ?_
      refine jw_iload (pc := 62) 6 dX9_beside_62 rfl ?_
      refine jw_iload (pc := 64) 7 dX9_beside_64 rfl ?_
      refine jw_callVi (pc := 66) (As := [jI x5, jI x6]) (st := []) dX9_beside_66 rfl (Nat.le_of_ble_eq_true rfl) qX9_streetTo jt_659 jt_660 jt_661 rfl rfl (Nat.le_of_ble_eq_true rfl) jv_9 rfl ht (jn_9 ht) (by decide) (jw_ho ht (by decide)) (kX9_streetTo G t x5 x6 hx5 hx6 M) (fun v7 hv7 => ?_)
      refine jw_if_le (pc := 69) 81 dX9_beside_69 (by decide) hv7 (fun _ => ?_) (fun _ => ?_)
      · refine jw_iload (pc := 72) 5 dX9_beside_72 rfl ?_
        refine jw_iconst (pc := 74) dX9_beside_74 ?_
        refine jw_iload (pc := 75) 7 dX9_beside_75 rfl ?_
        refine jw_ishlr (pc := 77) dX9_beside_77 ?_
        refine jw_iorr (pc := 78) dX9_beside_78 ?_
        refine jw_istoreL (pc := 79) (lv' := (fun y => [(4, y), (7, jI v6), (0, jR G t), (1, jI x1), (2, jI x2), (3, jI x3), (5, jI x5), (6, jI x6)])) dX9_beside_79 (jw_rI _) (by decide) (fun _ => rfl) (fun v8 hv8 => ?_)
        exact jw_few [2, 3, 4, 5, 0, 6, 7] rfl (pX9_beside_81 G t ht M r6 r18 hr6 hr18 x1 x2 x3 v8 x5 x6 hx1 hx2 hx3 hv8 hx5 hx6)
      · exact jw_few [1, 2, 3, 4, 5, 6, 7] rfl (pX9_beside_81 G t ht M r6 r18 hr6 hr18 x1 x2 x3 x4 x5 x6 hx1 hx2 hx3 hx4 hx5 hx6)
    · exact jw_few [1, 2, 3, 4, 5, 6, 7] rfl (pX9_beside_81 G t ht M r6 r18 hr6 hr18 x1 x2 x3 x4 x5 x6 hx1 hx2 hx3 hx4 hx5 hx6)
  · exact jw_few [1, 2, 3, 4, 5, 6, 7] rfl (pX9_beside_81 G t ht M r6 r18 hr6 hr18 x1 x2 x3 x4 x5 x6 hx1 hx2 hx3 hx4 hx5 hx6)
def fX9_beside_43 (t : Nat) (M : jw_M) (r6 : Int → Int → Int → Int → Int → Option Int) (r18 : Int → Int → Int → Int → Int → Int → Option Int) (x1 : Int) (x2 : Int) (x3 : Int) (x4 : Int) (x5 : Int) (x6 : Int) : Option Int :=
  fX9_beside_44 t M r6 r18 x1 x2 x3 x4 x5 x6 0
set_option maxRecDepth 100000 in
theorem pX9_beside_43 (G : jw_G) (t : Nat) (ht : jw_tag t = 9) (M : jw_M) (r6 : Int → Int → Int → Int → Int → Option Int) (r18 : Int → Int → Int → Int → Int → Int → Option Int) (hr6 : ∀ (x1 : Int) (x2 : Int) (x3 : Int) (x4 : Int) (x5 : Int) (hx1 : jw_r x1) (hx2 : jw_r x2) (hx3 : jw_r x3) (hx4 : jw_r x4) (hx5 : jw_r x5), jw_Rn G YX9_beside 2 0 0 true (fun v => (v, M)) 6 [(0, jR G t), (1, jI x1), (2, jI x2), (3, jI x3), (4, jI x4), (5, jI x5)] [] M (r6 x1 x2 x3 x4 x5)) (hr18 : ∀ (x1 : Int) (x2 : Int) (x3 : Int) (x4 : Int) (x5 : Int) (x6 : Int) (hx1 : jw_r x1) (hx2 : jw_r x2) (hx3 : jw_r x3) (hx4 : jw_r x4) (hx5 : jw_r x5) (hx6 : jw_r x6), jw_Rn G YX9_beside 2 0 0 true (fun v => (v, M)) 18 [(0, jR G t), (1, jI x1), (2, jI x2), (3, jI x3), (4, jI x4), (5, jI x5), (6, jI x6)] [] M (r18 x1 x2 x3 x4 x5 x6)) : ∀ (x1 : Int) (x2 : Int) (x3 : Int) (x4 : Int) (x5 : Int) (x6 : Int) (hx1 : jw_r x1) (hx2 : jw_r x2) (hx3 : jw_r x3) (hx4 : jw_r x4) (hx5 : jw_r x5) (hx6 : jw_r x6), jw_Rn G YX9_beside 2 0 0 true (fun v => (v, M)) 43 [(0, jR G t), (1, jI x1), (2, jI x2), (3, jI x3), (4, jI x4), (5, jI x5), (6, jI x6)] [] M (fX9_beside_43 t M r6 r18 x1 x2 x3 x4 x5 x6) := by
  intro x1 x2 x3 x4 x5 x6 hx1 hx2 hx3 hx4 hx5 hx6
  unfold fX9_beside_43
  refine jw_iconst (pc := 43) dX9_beside_43 ?_
  exact jw_few [0, 1, 2, 3, 4, 5, 6] rfl (pX9_beside_44 G t ht M r6 r18 hr6 hr18 x1 x2 x3 x4 x5 x6 0 hx1 hx2 hx3 hx4 hx5 hx6 (jw_rc _ rfl))
def fX9_beside_18 (t : Nat) (M : jw_M) (r6 : Int → Int → Int → Int → Int → Option Int) : Nat → Int → Int → Int → Int → Int → Int → Option Int
  | 0, _, _, _, _, _, _ => none
  | k + 1, x1, x2, x3, x4, x5, x6 => if x6 < M t 0 then (if x5 = x1 then (if x6 = x2 then (fX9_beside_44 t M r6 (fX9_beside_18 t M r6 k) x1 x2 x3 x4 x5 x6 1) else (fX9_beside_43 t M r6 (fX9_beside_18 t M r6 k) x1 x2 x3 x4 x5 x6)) else (fX9_beside_43 t M r6 (fX9_beside_18 t M r6 k) x1 x2 x3 x4 x5 x6)) else (Option.bind (some (jw_w (x5 + 1))) (fun v10 => r6 x1 x2 x3 x4 v10))
set_option maxRecDepth 100000 in
theorem pX9_beside_18 (G : jw_G) (t : Nat) (ht : jw_tag t = 9) (M : jw_M) (r6 : Int → Int → Int → Int → Int → Option Int) (hr6 : ∀ (x1 : Int) (x2 : Int) (x3 : Int) (x4 : Int) (x5 : Int) (hx1 : jw_r x1) (hx2 : jw_r x2) (hx3 : jw_r x3) (hx4 : jw_r x4) (hx5 : jw_r x5), jw_Rn G YX9_beside 2 0 0 true (fun v => (v, M)) 6 [(0, jR G t), (1, jI x1), (2, jI x2), (3, jI x3), (4, jI x4), (5, jI x5)] [] M (r6 x1 x2 x3 x4 x5)) : ∀ (k : Nat) (x1 : Int) (x2 : Int) (x3 : Int) (x4 : Int) (x5 : Int) (x6 : Int) (hx1 : jw_r x1) (hx2 : jw_r x2) (hx3 : jw_r x3) (hx4 : jw_r x4) (hx5 : jw_r x5) (hx6 : jw_r x6), jw_Rn G YX9_beside 2 0 0 true (fun v => (v, M)) 18 [(0, jR G t), (1, jI x1), (2, jI x2), (3, jI x3), (4, jI x4), (5, jI x5), (6, jI x6)] [] M (fX9_beside_18 t M r6 k x1 x2 x3 x4 x5 x6) := by
  intro k
  induction k with
  | zero =>
    intro x1 x2 x3 x4 x5 x6 hx1 hx2 hx3 hx4 hx5 hx6
    exact jw_none
  | succ k ih =>
    intro x1 x2 x3 x4 x5 x6 hx1 hx2 hx3 hx4 hx5 hx6
    rw [fX9_beside_18]
    refine jw_iload (pc := 18) 6 dX9_beside_18 rfl ?_
    refine jw_aloadR (pc := 20) 0 dX9_beside_20 rfl ?_
    refine jw_getI (pc := 21) (j := 0) rfl dX9_beside_21 jv_9 ji_9 (Or.inl jt_94) ht (jn_9 ht) (by decide) (by decide) (jw_ho ht (by decide)) (Or.inl rfl) rfl (fun h5 => ?_)
    refine jw_ic_ge (pc := 24) 87 dX9_beside_24 (by decide) hx6 h5 (fun _ => ?_) (fun _ => ?_)
    · refine jw_iload (pc := 27) 5 dX9_beside_27 rfl ?_
      refine jw_iload_n (pc := 29) 1 dX9_beside_29 rfl ?_
      refine jw_ic_ne (pc := 30) 43 dX9_beside_30 (by decide) hx5 hx1 (fun _ => ?_) (fun _ => ?_)
      · refine jw_iload (pc := 33) 6 dX9_beside_33 rfl ?_
        refine jw_iload_n (pc := 35) 2 dX9_beside_35 rfl ?_
        refine jw_ic_ne (pc := 36) 43 dX9_beside_36 (by decide) hx6 hx2 (fun _ => ?_) (fun _ => ?_)
        · refine jw_iconst (pc := 39) dX9_beside_39 ?_
          refine jw_goto (pc := 40) 44 dX9_beside_40 (by decide) ?_
          exact jw_few [0, 1, 2, 3, 4, 5, 6] rfl (pX9_beside_44 G t ht M r6 (fX9_beside_18 t M r6 k) hr6 ih x1 x2 x3 x4 x5 x6 1 hx1 hx2 hx3 hx4 hx5 hx6 (jw_rc _ rfl))
        · exact jw_few [0, 1, 2, 3, 4, 5, 6] rfl (pX9_beside_43 G t ht M r6 (fX9_beside_18 t M r6 k) hr6 ih x1 x2 x3 x4 x5 x6 hx1 hx2 hx3 hx4 hx5 hx6)
      · exact jw_few [0, 1, 2, 3, 4, 5, 6] rfl (pX9_beside_43 G t ht M r6 (fX9_beside_18 t M r6 k) hr6 ih x1 x2 x3 x4 x5 x6 hx1 hx2 hx3 hx4 hx5 hx6)
    · refine jw_iincL (pc := 87) 5 (lv' := (fun y => [(5, y), (0, jR G t), (1, jI x1), (2, jI x2), (3, jI x3), (4, jI x4), (6, jI x6)])) dX9_beside_87 rfl (Nat.le_of_ble_eq_true rfl) (fun _ => rfl) (fun v10 hv10 => ?_)
      refine jw_goto (pc := 90) 6 dX9_beside_90 (by decide) ?_
      exact jw_few [1, 2, 3, 4, 5, 0] rfl (hr6 x1 x2 x3 x4 v10 hx1 hx2 hx3 hx4 hv10)
def fX9_beside_6 (t : Nat) (M : jw_M) : Nat → Int → Int → Int → Int → Int → Option Int
  | 0, _, _, _, _, _ => none
  | k + 1, x1, x2, x3, x4, x5 => if x5 < M t 0 then (Option.bind (some 0) (fun v4 => fX9_beside_18 t M (fX9_beside_6 t M k) jw_fu x1 x2 x3 x4 x5 v4)) else (some x4)
set_option maxRecDepth 100000 in
theorem pX9_beside_6 (G : jw_G) (t : Nat) (ht : jw_tag t = 9) (M : jw_M) : ∀ (k : Nat) (x1 : Int) (x2 : Int) (x3 : Int) (x4 : Int) (x5 : Int) (hx1 : jw_r x1) (hx2 : jw_r x2) (hx3 : jw_r x3) (hx4 : jw_r x4) (hx5 : jw_r x5), jw_Rn G YX9_beside 2 0 0 true (fun v => (v, M)) 6 [(0, jR G t), (1, jI x1), (2, jI x2), (3, jI x3), (4, jI x4), (5, jI x5)] [] M (fX9_beside_6 t M k x1 x2 x3 x4 x5) := by
  intro k
  induction k with
  | zero =>
    intro x1 x2 x3 x4 x5 hx1 hx2 hx3 hx4 hx5
    exact jw_none
  | succ k ih =>
    intro x1 x2 x3 x4 x5 hx1 hx2 hx3 hx4 hx5
    rw [fX9_beside_6]
    refine jw_iload (pc := 6) 5 dX9_beside_6 rfl ?_
    refine jw_aloadR (pc := 8) 0 dX9_beside_8 rfl ?_
    refine jw_getI (pc := 9) (j := 0) rfl dX9_beside_9 jv_9 ji_9 (Or.inl jt_94) ht (jn_9 ht) (by decide) (by decide) (jw_ho ht (by decide)) (Or.inl rfl) rfl (fun h3 => ?_)
    refine jw_ic_ge (pc := 12) 93 dX9_beside_12 (by decide) hx5 h3 (fun _ => ?_) (fun _ => ?_)
    · refine jw_iconst (pc := 15) dX9_beside_15 ?_
      refine jw_istoreL (pc := 16) (lv' := (fun y => [(6, y), (0, jR G t), (1, jI x1), (2, jI x2), (3, jI x3), (4, jI x4), (5, jI x5)])) dX9_beside_16 (jw_rc _ rfl) (by decide) (fun _ => rfl) (fun v4 hv4 => ?_)
      exact jw_few [1, 2, 3, 4, 5, 6, 0] rfl (pX9_beside_18 G t ht M (fX9_beside_6 t M k) ih jw_fu x1 x2 x3 x4 x5 v4 hx1 hx2 hx3 hx4 hx5 hv4)
    · refine jw_iload (pc := 93) 4 dX9_beside_93 rfl ?_
      exact jw_ret (pc := 95) (v := x4) dX9_beside_95 hx4 rfl rfl
def fX9_beside (t : Nat) (a1 : Int) (a2 : Int) (a3 : Int) (M : jw_M) : Option Int :=
  if jw_tag t = 9 then (Option.bind (some 0) (fun v1 => Option.bind (some 0) (fun v2 => fX9_beside_6 t M jw_fu a1 a2 a3 v1 v2))) else none
set_option maxRecDepth 100000 in
theorem rX9_beside (G : jw_G) (t : Nat) (a1 : Int) (a2 : Int) (a3 : Int) (ha1 : jw_r a1) (ha2 : jw_r a2) (ha3 : jw_r a3) (M : jw_M) : jw_Rn G YX9_beside 2 0 0 true (fun v => (v, M)) 0 [(0, jR G t), (1, jI a1), (2, jI a2), (3, jI a3)] [] M (fX9_beside t a1 a2 a3 M) := by
  unfold fX9_beside
  refine jw_ck (fun ht => ?_)
  refine jw_iconst (pc := 0) dX9_beside_0 ?_
  refine jw_istoreL (pc := 1) (lv' := (fun y => [(4, y), (0, jR G t), (1, jI a1), (2, jI a2), (3, jI a3)])) dX9_beside_1 (jw_rc _ rfl) (by decide) (fun _ => rfl) (fun v1 hv1 => ?_)
  refine jw_iconst (pc := 3) dX9_beside_3 ?_
  refine jw_istoreL (pc := 4) (lv' := (fun y => [(5, y), (4, jI v1), (0, jR G t), (1, jI a1), (2, jI a2), (3, jI a3)])) dX9_beside_4 (jw_rc _ rfl) (by decide) (fun _ => rfl) (fun v2 hv2 => ?_)
  exact jw_few [2, 3, 4, 5, 1, 0] rfl (pX9_beside_6 G t ht M jw_fu a1 a2 a3 v1 v2 ha1 ha2 ha3 hv1 hv2)
theorem kX9_beside (G : jw_G) (t : Nat) (a1 : Int) (a2 : Int) (a3 : Int) (ha1 : jw_r a1) (ha2 : jw_r a2) (ha3 : jw_r a3) (M : jw_M) : jw_Ct G YX9_beside (some .int) 2 0 0 true (fun v => (v, M)) yX9_beside [jR G t, jI a1, jI a2, jI a3] M (fX9_beside t a1 a2 a3 M) := jw_met (by decide) rfl rfl rfl (Nat.le_of_ble_eq_true rfl) (rX9_beside G t a1 a2 a3 ha1 ha2 ha3 M)
abbrev YX9_parts : jw_Y := (RX9, cX9_parts, 6, 4, "parts")
theorem qX9_parts : jw_cy YX9_parts (some .boolean) yX9_parts 3 := ⟨by decide, jt_1068, jt_6, by decide, by decide +kernel⟩
theorem dX9_parts_0 : decode cX9_parts 0 = .ok (.iconst 1, 1) := by decide +kernel
theorem dX9_parts_1 : decode cX9_parts 1 = .ok (.iload_n 1, 1) := by decide +kernel
theorem dX9_parts_2 : decode cX9_parts 2 = .ok (.ishl, 1) := by decide +kernel
theorem dX9_parts_3 : decode cX9_parts 3 = .ok (.istore 4, 2) := by decide +kernel
theorem dX9_parts_5 : decode cX9_parts 5 = .ok (.iconst 0, 1) := by decide +kernel
theorem dX9_parts_6 : decode cX9_parts 6 = .ok (.istore 5, 2) := by decide +kernel
theorem dX9_parts_8 : decode cX9_parts 8 = .ok (.iload 5, 2) := by decide +kernel
theorem dX9_parts_10 : decode cX9_parts 10 = .ok (.aload_n 0, 1) := by decide +kernel
theorem dX9_parts_11 : decode cX9_parts 11 = .ok (.getfield 30, 3) := by decide +kernel
theorem dX9_parts_14 : decode cX9_parts 14 = .ok (.if_icmp .ge 26, 3) := by decide +kernel
theorem dX9_parts_17 : decode cX9_parts 17 = .ok (.iload 4, 2) := by decide +kernel
theorem dX9_parts_19 : decode cX9_parts 19 = .ok (.aload_n 0, 1) := by decide +kernel
theorem dX9_parts_20 : decode cX9_parts 20 = .ok (.iload_n 1, 1) := by decide +kernel
theorem dX9_parts_21 : decode cX9_parts 21 = .ok (.iload_n 2, 1) := by decide +kernel
theorem dX9_parts_22 : decode cX9_parts 22 = .ok (.iload 4, 2) := by decide +kernel
theorem dX9_parts_24 : decode cX9_parts 24 = .ok (.invokevirtual 89, 3) := by decide +kernel
theorem dX9_parts_27 : decode cX9_parts 27 = .ok (.iload_n 3, 1) := by decide +kernel
theorem dX9_parts_28 : decode cX9_parts 28 = .ok (.iconst (-1), 1) := by decide +kernel
theorem dX9_parts_29 : decode cX9_parts 29 = .ok (.ixor, 1) := by decide +kernel
theorem dX9_parts_30 : decode cX9_parts 30 = .ok (.iand, 1) := by decide +kernel
theorem dX9_parts_31 : decode cX9_parts 31 = .ok (.ior, 1) := by decide +kernel
theorem dX9_parts_32 : decode cX9_parts 32 = .ok (.istore 4, 2) := by decide +kernel
theorem dX9_parts_34 : decode cX9_parts 34 = .ok (.iinc 5 1, 3) := by decide +kernel
theorem dX9_parts_37 : decode cX9_parts 37 = .ok (.goto (-29), 3) := by decide +kernel
theorem dX9_parts_40 : decode cX9_parts 40 = .ok (.iload 4, 2) := by decide +kernel
theorem dX9_parts_42 : decode cX9_parts 42 = .ok (.iload_n 2, 1) := by decide +kernel
theorem dX9_parts_43 : decode cX9_parts 43 = .ok (.ishr, 1) := by decide +kernel
theorem dX9_parts_44 : decode cX9_parts 44 = .ok (.iconst 1, 1) := by decide +kernel
theorem dX9_parts_45 : decode cX9_parts 45 = .ok (.iand, 1) := by decide +kernel
theorem dX9_parts_46 : decode cX9_parts 46 = .ok (.ifCond .ne 7, 3) := by decide +kernel
theorem dX9_parts_49 : decode cX9_parts 49 = .ok (.iconst 1, 1) := by decide +kernel
theorem dX9_parts_50 : decode cX9_parts 50 = .ok (.goto 4, 3) := by decide +kernel
theorem dX9_parts_53 : decode cX9_parts 53 = .ok (.iconst 0, 1) := by decide +kernel
theorem dX9_parts_54 : decode cX9_parts 54 = .ok (.ireturn, 1) := by decide +kernel
def fX9_parts_8 (t : Nat) (M : jw_M) : Nat → Int → Int → Int → Int → Int → Option Int
  | 0, _, _, _, _, _ => none
  | k + 1, x1, x2, x3, x4, x5 => if x5 < M t 0 then (Option.bind (fX9_beside t x1 x2 x4 M) (fun v4 => Option.bind (some (jw_ior x4 (jw_iand v4 (jw_ixor x3 (-1))))) (fun v5 => Option.bind (some (jw_w (x5 + 1))) (fun v6 => fX9_parts_8 t M k x1 x2 x3 v5 v6)))) else (if jw_iand (jw_ishr x4 x2) 1 = 0 then (some 1) else (some 0))
set_option maxRecDepth 100000 in
theorem pX9_parts_8 (G : jw_G) (t : Nat) (ht : jw_tag t = 9) (M : jw_M) : ∀ (k : Nat) (x1 : Int) (x2 : Int) (x3 : Int) (x4 : Int) (x5 : Int) (hx1 : jw_r x1) (hx2 : jw_r x2) (hx3 : jw_r x3) (hx4 : jw_r x4) (hx5 : jw_r x5), jw_Rn G YX9_parts 3 0 0 true (fun v => (v, M)) 8 [(0, jR G t), (1, jI x1), (2, jI x2), (3, jI x3), (4, jI x4), (5, jI x5)] [] M (fX9_parts_8 t M k x1 x2 x3 x4 x5) := by
  intro k
  induction k with
  | zero =>
    intro x1 x2 x3 x4 x5 hx1 hx2 hx3 hx4 hx5
    exact jw_none
  | succ k ih =>
    intro x1 x2 x3 x4 x5 hx1 hx2 hx3 hx4 hx5
    rw [fX9_parts_8]
    refine jw_iload (pc := 8) 5 dX9_parts_8 rfl ?_
    refine jw_aloadR (pc := 10) 0 dX9_parts_10 rfl ?_
    refine jw_getI (pc := 11) (j := 0) rfl dX9_parts_11 jv_9 ji_9 (Or.inl jt_94) ht (jn_9 ht) (by decide) (by decide) (jw_ho ht (by decide)) (Or.inl rfl) rfl (fun h3 => ?_)
    refine jw_ic_ge (pc := 14) 40 dX9_parts_14 (by decide) hx5 h3 (fun _ => ?_) (fun _ => ?_)
    · refine jw_iload (pc := 17) 4 dX9_parts_17 rfl ?_
      refine jw_aloadR (pc := 19) 0 dX9_parts_19 rfl ?_
      refine jw_iload_n (pc := 20) 1 dX9_parts_20 rfl ?_
      refine jw_iload_n (pc := 21) 2 dX9_parts_21 rfl ?_
      refine jw_iload (pc := 22) 4 dX9_parts_22 rfl ?_
      refine jw_callVi (pc := 24) (As := [jI x1, jI x2, jI x4]) (st := [jI x4]) dX9_parts_24 rfl (Nat.le_of_ble_eq_true rfl) qX9_beside jt_1069 jt_1071 jp_33 rfl rfl (Nat.le_of_ble_eq_true rfl) jv_9 rfl ht (jn_9 ht) (by decide) (jw_ho ht (by decide)) (kX9_beside G t x1 x2 x4 hx1 hx2 hx4 M) (fun v4 hv4 => ?_)
      refine jw_iload_n (pc := 27) 3 dX9_parts_27 rfl ?_
      refine jw_iconst (pc := 28) dX9_parts_28 ?_
      refine jw_ixorr (pc := 29) dX9_parts_29 ?_
      refine jw_iandr (pc := 30) dX9_parts_30 ?_
      refine jw_iorr (pc := 31) dX9_parts_31 ?_
      refine jw_istoreL (pc := 32) (lv' := (fun y => [(4, y), (0, jR G t), (1, jI x1), (2, jI x2), (3, jI x3), (5, jI x5)])) dX9_parts_32 (jw_rI _) (by decide) (fun _ => rfl) (fun v5 hv5 => ?_)
      refine jw_iincL (pc := 34) 5 (lv' := (fun y => [(5, y), (4, jI v5), (0, jR G t), (1, jI x1), (2, jI x2), (3, jI x3)])) dX9_parts_34 rfl (Nat.le_of_ble_eq_true rfl) (fun _ => rfl) (fun v6 hv6 => ?_)
      refine jw_goto (pc := 37) 8 dX9_parts_37 (by decide) ?_
      exact jw_few [2, 3, 4, 5, 1, 0] rfl (ih x1 x2 x3 v5 v6 hx1 hx2 hx3 hv5 hv6)
    · refine jw_iload (pc := 40) 4 dX9_parts_40 rfl ?_
      refine jw_iload_n (pc := 42) 2 dX9_parts_42 rfl ?_
      refine jw_ishrr (pc := 43) dX9_parts_43 ?_
      refine jw_iconst (pc := 44) dX9_parts_44 ?_
      refine jw_iandr (pc := 45) dX9_parts_45 ?_
      refine jw_if_ne (pc := 46) 53 dX9_parts_46 (by decide) (jw_rI _) (fun _ => ?_) (fun _ => ?_)
      · refine jw_iconst (pc := 49) dX9_parts_49 ?_
        refine jw_goto (pc := 50) 54 dX9_parts_50 (by decide) ?_
        exact jw_ret (pc := 54) (v := 1) dX9_parts_54 (Or.inr rfl) rfl rfl
      · refine jw_iconst (pc := 53) dX9_parts_53 ?_
        exact jw_ret (pc := 54) (v := 0) dX9_parts_54 (Or.inl rfl) rfl rfl
def fX9_parts (t : Nat) (a1 : Int) (a2 : Int) (a3 : Int) (M : jw_M) : Option Int :=
  if jw_tag t = 9 then (Option.bind (some (jw_ishl 1 a1)) (fun v1 => Option.bind (some 0) (fun v2 => fX9_parts_8 t M jw_fu a1 a2 a3 v1 v2))) else none
set_option maxRecDepth 100000 in
theorem rX9_parts (G : jw_G) (t : Nat) (a1 : Int) (a2 : Int) (a3 : Int) (ha1 : jw_r a1) (ha2 : jw_r a2) (ha3 : jw_r a3) (M : jw_M) : jw_Rn G YX9_parts 3 0 0 true (fun v => (v, M)) 0 [(0, jR G t), (1, jI a1), (2, jI a2), (3, jI a3)] [] M (fX9_parts t a1 a2 a3 M) := by
  unfold fX9_parts
  refine jw_ck (fun ht => ?_)
  refine jw_iconst (pc := 0) dX9_parts_0 ?_
  refine jw_iload_n (pc := 1) 1 dX9_parts_1 rfl ?_
  refine jw_ishlr (pc := 2) dX9_parts_2 ?_
  refine jw_istoreL (pc := 3) (lv' := (fun y => [(4, y), (0, jR G t), (1, jI a1), (2, jI a2), (3, jI a3)])) dX9_parts_3 (jw_rI _) (by decide) (fun _ => rfl) (fun v1 hv1 => ?_)
  refine jw_iconst (pc := 5) dX9_parts_5 ?_
  refine jw_istoreL (pc := 6) (lv' := (fun y => [(5, y), (4, jI v1), (0, jR G t), (1, jI a1), (2, jI a2), (3, jI a3)])) dX9_parts_6 (jw_rc _ rfl) (by decide) (fun _ => rfl) (fun v2 hv2 => ?_)
  exact jw_few [2, 3, 4, 5, 1, 0] rfl (pX9_parts_8 G t ht M jw_fu a1 a2 a3 v1 v2 ha1 ha2 ha3 hv1 hv2)
theorem kX9_parts (G : jw_G) (t : Nat) (a1 : Int) (a2 : Int) (a3 : Int) (ha1 : jw_r a1) (ha2 : jw_r a2) (ha3 : jw_r a3) (M : jw_M) : jw_Ct G YX9_parts (some .boolean) 3 0 0 true (fun v => (v, M)) yX9_parts [jR G t, jI a1, jI a2, jI a3] M (fX9_parts t a1 a2 a3 M) := jw_met (by decide) rfl rfl rfl (Nat.le_of_ble_eq_true rfl) (rX9_parts G t a1 a2 a3 ha1 ha2 ha3 M)
abbrev YX9_waysApart : jw_Y := (RX9, cX9_waysApart, 6, 1, "waysApart")
theorem qX9_waysApart : jw_cy YX9_waysApart (some .int) yX9_waysApart 2 := ⟨by decide, jt_1063, jt_6, by decide, by decide +kernel⟩
theorem dX9_waysApart_0 : decode cX9_waysApart 0 = .ok (.bipush 7, 2) := by decide +kernel
theorem dX9_waysApart_2 : decode cX9_waysApart 2 = .ok (.istore_n 3, 1) := by decide +kernel
theorem dX9_waysApart_3 : decode cX9_waysApart 3 = .ok (.iconst 0, 1) := by decide +kernel
theorem dX9_waysApart_4 : decode cX9_waysApart 4 = .ok (.istore 4, 2) := by decide +kernel
theorem dX9_waysApart_6 : decode cX9_waysApart 6 = .ok (.iload 4, 2) := by decide +kernel
theorem dX9_waysApart_8 : decode cX9_waysApart 8 = .ok (.iconst 1, 1) := by decide +kernel
theorem dX9_waysApart_9 : decode cX9_waysApart 9 = .ok (.aload_n 0, 1) := by decide +kernel
theorem dX9_waysApart_10 : decode cX9_waysApart 10 = .ok (.getfield 30, 3) := by decide +kernel
theorem dX9_waysApart_13 : decode cX9_waysApart 13 = .ok (.ishl, 1) := by decide +kernel
theorem dX9_waysApart_14 : decode cX9_waysApart 14 = .ok (.if_icmp .ge 67, 3) := by decide +kernel
theorem dX9_waysApart_17 : decode cX9_waysApart 17 = .ok (.iload 4, 2) := by decide +kernel
theorem dX9_waysApart_19 : decode cX9_waysApart 19 = .ok (.iload_n 1, 1) := by decide +kernel
theorem dX9_waysApart_20 : decode cX9_waysApart 20 = .ok (.ishr, 1) := by decide +kernel
theorem dX9_waysApart_21 : decode cX9_waysApart 21 = .ok (.iconst 1, 1) := by decide +kernel
theorem dX9_waysApart_22 : decode cX9_waysApart 22 = .ok (.iand, 1) := by decide +kernel
theorem dX9_waysApart_23 : decode cX9_waysApart 23 = .ok (.iconst 1, 1) := by decide +kernel
theorem dX9_waysApart_24 : decode cX9_waysApart 24 = .ok (.if_icmp .eq 13, 3) := by decide +kernel
theorem dX9_waysApart_27 : decode cX9_waysApart 27 = .ok (.iload 4, 2) := by decide +kernel
theorem dX9_waysApart_29 : decode cX9_waysApart 29 = .ok (.iload_n 2, 1) := by decide +kernel
theorem dX9_waysApart_30 : decode cX9_waysApart 30 = .ok (.ishr, 1) := by decide +kernel
theorem dX9_waysApart_31 : decode cX9_waysApart 31 = .ok (.iconst 1, 1) := by decide +kernel
theorem dX9_waysApart_32 : decode cX9_waysApart 32 = .ok (.iand, 1) := by decide +kernel
theorem dX9_waysApart_33 : decode cX9_waysApart 33 = .ok (.iconst 1, 1) := by decide +kernel
theorem dX9_waysApart_34 : decode cX9_waysApart 34 = .ok (.if_icmp .ne 7, 3) := by decide +kernel
theorem dX9_waysApart_37 : decode cX9_waysApart 37 = .ok (.iconst 1, 1) := by decide +kernel
theorem dX9_waysApart_38 : decode cX9_waysApart 38 = .ok (.goto 4, 3) := by decide +kernel
theorem dX9_waysApart_41 : decode cX9_waysApart 41 = .ok (.iconst 0, 1) := by decide +kernel
theorem dX9_waysApart_42 : decode cX9_waysApart 42 = .ok (.istore 5, 2) := by decide +kernel
theorem dX9_waysApart_44 : decode cX9_waysApart 44 = .ok (.iload 5, 2) := by decide +kernel
theorem dX9_waysApart_46 : decode cX9_waysApart 46 = .ok (.ifCond .ne 29, 3) := by decide +kernel
theorem dX9_waysApart_49 : decode cX9_waysApart 49 = .ok (.iload 4, 2) := by decide +kernel
theorem dX9_waysApart_51 : decode cX9_waysApart 51 = .ok (.invokestatic 80, 3) := by decide +kernel
theorem dX9_waysApart_54 : decode cX9_waysApart 54 = .ok (.iload_n 3, 1) := by decide +kernel
theorem dX9_waysApart_55 : decode cX9_waysApart 55 = .ok (.if_icmp .ge 20, 3) := by decide +kernel
theorem dX9_waysApart_58 : decode cX9_waysApart 58 = .ok (.aload_n 0, 1) := by decide +kernel
theorem dX9_waysApart_59 : decode cX9_waysApart 59 = .ok (.iload_n 1, 1) := by decide +kernel
theorem dX9_waysApart_60 : decode cX9_waysApart 60 = .ok (.iload_n 2, 1) := by decide +kernel
theorem dX9_waysApart_61 : decode cX9_waysApart 61 = .ok (.iload 4, 2) := by decide +kernel
theorem dX9_waysApart_63 : decode cX9_waysApart 63 = .ok (.invokevirtual 85, 3) := by decide +kernel
theorem dX9_waysApart_66 : decode cX9_waysApart 66 = .ok (.ifCond .eq 9, 3) := by decide +kernel
theorem dX9_waysApart_69 : decode cX9_waysApart 69 = .ok (.iload 4, 2) := by decide +kernel
theorem dX9_waysApart_71 : decode cX9_waysApart 71 = .ok (.invokestatic 80, 3) := by decide +kernel
theorem dX9_waysApart_74 : decode cX9_waysApart 74 = .ok (.istore_n 3, 1) := by decide +kernel
theorem dX9_waysApart_75 : decode cX9_waysApart 75 = .ok (.iinc 4 1, 3) := by decide +kernel
theorem dX9_waysApart_78 : decode cX9_waysApart 78 = .ok (.goto (-72), 3) := by decide +kernel
theorem dX9_waysApart_81 : decode cX9_waysApart 81 = .ok (.aload_n 0, 1) := by decide +kernel
theorem dX9_waysApart_82 : decode cX9_waysApart 82 = .ok (.iload_n 1, 1) := by decide +kernel
theorem dX9_waysApart_83 : decode cX9_waysApart 83 = .ok (.iload_n 2, 1) := by decide +kernel
theorem dX9_waysApart_84 : decode cX9_waysApart 84 = .ok (.invokevirtual 62, 3) := by decide +kernel
theorem dX9_waysApart_87 : decode cX9_waysApart 87 = .ok (.ifCond .le 9, 3) := by decide +kernel
theorem dX9_waysApart_90 : decode cX9_waysApart 90 = .ok (.iload_n 3, 1) := by decide +kernel
theorem dX9_waysApart_91 : decode cX9_waysApart 91 = .ok (.iconst 1, 1) := by decide +kernel
theorem dX9_waysApart_92 : decode cX9_waysApart 92 = .ok (.iadd, 1) := by decide +kernel
theorem dX9_waysApart_93 : decode cX9_waysApart 93 = .ok (.goto 4, 3) := by decide +kernel
theorem dX9_waysApart_96 : decode cX9_waysApart 96 = .ok (.iload_n 3, 1) := by decide +kernel
theorem dX9_waysApart_97 : decode cX9_waysApart 97 = .ok (.ireturn, 1) := by decide +kernel
def fX9_waysApart_75 (t : Nat) (M : jw_M) (r6 : Int → Int → Int → Int → Option Int) (x1 : Int) (x2 : Int) (x3 : Int) (x4 : Int) : Option Int :=
  Option.bind (some (jw_w (x4 + 1))) (fun v7 => r6 x1 x2 x3 v7)
set_option maxRecDepth 100000 in
theorem pX9_waysApart_75 (G : jw_G) (t : Nat) (ht : jw_tag t = 9) (M : jw_M) (r6 : Int → Int → Int → Int → Option Int) (hr6 : ∀ (x1 : Int) (x2 : Int) (x3 : Int) (x4 : Int) (hx1 : jw_r x1) (hx2 : jw_r x2) (hx3 : jw_r x3) (hx4 : jw_r x4), jw_Rn G YX9_waysApart 4 0 0 true (fun v => (v, M)) 6 [(0, jR G t), (1, jI x1), (2, jI x2), (3, jI x3), (4, jI x4)] [] M (r6 x1 x2 x3 x4)) : ∀ (x1 : Int) (x2 : Int) (x3 : Int) (x4 : Int) (hx1 : jw_r x1) (hx2 : jw_r x2) (hx3 : jw_r x3) (hx4 : jw_r x4), jw_Rn G YX9_waysApart 4 0 0 true (fun v => (v, M)) 75 [(0, jR G t), (1, jI x1), (2, jI x2), (3, jI x3), (4, jI x4)] [] M (fX9_waysApart_75 t M r6 x1 x2 x3 x4) := by
  intro x1 x2 x3 x4 hx1 hx2 hx3 hx4
  unfold fX9_waysApart_75
  refine jw_iincL (pc := 75) 4 (lv' := (fun y => [(4, y), (0, jR G t), (1, jI x1), (2, jI x2), (3, jI x3)])) dX9_waysApart_75 rfl (Nat.le_of_ble_eq_true rfl) (fun _ => rfl) (fun v7 hv7 => ?_)
  refine jw_goto (pc := 78) 6 dX9_waysApart_78 (by decide) ?_
  exact jw_few [1, 2, 3, 4, 0] rfl (hr6 x1 x2 x3 v7 hx1 hx2 hx3 hv7)
def fX9_waysApart_42 (t : Nat) (M : jw_M) (r6 : Int → Int → Int → Int → Option Int) (x1 : Int) (x2 : Int) (x3 : Int) (x4 : Int) (xs0 : Int) : Option Int :=
  Option.bind (some xs0) (fun v4 => if v4 = 0 then (Option.bind (fJ6_bitCount_0f7a4 x4 M) (fun v5 => if v5 < x3 then (Option.bind (fX9_parts t x1 x2 x4 M) (fun v6 => if v6 = 0 then (fX9_waysApart_75 t M r6 x1 x2 x3 x4) else (Option.bind (fJ6_bitCount_0f7a4 x4 M) (fun v8 => Option.bind (some v8) (fun v9 => fX9_waysApart_75 t M r6 x1 x2 v9 x4))))) else (fX9_waysApart_75 t M r6 x1 x2 x3 x4))) else (fX9_waysApart_75 t M r6 x1 x2 x3 x4))
set_option maxRecDepth 100000 in
theorem pX9_waysApart_42 (G : jw_G) (t : Nat) (ht : jw_tag t = 9) (M : jw_M) (r6 : Int → Int → Int → Int → Option Int) (hr6 : ∀ (x1 : Int) (x2 : Int) (x3 : Int) (x4 : Int) (hx1 : jw_r x1) (hx2 : jw_r x2) (hx3 : jw_r x3) (hx4 : jw_r x4), jw_Rn G YX9_waysApart 4 0 0 true (fun v => (v, M)) 6 [(0, jR G t), (1, jI x1), (2, jI x2), (3, jI x3), (4, jI x4)] [] M (r6 x1 x2 x3 x4)) : ∀ (x1 : Int) (x2 : Int) (x3 : Int) (x4 : Int) (xs0 : Int) (hx1 : jw_r x1) (hx2 : jw_r x2) (hx3 : jw_r x3) (hx4 : jw_r x4) (hxs0 : jw_r xs0), jw_Rn G YX9_waysApart 4 0 0 true (fun v => (v, M)) 42 [(0, jR G t), (1, jI x1), (2, jI x2), (3, jI x3), (4, jI x4)] [jI xs0] M (fX9_waysApart_42 t M r6 x1 x2 x3 x4 xs0) := by
  intro x1 x2 x3 x4 xs0 hx1 hx2 hx3 hx4 hxs0
  unfold fX9_waysApart_42
  refine jw_istoreL (pc := 42) (lv' := (fun y => [(5, y), (0, jR G t), (1, jI x1), (2, jI x2), (3, jI x3), (4, jI x4)])) dX9_waysApart_42 hxs0 (by decide) (fun _ => rfl) (fun v4 hv4 => ?_)
  refine jw_iload (pc := 44) 0 dX9_waysApart_44 rfl ?_
  refine jw_if_ne (pc := 46) 75 dX9_waysApart_46 (by decide) hv4 (fun _ => ?_) (fun _ => ?_)
  · refine jw_iload (pc := 49) 5 dX9_waysApart_49 rfl ?_
    refine jw_callSi (pc := 51) (As := [jI x4]) (st := []) dX9_waysApart_51 rfl (Nat.le_of_ble_eq_true rfl) qJ6_bitCount_0f7a4 jt_1064 jt_1012 rfl rfl (Nat.le_of_ble_eq_true rfl) (kJ6_bitCount_0f7a4 G x4 hx4 M) (fun v5 hv5 => ?_)
    refine jw_iload_n (pc := 54) 4 dX9_waysApart_54 rfl ?_
    refine jw_ic_ge (pc := 55) 75 dX9_waysApart_55 (by decide) hv5 hx3 (fun _ => ?_) (fun _ => ?_)
    · refine jw_aloadR (pc := 58) 1 dX9_waysApart_58 rfl ?_
      refine jw_iload_n (pc := 59) 2 dX9_waysApart_59 rfl ?_
      refine jw_iload_n (pc := 60) 3 dX9_waysApart_60 rfl ?_
      refine jw_iload (pc := 61) 5 dX9_waysApart_61 rfl ?_
      refine jw_callVz (pc := 63) (As := [jI x1, jI x2, jI x4]) (st := []) dX9_waysApart_63 rfl (Nat.le_of_ble_eq_true rfl) qX9_parts jt_1065 jt_1067 jp_32 rfl rfl (Nat.le_of_ble_eq_true rfl) jv_9 rfl ht (jn_9 ht) (by decide) (jw_ho ht (by decide)) (kX9_parts G t x1 x2 x4 hx1 hx2 hx4 M) (fun v6 hv6 => ?_)
      refine jw_if_eq (pc := 66) 75 dX9_waysApart_66 (by decide) (jw_bz hv6) (fun _ => ?_) (fun _ => ?_)
      · exact jw_few [1, 2, 3, 4, 5] rfl (pX9_waysApart_75 G t ht M r6 hr6 x1 x2 x3 x4 hx1 hx2 hx3 hx4)
      · refine jw_iload (pc := 69) 5 dX9_waysApart_69 rfl ?_
        refine jw_callSi (pc := 71) (As := [jI x4]) (st := []) dX9_waysApart_71 rfl (Nat.le_of_ble_eq_true rfl) qJ6_bitCount_0f7a4 jt_1064 jt_1012 rfl rfl (Nat.le_of_ble_eq_true rfl) (kJ6_bitCount_0f7a4 G x4 hx4 M) (fun v8 hv8 => ?_)
        refine jw_istore_nL (pc := 74) (lv' := (fun y => [(3, y), (5, jI v4), (0, jR G t), (1, jI x1), (2, jI x2), (4, jI x4)])) dX9_waysApart_74 hv8 (by decide) (fun _ => rfl) (fun v9 hv9 => ?_)
        exact jw_few [2, 3, 4, 0, 5] rfl (pX9_waysApart_75 G t ht M r6 hr6 x1 x2 v9 x4 hx1 hx2 hv9 hx4)
    · exact jw_few [1, 2, 3, 4, 5] rfl (pX9_waysApart_75 G t ht M r6 hr6 x1 x2 x3 x4 hx1 hx2 hx3 hx4)
  · exact jw_few [1, 2, 3, 4, 5] rfl (pX9_waysApart_75 G t ht M r6 hr6 x1 x2 x3 x4 hx1 hx2 hx3 hx4)
def fX9_waysApart_37 (t : Nat) (M : jw_M) (r6 : Int → Int → Int → Int → Option Int) (x1 : Int) (x2 : Int) (x3 : Int) (x4 : Int) : Option Int :=
  fX9_waysApart_42 t M r6 x1 x2 x3 x4 1
set_option maxRecDepth 100000 in
theorem pX9_waysApart_37 (G : jw_G) (t : Nat) (ht : jw_tag t = 9) (M : jw_M) (r6 : Int → Int → Int → Int → Option Int) (hr6 : ∀ (x1 : Int) (x2 : Int) (x3 : Int) (x4 : Int) (hx1 : jw_r x1) (hx2 : jw_r x2) (hx3 : jw_r x3) (hx4 : jw_r x4), jw_Rn G YX9_waysApart 4 0 0 true (fun v => (v, M)) 6 [(0, jR G t), (1, jI x1), (2, jI x2), (3, jI x3), (4, jI x4)] [] M (r6 x1 x2 x3 x4)) : ∀ (x1 : Int) (x2 : Int) (x3 : Int) (x4 : Int) (hx1 : jw_r x1) (hx2 : jw_r x2) (hx3 : jw_r x3) (hx4 : jw_r x4), jw_Rn G YX9_waysApart 4 0 0 true (fun v => (v, M)) 37 [(0, jR G t), (1, jI x1), (2, jI x2), (3, jI x3), (4, jI x4)] [] M (fX9_waysApart_37 t M r6 x1 x2 x3 x4) := by
  intro x1 x2 x3 x4 hx1 hx2 hx3 hx4
  unfold fX9_waysApart_37
  refine jw_iconst (pc := 37) dX9_waysApart_37 ?_
  refine jw_goto (pc := 38) 42 dX9_waysApart_38 (by decide) ?_
  exact jw_few [0, 1, 2, 3, 4] rfl (pX9_waysApart_42 G t ht M r6 hr6 x1 x2 x3 x4 1 hx1 hx2 hx3 hx4 (jw_rc _ rfl))
def fX9_waysApart_6 (t : Nat) (M : jw_M) : Nat → Int → Int → Int → Int → Option Int
  | 0, _, _, _, _ => none
  | k + 1, x1, x2, x3, x4 => if x4 < jw_ishl 1 (M t 0) then (if jw_iand (jw_ishr x4 x1) 1 = 1 then (fX9_waysApart_37 t M (fX9_waysApart_6 t M k) x1 x2 x3 x4) else (if jw_iand (jw_ishr x4 x2) 1 = 1 then (fX9_waysApart_37 t M (fX9_waysApart_6 t M k) x1 x2 x3 x4) else (fX9_waysApart_42 t M (fX9_waysApart_6 t M k) x1 x2 x3 x4 0))) else (Option.bind (fX9_streetTo t x1 x2 M) (fun v10 => if (0 : Int) < v10 then (some (jw_w (x3 + 1))) else (some x3)))
set_option maxRecDepth 100000 in
theorem pX9_waysApart_6 (G : jw_G) (t : Nat) (ht : jw_tag t = 9) (M : jw_M) : ∀ (k : Nat) (x1 : Int) (x2 : Int) (x3 : Int) (x4 : Int) (hx1 : jw_r x1) (hx2 : jw_r x2) (hx3 : jw_r x3) (hx4 : jw_r x4), jw_Rn G YX9_waysApart 4 0 0 true (fun v => (v, M)) 6 [(0, jR G t), (1, jI x1), (2, jI x2), (3, jI x3), (4, jI x4)] [] M (fX9_waysApart_6 t M k x1 x2 x3 x4) := by
  intro k
  induction k with
  | zero =>
    intro x1 x2 x3 x4 hx1 hx2 hx3 hx4
    exact jw_none
  | succ k ih =>
    intro x1 x2 x3 x4 hx1 hx2 hx3 hx4
    rw [fX9_waysApart_6]
    refine jw_iload (pc := 6) 4 dX9_waysApart_6 rfl ?_
    refine jw_iconst (pc := 8) dX9_waysApart_8 ?_
    refine jw_aloadR (pc := 9) 0 dX9_waysApart_9 rfl ?_
    refine jw_getI (pc := 10) (j := 0) rfl dX9_waysApart_10 jv_9 ji_9 (Or.inl jt_94) ht (jn_9 ht) (by decide) (by decide) (jw_ho ht (by decide)) (Or.inl rfl) rfl (fun h3 => ?_)
    refine jw_ishlr (pc := 13) dX9_waysApart_13 ?_
    refine jw_ic_ge (pc := 14) 81 dX9_waysApart_14 (by decide) hx4 (jw_rI _) (fun _ => ?_) (fun _ => ?_)
    · refine jw_iload (pc := 17) 4 dX9_waysApart_17 rfl ?_
      refine jw_iload_n (pc := 19) 1 dX9_waysApart_19 rfl ?_
      refine jw_ishrr (pc := 20) dX9_waysApart_20 ?_
      refine jw_iconst (pc := 21) dX9_waysApart_21 ?_
      refine jw_iandr (pc := 22) dX9_waysApart_22 ?_
      refine jw_iconst (pc := 23) dX9_waysApart_23 ?_
      refine jw_ic_eq (pc := 24) 37 dX9_waysApart_24 (by decide) (jw_rI _) (jw_rc _ rfl) (fun _ => ?_) (fun _ => ?_)
      · exact jw_few [0, 1, 2, 3, 4] rfl (pX9_waysApart_37 G t ht M (fX9_waysApart_6 t M k) ih x1 x2 x3 x4 hx1 hx2 hx3 hx4)
      · refine jw_iload (pc := 27) 4 dX9_waysApart_27 rfl ?_
        refine jw_iload_n (pc := 29) 2 dX9_waysApart_29 rfl ?_
        refine jw_ishrr (pc := 30) dX9_waysApart_30 ?_
        refine jw_iconst (pc := 31) dX9_waysApart_31 ?_
        refine jw_iandr (pc := 32) dX9_waysApart_32 ?_
        refine jw_iconst (pc := 33) dX9_waysApart_33 ?_
        refine jw_ic_ne (pc := 34) 41 dX9_waysApart_34 (by decide) (jw_rI _) (jw_rc _ rfl) (fun _ => ?_) (fun _ => ?_)
        · exact jw_few [0, 1, 2, 3, 4] rfl (pX9_waysApart_37 G t ht M (fX9_waysApart_6 t M k) ih x1 x2 x3 x4 hx1 hx2 hx3 hx4)
        · refine jw_iconst (pc := 41) dX9_waysApart_41 ?_
          exact jw_few [0, 1, 2, 3, 4] rfl (pX9_waysApart_42 G t ht M (fX9_waysApart_6 t M k) ih x1 x2 x3 x4 0 hx1 hx2 hx3 hx4 (jw_rc _ rfl))
    · refine jw_aloadR (pc := 81) 0 dX9_waysApart_81 rfl ?_
      refine jw_iload_n (pc := 82) 1 dX9_waysApart_82 rfl ?_
      refine jw_iload_n (pc := 83) 2 dX9_waysApart_83 rfl ?_
      refine jw_callVi (pc := 84) (As := [jI x1, jI x2]) (st := []) dX9_waysApart_84 rfl (Nat.le_of_ble_eq_true rfl) qX9_streetTo jt_659 jt_660 jt_661 rfl rfl (Nat.le_of_ble_eq_true rfl) jv_9 rfl ht (jn_9 ht) (by decide) (jw_ho ht (by decide)) (kX9_streetTo G t x1 x2 hx1 hx2 M) (fun v10 hv10 => ?_)
      refine jw_if_le (pc := 87) 96 dX9_waysApart_87 (by decide) hv10 (fun _ => ?_) (fun _ => ?_)
      · refine jw_iload_n (pc := 90) 3 dX9_waysApart_90 rfl ?_
        refine jw_iconst (pc := 91) dX9_waysApart_91 ?_
        refine jw_iadd (pc := 92) dX9_waysApart_92 ?_
        refine jw_goto (pc := 93) 97 dX9_waysApart_93 (by decide) ?_
        exact jw_ret (pc := 97) (v := jw_w (x3 + 1)) dX9_waysApart_97 (jw_wr _) rfl rfl
      · refine jw_iload_n (pc := 96) 3 dX9_waysApart_96 rfl ?_
        exact jw_ret (pc := 97) (v := x3) dX9_waysApart_97 hx3 rfl rfl
def fX9_waysApart (t : Nat) (a1 : Int) (a2 : Int) (M : jw_M) : Option Int :=
  if jw_tag t = 9 then (Option.bind (some 7) (fun v1 => Option.bind (some 0) (fun v2 => fX9_waysApart_6 t M jw_fu a1 a2 v1 v2))) else none
set_option maxRecDepth 100000 in
theorem rX9_waysApart (G : jw_G) (t : Nat) (a1 : Int) (a2 : Int) (ha1 : jw_r a1) (ha2 : jw_r a2) (M : jw_M) : jw_Rn G YX9_waysApart 4 0 0 true (fun v => (v, M)) 0 [(0, jR G t), (1, jI a1), (2, jI a2)] [] M (fX9_waysApart t a1 a2 M) := by
  unfold fX9_waysApart
  refine jw_ck (fun ht => ?_)
  refine jw_bipush (pc := 0) dX9_waysApart_0 rfl ?_
  refine jw_istore_nL (pc := 2) (lv' := (fun y => [(3, y), (0, jR G t), (1, jI a1), (2, jI a2)])) dX9_waysApart_2 (jw_rc _ rfl) (by decide) (fun _ => rfl) (fun v1 hv1 => ?_)
  refine jw_iconst (pc := 3) dX9_waysApart_3 ?_
  refine jw_istoreL (pc := 4) (lv' := (fun y => [(4, y), (3, jI v1), (0, jR G t), (1, jI a1), (2, jI a2)])) dX9_waysApart_4 (jw_rc _ rfl) (by decide) (fun _ => rfl) (fun v2 hv2 => ?_)
  exact jw_few [2, 3, 4, 1, 0] rfl (pX9_waysApart_6 G t ht M jw_fu a1 a2 v1 v2 ha1 ha2 hv1 hv2)
theorem kX9_waysApart (G : jw_G) (t : Nat) (a1 : Int) (a2 : Int) (ha1 : jw_r a1) (ha2 : jw_r a2) (M : jw_M) : jw_Ct G YX9_waysApart (some .int) 4 0 0 true (fun v => (v, M)) yX9_waysApart [jR G t, jI a1, jI a2] M (fX9_waysApart t a1 a2 M) := jw_met (by decide) rfl rfl rfl (Nat.le_of_ble_eq_true rfl) (rX9_waysApart G t a1 a2 ha1 ha2 M)
