/-! as, feared, nothing, after, count -/
theorem jp_isof2 (k o : Int) (hk : 1 ≤ k ∧ k ≤ 4) (ho : 0 ≤ o ∧ o ≤ 4) : ∃ v : Int, (v = 0 ∨ v = 1) ∧ (∀ M : jw_M, fX0_isTakenAs k o M = some v) ∧ (∀ M : jw_M, fX12_isOf k o M = some v) := by
  unfold fX0_isTakenAs fX12_isOf fX0_isTakenAs_44 fX0_isTakenAs_60 fX12_isOf_29 fX12_isOf_19 fX12_isOf_29
  have h1 : k = 1 ∨ k = 2 ∨ k = 3 ∨ k = 4 := by omega
  have h2 : o = 0 ∨ o = 1 ∨ o = 2 ∨ o = 3 ∨ o = 4 := by omega
  rcases h1 with rfl | rfl | rfl | rfl <;> rcases h2 with rfl | rfl | rfl | rfl | rfl <;> simp
theorem jp_as {M : jw_M} (h : jp_inv M) (s o : Int) : jp_ok (fX11_as s o M) (fX12_as s o) := by
  have hA := jp_inv_A h
  have hB := jp_inv_B h
  have hD := jp_inv_D h
  obtain ⟨-, -, g4, g7⟩ := jp_A_c hA
  obtain ⟨⟨r0, r2, r3, r4, r5⟩, -⟩ := jp_A_r hA
  have hA1 := jp_A_th hA 0 0
  by_cases h1 : 0 ≤ s ∧ s < M 131 3
  · by_cases h2 : 0 ≤ o ∧ o ≤ 4
    · obtain ⟨v, hv, v1, v2⟩ := jp_isof2 (jp_kind M s) o (jp_kind_r M s) h2
      have key : ∀ y : Int, jp_A (jw_up (jw_up (jw_up M 0 10 y) 127 0 0) 127 1 0) ∧ jp_B (jw_up (jw_up (jw_up M 0 10 y) 127 0 0) 127 1 0) ∧ jp_D (jw_up (jw_up (jw_up M 0 10 y) 127 0 0) 127 1 0) := fun y => ⟨jp_A_th (jp_A_th (jp_A_up hA 0 10 y (by decide)) 0 0) 1 0, jp_B_fr hB rfl rfl rfl (fun j _ _ => rfl) (by omega), jp_D_fr hD (fun k p q => by simp (disch := omega) only [jw_up_ne]) rfl rfl⟩
      have hA2 : ∀ y : Int, jp_A (jw_up (jw_up M 0 10 y) 127 0 0) := fun y => jp_A_th (jp_A_up hA 0 10 y (by decide)) 0 0
      have hk : ∀ y : Int, fX12_kindOf s (jw_up (jw_up (jw_up M 0 10 y) 127 0 0) 127 1 0) = some (jp_kind M s) := fun y => gX12_kindOf (key y).1 (key y).2.1 (key y).2.2 s h1
      rcases hv with rfl | rfl
      · have hx : fX11_as s o M = some (-9000000000000000013, jw_up M 0 10 3) := by
          unfold fX11_as
          simp (disch := omega) only [↓jp_bs, ↓jp_b2s, ↓reduceIte, jw_up_a, Nat.reduceEqDiff, Int.reduceEq, Int.reduceLT, Int.reduceLE, Int.reduceAdd, Int.reduceSub, Int.reduceMul, Int.reduceNeg, jp_n9_1, jp_n9_8, jp_n9_15, jp_n9_21, jp_n9_24, jp_n10_1, jp_n10_2, jp_n10_3, jp_n10_4, jp_n10_5, jp_n10_6, jp_n17_1, jp_n17_2, jp_n17_3, jp_n17_4, jp_n17_5, jp_n17_6, jp_n24_1, jp_n24_2, jp_n24_3, jp_n24_4, jp_n24_5, jp_n30_1, jp_n30_2, jp_n33_1, jp_n33_2, false_and, true_and, and_true, and_false, and_self, ne_eq, not_true_eq_false, not_false_eq_true, jw_ws, jw_vs, jw_cmp_lt, jw_cmp_gt, jw_cmp_eq, jp_t1, jp_t2, jp_t3, jp_t4, jp_t5, jp_t6, ↓bX10_isSeller, g4, ↓bX0_kindOf hA hB hD, v1, ↓bX11_found]
        refine ⟨_, _, _, hx, ?_, jp_fnd h 3⟩
        unfold fX12_as
        simp (disch := omega) only [↓jp_bs, ↓jp_b2s, ↓reduceIte, jw_up_a, Nat.reduceEqDiff, Int.reduceEq, Int.reduceLT, Int.reduceLE, Int.reduceAdd, Int.reduceSub, Int.reduceMul, Int.reduceNeg, jp_n9_1, jp_n9_8, jp_n9_15, jp_n9_21, jp_n9_24, jp_n10_1, jp_n10_2, jp_n10_3, jp_n10_4, jp_n10_5, jp_n10_6, jp_n17_1, jp_n17_2, jp_n17_3, jp_n17_4, jp_n17_5, jp_n17_6, jp_n24_1, jp_n24_2, jp_n24_3, jp_n24_4, jp_n24_5, jp_n30_1, jp_n30_2, jp_n33_1, jp_n33_2, false_and, true_and, and_true, and_false, and_self, ne_eq, not_true_eq_false, not_false_eq_true, jw_ws, jw_vs, jw_cmp_lt, jw_cmp_gt, jw_cmp_eq, jp_t1, jp_t2, jp_t3, jp_t4, jp_t5, jp_t6, ↓bX12_isSeller (hA2 3), ↓bX12_in, hk 3, v2, ↓bX12_finding]
      · have hx : fX11_as s o M = some (s, jw_up M 0 10 0) := by
          unfold fX11_as fX11_foundNothing
          simp (disch := omega) only [↓jp_bs, ↓jp_b2s, ↓reduceIte, jw_up_a, Nat.reduceEqDiff, Int.reduceEq, Int.reduceLT, Int.reduceLE, Int.reduceAdd, Int.reduceSub, Int.reduceMul, Int.reduceNeg, jp_n9_1, jp_n9_8, jp_n9_15, jp_n9_21, jp_n9_24, jp_n10_1, jp_n10_2, jp_n10_3, jp_n10_4, jp_n10_5, jp_n10_6, jp_n17_1, jp_n17_2, jp_n17_3, jp_n17_4, jp_n17_5, jp_n17_6, jp_n24_1, jp_n24_2, jp_n24_3, jp_n24_4, jp_n24_5, jp_n30_1, jp_n30_2, jp_n33_1, jp_n33_2, false_and, true_and, and_true, and_false, and_self, ne_eq, not_true_eq_false, not_false_eq_true, jw_ws, jw_vs, jw_cmp_lt, jw_cmp_gt, jw_cmp_eq, jp_t1, jp_t2, jp_t3, jp_t4, jp_t5, jp_t6, ↓bX10_isSeller, g4, ↓bX0_kindOf hA hB hD, v1]
        have hy : fX12_as s o (jw_up M 0 10 0) = some (s, jw_up (jw_up (jw_up M 0 10 0) 127 0 0) 127 1 0) := by
          unfold fX12_as
          simp (disch := omega) only [↓jp_bs, ↓jp_b2s, ↓reduceIte, jw_up_a, Nat.reduceEqDiff, Int.reduceEq, Int.reduceLT, Int.reduceLE, Int.reduceAdd, Int.reduceSub, Int.reduceMul, Int.reduceNeg, jp_n9_1, jp_n9_8, jp_n9_15, jp_n9_21, jp_n9_24, jp_n10_1, jp_n10_2, jp_n10_3, jp_n10_4, jp_n10_5, jp_n10_6, jp_n17_1, jp_n17_2, jp_n17_3, jp_n17_4, jp_n17_5, jp_n17_6, jp_n24_1, jp_n24_2, jp_n24_3, jp_n24_4, jp_n24_5, jp_n30_1, jp_n30_2, jp_n33_1, jp_n33_2, false_and, true_and, and_true, and_false, and_self, ne_eq, not_true_eq_false, not_false_eq_true, jw_ws, jw_vs, jw_cmp_lt, jw_cmp_gt, jw_cmp_eq, jp_t1, jp_t2, jp_t3, jp_t4, jp_t5, jp_t6, ↓bX12_isSeller (hA2 0), ↓bX12_in, hk 0, v2]
        refine ⟨_, _, _, hx, hy, jp_inv_st h (fun k p q => ?_) rfl rfl rfl rfl rfl rfl⟩
        rw [jw_up_ne _ q, jw_up_ne _ q, jw_up_ne _ p]
    · have hx : fX11_as s o M = some (-9000000000000000001, M) := by
        unfold fX11_as
        by_cases h3 : o < 0
        · simp (disch := omega) only [↓jp_bs, ↓jp_b2s, ↓reduceIte, jw_up_a, Nat.reduceEqDiff, Int.reduceEq, Int.reduceLT, Int.reduceLE, Int.reduceAdd, Int.reduceSub, Int.reduceMul, Int.reduceNeg, jp_n9_1, jp_n9_8, jp_n9_15, jp_n9_21, jp_n9_24, jp_n10_1, jp_n10_2, jp_n10_3, jp_n10_4, jp_n10_5, jp_n10_6, jp_n17_1, jp_n17_2, jp_n17_3, jp_n17_4, jp_n17_5, jp_n17_6, jp_n24_1, jp_n24_2, jp_n24_3, jp_n24_4, jp_n24_5, jp_n30_1, jp_n30_2, jp_n33_1, jp_n33_2, false_and, true_and, and_true, and_false, and_self, ne_eq, not_true_eq_false, not_false_eq_true, jw_ws, jw_vs, jw_cmp_lt, jw_cmp_gt, jw_cmp_eq, jp_t1, jp_t2, jp_t3, jp_t4, jp_t5, jp_t6, ↓bX10_isSeller, g4]
        · simp (disch := omega) only [↓jp_bs, ↓jp_b2s, ↓reduceIte, jw_up_a, Nat.reduceEqDiff, Int.reduceEq, Int.reduceLT, Int.reduceLE, Int.reduceAdd, Int.reduceSub, Int.reduceMul, Int.reduceNeg, jp_n9_1, jp_n9_8, jp_n9_15, jp_n9_21, jp_n9_24, jp_n10_1, jp_n10_2, jp_n10_3, jp_n10_4, jp_n10_5, jp_n10_6, jp_n17_1, jp_n17_2, jp_n17_3, jp_n17_4, jp_n17_5, jp_n17_6, jp_n24_1, jp_n24_2, jp_n24_3, jp_n24_4, jp_n24_5, jp_n30_1, jp_n30_2, jp_n33_1, jp_n33_2, false_and, true_and, and_true, and_false, and_self, ne_eq, not_true_eq_false, not_false_eq_true, jw_ws, jw_vs, jw_cmp_lt, jw_cmp_gt, jw_cmp_eq, jp_t1, jp_t2, jp_t3, jp_t4, jp_t5, jp_t6, ↓bX10_isSeller, g4]
      refine ⟨_, _, _, hx, ?_, jp_th h 0⟩
      unfold fX12_as
      simp (disch := omega) only [↓jp_bs, ↓jp_b2s, ↓reduceIte, jw_up_a, Nat.reduceEqDiff, Int.reduceEq, Int.reduceLT, Int.reduceLE, Int.reduceAdd, Int.reduceSub, Int.reduceMul, Int.reduceNeg, jp_n9_1, jp_n9_8, jp_n9_15, jp_n9_21, jp_n9_24, jp_n10_1, jp_n10_2, jp_n10_3, jp_n10_4, jp_n10_5, jp_n10_6, jp_n17_1, jp_n17_2, jp_n17_3, jp_n17_4, jp_n17_5, jp_n17_6, jp_n24_1, jp_n24_2, jp_n24_3, jp_n24_4, jp_n24_5, jp_n30_1, jp_n30_2, jp_n33_1, jp_n33_2, false_and, true_and, and_true, and_false, and_self, ne_eq, not_true_eq_false, not_false_eq_true, jw_ws, jw_vs, jw_cmp_lt, jw_cmp_gt, jw_cmp_eq, jp_t1, jp_t2, jp_t3, jp_t4, jp_t5, jp_t6, ↓bX12_isSeller hA1, ↓bX12_in]
  · have hx : fX11_as s o M = some (-9000000000000000001, M) := by
      unfold fX11_as
      simp (disch := omega) only [↓jp_bs, ↓jp_b2s, ↓reduceIte, jw_up_a, Nat.reduceEqDiff, Int.reduceEq, Int.reduceLT, Int.reduceLE, Int.reduceAdd, Int.reduceSub, Int.reduceMul, Int.reduceNeg, jp_n9_1, jp_n9_8, jp_n9_15, jp_n9_21, jp_n9_24, jp_n10_1, jp_n10_2, jp_n10_3, jp_n10_4, jp_n10_5, jp_n10_6, jp_n17_1, jp_n17_2, jp_n17_3, jp_n17_4, jp_n17_5, jp_n17_6, jp_n24_1, jp_n24_2, jp_n24_3, jp_n24_4, jp_n24_5, jp_n30_1, jp_n30_2, jp_n33_1, jp_n33_2, false_and, true_and, and_true, and_false, and_self, ne_eq, not_true_eq_false, not_false_eq_true, jw_ws, jw_vs, jw_cmp_lt, jw_cmp_gt, jw_cmp_eq, jp_t1, jp_t2, jp_t3, jp_t4, jp_t5, jp_t6, ↓bX10_isSeller, g4]
    refine ⟨_, _, _, hx, ?_, jp_th h 0⟩
    unfold fX12_as
    simp (disch := omega) only [↓jp_bs, ↓jp_b2s, ↓reduceIte, jw_up_a, Nat.reduceEqDiff, Int.reduceEq, Int.reduceLT, Int.reduceLE, Int.reduceAdd, Int.reduceSub, Int.reduceMul, Int.reduceNeg, jp_n9_1, jp_n9_8, jp_n9_15, jp_n9_21, jp_n9_24, jp_n10_1, jp_n10_2, jp_n10_3, jp_n10_4, jp_n10_5, jp_n10_6, jp_n17_1, jp_n17_2, jp_n17_3, jp_n17_4, jp_n17_5, jp_n17_6, jp_n24_1, jp_n24_2, jp_n24_3, jp_n24_4, jp_n24_5, jp_n30_1, jp_n30_2, jp_n33_1, jp_n33_2, false_and, true_and, and_true, and_false, and_self, ne_eq, not_true_eq_false, not_false_eq_true, jw_ws, jw_vs, jw_cmp_lt, jw_cmp_gt, jw_cmp_eq, jp_t1, jp_t2, jp_t3, jp_t4, jp_t5, jp_t6, ↓bX12_isSeller hA1, ↓bX12_in]
theorem jp_D_t {M : jw_M} (hD : jp_D M) (c : Int) : 0 ≤ jp_ct (M 133) c (M 133 9).toNat ∧ jp_ct (M 133) c (M 133 9).toNat ≤ 12 := by
  have h1 := jp_ct_r (M 133) c (M 133 9).toNat
  have h2 := hD.1.1
  omega
theorem gX1_fearedAbove {M : jw_M} (hD : jp_D M) (c : Int) (hc : 0 ≤ c ∧ c < 7) : fX1_fearedAbove (9 + 21) c M = some (jp_ct (M 133) c (M 133 9).toNat + 1) := by
  have h1 := jp_D_t hD c
  have h2 := hD.2.2.2.2.2.2.2.2.2.2.2.1 c hc.1 hc.2
  unfold fX1_fearedAbove
  rw [if_pos (by decide)]
  simp (disch := omega) only [↓jp_bs, ↓jp_b2s, ↓reduceIte, jw_up_a, Nat.reduceEqDiff, Int.reduceEq, Int.reduceLT, Int.reduceLE, Int.reduceAdd, Int.reduceSub, Int.reduceMul, Int.reduceNeg, jp_n9_1, jp_n9_8, jp_n9_15, jp_n9_21, jp_n9_24, jp_n10_1, jp_n10_2, jp_n10_3, jp_n10_4, jp_n10_5, jp_n10_6, jp_n17_1, jp_n17_2, jp_n17_3, jp_n17_4, jp_n17_5, jp_n17_6, jp_n24_1, jp_n24_2, jp_n24_3, jp_n24_4, jp_n24_5, jp_n30_1, jp_n30_2, jp_n33_1, jp_n33_2, false_and, true_and, and_true, and_false, and_self, ne_eq, not_true_eq_false, not_false_eq_true, jw_ws, jw_vs, jw_cmp_lt, jw_cmp_gt, jw_cmp_eq, jp_t1, jp_t2, jp_t3, jp_t4, jp_t5, jp_t6, h2]
theorem bX1_fearedAbove {M : jw_M} (hD : jp_D M) (c : Int) (hc : 0 ≤ c ∧ c < 7) {be : Type} (kk : _ → Option be) : Option.bind (fX1_fearedAbove (9 + 21) c M) kk = kk ((jp_ct (M 133) c (M 133 9).toNat + 1)) := by rw [show fX1_fearedAbove (9 + 21) c M = some (jp_ct (M 133) c (M 133 9).toNat + 1) from gX1_fearedAbove hD c hc]; rfl
theorem gX1_fearedBelow {M : jw_M} (hD : jp_D M) : fX1_fearedBelow (9 + 21) M = some (M 133 9 + 2) := by
  have h1 := hD.1
  have h2 := hD.2.2.2.2.2.2.2.2.2.2.1
  unfold fX1_fearedBelow
  rw [if_pos (by decide)]
  simp (disch := omega) only [↓jp_bs, ↓jp_b2s, ↓reduceIte, jw_up_a, Nat.reduceEqDiff, Int.reduceEq, Int.reduceLT, Int.reduceLE, Int.reduceAdd, Int.reduceSub, Int.reduceMul, Int.reduceNeg, jp_n9_1, jp_n9_8, jp_n9_15, jp_n9_21, jp_n9_24, jp_n10_1, jp_n10_2, jp_n10_3, jp_n10_4, jp_n10_5, jp_n10_6, jp_n17_1, jp_n17_2, jp_n17_3, jp_n17_4, jp_n17_5, jp_n17_6, jp_n24_1, jp_n24_2, jp_n24_3, jp_n24_4, jp_n24_5, jp_n30_1, jp_n30_2, jp_n33_1, jp_n33_2, false_and, true_and, and_true, and_false, and_self, ne_eq, not_true_eq_false, not_false_eq_true, jw_ws, jw_vs, jw_cmp_lt, jw_cmp_gt, jw_cmp_eq, jp_t1, jp_t2, jp_t3, jp_t4, jp_t5, jp_t6, h2]
theorem bX1_fearedBelow {M : jw_M} (hD : jp_D M) {be : Type} (kk : _ → Option be) : Option.bind (fX1_fearedBelow (9 + 21) M) kk = kk ((M 133 9 + 2)) := by rw [show fX1_fearedBelow (9 + 21) M = some (M 133 9 + 2) from gX1_fearedBelow hD]; rfl
theorem jp_feared {M : jw_M} (h : jp_inv M) (c w : Int) : jp_ok1 (fX11_feared c w M) M (fX12_feared c w) := by
  have hA := jp_inv_A h
  have hA1 := jp_A_th hA 0 0
  have hD := jp_inv_D h
  obtain ⟨⟨c0, -⟩, -, g4, g7⟩ := jp_A_c hA
  obtain ⟨⟨r0, r2, r3, r4, r5⟩, -⟩ := jp_A_r hA
  have h9 := hD.1.1
  by_cases h1 : (0 ≤ c ∧ c < M 131 0) ∧ 0 ≤ w ∧ w ≤ 1
  · have hc := jp_D_t hD c
    have hn : ∀ d : Int, 0 ≤ d → d < 12 → 0 ≤ jw_up M 127 0 0 133 (10 + d) ∧ jw_up M 127 0 0 133 (10 + d) < 128 := hD.2.1
    have ht : fX12_timesAt c (jw_up M 127 0 0) = some (jp_ct (M 133) c (M 133 9).toNat) := gX12_timesAt c (jw_up M 127 0 0) (by omega) h9 hn
    refine ⟨jp_red (jp_ct (M 133) c (M 133 9).toNat + 1) (M 133 9 + 2) w, _, ?_, ?_, jp_th h 0⟩
    · unfold fX11_feared
      simp (disch := omega) only [↓jp_bs, ↓jp_b2s, ↓reduceIte, jw_up_a, Nat.reduceEqDiff, Int.reduceEq, Int.reduceLT, Int.reduceLE, Int.reduceAdd, Int.reduceSub, Int.reduceMul, Int.reduceNeg, jp_n9_1, jp_n9_8, jp_n9_15, jp_n9_21, jp_n9_24, jp_n10_1, jp_n10_2, jp_n10_3, jp_n10_4, jp_n10_5, jp_n10_6, jp_n17_1, jp_n17_2, jp_n17_3, jp_n17_4, jp_n17_5, jp_n17_6, jp_n24_1, jp_n24_2, jp_n24_3, jp_n24_4, jp_n24_5, jp_n30_1, jp_n30_2, jp_n33_1, jp_n33_2, false_and, true_and, and_true, and_false, and_self, ne_eq, not_true_eq_false, not_false_eq_true, jw_ws, jw_vs, jw_cmp_lt, jw_cmp_gt, jw_cmp_eq, jp_t1, jp_t2, jp_t3, jp_t4, jp_t5, jp_t6, ↓bX9_isCorner, ↓bX11_isHalf, c0, ↓bX1_fearedAbove hD, ↓bX1_fearedBelow hD, ↓bX11_half]
    · unfold fX12_feared
      simp (disch := omega) only [↓jp_bs, ↓jp_b2s, ↓reduceIte, jw_up_a, Nat.reduceEqDiff, Int.reduceEq, Int.reduceLT, Int.reduceLE, Int.reduceAdd, Int.reduceSub, Int.reduceMul, Int.reduceNeg, jp_n9_1, jp_n9_8, jp_n9_15, jp_n9_21, jp_n9_24, jp_n10_1, jp_n10_2, jp_n10_3, jp_n10_4, jp_n10_5, jp_n10_6, jp_n17_1, jp_n17_2, jp_n17_3, jp_n17_4, jp_n17_5, jp_n17_6, jp_n24_1, jp_n24_2, jp_n24_3, jp_n24_4, jp_n24_5, jp_n30_1, jp_n30_2, jp_n33_1, jp_n33_2, false_and, true_and, and_true, and_false, and_self, ne_eq, not_true_eq_false, not_false_eq_true, jw_ws, jw_vs, jw_cmp_lt, jw_cmp_gt, jw_cmp_eq, jp_t1, jp_t2, jp_t3, jp_t4, jp_t5, jp_t6, ↓bX12_isCorner hA1, ↓bX12_in, ht, ↓bX12_partOf]
  · refine ⟨-9000000000000000001, _, ?_, ?_, jp_th h 0⟩
    · unfold fX11_feared
      by_cases h2 : 0 ≤ c ∧ c < M 131 0
      · simp (disch := omega) only [↓jp_bs, ↓jp_b2s, ↓reduceIte, jw_up_a, Nat.reduceEqDiff, Int.reduceEq, Int.reduceLT, Int.reduceLE, Int.reduceAdd, Int.reduceSub, Int.reduceMul, Int.reduceNeg, jp_n9_1, jp_n9_8, jp_n9_15, jp_n9_21, jp_n9_24, jp_n10_1, jp_n10_2, jp_n10_3, jp_n10_4, jp_n10_5, jp_n10_6, jp_n17_1, jp_n17_2, jp_n17_3, jp_n17_4, jp_n17_5, jp_n17_6, jp_n24_1, jp_n24_2, jp_n24_3, jp_n24_4, jp_n24_5, jp_n30_1, jp_n30_2, jp_n33_1, jp_n33_2, false_and, true_and, and_true, and_false, and_self, ne_eq, not_true_eq_false, not_false_eq_true, jw_ws, jw_vs, jw_cmp_lt, jw_cmp_gt, jw_cmp_eq, jp_t1, jp_t2, jp_t3, jp_t4, jp_t5, jp_t6, ↓bX9_isCorner, ↓bX11_isHalf, c0]
      · simp (disch := omega) only [↓jp_bs, ↓jp_b2s, ↓reduceIte, jw_up_a, Nat.reduceEqDiff, Int.reduceEq, Int.reduceLT, Int.reduceLE, Int.reduceAdd, Int.reduceSub, Int.reduceMul, Int.reduceNeg, jp_n9_1, jp_n9_8, jp_n9_15, jp_n9_21, jp_n9_24, jp_n10_1, jp_n10_2, jp_n10_3, jp_n10_4, jp_n10_5, jp_n10_6, jp_n17_1, jp_n17_2, jp_n17_3, jp_n17_4, jp_n17_5, jp_n17_6, jp_n24_1, jp_n24_2, jp_n24_3, jp_n24_4, jp_n24_5, jp_n30_1, jp_n30_2, jp_n33_1, jp_n33_2, false_and, true_and, and_true, and_false, and_self, ne_eq, not_true_eq_false, not_false_eq_true, jw_ws, jw_vs, jw_cmp_lt, jw_cmp_gt, jw_cmp_eq, jp_t1, jp_t2, jp_t3, jp_t4, jp_t5, jp_t6, ↓bX9_isCorner, ↓bX11_isHalf, c0]
    · unfold fX12_feared
      by_cases h2 : 0 ≤ c ∧ c < M 131 0
      · simp (disch := omega) only [↓jp_bs, ↓jp_b2s, ↓reduceIte, jw_up_a, Nat.reduceEqDiff, Int.reduceEq, Int.reduceLT, Int.reduceLE, Int.reduceAdd, Int.reduceSub, Int.reduceMul, Int.reduceNeg, jp_n9_1, jp_n9_8, jp_n9_15, jp_n9_21, jp_n9_24, jp_n10_1, jp_n10_2, jp_n10_3, jp_n10_4, jp_n10_5, jp_n10_6, jp_n17_1, jp_n17_2, jp_n17_3, jp_n17_4, jp_n17_5, jp_n17_6, jp_n24_1, jp_n24_2, jp_n24_3, jp_n24_4, jp_n24_5, jp_n30_1, jp_n30_2, jp_n33_1, jp_n33_2, false_and, true_and, and_true, and_false, and_self, ne_eq, not_true_eq_false, not_false_eq_true, jw_ws, jw_vs, jw_cmp_lt, jw_cmp_gt, jw_cmp_eq, jp_t1, jp_t2, jp_t3, jp_t4, jp_t5, jp_t6, ↓bX12_isCorner hA1, ↓bX12_in]
      · simp (disch := omega) only [↓jp_bs, ↓jp_b2s, ↓reduceIte, jw_up_a, Nat.reduceEqDiff, Int.reduceEq, Int.reduceLT, Int.reduceLE, Int.reduceAdd, Int.reduceSub, Int.reduceMul, Int.reduceNeg, jp_n9_1, jp_n9_8, jp_n9_15, jp_n9_21, jp_n9_24, jp_n10_1, jp_n10_2, jp_n10_3, jp_n10_4, jp_n10_5, jp_n10_6, jp_n17_1, jp_n17_2, jp_n17_3, jp_n17_4, jp_n17_5, jp_n17_6, jp_n24_1, jp_n24_2, jp_n24_3, jp_n24_4, jp_n24_5, jp_n30_1, jp_n30_2, jp_n33_1, jp_n33_2, false_and, true_and, and_true, and_false, and_self, ne_eq, not_true_eq_false, not_false_eq_true, jw_ws, jw_vs, jw_cmp_lt, jw_cmp_gt, jw_cmp_eq, jp_t1, jp_t2, jp_t3, jp_t4, jp_t5, jp_t6, ↓bX12_isCorner hA1, ↓bX12_in]
def jp_nth (M : jw_M) (w i : Int) : Int := if jp_hk (M 131) (M 133 (5 + w)) (M 133 i) < 1000000 then M 131 (63 + 3 * M 131 (90 + i)) + M 131 88 else 0
theorem jp_nth_r {M : jw_M} (hA : jp_A M) (w i : Int) (hi : 0 ≤ i ∧ i < M 131 3) : 0 ≤ jp_nth M w i ∧ jp_nth M w i ≤ 39 := by
  have h1 := jp_gds hA hi
  have h2 := (jp_A_r hA).2
  unfold jp_nth
  split <;> omega
theorem jp_sum_r {f : Int → Int} {lo hi n : Int} (hn : 0 ≤ n ∧ n ≤ 5) (h : ∀ i : Int, 0 ≤ i → i < n → lo ≤ f i ∧ f i ≤ hi) (hlo : lo ≤ 0) (hhi : 0 ≤ hi) (i : Int) (h0 : 0 ≤ i) (h1 : i ≤ n) : 5 * lo ≤ jp_sum f i.toNat ∧ jp_sum f i.toNat ≤ 5 * hi := by
  have hb := jp_sum_b f lo hi i.toNat (fun j p q => h j p (by omega))
  have e : (i.toNat : Int) = i := by omega
  rw [e] at hb
  have a1 : i = 0 ∨ i = 1 ∨ i = 2 ∨ i = 3 ∨ i = 4 ∨ i = 5 := by omega
  rcases a1 with rfl | rfl | rfl | rfl | rfl | rfl <;> omega
theorem jp_nothing {M : jw_M} (h : jp_inv M) (w : Int) : jp_ok1 (fX11_nothing w M) M (fX12_nothing w) := by
  have hA := jp_inv_A h
  have hA1 := jp_A_th hA 0 0
  have hB := jp_inv_B h
  obtain ⟨⟨c0, -⟩, -, g4, g7⟩ := jp_A_c hA
  obtain ⟨⟨r0, r2, r3, r4, r5⟩, -, rq, -⟩ := jp_A_r hA
  by_cases h1 : 0 ≤ w ∧ w < M 131 4
  · obtain ⟨w1, w2, w3⟩ := hB.2 w h1.1 h1.2
    refine ⟨jp_sum (jp_nth M w) (M 131 3).toNat, _, ?_, ?_, jp_th h 0⟩
    · unfold fX11_nothing
      simp (disch := omega) only [↓jp_bs, ↓jp_b2s, ↓reduceIte, jw_up_a, Nat.reduceEqDiff, Int.reduceEq, Int.reduceLT, Int.reduceLE, Int.reduceAdd, Int.reduceSub, Int.reduceMul, Int.reduceNeg, jp_n9_1, jp_n9_8, jp_n9_15, jp_n9_21, jp_n9_24, jp_n10_1, jp_n10_2, jp_n10_3, jp_n10_4, jp_n10_5, jp_n10_6, jp_n17_1, jp_n17_2, jp_n17_3, jp_n17_4, jp_n17_5, jp_n17_6, jp_n24_1, jp_n24_2, jp_n24_3, jp_n24_4, jp_n24_5, jp_n30_1, jp_n30_2, jp_n33_1, jp_n33_2, false_and, true_and, and_true, and_false, and_self, ne_eq, not_true_eq_false, not_false_eq_true, jw_ws, jw_vs, jw_cmp_lt, jw_cmp_gt, jw_cmp_eq, jp_t1, jp_t2, jp_t3, jp_t4, jp_t5, jp_t6, ↓bX10_isWatcher, g7, w1]
      refine jp_up (fun k i a => fX11_nothing_37 M k a (M 133 (5 + w)) i) (M 131 3) (fun i a => 0 ≤ i ∧ a = jp_sum (jp_nth M w) i.toNat) (fun x => x = some (jp_sum (jp_nth M w) (M 131 3).toNat)) ?_ ?_ jw_fu 0 0 (by unfold jw_fu; omega) (by omega) ⟨by omega, rfl⟩
      · intro k i a hp hi ih
        obtain ⟨h0, rfl⟩ := hp
        obtain ⟨b1, b2, b3⟩ := hB.1 i h0 hi
        have q1 := jp_nth_r hA w i ⟨h0, hi⟩
        have q2 := jp_sum_r r3 (fun j p q => jp_nth_r hA w j ⟨p, q⟩) (by omega) (by omega) i h0 (by omega)
        have q3 := jp_gds hA ⟨h0, hi⟩
        show fX11_nothing_37 _ _ _ _ _ = _
        rw [fX11_nothing_37]
        unfold fX11_nothing_96
        by_cases hh : jp_hk (M 131) (M 133 (5 + w)) (M 133 i) < 1000000
        · have e : jp_nth M w i = M 131 (63 + 3 * M 131 (90 + i)) + M 131 88 := if_pos hh
          simp (disch := omega) only [↓jp_bs, ↓jp_b2s, ↓reduceIte, jw_up_a, Nat.reduceEqDiff, Int.reduceEq, Int.reduceLT, Int.reduceLE, Int.reduceAdd, Int.reduceSub, Int.reduceMul, Int.reduceNeg, jp_n9_1, jp_n9_8, jp_n9_15, jp_n9_21, jp_n9_24, jp_n10_1, jp_n10_2, jp_n10_3, jp_n10_4, jp_n10_5, jp_n10_6, jp_n17_1, jp_n17_2, jp_n17_3, jp_n17_4, jp_n17_5, jp_n17_6, jp_n24_1, jp_n24_2, jp_n24_3, jp_n24_4, jp_n24_5, jp_n30_1, jp_n30_2, jp_n33_1, jp_n33_2, false_and, true_and, and_true, and_false, and_self, ne_eq, not_true_eq_false, not_false_eq_true, jw_ws, jw_vs, jw_cmp_lt, jw_cmp_gt, jw_cmp_eq, jp_t1, jp_t2, jp_t3, jp_t4, jp_t5, jp_t6, g4, ↓bX9_hearingTo hA, ↓bX7_minutesGone hA, b1]
          exact ih _ ⟨by omega, by rw [jp_sum_s _ h0, e]⟩
        · have e : jp_nth M w i = 0 := if_neg hh
          simp (disch := omega) only [↓jp_bs, ↓jp_b2s, ↓reduceIte, jw_up_a, Nat.reduceEqDiff, Int.reduceEq, Int.reduceLT, Int.reduceLE, Int.reduceAdd, Int.reduceSub, Int.reduceMul, Int.reduceNeg, jp_n9_1, jp_n9_8, jp_n9_15, jp_n9_21, jp_n9_24, jp_n10_1, jp_n10_2, jp_n10_3, jp_n10_4, jp_n10_5, jp_n10_6, jp_n17_1, jp_n17_2, jp_n17_3, jp_n17_4, jp_n17_5, jp_n17_6, jp_n24_1, jp_n24_2, jp_n24_3, jp_n24_4, jp_n24_5, jp_n30_1, jp_n30_2, jp_n33_1, jp_n33_2, false_and, true_and, and_true, and_false, and_self, ne_eq, not_true_eq_false, not_false_eq_true, jw_ws, jw_vs, jw_cmp_lt, jw_cmp_gt, jw_cmp_eq, jp_t1, jp_t2, jp_t3, jp_t4, jp_t5, jp_t6, g4, ↓bX9_hearingTo hA, ↓bX7_minutesGone hA, b1]
          exact ih _ ⟨by omega, by rw [jp_sum_s _ h0, e]; omega⟩
      · intro k a hp
        obtain ⟨h0, rfl⟩ := hp
        show fX11_nothing_37 _ _ _ _ _ = _
        rw [fX11_nothing_37]
        simp (disch := omega) only [↓jp_bs, ↓jp_b2s, ↓reduceIte, jw_up_a, Nat.reduceEqDiff, Int.reduceEq, Int.reduceLT, Int.reduceLE, Int.reduceAdd, Int.reduceSub, Int.reduceMul, Int.reduceNeg, jp_n9_1, jp_n9_8, jp_n9_15, jp_n9_21, jp_n9_24, jp_n10_1, jp_n10_2, jp_n10_3, jp_n10_4, jp_n10_5, jp_n10_6, jp_n17_1, jp_n17_2, jp_n17_3, jp_n17_4, jp_n17_5, jp_n17_6, jp_n24_1, jp_n24_2, jp_n24_3, jp_n24_4, jp_n24_5, jp_n30_1, jp_n30_2, jp_n33_1, jp_n33_2, false_and, true_and, and_true, and_false, and_self, ne_eq, not_true_eq_false, not_false_eq_true, jw_ws, jw_vs, jw_cmp_lt, jw_cmp_gt, jw_cmp_eq, jp_t1, jp_t2, jp_t3, jp_t4, jp_t5, jp_t6, g4]
    · unfold fX12_nothing
      simp (disch := omega) only [↓jp_bs, ↓jp_b2s, ↓reduceIte, jw_up_a, Nat.reduceEqDiff, Int.reduceEq, Int.reduceLT, Int.reduceLE, Int.reduceAdd, Int.reduceSub, Int.reduceMul, Int.reduceNeg, jp_n9_1, jp_n9_8, jp_n9_15, jp_n9_21, jp_n9_24, jp_n10_1, jp_n10_2, jp_n10_3, jp_n10_4, jp_n10_5, jp_n10_6, jp_n17_1, jp_n17_2, jp_n17_3, jp_n17_4, jp_n17_5, jp_n17_6, jp_n24_1, jp_n24_2, jp_n24_3, jp_n24_4, jp_n24_5, jp_n30_1, jp_n30_2, jp_n33_1, jp_n33_2, false_and, true_and, and_true, and_false, and_self, ne_eq, not_true_eq_false, not_false_eq_true, jw_ws, jw_vs, jw_cmp_lt, jw_cmp_gt, jw_cmp_eq, jp_t1, jp_t2, jp_t3, jp_t4, jp_t5, jp_t6, ↓bX12_isWatcher hA1]
      have r3' : 0 ≤ jw_up M 127 0 0 131 3 ∧ jw_up M 127 0 0 131 3 ≤ 5 := r3
      refine jp_up (fun k i a => fX12_nothing_21 k w a i (jw_up M 127 0 0)) (M 131 3) (fun i a => 0 ≤ i ∧ a = jp_sum (jp_nth M w) i.toNat) (fun x => x = some (jp_sum (jp_nth M w) (M 131 3).toNat, jw_up M 127 0 0)) ?_ ?_ jw_fu 0 0 (by unfold jw_fu; omega) (by omega) ⟨by omega, rfl⟩
      · intro k i a hp hi ih
        obtain ⟨h0, rfl⟩ := hp
        obtain ⟨b1, b2, b3⟩ := hB.1 i h0 hi
        have q1 := jp_nth_r hA w i ⟨h0, hi⟩
        have q2 := jp_sum_r r3 (fun j p q => jp_nth_r hA w j ⟨p, q⟩) (by omega) (by omega) i h0 (by omega)
        have q3 := jp_gds hA ⟨h0, hi⟩
        have q4 := (hA.2.2.2.2.2.2.2.2.2 (M 133 (5 + w)) (M 133 i) w2 w3 b2 b3).2
        have q5 : fX12_goodsOf i 0 (jw_up M 127 0 0) = some (M 131 (63 + 3 * M 131 (90 + i))) := gX12_goodsOf0 hA1 i ⟨h0, hi⟩
        show fX12_nothing_21 _ _ _ _ _ = _
        rw [fX12_nothing_21]
        unfold fX12_nothing_80
        by_cases hh : jp_hk (M 131) (M 133 (5 + w)) (M 133 i) < 1000000
        · have e : jp_nth M w i = M 131 (63 + 3 * M 131 (90 + i)) + M 131 88 := if_pos hh
          simp (disch := omega) only [↓jp_bs, ↓jp_b2s, ↓reduceIte, jw_up_a, Nat.reduceEqDiff, Int.reduceEq, Int.reduceLT, Int.reduceLE, Int.reduceAdd, Int.reduceSub, Int.reduceMul, Int.reduceNeg, jp_n9_1, jp_n9_8, jp_n9_15, jp_n9_21, jp_n9_24, jp_n10_1, jp_n10_2, jp_n10_3, jp_n10_4, jp_n10_5, jp_n10_6, jp_n17_1, jp_n17_2, jp_n17_3, jp_n17_4, jp_n17_5, jp_n17_6, jp_n24_1, jp_n24_2, jp_n24_3, jp_n24_4, jp_n24_5, jp_n30_1, jp_n30_2, jp_n33_1, jp_n33_2, false_and, true_and, and_true, and_false, and_self, ne_eq, not_true_eq_false, not_false_eq_true, jw_ws, jw_vs, jw_cmp_lt, jw_cmp_gt, jw_cmp_eq, jp_t1, jp_t2, jp_t3, jp_t4, jp_t5, jp_t6, Int.zero_add, q4, q5]
          exact ih _ ⟨by omega, by rw [jp_sum_s _ h0, e]⟩
        · have e : jp_nth M w i = 0 := if_neg hh
          simp (disch := omega) only [↓jp_bs, ↓jp_b2s, ↓reduceIte, jw_up_a, Nat.reduceEqDiff, Int.reduceEq, Int.reduceLT, Int.reduceLE, Int.reduceAdd, Int.reduceSub, Int.reduceMul, Int.reduceNeg, jp_n9_1, jp_n9_8, jp_n9_15, jp_n9_21, jp_n9_24, jp_n10_1, jp_n10_2, jp_n10_3, jp_n10_4, jp_n10_5, jp_n10_6, jp_n17_1, jp_n17_2, jp_n17_3, jp_n17_4, jp_n17_5, jp_n17_6, jp_n24_1, jp_n24_2, jp_n24_3, jp_n24_4, jp_n24_5, jp_n30_1, jp_n30_2, jp_n33_1, jp_n33_2, false_and, true_and, and_true, and_false, and_self, ne_eq, not_true_eq_false, not_false_eq_true, jw_ws, jw_vs, jw_cmp_lt, jw_cmp_gt, jw_cmp_eq, jp_t1, jp_t2, jp_t3, jp_t4, jp_t5, jp_t6, Int.zero_add, q4]
          exact ih _ ⟨by omega, by rw [jp_sum_s _ h0, e]⟩
      · intro k a hp
        obtain ⟨h0, rfl⟩ := hp
        show fX12_nothing_21 _ _ _ _ _ = _
        rw [fX12_nothing_21]
        simp (disch := omega) only [↓jp_bs, ↓jp_b2s, ↓reduceIte, jw_up_a, Nat.reduceEqDiff, Int.reduceEq, Int.reduceLT, Int.reduceLE, Int.reduceAdd, Int.reduceSub, Int.reduceMul, Int.reduceNeg, jp_n9_1, jp_n9_8, jp_n9_15, jp_n9_21, jp_n9_24, jp_n10_1, jp_n10_2, jp_n10_3, jp_n10_4, jp_n10_5, jp_n10_6, jp_n17_1, jp_n17_2, jp_n17_3, jp_n17_4, jp_n17_5, jp_n17_6, jp_n24_1, jp_n24_2, jp_n24_3, jp_n24_4, jp_n24_5, jp_n30_1, jp_n30_2, jp_n33_1, jp_n33_2, false_and, true_and, and_true, and_false, and_self, ne_eq, not_true_eq_false, not_false_eq_true, jw_ws, jw_vs, jw_cmp_lt, jw_cmp_gt, jw_cmp_eq, jp_t1, jp_t2, jp_t3, jp_t4, jp_t5, jp_t6]
  · refine ⟨-9000000000000000001, _, ?_, ?_, jp_th h 0⟩
    · unfold fX11_nothing
      simp (disch := omega) only [↓jp_bs, ↓jp_b2s, ↓reduceIte, jw_up_a, Nat.reduceEqDiff, Int.reduceEq, Int.reduceLT, Int.reduceLE, Int.reduceAdd, Int.reduceSub, Int.reduceMul, Int.reduceNeg, jp_n9_1, jp_n9_8, jp_n9_15, jp_n9_21, jp_n9_24, jp_n10_1, jp_n10_2, jp_n10_3, jp_n10_4, jp_n10_5, jp_n10_6, jp_n17_1, jp_n17_2, jp_n17_3, jp_n17_4, jp_n17_5, jp_n17_6, jp_n24_1, jp_n24_2, jp_n24_3, jp_n24_4, jp_n24_5, jp_n30_1, jp_n30_2, jp_n33_1, jp_n33_2, false_and, true_and, and_true, and_false, and_self, ne_eq, not_true_eq_false, not_false_eq_true, jw_ws, jw_vs, jw_cmp_lt, jw_cmp_gt, jw_cmp_eq, jp_t1, jp_t2, jp_t3, jp_t4, jp_t5, jp_t6, ↓bX10_isWatcher, g7]
    · unfold fX12_nothing
      simp (disch := omega) only [↓jp_bs, ↓jp_b2s, ↓reduceIte, jw_up_a, Nat.reduceEqDiff, Int.reduceEq, Int.reduceLT, Int.reduceLE, Int.reduceAdd, Int.reduceSub, Int.reduceMul, Int.reduceNeg, jp_n9_1, jp_n9_8, jp_n9_15, jp_n9_21, jp_n9_24, jp_n10_1, jp_n10_2, jp_n10_3, jp_n10_4, jp_n10_5, jp_n10_6, jp_n17_1, jp_n17_2, jp_n17_3, jp_n17_4, jp_n17_5, jp_n17_6, jp_n24_1, jp_n24_2, jp_n24_3, jp_n24_4, jp_n24_5, jp_n30_1, jp_n30_2, jp_n33_1, jp_n33_2, false_and, true_and, and_true, and_false, and_self, ne_eq, not_true_eq_false, not_false_eq_true, jw_ws, jw_vs, jw_cmp_lt, jw_cmp_gt, jw_cmp_eq, jp_t1, jp_t2, jp_t3, jp_t4, jp_t5, jp_t6, ↓bX12_isWatcher hA1]
