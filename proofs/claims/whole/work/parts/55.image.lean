/-! image, restore -/
theorem gX12_image_l (a : Int) (ha : 0 ≤ a ∧ a < 2) (M : jw_M) : ∃ N : jw_M, fX12_image_32 jw_fu a 0 M = some (1, N) ∧ (∀ j : Int, N 145 j = if 104 * a ≤ j ∧ j < 104 * a + 104 then M 131 (j - 104 * a) else M 145 j) ∧ (∀ j : Int, N 146 j = if 104 * a ≤ j ∧ j < 104 * a + 104 then M 133 (j - 104 * a) else M 146 j) ∧ (∀ j : Int, N 144 j = if j = a then 1 else M 144 j) ∧ (∀ k : Nat, k ≠ 144 → k ≠ 145 → k ≠ 146 → N k = M k) := by
  refine jp_up (fun k i N => fX12_image_32 k a i N) 104 (fun i N => 0 ≤ i ∧ (∀ j : Int, N 145 j = if 104 * a ≤ j ∧ j < 104 * a + i then M 131 (j - 104 * a) else M 145 j) ∧ (∀ k : Nat, k ≠ 145 → N k = M k)) (fun x => ∃ N : jw_M, x = some (1, N) ∧ (∀ j : Int, N 145 j = if 104 * a ≤ j ∧ j < 104 * a + 104 then M 131 (j - 104 * a) else M 145 j) ∧ (∀ j : Int, N 146 j = if 104 * a ≤ j ∧ j < 104 * a + 104 then M 133 (j - 104 * a) else M 146 j) ∧ (∀ j : Int, N 144 j = if j = a then 1 else M 144 j) ∧ (∀ k : Nat, k ≠ 144 → k ≠ 145 → k ≠ 146 → N k = M k)) ?_ ?_ jw_fu 0 M (by unfold jw_fu; omega) (by omega) ⟨by omega, fun j => by rw [if_neg (by omega)], fun k _ => rfl⟩
  · intro k i N hp hi ih
    obtain ⟨p0, p1, p2⟩ := hp
    show ∃ N : jw_M, fX12_image_32 (k + 1) a i _ = _ ∧ _
    rw [fX12_image_32]
    simp (disch := omega) only [↓jp_bs, ↓jp_b2s, ↓reduceIte, jw_up_a, Nat.reduceEqDiff, Int.reduceEq, Int.reduceLT, Int.reduceLE, Int.reduceAdd, Int.reduceSub, Int.reduceMul, Int.reduceNeg, jp_n9_1, jp_n9_8, jp_n9_15, jp_n9_21, jp_n9_24, jp_n10_1, jp_n10_2, jp_n10_3, jp_n10_4, jp_n10_5, jp_n10_6, jp_n17_1, jp_n17_2, jp_n17_3, jp_n17_4, jp_n17_5, jp_n17_6, jp_n24_1, jp_n24_2, jp_n24_3, jp_n24_4, jp_n24_5, jp_n30_1, jp_n30_2, jp_n33_1, jp_n33_2, false_and, true_and, and_true, and_false, and_self, ne_eq, not_true_eq_false, not_false_eq_true, jw_ws, jw_vs, jw_cmp_lt, jw_cmp_gt, jw_cmp_eq, jp_t1, jp_t2, jp_t3, jp_t4, jp_t5, jp_t6, p2 131 (by decide)]
    refine ih _ ⟨by omega, fun j => ?_, fun k c => by rw [jw_up_ne _ c, p2 k c]⟩
    simp (disch := omega) only [↓jp_bs, ↓jp_b2s, ↓reduceIte, jw_up_a, Nat.reduceEqDiff, Int.reduceEq, Int.reduceLT, Int.reduceLE, Int.reduceAdd, Int.reduceSub, Int.reduceMul, Int.reduceNeg, jp_n9_1, jp_n9_8, jp_n9_15, jp_n9_21, jp_n9_24, jp_n10_1, jp_n10_2, jp_n10_3, jp_n10_4, jp_n10_5, jp_n10_6, jp_n17_1, jp_n17_2, jp_n17_3, jp_n17_4, jp_n17_5, jp_n17_6, jp_n24_1, jp_n24_2, jp_n24_3, jp_n24_4, jp_n24_5, jp_n30_1, jp_n30_2, jp_n33_1, jp_n33_2, false_and, true_and, and_true, and_false, and_self, ne_eq, not_true_eq_false, not_false_eq_true, jw_ws, jw_vs, jw_cmp_lt, jw_cmp_gt, jw_cmp_eq, jp_t1, jp_t2, jp_t3, jp_t4, jp_t5, jp_t6]
    by_cases e : j = 104 * a + i
    · rw [if_pos e, if_pos (by omega), e]
      congr 1
      omega
    · rw [if_neg e, p1 j]
      by_cases e2 : 104 * a ≤ j ∧ j < 104 * a + i
      · rw [if_pos e2, if_pos (by omega)]
      · rw [if_neg e2, if_neg (by omega)]
  · intro k N hp
    obtain ⟨p0, p1, p2⟩ := hp
    show ∃ N : jw_M, fX12_image_32 (k + 1) a 104 _ = _ ∧ _
    rw [fX12_image_32]
    simp (disch := omega) only [↓jp_bs, ↓jp_b2s, ↓reduceIte, jw_up_a, Nat.reduceEqDiff, Int.reduceEq, Int.reduceLT, Int.reduceLE, Int.reduceAdd, Int.reduceSub, Int.reduceMul, Int.reduceNeg, jp_n9_1, jp_n9_8, jp_n9_15, jp_n9_21, jp_n9_24, jp_n10_1, jp_n10_2, jp_n10_3, jp_n10_4, jp_n10_5, jp_n10_6, jp_n17_1, jp_n17_2, jp_n17_3, jp_n17_4, jp_n17_5, jp_n17_6, jp_n24_1, jp_n24_2, jp_n24_3, jp_n24_4, jp_n24_5, jp_n30_1, jp_n30_2, jp_n33_1, jp_n33_2, false_and, true_and, and_true, and_false, and_self, ne_eq, not_true_eq_false, not_false_eq_true, jw_ws, jw_vs, jw_cmp_lt, jw_cmp_gt, jw_cmp_eq, jp_t1, jp_t2, jp_t3, jp_t4, jp_t5, jp_t6]
    refine jp_up (fun k i N => fX12_image_63 k a i N) 104 (fun i N2 => 0 ≤ i ∧ (∀ j : Int, N2 146 j = if 104 * a ≤ j ∧ j < 104 * a + i then M 133 (j - 104 * a) else M 146 j) ∧ (∀ k : Nat, k ≠ 146 → N2 k = N k)) (fun x => ∃ N : jw_M, x = some (1, N) ∧ (∀ j : Int, N 145 j = if 104 * a ≤ j ∧ j < 104 * a + 104 then M 131 (j - 104 * a) else M 145 j) ∧ (∀ j : Int, N 146 j = if 104 * a ≤ j ∧ j < 104 * a + 104 then M 133 (j - 104 * a) else M 146 j) ∧ (∀ j : Int, N 144 j = if j = a then 1 else M 144 j) ∧ (∀ k : Nat, k ≠ 144 → k ≠ 145 → k ≠ 146 → N k = M k)) ?_ ?_ jw_fu 0 N (by unfold jw_fu; omega) (by omega) ⟨by omega, fun j => by rw [if_neg (by omega), p2 146 (by decide)], fun k _ => rfl⟩
    · intro k i N2 hp hi ih
      obtain ⟨q0, q1, q2⟩ := hp
      have e133 : N2 133 = M 133 := by rw [q2 133 (by decide), p2 133 (by decide)]
      show ∃ N : jw_M, fX12_image_63 (k + 1) a i _ = _ ∧ _
      rw [fX12_image_63]
      simp (disch := omega) only [↓jp_bs, ↓jp_b2s, ↓reduceIte, jw_up_a, Nat.reduceEqDiff, Int.reduceEq, Int.reduceLT, Int.reduceLE, Int.reduceAdd, Int.reduceSub, Int.reduceMul, Int.reduceNeg, jp_n9_1, jp_n9_8, jp_n9_15, jp_n9_21, jp_n9_24, jp_n10_1, jp_n10_2, jp_n10_3, jp_n10_4, jp_n10_5, jp_n10_6, jp_n17_1, jp_n17_2, jp_n17_3, jp_n17_4, jp_n17_5, jp_n17_6, jp_n24_1, jp_n24_2, jp_n24_3, jp_n24_4, jp_n24_5, jp_n30_1, jp_n30_2, jp_n33_1, jp_n33_2, false_and, true_and, and_true, and_false, and_self, ne_eq, not_true_eq_false, not_false_eq_true, jw_ws, jw_vs, jw_cmp_lt, jw_cmp_gt, jw_cmp_eq, jp_t1, jp_t2, jp_t3, jp_t4, jp_t5, jp_t6, e133]
      refine ih _ ⟨by omega, fun j => ?_, fun k c => by rw [jw_up_ne _ c, q2 k c]⟩
      simp (disch := omega) only [↓jp_bs, ↓jp_b2s, ↓reduceIte, jw_up_a, Nat.reduceEqDiff, Int.reduceEq, Int.reduceLT, Int.reduceLE, Int.reduceAdd, Int.reduceSub, Int.reduceMul, Int.reduceNeg, jp_n9_1, jp_n9_8, jp_n9_15, jp_n9_21, jp_n9_24, jp_n10_1, jp_n10_2, jp_n10_3, jp_n10_4, jp_n10_5, jp_n10_6, jp_n17_1, jp_n17_2, jp_n17_3, jp_n17_4, jp_n17_5, jp_n17_6, jp_n24_1, jp_n24_2, jp_n24_3, jp_n24_4, jp_n24_5, jp_n30_1, jp_n30_2, jp_n33_1, jp_n33_2, false_and, true_and, and_true, and_false, and_self, ne_eq, not_true_eq_false, not_false_eq_true, jw_ws, jw_vs, jw_cmp_lt, jw_cmp_gt, jw_cmp_eq, jp_t1, jp_t2, jp_t3, jp_t4, jp_t5, jp_t6]
      by_cases e : j = 104 * a + i
      · rw [if_pos e, if_pos (by omega), e]
        congr 1
        omega
      · rw [if_neg e, q1 j]
        by_cases e2 : 104 * a ≤ j ∧ j < 104 * a + i
        · rw [if_pos e2, if_pos (by omega)]
        · rw [if_neg e2, if_neg (by omega)]
    · intro k N2 hp
      obtain ⟨q0, q1, q2⟩ := hp
      refine ⟨jw_up N2 144 a 1, ?_, fun j => ?_, fun j => ?_, fun j => ?_, fun k c d e => ?_⟩
      · show fX12_image_63 (k + 1) a 104 _ = _
        rw [fX12_image_63]
        simp (disch := omega) only [↓jp_bs, ↓jp_b2s, ↓reduceIte, jw_up_a, Nat.reduceEqDiff, Int.reduceEq, Int.reduceLT, Int.reduceLE, Int.reduceAdd, Int.reduceSub, Int.reduceMul, Int.reduceNeg, jp_n9_1, jp_n9_8, jp_n9_15, jp_n9_21, jp_n9_24, jp_n10_1, jp_n10_2, jp_n10_3, jp_n10_4, jp_n10_5, jp_n10_6, jp_n17_1, jp_n17_2, jp_n17_3, jp_n17_4, jp_n17_5, jp_n17_6, jp_n24_1, jp_n24_2, jp_n24_3, jp_n24_4, jp_n24_5, jp_n30_1, jp_n30_2, jp_n33_1, jp_n33_2, false_and, true_and, and_true, and_false, and_self, ne_eq, not_true_eq_false, not_false_eq_true, jw_ws, jw_vs, jw_cmp_lt, jw_cmp_gt, jw_cmp_eq, jp_t1, jp_t2, jp_t3, jp_t4, jp_t5, jp_t6]
      · rw [jw_up_ne _ (by decide), q2 145 (by decide), p1 j]
      · rw [jw_up_ne _ (by decide), q1 j]
      · rw [jw_up_eq, jw_u1_a, q2 144 (by decide), p2 144 (by decide)]
      · rw [jw_up_ne _ c, q2 k e, p2 k d]
theorem jp_tags (k : Nat) (hk : k < 2) : jw_tag (64 + 27 * k) = 7 ∧ jw_tag (64 + 27 * k + 1) = 9 ∧ jw_tag (64 + 27 * k + 8) = 10 ∧ jw_tag (64 + 27 * k + 15) = 3 ∧ jw_tag (64 + 27 * k + 21) = 1 ∧ jw_tag (64 + 27 * k + 24) = 2 := by
  have h : k = 0 ∨ k = 1 := by omega
  rcases h with rfl | rfl <;> decide
theorem jp_tag9 : jw_tag 9 = 7 ∧ jw_tag (9 + 1) = 9 ∧ jw_tag (9 + 8) = 10 ∧ jw_tag (9 + 15) = 3 ∧ jw_tag (9 + 21) = 1 ∧ jw_tag (9 + 24) = 2 := by decide
theorem jp_kept {s : Nat} {M : jw_M} {T N : Int → Int} (h : jp_S s M T N) : M (s + 15) 1 = 0 ∨ M (s + 15) 1 = 1 := by
  have := h.2.2.2.2.2.2.2.2.2.2.1
  omega
/-- the images' places of the invariant -/
theorem jp_image {M : jw_M} (h : jp_inv M) (a : Int) : jp_ok (fX11_image a M) (fX12_image a) := by
  have hc := h.2.2.2.2.1
  obtain ⟨⟨p1, p2⟩, hT, hN, hS, -⟩ := hc
  by_cases ha : 0 ≤ a ∧ a < 2
  · by_cases hp : M 127 7 = 0
    · have hx : fX11_image a M = some (-9000000000000000002, M) := by
        unfold fX11_image
        simp (disch := omega) only [↓jp_bs, ↓jp_b2s, ↓reduceIte, jw_up_a, Nat.reduceEqDiff, Int.reduceEq, Int.reduceLT, Int.reduceLE, Int.reduceAdd, Int.reduceSub, Int.reduceMul, Int.reduceNeg, jp_n9_1, jp_n9_8, jp_n9_15, jp_n9_21, jp_n9_24, jp_n10_1, jp_n10_2, jp_n10_3, jp_n10_4, jp_n10_5, jp_n10_6, jp_n17_1, jp_n17_2, jp_n17_3, jp_n17_4, jp_n17_5, jp_n17_6, jp_n24_1, jp_n24_2, jp_n24_3, jp_n24_4, jp_n24_5, jp_n30_1, jp_n30_2, jp_n33_1, jp_n33_2, false_and, true_and, and_true, and_false, and_self, ne_eq, not_true_eq_false, not_false_eq_true, jw_ws, jw_vs, jw_cmp_lt, jw_cmp_gt, jw_cmp_eq, jp_t1, jp_t2, jp_t3, jp_t4, jp_t5, jp_t6]
      refine ⟨_, _, _, hx, ?_, jp_th h 0⟩
      unfold fX12_image
      simp (disch := omega) only [↓jp_bs, ↓jp_b2s, ↓reduceIte, jw_up_a, Nat.reduceEqDiff, Int.reduceEq, Int.reduceLT, Int.reduceLE, Int.reduceAdd, Int.reduceSub, Int.reduceMul, Int.reduceNeg, jp_n9_1, jp_n9_8, jp_n9_15, jp_n9_21, jp_n9_24, jp_n10_1, jp_n10_2, jp_n10_3, jp_n10_4, jp_n10_5, jp_n10_6, jp_n17_1, jp_n17_2, jp_n17_3, jp_n17_4, jp_n17_5, jp_n17_6, jp_n24_1, jp_n24_2, jp_n24_3, jp_n24_4, jp_n24_5, jp_n30_1, jp_n30_2, jp_n33_1, jp_n33_2, false_and, true_and, and_true, and_false, and_self, ne_eq, not_true_eq_false, not_false_eq_true, jw_ws, jw_vs, jw_cmp_lt, jw_cmp_gt, jw_cmp_eq, jp_t1, jp_t2, jp_t3, jp_t4, jp_t5, jp_t6, ↓bX12_in]
    · have hp1 : M 127 7 = 1 := by omega
      obtain ⟨k, hk, rfl⟩ : ∃ k : Nat, k < 2 ∧ a = (k : Int) := ⟨a.toNat, by omega, by omega⟩
      obtain ⟨N, r, c⟩ := gX7_takeFrom (64 + 27 * k) 9 (jp_tags k hk) jp_tag9 (by omega) M (by omega) (jp_kept hS)
      have hx : fX11_image k M = some (1, jw_up N 118 k 1) := by
        unfold fX11_image
        rw [Int.toNat_natCast, if_pos (jp_tags k hk).1]
        simp (disch := omega) only [↓jp_bs, ↓jp_b2s, ↓reduceIte, jw_up_a, Nat.reduceEqDiff, Int.reduceEq, Int.reduceLT, Int.reduceLE, Int.reduceAdd, Int.reduceSub, Int.reduceMul, Int.reduceNeg, jp_n9_1, jp_n9_8, jp_n9_15, jp_n9_21, jp_n9_24, jp_n10_1, jp_n10_2, jp_n10_3, jp_n10_4, jp_n10_5, jp_n10_6, jp_n17_1, jp_n17_2, jp_n17_3, jp_n17_4, jp_n17_5, jp_n17_6, jp_n24_1, jp_n24_2, jp_n24_3, jp_n24_4, jp_n24_5, jp_n30_1, jp_n30_2, jp_n33_1, jp_n33_2, false_and, true_and, and_true, and_false, and_self, ne_eq, not_true_eq_false, not_false_eq_true, jw_ws, jw_vs, jw_cmp_lt, jw_cmp_gt, jw_cmp_eq, jp_t1, jp_t2, jp_t3, jp_t4, jp_t5, jp_t6, ↓jp_bnd r]
      obtain ⟨N2, q1, q2, q3, q4, q5⟩ := gX12_image_l k ha (jw_up (jw_up N 118 k 1) 127 0 0)
      have fc : ∀ j : Nat, (j < 64 + 27 * k ∨ 64 + 27 * k + 25 < j) → N j = M j := c.2.2.2.2.2.2.2.2.2.2.2.2.2.2.2.2.2
      have e127 : N 127 = M 127 := fc 127 (by omega)
      have hy : fX12_image k (jw_up N 118 k 1) = some (1, N2) := by
        unfold fX12_image
        simp (disch := omega) only [↓jp_bs, ↓jp_b2s, ↓reduceIte, jw_up_a, Nat.reduceEqDiff, Int.reduceEq, Int.reduceLT, Int.reduceLE, Int.reduceAdd, Int.reduceSub, Int.reduceMul, Int.reduceNeg, jp_n9_1, jp_n9_8, jp_n9_15, jp_n9_21, jp_n9_24, jp_n10_1, jp_n10_2, jp_n10_3, jp_n10_4, jp_n10_5, jp_n10_6, jp_n17_1, jp_n17_2, jp_n17_3, jp_n17_4, jp_n17_5, jp_n17_6, jp_n24_1, jp_n24_2, jp_n24_3, jp_n24_4, jp_n24_5, jp_n30_1, jp_n30_2, jp_n33_1, jp_n33_2, false_and, true_and, and_true, and_false, and_self, ne_eq, not_true_eq_false, not_false_eq_true, jw_ws, jw_vs, jw_cmp_lt, jw_cmp_gt, jw_cmp_eq, jp_t1, jp_t2, jp_t3, jp_t4, jp_t5, jp_t6, ↓bX12_in, e127]
        exact q1
      refine ⟨_, _, _, hx, hy, ?_⟩
      have fr : ∀ j : Nat, j ≠ 144 → j ≠ 145 → j ≠ 146 → j ≠ 127 → j ≠ 118 → (j < 64 + 27 * k ∨ 64 + 27 * k + 25 < j) → N2 j = M j := by
        intro j b1 b2 b3 b4 b5 b6
        rw [q5 j b1 b2 b3, jw_up_ne _ b4, jw_up_ne _ b5, fc j b6]
      have fr7 : ∀ j : Int, j ≠ 0 → N2 127 j = M 127 j := by
        intro j hj
        rw [q5 127 (by decide) (by decide) (by decide), jw_up_a, if_neg (by omega), jw_up_ne _ (by decide), e127]
      have e118 : ∀ j : Int, N2 118 j = if j = k then 1 else M 118 j := by
        intro j
        rw [q5 118 (by decide) (by decide) (by decide), jw_up_ne _ (by decide), jw_up_eq, jw_u1_a, fc 118 (by omega)]
      have e131 : jw_up (jw_up N 118 k 1) 127 0 0 131 = M 131 := by rw [jw_up_ne _ (by decide), jw_up_ne _ (by decide), fc 131 (by omega)]
      have e133 : jw_up (jw_up N 118 k 1) 127 0 0 133 = M 133 := by rw [jw_up_ne _ (by decide), jw_up_ne _ (by decide), fc 133 (by omega)]
      have e144 : jw_up (jw_up N 118 k 1) 127 0 0 144 = M 144 := by rw [jw_up_ne _ (by decide), jw_up_ne _ (by decide), fc 144 (by omega)]
      have e145 : jw_up (jw_up N 118 k 1) 127 0 0 145 = M 145 := by rw [jw_up_ne _ (by decide), jw_up_ne _ (by decide), fc 145 (by omega)]
      have e146 : jw_up (jw_up N 118 k 1) 127 0 0 146 = M 146 := by rw [jw_up_ne _ (by decide), jw_up_ne _ (by decide), fc 146 (by omega)]
      rw [e131, e145] at q2
      rw [e133, e146] at q3
      rw [e144] at q4
      obtain ⟨a1, a2, a3, a4, a5, a6, a7⟩ := h
      have hnew : jp_imgI N2 k := by
        refine ⟨by rw [e118, q4, if_pos rfl, if_pos rfl], Or.inr ⟨by rw [q4, if_pos rfl], by rw [fr7 _ (by decide)]; exact hp1, ?_, ?_, ?_, ?_, ?_, ?_⟩⟩
        · rw [q5 _ (by omega) (by omega) (by omega), jw_up_ne _ (by omega), jw_up_ne _ (by omega), c.1, p1]
          exact hp1
        · unfold jp_kt
          rw [q2, if_pos (by omega), show 104 * (k : Int) + 0 - 104 * k = 0 by omega]
          omega
        · unfold jp_kt
          rw [q2, if_pos (by omega), show 104 * (k : Int) + 2 - 104 * k = 2 by omega]
          omega
        all_goals
          have g1 : jp_e (M 131) (jp_kt N2 k) := by
            intro i i1 i2
            unfold jp_kt
            rw [q2, if_pos (by omega), show 104 * (k : Int) + i - 104 * k = i by omega]
          have g2 : jp_e (M 133) (jp_kn N2 k) := by
            intro i i1 i2
            unfold jp_kn
            rw [q3, if_pos (by omega), show 104 * (k : Int) + i - 104 * k = i by omega]
        · exact jp_T_e g1 hT
        · exact jp_N_e hT g1 g2 hN
        · refine jp_S_e hT hN.2.2.1.1 g1 g2 (jp_S_fr (jp_S_cp hT hS c) (fun j b1 b2 => ?_))
          rw [q5 _ (by omega) (by omega) (by omega), jw_up_ne _ (by omega), jw_up_ne _ (by omega)]
      have hold : ∀ k' : Nat, k' < 2 → k' ≠ k → jp_imgI M k' → jp_imgI N2 k' := by
        intro k' h1 h2 hi
        have g1 : ∀ i : Int, 0 ≤ i → i < 104 → N2 145 (104 * (k' : Int) + i) = M 145 (104 * (k' : Int) + i) := by
          intro i i1 i2
          rw [q2, if_neg (by omega)]
        have g2 : ∀ i : Int, 0 ≤ i → i < 104 → N2 146 (104 * (k' : Int) + i) = M 146 (104 * (k' : Int) + i) := by
          intro i i1 i2
          rw [q3, if_neg (by omega)]
        have g3 : N2 118 k' = M 118 k' := by rw [e118, if_neg (by omega)]
        have g4 : N2 144 k' = M 144 k' := by rw [q4, if_neg (by omega)]
        refine ⟨by rw [g3, g4]; exact hi.1, ?_⟩
        rw [g4]
        rcases hi.2 with z | ⟨z1, -, z2, z3, z4, z5, z6, z7⟩
        · exact Or.inl z
        · refine Or.inr ⟨z1, by rw [fr7 _ (by decide)]; exact hp1, ?_, ?_, ?_, ?_, ?_, ?_⟩
          · rw [fr _ (by omega) (by omega) (by omega) (by omega) (by omega) (by omega)]; exact z2
          · show 1 ≤ N2 145 (104 * (k' : Int) + 0)
            rw [g1 0 (by omega) (by omega)]; exact z3
          · show 1 ≤ N2 145 (104 * (k' : Int) + 2)
            rw [g1 2 (by omega) (by omega)]; exact z4
          · exact jp_T_e (T := jp_kt M k') g1 z5
          · exact jp_N_e (T := jp_kt M k') (N := jp_kn M k') z5 g1 g2 z6
          · exact jp_S_e (T := jp_kt M k') (N := jp_kn M k') z5 z6.2.2.1.1 g1 g2 (jp_S_fr z7 (fun j b1 b2 => fr _ (by omega) (by omega) (by omega) (by omega) (by omega) (by omega)))
      refine ⟨jp_rows_fr a1 (fr _ (by omega) (by omega) (by omega) (by omega) (by omega) (by omega)) (fr _ (by omega) (by omega) (by omega) (by omega) (by omega) (by omega)) (fr _ (by omega) (by omega) (by omega) (by omega) (by omega) (by omega)) (fr _ (by omega) (by omega) (by omega) (by omega) (by omega) (by omega)) (fr _ (by omega) (by omega) (by omega) (by omega) (by omega) (by omega)) (fr _ (by omega) (by omega) (by omega) (by omega) (by omega) (by omega)), jp_tape_fr a2 (by rw [fr _ (by omega) (by omega) (by omega) (by omega) (by omega) (by omega)]) (fr _ (by omega) (by omega) (by omega) (by omega) (by omega) (by omega)) (fr7 _ (by decide)) (fr _ (by omega) (by omega) (by omega) (by omega) (by omega) (by omega)), ?_, jp_ask_fr a4 (by rw [fr _ (by omega) (by omega) (by omega) (by omega) (by omega) (by omega)]) (fr _ (by omega) (by omega) (by omega) (by omega) (by omega) (by omega)) (fr7 _ (by decide)) (fr _ (by omega) (by omega) (by omega) (by omega) (by omega) (by omega)), jp_cur_fr a5 (fun j b1 b2 => fr _ (by omega) (by omega) (by omega) (by omega) (by omega) (by omega)) (fr7 _ (by decide)) (fr _ (by omega) (by omega) (by omega) (by omega) (by omega) (by omega)) (fr _ (by omega) (by omega) (by omega) (by omega) (by omega) (by omega)) (fr _ (by omega) (by omega) (by omega) (by omega) (by omega) (by omega)) (fr _ (by omega) (by omega) (by omega) (by omega) (by omega) (by omega)), ?_, ?_⟩
      · unfold jp_outI
        rw [fr 0 (by omega) (by omega) (by omega) (by omega) (by omega) (by omega), fr7 11 (by decide), fr7 1 (by decide)]
        exact a3
      · by_cases e : k = 0
        · rw [e] at hnew; exact hnew
        · exact hold 0 (by omega) (by omega) a6
      · by_cases e : k = 1
        · rw [e] at hnew; exact hnew
        · exact hold 1 (by omega) (by omega) a7
  · have hx : fX11_image a M = some (-9000000000000000001, M) := by
      unfold fX11_image
      by_cases h2 : a < 0
      · simp (disch := omega) only [↓jp_bs, ↓jp_b2s, ↓reduceIte, jw_up_a, Nat.reduceEqDiff, Int.reduceEq, Int.reduceLT, Int.reduceLE, Int.reduceAdd, Int.reduceSub, Int.reduceMul, Int.reduceNeg, jp_n9_1, jp_n9_8, jp_n9_15, jp_n9_21, jp_n9_24, jp_n10_1, jp_n10_2, jp_n10_3, jp_n10_4, jp_n10_5, jp_n10_6, jp_n17_1, jp_n17_2, jp_n17_3, jp_n17_4, jp_n17_5, jp_n17_6, jp_n24_1, jp_n24_2, jp_n24_3, jp_n24_4, jp_n24_5, jp_n30_1, jp_n30_2, jp_n33_1, jp_n33_2, false_and, true_and, and_true, and_false, and_self, ne_eq, not_true_eq_false, not_false_eq_true, jw_ws, jw_vs, jw_cmp_lt, jw_cmp_gt, jw_cmp_eq, jp_t1, jp_t2, jp_t3, jp_t4, jp_t5, jp_t6]
      · simp (disch := omega) only [↓jp_bs, ↓jp_b2s, ↓reduceIte, jw_up_a, Nat.reduceEqDiff, Int.reduceEq, Int.reduceLT, Int.reduceLE, Int.reduceAdd, Int.reduceSub, Int.reduceMul, Int.reduceNeg, jp_n9_1, jp_n9_8, jp_n9_15, jp_n9_21, jp_n9_24, jp_n10_1, jp_n10_2, jp_n10_3, jp_n10_4, jp_n10_5, jp_n10_6, jp_n17_1, jp_n17_2, jp_n17_3, jp_n17_4, jp_n17_5, jp_n17_6, jp_n24_1, jp_n24_2, jp_n24_3, jp_n24_4, jp_n24_5, jp_n30_1, jp_n30_2, jp_n33_1, jp_n33_2, false_and, true_and, and_true, and_false, and_self, ne_eq, not_true_eq_false, not_false_eq_true, jw_ws, jw_vs, jw_cmp_lt, jw_cmp_gt, jw_cmp_eq, jp_t1, jp_t2, jp_t3, jp_t4, jp_t5, jp_t6]
    refine ⟨_, _, _, hx, ?_, jp_th h 0⟩
    unfold fX12_image
    simp (disch := omega) only [↓jp_bs, ↓jp_b2s, ↓reduceIte, jw_up_a, Nat.reduceEqDiff, Int.reduceEq, Int.reduceLT, Int.reduceLE, Int.reduceAdd, Int.reduceSub, Int.reduceMul, Int.reduceNeg, jp_n9_1, jp_n9_8, jp_n9_15, jp_n9_21, jp_n9_24, jp_n10_1, jp_n10_2, jp_n10_3, jp_n10_4, jp_n10_5, jp_n10_6, jp_n17_1, jp_n17_2, jp_n17_3, jp_n17_4, jp_n17_5, jp_n17_6, jp_n24_1, jp_n24_2, jp_n24_3, jp_n24_4, jp_n24_5, jp_n30_1, jp_n30_2, jp_n33_1, jp_n33_2, false_and, true_and, and_true, and_false, and_self, ne_eq, not_true_eq_false, not_false_eq_true, jw_ws, jw_vs, jw_cmp_lt, jw_cmp_gt, jw_cmp_eq, jp_t1, jp_t2, jp_t3, jp_t4, jp_t5, jp_t6, ↓bX12_in]
