/-! bits; feed -/
theorem jw_land255 (y : Int) : jw_land y 255 = y % 256 := by
  unfold jw_land
  have e : (Int64.ofInt y &&& Int64.ofInt 255).toInt = ((BitVec.ofInt 64 y) &&& (BitVec.ofInt 64 255)).toInt := rfl
  rw [e]
  have h1 : ((BitVec.ofInt 64 y) &&& (BitVec.ofInt 64 255)).toNat = (y % 18446744073709551616).toNat % 256 := by
    rw [BitVec.toNat_and, BitVec.toNat_ofInt]
    exact Nat.and_two_pow_sub_one_eq_mod _ 8
  rw [BitVec.toInt_eq_toNat_of_lt (by rw [h1]; omega), h1]
  omega
theorem jp_byte (y : Int) : jw_w (jw_land y 255) = jw_b (jw_w y) % 256 ∧ -128 ≤ jw_b (jw_w y) ∧ jw_b (jw_w y) ≤ 127 := by
  rw [jw_land255]
  unfold jw_w jw_b
  omega
theorem gX4_append (w n : Int) (hn : 1 ≤ n ∧ n ≤ 8) (M : jw_M) (L : Int) (hL : M 5 1 = L) (h0 : 0 ≤ L ∧ L + n ≤ 600) : ∃ N : jw_M, fX4_append w n M = some (L + n, N) ∧ N 5 1 = L + n ∧ (∀ i : Int, N 6 i = if L ≤ i ∧ i < L + n then jw_b (jw_w (jw_lshr w (8 * (n - 1 - (i - L))))) else M 6 i) ∧ (∀ k : Nat, k ≠ 5 → k ≠ 6 → N k = M k) := by
  unfold fX4_append
  simp (disch := omega) only [↓jp_bs, ↓jp_b2s, ↓reduceIte, jw_up_a, Nat.reduceEqDiff, Int.reduceEq, Int.reduceLT, Int.reduceLE, Int.reduceAdd, Int.reduceSub, Int.reduceMul, Int.reduceNeg, jp_n9_1, jp_n9_8, jp_n9_15, jp_n9_21, jp_n9_24, jp_n10_1, jp_n10_2, jp_n10_3, jp_n10_4, jp_n10_5, jp_n10_6, jp_n17_1, jp_n17_2, jp_n17_3, jp_n17_4, jp_n17_5, jp_n17_6, jp_n24_1, jp_n24_2, jp_n24_3, jp_n24_4, jp_n24_5, jp_n30_1, jp_n30_2, jp_n33_1, jp_n33_2, false_and, true_and, and_true, and_false, and_self, ne_eq, not_true_eq_false, not_false_eq_true, jw_ws, jw_vs, jw_cmp_lt, jw_cmp_gt, jw_cmp_eq, jp_t1, jp_t2, jp_t3, jp_t4, jp_t5, jp_t6]
  refine jp_dn (fun k i N => fX4_append_5 k w i N) (fun x N => x ≤ n - 1 ∧ N 5 1 = L + (n - 1 - x) ∧ (∀ i : Int, N 6 i = if L ≤ i ∧ i < L + (n - 1 - x) then jw_b (jw_w (jw_lshr w (8 * (n - 1 - (i - L))))) else M 6 i) ∧ (∀ k : Nat, k ≠ 5 → k ≠ 6 → N k = M k)) (fun x => ∃ N : jw_M, x = some (L + n, N) ∧ N 5 1 = L + n ∧ (∀ i : Int, N 6 i = if L ≤ i ∧ i < L + n then jw_b (jw_w (jw_lshr w (8 * (n - 1 - (i - L))))) else M 6 i) ∧ (∀ k : Nat, k ≠ 5 → k ≠ 6 → N k = M k)) ?_ ?_ jw_fu (n - 1) M (by unfold jw_fu; omega) (by omega) ⟨by omega, by omega, fun i => by rw [if_neg (by omega)], fun k _ _ => rfl⟩
  · intro k x N hp hx ih
    obtain ⟨p0, p1, p2, p3⟩ := hp
    show ∃ N : jw_M, fX4_append_5 (k + 1) w x _ = _ ∧ _
    rw [fX4_append_5]
    simp (disch := omega) only [↓jp_bs, ↓jp_b2s, ↓reduceIte, jw_up_a, Nat.reduceEqDiff, Int.reduceEq, Int.reduceLT, Int.reduceLE, Int.reduceAdd, Int.reduceSub, Int.reduceMul, Int.reduceNeg, jp_n9_1, jp_n9_8, jp_n9_15, jp_n9_21, jp_n9_24, jp_n10_1, jp_n10_2, jp_n10_3, jp_n10_4, jp_n10_5, jp_n10_6, jp_n17_1, jp_n17_2, jp_n17_3, jp_n17_4, jp_n17_5, jp_n17_6, jp_n24_1, jp_n24_2, jp_n24_3, jp_n24_4, jp_n24_5, jp_n30_1, jp_n30_2, jp_n33_1, jp_n33_2, false_and, true_and, and_true, and_false, and_self, ne_eq, not_true_eq_false, not_false_eq_true, jw_ws, jw_vs, jw_cmp_lt, jw_cmp_gt, jw_cmp_eq, jp_t1, jp_t2, jp_t3, jp_t4, jp_t5, jp_t6]
    rw [show x + -1 = x - 1 by omega]
    refine ih _ ⟨by omega, ?_, fun i => ?_, fun k h1 h2 => ?_⟩
    · simp (disch := omega) only [↓jp_bs, ↓jp_b2s, ↓reduceIte, jw_up_a, Nat.reduceEqDiff, Int.reduceEq, Int.reduceLT, Int.reduceLE, Int.reduceAdd, Int.reduceSub, Int.reduceMul, Int.reduceNeg, jp_n9_1, jp_n9_8, jp_n9_15, jp_n9_21, jp_n9_24, jp_n10_1, jp_n10_2, jp_n10_3, jp_n10_4, jp_n10_5, jp_n10_6, jp_n17_1, jp_n17_2, jp_n17_3, jp_n17_4, jp_n17_5, jp_n17_6, jp_n24_1, jp_n24_2, jp_n24_3, jp_n24_4, jp_n24_5, jp_n30_1, jp_n30_2, jp_n33_1, jp_n33_2, false_and, true_and, and_true, and_false, and_self, ne_eq, not_true_eq_false, not_false_eq_true, jw_ws, jw_vs, jw_cmp_lt, jw_cmp_gt, jw_cmp_eq, jp_t1, jp_t2, jp_t3, jp_t4, jp_t5, jp_t6]
    · simp (disch := omega) only [↓jp_bs, ↓jp_b2s, ↓reduceIte, jw_up_a, Nat.reduceEqDiff, Int.reduceEq, Int.reduceLT, Int.reduceLE, Int.reduceAdd, Int.reduceSub, Int.reduceMul, Int.reduceNeg, jp_n9_1, jp_n9_8, jp_n9_15, jp_n9_21, jp_n9_24, jp_n10_1, jp_n10_2, jp_n10_3, jp_n10_4, jp_n10_5, jp_n10_6, jp_n17_1, jp_n17_2, jp_n17_3, jp_n17_4, jp_n17_5, jp_n17_6, jp_n24_1, jp_n24_2, jp_n24_3, jp_n24_4, jp_n24_5, jp_n30_1, jp_n30_2, jp_n33_1, jp_n33_2, false_and, true_and, and_true, and_false, and_self, ne_eq, not_true_eq_false, not_false_eq_true, jw_ws, jw_vs, jw_cmp_lt, jw_cmp_gt, jw_cmp_eq, jp_t1, jp_t2, jp_t3, jp_t4, jp_t5, jp_t6]
      rw [p2 i, p1]
      by_cases h1 : i = L + (n - 1 - x)
      · rw [if_pos h1, if_pos (by omega), h1]
        congr 4
        omega
      · rw [if_neg h1]
        by_cases h2 : L ≤ i ∧ i < L + (n - 1 - x)
        · rw [if_pos h2, if_pos (by omega)]
        · rw [if_neg h2, if_neg (by omega)]
    · rw [jw_up_ne _ h1, jw_up_ne _ h2, p3 k h1 h2]
  · intro k N hp
    obtain ⟨p0, p1, p2, p3⟩ := hp
    refine ⟨N, ?_, by omega, fun i => ?_, p3⟩
    · show fX4_append_5 (k + 1) w _ _ = _
      rw [fX4_append_5, if_pos (by omega), p1]
      congr 2
      omega
    · rw [p2 i, show L + (n - 1 - -1) = L + n by omega]
theorem gX12_feed_42 (w n : Int) (hn : 1 ≤ n ∧ n ≤ 8) (M : jw_M) (L : Int) (hL : M 127 10 = L) (h0 : 0 ≤ L ∧ L + n ≤ 600) : ∃ N : jw_M, fX12_feed_42 jw_fu w (n - 1) M = some (L + n, N) ∧ N 127 10 = L + n ∧ (∀ i : Int, N 134 i = if L ≤ i ∧ i < L + n then jw_w (jw_land (jw_lshr w (8 * (n - 1 - (i - L)))) 255) else M 134 i) ∧ (∀ k : Nat, k ≠ 127 → k ≠ 134 → N k = M k) ∧ (∀ j : Int, j ≠ 10 → N 127 j = M 127 j) := by
  refine jp_dn (fun k i N => fX12_feed_42 k w i N) (fun x N => x ≤ n - 1 ∧ N 127 10 = L + (n - 1 - x) ∧ (∀ i : Int, N 134 i = if L ≤ i ∧ i < L + (n - 1 - x) then jw_w (jw_land (jw_lshr w (8 * (n - 1 - (i - L)))) 255) else M 134 i) ∧ (∀ k : Nat, k ≠ 127 → k ≠ 134 → N k = M k) ∧ (∀ j : Int, j ≠ 10 → N 127 j = M 127 j)) (fun x => ∃ N : jw_M, x = some (L + n, N) ∧ N 127 10 = L + n ∧ (∀ i : Int, N 134 i = if L ≤ i ∧ i < L + n then jw_w (jw_land (jw_lshr w (8 * (n - 1 - (i - L)))) 255) else M 134 i) ∧ (∀ k : Nat, k ≠ 127 → k ≠ 134 → N k = M k) ∧ (∀ j : Int, j ≠ 10 → N 127 j = M 127 j)) ?_ ?_ jw_fu (n - 1) M (by unfold jw_fu; omega) (by omega) ⟨by omega, by omega, fun i => by rw [if_neg (by omega)], fun k _ _ => rfl, fun k _ => rfl⟩
  · intro k x N hp hx ih
    obtain ⟨p0, p1, p2, p3, p4⟩ := hp
    show ∃ N : jw_M, fX12_feed_42 (k + 1) w x _ = _ ∧ _
    rw [fX12_feed_42]
    simp (disch := omega) only [↓jp_bs, ↓jp_b2s, ↓reduceIte, jw_up_a, Nat.reduceEqDiff, Int.reduceEq, Int.reduceLT, Int.reduceLE, Int.reduceAdd, Int.reduceSub, Int.reduceMul, Int.reduceNeg, jp_n9_1, jp_n9_8, jp_n9_15, jp_n9_21, jp_n9_24, jp_n10_1, jp_n10_2, jp_n10_3, jp_n10_4, jp_n10_5, jp_n10_6, jp_n17_1, jp_n17_2, jp_n17_3, jp_n17_4, jp_n17_5, jp_n17_6, jp_n24_1, jp_n24_2, jp_n24_3, jp_n24_4, jp_n24_5, jp_n30_1, jp_n30_2, jp_n33_1, jp_n33_2, false_and, true_and, and_true, and_false, and_self, ne_eq, not_true_eq_false, not_false_eq_true, jw_ws, jw_vs, jw_cmp_lt, jw_cmp_gt, jw_cmp_eq, jp_t1, jp_t2, jp_t3, jp_t4, jp_t5, jp_t6]
    rw [show x + -1 = x - 1 by omega]
    refine ih _ ⟨by omega, ?_, fun i => ?_, fun k h1 h2 => ?_, fun j hj => ?_⟩
    · simp (disch := omega) only [↓jp_bs, ↓jp_b2s, ↓reduceIte, jw_up_a, Nat.reduceEqDiff, Int.reduceEq, Int.reduceLT, Int.reduceLE, Int.reduceAdd, Int.reduceSub, Int.reduceMul, Int.reduceNeg, jp_n9_1, jp_n9_8, jp_n9_15, jp_n9_21, jp_n9_24, jp_n10_1, jp_n10_2, jp_n10_3, jp_n10_4, jp_n10_5, jp_n10_6, jp_n17_1, jp_n17_2, jp_n17_3, jp_n17_4, jp_n17_5, jp_n17_6, jp_n24_1, jp_n24_2, jp_n24_3, jp_n24_4, jp_n24_5, jp_n30_1, jp_n30_2, jp_n33_1, jp_n33_2, false_and, true_and, and_true, and_false, and_self, ne_eq, not_true_eq_false, not_false_eq_true, jw_ws, jw_vs, jw_cmp_lt, jw_cmp_gt, jw_cmp_eq, jp_t1, jp_t2, jp_t3, jp_t4, jp_t5, jp_t6]
    · simp (disch := omega) only [↓jp_bs, ↓jp_b2s, ↓reduceIte, jw_up_a, Nat.reduceEqDiff, Int.reduceEq, Int.reduceLT, Int.reduceLE, Int.reduceAdd, Int.reduceSub, Int.reduceMul, Int.reduceNeg, jp_n9_1, jp_n9_8, jp_n9_15, jp_n9_21, jp_n9_24, jp_n10_1, jp_n10_2, jp_n10_3, jp_n10_4, jp_n10_5, jp_n10_6, jp_n17_1, jp_n17_2, jp_n17_3, jp_n17_4, jp_n17_5, jp_n17_6, jp_n24_1, jp_n24_2, jp_n24_3, jp_n24_4, jp_n24_5, jp_n30_1, jp_n30_2, jp_n33_1, jp_n33_2, false_and, true_and, and_true, and_false, and_self, ne_eq, not_true_eq_false, not_false_eq_true, jw_ws, jw_vs, jw_cmp_lt, jw_cmp_gt, jw_cmp_eq, jp_t1, jp_t2, jp_t3, jp_t4, jp_t5, jp_t6]
      rw [p2 i, p1]
      by_cases h1 : i = L + (n - 1 - x)
      · rw [if_pos h1, if_pos (by omega), h1]
        congr 4
        omega
      · rw [if_neg h1]
        by_cases h2 : L ≤ i ∧ i < L + (n - 1 - x)
        · rw [if_pos h2, if_pos (by omega)]
        · rw [if_neg h2, if_neg (by omega)]
    · rw [jw_up_ne _ h1, jw_up_ne _ h2, p3 k h1 h2]
    · simp (disch := omega) only [↓jp_bs, ↓jp_b2s, ↓reduceIte, jw_up_a, Nat.reduceEqDiff, Int.reduceEq, Int.reduceLT, Int.reduceLE, Int.reduceAdd, Int.reduceSub, Int.reduceMul, Int.reduceNeg, jp_n9_1, jp_n9_8, jp_n9_15, jp_n9_21, jp_n9_24, jp_n10_1, jp_n10_2, jp_n10_3, jp_n10_4, jp_n10_5, jp_n10_6, jp_n17_1, jp_n17_2, jp_n17_3, jp_n17_4, jp_n17_5, jp_n17_6, jp_n24_1, jp_n24_2, jp_n24_3, jp_n24_4, jp_n24_5, jp_n30_1, jp_n30_2, jp_n33_1, jp_n33_2, false_and, true_and, and_true, and_false, and_self, ne_eq, not_true_eq_false, not_false_eq_true, jw_ws, jw_vs, jw_cmp_lt, jw_cmp_gt, jw_cmp_eq, jp_t1, jp_t2, jp_t3, jp_t4, jp_t5, jp_t6]
      exact p4 j hj
  · intro k N hp
    obtain ⟨p0, p1, p2, p3, p4⟩ := hp
    refine ⟨N, ?_, by omega, fun i => ?_, p3, p4⟩
    · show fX12_feed_42 (k + 1) w _ _ = _
      rw [fX12_feed_42, if_pos (by omega), p1]
      congr 2
      omega
    · rw [p2 i, show L + (n - 1 - -1) = L + n by omega]
theorem jp_feed {M : jw_M} (h : jp_inv M) (w n : Int) (hn : -2147483648 ≤ n ∧ n < 2147483648) : jp_ok (fX11_feed w n M) (fX12_feed w n) := by
  have ht := h.2.1
  obtain ⟨t1, t2, t3, t4⟩ := ht
  by_cases h1 : 1 ≤ n ∧ n ≤ 8
  · by_cases h2 : M 127 10 + n ≤ 600
    · obtain ⟨N, q1, q2, q3, q4⟩ := gX4_append w n h1 M _ t1 (by omega)
      have hx : fX11_feed w n M = some (M 127 10 + n, N) := by
        unfold fX11_feed fX4_hasRoomFor
        simp (disch := omega) only [↓jp_bs, ↓jp_b2s, ↓reduceIte, jw_up_a, Nat.reduceEqDiff, Int.reduceEq, Int.reduceLT, Int.reduceLE, Int.reduceAdd, Int.reduceSub, Int.reduceMul, Int.reduceNeg, jp_n9_1, jp_n9_8, jp_n9_15, jp_n9_21, jp_n9_24, jp_n10_1, jp_n10_2, jp_n10_3, jp_n10_4, jp_n10_5, jp_n10_6, jp_n17_1, jp_n17_2, jp_n17_3, jp_n17_4, jp_n17_5, jp_n17_6, jp_n24_1, jp_n24_2, jp_n24_3, jp_n24_4, jp_n24_5, jp_n30_1, jp_n30_2, jp_n33_1, jp_n33_2, false_and, true_and, and_true, and_false, and_self, ne_eq, not_true_eq_false, not_false_eq_true, jw_ws, jw_vs, jw_cmp_lt, jw_cmp_gt, jw_cmp_eq, jp_t1, jp_t2, jp_t3, jp_t4, jp_t5, jp_t6, q1]
      obtain ⟨N2, r1, r2, r3, r4, r5⟩ := gX12_feed_42 w n h1 (jw_up N 127 0 0) (M 127 10) (by rw [jw_up_a, if_neg (by decide), q4 _ (by decide) (by decide)]) (by omega)
      have hy : fX12_feed w n N = some (M 127 10 + n, N2) := by
        unfold fX12_feed
        simp (disch := omega) only [↓jp_bs, ↓jp_b2s, ↓reduceIte, jw_up_a, Nat.reduceEqDiff, Int.reduceEq, Int.reduceLT, Int.reduceLE, Int.reduceAdd, Int.reduceSub, Int.reduceMul, Int.reduceNeg, jp_n9_1, jp_n9_8, jp_n9_15, jp_n9_21, jp_n9_24, jp_n10_1, jp_n10_2, jp_n10_3, jp_n10_4, jp_n10_5, jp_n10_6, jp_n17_1, jp_n17_2, jp_n17_3, jp_n17_4, jp_n17_5, jp_n17_6, jp_n24_1, jp_n24_2, jp_n24_3, jp_n24_4, jp_n24_5, jp_n30_1, jp_n30_2, jp_n33_1, jp_n33_2, false_and, true_and, and_true, and_false, and_self, ne_eq, not_true_eq_false, not_false_eq_true, jw_ws, jw_vs, jw_cmp_lt, jw_cmp_gt, jw_cmp_eq, jp_t1, jp_t2, jp_t3, jp_t4, jp_t5, jp_t6, ↓bX12_in, q4 127 (by decide) (by decide), r1]
      refine ⟨_, _, _, hx, hy, ?_⟩
      obtain ⟨a, b, c, d, e, f, g⟩ := h
      have fr : ∀ k : Nat, k ≠ 5 → k ≠ 6 → k ≠ 127 → k ≠ 134 → N2 k = M k := fun k k1 k2 k3 k4 => by rw [r4 k k3 k4, jw_up_ne _ k3, q4 k k1 k2]
      have fr2 : ∀ j : Int, j ≠ 10 → j ≠ 0 → N2 127 j = M 127 j := fun j j1 j2 => by rw [r5 j j1, jw_up_a, if_neg (by simp [j2]), q4 _ (by decide) (by decide)]
      have fr5 : N2 5 = N 5 := by rw [r4 _ (by decide) (by decide), jw_up_ne _ (by decide)]
      have fr6 : N2 6 = N 6 := by rw [r4 _ (by decide) (by decide), jw_up_ne _ (by decide)]
      refine ⟨jp_rows_fr a (fr _ (by decide) (by decide) (by decide) (by decide)) (fr _ (by decide) (by decide) (by decide) (by decide)) (fr _ (by decide) (by decide) (by decide) (by decide)) (fr _ (by decide) (by decide) (by decide) (by decide)) (fr _ (by decide) (by decide) (by decide) (by decide)) (fr _ (by decide) (by decide) (by decide) (by decide)), ⟨?_, by omega, by omega, fun i i1 i2 => ?_⟩, ⟨?_, ?_⟩, jp_ask_fr d (by rw [fr _ (by decide) (by decide) (by decide) (by decide)]) (fr _ (by decide) (by decide) (by decide) (by decide)) (fr2 _ (by decide) (by decide)) (fr _ (by decide) (by decide) (by decide) (by decide)), jp_cur_fr e (fun k p q => fr _ (by omega) (by omega) (by omega) (by omega)) (fr2 _ (by decide) (by decide)) (fr _ (by decide) (by decide) (by decide) (by decide)) (fr _ (by decide) (by decide) (by decide) (by decide)) (fr _ (by decide) (by decide) (by decide) (by decide)) (fr _ (by decide) (by decide) (by decide) (by decide)), jp_img_fr f (fun k p q => fr _ (by omega) (by omega) (by omega) (by omega)) (fr _ (by decide) (by decide) (by decide) (by decide)) (fr _ (by decide) (by decide) (by decide) (by decide)) (fr _ (by decide) (by decide) (by decide) (by decide)) (fr _ (by decide) (by decide) (by decide) (by decide)) (fun z => by rw [fr2 _ (by decide) (by decide)]; exact z), jp_img_fr g (fun k p q => fr _ (by omega) (by omega) (by omega) (by omega)) (fr _ (by decide) (by decide) (by decide) (by decide)) (fr _ (by decide) (by decide) (by decide) (by decide)) (fr _ (by decide) (by decide) (by decide) (by decide)) (fr _ (by decide) (by decide) (by decide) (by decide)) (fun z => by rw [fr2 _ (by decide) (by decide)]; exact z)⟩
      · rw [fr5, q2, r2]
      · rw [r3 i, fr6, q3 i]
        by_cases hi : M 127 10 ≤ i ∧ i < M 127 10 + n
        · rw [if_pos hi, if_pos hi]
          exact jp_byte _
        · rw [if_neg hi, if_neg hi, jw_up_ne _ (by decide), q4 _ (by decide) (by decide)]
          exact t4 i i1 (by omega)
      · rw [fr _ (by decide) (by decide) (by decide) (by decide), fr2 _ (by decide) (by decide)]
        exact c.1
      · rw [fr _ (by decide) (by decide) (by decide) (by decide), fr2 _ (by decide) (by decide)]
        exact c.2
    · have hx : fX11_feed w n M = some (-9000000000000000003, M) := by
        unfold fX11_feed fX4_hasRoomFor
        simp (disch := omega) only [↓jp_bs, ↓jp_b2s, ↓reduceIte, jw_up_a, Nat.reduceEqDiff, Int.reduceEq, Int.reduceLT, Int.reduceLE, Int.reduceAdd, Int.reduceSub, Int.reduceMul, Int.reduceNeg, jp_n9_1, jp_n9_8, jp_n9_15, jp_n9_21, jp_n9_24, jp_n10_1, jp_n10_2, jp_n10_3, jp_n10_4, jp_n10_5, jp_n10_6, jp_n17_1, jp_n17_2, jp_n17_3, jp_n17_4, jp_n17_5, jp_n17_6, jp_n24_1, jp_n24_2, jp_n24_3, jp_n24_4, jp_n24_5, jp_n30_1, jp_n30_2, jp_n33_1, jp_n33_2, false_and, true_and, and_true, and_false, and_self, ne_eq, not_true_eq_false, not_false_eq_true, jw_ws, jw_vs, jw_cmp_lt, jw_cmp_gt, jw_cmp_eq, jp_t1, jp_t2, jp_t3, jp_t4, jp_t5, jp_t6]
      refine ⟨_, _, _, hx, ?_, jp_th h 0⟩
      unfold fX12_feed
      simp (disch := omega) only [↓jp_bs, ↓jp_b2s, ↓reduceIte, jw_up_a, Nat.reduceEqDiff, Int.reduceEq, Int.reduceLT, Int.reduceLE, Int.reduceAdd, Int.reduceSub, Int.reduceMul, Int.reduceNeg, jp_n9_1, jp_n9_8, jp_n9_15, jp_n9_21, jp_n9_24, jp_n10_1, jp_n10_2, jp_n10_3, jp_n10_4, jp_n10_5, jp_n10_6, jp_n17_1, jp_n17_2, jp_n17_3, jp_n17_4, jp_n17_5, jp_n17_6, jp_n24_1, jp_n24_2, jp_n24_3, jp_n24_4, jp_n24_5, jp_n30_1, jp_n30_2, jp_n33_1, jp_n33_2, false_and, true_and, and_true, and_false, and_self, ne_eq, not_true_eq_false, not_false_eq_true, jw_ws, jw_vs, jw_cmp_lt, jw_cmp_gt, jw_cmp_eq, jp_t1, jp_t2, jp_t3, jp_t4, jp_t5, jp_t6, ↓bX12_in]
  · have hx : fX11_feed w n M = some (-9000000000000000001, M) := by
      unfold fX11_feed
      by_cases h2 : n < 1
      · simp (disch := omega) only [↓jp_bs, ↓jp_b2s, ↓reduceIte, jw_up_a, Nat.reduceEqDiff, Int.reduceEq, Int.reduceLT, Int.reduceLE, Int.reduceAdd, Int.reduceSub, Int.reduceMul, Int.reduceNeg, jp_n9_1, jp_n9_8, jp_n9_15, jp_n9_21, jp_n9_24, jp_n10_1, jp_n10_2, jp_n10_3, jp_n10_4, jp_n10_5, jp_n10_6, jp_n17_1, jp_n17_2, jp_n17_3, jp_n17_4, jp_n17_5, jp_n17_6, jp_n24_1, jp_n24_2, jp_n24_3, jp_n24_4, jp_n24_5, jp_n30_1, jp_n30_2, jp_n33_1, jp_n33_2, false_and, true_and, and_true, and_false, and_self, ne_eq, not_true_eq_false, not_false_eq_true, jw_ws, jw_vs, jw_cmp_lt, jw_cmp_gt, jw_cmp_eq, jp_t1, jp_t2, jp_t3, jp_t4, jp_t5, jp_t6]
      · simp (disch := omega) only [↓jp_bs, ↓jp_b2s, ↓reduceIte, jw_up_a, Nat.reduceEqDiff, Int.reduceEq, Int.reduceLT, Int.reduceLE, Int.reduceAdd, Int.reduceSub, Int.reduceMul, Int.reduceNeg, jp_n9_1, jp_n9_8, jp_n9_15, jp_n9_21, jp_n9_24, jp_n10_1, jp_n10_2, jp_n10_3, jp_n10_4, jp_n10_5, jp_n10_6, jp_n17_1, jp_n17_2, jp_n17_3, jp_n17_4, jp_n17_5, jp_n17_6, jp_n24_1, jp_n24_2, jp_n24_3, jp_n24_4, jp_n24_5, jp_n30_1, jp_n30_2, jp_n33_1, jp_n33_2, false_and, true_and, and_true, and_false, and_self, ne_eq, not_true_eq_false, not_false_eq_true, jw_ws, jw_vs, jw_cmp_lt, jw_cmp_gt, jw_cmp_eq, jp_t1, jp_t2, jp_t3, jp_t4, jp_t5, jp_t6]
    refine ⟨_, _, _, hx, ?_, jp_th h 0⟩
    unfold fX12_feed
    simp (disch := omega) only [↓jp_bs, ↓jp_b2s, ↓reduceIte, jw_up_a, Nat.reduceEqDiff, Int.reduceEq, Int.reduceLT, Int.reduceLE, Int.reduceAdd, Int.reduceSub, Int.reduceMul, Int.reduceNeg, jp_n9_1, jp_n9_8, jp_n9_15, jp_n9_21, jp_n9_24, jp_n10_1, jp_n10_2, jp_n10_3, jp_n10_4, jp_n10_5, jp_n10_6, jp_n17_1, jp_n17_2, jp_n17_3, jp_n17_4, jp_n17_5, jp_n17_6, jp_n24_1, jp_n24_2, jp_n24_3, jp_n24_4, jp_n24_5, jp_n30_1, jp_n30_2, jp_n33_1, jp_n33_2, false_and, true_and, and_true, and_false, and_self, ne_eq, not_true_eq_false, not_false_eq_true, jw_ws, jw_vs, jw_cmp_lt, jw_cmp_gt, jw_cmp_eq, jp_t1, jp_t2, jp_t3, jp_t4, jp_t5, jp_t6, ↓bX12_in]
