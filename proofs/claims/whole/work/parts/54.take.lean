/-! a sheet takes another one's place -/
theorem jp_t7 {a b : Nat} (h : a ≠ b) : (a = b) = False := eq_false h
theorem gX9_setLaw (t : Nat) (ht : jw_tag t = 9) (a b c : Int) (M : jw_M) : fX9_setLaw t a b c M = some (jw_up (jw_up (jw_up M t 8 a) t 9 b) t 10 c) := by
  unfold fX9_setLaw
  rw [if_pos ht]
  rfl
theorem bX9_setLaw (t : Nat) (ht : jw_tag t = 9) (a b c : Int) (M : jw_M) {be : Type} (kk : _ → Option be) : Option.bind (fX9_setLaw t a b c M) kk = kk ((jw_up (jw_up (jw_up M t 8 a) t 9 b) t 10 c)) := by rw [show fX9_setLaw t a b c M = some (jw_up (jw_up (jw_up M t 8 a) t 9 b) t 10 c) from gX9_setLaw t ht a b c M]; rfl
theorem gX9_takeFrom (t a : Nat) (ht : jw_tag t = 9) (ha : jw_tag a = 9) (hd : a + 7 ≤ t ∨ t + 7 ≤ a) (M : jw_M) : ∃ N : jw_M, fX9_takeFrom t a M = some N ∧ (N t 0 = M a 0 ∧ N t 5 = M a 5 ∧ N t 8 = M a 8 ∧ N t 9 = M a 9 ∧ N t 10 = M a 10) ∧ (∀ i : Int, 0 ≤ i → i < 7 → N (t + 1) i = M (a + 1) i) ∧ (∀ i : Int, 0 ≤ i → i < 49 → N (t + 2) i = M (a + 2) i ∧ N (t + 3) i = M (a + 3) i ∧ N (t + 4) i = M (a + 4) i) ∧ (∀ i : Int, 0 ≤ i → i < 6 → N (t + 5) i = M (a + 5) i ∧ N (t + 6) i = M (a + 6) i) ∧ (∀ k : Nat, (k < t ∨ t + 6 < k) → N k = M k) := by
  unfold fX9_takeFrom
  rw [if_pos ht, if_pos ha]
  simp (disch := omega) only [↓jp_bs, ↓jp_b2s, ↓reduceIte, jw_up_a, Nat.reduceEqDiff, Int.reduceEq, Int.reduceLT, Int.reduceLE, Int.reduceAdd, Int.reduceSub, Int.reduceMul, Int.reduceNeg, jp_n9_1, jp_n9_8, jp_n9_15, jp_n9_21, jp_n9_24, jp_n10_1, jp_n10_2, jp_n10_3, jp_n10_4, jp_n10_5, jp_n10_6, jp_n17_1, jp_n17_2, jp_n17_3, jp_n17_4, jp_n17_5, jp_n17_6, jp_n24_1, jp_n24_2, jp_n24_3, jp_n24_4, jp_n24_5, jp_n30_1, jp_n30_2, jp_n33_1, jp_n33_2, false_and, true_and, and_true, and_false, and_self, ne_eq, not_true_eq_false, not_false_eq_true, jw_ws, jw_vs, jw_cmp_lt, jw_cmp_gt, jw_cmp_eq, jp_t1, jp_t2, jp_t3, jp_t4, jp_t5, jp_t6, jp_t7, ↓bX9_setLaw t ht]
  refine ⟨_, rfl, ?_, fun i p q => ?_, fun i p q => ?_, fun i p q => ?_, fun k p => ?_⟩
  · simp (disch := omega) only [jw_up_pt, jw_cp_pt, jw_pt_eq, jw_pt_ne, jw_u1_a, jw_cf_a, jw_ff_a, ↓reduceIte, Int.reduceEq, Int.reduceLT, Int.reduceLE, Int.reduceAdd, Int.reduceSub, Int.zero_add, Int.sub_zero, false_and, true_and, and_true, and_false, and_self, ne_eq, not_true_eq_false, not_false_eq_true, jp_t1, jp_t2, jp_t3, jp_t4, jp_t5, jp_t6]
  · simp (disch := omega) only [jw_up_pt, jw_cp_pt, jw_pt_eq, jw_pt_ne, jw_u1_a, jw_cf_a, jw_ff_a, ↓reduceIte, Int.reduceEq, Int.reduceLT, Int.reduceLE, Int.reduceAdd, Int.reduceSub, Int.zero_add, Int.sub_zero, false_and, true_and, and_true, and_false, and_self, ne_eq, not_true_eq_false, not_false_eq_true, jp_t1, jp_t2, jp_t3, jp_t4, jp_t5, jp_t6]
  · simp (disch := omega) only [jw_up_pt, jw_cp_pt, jw_pt_eq, jw_pt_ne, jw_u1_a, jw_cf_a, jw_ff_a, ↓reduceIte, Int.reduceEq, Int.reduceLT, Int.reduceLE, Int.reduceAdd, Int.reduceSub, Int.zero_add, Int.sub_zero, false_and, true_and, and_true, and_false, and_self, ne_eq, not_true_eq_false, not_false_eq_true, jp_t1, jp_t2, jp_t3, jp_t4, jp_t5, jp_t6]
  · simp (disch := omega) only [jw_up_pt, jw_cp_pt, jw_pt_eq, jw_pt_ne, jw_u1_a, jw_cf_a, jw_ff_a, ↓reduceIte, Int.reduceEq, Int.reduceLT, Int.reduceLE, Int.reduceAdd, Int.reduceSub, Int.zero_add, Int.sub_zero, false_and, true_and, and_true, and_false, and_self, ne_eq, not_true_eq_false, not_false_eq_true, jp_t1, jp_t2, jp_t3, jp_t4, jp_t5, jp_t6]
  · simp (disch := omega) only [jw_up_pt, jw_cp_pt, jw_pt_eq, jw_pt_ne, jw_u1_a, jw_cf_a, jw_ff_a, ↓reduceIte, Int.reduceEq, Int.reduceLT, Int.reduceLE, Int.reduceAdd, Int.reduceSub, Int.zero_add, Int.sub_zero, false_and, true_and, and_true, and_false, and_self, ne_eq, not_true_eq_false, not_false_eq_true, jp_t1, jp_t2, jp_t3, jp_t4, jp_t5, jp_t6]
theorem gX10_takeFrom (t a : Nat) (ht : jw_tag t = 10) (ha : jw_tag a = 10) (hd : a + 7 ≤ t ∨ t + 7 ≤ a) (M : jw_M) : ∃ N : jw_M, fX10_takeFrom t a M = some N ∧ (N t 0 = M a 0 ∧ N t 4 = M a 4 ∧ N t 7 = M a 7) ∧ (∀ i : Int, 0 ≤ i → i < 4 → N (t + 1) i = M (a + 1) i ∧ N (t + 2) i = M (a + 2) i ∧ N (t + 3) i = M (a + 3) i) ∧ (∀ i : Int, 0 ≤ i → i < 5 → N (t + 4) i = M (a + 4) i ∧ N (t + 5) i = M (a + 5) i) ∧ (∀ i : Int, 0 ≤ i → i < 4 → N (t + 6) i = M (a + 6) i) ∧ (∀ k : Nat, (k < t ∨ t + 6 < k) → N k = M k) := by
  unfold fX10_takeFrom
  rw [if_pos ht, if_pos ha]
  simp (disch := omega) only [↓jp_bs, ↓jp_b2s, ↓reduceIte, jw_up_a, Nat.reduceEqDiff, Int.reduceEq, Int.reduceLT, Int.reduceLE, Int.reduceAdd, Int.reduceSub, Int.reduceMul, Int.reduceNeg, jp_n9_1, jp_n9_8, jp_n9_15, jp_n9_21, jp_n9_24, jp_n10_1, jp_n10_2, jp_n10_3, jp_n10_4, jp_n10_5, jp_n10_6, jp_n17_1, jp_n17_2, jp_n17_3, jp_n17_4, jp_n17_5, jp_n17_6, jp_n24_1, jp_n24_2, jp_n24_3, jp_n24_4, jp_n24_5, jp_n30_1, jp_n30_2, jp_n33_1, jp_n33_2, false_and, true_and, and_true, and_false, and_self, ne_eq, not_true_eq_false, not_false_eq_true, jw_ws, jw_vs, jw_cmp_lt, jw_cmp_gt, jw_cmp_eq, jp_t1, jp_t2, jp_t3, jp_t4, jp_t5, jp_t6, jp_t7]
  refine ⟨_, rfl, ?_, fun i p q => ?_, fun i p q => ?_, fun i p q => ?_, fun k p => ?_⟩
  · simp (disch := omega) only [jw_up_pt, jw_cp_pt, jw_pt_eq, jw_pt_ne, jw_u1_a, jw_cf_a, jw_ff_a, ↓reduceIte, Int.reduceEq, Int.reduceLT, Int.reduceLE, Int.reduceAdd, Int.reduceSub, Int.zero_add, Int.sub_zero, false_and, true_and, and_true, and_false, and_self, ne_eq, not_true_eq_false, not_false_eq_true, jp_t1, jp_t2, jp_t3, jp_t4, jp_t5, jp_t6]
  · simp (disch := omega) only [jw_up_pt, jw_cp_pt, jw_pt_eq, jw_pt_ne, jw_u1_a, jw_cf_a, jw_ff_a, ↓reduceIte, Int.reduceEq, Int.reduceLT, Int.reduceLE, Int.reduceAdd, Int.reduceSub, Int.zero_add, Int.sub_zero, false_and, true_and, and_true, and_false, and_self, ne_eq, not_true_eq_false, not_false_eq_true, jp_t1, jp_t2, jp_t3, jp_t4, jp_t5, jp_t6]
  · simp (disch := omega) only [jw_up_pt, jw_cp_pt, jw_pt_eq, jw_pt_ne, jw_u1_a, jw_cf_a, jw_ff_a, ↓reduceIte, Int.reduceEq, Int.reduceLT, Int.reduceLE, Int.reduceAdd, Int.reduceSub, Int.zero_add, Int.sub_zero, false_and, true_and, and_true, and_false, and_self, ne_eq, not_true_eq_false, not_false_eq_true, jp_t1, jp_t2, jp_t3, jp_t4, jp_t5, jp_t6]
  · simp (disch := omega) only [jw_up_pt, jw_cp_pt, jw_pt_eq, jw_pt_ne, jw_u1_a, jw_cf_a, jw_ff_a, ↓reduceIte, Int.reduceEq, Int.reduceLT, Int.reduceLE, Int.reduceAdd, Int.reduceSub, Int.zero_add, Int.sub_zero, false_and, true_and, and_true, and_false, and_self, ne_eq, not_true_eq_false, not_false_eq_true, jp_t1, jp_t2, jp_t3, jp_t4, jp_t5, jp_t6]
  · simp (disch := omega) only [jw_up_pt, jw_cp_pt, jw_pt_eq, jw_pt_ne, jw_u1_a, jw_cf_a, jw_ff_a, ↓reduceIte, Int.reduceEq, Int.reduceLT, Int.reduceLE, Int.reduceAdd, Int.reduceSub, Int.zero_add, Int.sub_zero, false_and, true_and, and_true, and_false, and_self, ne_eq, not_true_eq_false, not_false_eq_true, jp_t1, jp_t2, jp_t3, jp_t4, jp_t5, jp_t6]
theorem gX3_takeFrom (t a : Nat) (ht : jw_tag t = 3) (ha : jw_tag a = 3) (hd : a + 6 ≤ t ∨ t + 6 ≤ a) (M : jw_M) (hk : M a 1 = 0 ∨ M a 1 = 1) : ∃ N : jw_M, fX3_takeFrom t a M = some N ∧ (N t 0 = M a 0 ∧ N t 1 = M a 1) ∧ (∀ i : Int, 0 ≤ i → i < 7 → N (t + 1) i = M (a + 1) i) ∧ (∀ i : Int, 0 ≤ i → i < 5 → N (t + 2) i = M (a + 2) i ∧ N (t + 3) i = M (a + 3) i ∧ N (t + 4) i = M (a + 4) i) ∧ (∀ i : Int, 0 ≤ i → i < 20 → N (t + 5) i = M (a + 5) i) ∧ (∀ k : Nat, (k < t ∨ t + 5 < k) → N k = M k) := by
  unfold fX3_takeFrom
  rw [if_pos ht, if_pos ha]
  simp only [jp_bs]
  have e : jw_up M t 0 (M a 0) a 1 = M a 1 := by rw [jw_up_ne _ (by omega)]
  rw [e, if_pos hk]
  simp (disch := omega) only [↓jp_bs, ↓jp_b2s, ↓reduceIte, jw_up_a, Nat.reduceEqDiff, Int.reduceEq, Int.reduceLT, Int.reduceLE, Int.reduceAdd, Int.reduceSub, Int.reduceMul, Int.reduceNeg, jp_n9_1, jp_n9_8, jp_n9_15, jp_n9_21, jp_n9_24, jp_n10_1, jp_n10_2, jp_n10_3, jp_n10_4, jp_n10_5, jp_n10_6, jp_n17_1, jp_n17_2, jp_n17_3, jp_n17_4, jp_n17_5, jp_n17_6, jp_n24_1, jp_n24_2, jp_n24_3, jp_n24_4, jp_n24_5, jp_n30_1, jp_n30_2, jp_n33_1, jp_n33_2, false_and, true_and, and_true, and_false, and_self, ne_eq, not_true_eq_false, not_false_eq_true, jw_ws, jw_vs, jw_cmp_lt, jw_cmp_gt, jw_cmp_eq, jp_t1, jp_t2, jp_t3, jp_t4, jp_t5, jp_t6, jp_t7]
  refine ⟨_, rfl, ?_, fun i p q => ?_, fun i p q => ?_, fun i p q => ?_, fun k p => ?_⟩
  · simp (disch := omega) only [jw_up_pt, jw_cp_pt, jw_pt_eq, jw_pt_ne, jw_u1_a, jw_cf_a, jw_ff_a, ↓reduceIte, Int.reduceEq, Int.reduceLT, Int.reduceLE, Int.reduceAdd, Int.reduceSub, Int.zero_add, Int.sub_zero, false_and, true_and, and_true, and_false, and_self, ne_eq, not_true_eq_false, not_false_eq_true, jp_t1, jp_t2, jp_t3, jp_t4, jp_t5, jp_t6]
  · simp (disch := omega) only [jw_up_pt, jw_cp_pt, jw_pt_eq, jw_pt_ne, jw_u1_a, jw_cf_a, jw_ff_a, ↓reduceIte, Int.reduceEq, Int.reduceLT, Int.reduceLE, Int.reduceAdd, Int.reduceSub, Int.zero_add, Int.sub_zero, false_and, true_and, and_true, and_false, and_self, ne_eq, not_true_eq_false, not_false_eq_true, jp_t1, jp_t2, jp_t3, jp_t4, jp_t5, jp_t6]
  · simp (disch := omega) only [jw_up_pt, jw_cp_pt, jw_pt_eq, jw_pt_ne, jw_u1_a, jw_cf_a, jw_ff_a, ↓reduceIte, Int.reduceEq, Int.reduceLT, Int.reduceLE, Int.reduceAdd, Int.reduceSub, Int.zero_add, Int.sub_zero, false_and, true_and, and_true, and_false, and_self, ne_eq, not_true_eq_false, not_false_eq_true, jp_t1, jp_t2, jp_t3, jp_t4, jp_t5, jp_t6]
  · simp (disch := omega) only [jw_up_pt, jw_cp_pt, jw_pt_eq, jw_pt_ne, jw_u1_a, jw_cf_a, jw_ff_a, ↓reduceIte, Int.reduceEq, Int.reduceLT, Int.reduceLE, Int.reduceAdd, Int.reduceSub, Int.zero_add, Int.sub_zero, false_and, true_and, and_true, and_false, and_self, ne_eq, not_true_eq_false, not_false_eq_true, jp_t1, jp_t2, jp_t3, jp_t4, jp_t5, jp_t6]
  · simp (disch := omega) only [jw_up_pt, jw_cp_pt, jw_pt_eq, jw_pt_ne, jw_u1_a, jw_cf_a, jw_ff_a, ↓reduceIte, Int.reduceEq, Int.reduceLT, Int.reduceLE, Int.reduceAdd, Int.reduceSub, Int.zero_add, Int.sub_zero, false_and, true_and, and_true, and_false, and_self, ne_eq, not_true_eq_false, not_false_eq_true, jp_t1, jp_t2, jp_t3, jp_t4, jp_t5, jp_t6]
theorem gX1_takeFrom (t a : Nat) (ht : jw_tag t = 1) (ha : jw_tag a = 1) (hd : a + 3 ≤ t ∨ t + 3 ≤ a) (M : jw_M) : ∃ N : jw_M, fX1_takeFrom t a M = some N ∧ N t 0 = M a 0 ∧ (∀ i : Int, 0 ≤ i → i < 7 → N (t + 1) i = M (a + 1) i) ∧ (∀ i : Int, 0 ≤ i → i < 20 → N (t + 2) i = M (a + 2) i) ∧ (∀ k : Nat, (k < t ∨ t + 2 < k) → N k = M k) := by
  unfold fX1_takeFrom
  rw [if_pos ht, if_pos ha]
  simp (disch := omega) only [↓jp_bs, ↓jp_b2s, ↓reduceIte, jw_up_a, Nat.reduceEqDiff, Int.reduceEq, Int.reduceLT, Int.reduceLE, Int.reduceAdd, Int.reduceSub, Int.reduceMul, Int.reduceNeg, jp_n9_1, jp_n9_8, jp_n9_15, jp_n9_21, jp_n9_24, jp_n10_1, jp_n10_2, jp_n10_3, jp_n10_4, jp_n10_5, jp_n10_6, jp_n17_1, jp_n17_2, jp_n17_3, jp_n17_4, jp_n17_5, jp_n17_6, jp_n24_1, jp_n24_2, jp_n24_3, jp_n24_4, jp_n24_5, jp_n30_1, jp_n30_2, jp_n33_1, jp_n33_2, false_and, true_and, and_true, and_false, and_self, ne_eq, not_true_eq_false, not_false_eq_true, jw_ws, jw_vs, jw_cmp_lt, jw_cmp_gt, jw_cmp_eq, jp_t1, jp_t2, jp_t3, jp_t4, jp_t5, jp_t6, jp_t7]
  refine ⟨_, rfl, ?_, fun i p q => ?_, fun i p q => ?_, fun k p => ?_⟩
  · simp (disch := omega) only [jw_up_pt, jw_cp_pt, jw_pt_eq, jw_pt_ne, jw_u1_a, jw_cf_a, jw_ff_a, ↓reduceIte, Int.reduceEq, Int.reduceLT, Int.reduceLE, Int.reduceAdd, Int.reduceSub, Int.zero_add, Int.sub_zero, false_and, true_and, and_true, and_false, and_self, ne_eq, not_true_eq_false, not_false_eq_true, jp_t1, jp_t2, jp_t3, jp_t4, jp_t5, jp_t6]
  · simp (disch := omega) only [jw_up_pt, jw_cp_pt, jw_pt_eq, jw_pt_ne, jw_u1_a, jw_cf_a, jw_ff_a, ↓reduceIte, Int.reduceEq, Int.reduceLT, Int.reduceLE, Int.reduceAdd, Int.reduceSub, Int.zero_add, Int.sub_zero, false_and, true_and, and_true, and_false, and_self, ne_eq, not_true_eq_false, not_false_eq_true, jp_t1, jp_t2, jp_t3, jp_t4, jp_t5, jp_t6]
  · simp (disch := omega) only [jw_up_pt, jw_cp_pt, jw_pt_eq, jw_pt_ne, jw_u1_a, jw_cf_a, jw_ff_a, ↓reduceIte, Int.reduceEq, Int.reduceLT, Int.reduceLE, Int.reduceAdd, Int.reduceSub, Int.zero_add, Int.sub_zero, false_and, true_and, and_true, and_false, and_self, ne_eq, not_true_eq_false, not_false_eq_true, jp_t1, jp_t2, jp_t3, jp_t4, jp_t5, jp_t6]
  · simp (disch := omega) only [jw_up_pt, jw_cp_pt, jw_pt_eq, jw_pt_ne, jw_u1_a, jw_cf_a, jw_ff_a, ↓reduceIte, Int.reduceEq, Int.reduceLT, Int.reduceLE, Int.reduceAdd, Int.reduceSub, Int.zero_add, Int.sub_zero, false_and, true_and, and_true, and_false, and_self, ne_eq, not_true_eq_false, not_false_eq_true, jp_t1, jp_t2, jp_t3, jp_t4, jp_t5, jp_t6]
theorem gX2_takeFrom (t a : Nat) (ht : jw_tag t = 2) (ha : jw_tag a = 2) (hd : a + 2 ≤ t ∨ t + 2 ≤ a) (M : jw_M) : ∃ N : jw_M, fX2_takeFrom t a M = some N ∧ (∀ i : Int, 0 ≤ i → i < 25 → N (t + 1) i = M (a + 1) i) ∧ (∀ k : Nat, k ≠ t + 1 → N k = M k) := by
  unfold fX2_takeFrom
  rw [if_pos ht, if_pos ha]
  simp (disch := omega) only [↓jp_bs, ↓jp_b2s, ↓reduceIte, jw_up_a, Nat.reduceEqDiff, Int.reduceEq, Int.reduceLT, Int.reduceLE, Int.reduceAdd, Int.reduceSub, Int.reduceMul, Int.reduceNeg, jp_n9_1, jp_n9_8, jp_n9_15, jp_n9_21, jp_n9_24, jp_n10_1, jp_n10_2, jp_n10_3, jp_n10_4, jp_n10_5, jp_n10_6, jp_n17_1, jp_n17_2, jp_n17_3, jp_n17_4, jp_n17_5, jp_n17_6, jp_n24_1, jp_n24_2, jp_n24_3, jp_n24_4, jp_n24_5, jp_n30_1, jp_n30_2, jp_n33_1, jp_n33_2, false_and, true_and, and_true, and_false, and_self, ne_eq, not_true_eq_false, not_false_eq_true, jw_ws, jw_vs, jw_cmp_lt, jw_cmp_gt, jw_cmp_eq, jp_t1, jp_t2, jp_t3, jp_t4, jp_t5, jp_t6, jp_t7]
  refine ⟨_, rfl, fun i p q => ?_, fun k p => ?_⟩
  · simp (disch := omega) only [jw_up_pt, jw_cp_pt, jw_pt_eq, jw_pt_ne, jw_u1_a, jw_cf_a, jw_ff_a, ↓reduceIte, Int.reduceEq, Int.reduceLT, Int.reduceLE, Int.reduceAdd, Int.reduceSub, Int.zero_add, Int.sub_zero, false_and, true_and, and_true, and_false, and_self, ne_eq, not_true_eq_false, not_false_eq_true, jp_t1, jp_t2, jp_t3, jp_t4, jp_t5, jp_t6]
  · simp (disch := omega) only [jw_up_pt, jw_cp_pt, jw_pt_eq, jw_pt_ne, jw_u1_a, jw_cf_a, jw_ff_a, ↓reduceIte, Int.reduceEq, Int.reduceLT, Int.reduceLE, Int.reduceAdd, Int.reduceSub, Int.zero_add, Int.sub_zero, false_and, true_and, and_true, and_false, and_self, ne_eq, not_true_eq_false, not_false_eq_true, jp_t1, jp_t2, jp_t3, jp_t4, jp_t5, jp_t6]
/-- N's sheet t is M's sheet a; else N is M -/
def jp_cpy (t a : Nat) (M N : jw_M) : Prop :=
  N t 0 = M a 0 ∧ (N (t + 1) 0 = M (a + 1) 0 ∧ N (t + 1) 5 = M (a + 1) 5 ∧ N (t + 1) 8 = M (a + 1) 8 ∧ N (t + 1) 9 = M (a + 1) 9 ∧ N (t + 1) 10 = M (a + 1) 10) ∧
  (∀ i : Int, 0 ≤ i → i < 7 → N (t + 2) i = M (a + 2) i) ∧ (∀ i : Int, 0 ≤ i → i < 49 → N (t + 3) i = M (a + 3) i ∧ N (t + 4) i = M (a + 4) i ∧ N (t + 5) i = M (a + 5) i) ∧ (∀ i : Int, 0 ≤ i → i < 6 → N (t + 6) i = M (a + 6) i ∧ N (t + 7) i = M (a + 7) i) ∧
  (N (t + 8) 0 = M (a + 8) 0 ∧ N (t + 8) 4 = M (a + 8) 4 ∧ N (t + 8) 7 = M (a + 8) 7) ∧ (∀ i : Int, 0 ≤ i → i < 4 → N (t + 9) i = M (a + 9) i ∧ N (t + 10) i = M (a + 10) i ∧ N (t + 11) i = M (a + 11) i) ∧ (∀ i : Int, 0 ≤ i → i < 5 → N (t + 12) i = M (a + 12) i ∧ N (t + 13) i = M (a + 13) i) ∧ (∀ i : Int, 0 ≤ i → i < 4 → N (t + 14) i = M (a + 14) i) ∧
  (N (t + 15) 0 = M (a + 15) 0 ∧ N (t + 15) 1 = M (a + 15) 1) ∧ (∀ i : Int, 0 ≤ i → i < 7 → N (t + 16) i = M (a + 16) i) ∧ (∀ i : Int, 0 ≤ i → i < 5 → N (t + 17) i = M (a + 17) i ∧ N (t + 18) i = M (a + 18) i ∧ N (t + 19) i = M (a + 19) i) ∧ (∀ i : Int, 0 ≤ i → i < 20 → N (t + 20) i = M (a + 20) i) ∧
  N (t + 21) 0 = M (a + 21) 0 ∧ (∀ i : Int, 0 ≤ i → i < 7 → N (t + 22) i = M (a + 22) i) ∧ (∀ i : Int, 0 ≤ i → i < 20 → N (t + 23) i = M (a + 23) i) ∧ (∀ i : Int, 0 ≤ i → i < 25 → N (t + 25) i = M (a + 25) i) ∧
  (∀ k : Nat, (k < t ∨ t + 25 < k) → N k = M k)
theorem gX7_takeFrom (t a : Nat) (h0 : jw_tag t = 7 ∧ jw_tag (t + 1) = 9 ∧ jw_tag (t + 8) = 10 ∧ jw_tag (t + 15) = 3 ∧ jw_tag (t + 21) = 1 ∧ jw_tag (t + 24) = 2) (h1 : jw_tag a = 7 ∧ jw_tag (a + 1) = 9 ∧ jw_tag (a + 8) = 10 ∧ jw_tag (a + 15) = 3 ∧ jw_tag (a + 21) = 1 ∧ jw_tag (a + 24) = 2) (hd : a + 27 ≤ t ∨ t + 27 ≤ a) (M : jw_M) (hp : M a 0 = 0 ∨ M a 0 = 1) (hk : M (a + 15) 1 = 0 ∨ M (a + 15) 1 = 1) : ∃ N : jw_M, fX7_takeFrom t a M = some N ∧ jp_cpy t a M N := by
  unfold fX7_takeFrom
  rw [if_pos h0.1, if_pos h1.1, if_pos hp, jp_bs]
  generalize e0 : jw_up M t 0 (M a 0) = M0
  have f0 : ∀ k : Nat, k ≠ t → M0 k = M k := fun k hk => by rw [← e0, jw_up_ne _ hk]
  have z0 : M0 t 0 = M a 0 := by rw [← e0, jw_up_eq, jw_u1_s]
  obtain ⟨M1, r1, a1, a2, a3, a4, f1⟩ := gX9_takeFrom (t + 1) (a + 1) h0.2.1 h1.2.1 (by omega) M0
  rw [r1, jp_bs]
  obtain ⟨M2, r2, b1, b2, b3, b4, f2⟩ := gX10_takeFrom (t + 8) (a + 8) h0.2.2.1 h1.2.2.1 (by omega) M1
  rw [r2, jp_bs]
  have e15 : M2 (a + 15) = M (a + 15) := by rw [f2 _ (by omega), f1 _ (by omega), f0 _ (by omega)]
  obtain ⟨M3, r3, c1, c2, c3, c4, f3⟩ := gX3_takeFrom (t + 15) (a + 15) h0.2.2.2.1 h1.2.2.2.1 (by omega) M2 (by rw [e15]; exact hk)
  rw [r3, jp_bs]
  obtain ⟨M4, r4, d1, d2, d3, f4⟩ := gX1_takeFrom (t + 21) (a + 21) h0.2.2.2.2.1 h1.2.2.2.2.1 (by omega) M3
  rw [r4, jp_bs]
  obtain ⟨M5, r5, g1, f5⟩ := gX2_takeFrom (t + 24) (a + 24) h0.2.2.2.2.2 h1.2.2.2.2.2 (by omega) M4
  rw [r5, jp_bs]
  have s0 : ∀ k : Nat, k < a + 27 → a ≤ k → M0 k = M k := fun k _ _ => f0 k (by omega)
  have s1 : ∀ k : Nat, k < a + 27 → a ≤ k → M1 k = M k := fun k x y => by rw [f1 _ (by omega), s0 k x y]
  have s2 : ∀ k : Nat, k < a + 27 → a ≤ k → M2 k = M k := fun k x y => by rw [f2 _ (by omega), s1 k x y]
  have s3 : ∀ k : Nat, k < a + 27 → a ≤ k → M3 k = M k := fun k x y => by rw [f3 _ (by omega), s2 k x y]
  have s4 : ∀ k : Nat, k < a + 27 → a ≤ k → M4 k = M k := fun k x y => by rw [f4 _ (by omega), s3 k x y]
  have u4 : ∀ k : Nat, k < t + 24 → t + 21 ≤ k → M5 k = M4 k := fun k x y => f5 _ (by omega)
  have u3 : ∀ k : Nat, k < t + 21 → t + 15 ≤ k → M5 k = M3 k := fun k x y => by rw [f5 _ (by omega), f4 _ (by omega)]
  have u2 : ∀ k : Nat, k < t + 15 → t + 8 ≤ k → M5 k = M2 k := fun k x y => by rw [f5 _ (by omega), f4 _ (by omega), f3 _ (by omega)]
  have u1 : ∀ k : Nat, k < t + 8 → t + 1 ≤ k → M5 k = M1 k := fun k x y => by rw [f5 _ (by omega), f4 _ (by omega), f3 _ (by omega), f2 _ (by omega)]
  have u0 : ∀ k : Nat, (k ≤ t ∨ t + 25 < k) → M5 k = M0 k := fun k x => by rw [f5 _ (by omega), f4 _ (by omega), f3 _ (by omega), f2 _ (by omega), f1 _ (by omega)]
  simp only [Nat.add_assoc, Nat.reduceAdd] at a1 a2 a3 a4 b1 b2 b3 b4 c1 c2 c3 c4 d1 d2 d3 g1
  refine ⟨M5, rfl, by rw [u0 t (by omega), z0], ?_, fun i p q => ?_, fun i p q => ?_, fun i p q => ?_, ?_, fun i p q => ?_, fun i p q => ?_, fun i p q => ?_, ?_, fun i p q => ?_, fun i p q => ?_, fun i p q => ?_, ?_, fun i p q => ?_, fun i p q => ?_, fun i p q => ?_, fun k x => by rw [u0 k (by omega), f0 k (by omega)]⟩
  · rw [u1 (t + 1) (by omega) (by omega), ← s0 (a + 1) (by omega) (by omega)]; exact a1
  · rw [u1 (t + 2) (by omega) (by omega), ← s0 (a + 2) (by omega) (by omega)]; exact a2 i p q
  · rw [u1 (t + 3) (by omega) (by omega), u1 (t + 4) (by omega) (by omega), u1 (t + 5) (by omega) (by omega), ← s0 (a + 3) (by omega) (by omega), ← s0 (a + 4) (by omega) (by omega), ← s0 (a + 5) (by omega) (by omega)]; exact a3 i p q
  · rw [u1 (t + 6) (by omega) (by omega), u1 (t + 7) (by omega) (by omega), ← s0 (a + 6) (by omega) (by omega), ← s0 (a + 7) (by omega) (by omega)]; exact a4 i p q
  · rw [u2 (t + 8) (by omega) (by omega), ← s1 (a + 8) (by omega) (by omega)]; exact b1
  · rw [u2 (t + 9) (by omega) (by omega), u2 (t + 10) (by omega) (by omega), u2 (t + 11) (by omega) (by omega), ← s1 (a + 9) (by omega) (by omega), ← s1 (a + 10) (by omega) (by omega), ← s1 (a + 11) (by omega) (by omega)]; exact b2 i p q
  · rw [u2 (t + 12) (by omega) (by omega), u2 (t + 13) (by omega) (by omega), ← s1 (a + 12) (by omega) (by omega), ← s1 (a + 13) (by omega) (by omega)]; exact b3 i p q
  · rw [u2 (t + 14) (by omega) (by omega), ← s1 (a + 14) (by omega) (by omega)]; exact b4 i p q
  · rw [u3 (t + 15) (by omega) (by omega), ← s2 (a + 15) (by omega) (by omega)]; exact c1
  · rw [u3 (t + 16) (by omega) (by omega), ← s2 (a + 16) (by omega) (by omega)]; exact c2 i p q
  · rw [u3 (t + 17) (by omega) (by omega), u3 (t + 18) (by omega) (by omega), u3 (t + 19) (by omega) (by omega), ← s2 (a + 17) (by omega) (by omega), ← s2 (a + 18) (by omega) (by omega), ← s2 (a + 19) (by omega) (by omega)]; exact c3 i p q
  · rw [u3 (t + 20) (by omega) (by omega), ← s2 (a + 20) (by omega) (by omega)]; exact c4 i p q
  · rw [u4 (t + 21) (by omega) (by omega), ← s3 (a + 21) (by omega) (by omega)]; exact d1
  · rw [u4 (t + 22) (by omega) (by omega), ← s3 (a + 22) (by omega) (by omega)]; exact d2 i p q
  · rw [u4 (t + 23) (by omega) (by omega), ← s3 (a + 23) (by omega) (by omega)]; exact d3 i p q
  · rw [← s4 (a + 25) (by omega) (by omega)]; exact g1 i p q
theorem jp_S_cp {t a : Nat} {M N : jw_M} {T R : Int → Int} (hT : jp_T T) (h : jp_S a M T R) (c : jp_cpy t a M N) : jp_S t N T R := by
  obtain ⟨⟨t0, t2, t3, t4, t5⟩, -⟩ := hT
  obtain ⟨c0, c1, c2, c3, c4, c5, c6, c7, c8, c9, c10, c11, c12, c13, c14, c15, c16, c17⟩ := c
  obtain ⟨s1, s2, s3, s4, s5, s6, s7, s8, s9, s10, s11, s12, s13, s14, s15, s16, s17, s18⟩ := h
  refine ⟨?_, fun i p q => ?_, fun x y p q r s => ?_, fun x y p q r s => ?_, fun i p q => ?_, ?_, fun i p q => ?_, fun i p q => ?_, fun i p q => ?_, fun i p q => ?_, ?_, fun z i p q => ?_, fun z i p q => ?_, fun i p q => ?_, ?_, fun i p q => ?_, fun i p q => ?_, fun x y p q r s => ?_⟩
  · rw [c1.1, c1.2.1, c1.2.2.1, c1.2.2.2.1, c1.2.2.2.2]; exact s1
  · rw [c2 i p (by omega)]; exact s2 i p q
  · rw [(c3 (7 * x + y) (by omega) (by omega)).1]; exact s3 x y p q r s
  · rw [(c3 (7 * x + y) (by omega) (by omega)).2.1, (c3 (7 * x + y) (by omega) (by omega)).2.2]; exact s4 x y p q r s
  · rw [(c4 i p (by omega)).1, (c4 i p (by omega)).2]; exact s5 i p q
  · rw [c5.1, c5.2.1, c5.2.2]; exact s6
  · rw [(c6 i p (by omega)).1, (c6 i p (by omega)).2.1, (c6 i p (by omega)).2.2]; exact s7 i p q
  · rw [(c7 i p (by omega)).1]; exact s8 i p q
  · rw [(c7 i p (by omega)).2]; exact s9 i p q
  · rw [c8 i p (by omega)]; exact s10 i p q
  · rw [c9.1, c9.2]; exact s11
  · rw [c10 i p q]; exact s12 z i p q
  · rw [(c11 i p (by omega)).1, (c11 i p (by omega)).2.1, (c11 i p (by omega)).2.2]; exact s13 z i p q
  · rw [c12 i p q]; exact s14 i p q
  · rw [c13]; exact s15
  · rw [c14 i p q]; exact s16 i p q
  · rw [c15 i p q]; exact s17 i p q
  · rw [c16 _ (by omega) (by omega)]; exact s18 x y p q r s
/-- equal where it matters -/
def jp_e (T T' : Int → Int) : Prop := ∀ i : Int, 0 ≤ i → i < 104 → T' i = T i
theorem jp_T_e {T T' : Int → Int} (e : jp_e T T') (h : jp_T T) : jp_T T' := by
  obtain ⟨⟨t0, t2, t3, t4, t5⟩, ⟨u1, u2, u3, u4⟩, a, b, c, d, f⟩ := h
  unfold jp_T
  rw [e 0 (by omega) (by omega), e 2 (by omega) (by omega), e 3 (by omega) (by omega), e 4 (by omega) (by omega), e 5 (by omega) (by omega), e 87 (by omega) (by omega), e 88 (by omega) (by omega), e 89 (by omega) (by omega)]
  refine ⟨⟨t0, t2, t3, t4, t5⟩, ⟨u1, u2, u3, u4⟩, fun i p q => ?_, fun x y p q r s => ?_, fun i p q => ?_, fun i p q => ?_, fun i p q => ?_⟩
  · rw [e _ (by omega) (by omega)]; exact a i p q
  · rw [e (14 + 7 * x + y) (by omega) (by omega), e (14 + 7 * y + x) (by omega) (by omega)]; exact b x y p q r s
  · rw [e (63 + 3 * i) (by omega) (by omega), e (64 + 3 * i) (by omega) (by omega), e (65 + 3 * i) (by omega) (by omega)]; exact c i p q
  · rw [e (75 + 2 * i) (by omega) (by omega), e (76 + 2 * i) (by omega) (by omega)]; exact d i p q
  · rw [e (90 + i) (by omega) (by omega)]; exact f i p q
theorem jp_N_e {T T' N N' : Int → Int} (hT : jp_T T) (e : jp_e T T') (g : jp_e N N') (h : jp_N T N) : jp_N T' N' := by
  obtain ⟨⟨t0, t2, t3, t4, t5⟩, -⟩ := hT
  obtain ⟨n1, n2, n3, n4, n5, n6, n7, n8⟩ := h
  unfold jp_N
  rw [e 0 (by omega) (by omega), e 3 (by omega) (by omega), e 4 (by omega) (by omega), g 9 (by omega) (by omega), g 42 (by omega) (by omega), g 58 (by omega) (by omega)]
  refine ⟨fun i p q => ?_, fun i p q => ?_, n3, fun i p q => ?_, fun i p q => ?_, fun i p q => ?_, fun i p q => ?_, fun x y p q r s => ?_⟩
  · rw [g _ (by omega) (by omega)]; exact n1 i p q
  · rw [g _ (by omega) (by omega)]; exact n2 i p q
  · rw [g _ (by omega) (by omega)]; exact n4 i p q
  · rw [g _ (by omega) (by omega)]; exact n5 i p q
  · rw [g _ (by omega) (by omega)]; exact n6 i p q
  · rw [g _ (by omega) (by omega)]; exact n7 i p q
  · rw [g _ (by omega) (by omega)]; exact n8 x y p q r s
theorem jp_wk_e {T T' : Int → Int} (e : jp_e T T') {a b : Int} (a1 : 0 ≤ a) (a2 : a < 7) (b1 : 0 ≤ b) (b2 : b < 7) : jp_wk T' a b = jp_wk T a b ∧ jp_hk T' a b = jp_hk T a b := by
  refine ⟨jp_fw_c (fun x y p q r s => ?_) 7 (by omega) a b a1 a2 b1 b2, jp_fw_c (fun x y p q r s => ?_) 7 (by omega) a b a1 a2 b1 b2⟩
  · unfold jp_w0
    rw [e _ (by omega) (by omega)]
  · unfold jp_h0
    rw [e _ (by omega) (by omega), e 89 (by omega) (by omega)]
theorem jp_S_e {s : Nat} {M : jw_M} {T T' N N' : Int → Int} (hT : jp_T T) (h9 : 0 ≤ N 9 ∧ N 9 ≤ 12) (e : jp_e T T') (g : jp_e N N') (h : jp_S s M T N) : jp_S s M T' N' := by
  obtain ⟨⟨t0, t2, t3, t4, t5⟩, -⟩ := hT
  obtain ⟨s1, s2, s3, s4, s5, s6, s7, s8, s9, s10, s11, s12, s13, s14, s15, s16, s17, s18⟩ := h
  unfold jp_S
  rw [e 0 (by omega) (by omega), e 2 (by omega) (by omega), e 3 (by omega) (by omega), e 4 (by omega) (by omega), e 5 (by omega) (by omega), e 87 (by omega) (by omega), e 88 (by omega) (by omega), e 89 (by omega) (by omega), g 9 (by omega) (by omega), g 42 (by omega) (by omega), g 58 (by omega) (by omega)]
  refine ⟨s1, fun i p q => ?_, fun x y p q r s => ?_, fun x y p q r s => ?_, fun i p q => ?_, s6, fun i p q => ?_, fun i p q => ?_, fun i p q => ?_, fun i p q => ?_, s11, s12, fun z i p q => ?_, fun i p q => ?_, s15, fun i p q => ?_, fun i p q => ?_, fun x y p q r s => ?_⟩
  · rw [e _ (by omega) (by omega)]; exact s2 i p q
  · rw [e _ (by omega) (by omega)]; exact s3 x y p q r s
  · rw [(jp_wk_e e p (by omega) r (by omega)).1, (jp_wk_e e p (by omega) r (by omega)).2]; exact s4 x y p q r s
  · rw [e (75 + 2 * i) (by omega) (by omega), e (76 + 2 * i) (by omega) (by omega)]; exact s5 i p q
  · rw [e (63 + 3 * i) (by omega) (by omega), e (64 + 3 * i) (by omega) (by omega), e (65 + 3 * i) (by omega) (by omega)]; exact s7 i p q
  · rw [e _ (by omega) (by omega)]; exact s8 i p q
  · rw [g _ (by omega) (by omega)]; exact s9 i p q
  · rw [g _ (by omega) (by omega)]; exact s10 i p q
  · rw [g (43 + i) (by omega) (by omega), g (48 + i) (by omega) (by omega), g (53 + i) (by omega) (by omega)]; exact s13 z i p q
  · rw [g _ (by omega) (by omega)]; exact s14 i p q
  · rw [jp_ct_c (fun j j1 j2 => g j (by omega) (by omega)) i _ (by omega)]; exact s16 i p q
  · rw [g _ (by omega) (by omega)]; exact s17 i p q
  · rw [g _ (by omega) (by omega)]; exact s18 x y p q r s
