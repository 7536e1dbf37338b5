/-! keep -/
theorem jp_bnd {α β : Type} {x : Option α} {v : α} (h : x = some v) (k : α → Option β) : Option.bind x k = k v := by rw [h]; rfl
theorem jp_bn2 {β : Type} {x : Option (Int × jw_M)} {v : Int} {M : jw_M} (h : x = some (v, M)) (k : Int → jw_M → Option β) : jw_b2 x k = k v M := by rw [h]; rfl
theorem gX1_add (M : jw_M) (h0 : 0 ≤ M 30 0 ∧ M 30 0 < 12) (h1 : ∀ c : Int, 0 ≤ c → c < 7 → 0 ≤ M 31 c ∧ M 31 c ≤ 12) (h2 : ∀ k : Int, 0 ≤ k → k < 20 → -100000 ≤ M 32 k ∧ M 32 k ≤ 100000 ∧ -100000 ≤ M 29 k ∧ M 29 k ≤ 100000) :
    ∃ N : jw_M, fX1_add (9 + 21) (9 + 15) M = some N ∧ N 30 0 = M 30 0 + 1 ∧ (∀ c : Int, 0 ≤ c → c < 7 → N 31 c = M 31 c + (if M 25 c < 1000000 then 1 else 0)) ∧ (∀ k : Int, 0 ≤ k → k < 20 → N 32 k = M 32 k + M 29 k) ∧ (∀ k : Nat, k ≠ 30 → k ≠ 31 → k ≠ 32 → N k = M k) := by
  unfold fX1_add
  rw [if_pos (by decide), if_pos (by decide)]
  rw [jp_n9_21, jp_n9_15]
  simp only [Option.bind_some]
  refine jp_up (fun k i N => fX1_add_12 30 24 k i N) 7 (fun i N => 0 ≤ i ∧ N 30 0 = M 30 0 + 1 ∧ (∀ c : Int, 0 ≤ c → c < 7 → N 31 c = M 31 c + (if c < i ∧ M 25 c < 1000000 then 1 else 0)) ∧ (∀ k : Nat, k ≠ 30 → k ≠ 31 → N k = M k)) (fun x => ∃ N : jw_M, x = some N ∧ N 30 0 = M 30 0 + 1 ∧ (∀ c : Int, 0 ≤ c → c < 7 → N 31 c = M 31 c + (if M 25 c < 1000000 then 1 else 0)) ∧ (∀ k : Int, 0 ≤ k → k < 20 → N 32 k = M 32 k + M 29 k) ∧ (∀ k : Nat, k ≠ 30 → k ≠ 31 → k ≠ 32 → N k = M k)) ?_ ?_ jw_fu 0 _ (by unfold jw_fu; omega) (by omega) ⟨by omega, ?_, fun c p q => ?_, fun k p q => ?_⟩
  · intro k i N hp hi ih
    obtain ⟨p0, p1, p2, p3⟩ := hp
    have e25 := p3 25 (by decide) (by decide)
    have ec := p2 i p0 hi
    rw [if_neg (by omega)] at ec
    have hc := h1 i p0 hi
    show ∃ N : jw_M, fX1_add_12 30 24 (k + 1) i _ = _ ∧ _
    rw [fX1_add_12]
    unfold fX3_cameTo fX1_add_36
    rw [if_pos (by decide : jw_tag 24 = 3)]
    by_cases hh : M 25 i < 1000000
    · simp (disch := omega) only [↓jp_bs, ↓jp_b2s, ↓reduceIte, jw_up_a, Nat.reduceEqDiff, Int.reduceEq, Int.reduceLT, Int.reduceLE, Int.reduceAdd, Int.reduceSub, Int.reduceMul, Int.reduceNeg, jp_n9_1, jp_n9_8, jp_n9_15, jp_n9_21, jp_n9_24, jp_n10_1, jp_n10_2, jp_n10_3, jp_n10_4, jp_n10_5, jp_n10_6, jp_n17_1, jp_n17_2, jp_n17_3, jp_n17_4, jp_n17_5, jp_n17_6, jp_n24_1, jp_n24_2, jp_n24_3, jp_n24_4, jp_n24_5, jp_n30_1, jp_n30_2, jp_n33_1, jp_n33_2, false_and, true_and, and_true, and_false, and_self, ne_eq, not_true_eq_false, not_false_eq_true, jw_ws, jw_vs, jw_cmp_lt, jw_cmp_gt, jw_cmp_eq, jp_t1, jp_t2, jp_t3, jp_t4, jp_t5, jp_t6, e25]
      refine ih _ ⟨by omega, ?_, fun c a b => ?_, fun k a b => ?_⟩
      · simp (disch := omega) only [↓jp_bs, ↓jp_b2s, ↓reduceIte, jw_up_a, Nat.reduceEqDiff, Int.reduceEq, Int.reduceLT, Int.reduceLE, Int.reduceAdd, Int.reduceSub, Int.reduceMul, Int.reduceNeg, jp_n9_1, jp_n9_8, jp_n9_15, jp_n9_21, jp_n9_24, jp_n10_1, jp_n10_2, jp_n10_3, jp_n10_4, jp_n10_5, jp_n10_6, jp_n17_1, jp_n17_2, jp_n17_3, jp_n17_4, jp_n17_5, jp_n17_6, jp_n24_1, jp_n24_2, jp_n24_3, jp_n24_4, jp_n24_5, jp_n30_1, jp_n30_2, jp_n33_1, jp_n33_2, false_and, true_and, and_true, and_false, and_self, ne_eq, not_true_eq_false, not_false_eq_true, jw_ws, jw_vs, jw_cmp_lt, jw_cmp_gt, jw_cmp_eq, jp_t1, jp_t2, jp_t3, jp_t4, jp_t5, jp_t6]
      · have := p2 c a b
        by_cases e : c = i
        · subst e
          simp (disch := omega) only [↓jp_bs, ↓jp_b2s, ↓reduceIte, jw_up_a, Nat.reduceEqDiff, Int.reduceEq, Int.reduceLT, Int.reduceLE, Int.reduceAdd, Int.reduceSub, Int.reduceMul, Int.reduceNeg, jp_n9_1, jp_n9_8, jp_n9_15, jp_n9_21, jp_n9_24, jp_n10_1, jp_n10_2, jp_n10_3, jp_n10_4, jp_n10_5, jp_n10_6, jp_n17_1, jp_n17_2, jp_n17_3, jp_n17_4, jp_n17_5, jp_n17_6, jp_n24_1, jp_n24_2, jp_n24_3, jp_n24_4, jp_n24_5, jp_n30_1, jp_n30_2, jp_n33_1, jp_n33_2, false_and, true_and, and_true, and_false, and_self, ne_eq, not_true_eq_false, not_false_eq_true, jw_ws, jw_vs, jw_cmp_lt, jw_cmp_gt, jw_cmp_eq, jp_t1, jp_t2, jp_t3, jp_t4, jp_t5, jp_t6]
        · by_cases e2 : c < i
          · rw [jw_up_a, if_neg (by omega), this, jp_ifc (show c < i ∧ M 25 c < 1000000 ↔ c < i + 1 ∧ M 25 c < 1000000 by omega)]
          · rw [jw_up_a, if_neg (by omega), this, jp_ifc (show c < i ∧ M 25 c < 1000000 ↔ c < i + 1 ∧ M 25 c < 1000000 by omega)]
      · rw [jw_up_ne _ b, p3 k a b]
    · simp (disch := omega) only [↓jp_bs, ↓jp_b2s, ↓reduceIte, jw_up_a, Nat.reduceEqDiff, Int.reduceEq, Int.reduceLT, Int.reduceLE, Int.reduceAdd, Int.reduceSub, Int.reduceMul, Int.reduceNeg, jp_n9_1, jp_n9_8, jp_n9_15, jp_n9_21, jp_n9_24, jp_n10_1, jp_n10_2, jp_n10_3, jp_n10_4, jp_n10_5, jp_n10_6, jp_n17_1, jp_n17_2, jp_n17_3, jp_n17_4, jp_n17_5, jp_n17_6, jp_n24_1, jp_n24_2, jp_n24_3, jp_n24_4, jp_n24_5, jp_n30_1, jp_n30_2, jp_n33_1, jp_n33_2, false_and, true_and, and_true, and_false, and_self, ne_eq, not_true_eq_false, not_false_eq_true, jw_ws, jw_vs, jw_cmp_lt, jw_cmp_gt, jw_cmp_eq, jp_t1, jp_t2, jp_t3, jp_t4, jp_t5, jp_t6, e25]
      refine ih _ ⟨by omega, p1, fun c a b => ?_, p3⟩
      have := p2 c a b
      rw [this, jp_ifc (show c < i ∧ M 25 c < 1000000 ↔ c < i + 1 ∧ M 25 c < 1000000 by
        constructor
        · omega
        · intro ⟨z1, z2⟩
          refine ⟨?_, z2⟩
          by_cases e : c = i
          · subst e; omega
          · omega)]
  · intro k N hp
    obtain ⟨p0, p1, p2, p3⟩ := hp
    show ∃ N : jw_M, fX1_add_12 30 24 (k + 1) 7 _ = _ ∧ _
    rw [fX1_add_12]
    simp (disch := omega) only [↓jp_bs, ↓jp_b2s, ↓reduceIte, jw_up_a, Nat.reduceEqDiff, Int.reduceEq, Int.reduceLT, Int.reduceLE, Int.reduceAdd, Int.reduceSub, Int.reduceMul, Int.reduceNeg, jp_n9_1, jp_n9_8, jp_n9_15, jp_n9_21, jp_n9_24, jp_n10_1, jp_n10_2, jp_n10_3, jp_n10_4, jp_n10_5, jp_n10_6, jp_n17_1, jp_n17_2, jp_n17_3, jp_n17_4, jp_n17_5, jp_n17_6, jp_n24_1, jp_n24_2, jp_n24_3, jp_n24_4, jp_n24_5, jp_n30_1, jp_n30_2, jp_n33_1, jp_n33_2, false_and, true_and, and_true, and_false, and_self, ne_eq, not_true_eq_false, not_false_eq_true, jw_ws, jw_vs, jw_cmp_lt, jw_cmp_gt, jw_cmp_eq, jp_t1, jp_t2, jp_t3, jp_t4, jp_t5, jp_t6]
    refine jp_up (fun k i N => fX1_add_44 30 24 k i N) 20 (fun i N2 => 0 ≤ i ∧ (∀ k : Int, 0 ≤ k → k < 20 → N2 32 k = M 32 k + (if k < i then M 29 k else 0)) ∧ (∀ k : Nat, k ≠ 32 → N2 k = N k)) (fun x => ∃ N : jw_M, x = some N ∧ N 30 0 = M 30 0 + 1 ∧ (∀ c : Int, 0 ≤ c → c < 7 → N 31 c = M 31 c + (if M 25 c < 1000000 then 1 else 0)) ∧ (∀ k : Int, 0 ≤ k → k < 20 → N 32 k = M 32 k + M 29 k) ∧ (∀ k : Nat, k ≠ 30 → k ≠ 31 → k ≠ 32 → N k = M k)) ?_ ?_ jw_fu 0 _ (by unfold jw_fu; omega) (by omega) ⟨by omega, fun c a b => ?_, fun k a => rfl⟩
    · intro k i N2 hp hi ih
      obtain ⟨q0, q1, q2⟩ := hp
      have e29 : N2 29 = M 29 := by rw [q2 29 (by decide), p3 29 (by decide) (by decide)]
      have e := q1 i q0 hi
      rw [if_neg (by omega)] at e
      have hk := h2 i q0 hi
      show ∃ N : jw_M, fX1_add_44 30 24 (k + 1) i _ = _ ∧ _
      rw [fX1_add_44]
      simp (disch := omega) only [↓jp_bs, ↓jp_b2s, ↓reduceIte, jw_up_a, Nat.reduceEqDiff, Int.reduceEq, Int.reduceLT, Int.reduceLE, Int.reduceAdd, Int.reduceSub, Int.reduceMul, Int.reduceNeg, jp_n9_1, jp_n9_8, jp_n9_15, jp_n9_21, jp_n9_24, jp_n10_1, jp_n10_2, jp_n10_3, jp_n10_4, jp_n10_5, jp_n10_6, jp_n17_1, jp_n17_2, jp_n17_3, jp_n17_4, jp_n17_5, jp_n17_6, jp_n24_1, jp_n24_2, jp_n24_3, jp_n24_4, jp_n24_5, jp_n30_1, jp_n30_2, jp_n33_1, jp_n33_2, false_and, true_and, and_true, and_false, and_self, ne_eq, not_true_eq_false, not_false_eq_true, jw_ws, jw_vs, jw_cmp_lt, jw_cmp_gt, jw_cmp_eq, jp_t1, jp_t2, jp_t3, jp_t4, jp_t5, jp_t6, e29]
      refine ih _ ⟨by omega, fun c a b => ?_, fun k a => ?_⟩
      · have := q1 c a b
        by_cases e : c = i
        · subst e
          simp (disch := omega) only [↓jp_bs, ↓jp_b2s, ↓reduceIte, jw_up_a, Nat.reduceEqDiff, Int.reduceEq, Int.reduceLT, Int.reduceLE, Int.reduceAdd, Int.reduceSub, Int.reduceMul, Int.reduceNeg, jp_n9_1, jp_n9_8, jp_n9_15, jp_n9_21, jp_n9_24, jp_n10_1, jp_n10_2, jp_n10_3, jp_n10_4, jp_n10_5, jp_n10_6, jp_n17_1, jp_n17_2, jp_n17_3, jp_n17_4, jp_n17_5, jp_n17_6, jp_n24_1, jp_n24_2, jp_n24_3, jp_n24_4, jp_n24_5, jp_n30_1, jp_n30_2, jp_n33_1, jp_n33_2, false_and, true_and, and_true, and_false, and_self, ne_eq, not_true_eq_false, not_false_eq_true, jw_ws, jw_vs, jw_cmp_lt, jw_cmp_gt, jw_cmp_eq, jp_t1, jp_t2, jp_t3, jp_t4, jp_t5, jp_t6] <;> omega
        · rw [jw_up_a, if_neg (by omega), this]
          by_cases e2 : c < i
          · rw [if_pos e2, if_pos (by omega)]
          · rw [if_neg e2, if_neg (by omega)]
      · rw [jw_up_ne _ a, q2 k a]
    · intro k N2 hp
      obtain ⟨q0, q1, q2⟩ := hp
      refine ⟨N2, ?_, by rw [q2 30 (by decide)]; exact p1, fun c a b => ?_, fun c a b => ?_, fun k a b c => by rw [q2 k c, p3 k a b]⟩
      · show fX1_add_44 30 24 (k + 1) 20 _ = _
        rw [fX1_add_44]
        simp (disch := omega) only [↓jp_bs, ↓jp_b2s, ↓reduceIte, jw_up_a, Nat.reduceEqDiff, Int.reduceEq, Int.reduceLT, Int.reduceLE, Int.reduceAdd, Int.reduceSub, Int.reduceMul, Int.reduceNeg, jp_n9_1, jp_n9_8, jp_n9_15, jp_n9_21, jp_n9_24, jp_n10_1, jp_n10_2, jp_n10_3, jp_n10_4, jp_n10_5, jp_n10_6, jp_n17_1, jp_n17_2, jp_n17_3, jp_n17_4, jp_n17_5, jp_n17_6, jp_n24_1, jp_n24_2, jp_n24_3, jp_n24_4, jp_n24_5, jp_n30_1, jp_n30_2, jp_n33_1, jp_n33_2, false_and, true_and, and_true, and_false, and_self, ne_eq, not_true_eq_false, not_false_eq_true, jw_ws, jw_vs, jw_cmp_lt, jw_cmp_gt, jw_cmp_eq, jp_t1, jp_t2, jp_t3, jp_t4, jp_t5, jp_t6]
      · rw [q2 31 (by decide), p2 c a b, jp_ifc (show c < 7 ∧ M 25 c < 1000000 ↔ M 25 c < 1000000 by omega)]
      · rw [q1 c a b, if_pos b]
    · rw [p3 32 (by decide) (by decide), if_neg (by omega)]
      omega
  · simp (disch := omega) only [↓jp_bs, ↓jp_b2s, ↓reduceIte, jw_up_a, Nat.reduceEqDiff, Int.reduceEq, Int.reduceLT, Int.reduceLE, Int.reduceAdd, Int.reduceSub, Int.reduceMul, Int.reduceNeg, jp_n9_1, jp_n9_8, jp_n9_15, jp_n9_21, jp_n9_24, jp_n10_1, jp_n10_2, jp_n10_3, jp_n10_4, jp_n10_5, jp_n10_6, jp_n17_1, jp_n17_2, jp_n17_3, jp_n17_4, jp_n17_5, jp_n17_6, jp_n24_1, jp_n24_2, jp_n24_3, jp_n24_4, jp_n24_5, jp_n30_1, jp_n30_2, jp_n33_1, jp_n33_2, false_and, true_and, and_true, and_false, and_self, ne_eq, not_true_eq_false, not_false_eq_true, jw_ws, jw_vs, jw_cmp_lt, jw_cmp_gt, jw_cmp_eq, jp_t1, jp_t2, jp_t3, jp_t4, jp_t5, jp_t6]
  · rw [if_neg (by omega)]
    simp (disch := omega) only [↓jp_bs, ↓jp_b2s, ↓reduceIte, jw_up_a, Nat.reduceEqDiff, Int.reduceEq, Int.reduceLT, Int.reduceLE, Int.reduceAdd, Int.reduceSub, Int.reduceMul, Int.reduceNeg, jp_n9_1, jp_n9_8, jp_n9_15, jp_n9_21, jp_n9_24, jp_n10_1, jp_n10_2, jp_n10_3, jp_n10_4, jp_n10_5, jp_n10_6, jp_n17_1, jp_n17_2, jp_n17_3, jp_n17_4, jp_n17_5, jp_n17_6, jp_n24_1, jp_n24_2, jp_n24_3, jp_n24_4, jp_n24_5, jp_n30_1, jp_n30_2, jp_n33_1, jp_n33_2, false_and, true_and, and_true, and_false, and_self, ne_eq, not_true_eq_false, not_false_eq_true, jw_ws, jw_vs, jw_cmp_lt, jw_cmp_gt, jw_cmp_eq, jp_t1, jp_t2, jp_t3, jp_t4, jp_t5, jp_t6] <;> omega
  · rw [jw_up_ne _ p]
theorem gX12_keep_71 (M : jw_M) (h : ∀ k : Int, 0 ≤ k → k < 20 → -100000 ≤ M 133 (22 + k) ∧ M 133 (22 + k) ≤ 100000 ∧ -100000 ≤ M 133 (59 + k) ∧ M 133 (59 + k) ≤ 100000) :
    ∃ N : jw_M, fX12_keep_71 jw_fu 0 M = some (M 133 9, N) ∧ N 133 42 = 3 ∧ (∀ k : Int, 0 ≤ k → k < 20 → N 133 (22 + k) = M 133 (22 + k) + M 133 (59 + k)) ∧ (∀ j : Int, j ≠ 42 → (j < 22 ∨ 42 ≤ j) → N 133 j = M 133 j) ∧ (∀ k : Nat, k ≠ 133 → N k = M k) := by
  refine jp_up (fun k i N => fX12_keep_71 k i N) 20 (fun i N => 0 ≤ i ∧ (∀ k : Int, 0 ≤ k → k < 20 → N 133 (22 + k) = M 133 (22 + k) + (if k < i then M 133 (59 + k) else 0)) ∧ (∀ j : Int, (j < 22 ∨ 42 ≤ j) → N 133 j = M 133 j) ∧ (∀ k : Nat, k ≠ 133 → N k = M k)) (fun x => ∃ N : jw_M, x = some (M 133 9, N) ∧ N 133 42 = 3 ∧ (∀ k : Int, 0 ≤ k → k < 20 → N 133 (22 + k) = M 133 (22 + k) + M 133 (59 + k)) ∧ (∀ j : Int, j ≠ 42 → (j < 22 ∨ 42 ≤ j) → N 133 j = M 133 j) ∧ (∀ k : Nat, k ≠ 133 → N k = M k)) ?_ ?_ jw_fu 0 _ (by unfold jw_fu; omega) (by omega) ⟨by omega, fun c a b => ?_, fun j p => rfl, fun k p => rfl⟩
  · intro k i N hp hi ih
    obtain ⟨p0, p1, p2, p3⟩ := hp
    have e := p1 i p0 hi
    rw [if_neg (by omega)] at e
    have e2 := p2 (59 + i) (by omega)
    have hk := h i p0 hi
    show ∃ N : jw_M, fX12_keep_71 (k + 1) i _ = _ ∧ _
    rw [fX12_keep_71]
    simp (disch := omega) only [↓jp_bs, ↓jp_b2s, ↓reduceIte, jw_up_a, Nat.reduceEqDiff, Int.reduceEq, Int.reduceLT, Int.reduceLE, Int.reduceAdd, Int.reduceSub, Int.reduceMul, Int.reduceNeg, jp_n9_1, jp_n9_8, jp_n9_15, jp_n9_21, jp_n9_24, jp_n10_1, jp_n10_2, jp_n10_3, jp_n10_4, jp_n10_5, jp_n10_6, jp_n17_1, jp_n17_2, jp_n17_3, jp_n17_4, jp_n17_5, jp_n17_6, jp_n24_1, jp_n24_2, jp_n24_3, jp_n24_4, jp_n24_5, jp_n30_1, jp_n30_2, jp_n33_1, jp_n33_2, false_and, true_and, and_true, and_false, and_self, ne_eq, not_true_eq_false, not_false_eq_true, jw_ws, jw_vs, jw_cmp_lt, jw_cmp_gt, jw_cmp_eq, jp_t1, jp_t2, jp_t3, jp_t4, jp_t5, jp_t6]
    refine ih _ ⟨by omega, fun c a b => ?_, fun j a => ?_, fun k a => ?_⟩
    · have := p1 c a b
      by_cases e3 : c = i
      · subst e3
        simp (disch := omega) only [↓jp_bs, ↓jp_b2s, ↓reduceIte, jw_up_a, Nat.reduceEqDiff, Int.reduceEq, Int.reduceLT, Int.reduceLE, Int.reduceAdd, Int.reduceSub, Int.reduceMul, Int.reduceNeg, jp_n9_1, jp_n9_8, jp_n9_15, jp_n9_21, jp_n9_24, jp_n10_1, jp_n10_2, jp_n10_3, jp_n10_4, jp_n10_5, jp_n10_6, jp_n17_1, jp_n17_2, jp_n17_3, jp_n17_4, jp_n17_5, jp_n17_6, jp_n24_1, jp_n24_2, jp_n24_3, jp_n24_4, jp_n24_5, jp_n30_1, jp_n30_2, jp_n33_1, jp_n33_2, false_and, true_and, and_true, and_false, and_self, ne_eq, not_true_eq_false, not_false_eq_true, jw_ws, jw_vs, jw_cmp_lt, jw_cmp_gt, jw_cmp_eq, jp_t1, jp_t2, jp_t3, jp_t4, jp_t5, jp_t6] <;> omega
      · rw [jw_up_a, if_neg (by omega), this]
        by_cases e4 : c < i
        · rw [if_pos e4, if_pos (by omega)]
        · rw [if_neg e4, if_neg (by omega)]
    · rw [jw_up_a, if_neg (by omega), p2 j a]
    · rw [jw_up_ne _ a, p3 k a]
  · intro k N hp
    obtain ⟨p0, p1, p2, p3⟩ := hp
    refine ⟨jw_up N 133 42 3, ?_, by simp (disch := omega) only [↓jp_bs, ↓jp_b2s, ↓reduceIte, jw_up_a, Nat.reduceEqDiff, Int.reduceEq, Int.reduceLT, Int.reduceLE, Int.reduceAdd, Int.reduceSub, Int.reduceMul, Int.reduceNeg, jp_n9_1, jp_n9_8, jp_n9_15, jp_n9_21, jp_n9_24, jp_n10_1, jp_n10_2, jp_n10_3, jp_n10_4, jp_n10_5, jp_n10_6, jp_n17_1, jp_n17_2, jp_n17_3, jp_n17_4, jp_n17_5, jp_n17_6, jp_n24_1, jp_n24_2, jp_n24_3, jp_n24_4, jp_n24_5, jp_n30_1, jp_n30_2, jp_n33_1, jp_n33_2, false_and, true_and, and_true, and_false, and_self, ne_eq, not_true_eq_false, not_false_eq_true, jw_ws, jw_vs, jw_cmp_lt, jw_cmp_gt, jw_cmp_eq, jp_t1, jp_t2, jp_t3, jp_t4, jp_t5, jp_t6], fun c a b => ?_, fun j a b => ?_, fun k a => ?_⟩
    · show fX12_keep_71 (k + 1) 20 _ = _
      rw [fX12_keep_71]
      simp (disch := omega) only [↓jp_bs, ↓jp_b2s, ↓reduceIte, jw_up_a, Nat.reduceEqDiff, Int.reduceEq, Int.reduceLT, Int.reduceLE, Int.reduceAdd, Int.reduceSub, Int.reduceMul, Int.reduceNeg, jp_n9_1, jp_n9_8, jp_n9_15, jp_n9_21, jp_n9_24, jp_n10_1, jp_n10_2, jp_n10_3, jp_n10_4, jp_n10_5, jp_n10_6, jp_n17_1, jp_n17_2, jp_n17_3, jp_n17_4, jp_n17_5, jp_n17_6, jp_n24_1, jp_n24_2, jp_n24_3, jp_n24_4, jp_n24_5, jp_n30_1, jp_n30_2, jp_n33_1, jp_n33_2, false_and, true_and, and_true, and_false, and_self, ne_eq, not_true_eq_false, not_false_eq_true, jw_ws, jw_vs, jw_cmp_lt, jw_cmp_gt, jw_cmp_eq, jp_t1, jp_t2, jp_t3, jp_t4, jp_t5, jp_t6, p2 9 (by omega)]
    · rw [jw_up_a, if_neg (by omega), p1 c a b, if_pos b]
    · rw [jw_up_a, if_neg (by omega), p2 j b]
    · rw [jw_up_ne _ a, p3 k a]
  · rw [if_neg (by omega)]
    omega
theorem jp_keep_go (M : jw_M) (h42 : M 133 42 = 1) (h9 : 0 ≤ M 133 9 ∧ M 133 9 < 12) (M8 : jw_M) (R : Option (Int × jw_M)) (hM8 : jw_up (jw_up (jw_up M 127 0 0) 133 (10 + M 133 9) (M 133 58)) 133 9 (M 133 9 + 1) = M8) (hR : fX12_keep_71 jw_fu 0 M8 = R) : fX12_keep M = R := by
  unfold fX12_keep
  rw [← hR, ← hM8]
  generalize fX12_keep_71 jw_fu = F
  simp (disch := omega) only [↓jp_bs, ↓jp_b2s, ↓reduceIte, jw_up_a, Nat.reduceEqDiff, Int.reduceEq, Int.reduceLT, Int.reduceLE, Int.reduceAdd, Int.reduceSub, Int.reduceMul, Int.reduceNeg, jp_n9_1, jp_n9_8, jp_n9_15, jp_n9_21, jp_n9_24, jp_n10_1, jp_n10_2, jp_n10_3, jp_n10_4, jp_n10_5, jp_n10_6, jp_n17_1, jp_n17_2, jp_n17_3, jp_n17_4, jp_n17_5, jp_n17_6, jp_n24_1, jp_n24_2, jp_n24_3, jp_n24_4, jp_n24_5, jp_n30_1, jp_n30_2, jp_n33_1, jp_n33_2, false_and, true_and, and_true, and_false, and_self, ne_eq, not_true_eq_false, not_false_eq_true, jw_ws, jw_vs, jw_cmp_lt, jw_cmp_gt, jw_cmp_eq, jp_t1, jp_t2, jp_t3, jp_t4, jp_t5, jp_t6]
theorem jp_keep {M : jw_M} (h : jp_inv M) : jp_ok (fX11_keep M) fX12_keep := by
  have hA := jp_inv_A h
  have hD := jp_inv_D h
  have hD0 := hD
  obtain ⟨⟨r0, r2, r3, r4, r5⟩, -, rq, -⟩ := jp_A_r hA
  obtain ⟨d1, d2, d3, d4, d5, d6, d7, d8, d9, d10, d11, d12, d13, d14⟩ := hD
  by_cases h1 : M 133 42 = 1
  · have e0 : M 24 0 = 1 := by omega
    have e1 : M 24 1 = 0 := by omega
    by_cases h2 : M 133 9 = 12
    · have hx : fX11_keep M = some (-9000000000000000003, M) := by
        unfold fX11_keep
        simp (disch := omega) only [↓jp_bs, ↓jp_b2s, ↓reduceIte, jw_up_a, Nat.reduceEqDiff, Int.reduceEq, Int.reduceLT, Int.reduceLE, Int.reduceAdd, Int.reduceSub, Int.reduceMul, Int.reduceNeg, jp_n9_1, jp_n9_8, jp_n9_15, jp_n9_21, jp_n9_24, jp_n10_1, jp_n10_2, jp_n10_3, jp_n10_4, jp_n10_5, jp_n10_6, jp_n17_1, jp_n17_2, jp_n17_3, jp_n17_4, jp_n17_5, jp_n17_6, jp_n24_1, jp_n24_2, jp_n24_3, jp_n24_4, jp_n24_5, jp_n30_1, jp_n30_2, jp_n33_1, jp_n33_2, false_and, true_and, and_true, and_false, and_self, ne_eq, not_true_eq_false, not_false_eq_true, jw_ws, jw_vs, jw_cmp_lt, jw_cmp_gt, jw_cmp_eq, jp_t1, jp_t2, jp_t3, jp_t4, jp_t5, jp_t6]
      refine ⟨_, _, _, hx, ?_, jp_th h 0⟩
      unfold fX12_keep
      simp (disch := omega) only [↓jp_bs, ↓jp_b2s, ↓reduceIte, jw_up_a, Nat.reduceEqDiff, Int.reduceEq, Int.reduceLT, Int.reduceLE, Int.reduceAdd, Int.reduceSub, Int.reduceMul, Int.reduceNeg, jp_n9_1, jp_n9_8, jp_n9_15, jp_n9_21, jp_n9_24, jp_n10_1, jp_n10_2, jp_n10_3, jp_n10_4, jp_n10_5, jp_n10_6, jp_n17_1, jp_n17_2, jp_n17_3, jp_n17_4, jp_n17_5, jp_n17_6, jp_n24_1, jp_n24_2, jp_n24_3, jp_n24_4, jp_n24_5, jp_n30_1, jp_n30_2, jp_n33_1, jp_n33_2, false_and, true_and, and_true, and_false, and_self, ne_eq, not_true_eq_false, not_false_eq_true, jw_ws, jw_vs, jw_cmp_lt, jw_cmp_gt, jw_cmp_eq, jp_t1, jp_t2, jp_t3, jp_t4, jp_t5, jp_t6]
    · obtain ⟨N, n1, n2, n3, n4, n5⟩ := gX1_add M (by omega) (fun c p q => by rw [d12 c p q]; exact jp_D_t hD0 c) (fun k p q => by have := d3 k p q; have := d4 k p q; have := d10 k p q; have := d13 k p q; omega)
      have hx : fX11_keep M = some (M 133 9 + 1, jw_up N 24 1 1) := by
        unfold fX11_keep
        simp (disch := omega) only [↓jp_bs, ↓jp_b2s, ↓reduceIte, jw_up_a, Nat.reduceEqDiff, Int.reduceEq, Int.reduceLT, Int.reduceLE, Int.reduceAdd, Int.reduceSub, Int.reduceMul, Int.reduceNeg, jp_n9_1, jp_n9_8, jp_n9_15, jp_n9_21, jp_n9_24, jp_n10_1, jp_n10_2, jp_n10_3, jp_n10_4, jp_n10_5, jp_n10_6, jp_n17_1, jp_n17_2, jp_n17_3, jp_n17_4, jp_n17_5, jp_n17_6, jp_n24_1, jp_n24_2, jp_n24_3, jp_n24_4, jp_n24_5, jp_n30_1, jp_n30_2, jp_n33_1, jp_n33_2, false_and, true_and, and_true, and_false, and_self, ne_eq, not_true_eq_false, not_false_eq_true, jw_ws, jw_vs, jw_cmp_lt, jw_cmp_gt, jw_cmp_eq, jp_t1, jp_t2, jp_t3, jp_t4, jp_t5, jp_t6, ↓jp_bnd n1, n2, d11]
      have e133 : N 133 = M 133 := n5 133 (by decide) (by decide) (by decide)
      generalize hM8 : jw_up (jw_up (jw_up (jw_up N 24 1 1) 127 0 0) 133 (10 + M 133 9) (M 133 58)) 133 9 (M 133 9 + 1) = M8
      have k0 : M8 133 = jw_u1 (jw_u1 (M 133) (10 + M 133 9) (M 133 58)) 9 (M 133 9 + 1) := by
        subst hM8
        rw [jw_up_eq, jw_up_eq, jw_up_ne _ (by decide), jw_up_ne _ (by decide), e133]
      obtain ⟨N2, m1, m2, m3, m4, m5⟩ := gX12_keep_71 M8 (fun k p q => by
        have := d3 k p q
        have := d4 k p q
        rw [k0]
        simp (disch := omega) only [↓jp_bs, ↓jp_b2s, ↓reduceIte, jw_up_a, Nat.reduceEqDiff, Int.reduceEq, Int.reduceLT, Int.reduceLE, Int.reduceAdd, Int.reduceSub, Int.reduceMul, Int.reduceNeg, jp_n9_1, jp_n9_8, jp_n9_15, jp_n9_21, jp_n9_24, jp_n10_1, jp_n10_2, jp_n10_3, jp_n10_4, jp_n10_5, jp_n10_6, jp_n17_1, jp_n17_2, jp_n17_3, jp_n17_4, jp_n17_5, jp_n17_6, jp_n24_1, jp_n24_2, jp_n24_3, jp_n24_4, jp_n24_5, jp_n30_1, jp_n30_2, jp_n33_1, jp_n33_2, false_and, true_and, and_true, and_false, and_self, ne_eq, not_true_eq_false, not_false_eq_true, jw_ws, jw_vs, jw_cmp_lt, jw_cmp_gt, jw_cmp_eq, jp_t1, jp_t2, jp_t3, jp_t4, jp_t5, jp_t6, jw_u1_a] <;> omega)
      have hy : fX12_keep (jw_up N 24 1 1) = some (M 133 9 + 1, N2) := by
        refine jp_keep_go _ ?_ ?_ M8 _ ?_ ?_
        · rw [jw_up_ne _ (by decide), e133]; exact h1
        · rw [jw_up_ne _ (by decide), e133]; omega
        · rw [jw_up_ne _ (by decide), e133]; exact hM8
        · rw [m1, k0, jw_u1_s]
      refine ⟨_, _, _, hx, hy, ?_⟩
      have f133 : ∀ j : Int, j ≠ 42 → j ≠ 9 → j ≠ 10 + M 133 9 → (j < 22 ∨ 42 ≤ j) → N2 133 j = M 133 j := by
        intro j j1 j2 j3 j4
        rw [m4 j j1 j4, k0, jw_u1_n _ j2, jw_u1_n _ j3]
      have g9 : N2 133 9 = M 133 9 + 1 := by rw [m4 9 (by decide) (by omega), k0, jw_u1_s]
      have gd : N2 133 (10 + M 133 9) = M 133 58 := by rw [m4 _ (by omega) (by omega), k0, jw_u1_n _ (by omega), jw_u1_s]
      have g22 : ∀ k : Int, 0 ≤ k → k < 20 → N2 133 (22 + k) = M 133 (22 + k) + M 133 (59 + k) := by
        intro k p q
        rw [m3 k p q, k0]
        simp (disch := omega) only [↓jp_bs, ↓jp_b2s, ↓reduceIte, jw_up_a, Nat.reduceEqDiff, Int.reduceEq, Int.reduceLT, Int.reduceLE, Int.reduceAdd, Int.reduceSub, Int.reduceMul, Int.reduceNeg, jp_n9_1, jp_n9_8, jp_n9_15, jp_n9_21, jp_n9_24, jp_n10_1, jp_n10_2, jp_n10_3, jp_n10_4, jp_n10_5, jp_n10_6, jp_n17_1, jp_n17_2, jp_n17_3, jp_n17_4, jp_n17_5, jp_n17_6, jp_n24_1, jp_n24_2, jp_n24_3, jp_n24_4, jp_n24_5, jp_n30_1, jp_n30_2, jp_n33_1, jp_n33_2, false_and, true_and, and_true, and_false, and_self, ne_eq, not_true_eq_false, not_false_eq_true, jw_ws, jw_vs, jw_cmp_lt, jw_cmp_gt, jw_cmp_eq, jp_t1, jp_t2, jp_t3, jp_t4, jp_t5, jp_t6, jw_u1_a]
      have fr : ∀ k : Nat, k ≠ 133 → k ≠ 127 → k ≠ 24 → k ≠ 30 → k ≠ 31 → k ≠ 32 → N2 k = M k := by
        intro k a b c d e f
        rw [m5 k a]
        subst hM8
        rw [jw_up_ne _ a, jw_up_ne _ a, jw_up_ne _ b, jw_up_ne _ c, n5 k d e f]
      have fr3 : ∀ k : Nat, k ≠ 133 → k ≠ 127 → k ≠ 24 → N2 k = N k := by
        intro k a b c
        rw [m5 k a]
        subst hM8
        rw [jw_up_ne _ a, jw_up_ne _ a, jw_up_ne _ b, jw_up_ne _ c]
      have fr7 : ∀ j : Int, j ≠ 0 → N2 127 j = M 127 j := by
        intro j hj
        rw [m5 127 (by decide)]
        subst hM8
        rw [jw_up_ne _ (by decide), jw_up_ne _ (by decide), jw_up_a, if_neg (by omega), jw_up_ne _ (by decide), n5 127 (by decide) (by decide) (by decide)]
      have f24 : N2 24 0 = 1 ∧ N2 24 1 = 1 := by
        rw [m5 24 (by decide)]
        subst hM8
        rw [jw_up_ne _ (by decide), jw_up_ne _ (by decide), jw_up_ne _ (by decide)]
        simp (disch := omega) only [↓jp_bs, ↓jp_b2s, ↓reduceIte, jw_up_a, Nat.reduceEqDiff, Int.reduceEq, Int.reduceLT, Int.reduceLE, Int.reduceAdd, Int.reduceSub, Int.reduceMul, Int.reduceNeg, jp_n9_1, jp_n9_8, jp_n9_15, jp_n9_21, jp_n9_24, jp_n10_1, jp_n10_2, jp_n10_3, jp_n10_4, jp_n10_5, jp_n10_6, jp_n17_1, jp_n17_2, jp_n17_3, jp_n17_4, jp_n17_5, jp_n17_6, jp_n24_1, jp_n24_2, jp_n24_3, jp_n24_4, jp_n24_5, jp_n30_1, jp_n30_2, jp_n33_1, jp_n33_2, false_and, true_and, and_true, and_false, and_self, ne_eq, not_true_eq_false, not_false_eq_true, jw_ws, jw_vs, jw_cmp_lt, jw_cmp_gt, jw_cmp_eq, jp_t1, jp_t2, jp_t3, jp_t4, jp_t5, jp_t6, n5 24 (by decide) (by decide) (by decide)]
      have e131 : N2 131 = M 131 := fr 131 (by decide) (by decide) (by decide) (by decide) (by decide) (by decide)
      refine jp_inv_dyn h ?_ (fun k u p q => fr k q (by intro e; subst e; revert u; decide) (by omega) (by omega) (by omega) (by omega)) (fun j p q => f133 j (by omega) (by omega) (by omega) (by omega)) (by rw [fr 0 (by decide) (by decide) (by decide) (by decide) (by decide) (by decide)]) (by rw [fr 0 (by decide) (by decide) (by decide) (by decide) (by decide) (by decide), fr7 1 (by decide)]; exact h.2.2.1.2) (by rw [fr 5 (by decide) (by decide) (by decide) (by decide) (by decide) (by decide)]) (by rw [fr 125 (by decide) (by decide) (by decide) (by decide) (by decide) (by decide)]) (fr7 _ (by decide)) (fr7 _ (by decide)) (fr7 _ (by decide)) (fr7 _ (by decide))
      unfold jp_D
      rw [e131, g9, m2, f133 58 (by omega) (by omega) (by omega) (by omega), f24.1, f24.2, fr 25 (by decide) (by decide) (by decide) (by decide) (by decide) (by decide), fr 26 (by decide) (by decide) (by decide) (by decide) (by decide) (by decide), fr 27 (by decide) (by decide) (by decide) (by decide) (by decide) (by decide), fr 28 (by decide) (by decide) (by decide) (by decide) (by decide) (by decide), fr 29 (by decide) (by decide) (by decide) (by decide) (by decide) (by decide), fr 34 (by decide) (by decide) (by decide) (by decide) (by decide) (by decide), fr3 30 (by decide) (by decide) (by decide), fr3 31 (by decide) (by decide) (by decide), fr3 32 (by decide) (by decide) (by decide), n2, d11]
      refine ⟨by omega, fun d p q => ?_, fun k p q => ?_, fun k p q => ?_, fun s p q => ?_, fun x y p q r s => ?_, by omega, fun z c p q => d8 (by omega) c p q, fun z i p q => ?_, fun k p q => ?_, rfl, fun c p q => ?_, fun k p q => ?_, fun x y p q r s => ?_⟩
      · by_cases e : d = M 133 9
        · subst e
          rw [gd]
          omega
        · rw [f133 _ (by omega) (by omega) (by omega) (by omega)]
          exact d2 d p q
      · rw [g22 k p q]
        have := d3 k p q
        have := d4 k p q
        omega
      · rw [f133 _ (by omega) (by omega) (by omega) (by omega)]
        exact d4 k p q
      · rw [f133 _ (by omega) (by omega) (by omega) (by omega)]
        exact d5 s p q
      · rw [f133 _ (by omega) (by omega) (by omega) (by omega)]
        exact d6 x y p q r s
      · rw [f133 _ (by omega) (by omega) (by omega) (by omega), f133 _ (by omega) (by omega) (by omega) (by omega), f133 _ (by omega) (by omega) (by omega) (by omega)]
        exact d9 (by omega) i p q
      · rw [f133 _ (by omega) (by omega) (by omega) (by omega)]
        exact d10 k p q
      · rw [n3 c p q, d12 c p q, jp_ct_s _ _ d1.1.1, gd]
        have hb := jp_bit_r (M 133 58) c
        have hc := d8 (by omega) c p q
        have e : jp_ct (N2 133) c (M 133 9).toNat = jp_ct (M 133) c (M 133 9).toNat := by
          have : ∀ n : Nat, (n : Int) ≤ M 133 9 → jp_ct (N2 133) c n = jp_ct (M 133) c n := by
            intro n
            induction n with
            | zero => intro _; rfl
            | succ n ih =>
              intro hn
              rw [jp_ct, jp_ct, ih (by omega), f133 _ (by omega) (by omega) (by omega) (by omega)]
          exact this _ (by omega)
        rw [e]
        by_cases hh : M 25 c < 1000000
        · rw [if_pos hh, hc.mp hh]
        · rw [if_neg hh]
          have : jp_bit (M 133 58) c ≠ 1 := fun z => hh (hc.mpr z)
          omega
      · rw [n4 k p q, g22 k p q, d13 k p q, d10 k p q]
      · rw [f133 _ (by omega) (by omega) (by omega) (by omega)]
        exact d14 x y p q r s
  · have hx : fX11_keep M = some (-9000000000000000002, M) := by
      unfold fX11_keep
      by_cases h2 : M 24 0 = 1
      · simp (disch := omega) only [↓jp_bs, ↓jp_b2s, ↓reduceIte, jw_up_a, Nat.reduceEqDiff, Int.reduceEq, Int.reduceLT, Int.reduceLE, Int.reduceAdd, Int.reduceSub, Int.reduceMul, Int.reduceNeg, jp_n9_1, jp_n9_8, jp_n9_15, jp_n9_21, jp_n9_24, jp_n10_1, jp_n10_2, jp_n10_3, jp_n10_4, jp_n10_5, jp_n10_6, jp_n17_1, jp_n17_2, jp_n17_3, jp_n17_4, jp_n17_5, jp_n17_6, jp_n24_1, jp_n24_2, jp_n24_3, jp_n24_4, jp_n24_5, jp_n30_1, jp_n30_2, jp_n33_1, jp_n33_2, false_and, true_and, and_true, and_false, and_self, ne_eq, not_true_eq_false, not_false_eq_true, jw_ws, jw_vs, jw_cmp_lt, jw_cmp_gt, jw_cmp_eq, jp_t1, jp_t2, jp_t3, jp_t4, jp_t5, jp_t6]
      · simp (disch := omega) only [↓jp_bs, ↓jp_b2s, ↓reduceIte, jw_up_a, Nat.reduceEqDiff, Int.reduceEq, Int.reduceLT, Int.reduceLE, Int.reduceAdd, Int.reduceSub, Int.reduceMul, Int.reduceNeg, jp_n9_1, jp_n9_8, jp_n9_15, jp_n9_21, jp_n9_24, jp_n10_1, jp_n10_2, jp_n10_3, jp_n10_4, jp_n10_5, jp_n10_6, jp_n17_1, jp_n17_2, jp_n17_3, jp_n17_4, jp_n17_5, jp_n17_6, jp_n24_1, jp_n24_2, jp_n24_3, jp_n24_4, jp_n24_5, jp_n30_1, jp_n30_2, jp_n33_1, jp_n33_2, false_and, true_and, and_true, and_false, and_self, ne_eq, not_true_eq_false, not_false_eq_true, jw_ws, jw_vs, jw_cmp_lt, jw_cmp_gt, jw_cmp_eq, jp_t1, jp_t2, jp_t3, jp_t4, jp_t5, jp_t6]
    refine ⟨_, _, _, hx, ?_, jp_th h 0⟩
    unfold fX12_keep
    simp (disch := omega) only [↓jp_bs, ↓jp_b2s, ↓reduceIte, jw_up_a, Nat.reduceEqDiff, Int.reduceEq, Int.reduceLT, Int.reduceLE, Int.reduceAdd, Int.reduceSub, Int.reduceMul, Int.reduceNeg, jp_n9_1, jp_n9_8, jp_n9_15, jp_n9_21, jp_n9_24, jp_n10_1, jp_n10_2, jp_n10_3, jp_n10_4, jp_n10_5, jp_n10_6, jp_n17_1, jp_n17_2, jp_n17_3, jp_n17_4, jp_n17_5, jp_n17_6, jp_n24_1, jp_n24_2, jp_n24_3, jp_n24_4, jp_n24_5, jp_n30_1, jp_n30_2, jp_n33_1, jp_n33_2, false_and, true_and, and_true, and_false, and_self, ne_eq, not_true_eq_false, not_false_eq_true, jw_ws, jw_vs, jw_cmp_lt, jw_cmp_gt, jw_cmp_eq, jp_t1, jp_t2, jp_t3, jp_t4, jp_t5, jp_t6]
