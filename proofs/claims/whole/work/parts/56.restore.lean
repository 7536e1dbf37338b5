/-! restore -/
theorem gX12_restore_l (a : Int) (ha : 0 ≤ a ∧ a < 2) (M : jw_M) (R : Option (Int × jw_M) → Prop) (hR : ∀ N : jw_M, (∀ j : Int, 0 ≤ j → j < 104 → N 131 j = M 145 (104 * a + j) ∧ N 133 j = M 146 (104 * a + j)) → (∀ k : Nat, k ≠ 131 → k ≠ 133 → N k = M k) → R (Option.bind (fX12_layWays N) (fun M12 => some (1, M12)))) : R (fX12_restore_34 jw_fu a 0 M) := by
  refine jp_up (fun k i N => fX12_restore_34 k a i N) 104 (fun i N => 0 ≤ i ∧ (∀ j : Int, 0 ≤ j → j < i → N 131 j = M 145 (104 * a + j)) ∧ (∀ k : Nat, k ≠ 131 → N k = M k)) R ?_ ?_ jw_fu 0 M (by unfold jw_fu; omega) (by omega) ⟨by omega, fun j p q => by omega, fun k _ => rfl⟩
  · intro k i N hp hi ih
    obtain ⟨p0, p1, p2⟩ := hp
    show R (fX12_restore_34 (k + 1) a i _)
    rw [fX12_restore_34]
    simp (disch := omega) only [↓jp_bs, ↓jp_b2s, ↓reduceIte, jw_up_a, Nat.reduceEqDiff, Int.reduceEq, Int.reduceLT, Int.reduceLE, Int.reduceAdd, Int.reduceSub, Int.reduceMul, Int.reduceNeg, jp_n9_1, jp_n9_8, jp_n9_15, jp_n9_21, jp_n9_24, jp_n10_1, jp_n10_2, jp_n10_3, jp_n10_4, jp_n10_5, jp_n10_6, jp_n17_1, jp_n17_2, jp_n17_3, jp_n17_4, jp_n17_5, jp_n17_6, jp_n24_1, jp_n24_2, jp_n24_3, jp_n24_4, jp_n24_5, jp_n30_1, jp_n30_2, jp_n33_1, jp_n33_2, false_and, true_and, and_true, and_false, and_self, ne_eq, not_true_eq_false, not_false_eq_true, jw_ws, jw_vs, jw_cmp_lt, jw_cmp_gt, jw_cmp_eq, jp_t1, jp_t2, jp_t3, jp_t4, jp_t5, jp_t6, p2 145 (by decide)]
    refine ih _ ⟨by omega, fun j p q => ?_, fun k c => by rw [jw_up_ne _ c, p2 k c]⟩
    simp (disch := omega) only [↓jp_bs, ↓jp_b2s, ↓reduceIte, jw_up_a, Nat.reduceEqDiff, Int.reduceEq, Int.reduceLT, Int.reduceLE, Int.reduceAdd, Int.reduceSub, Int.reduceMul, Int.reduceNeg, jp_n9_1, jp_n9_8, jp_n9_15, jp_n9_21, jp_n9_24, jp_n10_1, jp_n10_2, jp_n10_3, jp_n10_4, jp_n10_5, jp_n10_6, jp_n17_1, jp_n17_2, jp_n17_3, jp_n17_4, jp_n17_5, jp_n17_6, jp_n24_1, jp_n24_2, jp_n24_3, jp_n24_4, jp_n24_5, jp_n30_1, jp_n30_2, jp_n33_1, jp_n33_2, false_and, true_and, and_true, and_false, and_self, ne_eq, not_true_eq_false, not_false_eq_true, jw_ws, jw_vs, jw_cmp_lt, jw_cmp_gt, jw_cmp_eq, jp_t1, jp_t2, jp_t3, jp_t4, jp_t5, jp_t6]
    by_cases e : j = i
    · rw [if_pos e, e]
    · rw [if_neg e, p1 j p (by omega)]
  · intro k N hp
    obtain ⟨p0, p1, p2⟩ := hp
    show R (fX12_restore_34 (k + 1) a 104 _)
    rw [fX12_restore_34]
    simp (disch := omega) only [↓jp_bs, ↓jp_b2s, ↓reduceIte, jw_up_a, Nat.reduceEqDiff, Int.reduceEq, Int.reduceLT, Int.reduceLE, Int.reduceAdd, Int.reduceSub, Int.reduceMul, Int.reduceNeg, jp_n9_1, jp_n9_8, jp_n9_15, jp_n9_21, jp_n9_24, jp_n10_1, jp_n10_2, jp_n10_3, jp_n10_4, jp_n10_5, jp_n10_6, jp_n17_1, jp_n17_2, jp_n17_3, jp_n17_4, jp_n17_5, jp_n17_6, jp_n24_1, jp_n24_2, jp_n24_3, jp_n24_4, jp_n24_5, jp_n30_1, jp_n30_2, jp_n33_1, jp_n33_2, false_and, true_and, and_true, and_false, and_self, ne_eq, not_true_eq_false, not_false_eq_true, jw_ws, jw_vs, jw_cmp_lt, jw_cmp_gt, jw_cmp_eq, jp_t1, jp_t2, jp_t3, jp_t4, jp_t5, jp_t6]
    refine jp_up (fun k i N => fX12_restore_65 k a i N) 104 (fun i N2 => 0 ≤ i ∧ (∀ j : Int, 0 ≤ j → j < i → N2 133 j = M 146 (104 * a + j)) ∧ (∀ k : Nat, k ≠ 133 → N2 k = N k)) R ?_ ?_ jw_fu 0 N (by unfold jw_fu; omega) (by omega) ⟨by omega, fun j p q => by omega, fun k _ => rfl⟩
    · intro k i N2 hp hi ih
      obtain ⟨q0, q1, q2⟩ := hp
      have e146 : N2 146 = M 146 := by rw [q2 146 (by decide), p2 146 (by decide)]
      show R (fX12_restore_65 (k + 1) a i _)
      rw [fX12_restore_65]
      simp (disch := omega) only [↓jp_bs, ↓jp_b2s, ↓reduceIte, jw_up_a, Nat.reduceEqDiff, Int.reduceEq, Int.reduceLT, Int.reduceLE, Int.reduceAdd, Int.reduceSub, Int.reduceMul, Int.reduceNeg, jp_n9_1, jp_n9_8, jp_n9_15, jp_n9_21, jp_n9_24, jp_n10_1, jp_n10_2, jp_n10_3, jp_n10_4, jp_n10_5, jp_n10_6, jp_n17_1, jp_n17_2, jp_n17_3, jp_n17_4, jp_n17_5, jp_n17_6, jp_n24_1, jp_n24_2, jp_n24_3, jp_n24_4, jp_n24_5, jp_n30_1, jp_n30_2, jp_n33_1, jp_n33_2, false_and, true_and, and_true, and_false, and_self, ne_eq, not_true_eq_false, not_false_eq_true, jw_ws, jw_vs, jw_cmp_lt, jw_cmp_gt, jw_cmp_eq, jp_t1, jp_t2, jp_t3, jp_t4, jp_t5, jp_t6, e146]
      refine ih _ ⟨by omega, fun j p q => ?_, fun k c => by rw [jw_up_ne _ c, q2 k c]⟩
      simp (disch := omega) only [↓jp_bs, ↓jp_b2s, ↓reduceIte, jw_up_a, Nat.reduceEqDiff, Int.reduceEq, Int.reduceLT, Int.reduceLE, Int.reduceAdd, Int.reduceSub, Int.reduceMul, Int.reduceNeg, jp_n9_1, jp_n9_8, jp_n9_15, jp_n9_21, jp_n9_24, jp_n10_1, jp_n10_2, jp_n10_3, jp_n10_4, jp_n10_5, jp_n10_6, jp_n17_1, jp_n17_2, jp_n17_3, jp_n17_4, jp_n17_5, jp_n17_6, jp_n24_1, jp_n24_2, jp_n24_3, jp_n24_4, jp_n24_5, jp_n30_1, jp_n30_2, jp_n33_1, jp_n33_2, false_and, true_and, and_true, and_false, and_self, ne_eq, not_true_eq_false, not_false_eq_true, jw_ws, jw_vs, jw_cmp_lt, jw_cmp_gt, jw_cmp_eq, jp_t1, jp_t2, jp_t3, jp_t4, jp_t5, jp_t6]
      by_cases e : j = i
      · rw [if_pos e, e]
      · rw [if_neg e, q1 j p (by omega)]
    · intro k N2 hp
      obtain ⟨q0, q1, q2⟩ := hp
      show R (fX12_restore_65 (k + 1) a 104 _)
      rw [fX12_restore_65]
      rw [if_neg (by omega)]
      refine hR N2 (fun j p q => ⟨?_, q1 j p q⟩) (fun k c d => by rw [q2 k d, p2 k c])
      rw [q2 131 (by decide), p1 j p q]
theorem jp_restore {M : jw_M} (h : jp_inv M) (a : Int) : jp_ok (fX11_restore a M) (fX12_restore a) := by
  by_cases ha : 0 ≤ a ∧ a < 2
  · obtain ⟨k, hk, rfl⟩ : ∃ k : Nat, k < 2 ∧ a = (k : Int) := ⟨a.toNat, by omega, by omega⟩
    have himg : jp_imgI M k := by
      have e : k = 0 ∨ k = 1 := by omega
      rcases e with rfl | rfl
      · exact h.2.2.2.2.2.1
      · exact h.2.2.2.2.2.2
    obtain ⟨i0, hi⟩ := himg
    rcases hi with hz | ⟨z1, there, z2, z3, z4, z5, z6, z7⟩
    · have hx : fX11_restore k M = some (-9000000000000000002, M) := by
        unfold fX11_restore
        simp (disch := omega) only [↓jp_bs, ↓jp_b2s, ↓reduceIte, jw_up_a, Nat.reduceEqDiff, Int.reduceEq, Int.reduceLT, Int.reduceLE, Int.reduceAdd, Int.reduceSub, Int.reduceMul, Int.reduceNeg, jp_n9_1, jp_n9_8, jp_n9_15, jp_n9_21, jp_n9_24, jp_n10_1, jp_n10_2, jp_n10_3, jp_n10_4, jp_n10_5, jp_n10_6, jp_n17_1, jp_n17_2, jp_n17_3, jp_n17_4, jp_n17_5, jp_n17_6, jp_n24_1, jp_n24_2, jp_n24_3, jp_n24_4, jp_n24_5, jp_n30_1, jp_n30_2, jp_n33_1, jp_n33_2, false_and, true_and, and_true, and_false, and_self, ne_eq, not_true_eq_false, not_false_eq_true, jw_ws, jw_vs, jw_cmp_lt, jw_cmp_gt, jw_cmp_eq, jp_t1, jp_t2, jp_t3, jp_t4, jp_t5, jp_t6]
      refine ⟨_, _, _, hx, ?_, jp_th h 0⟩
      unfold fX12_restore
      simp (disch := omega) only [↓jp_bs, ↓jp_b2s, ↓reduceIte, jw_up_a, Nat.reduceEqDiff, Int.reduceEq, Int.reduceLT, Int.reduceLE, Int.reduceAdd, Int.reduceSub, Int.reduceMul, Int.reduceNeg, jp_n9_1, jp_n9_8, jp_n9_15, jp_n9_21, jp_n9_24, jp_n10_1, jp_n10_2, jp_n10_3, jp_n10_4, jp_n10_5, jp_n10_6, jp_n17_1, jp_n17_2, jp_n17_3, jp_n17_4, jp_n17_5, jp_n17_6, jp_n24_1, jp_n24_2, jp_n24_3, jp_n24_4, jp_n24_5, jp_n30_1, jp_n30_2, jp_n33_1, jp_n33_2, false_and, true_and, and_true, and_false, and_self, ne_eq, not_true_eq_false, not_false_eq_true, jw_ws, jw_vs, jw_cmp_lt, jw_cmp_gt, jw_cmp_eq, jp_t1, jp_t2, jp_t3, jp_t4, jp_t5, jp_t6, ↓bX12_in]
    · obtain ⟨N, r, c⟩ := gX7_takeFrom 9 (64 + 27 * k) jp_tag9 (jp_tags k hk) (by omega) M (by omega) (jp_kept z7)
      have hx : fX11_restore k M = some (1, N) := by
        unfold fX11_restore
        rw [Int.toNat_natCast, if_pos (jp_tags k hk).1]
        simp (disch := omega) only [↓jp_bs, ↓jp_b2s, ↓reduceIte, jw_up_a, Nat.reduceEqDiff, Int.reduceEq, Int.reduceLT, Int.reduceLE, Int.reduceAdd, Int.reduceSub, Int.reduceMul, Int.reduceNeg, jp_n9_1, jp_n9_8, jp_n9_15, jp_n9_21, jp_n9_24, jp_n10_1, jp_n10_2, jp_n10_3, jp_n10_4, jp_n10_5, jp_n10_6, jp_n17_1, jp_n17_2, jp_n17_3, jp_n17_4, jp_n17_5, jp_n17_6, jp_n24_1, jp_n24_2, jp_n24_3, jp_n24_4, jp_n24_5, jp_n30_1, jp_n30_2, jp_n33_1, jp_n33_2, false_and, true_and, and_true, and_false, and_self, ne_eq, not_true_eq_false, not_false_eq_true, jw_ws, jw_vs, jw_cmp_lt, jw_cmp_gt, jw_cmp_eq, jp_t1, jp_t2, jp_t3, jp_t4, jp_t5, jp_t6, ↓jp_bnd r]
      have fc : ∀ j : Nat, (j < 9 ∨ 9 + 25 < j) → N j = M j := c.2.2.2.2.2.2.2.2.2.2.2.2.2.2.2.2.2
      have key : ∃ N2 : jw_M, fX12_restore_34 jw_fu k 0 (jw_up N 127 0 0) = some (1, N2) ∧ (∀ j : Int, 0 ≤ j → j < 104 → N2 131 j = M 145 (104 * k + j) ∧ N2 133 j = M 146 (104 * k + j)) ∧ (∀ a b : Int, 0 ≤ a → a < 7 → 0 ≤ b → b < 7 → N2 135 (7 * a + b) = jp_wk (N2 131) a b ∧ N2 136 (7 * a + b) = jp_hk (N2 131) a b) ∧ (∀ j : Nat, j ≠ 131 → j ≠ 133 → j ≠ 135 → j ≠ 136 → N2 j = jw_up N 127 0 0 j) := by
        refine gX12_restore_l k ha (jw_up N 127 0 0) (fun x => ∃ N2 : jw_M, x = some (1, N2) ∧ (∀ j : Int, 0 ≤ j → j < 104 → N2 131 j = M 145 (104 * k + j) ∧ N2 133 j = M 146 (104 * k + j)) ∧ (∀ a b : Int, 0 ≤ a → a < 7 → 0 ≤ b → b < 7 → N2 135 (7 * a + b) = jp_wk (N2 131) a b ∧ N2 136 (7 * a + b) = jp_hk (N2 131) a b) ∧ (∀ j : Nat, j ≠ 131 → j ≠ 133 → j ≠ 135 → j ≠ 136 → N2 j = jw_up N 127 0 0 j)) (fun N1 g1 g2 => ?_)
        have e145 : jw_up N 127 0 0 145 = M 145 := by rw [jw_up_ne _ (by decide), fc 145 (by omega)]
        have e146 : jw_up N 127 0 0 146 = M 146 := by rw [jw_up_ne _ (by decide), fc 146 (by omega)]
        rw [e145, e146] at g1
        have hT1 : jp_T (N1 131) := jp_T_e (T := jp_kt M k) (fun i i1 i2 => (g1 i i1 i2).1) z5
        have h0 : 1 ≤ N1 131 0 := by rw [(g1 0 (by omega) (by omega)).1]; exact z3
        obtain ⟨N2, w1, w2, w3⟩ := gX12_layWays hT1 (hT1.2.1.2.2.2 h0)
        refine ⟨N2, by rw [w1]; rfl, fun j p q => ?_, ?_, fun j b1 b2 b3 b4 => ?_⟩
        · rw [w3 131 (by decide) (by decide), w3 133 (by decide) (by decide)]
          exact g1 j p q
        · rw [w3 131 (by decide) (by decide)]
          exact w2
        · rw [w3 j b3 b4, g2 j b1 b2]
      obtain ⟨N2, m1, m2, m3, m4⟩ := key
      have hy : fX12_restore k N = some (1, N2) := by
        unfold fX12_restore
        have e144 : N 144 = M 144 := fc 144 (by omega)
        simp (disch := omega) only [↓jp_bs, ↓jp_b2s, ↓reduceIte, jw_up_a, Nat.reduceEqDiff, Int.reduceEq, Int.reduceLT, Int.reduceLE, Int.reduceAdd, Int.reduceSub, Int.reduceMul, Int.reduceNeg, jp_n9_1, jp_n9_8, jp_n9_15, jp_n9_21, jp_n9_24, jp_n10_1, jp_n10_2, jp_n10_3, jp_n10_4, jp_n10_5, jp_n10_6, jp_n17_1, jp_n17_2, jp_n17_3, jp_n17_4, jp_n17_5, jp_n17_6, jp_n24_1, jp_n24_2, jp_n24_3, jp_n24_4, jp_n24_5, jp_n30_1, jp_n30_2, jp_n33_1, jp_n33_2, false_and, true_and, and_true, and_false, and_self, ne_eq, not_true_eq_false, not_false_eq_true, jw_ws, jw_vs, jw_cmp_lt, jw_cmp_gt, jw_cmp_eq, jp_t1, jp_t2, jp_t3, jp_t4, jp_t5, jp_t6, ↓bX12_in, e144]
        exact m1
      refine ⟨_, _, _, hx, hy, ?_⟩
      have g1 : jp_e (jp_kt M k) (N2 131) := fun i i1 i2 => (m2 i i1 i2).1
      have g2 : jp_e (jp_kn M k) (N2 133) := fun i i1 i2 => (m2 i i1 i2).2
      have fr : ∀ j : Nat, j ≠ 131 → j ≠ 133 → j ≠ 135 → j ≠ 136 → j ≠ 127 → (j < 9 ∨ 34 < j) → N2 j = M j := by
        intro j b1 b2 b3 b4 b5 b6
        rw [m4 j b1 b2 b3 b4, jw_up_ne _ b5, fc j (by omega)]
      have fr7 : ∀ j : Int, j ≠ 0 → N2 127 j = M 127 j := by
        intro j hj
        rw [m4 127 (by decide) (by decide) (by decide) (by decide), jw_up_a, if_neg (by omega), fc 127 (by omega)]
      have hT2 : jp_T (N2 131) := jp_T_e g1 z5
      refine jp_inv_cur h ⟨⟨?_, Or.inr ⟨?_, ?_, ?_⟩⟩, hT2, jp_N_e z5 g1 g2 z6, ?_, fun x y p q r s => ?_⟩ (fun j u b1 b2 b3 b4 b5 => fr j b2 b3 b4 b5 (by intro e; subst e; revert u; decide) (by omega)) ?_ ?_ ?_ ?_ ?_ ?_ (fun z => by rw [fr7 _ (by decide)]; exact z)
      · rw [m4 9 (by decide) (by decide) (by decide) (by decide), jw_up_ne _ (by decide), c.1, z2, fr7 7 (by decide), there]
      · rw [fr7 7 (by decide), there]
      · rw [(m2 0 (by omega) (by omega)).1]; exact z3
      · rw [(m2 2 (by omega) (by omega)).1]; exact z4
      · refine jp_S_e z5 z6.2.2.1.1 g1 g2 (jp_S_fr (jp_S_cp z5 z7 c) (fun j b1 b2 => ?_))
        rw [m4 j (by omega) (by omega) (by omega) (by omega), jw_up_ne _ (by omega)]
      · exact m3 x y p (by have := hT2.1.1; omega) r (by have := hT2.1.1; omega)
      · rw [fr 0 (by omega) (by omega) (by omega) (by omega) (by omega) (by omega), fr7 11 (by decide)]; exact h.2.2.1.1
      · rw [fr 0 (by omega) (by omega) (by omega) (by omega) (by omega) (by omega), fr7 1 (by decide)]; exact h.2.2.1.2
      · rw [fr 5 (by omega) (by omega) (by omega) (by omega) (by omega) (by omega)]
      · rw [fr 125 (by omega) (by omega) (by omega) (by omega) (by omega) (by omega)]
      · exact fr7 _ (by decide)
      · exact fr7 _ (by decide)
  · have hx : fX11_restore a M = some (-9000000000000000001, M) := by
      unfold fX11_restore
      by_cases h2 : a < 0
      · simp (disch := omega) only [↓jp_bs, ↓jp_b2s, ↓reduceIte, jw_up_a, Nat.reduceEqDiff, Int.reduceEq, Int.reduceLT, Int.reduceLE, Int.reduceAdd, Int.reduceSub, Int.reduceMul, Int.reduceNeg, jp_n9_1, jp_n9_8, jp_n9_15, jp_n9_21, jp_n9_24, jp_n10_1, jp_n10_2, jp_n10_3, jp_n10_4, jp_n10_5, jp_n10_6, jp_n17_1, jp_n17_2, jp_n17_3, jp_n17_4, jp_n17_5, jp_n17_6, jp_n24_1, jp_n24_2, jp_n24_3, jp_n24_4, jp_n24_5, jp_n30_1, jp_n30_2, jp_n33_1, jp_n33_2, false_and, true_and, and_true, and_false, and_self, ne_eq, not_true_eq_false, not_false_eq_true, jw_ws, jw_vs, jw_cmp_lt, jw_cmp_gt, jw_cmp_eq, jp_t1, jp_t2, jp_t3, jp_t4, jp_t5, jp_t6]
      · simp (disch := omega) only [↓jp_bs, ↓jp_b2s, ↓reduceIte, jw_up_a, Nat.reduceEqDiff, Int.reduceEq, Int.reduceLT, Int.reduceLE, Int.reduceAdd, Int.reduceSub, Int.reduceMul, Int.reduceNeg, jp_n9_1, jp_n9_8, jp_n9_15, jp_n9_21, jp_n9_24, jp_n10_1, jp_n10_2, jp_n10_3, jp_n10_4, jp_n10_5, jp_n10_6, jp_n17_1, jp_n17_2, jp_n17_3, jp_n17_4, jp_n17_5, jp_n17_6, jp_n24_1, jp_n24_2, jp_n24_3, jp_n24_4, jp_n24_5, jp_n30_1, jp_n30_2, jp_n33_1, jp_n33_2, false_and, true_and, and_true, and_false, and_self, ne_eq, not_true_eq_false, not_false_eq_true, jw_ws, jw_vs, jw_cmp_lt, jw_cmp_gt, jw_cmp_eq, jp_t1, jp_t2, jp_t3, jp_t4, jp_t5, jp_t6]
    refine ⟨_, _, _, hx, ?_, jp_th h 0⟩
    unfold fX12_restore
    simp (disch := omega) only [↓jp_bs, ↓jp_b2s, ↓reduceIte, jw_up_a, Nat.reduceEqDiff, Int.reduceEq, Int.reduceLT, Int.reduceLE, Int.reduceAdd, Int.reduceSub, Int.reduceMul, Int.reduceNeg, jp_n9_1, jp_n9_8, jp_n9_15, jp_n9_21, jp_n9_24, jp_n10_1, jp_n10_2, jp_n10_3, jp_n10_4, jp_n10_5, jp_n10_6, jp_n17_1, jp_n17_2, jp_n17_3, jp_n17_4, jp_n17_5, jp_n17_6, jp_n24_1, jp_n24_2, jp_n24_3, jp_n24_4, jp_n24_5, jp_n30_1, jp_n30_2, jp_n33_1, jp_n33_2, false_and, true_and, and_true, and_false, and_self, ne_eq, not_true_eq_false, not_false_eq_true, jw_ws, jw_vs, jw_cmp_lt, jw_cmp_gt, jw_cmp_eq, jp_t1, jp_t2, jp_t3, jp_t4, jp_t5, jp_t6, ↓bX12_in]
