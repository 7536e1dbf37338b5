/-! what changes of the sheet in use (jp_D); saved, owed, owe, trace, kind, as, feared -/
def jp_D (M : jw_M) : Prop :=
  ((0 ≤ M 133 9 ∧ M 133 9 ≤ 12) ∧ (0 ≤ M 133 42 ∧ M 133 42 ≤ 3) ∧ (0 ≤ M 133 58 ∧ M 133 58 < 128)) ∧
  (∀ d : Int, 0 ≤ d → d < 12 → 0 ≤ M 133 (10 + d) ∧ M 133 (10 + d) < 128) ∧
  (∀ k : Int, 0 ≤ k → k < 20 → -198 * M 133 9 ≤ M 133 (22 + k) ∧ M 133 (22 + k) ≤ 198 * M 133 9) ∧
  (∀ k : Int, 0 ≤ k → k < 20 → -198 ≤ M 133 (59 + k) ∧ M 133 (59 + k) ≤ 198 ∧ (M 131 4 ≤ k / 5 ∨ M 131 3 ≤ k % 5 → M 133 (59 + k) = 0)) ∧
  (∀ s : Int, 0 ≤ s → s < M 131 3 → 0 ≤ M 133 (53 + s) ∧ M 133 (53 + s) ≤ 2) ∧
  (∀ a b : Int, 0 ≤ a → a < 5 → 0 ≤ b → b < 5 → 0 ≤ M 133 (79 + 5 * a + b) ∧ M 133 (79 + 5 * a + b) ≤ 9999 ∧ (M 131 3 ≤ a ∨ M 131 3 ≤ b → M 133 (79 + 5 * a + b) = 0)) ∧
  ((M 133 42 = 0 ∧ M 24 0 = 0 ∧ M 24 1 = 0) ∨ (M 133 42 = 1 ∧ M 24 0 = 1 ∧ M 24 1 = 0) ∨ (M 133 42 = 2 ∧ M 24 0 = 2 ∧ M 24 1 = 0) ∨ (M 133 42 = 3 ∧ M 24 0 = 1 ∧ M 24 1 = 1)) ∧
  (M 133 42 ≠ 0 → ∀ c : Int, 0 ≤ c → c < 7 → (M 25 c < 1000000 ↔ jp_bit (M 133 58) c = 1)) ∧
  (M 133 42 ≠ 0 → ∀ i : Int, 0 ≤ i → i < M 131 3 → M 133 (43 + i) = (if M 26 i < 1000000 then M 26 i else -1000000) ∧ M 133 (48 + i) = (if M 27 i < 1000000 then M 27 i else -1000000) ∧ M 28 i = M 133 (53 + i)) ∧
  (∀ k : Int, 0 ≤ k → k < 20 → M 29 k = M 133 (59 + k)) ∧
  M 30 0 = M 133 9 ∧
  (∀ c : Int, 0 ≤ c → c < 7 → M 31 c = jp_ct (M 133) c (M 133 9).toNat) ∧
  (∀ k : Int, 0 ≤ k → k < 20 → M 32 k = M 133 (22 + k)) ∧
  (∀ a b : Int, 0 ≤ a → a < 5 → 0 ≤ b → b < 5 → M 34 (5 * a + b) = M 133 (79 + 5 * a + b))
theorem jp_inv_D {M : jw_M} (h : jp_inv M) : jp_D M := by
  obtain ⟨-, -, -, -, ⟨-, t, ⟨n1, n2, n3, n4, n5, n6, n7, n8⟩, ⟨s1, s2, s3, s4, s5, s6, s7, s8, s9, s10, s11, s12, s13, s14, s15, s16, s17, s18⟩, w⟩, -, -⟩ := h
  exact ⟨n3, n4, n5, n6, n7, n8, s11, s12, s13, s14, s15, s16, s17, s18⟩
theorem jp_cur_of {M : jw_M} (hp : M 9 0 = M 127 7 ∧ (M 127 7 = 0 ∨ M 127 7 = 1 ∧ 1 ≤ M 131 0 ∧ 1 ≤ M 131 2)) (hA : jp_A M) (hB : jp_B M) (hD : jp_D M) : jp_curI M := by
  obtain ⟨t, s1, s2, s3, s4, s5, s6, s7, s8, w⟩ := hA
  obtain ⟨n3, n4, n5, n6, n7, n8, s11, s12, s13, s14, s15, s16, s17, s18⟩ := hD
  exact ⟨hp, t, ⟨fun i p q => (hB.1 i p q).2, fun i p q => (hB.2 i p q).2, n3, n4, n5, n6, n7, n8⟩, ⟨s1, s2, s3, s4, s5, s6, s7, s8, fun i p q => (hB.1 i p q).1, fun i p q => (hB.2 i p q).1, s11, s12, s13, s14, s15, s16, s17, s18⟩, w⟩
/-- raids, days and debts change alone -/
theorem jp_inv_dyn {M M' : jw_M} (h : jp_inv M) (hD : jp_D M') (f1 : ∀ k : Nat, jp_use k = true → ¬ (24 ≤ k ∧ k ≤ 34) → k ≠ 133 → M' k = M k) (f3 : ∀ j : Int, 0 ≤ j → j < 9 → M' 133 j = M 133 j) (h2 : M' 0 9 = M 0 9) (h3 : M' 0 10 = M' 127 1) (h4 : M' 5 1 = M 5 1) (h5 : M' 125 2 = M 125 2) (h7 : M' 127 7 = M 127 7) (h8 : M' 127 10 = M 127 10) (h9 : M' 127 11 = M 127 11) (h10 : M' 127 34 = M 127 34) : jp_inv M' := by
  have e131 := f1 131 rfl (by decide) (by decide)
  have hr := (jp_A_r (jp_inv_A h)).1
  refine jp_inv_cur h (jp_cur_of ?_ (jp_A_fr (jp_inv_A h) (fun k p q => f1 k (jp_use_i (by omega)) (by omega) (by omega)) e131 (f1 135 rfl (by decide) (by decide)) (f1 136 rfl (by decide) (by decide))) (jp_B_fr (jp_inv_B h) (f1 22 rfl (by decide) (by decide)) (f1 23 rfl (by decide) (by decide)) e131 f3 (by omega)) hD) (fun k u p1 p2 p3 p4 p5 => f1 k u (by omega) p3) (by rw [h2, h9]; exact h.2.2.1.1) h3 h4 h5 h8 h10 (fun z => by rw [h7]; exact z)
  rw [e131, h7, f1 9 rfl (by decide) (by decide)]
  exact h.2.2.2.2.1.1
/-- debts change alone -/
theorem jp_D_debt {M M' : jw_M} (h : jp_D M) (hr : 0 ≤ M 131 3 ∧ M 131 3 ≤ 5) (f1 : ∀ k : Nat, 24 ≤ k → k ≤ 32 → M' k = M k) (f2 : M' 131 = M 131) (f3 : ∀ j : Int, 0 ≤ j → j < 79 → M' 133 j = M 133 j)
    (h6 : ∀ a b : Int, 0 ≤ a → a < 5 → 0 ≤ b → b < 5 → (0 ≤ M' 133 (79 + 5 * a + b) ∧ M' 133 (79 + 5 * a + b) ≤ 9999 ∧ (M 131 3 ≤ a ∨ M 131 3 ≤ b → M' 133 (79 + 5 * a + b) = 0)) ∧ M' 34 (5 * a + b) = M' 133 (79 + 5 * a + b)) : jp_D M' := by
  obtain ⟨d1, d2, d3, d4, d5, d6, d7, d8, d9, d10, d11, d12, d13, d14⟩ := h
  unfold jp_D
  rw [f1 24 (by omega) (by omega), f1 25 (by omega) (by omega), f1 26 (by omega) (by omega), f1 27 (by omega) (by omega), f1 28 (by omega) (by omega), f1 29 (by omega) (by omega), f1 30 (by omega) (by omega), f1 31 (by omega) (by omega), f1 32 (by omega) (by omega), f2, f3 9 (by omega) (by omega), f3 42 (by omega) (by omega), f3 58 (by omega) (by omega)]
  refine ⟨d1, fun d p q => ?_, fun k p q => ?_, fun k p q => ?_, fun s p q => ?_, fun x y p q r s => (h6 x y p q r s).1, d7, d8, fun z i p q => ?_, fun k p q => ?_, d11, fun c p q => ?_, fun k p q => ?_, fun x y p q r s => (h6 x y p q r s).2⟩
  · rw [f3 _ (by omega) (by omega)]; exact d2 d p q
  · rw [f3 _ (by omega) (by omega)]; exact d3 k p q
  · rw [f3 _ (by omega) (by omega)]; exact d4 k p q
  · rw [f3 _ (by omega) (by omega)]; exact d5 s p q
  · rw [f3 _ (by omega) (by omega), f3 _ (by omega) (by omega), f3 _ (by omega) (by omega)]; exact d9 z i p q
  · rw [f3 _ (by omega) (by omega)]; exact d10 k p q
  · rw [jp_ct_c (fun j j1 j2 => f3 j (by omega) (by omega)) c _ (by omega)]; exact d12 c p q
  · rw [f3 _ (by omega) (by omega)]; exact d13 k p q
theorem gX1_savedBy {M : jw_M} (hD : jp_D M) (w s : Int) (h : 0 ≤ w ∧ w < 4 ∧ 0 ≤ s ∧ s < 5) : fX1_savedBy (9 + 21) w s M = some (M 133 (22 + (5 * w + s))) := by
  unfold fX1_savedBy
  rw [if_pos (by decide)]
  have := hD.2.2.2.2.2.2.2.2.2.2.2.2.1 (5 * w + s) (by omega) (by omega)
  simp (disch := omega) only [↓jp_bs, ↓jp_b2s, ↓reduceIte, jw_up_a, Nat.reduceEqDiff, Int.reduceEq, Int.reduceLT, Int.reduceLE, Int.reduceAdd, Int.reduceSub, Int.reduceMul, Int.reduceNeg, jp_n9_1, jp_n9_8, jp_n9_15, jp_n9_21, jp_n9_24, jp_n10_1, jp_n10_2, jp_n10_3, jp_n10_4, jp_n10_5, jp_n10_6, jp_n17_1, jp_n17_2, jp_n17_3, jp_n17_4, jp_n17_5, jp_n17_6, jp_n24_1, jp_n24_2, jp_n24_3, jp_n24_4, jp_n24_5, jp_n30_1, jp_n30_2, jp_n33_1, jp_n33_2, false_and, true_and, and_true, and_false, and_self, ne_eq, not_true_eq_false, not_false_eq_true, jw_ws, jw_vs, jw_cmp_lt, jw_cmp_gt, jw_cmp_eq, jp_t1, jp_t2, jp_t3, jp_t4, jp_t5, jp_t6, show w * 5 + s = 5 * w + s by omega, this]
theorem bX1_savedBy {M : jw_M} (hD : jp_D M) (w s : Int) (h : 0 ≤ w ∧ w < 4 ∧ 0 ≤ s ∧ s < 5) {be : Type} (kk : _ → Option be) : Option.bind (fX1_savedBy (9 + 21) w s M) kk = kk ((M 133 (22 + (5 * w + s)))) := by rw [show fX1_savedBy (9 + 21) w s M = some (M 133 (22 + (5 * w + s))) from gX1_savedBy hD w s h]; rfl
theorem gX12_savedBy (w s : Int) (M : jw_M) (h : 0 ≤ w ∧ w < 4 ∧ 0 ≤ s ∧ s < 5) : fX12_savedBy w s M = some (M 133 (22 + (5 * w + s))) := by
  unfold fX12_savedBy
  simp (disch := omega) only [↓jp_bs, ↓jp_b2s, ↓reduceIte, jw_up_a, Nat.reduceEqDiff, Int.reduceEq, Int.reduceLT, Int.reduceLE, Int.reduceAdd, Int.reduceSub, Int.reduceMul, Int.reduceNeg, jp_n9_1, jp_n9_8, jp_n9_15, jp_n9_21, jp_n9_24, jp_n10_1, jp_n10_2, jp_n10_3, jp_n10_4, jp_n10_5, jp_n10_6, jp_n17_1, jp_n17_2, jp_n17_3, jp_n17_4, jp_n17_5, jp_n17_6, jp_n24_1, jp_n24_2, jp_n24_3, jp_n24_4, jp_n24_5, jp_n30_1, jp_n30_2, jp_n33_1, jp_n33_2, false_and, true_and, and_true, and_false, and_self, ne_eq, not_true_eq_false, not_false_eq_true, jw_ws, jw_vs, jw_cmp_lt, jw_cmp_gt, jw_cmp_eq, jp_t1, jp_t2, jp_t3, jp_t4, jp_t5, jp_t6, show 22 + 5 * w + s = 22 + (5 * w + s) by omega]
theorem bX12_savedBy (w s : Int) (M : jw_M) (h : 0 ≤ w ∧ w < 4 ∧ 0 ≤ s ∧ s < 5) {be : Type} (kk : _ → Option be) : Option.bind (fX12_savedBy w s M) kk = kk ((M 133 (22 + (5 * w + s)))) := by rw [show fX12_savedBy w s M = some (M 133 (22 + (5 * w + s))) from gX12_savedBy w s M h]; rfl
theorem jp_saved {M : jw_M} (h : jp_inv M) (w s : Int) : jp_ok1 (fX11_saved w s M) M (fX12_saved w s) := by
  have hA := jp_inv_A h
  have hA1 := jp_A_th hA 0 0
  have hD := jp_inv_D h
  obtain ⟨-, -, g4, g7⟩ := jp_A_c hA
  obtain ⟨⟨r0, r2, r3, r4, r5⟩, -⟩ := jp_A_r hA
  by_cases h1 : 0 ≤ w ∧ w < M 131 4
  · by_cases h2 : 0 ≤ s ∧ s < M 131 3
    · refine ⟨M 133 (22 + (5 * w + s)), _, ?_, ?_, jp_th h 0⟩
      · unfold fX11_saved
        simp (disch := omega) only [↓jp_bs, ↓jp_b2s, ↓reduceIte, jw_up_a, Nat.reduceEqDiff, Int.reduceEq, Int.reduceLT, Int.reduceLE, Int.reduceAdd, Int.reduceSub, Int.reduceMul, Int.reduceNeg, jp_n9_1, jp_n9_8, jp_n9_15, jp_n9_21, jp_n9_24, jp_n10_1, jp_n10_2, jp_n10_3, jp_n10_4, jp_n10_5, jp_n10_6, jp_n17_1, jp_n17_2, jp_n17_3, jp_n17_4, jp_n17_5, jp_n17_6, jp_n24_1, jp_n24_2, jp_n24_3, jp_n24_4, jp_n24_5, jp_n30_1, jp_n30_2, jp_n33_1, jp_n33_2, false_and, true_and, and_true, and_false, and_self, ne_eq, not_true_eq_false, not_false_eq_true, jw_ws, jw_vs, jw_cmp_lt, jw_cmp_gt, jw_cmp_eq, jp_t1, jp_t2, jp_t3, jp_t4, jp_t5, jp_t6, ↓bX10_isSeller, ↓bX10_isWatcher, ↓bX1_savedBy hD, g4, g7]
      · unfold fX12_saved
        simp (disch := omega) only [↓jp_bs, ↓jp_b2s, ↓reduceIte, jw_up_a, Nat.reduceEqDiff, Int.reduceEq, Int.reduceLT, Int.reduceLE, Int.reduceAdd, Int.reduceSub, Int.reduceMul, Int.reduceNeg, jp_n9_1, jp_n9_8, jp_n9_15, jp_n9_21, jp_n9_24, jp_n10_1, jp_n10_2, jp_n10_3, jp_n10_4, jp_n10_5, jp_n10_6, jp_n17_1, jp_n17_2, jp_n17_3, jp_n17_4, jp_n17_5, jp_n17_6, jp_n24_1, jp_n24_2, jp_n24_3, jp_n24_4, jp_n24_5, jp_n30_1, jp_n30_2, jp_n33_1, jp_n33_2, false_and, true_and, and_true, and_false, and_self, ne_eq, not_true_eq_false, not_false_eq_true, jw_ws, jw_vs, jw_cmp_lt, jw_cmp_gt, jw_cmp_eq, jp_t1, jp_t2, jp_t3, jp_t4, jp_t5, jp_t6, ↓bX12_isSeller hA1, ↓bX12_isWatcher hA1, ↓bX12_savedBy]
    · refine ⟨-9000000000000000001, _, ?_, ?_, jp_th h 0⟩
      · unfold fX11_saved
        simp (disch := omega) only [↓jp_bs, ↓jp_b2s, ↓reduceIte, jw_up_a, Nat.reduceEqDiff, Int.reduceEq, Int.reduceLT, Int.reduceLE, Int.reduceAdd, Int.reduceSub, Int.reduceMul, Int.reduceNeg, jp_n9_1, jp_n9_8, jp_n9_15, jp_n9_21, jp_n9_24, jp_n10_1, jp_n10_2, jp_n10_3, jp_n10_4, jp_n10_5, jp_n10_6, jp_n17_1, jp_n17_2, jp_n17_3, jp_n17_4, jp_n17_5, jp_n17_6, jp_n24_1, jp_n24_2, jp_n24_3, jp_n24_4, jp_n24_5, jp_n30_1, jp_n30_2, jp_n33_1, jp_n33_2, false_and, true_and, and_true, and_false, and_self, ne_eq, not_true_eq_false, not_false_eq_true, jw_ws, jw_vs, jw_cmp_lt, jw_cmp_gt, jw_cmp_eq, jp_t1, jp_t2, jp_t3, jp_t4, jp_t5, jp_t6, ↓bX10_isSeller, ↓bX10_isWatcher, g4, g7]
      · unfold fX12_saved
        simp (disch := omega) only [↓jp_bs, ↓jp_b2s, ↓reduceIte, jw_up_a, Nat.reduceEqDiff, Int.reduceEq, Int.reduceLT, Int.reduceLE, Int.reduceAdd, Int.reduceSub, Int.reduceMul, Int.reduceNeg, jp_n9_1, jp_n9_8, jp_n9_15, jp_n9_21, jp_n9_24, jp_n10_1, jp_n10_2, jp_n10_3, jp_n10_4, jp_n10_5, jp_n10_6, jp_n17_1, jp_n17_2, jp_n17_3, jp_n17_4, jp_n17_5, jp_n17_6, jp_n24_1, jp_n24_2, jp_n24_3, jp_n24_4, jp_n24_5, jp_n30_1, jp_n30_2, jp_n33_1, jp_n33_2, false_and, true_and, and_true, and_false, and_self, ne_eq, not_true_eq_false, not_false_eq_true, jw_ws, jw_vs, jw_cmp_lt, jw_cmp_gt, jw_cmp_eq, jp_t1, jp_t2, jp_t3, jp_t4, jp_t5, jp_t6, ↓bX12_isSeller hA1, ↓bX12_isWatcher hA1]
  · refine ⟨-9000000000000000001, _, ?_, ?_, jp_th h 0⟩
    · unfold fX11_saved
      simp (disch := omega) only [↓jp_bs, ↓jp_b2s, ↓reduceIte, jw_up_a, Nat.reduceEqDiff, Int.reduceEq, Int.reduceLT, Int.reduceLE, Int.reduceAdd, Int.reduceSub, Int.reduceMul, Int.reduceNeg, jp_n9_1, jp_n9_8, jp_n9_15, jp_n9_21, jp_n9_24, jp_n10_1, jp_n10_2, jp_n10_3, jp_n10_4, jp_n10_5, jp_n10_6, jp_n17_1, jp_n17_2, jp_n17_3, jp_n17_4, jp_n17_5, jp_n17_6, jp_n24_1, jp_n24_2, jp_n24_3, jp_n24_4, jp_n24_5, jp_n30_1, jp_n30_2, jp_n33_1, jp_n33_2, false_and, true_and, and_true, and_false, and_self, ne_eq, not_true_eq_false, not_false_eq_true, jw_ws, jw_vs, jw_cmp_lt, jw_cmp_gt, jw_cmp_eq, jp_t1, jp_t2, jp_t3, jp_t4, jp_t5, jp_t6, ↓bX10_isSeller, ↓bX10_isWatcher, g4, g7]
    · unfold fX12_saved
      simp (disch := omega) only [↓jp_bs, ↓jp_b2s, ↓reduceIte, jw_up_a, Nat.reduceEqDiff, Int.reduceEq, Int.reduceLT, Int.reduceLE, Int.reduceAdd, Int.reduceSub, Int.reduceMul, Int.reduceNeg, jp_n9_1, jp_n9_8, jp_n9_15, jp_n9_21, jp_n9_24, jp_n10_1, jp_n10_2, jp_n10_3, jp_n10_4, jp_n10_5, jp_n10_6, jp_n17_1, jp_n17_2, jp_n17_3, jp_n17_4, jp_n17_5, jp_n17_6, jp_n24_1, jp_n24_2, jp_n24_3, jp_n24_4, jp_n24_5, jp_n30_1, jp_n30_2, jp_n33_1, jp_n33_2, false_and, true_and, and_true, and_false, and_self, ne_eq, not_true_eq_false, not_false_eq_true, jw_ws, jw_vs, jw_cmp_lt, jw_cmp_gt, jw_cmp_eq, jp_t1, jp_t2, jp_t3, jp_t4, jp_t5, jp_t6, ↓bX12_isSeller hA1, ↓bX12_isWatcher hA1]
theorem gX11_arePair {M : jw_M} (hA : jp_A M) (a b : Int) : fX11_arePair a b M = some (if (0 ≤ a ∧ a < M 131 3) ∧ (0 ≤ b ∧ b < M 131 3) ∧ a ≠ b then 1 else 0) := by
  obtain ⟨-, -, g4, g7⟩ := jp_A_c hA
  unfold fX11_arePair
  by_cases h1 : 0 ≤ a ∧ a < M 131 3
  · by_cases h2 : 0 ≤ b ∧ b < M 131 3
    · by_cases h3 : a = b
      · simp (disch := omega) only [↓jp_bs, ↓jp_b2s, ↓reduceIte, jw_up_a, Nat.reduceEqDiff, Int.reduceEq, Int.reduceLT, Int.reduceLE, Int.reduceAdd, Int.reduceSub, Int.reduceMul, Int.reduceNeg, jp_n9_1, jp_n9_8, jp_n9_15, jp_n9_21, jp_n9_24, jp_n10_1, jp_n10_2, jp_n10_3, jp_n10_4, jp_n10_5, jp_n10_6, jp_n17_1, jp_n17_2, jp_n17_3, jp_n17_4, jp_n17_5, jp_n17_6, jp_n24_1, jp_n24_2, jp_n24_3, jp_n24_4, jp_n24_5, jp_n30_1, jp_n30_2, jp_n33_1, jp_n33_2, false_and, true_and, and_true, and_false, and_self, ne_eq, not_true_eq_false, not_false_eq_true, jw_ws, jw_vs, jw_cmp_lt, jw_cmp_gt, jw_cmp_eq, jp_t1, jp_t2, jp_t3, jp_t4, jp_t5, jp_t6, ↓bX10_isSeller, g4]
      · simp (disch := omega) only [↓jp_bs, ↓jp_b2s, ↓reduceIte, jw_up_a, Nat.reduceEqDiff, Int.reduceEq, Int.reduceLT, Int.reduceLE, Int.reduceAdd, Int.reduceSub, Int.reduceMul, Int.reduceNeg, jp_n9_1, jp_n9_8, jp_n9_15, jp_n9_21, jp_n9_24, jp_n10_1, jp_n10_2, jp_n10_3, jp_n10_4, jp_n10_5, jp_n10_6, jp_n17_1, jp_n17_2, jp_n17_3, jp_n17_4, jp_n17_5, jp_n17_6, jp_n24_1, jp_n24_2, jp_n24_3, jp_n24_4, jp_n24_5, jp_n30_1, jp_n30_2, jp_n33_1, jp_n33_2, false_and, true_and, and_true, and_false, and_self, ne_eq, not_true_eq_false, not_false_eq_true, jw_ws, jw_vs, jw_cmp_lt, jw_cmp_gt, jw_cmp_eq, jp_t1, jp_t2, jp_t3, jp_t4, jp_t5, jp_t6, ↓bX10_isSeller, g4]
    · simp (disch := omega) only [↓jp_bs, ↓jp_b2s, ↓reduceIte, jw_up_a, Nat.reduceEqDiff, Int.reduceEq, Int.reduceLT, Int.reduceLE, Int.reduceAdd, Int.reduceSub, Int.reduceMul, Int.reduceNeg, jp_n9_1, jp_n9_8, jp_n9_15, jp_n9_21, jp_n9_24, jp_n10_1, jp_n10_2, jp_n10_3, jp_n10_4, jp_n10_5, jp_n10_6, jp_n17_1, jp_n17_2, jp_n17_3, jp_n17_4, jp_n17_5, jp_n17_6, jp_n24_1, jp_n24_2, jp_n24_3, jp_n24_4, jp_n24_5, jp_n30_1, jp_n30_2, jp_n33_1, jp_n33_2, false_and, true_and, and_true, and_false, and_self, ne_eq, not_true_eq_false, not_false_eq_true, jw_ws, jw_vs, jw_cmp_lt, jw_cmp_gt, jw_cmp_eq, jp_t1, jp_t2, jp_t3, jp_t4, jp_t5, jp_t6, ↓bX10_isSeller, g4]
      rw [if_neg (by omega)]
  · simp (disch := omega) only [↓jp_bs, ↓jp_b2s, ↓reduceIte, jw_up_a, Nat.reduceEqDiff, Int.reduceEq, Int.reduceLT, Int.reduceLE, Int.reduceAdd, Int.reduceSub, Int.reduceMul, Int.reduceNeg, jp_n9_1, jp_n9_8, jp_n9_15, jp_n9_21, jp_n9_24, jp_n10_1, jp_n10_2, jp_n10_3, jp_n10_4, jp_n10_5, jp_n10_6, jp_n17_1, jp_n17_2, jp_n17_3, jp_n17_4, jp_n17_5, jp_n17_6, jp_n24_1, jp_n24_2, jp_n24_3, jp_n24_4, jp_n24_5, jp_n30_1, jp_n30_2, jp_n33_1, jp_n33_2, false_and, true_and, and_true, and_false, and_self, ne_eq, not_true_eq_false, not_false_eq_true, jw_ws, jw_vs, jw_cmp_lt, jw_cmp_gt, jw_cmp_eq, jp_t1, jp_t2, jp_t3, jp_t4, jp_t5, jp_t6, ↓bX10_isSeller, g4]
    rw [if_neg (by omega)]
theorem bX11_arePair {M : jw_M} (hA : jp_A M) (a b : Int) {be : Type} (kk : _ → Option be) : Option.bind (fX11_arePair a b M) kk = kk ((if (0 ≤ a ∧ a < M 131 3) ∧ (0 ≤ b ∧ b < M 131 3) ∧ a ≠ b then 1 else 0)) := by rw [show fX11_arePair a b M = some (if (0 ≤ a ∧ a < M 131 3) ∧ (0 ≤ b ∧ b < M 131 3) ∧ a ≠ b then 1 else 0) from gX11_arePair hA a b]; rfl
theorem gX2_sumOf (a b : Int) (M : jw_M) (h : 0 ≤ a ∧ a < 5 ∧ 0 ≤ b ∧ b < 5) : fX2_sumOf (9 + 24) a b M = some (M 34 (5 * a + b)) := by
  unfold fX2_sumOf
  rw [if_pos (by decide)]
  simp (disch := omega) only [↓jp_bs, ↓jp_b2s, ↓reduceIte, jw_up_a, Nat.reduceEqDiff, Int.reduceEq, Int.reduceLT, Int.reduceLE, Int.reduceAdd, Int.reduceSub, Int.reduceMul, Int.reduceNeg, jp_n9_1, jp_n9_8, jp_n9_15, jp_n9_21, jp_n9_24, jp_n10_1, jp_n10_2, jp_n10_3, jp_n10_4, jp_n10_5, jp_n10_6, jp_n17_1, jp_n17_2, jp_n17_3, jp_n17_4, jp_n17_5, jp_n17_6, jp_n24_1, jp_n24_2, jp_n24_3, jp_n24_4, jp_n24_5, jp_n30_1, jp_n30_2, jp_n33_1, jp_n33_2, false_and, true_and, and_true, and_false, and_self, ne_eq, not_true_eq_false, not_false_eq_true, jw_ws, jw_vs, jw_cmp_lt, jw_cmp_gt, jw_cmp_eq, jp_t1, jp_t2, jp_t3, jp_t4, jp_t5, jp_t6, show a * 5 + b = 5 * a + b by omega]
theorem bX2_sumOf (a b : Int) (M : jw_M) (h : 0 ≤ a ∧ a < 5 ∧ 0 ≤ b ∧ b < 5) {be : Type} (kk : _ → Option be) : Option.bind (fX2_sumOf (9 + 24) a b M) kk = kk ((M 34 (5 * a + b))) := by rw [show fX2_sumOf (9 + 24) a b M = some (M 34 (5 * a + b)) from gX2_sumOf a b M h]; rfl
theorem gX2_change (a b v : Int) (M : jw_M) (h : 0 ≤ a ∧ a < 5 ∧ 0 ≤ b ∧ b < 5) (h2 : -2147483648 ≤ M 34 (5 * a + b) + v ∧ M 34 (5 * a + b) + v < 2147483648) : fX2_change (9 + 24) a b v M = some (jw_up M 34 (5 * a + b) (M 34 (5 * a + b) + v)) := by
  unfold fX2_change
  rw [if_pos (by decide)]
  simp (disch := omega) only [↓jp_bs, ↓jp_b2s, ↓reduceIte, jw_up_a, Nat.reduceEqDiff, Int.reduceEq, Int.reduceLT, Int.reduceLE, Int.reduceAdd, Int.reduceSub, Int.reduceMul, Int.reduceNeg, jp_n9_1, jp_n9_8, jp_n9_15, jp_n9_21, jp_n9_24, jp_n10_1, jp_n10_2, jp_n10_3, jp_n10_4, jp_n10_5, jp_n10_6, jp_n17_1, jp_n17_2, jp_n17_3, jp_n17_4, jp_n17_5, jp_n17_6, jp_n24_1, jp_n24_2, jp_n24_3, jp_n24_4, jp_n24_5, jp_n30_1, jp_n30_2, jp_n33_1, jp_n33_2, false_and, true_and, and_true, and_false, and_self, ne_eq, not_true_eq_false, not_false_eq_true, jw_ws, jw_vs, jw_cmp_lt, jw_cmp_gt, jw_cmp_eq, jp_t1, jp_t2, jp_t3, jp_t4, jp_t5, jp_t6, show a * 5 + b = 5 * a + b by omega]
theorem bX2_change (a b v : Int) (M : jw_M) (h : 0 ≤ a ∧ a < 5 ∧ 0 ≤ b ∧ b < 5) (h2 : -2147483648 ≤ M 34 (5 * a + b) + v ∧ M 34 (5 * a + b) + v < 2147483648) {be : Type} (kk : _ → Option be) : Option.bind (fX2_change (9 + 24) a b v M) kk = kk ((jw_up M 34 (5 * a + b) (M 34 (5 * a + b) + v))) := by rw [show fX2_change (9 + 24) a b v M = some (jw_up M 34 (5 * a + b) (M 34 (5 * a + b) + v)) from gX2_change a b v M h h2]; rfl
theorem gX12_owes (a b : Int) (M : jw_M) (h : 0 ≤ a ∧ a < 5 ∧ 0 ≤ b ∧ b < 5) : fX12_owes a b M = some (M 133 (79 + 5 * a + b)) := by
  unfold fX12_owes
  simp (disch := omega) only [↓jp_bs, ↓jp_b2s, ↓reduceIte, jw_up_a, Nat.reduceEqDiff, Int.reduceEq, Int.reduceLT, Int.reduceLE, Int.reduceAdd, Int.reduceSub, Int.reduceMul, Int.reduceNeg, jp_n9_1, jp_n9_8, jp_n9_15, jp_n9_21, jp_n9_24, jp_n10_1, jp_n10_2, jp_n10_3, jp_n10_4, jp_n10_5, jp_n10_6, jp_n17_1, jp_n17_2, jp_n17_3, jp_n17_4, jp_n17_5, jp_n17_6, jp_n24_1, jp_n24_2, jp_n24_3, jp_n24_4, jp_n24_5, jp_n30_1, jp_n30_2, jp_n33_1, jp_n33_2, false_and, true_and, and_true, and_false, and_self, ne_eq, not_true_eq_false, not_false_eq_true, jw_ws, jw_vs, jw_cmp_lt, jw_cmp_gt, jw_cmp_eq, jp_t1, jp_t2, jp_t3, jp_t4, jp_t5, jp_t6]
theorem bX12_owes (a b : Int) (M : jw_M) (h : 0 ≤ a ∧ a < 5 ∧ 0 ≤ b ∧ b < 5) {be : Type} (kk : _ → Option be) : Option.bind (fX12_owes a b M) kk = kk ((M 133 (79 + 5 * a + b))) := by rw [show fX12_owes a b M = some (M 133 (79 + 5 * a + b)) from gX12_owes a b M h]; rfl
theorem jp_owed {M : jw_M} (h : jp_inv M) (a b : Int) : jp_ok1 (fX11_owed a b M) M (fX12_owed a b) := by
  have hA := jp_inv_A h
  have hA1 := jp_A_th hA 0 0
  have hD := jp_inv_D h
  obtain ⟨⟨r0, r2, r3, r4, r5⟩, -⟩ := jp_A_r hA
  by_cases h1 : (0 ≤ a ∧ a < M 131 3) ∧ (0 ≤ b ∧ b < M 131 3) ∧ a ≠ b
  · have := hD.2.2.2.2.2.2.2.2.2.2.2.2.2 a b (by omega) (by omega) (by omega) (by omega)
    refine ⟨M 133 (79 + 5 * a + b), _, ?_, ?_, jp_th h 0⟩
    · unfold fX11_owed
      simp (disch := omega) only [↓jp_bs, ↓jp_b2s, ↓reduceIte, jw_up_a, Nat.reduceEqDiff, Int.reduceEq, Int.reduceLT, Int.reduceLE, Int.reduceAdd, Int.reduceSub, Int.reduceMul, Int.reduceNeg, jp_n9_1, jp_n9_8, jp_n9_15, jp_n9_21, jp_n9_24, jp_n10_1, jp_n10_2, jp_n10_3, jp_n10_4, jp_n10_5, jp_n10_6, jp_n17_1, jp_n17_2, jp_n17_3, jp_n17_4, jp_n17_5, jp_n17_6, jp_n24_1, jp_n24_2, jp_n24_3, jp_n24_4, jp_n24_5, jp_n30_1, jp_n30_2, jp_n33_1, jp_n33_2, false_and, true_and, and_true, and_false, and_self, ne_eq, not_true_eq_false, not_false_eq_true, jw_ws, jw_vs, jw_cmp_lt, jw_cmp_gt, jw_cmp_eq, jp_t1, jp_t2, jp_t3, jp_t4, jp_t5, jp_t6, ↓bX11_arePair hA, ↓bX2_sumOf, this]
    · unfold fX12_owed
      simp (disch := omega) only [↓jp_bs, ↓jp_b2s, ↓reduceIte, jw_up_a, Nat.reduceEqDiff, Int.reduceEq, Int.reduceLT, Int.reduceLE, Int.reduceAdd, Int.reduceSub, Int.reduceMul, Int.reduceNeg, jp_n9_1, jp_n9_8, jp_n9_15, jp_n9_21, jp_n9_24, jp_n10_1, jp_n10_2, jp_n10_3, jp_n10_4, jp_n10_5, jp_n10_6, jp_n17_1, jp_n17_2, jp_n17_3, jp_n17_4, jp_n17_5, jp_n17_6, jp_n24_1, jp_n24_2, jp_n24_3, jp_n24_4, jp_n24_5, jp_n30_1, jp_n30_2, jp_n33_1, jp_n33_2, false_and, true_and, and_true, and_false, and_self, ne_eq, not_true_eq_false, not_false_eq_true, jw_ws, jw_vs, jw_cmp_lt, jw_cmp_gt, jw_cmp_eq, jp_t1, jp_t2, jp_t3, jp_t4, jp_t5, jp_t6, ↓bX12_isSeller hA1, ↓bX12_owes]
  · refine ⟨-9000000000000000001, _, ?_, ?_, jp_th h 0⟩
    · unfold fX11_owed
      simp only [↓bX11_arePair hA, if_neg h1, if_true]
    · unfold fX12_owed
      by_cases h2 : 0 ≤ a ∧ a < M 131 3
      · by_cases h3 : 0 ≤ b ∧ b < M 131 3
        · simp (disch := omega) only [↓jp_bs, ↓jp_b2s, ↓reduceIte, jw_up_a, Nat.reduceEqDiff, Int.reduceEq, Int.reduceLT, Int.reduceLE, Int.reduceAdd, Int.reduceSub, Int.reduceMul, Int.reduceNeg, jp_n9_1, jp_n9_8, jp_n9_15, jp_n9_21, jp_n9_24, jp_n10_1, jp_n10_2, jp_n10_3, jp_n10_4, jp_n10_5, jp_n10_6, jp_n17_1, jp_n17_2, jp_n17_3, jp_n17_4, jp_n17_5, jp_n17_6, jp_n24_1, jp_n24_2, jp_n24_3, jp_n24_4, jp_n24_5, jp_n30_1, jp_n30_2, jp_n33_1, jp_n33_2, false_and, true_and, and_true, and_false, and_self, ne_eq, not_true_eq_false, not_false_eq_true, jw_ws, jw_vs, jw_cmp_lt, jw_cmp_gt, jw_cmp_eq, jp_t1, jp_t2, jp_t3, jp_t4, jp_t5, jp_t6, ↓bX12_isSeller hA1]
        · simp (disch := omega) only [↓jp_bs, ↓jp_b2s, ↓reduceIte, jw_up_a, Nat.reduceEqDiff, Int.reduceEq, Int.reduceLT, Int.reduceLE, Int.reduceAdd, Int.reduceSub, Int.reduceMul, Int.reduceNeg, jp_n9_1, jp_n9_8, jp_n9_15, jp_n9_21, jp_n9_24, jp_n10_1, jp_n10_2, jp_n10_3, jp_n10_4, jp_n10_5, jp_n10_6, jp_n17_1, jp_n17_2, jp_n17_3, jp_n17_4, jp_n17_5, jp_n17_6, jp_n24_1, jp_n24_2, jp_n24_3, jp_n24_4, jp_n24_5, jp_n30_1, jp_n30_2, jp_n33_1, jp_n33_2, false_and, true_and, and_true, and_false, and_self, ne_eq, not_true_eq_false, not_false_eq_true, jw_ws, jw_vs, jw_cmp_lt, jw_cmp_gt, jw_cmp_eq, jp_t1, jp_t2, jp_t3, jp_t4, jp_t5, jp_t6, ↓bX12_isSeller hA1]
      · simp (disch := omega) only [↓jp_bs, ↓jp_b2s, ↓reduceIte, jw_up_a, Nat.reduceEqDiff, Int.reduceEq, Int.reduceLT, Int.reduceLE, Int.reduceAdd, Int.reduceSub, Int.reduceMul, Int.reduceNeg, jp_n9_1, jp_n9_8, jp_n9_15, jp_n9_21, jp_n9_24, jp_n10_1, jp_n10_2, jp_n10_3, jp_n10_4, jp_n10_5, jp_n10_6, jp_n17_1, jp_n17_2, jp_n17_3, jp_n17_4, jp_n17_5, jp_n17_6, jp_n24_1, jp_n24_2, jp_n24_3, jp_n24_4, jp_n24_5, jp_n30_1, jp_n30_2, jp_n33_1, jp_n33_2, false_and, true_and, and_true, and_false, and_self, ne_eq, not_true_eq_false, not_false_eq_true, jw_ws, jw_vs, jw_cmp_lt, jw_cmp_gt, jw_cmp_eq, jp_t1, jp_t2, jp_t3, jp_t4, jp_t5, jp_t6, ↓bX12_isSeller hA1]
theorem jp_owe {M : jw_M} (h : jp_inv M) (a b v : Int) : jp_ok (fX11_owe a b v M) (fX12_owe a b v) := by
  have hA := jp_inv_A h
  have hA1 := jp_A_th hA 0 0
  have hD := jp_inv_D h
  obtain ⟨⟨r0, r2, r3, r4, r5⟩, -⟩ := jp_A_r hA
  by_cases h1 : ((0 ≤ a ∧ a < M 131 3) ∧ (0 ≤ b ∧ b < M 131 3) ∧ a ≠ b) ∧ 1 ≤ v ∧ v ≤ 9999
  · have e := hD.2.2.2.2.2.2.2.2.2.2.2.2.2 a b (by omega) (by omega) (by omega) (by omega)
    have r := hD.2.2.2.2.2.1 a b (by omega) (by omega) (by omega) (by omega)
    by_cases h2 : M 133 (79 + 5 * a + b) + v ≤ 9999
    · have hx : fX11_owe a b v M = some (M 133 (79 + 5 * a + b) + v, jw_up M 34 (5 * a + b) (M 133 (79 + 5 * a + b) + v)) := by
        unfold fX11_owe
        simp (disch := omega) only [↓jp_bs, ↓jp_b2s, ↓reduceIte, jw_up_a, Nat.reduceEqDiff, Int.reduceEq, Int.reduceLT, Int.reduceLE, Int.reduceAdd, Int.reduceSub, Int.reduceMul, Int.reduceNeg, jp_n9_1, jp_n9_8, jp_n9_15, jp_n9_21, jp_n9_24, jp_n10_1, jp_n10_2, jp_n10_3, jp_n10_4, jp_n10_5, jp_n10_6, jp_n17_1, jp_n17_2, jp_n17_3, jp_n17_4, jp_n17_5, jp_n17_6, jp_n24_1, jp_n24_2, jp_n24_3, jp_n24_4, jp_n24_5, jp_n30_1, jp_n30_2, jp_n33_1, jp_n33_2, false_and, true_and, and_true, and_false, and_self, ne_eq, not_true_eq_false, not_false_eq_true, jw_ws, jw_vs, jw_cmp_lt, jw_cmp_gt, jw_cmp_eq, jp_t1, jp_t2, jp_t3, jp_t4, jp_t5, jp_t6, ↓bX11_arePair hA, ↓bX2_sumOf, ↓bX2_change, e]
      have hA2 := jp_A_th (jp_A_up hA 34 (5 * a + b) (M 133 (79 + 5 * a + b) + v) (by decide)) 0 0
      have hy : fX12_owe a b v (jw_up M 34 (5 * a + b) (M 133 (79 + 5 * a + b) + v)) = some (M 133 (79 + 5 * a + b) + v, jw_up (jw_up (jw_up M 34 (5 * a + b) (M 133 (79 + 5 * a + b) + v)) 127 0 0) 133 (79 + 5 * a + b) (M 133 (79 + 5 * a + b) + v)) := by
        unfold fX12_owe
        simp (disch := omega) only [↓jp_bs, ↓jp_b2s, ↓reduceIte, jw_up_a, Nat.reduceEqDiff, Int.reduceEq, Int.reduceLT, Int.reduceLE, Int.reduceAdd, Int.reduceSub, Int.reduceMul, Int.reduceNeg, jp_n9_1, jp_n9_8, jp_n9_15, jp_n9_21, jp_n9_24, jp_n10_1, jp_n10_2, jp_n10_3, jp_n10_4, jp_n10_5, jp_n10_6, jp_n17_1, jp_n17_2, jp_n17_3, jp_n17_4, jp_n17_5, jp_n17_6, jp_n24_1, jp_n24_2, jp_n24_3, jp_n24_4, jp_n24_5, jp_n30_1, jp_n30_2, jp_n33_1, jp_n33_2, false_and, true_and, and_true, and_false, and_self, ne_eq, not_true_eq_false, not_false_eq_true, jw_ws, jw_vs, jw_cmp_lt, jw_cmp_gt, jw_cmp_eq, jp_t1, jp_t2, jp_t3, jp_t4, jp_t5, jp_t6, ↓bX12_isSeller hA2, ↓bX12_owes, ↓bX12_in]
      refine ⟨_, _, _, hx, hy, ?_⟩
      refine jp_inv_dyn h (jp_D_debt hD r3 (fun k p q => ?_) rfl (fun j p q => ?_) (fun x y p q r s => ?_)) (fun k u p q => ?_) (fun j p q => ?_) rfl h.2.2.1.2 rfl rfl rfl rfl rfl rfl
      · simp (disch := omega) only [jw_up_ne]
      · simp (disch := omega) only [↓jp_bs, ↓jp_b2s, ↓reduceIte, jw_up_a, Nat.reduceEqDiff, Int.reduceEq, Int.reduceLT, Int.reduceLE, Int.reduceAdd, Int.reduceSub, Int.reduceMul, Int.reduceNeg, jp_n9_1, jp_n9_8, jp_n9_15, jp_n9_21, jp_n9_24, jp_n10_1, jp_n10_2, jp_n10_3, jp_n10_4, jp_n10_5, jp_n10_6, jp_n17_1, jp_n17_2, jp_n17_3, jp_n17_4, jp_n17_5, jp_n17_6, jp_n24_1, jp_n24_2, jp_n24_3, jp_n24_4, jp_n24_5, jp_n30_1, jp_n30_2, jp_n33_1, jp_n33_2, false_and, true_and, and_true, and_false, and_self, ne_eq, not_true_eq_false, not_false_eq_true, jw_ws, jw_vs, jw_cmp_lt, jw_cmp_gt, jw_cmp_eq, jp_t1, jp_t2, jp_t3, jp_t4, jp_t5, jp_t6]
      · have e1 := hD.2.2.2.2.2.1 x y p q r s
        have e2 := hD.2.2.2.2.2.2.2.2.2.2.2.2.2 x y p q r s
        by_cases he : x = a ∧ y = b
        · obtain ⟨rfl, rfl⟩ := he
          simp (disch := omega) only [↓jp_bs, ↓jp_b2s, ↓reduceIte, jw_up_a, Nat.reduceEqDiff, Int.reduceEq, Int.reduceLT, Int.reduceLE, Int.reduceAdd, Int.reduceSub, Int.reduceMul, Int.reduceNeg, jp_n9_1, jp_n9_8, jp_n9_15, jp_n9_21, jp_n9_24, jp_n10_1, jp_n10_2, jp_n10_3, jp_n10_4, jp_n10_5, jp_n10_6, jp_n17_1, jp_n17_2, jp_n17_3, jp_n17_4, jp_n17_5, jp_n17_6, jp_n24_1, jp_n24_2, jp_n24_3, jp_n24_4, jp_n24_5, jp_n30_1, jp_n30_2, jp_n33_1, jp_n33_2, false_and, true_and, and_true, and_false, and_self, ne_eq, not_true_eq_false, not_false_eq_true, jw_ws, jw_vs, jw_cmp_lt, jw_cmp_gt, jw_cmp_eq, jp_t1, jp_t2, jp_t3, jp_t4, jp_t5, jp_t6] <;> simp
        · simp (disch := omega) only [↓jp_bs, ↓jp_b2s, ↓reduceIte, jw_up_a, Nat.reduceEqDiff, Int.reduceEq, Int.reduceLT, Int.reduceLE, Int.reduceAdd, Int.reduceSub, Int.reduceMul, Int.reduceNeg, jp_n9_1, jp_n9_8, jp_n9_15, jp_n9_21, jp_n9_24, jp_n10_1, jp_n10_2, jp_n10_3, jp_n10_4, jp_n10_5, jp_n10_6, jp_n17_1, jp_n17_2, jp_n17_3, jp_n17_4, jp_n17_5, jp_n17_6, jp_n24_1, jp_n24_2, jp_n24_3, jp_n24_4, jp_n24_5, jp_n30_1, jp_n30_2, jp_n33_1, jp_n33_2, false_and, true_and, and_true, and_false, and_self, ne_eq, not_true_eq_false, not_false_eq_true, jw_ws, jw_vs, jw_cmp_lt, jw_cmp_gt, jw_cmp_eq, jp_t1, jp_t2, jp_t3, jp_t4, jp_t5, jp_t6] <;> exact e1.2.2
      · rw [jw_up_ne _ q, jw_up_ne _ (by intro e; subst e; revert u; decide), jw_up_ne _ (by omega)]
      · simp (disch := omega) only [↓jp_bs, ↓jp_b2s, ↓reduceIte, jw_up_a, Nat.reduceEqDiff, Int.reduceEq, Int.reduceLT, Int.reduceLE, Int.reduceAdd, Int.reduceSub, Int.reduceMul, Int.reduceNeg, jp_n9_1, jp_n9_8, jp_n9_15, jp_n9_21, jp_n9_24, jp_n10_1, jp_n10_2, jp_n10_3, jp_n10_4, jp_n10_5, jp_n10_6, jp_n17_1, jp_n17_2, jp_n17_3, jp_n17_4, jp_n17_5, jp_n17_6, jp_n24_1, jp_n24_2, jp_n24_3, jp_n24_4, jp_n24_5, jp_n30_1, jp_n30_2, jp_n33_1, jp_n33_2, false_and, true_and, and_true, and_false, and_self, ne_eq, not_true_eq_false, not_false_eq_true, jw_ws, jw_vs, jw_cmp_lt, jw_cmp_gt, jw_cmp_eq, jp_t1, jp_t2, jp_t3, jp_t4, jp_t5, jp_t6]
    · have hx : fX11_owe a b v M = some (-9000000000000000003, M) := by
        unfold fX11_owe
        simp (disch := omega) only [↓jp_bs, ↓jp_b2s, ↓reduceIte, jw_up_a, Nat.reduceEqDiff, Int.reduceEq, Int.reduceLT, Int.reduceLE, Int.reduceAdd, Int.reduceSub, Int.reduceMul, Int.reduceNeg, jp_n9_1, jp_n9_8, jp_n9_15, jp_n9_21, jp_n9_24, jp_n10_1, jp_n10_2, jp_n10_3, jp_n10_4, jp_n10_5, jp_n10_6, jp_n17_1, jp_n17_2, jp_n17_3, jp_n17_4, jp_n17_5, jp_n17_6, jp_n24_1, jp_n24_2, jp_n24_3, jp_n24_4, jp_n24_5, jp_n30_1, jp_n30_2, jp_n33_1, jp_n33_2, false_and, true_and, and_true, and_false, and_self, ne_eq, not_true_eq_false, not_false_eq_true, jw_ws, jw_vs, jw_cmp_lt, jw_cmp_gt, jw_cmp_eq, jp_t1, jp_t2, jp_t3, jp_t4, jp_t5, jp_t6, ↓bX11_arePair hA, ↓bX2_sumOf, ↓bX2_change, e]
      refine ⟨_, _, _, hx, ?_, jp_th h 0⟩
      unfold fX12_owe
      simp (disch := omega) only [↓jp_bs, ↓jp_b2s, ↓reduceIte, jw_up_a, Nat.reduceEqDiff, Int.reduceEq, Int.reduceLT, Int.reduceLE, Int.reduceAdd, Int.reduceSub, Int.reduceMul, Int.reduceNeg, jp_n9_1, jp_n9_8, jp_n9_15, jp_n9_21, jp_n9_24, jp_n10_1, jp_n10_2, jp_n10_3, jp_n10_4, jp_n10_5, jp_n10_6, jp_n17_1, jp_n17_2, jp_n17_3, jp_n17_4, jp_n17_5, jp_n17_6, jp_n24_1, jp_n24_2, jp_n24_3, jp_n24_4, jp_n24_5, jp_n30_1, jp_n30_2, jp_n33_1, jp_n33_2, false_and, true_and, and_true, and_false, and_self, ne_eq, not_true_eq_false, not_false_eq_true, jw_ws, jw_vs, jw_cmp_lt, jw_cmp_gt, jw_cmp_eq, jp_t1, jp_t2, jp_t3, jp_t4, jp_t5, jp_t6, ↓bX12_isSeller hA1, ↓bX12_owes, ↓bX12_in]
  · have hx : fX11_owe a b v M = some (-9000000000000000001, M) := by
      unfold fX11_owe
      by_cases h2 : (0 ≤ a ∧ a < M 131 3) ∧ (0 ≤ b ∧ b < M 131 3) ∧ a ≠ b
      · by_cases h3 : v < 1
        · simp (disch := omega) only [↓jp_bs, ↓jp_b2s, ↓reduceIte, jw_up_a, Nat.reduceEqDiff, Int.reduceEq, Int.reduceLT, Int.reduceLE, Int.reduceAdd, Int.reduceSub, Int.reduceMul, Int.reduceNeg, jp_n9_1, jp_n9_8, jp_n9_15, jp_n9_21, jp_n9_24, jp_n10_1, jp_n10_2, jp_n10_3, jp_n10_4, jp_n10_5, jp_n10_6, jp_n17_1, jp_n17_2, jp_n17_3, jp_n17_4, jp_n17_5, jp_n17_6, jp_n24_1, jp_n24_2, jp_n24_3, jp_n24_4, jp_n24_5, jp_n30_1, jp_n30_2, jp_n33_1, jp_n33_2, false_and, true_and, and_true, and_false, and_self, ne_eq, not_true_eq_false, not_false_eq_true, jw_ws, jw_vs, jw_cmp_lt, jw_cmp_gt, jw_cmp_eq, jp_t1, jp_t2, jp_t3, jp_t4, jp_t5, jp_t6, ↓bX11_arePair hA]
        · simp (disch := omega) only [↓jp_bs, ↓jp_b2s, ↓reduceIte, jw_up_a, Nat.reduceEqDiff, Int.reduceEq, Int.reduceLT, Int.reduceLE, Int.reduceAdd, Int.reduceSub, Int.reduceMul, Int.reduceNeg, jp_n9_1, jp_n9_8, jp_n9_15, jp_n9_21, jp_n9_24, jp_n10_1, jp_n10_2, jp_n10_3, jp_n10_4, jp_n10_5, jp_n10_6, jp_n17_1, jp_n17_2, jp_n17_3, jp_n17_4, jp_n17_5, jp_n17_6, jp_n24_1, jp_n24_2, jp_n24_3, jp_n24_4, jp_n24_5, jp_n30_1, jp_n30_2, jp_n33_1, jp_n33_2, false_and, true_and, and_true, and_false, and_self, ne_eq, not_true_eq_false, not_false_eq_true, jw_ws, jw_vs, jw_cmp_lt, jw_cmp_gt, jw_cmp_eq, jp_t1, jp_t2, jp_t3, jp_t4, jp_t5, jp_t6, ↓bX11_arePair hA]
      · simp only [↓bX11_arePair hA, if_neg h2, if_true]
    refine ⟨_, _, _, hx, ?_, jp_th h 0⟩
    unfold fX12_owe
    by_cases h2 : 0 ≤ a ∧ a < M 131 3
    · by_cases h3 : 0 ≤ b ∧ b < M 131 3
      · by_cases h4 : a = b
        · simp (disch := omega) only [↓jp_bs, ↓jp_b2s, ↓reduceIte, jw_up_a, Nat.reduceEqDiff, Int.reduceEq, Int.reduceLT, Int.reduceLE, Int.reduceAdd, Int.reduceSub, Int.reduceMul, Int.reduceNeg, jp_n9_1, jp_n9_8, jp_n9_15, jp_n9_21, jp_n9_24, jp_n10_1, jp_n10_2, jp_n10_3, jp_n10_4, jp_n10_5, jp_n10_6, jp_n17_1, jp_n17_2, jp_n17_3, jp_n17_4, jp_n17_5, jp_n17_6, jp_n24_1, jp_n24_2, jp_n24_3, jp_n24_4, jp_n24_5, jp_n30_1, jp_n30_2, jp_n33_1, jp_n33_2, false_and, true_and, and_true, and_false, and_self, ne_eq, not_true_eq_false, not_false_eq_true, jw_ws, jw_vs, jw_cmp_lt, jw_cmp_gt, jw_cmp_eq, jp_t1, jp_t2, jp_t3, jp_t4, jp_t5, jp_t6, ↓bX12_isSeller hA1]
        · simp (disch := omega) only [↓jp_bs, ↓jp_b2s, ↓reduceIte, jw_up_a, Nat.reduceEqDiff, Int.reduceEq, Int.reduceLT, Int.reduceLE, Int.reduceAdd, Int.reduceSub, Int.reduceMul, Int.reduceNeg, jp_n9_1, jp_n9_8, jp_n9_15, jp_n9_21, jp_n9_24, jp_n10_1, jp_n10_2, jp_n10_3, jp_n10_4, jp_n10_5, jp_n10_6, jp_n17_1, jp_n17_2, jp_n17_3, jp_n17_4, jp_n17_5, jp_n17_6, jp_n24_1, jp_n24_2, jp_n24_3, jp_n24_4, jp_n24_5, jp_n30_1, jp_n30_2, jp_n33_1, jp_n33_2, false_and, true_and, and_true, and_false, and_self, ne_eq, not_true_eq_false, not_false_eq_true, jw_ws, jw_vs, jw_cmp_lt, jw_cmp_gt, jw_cmp_eq, jp_t1, jp_t2, jp_t3, jp_t4, jp_t5, jp_t6, ↓bX12_isSeller hA1, ↓bX12_in]
      · simp (disch := omega) only [↓jp_bs, ↓jp_b2s, ↓reduceIte, jw_up_a, Nat.reduceEqDiff, Int.reduceEq, Int.reduceLT, Int.reduceLE, Int.reduceAdd, Int.reduceSub, Int.reduceMul, Int.reduceNeg, jp_n9_1, jp_n9_8, jp_n9_15, jp_n9_21, jp_n9_24, jp_n10_1, jp_n10_2, jp_n10_3, jp_n10_4, jp_n10_5, jp_n10_6, jp_n17_1, jp_n17_2, jp_n17_3, jp_n17_4, jp_n17_5, jp_n17_6, jp_n24_1, jp_n24_2, jp_n24_3, jp_n24_4, jp_n24_5, jp_n30_1, jp_n30_2, jp_n33_1, jp_n33_2, false_and, true_and, and_true, and_false, and_self, ne_eq, not_true_eq_false, not_false_eq_true, jw_ws, jw_vs, jw_cmp_lt, jw_cmp_gt, jw_cmp_eq, jp_t1, jp_t2, jp_t3, jp_t4, jp_t5, jp_t6, ↓bX12_isSeller hA1]
    · simp (disch := omega) only [↓jp_bs, ↓jp_b2s, ↓reduceIte, jw_up_a, Nat.reduceEqDiff, Int.reduceEq, Int.reduceLT, Int.reduceLE, Int.reduceAdd, Int.reduceSub, Int.reduceMul, Int.reduceNeg, jp_n9_1, jp_n9_8, jp_n9_15, jp_n9_21, jp_n9_24, jp_n10_1, jp_n10_2, jp_n10_3, jp_n10_4, jp_n10_5, jp_n10_6, jp_n17_1, jp_n17_2, jp_n17_3, jp_n17_4, jp_n17_5, jp_n17_6, jp_n24_1, jp_n24_2, jp_n24_3, jp_n24_4, jp_n24_5, jp_n30_1, jp_n30_2, jp_n33_1, jp_n33_2, false_and, true_and, and_true, and_false, and_self, ne_eq, not_true_eq_false, not_false_eq_true, jw_ws, jw_vs, jw_cmp_lt, jw_cmp_gt, jw_cmp_eq, jp_t1, jp_t2, jp_t3, jp_t4, jp_t5, jp_t6, ↓bX12_isSeller hA1]
theorem jp_trace {M : jw_M} (h : jp_inv M) (i : Int) : jp_ok1 (fX11_trace i M) M (fX12_trace i) := by
  obtain ⟨a1, a2, a3, a4⟩ := h.2.2.2.1
  by_cases h1 : 0 ≤ i ∧ i < M 127 34
  · have := a4 i h1.1 h1.2
    refine ⟨M 147 i, _, ?_, ?_, jp_th h 0⟩
    · unfold fX11_trace fX0_traced
      simp (disch := omega) only [↓jp_bs, ↓jp_b2s, ↓reduceIte, jw_up_a, Nat.reduceEqDiff, Int.reduceEq, Int.reduceLT, Int.reduceLE, Int.reduceAdd, Int.reduceSub, Int.reduceMul, Int.reduceNeg, jp_n9_1, jp_n9_8, jp_n9_15, jp_n9_21, jp_n9_24, jp_n10_1, jp_n10_2, jp_n10_3, jp_n10_4, jp_n10_5, jp_n10_6, jp_n17_1, jp_n17_2, jp_n17_3, jp_n17_4, jp_n17_5, jp_n17_6, jp_n24_1, jp_n24_2, jp_n24_3, jp_n24_4, jp_n24_5, jp_n30_1, jp_n30_2, jp_n33_1, jp_n33_2, false_and, true_and, and_true, and_false, and_self, ne_eq, not_true_eq_false, not_false_eq_true, jw_ws, jw_vs, jw_cmp_lt, jw_cmp_gt, jw_cmp_eq, jp_t1, jp_t2, jp_t3, jp_t4, jp_t5, jp_t6, this]
    · unfold fX12_trace
      simp (disch := omega) only [↓jp_bs, ↓jp_b2s, ↓reduceIte, jw_up_a, Nat.reduceEqDiff, Int.reduceEq, Int.reduceLT, Int.reduceLE, Int.reduceAdd, Int.reduceSub, Int.reduceMul, Int.reduceNeg, jp_n9_1, jp_n9_8, jp_n9_15, jp_n9_21, jp_n9_24, jp_n10_1, jp_n10_2, jp_n10_3, jp_n10_4, jp_n10_5, jp_n10_6, jp_n17_1, jp_n17_2, jp_n17_3, jp_n17_4, jp_n17_5, jp_n17_6, jp_n24_1, jp_n24_2, jp_n24_3, jp_n24_4, jp_n24_5, jp_n30_1, jp_n30_2, jp_n33_1, jp_n33_2, false_and, true_and, and_true, and_false, and_self, ne_eq, not_true_eq_false, not_false_eq_true, jw_ws, jw_vs, jw_cmp_lt, jw_cmp_gt, jw_cmp_eq, jp_t1, jp_t2, jp_t3, jp_t4, jp_t5, jp_t6, ↓bX12_in]
  · refine ⟨-1000000, _, ?_, ?_, jp_th h 0⟩
    · unfold fX11_trace fX0_traced
      by_cases h2 : i < 0
      · simp (disch := omega) only [↓jp_bs, ↓jp_b2s, ↓reduceIte, jw_up_a, Nat.reduceEqDiff, Int.reduceEq, Int.reduceLT, Int.reduceLE, Int.reduceAdd, Int.reduceSub, Int.reduceMul, Int.reduceNeg, jp_n9_1, jp_n9_8, jp_n9_15, jp_n9_21, jp_n9_24, jp_n10_1, jp_n10_2, jp_n10_3, jp_n10_4, jp_n10_5, jp_n10_6, jp_n17_1, jp_n17_2, jp_n17_3, jp_n17_4, jp_n17_5, jp_n17_6, jp_n24_1, jp_n24_2, jp_n24_3, jp_n24_4, jp_n24_5, jp_n30_1, jp_n30_2, jp_n33_1, jp_n33_2, false_and, true_and, and_true, and_false, and_self, ne_eq, not_true_eq_false, not_false_eq_true, jw_ws, jw_vs, jw_cmp_lt, jw_cmp_gt, jw_cmp_eq, jp_t1, jp_t2, jp_t3, jp_t4, jp_t5, jp_t6]
      · simp (disch := omega) only [↓jp_bs, ↓jp_b2s, ↓reduceIte, jw_up_a, Nat.reduceEqDiff, Int.reduceEq, Int.reduceLT, Int.reduceLE, Int.reduceAdd, Int.reduceSub, Int.reduceMul, Int.reduceNeg, jp_n9_1, jp_n9_8, jp_n9_15, jp_n9_21, jp_n9_24, jp_n10_1, jp_n10_2, jp_n10_3, jp_n10_4, jp_n10_5, jp_n10_6, jp_n17_1, jp_n17_2, jp_n17_3, jp_n17_4, jp_n17_5, jp_n17_6, jp_n24_1, jp_n24_2, jp_n24_3, jp_n24_4, jp_n24_5, jp_n30_1, jp_n30_2, jp_n33_1, jp_n33_2, false_and, true_and, and_true, and_false, and_self, ne_eq, not_true_eq_false, not_false_eq_true, jw_ws, jw_vs, jw_cmp_lt, jw_cmp_gt, jw_cmp_eq, jp_t1, jp_t2, jp_t3, jp_t4, jp_t5, jp_t6]
    · unfold fX12_trace
      simp (disch := omega) only [↓jp_bs, ↓jp_b2s, ↓reduceIte, jw_up_a, Nat.reduceEqDiff, Int.reduceEq, Int.reduceLT, Int.reduceLE, Int.reduceAdd, Int.reduceSub, Int.reduceMul, Int.reduceNeg, jp_n9_1, jp_n9_8, jp_n9_15, jp_n9_21, jp_n9_24, jp_n10_1, jp_n10_2, jp_n10_3, jp_n10_4, jp_n10_5, jp_n10_6, jp_n17_1, jp_n17_2, jp_n17_3, jp_n17_4, jp_n17_5, jp_n17_6, jp_n24_1, jp_n24_2, jp_n24_3, jp_n24_4, jp_n24_5, jp_n30_1, jp_n30_2, jp_n33_1, jp_n33_2, false_and, true_and, and_true, and_false, and_self, ne_eq, not_true_eq_false, not_false_eq_true, jw_ws, jw_vs, jw_cmp_lt, jw_cmp_gt, jw_cmp_eq, jp_t1, jp_t2, jp_t3, jp_t4, jp_t5, jp_t6, ↓bX12_in]
def jp_kind (M : jw_M) (s : Int) : Int := if M 133 42 = 0 ∨ M 133 (53 + s) = 0 then 1 else if M 133 (53 + s) = 1 then 2 else if 60 * M 131 (7 + M 133 s) < M 131 (64 + 3 * M 131 (90 + s)) + M 131 (65 + 3 * M 131 (90 + s)) then 4 else 3
theorem gX0_kindOf {M : jw_M} (hA : jp_A M) (hB : jp_B M) (hD : jp_D M) (s : Int) (h : 0 ≤ s ∧ s < M 131 3) : fX0_kindOf s M = some (jp_kind M s) := by
  obtain ⟨⟨r0, r2, r3, r4, r5⟩, -⟩ := jp_A_r hA
  obtain ⟨b1, b2, b3⟩ := hB.1 s h.1 h.2
  have e := hA.2.2.1 (M 133 s) b2 b3
  have e2 := hA.1.2.2.1 (M 133 s) b2 (by omega)
  have hs := jp_gds hA h
  obtain ⟨d1, d2, d3, d4, d5, d6, d7, d8, d9, d10, d11, d12, d13, d14⟩ := hD
  have d5 := d5 s h.1 h.2
  unfold fX0_kindOf jp_kind
  by_cases h1 : M 133 42 = 0
  · simp (disch := omega) only [↓jp_bs, ↓jp_b2s, ↓reduceIte, jw_up_a, Nat.reduceEqDiff, Int.reduceEq, Int.reduceLT, Int.reduceLE, Int.reduceAdd, Int.reduceSub, Int.reduceMul, Int.reduceNeg, jp_n9_1, jp_n9_8, jp_n9_15, jp_n9_21, jp_n9_24, jp_n10_1, jp_n10_2, jp_n10_3, jp_n10_4, jp_n10_5, jp_n10_6, jp_n17_1, jp_n17_2, jp_n17_3, jp_n17_4, jp_n17_5, jp_n17_6, jp_n24_1, jp_n24_2, jp_n24_3, jp_n24_4, jp_n24_5, jp_n30_1, jp_n30_2, jp_n33_1, jp_n33_2, false_and, true_and, and_true, and_false, and_self, ne_eq, not_true_eq_false, not_false_eq_true, jw_ws, jw_vs, jw_cmp_lt, jw_cmp_gt, jw_cmp_eq, jp_t1, jp_t2, jp_t3, jp_t4, jp_t5, jp_t6]
    rw [if_pos (Or.inl trivial)]
  · obtain ⟨-, -, o⟩ := d9 h1 s h.1 h.2
    by_cases h2 : M 133 (53 + s) = 0
    · simp (disch := omega) only [↓jp_bs, ↓jp_b2s, ↓reduceIte, jw_up_a, Nat.reduceEqDiff, Int.reduceEq, Int.reduceLT, Int.reduceLE, Int.reduceAdd, Int.reduceSub, Int.reduceMul, Int.reduceNeg, jp_n9_1, jp_n9_8, jp_n9_15, jp_n9_21, jp_n9_24, jp_n10_1, jp_n10_2, jp_n10_3, jp_n10_4, jp_n10_5, jp_n10_6, jp_n17_1, jp_n17_2, jp_n17_3, jp_n17_4, jp_n17_5, jp_n17_6, jp_n24_1, jp_n24_2, jp_n24_3, jp_n24_4, jp_n24_5, jp_n30_1, jp_n30_2, jp_n33_1, jp_n33_2, false_and, true_and, and_true, and_false, and_self, ne_eq, not_true_eq_false, not_false_eq_true, jw_ws, jw_vs, jw_cmp_lt, jw_cmp_gt, jw_cmp_eq, jp_t1, jp_t2, jp_t3, jp_t4, jp_t5, jp_t6, o]
      rw [if_pos (Or.inr trivial)]
    · by_cases h3 : M 133 (53 + s) = 1
      · simp (disch := omega) only [↓jp_bs, ↓jp_b2s, ↓reduceIte, jw_up_a, Nat.reduceEqDiff, Int.reduceEq, Int.reduceLT, Int.reduceLE, Int.reduceAdd, Int.reduceSub, Int.reduceMul, Int.reduceNeg, jp_n9_1, jp_n9_8, jp_n9_15, jp_n9_21, jp_n9_24, jp_n10_1, jp_n10_2, jp_n10_3, jp_n10_4, jp_n10_5, jp_n10_6, jp_n17_1, jp_n17_2, jp_n17_3, jp_n17_4, jp_n17_5, jp_n17_6, jp_n24_1, jp_n24_2, jp_n24_3, jp_n24_4, jp_n24_5, jp_n30_1, jp_n30_2, jp_n33_1, jp_n33_2, false_and, true_and, and_true, and_false, and_self, ne_eq, not_true_eq_false, not_false_eq_true, jw_ws, jw_vs, jw_cmp_lt, jw_cmp_gt, jw_cmp_eq, jp_t1, jp_t2, jp_t3, jp_t4, jp_t5, jp_t6, o]
        rw [if_neg (by simp)]
      · simp (disch := omega) only [↓jp_bs, ↓jp_b2s, ↓reduceIte, jw_up_a, Nat.reduceEqDiff, Int.reduceEq, Int.reduceLT, Int.reduceLE, Int.reduceAdd, Int.reduceSub, Int.reduceMul, Int.reduceNeg, jp_n9_1, jp_n9_8, jp_n9_15, jp_n9_21, jp_n9_24, jp_n10_1, jp_n10_2, jp_n10_3, jp_n10_4, jp_n10_5, jp_n10_6, jp_n17_1, jp_n17_2, jp_n17_3, jp_n17_4, jp_n17_5, jp_n17_6, jp_n24_1, jp_n24_2, jp_n24_3, jp_n24_4, jp_n24_5, jp_n30_1, jp_n30_2, jp_n33_1, jp_n33_2, false_and, true_and, and_true, and_false, and_self, ne_eq, not_true_eq_false, not_false_eq_true, jw_ws, jw_vs, jw_cmp_lt, jw_cmp_gt, jw_cmp_eq, jp_t1, jp_t2, jp_t3, jp_t4, jp_t5, jp_t6, o, b1, e, ↓bX10_lossOf hA]
        simp only [or_self, if_false]
        split <;> rfl
theorem bX0_kindOf {M : jw_M} (hA : jp_A M) (hB : jp_B M) (hD : jp_D M) (s : Int) (h : 0 ≤ s ∧ s < M 131 3) {be : Type} (kk : _ → Option be) : Option.bind (fX0_kindOf s M) kk = kk ((jp_kind M s)) := by rw [show fX0_kindOf s M = some (jp_kind M s) from gX0_kindOf hA hB hD s h]; rfl
theorem gX12_kindOf {M : jw_M} (hA : jp_A M) (hB : jp_B M) (hD : jp_D M) (s : Int) (h : 0 ≤ s ∧ s < M 131 3) : fX12_kindOf s M = some (jp_kind M s) := by
  obtain ⟨⟨r0, r2, r3, r4, r5⟩, -⟩ := jp_A_r hA
  obtain ⟨b1, b2, b3⟩ := hB.1 s h.1 h.2
  have e2 := hA.1.2.2.1 (M 133 s) b2 (by omega)
  have hs := jp_gds hA h
  obtain ⟨d1, d2, d3, d4, d5, d6, d7, d8, d9, d10, d11, d12, d13, d14⟩ := hD
  have d5 := d5 s h.1 h.2
  unfold fX12_kindOf jp_kind fX12_becameOf fX12_kindOf_19
  by_cases h1 : M 133 42 = 0
  · simp (disch := omega) only [↓jp_bs, ↓jp_b2s, ↓reduceIte, jw_up_a, Nat.reduceEqDiff, Int.reduceEq, Int.reduceLT, Int.reduceLE, Int.reduceAdd, Int.reduceSub, Int.reduceMul, Int.reduceNeg, jp_n9_1, jp_n9_8, jp_n9_15, jp_n9_21, jp_n9_24, jp_n10_1, jp_n10_2, jp_n10_3, jp_n10_4, jp_n10_5, jp_n10_6, jp_n17_1, jp_n17_2, jp_n17_3, jp_n17_4, jp_n17_5, jp_n17_6, jp_n24_1, jp_n24_2, jp_n24_3, jp_n24_4, jp_n24_5, jp_n30_1, jp_n30_2, jp_n33_1, jp_n33_2, false_and, true_and, and_true, and_false, and_self, ne_eq, not_true_eq_false, not_false_eq_true, jw_ws, jw_vs, jw_cmp_lt, jw_cmp_gt, jw_cmp_eq, jp_t1, jp_t2, jp_t3, jp_t4, jp_t5, jp_t6]
    rw [if_pos (Or.inl trivial)]
  · by_cases h2 : M 133 (53 + s) = 0
    · simp (disch := omega) only [↓jp_bs, ↓jp_b2s, ↓reduceIte, jw_up_a, Nat.reduceEqDiff, Int.reduceEq, Int.reduceLT, Int.reduceLE, Int.reduceAdd, Int.reduceSub, Int.reduceMul, Int.reduceNeg, jp_n9_1, jp_n9_8, jp_n9_15, jp_n9_21, jp_n9_24, jp_n10_1, jp_n10_2, jp_n10_3, jp_n10_4, jp_n10_5, jp_n10_6, jp_n17_1, jp_n17_2, jp_n17_3, jp_n17_4, jp_n17_5, jp_n17_6, jp_n24_1, jp_n24_2, jp_n24_3, jp_n24_4, jp_n24_5, jp_n30_1, jp_n30_2, jp_n33_1, jp_n33_2, false_and, true_and, and_true, and_false, and_self, ne_eq, not_true_eq_false, not_false_eq_true, jw_ws, jw_vs, jw_cmp_lt, jw_cmp_gt, jw_cmp_eq, jp_t1, jp_t2, jp_t3, jp_t4, jp_t5, jp_t6]
      rw [if_pos (Or.inr trivial)]
    · by_cases h3 : M 133 (53 + s) = 1
      · simp (disch := omega) only [↓jp_bs, ↓jp_b2s, ↓reduceIte, jw_up_a, Nat.reduceEqDiff, Int.reduceEq, Int.reduceLT, Int.reduceLE, Int.reduceAdd, Int.reduceSub, Int.reduceMul, Int.reduceNeg, jp_n9_1, jp_n9_8, jp_n9_15, jp_n9_21, jp_n9_24, jp_n10_1, jp_n10_2, jp_n10_3, jp_n10_4, jp_n10_5, jp_n10_6, jp_n17_1, jp_n17_2, jp_n17_3, jp_n17_4, jp_n17_5, jp_n17_6, jp_n24_1, jp_n24_2, jp_n24_3, jp_n24_4, jp_n24_5, jp_n30_1, jp_n30_2, jp_n33_1, jp_n33_2, false_and, true_and, and_true, and_false, and_self, ne_eq, not_true_eq_false, not_false_eq_true, jw_ws, jw_vs, jw_cmp_lt, jw_cmp_gt, jw_cmp_eq, jp_t1, jp_t2, jp_t3, jp_t4, jp_t5, jp_t6]
        rw [if_neg (by simp)]
      · simp (disch := omega) only [↓jp_bs, ↓jp_b2s, ↓reduceIte, jw_up_a, Nat.reduceEqDiff, Int.reduceEq, Int.reduceLT, Int.reduceLE, Int.reduceAdd, Int.reduceSub, Int.reduceMul, Int.reduceNeg, jp_n9_1, jp_n9_8, jp_n9_15, jp_n9_21, jp_n9_24, jp_n10_1, jp_n10_2, jp_n10_3, jp_n10_4, jp_n10_5, jp_n10_6, jp_n17_1, jp_n17_2, jp_n17_3, jp_n17_4, jp_n17_5, jp_n17_6, jp_n24_1, jp_n24_2, jp_n24_3, jp_n24_4, jp_n24_5, jp_n30_1, jp_n30_2, jp_n33_1, jp_n33_2, false_and, true_and, and_true, and_false, and_self, ne_eq, not_true_eq_false, not_false_eq_true, jw_ws, jw_vs, jw_cmp_lt, jw_cmp_gt, jw_cmp_eq, jp_t1, jp_t2, jp_t3, jp_t4, jp_t5, jp_t6, Int.zero_add, ↓bX12_lostOf hA]
        simp only [or_self, if_false]
        split <;> rfl
theorem bX12_kindOf {M : jw_M} (hA : jp_A M) (hB : jp_B M) (hD : jp_D M) (s : Int) (h : 0 ≤ s ∧ s < M 131 3) {be : Type} (kk : _ → Option be) : Option.bind (fX12_kindOf s M) kk = kk ((jp_kind M s)) := by rw [show fX12_kindOf s M = some (jp_kind M s) from gX12_kindOf hA hB hD s h]; rfl
theorem jp_B_th {M : jw_M} (h : jp_B M) (j v : Int) (hr : M 131 3 ≤ 5 ∧ M 131 4 ≤ 4) : jp_B (jw_up M 127 j v) := jp_B_fr h (jw_up_ne _ (by decide) _ _) (jw_up_ne _ (by decide) _ _) (jw_up_ne _ (by decide) _ _) (fun j _ _ => by rw [jw_up_ne _ (by decide)]) hr
theorem jp_D_fr {M M' : jw_M} (h : jp_D M) (f1 : ∀ k : Nat, 24 ≤ k → k ≤ 34 → M' k = M k) (f2 : M' 131 = M 131) (f3 : M' 133 = M 133) : jp_D M' := by
  unfold jp_D at h ⊢
  rw [f1 24 (by omega) (by omega), f1 25 (by omega) (by omega), f1 26 (by omega) (by omega), f1 27 (by omega) (by omega), f1 28 (by omega) (by omega), f1 29 (by omega) (by omega), f1 30 (by omega) (by omega), f1 31 (by omega) (by omega), f1 32 (by omega) (by omega), f1 34 (by omega) (by omega), f2, f3]
  exact h
theorem jp_D_th {M : jw_M} (h : jp_D M) (j v : Int) : jp_D (jw_up M 127 j v) := jp_D_fr h (fun k p q => jw_up_ne _ (by omega) _ _) (jw_up_ne _ (by decide) _ _) (jw_up_ne _ (by decide) _ _)
theorem jp_kind_r (M : jw_M) (s : Int) : 1 ≤ jp_kind M s ∧ jp_kind M s ≤ 4 := by
  unfold jp_kind
  split
  · omega
  · split
    · omega
    · split <;> omega
theorem jp_kind1 {M : jw_M} (h : jp_inv M) (s : Int) : jp_ok1 (fX11_kind s M) M (fX12_kind s) := by
  have hA := jp_inv_A h
  have hB := jp_inv_B h
  have hD := jp_inv_D h
  obtain ⟨-, -, g4, g7⟩ := jp_A_c hA
  obtain ⟨⟨r0, r2, r3, r4, r5⟩, -⟩ := jp_A_r hA
  have hA1 := jp_A_th hA 0 0
  have hB1 := jp_B_th hB 0 0 (by omega)
  have hD1 := jp_D_th hD 0 0
  by_cases h1 : 0 ≤ s ∧ s < M 131 3
  · refine ⟨jp_kind M s, _, ?_, ?_, jp_th h 0⟩
    · unfold fX11_kind
      simp (disch := omega) only [↓jp_bs, ↓jp_b2s, ↓reduceIte, jw_up_a, Nat.reduceEqDiff, Int.reduceEq, Int.reduceLT, Int.reduceLE, Int.reduceAdd, Int.reduceSub, Int.reduceMul, Int.reduceNeg, jp_n9_1, jp_n9_8, jp_n9_15, jp_n9_21, jp_n9_24, jp_n10_1, jp_n10_2, jp_n10_3, jp_n10_4, jp_n10_5, jp_n10_6, jp_n17_1, jp_n17_2, jp_n17_3, jp_n17_4, jp_n17_5, jp_n17_6, jp_n24_1, jp_n24_2, jp_n24_3, jp_n24_4, jp_n24_5, jp_n30_1, jp_n30_2, jp_n33_1, jp_n33_2, false_and, true_and, and_true, and_false, and_self, ne_eq, not_true_eq_false, not_false_eq_true, jw_ws, jw_vs, jw_cmp_lt, jw_cmp_gt, jw_cmp_eq, jp_t1, jp_t2, jp_t3, jp_t4, jp_t5, jp_t6, ↓bX10_isSeller, g4, ↓bX0_kindOf hA hB hD]
    · have h1' : 0 ≤ s ∧ s < jw_up M 127 0 0 131 3 := h1
      unfold fX12_kind
      simp (disch := omega) only [↓jp_bs, ↓jp_b2s, ↓reduceIte, jw_up_a, Nat.reduceEqDiff, Int.reduceEq, Int.reduceLT, Int.reduceLE, Int.reduceAdd, Int.reduceSub, Int.reduceMul, Int.reduceNeg, jp_n9_1, jp_n9_8, jp_n9_15, jp_n9_21, jp_n9_24, jp_n10_1, jp_n10_2, jp_n10_3, jp_n10_4, jp_n10_5, jp_n10_6, jp_n17_1, jp_n17_2, jp_n17_3, jp_n17_4, jp_n17_5, jp_n17_6, jp_n24_1, jp_n24_2, jp_n24_3, jp_n24_4, jp_n24_5, jp_n30_1, jp_n30_2, jp_n33_1, jp_n33_2, false_and, true_and, and_true, and_false, and_self, ne_eq, not_true_eq_false, not_false_eq_true, jw_ws, jw_vs, jw_cmp_lt, jw_cmp_gt, jw_cmp_eq, jp_t1, jp_t2, jp_t3, jp_t4, jp_t5, jp_t6, ↓bX12_isSeller hA1, ↓bX12_kindOf hA1 hB1 hD1]
      rfl
  · refine ⟨-9000000000000000001, _, ?_, ?_, jp_th h 0⟩
    · unfold fX11_kind
      simp (disch := omega) only [↓jp_bs, ↓jp_b2s, ↓reduceIte, jw_up_a, Nat.reduceEqDiff, Int.reduceEq, Int.reduceLT, Int.reduceLE, Int.reduceAdd, Int.reduceSub, Int.reduceMul, Int.reduceNeg, jp_n9_1, jp_n9_8, jp_n9_15, jp_n9_21, jp_n9_24, jp_n10_1, jp_n10_2, jp_n10_3, jp_n10_4, jp_n10_5, jp_n10_6, jp_n17_1, jp_n17_2, jp_n17_3, jp_n17_4, jp_n17_5, jp_n17_6, jp_n24_1, jp_n24_2, jp_n24_3, jp_n24_4, jp_n24_5, jp_n30_1, jp_n30_2, jp_n33_1, jp_n33_2, false_and, true_and, and_true, and_false, and_self, ne_eq, not_true_eq_false, not_false_eq_true, jw_ws, jw_vs, jw_cmp_lt, jw_cmp_gt, jw_cmp_eq, jp_t1, jp_t2, jp_t3, jp_t4, jp_t5, jp_t6, ↓bX10_isSeller, g4]
    · unfold fX12_kind
      simp (disch := omega) only [↓jp_bs, ↓jp_b2s, ↓reduceIte, jw_up_a, Nat.reduceEqDiff, Int.reduceEq, Int.reduceLT, Int.reduceLE, Int.reduceAdd, Int.reduceSub, Int.reduceMul, Int.reduceNeg, jp_n9_1, jp_n9_8, jp_n9_15, jp_n9_21, jp_n9_24, jp_n10_1, jp_n10_2, jp_n10_3, jp_n10_4, jp_n10_5, jp_n10_6, jp_n17_1, jp_n17_2, jp_n17_3, jp_n17_4, jp_n17_5, jp_n17_6, jp_n24_1, jp_n24_2, jp_n24_3, jp_n24_4, jp_n24_5, jp_n30_1, jp_n30_2, jp_n33_1, jp_n33_2, false_and, true_and, and_true, and_false, and_self, ne_eq, not_true_eq_false, not_false_eq_true, jw_ws, jw_vs, jw_cmp_lt, jw_cmp_gt, jw_cmp_eq, jp_t1, jp_t2, jp_t3, jp_t4, jp_t5, jp_t6, ↓bX12_isSeller hA1]
theorem jp_isof (k o : Int) (hk : 1 ≤ k ∧ k ≤ 4) (ho : 0 ≤ o ∧ o ≤ 4) (M M' : jw_M) : ∃ v : Int, (v = 0 ∨ v = 1) ∧ fX0_isTakenAs k o M = some v ∧ fX12_isOf k o M' = some v := by
  unfold fX0_isTakenAs fX12_isOf fX0_isTakenAs_44 fX0_isTakenAs_60 fX12_isOf_29 fX12_isOf_19 fX12_isOf_29
  have h1 : k = 1 ∨ k = 2 ∨ k = 3 ∨ k = 4 := by omega
  have h2 : o = 0 ∨ o = 1 ∨ o = 2 ∨ o = 3 ∨ o = 4 := by omega
  rcases h1 with rfl | rfl | rfl | rfl <;> rcases h2 with rfl | rfl | rfl | rfl | rfl <;> simp
