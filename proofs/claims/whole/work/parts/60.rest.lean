/-! the best corner; at rest; score, may, newcomer, rest -/
theorem jp_bc_s (T N P : Int → Int) (s : Int) {i : Int} (h : 0 ≤ i) : jp_bc T N P s (i + 1).toNat = if jp_sc T N P s (jp_bc T N P s i.toNat) < jp_sc T N P s i ∧ jp_lw T P (T (90 + s)) s i = true then i else jp_bc T N P s i.toNat := by
  have e : (i + 1).toNat = i.toNat + 1 := by omega
  rw [e, jp_bc, Int.toNat_of_nonneg h]
theorem gX8_bestCorner {M : jw_M} (hA : jp_A M) (hD : jp_D M) (s : Int) (hs : 0 ≤ s ∧ s < M 131 3) (hP : ∀ q : Int, 0 ≤ q → q < M 131 3 → 0 ≤ M 22 q ∧ M 22 q < M 131 0) : fX8_bestCorner s M = some (jp_be (M 131) (M 133) (M 22) s) := by
  obtain ⟨⟨c0, c5, c8, -⟩, -, g4, g7⟩ := jp_A_c hA
  obtain ⟨⟨r0, r2, r3, r4, r5⟩, -⟩ := jp_A_r hA
  have es := (jp_gof hA hs).1
  have hq := hP s hs.1 hs.2
  have h1 := gX8_scoreAt hA hD s (M 22 s) hs hq
  unfold fX8_bestCorner
  simp (disch := omega) only [↓jp_bs, ↓jp_b2s, ↓reduceIte, jw_up_a, Nat.reduceEqDiff, Int.reduceEq, Int.reduceLT, Int.reduceLE, Int.reduceAdd, Int.reduceSub, Int.reduceMul, Int.reduceNeg, jp_n9_1, jp_n9_8, jp_n9_15, jp_n9_21, jp_n9_24, jp_n10_1, jp_n10_2, jp_n10_3, jp_n10_4, jp_n10_5, jp_n10_6, jp_n17_1, jp_n17_2, jp_n17_3, jp_n17_4, jp_n17_5, jp_n17_6, jp_n24_1, jp_n24_2, jp_n24_3, jp_n24_4, jp_n24_5, jp_n30_1, jp_n30_2, jp_n33_1, jp_n33_2, false_and, true_and, and_true, and_false, and_self, ne_eq, not_true_eq_false, not_false_eq_true, jw_ws, jw_vs, jw_cmp_lt, jw_cmp_gt, jw_cmp_eq, jp_t1, jp_t2, jp_t3, jp_t4, jp_t5, jp_t6, ↓jp_bnd h1]
  refine jp_up (fun k i (a : Int × Int) => fX8_bestCorner_20 M k s a.1 a.2 i) (M 131 0) (fun i a => 0 ≤ i ∧ a = (jp_bc (M 131) (M 133) (M 22) s i.toNat, jp_sc (M 131) (M 133) (M 22) s (jp_bc (M 131) (M 133) (M 22) s i.toNat))) (fun x => x = some (jp_be (M 131) (M 133) (M 22) s)) ?_ ?_ jw_fu 0 (M 22 s, jp_sc (M 131) (M 133) (M 22) s (M 22 s)) (by unfold jw_fu; omega) (by omega) ⟨by omega, rfl⟩
  · intro k i a hp hi ih
    obtain ⟨h0, rfl⟩ := hp
    have h2 := gX8_scoreAt hA hD s i hs ⟨h0, hi⟩
    have h3 := gX8_isLawful hA (M 131 (90 + s)) s i ⟨h0, hi⟩ hP
    show fX8_bestCorner_20 M (k + 1) s (jp_bc (M 131) (M 133) (M 22) s i.toNat) (jp_sc (M 131) (M 133) (M 22) s (jp_bc (M 131) (M 133) (M 22) s i.toNat)) i = _
    rw [fX8_bestCorner_20]
    unfold fX8_bestCorner_72
    have eb := jp_bc_s (M 131) (M 133) (M 22) s h0
    by_cases hh : jp_sc (M 131) (M 133) (M 22) s (jp_bc (M 131) (M 133) (M 22) s i.toNat) < jp_sc (M 131) (M 133) (M 22) s i
    · cases el : jp_lw (M 131) (M 22) (M 131 (90 + s)) s i with
      | false =>
        rw [el, jp_01f] at h3
        rw [if_neg (by rw [el]; simp)] at eb
        simp (disch := omega) only [↓jp_bs, ↓jp_b2s, ↓reduceIte, jw_up_a, Nat.reduceEqDiff, Int.reduceEq, Int.reduceLT, Int.reduceLE, Int.reduceAdd, Int.reduceSub, Int.reduceMul, Int.reduceNeg, jp_n9_1, jp_n9_8, jp_n9_15, jp_n9_21, jp_n9_24, jp_n10_1, jp_n10_2, jp_n10_3, jp_n10_4, jp_n10_5, jp_n10_6, jp_n17_1, jp_n17_2, jp_n17_3, jp_n17_4, jp_n17_5, jp_n17_6, jp_n24_1, jp_n24_2, jp_n24_3, jp_n24_4, jp_n24_5, jp_n30_1, jp_n30_2, jp_n33_1, jp_n33_2, false_and, true_and, and_true, and_false, and_self, ne_eq, not_true_eq_false, not_false_eq_true, jw_ws, jw_vs, jw_cmp_lt, jw_cmp_gt, jw_cmp_eq, jp_t1, jp_t2, jp_t3, jp_t4, jp_t5, jp_t6, c0, ↓jp_bnd h2, es, ↓jp_bnd h3]
        exact ih _ ⟨by omega, by rw [eb]⟩
      | true =>
        rw [el, jp_01t] at h3
        rw [if_pos ⟨hh, el⟩] at eb
        simp (disch := omega) only [↓jp_bs, ↓jp_b2s, ↓reduceIte, jw_up_a, Nat.reduceEqDiff, Int.reduceEq, Int.reduceLT, Int.reduceLE, Int.reduceAdd, Int.reduceSub, Int.reduceMul, Int.reduceNeg, jp_n9_1, jp_n9_8, jp_n9_15, jp_n9_21, jp_n9_24, jp_n10_1, jp_n10_2, jp_n10_3, jp_n10_4, jp_n10_5, jp_n10_6, jp_n17_1, jp_n17_2, jp_n17_3, jp_n17_4, jp_n17_5, jp_n17_6, jp_n24_1, jp_n24_2, jp_n24_3, jp_n24_4, jp_n24_5, jp_n30_1, jp_n30_2, jp_n33_1, jp_n33_2, false_and, true_and, and_true, and_false, and_self, ne_eq, not_true_eq_false, not_false_eq_true, jw_ws, jw_vs, jw_cmp_lt, jw_cmp_gt, jw_cmp_eq, jp_t1, jp_t2, jp_t3, jp_t4, jp_t5, jp_t6, c0, ↓jp_bnd h2, es, ↓jp_bnd h3]
        exact ih (i, jp_sc (M 131) (M 133) (M 22) s i) ⟨by omega, by rw [eb]⟩
    · rw [if_neg (fun z => hh z.1)] at eb
      simp (disch := omega) only [↓jp_bs, ↓jp_b2s, ↓reduceIte, jw_up_a, Nat.reduceEqDiff, Int.reduceEq, Int.reduceLT, Int.reduceLE, Int.reduceAdd, Int.reduceSub, Int.reduceMul, Int.reduceNeg, jp_n9_1, jp_n9_8, jp_n9_15, jp_n9_21, jp_n9_24, jp_n10_1, jp_n10_2, jp_n10_3, jp_n10_4, jp_n10_5, jp_n10_6, jp_n17_1, jp_n17_2, jp_n17_3, jp_n17_4, jp_n17_5, jp_n17_6, jp_n24_1, jp_n24_2, jp_n24_3, jp_n24_4, jp_n24_5, jp_n30_1, jp_n30_2, jp_n33_1, jp_n33_2, false_and, true_and, and_true, and_false, and_self, ne_eq, not_true_eq_false, not_false_eq_true, jw_ws, jw_vs, jw_cmp_lt, jw_cmp_gt, jw_cmp_eq, jp_t1, jp_t2, jp_t3, jp_t4, jp_t5, jp_t6, c0, ↓jp_bnd h2]
      exact ih _ ⟨by omega, by rw [eb]⟩
  · intro k a hp
    obtain ⟨h0, rfl⟩ := hp
    show fX8_bestCorner_20 M (k + 1) s (jp_bc (M 131) (M 133) (M 22) s (M 131 0).toNat) _ (M 131 0) = _
    rw [fX8_bestCorner_20]
    simp (disch := omega) only [↓jp_bs, ↓jp_b2s, ↓reduceIte, jw_up_a, Nat.reduceEqDiff, Int.reduceEq, Int.reduceLT, Int.reduceLE, Int.reduceAdd, Int.reduceSub, Int.reduceMul, Int.reduceNeg, jp_n9_1, jp_n9_8, jp_n9_15, jp_n9_21, jp_n9_24, jp_n10_1, jp_n10_2, jp_n10_3, jp_n10_4, jp_n10_5, jp_n10_6, jp_n17_1, jp_n17_2, jp_n17_3, jp_n17_4, jp_n17_5, jp_n17_6, jp_n24_1, jp_n24_2, jp_n24_3, jp_n24_4, jp_n24_5, jp_n30_1, jp_n30_2, jp_n33_1, jp_n33_2, false_and, true_and, and_true, and_false, and_self, ne_eq, not_true_eq_false, not_false_eq_true, jw_ws, jw_vs, jw_cmp_lt, jw_cmp_gt, jw_cmp_eq, jp_t1, jp_t2, jp_t3, jp_t4, jp_t5, jp_t6, c0]
    rfl
theorem bX8_bestCorner {M : jw_M} (hA : jp_A M) (hD : jp_D M) (s : Int) (hs : 0 ≤ s ∧ s < M 131 3) (hP : ∀ q : Int, 0 ≤ q → q < M 131 3 → 0 ≤ M 22 q ∧ M 22 q < M 131 0) {be : Type} (kk : _ → Option be) : Option.bind (fX8_bestCorner s M) kk = kk ((jp_be (M 131) (M 133) (M 22) s)) := by rw [show fX8_bestCorner s M = some (jp_be (M 131) (M 133) (M 22) s) from gX8_bestCorner hA hD s hs hP]; rfl
theorem gX12_bestOf {M : jw_M} (hA : jp_A M) (hD : jp_D M) (s : Int) (hs : 0 ≤ s ∧ s < M 131 3) (hP : ∀ q : Int, 0 ≤ q → q < M 131 3 → 0 ≤ M 133 q ∧ M 133 q < M 131 0) : fX12_bestOf s M = some (jp_be (M 131) (M 133) (M 133) s) := by
  obtain ⟨⟨r0, r2, r3, r4, r5⟩, -⟩ := jp_A_r hA
  have hq := hP s hs.1 hs.2
  have h1 := gX12_scoreOf hA hD s (M 133 s) hs hq
  have hm := gX12_mayOf hA (M 131 (90 + s)) s hP
  have h7 := jp_mask_7 (jp_lw (M 131) (M 133) (M 131 (90 + s)) s) (i := M 131 0) (by omega)
  unfold fX12_bestOf
  simp (disch := omega) only [↓jp_bs, ↓jp_b2s, ↓reduceIte, jw_up_a, Nat.reduceEqDiff, Int.reduceEq, Int.reduceLT, Int.reduceLE, Int.reduceAdd, Int.reduceSub, Int.reduceMul, Int.reduceNeg, jp_n9_1, jp_n9_8, jp_n9_15, jp_n9_21, jp_n9_24, jp_n10_1, jp_n10_2, jp_n10_3, jp_n10_4, jp_n10_5, jp_n10_6, jp_n17_1, jp_n17_2, jp_n17_3, jp_n17_4, jp_n17_5, jp_n17_6, jp_n24_1, jp_n24_2, jp_n24_3, jp_n24_4, jp_n24_5, jp_n30_1, jp_n30_2, jp_n33_1, jp_n33_2, false_and, true_and, and_true, and_false, and_self, ne_eq, not_true_eq_false, not_false_eq_true, jw_ws, jw_vs, jw_cmp_lt, jw_cmp_gt, jw_cmp_eq, jp_t1, jp_t2, jp_t3, jp_t4, jp_t5, jp_t6, ↓jp_bnd hm, Int.zero_add, ↓jp_bnd h1]
  refine jp_up (fun k i (a : Int × Int) => fX12_bestOf_35 M k s (jp_mask (jp_lw (M 131) (M 133) (M 131 (90 + s)) s) (M 131 0).toNat) a.1 a.2 i) (M 131 0) (fun i a => 0 ≤ i ∧ a = (jp_bc (M 131) (M 133) (M 133) s i.toNat, jp_sc (M 131) (M 133) (M 133) s (jp_bc (M 131) (M 133) (M 133) s i.toNat))) (fun x => x = some (jp_be (M 131) (M 133) (M 133) s)) ?_ ?_ jw_fu 0 (M 133 s, jp_sc (M 131) (M 133) (M 133) s (M 133 s)) (by unfold jw_fu; omega) (by omega) ⟨by omega, rfl⟩
  · intro k i a hp hi ih
    obtain ⟨h0, rfl⟩ := hp
    have h2 := gX12_scoreOf hA hD s i hs ⟨h0, hi⟩
    have h3 := jp_mask_bit (jp_lw (M 131) (M 133) (M 131 (90 + s)) s) (M 131 0).toNat (by omega) i h0 (by omega)
    have h4 := jp_bit_i (x := jp_mask (jp_lw (M 131) (M 133) (M 131 (90 + s)) s) (M 131 0).toNat) (c := i) h7 (by omega)
    rw [h3] at h4
    show fX12_bestOf_35 M (k + 1) s _ (jp_bc (M 131) (M 133) (M 133) s i.toNat) (jp_sc (M 131) (M 133) (M 133) s (jp_bc (M 131) (M 133) (M 133) s i.toNat)) i = _
    rw [fX12_bestOf_35]
    unfold fX12_bestOf_79
    have eb := jp_bc_s (M 131) (M 133) (M 133) s h0
    cases el : jp_lw (M 131) (M 133) (M 131 (90 + s)) s i with
    | false =>
      rw [el, jp_01f] at h4
      rw [if_neg (by rw [el]; simp)] at eb
      simp (disch := omega) only [↓jp_bs, ↓jp_b2s, ↓reduceIte, jw_up_a, Nat.reduceEqDiff, Int.reduceEq, Int.reduceLT, Int.reduceLE, Int.reduceAdd, Int.reduceSub, Int.reduceMul, Int.reduceNeg, jp_n9_1, jp_n9_8, jp_n9_15, jp_n9_21, jp_n9_24, jp_n10_1, jp_n10_2, jp_n10_3, jp_n10_4, jp_n10_5, jp_n10_6, jp_n17_1, jp_n17_2, jp_n17_3, jp_n17_4, jp_n17_5, jp_n17_6, jp_n24_1, jp_n24_2, jp_n24_3, jp_n24_4, jp_n24_5, jp_n30_1, jp_n30_2, jp_n33_1, jp_n33_2, false_and, true_and, and_true, and_false, and_self, ne_eq, not_true_eq_false, not_false_eq_true, jw_ws, jw_vs, jw_cmp_lt, jw_cmp_gt, jw_cmp_eq, jp_t1, jp_t2, jp_t3, jp_t4, jp_t5, jp_t6, ↓jp_bnd h2, h4]
      exact ih _ ⟨by omega, by rw [eb]⟩
    | true =>
      rw [el, jp_01t] at h4
      by_cases hh : jp_sc (M 131) (M 133) (M 133) s (jp_bc (M 131) (M 133) (M 133) s i.toNat) < jp_sc (M 131) (M 133) (M 133) s i
      · rw [if_pos ⟨hh, el⟩] at eb
        simp (disch := omega) only [↓jp_bs, ↓jp_b2s, ↓reduceIte, jw_up_a, Nat.reduceEqDiff, Int.reduceEq, Int.reduceLT, Int.reduceLE, Int.reduceAdd, Int.reduceSub, Int.reduceMul, Int.reduceNeg, jp_n9_1, jp_n9_8, jp_n9_15, jp_n9_21, jp_n9_24, jp_n10_1, jp_n10_2, jp_n10_3, jp_n10_4, jp_n10_5, jp_n10_6, jp_n17_1, jp_n17_2, jp_n17_3, jp_n17_4, jp_n17_5, jp_n17_6, jp_n24_1, jp_n24_2, jp_n24_3, jp_n24_4, jp_n24_5, jp_n30_1, jp_n30_2, jp_n33_1, jp_n33_2, false_and, true_and, and_true, and_false, and_self, ne_eq, not_true_eq_false, not_false_eq_true, jw_ws, jw_vs, jw_cmp_lt, jw_cmp_gt, jw_cmp_eq, jp_t1, jp_t2, jp_t3, jp_t4, jp_t5, jp_t6, ↓jp_bnd h2, h4]
        exact ih (i, jp_sc (M 131) (M 133) (M 133) s i) ⟨by omega, by rw [eb]⟩
      · rw [if_neg (fun z => hh z.1)] at eb
        simp (disch := omega) only [↓jp_bs, ↓jp_b2s, ↓reduceIte, jw_up_a, Nat.reduceEqDiff, Int.reduceEq, Int.reduceLT, Int.reduceLE, Int.reduceAdd, Int.reduceSub, Int.reduceMul, Int.reduceNeg, jp_n9_1, jp_n9_8, jp_n9_15, jp_n9_21, jp_n9_24, jp_n10_1, jp_n10_2, jp_n10_3, jp_n10_4, jp_n10_5, jp_n10_6, jp_n17_1, jp_n17_2, jp_n17_3, jp_n17_4, jp_n17_5, jp_n17_6, jp_n24_1, jp_n24_2, jp_n24_3, jp_n24_4, jp_n24_5, jp_n30_1, jp_n30_2, jp_n33_1, jp_n33_2, false_and, true_and, and_true, and_false, and_self, ne_eq, not_true_eq_false, not_false_eq_true, jw_ws, jw_vs, jw_cmp_lt, jw_cmp_gt, jw_cmp_eq, jp_t1, jp_t2, jp_t3, jp_t4, jp_t5, jp_t6, ↓jp_bnd h2, h4]
        exact ih _ ⟨by omega, by rw [eb]⟩
  · intro k a hp
    obtain ⟨h0, rfl⟩ := hp
    show fX12_bestOf_35 M (k + 1) s _ (jp_bc (M 131) (M 133) (M 133) s (M 131 0).toNat) _ (M 131 0) = _
    rw [fX12_bestOf_35]
    simp (disch := omega) only [↓jp_bs, ↓jp_b2s, ↓reduceIte, jw_up_a, Nat.reduceEqDiff, Int.reduceEq, Int.reduceLT, Int.reduceLE, Int.reduceAdd, Int.reduceSub, Int.reduceMul, Int.reduceNeg, jp_n9_1, jp_n9_8, jp_n9_15, jp_n9_21, jp_n9_24, jp_n10_1, jp_n10_2, jp_n10_3, jp_n10_4, jp_n10_5, jp_n10_6, jp_n17_1, jp_n17_2, jp_n17_3, jp_n17_4, jp_n17_5, jp_n17_6, jp_n24_1, jp_n24_2, jp_n24_3, jp_n24_4, jp_n24_5, jp_n30_1, jp_n30_2, jp_n33_1, jp_n33_2, false_and, true_and, and_true, and_false, and_self, ne_eq, not_true_eq_false, not_false_eq_true, jw_ws, jw_vs, jw_cmp_lt, jw_cmp_gt, jw_cmp_eq, jp_t1, jp_t2, jp_t3, jp_t4, jp_t5, jp_t6]
    rfl
theorem bX12_bestOf {M : jw_M} (hA : jp_A M) (hD : jp_D M) (s : Int) (hs : 0 ≤ s ∧ s < M 131 3) (hP : ∀ q : Int, 0 ≤ q → q < M 131 3 → 0 ≤ M 133 q ∧ M 133 q < M 131 0) {be : Type} (kk : _ → Option be) : Option.bind (fX12_bestOf s M) kk = kk ((jp_be (M 131) (M 133) (M 133) s)) := by rw [show fX12_bestOf s M = some (jp_be (M 131) (M 133) (M 133) s) from gX12_bestOf hA hD s hs hP]; rfl
theorem gX8_allAtRest {M : jw_M} (hA : jp_A M) (hD : jp_D M) (hP : ∀ q : Int, 0 ≤ q → q < M 131 3 → 0 ≤ M 22 q ∧ M 22 q < M 131 0) : fX8_allAtRest M = some (jp_01 (jp_rs (M 131) (M 133) (M 22))) := by
  obtain ⟨⟨c0, c5, c8, -⟩, -, g4, g7⟩ := jp_A_c hA
  obtain ⟨⟨r0, r2, r3, r4, r5⟩, -⟩ := jp_A_r hA
  unfold fX8_allAtRest
  simp (disch := omega) only [↓jp_bs, ↓jp_b2s, ↓reduceIte, jw_up_a, Nat.reduceEqDiff, Int.reduceEq, Int.reduceLT, Int.reduceLE, Int.reduceAdd, Int.reduceSub, Int.reduceMul, Int.reduceNeg, jp_n9_1, jp_n9_8, jp_n9_15, jp_n9_21, jp_n9_24, jp_n10_1, jp_n10_2, jp_n10_3, jp_n10_4, jp_n10_5, jp_n10_6, jp_n17_1, jp_n17_2, jp_n17_3, jp_n17_4, jp_n17_5, jp_n17_6, jp_n24_1, jp_n24_2, jp_n24_3, jp_n24_4, jp_n24_5, jp_n30_1, jp_n30_2, jp_n33_1, jp_n33_2, false_and, true_and, and_true, and_false, and_self, ne_eq, not_true_eq_false, not_false_eq_true, jw_ws, jw_vs, jw_cmp_lt, jw_cmp_gt, jw_cmp_eq, jp_t1, jp_t2, jp_t3, jp_t4, jp_t5, jp_t6]
  refine jp_up (fun k i (_ : Unit) => fX8_allAtRest_2 M k i) (M 131 3) (fun i _ => 0 ≤ i ∧ jp_all (fun s => decide (jp_be (M 131) (M 133) (M 22) s = M 22 s)) i.toNat = true) (fun x => x = some (jp_01 (jp_rs (M 131) (M 133) (M 22)))) ?_ ?_ jw_fu 0 () (by unfold jw_fu; omega) (by omega) ⟨by omega, rfl⟩
  · intro k i _ hp hi ih
    obtain ⟨h0, h1⟩ := hp
    have h2 := gX8_bestCorner hA hD i ⟨h0, hi⟩ hP
    show fX8_allAtRest_2 _ _ _ = _
    rw [fX8_allAtRest_2]
    by_cases hh : jp_be (M 131) (M 133) (M 22) i = M 22 i
    · simp (disch := omega) only [↓jp_bs, ↓jp_b2s, ↓reduceIte, jw_up_a, Nat.reduceEqDiff, Int.reduceEq, Int.reduceLT, Int.reduceLE, Int.reduceAdd, Int.reduceSub, Int.reduceMul, Int.reduceNeg, jp_n9_1, jp_n9_8, jp_n9_15, jp_n9_21, jp_n9_24, jp_n10_1, jp_n10_2, jp_n10_3, jp_n10_4, jp_n10_5, jp_n10_6, jp_n17_1, jp_n17_2, jp_n17_3, jp_n17_4, jp_n17_5, jp_n17_6, jp_n24_1, jp_n24_2, jp_n24_3, jp_n24_4, jp_n24_5, jp_n30_1, jp_n30_2, jp_n33_1, jp_n33_2, false_and, true_and, and_true, and_false, and_self, ne_eq, not_true_eq_false, not_false_eq_true, jw_ws, jw_vs, jw_cmp_lt, jw_cmp_gt, jw_cmp_eq, jp_t1, jp_t2, jp_t3, jp_t4, jp_t5, jp_t6, g4, ↓jp_bnd h2]
      exact ih () ⟨by omega, by rw [jp_all_s _ h0, h1, decide_eq_true hh]; rfl⟩
    · simp (disch := omega) only [↓jp_bs, ↓jp_b2s, ↓reduceIte, jw_up_a, Nat.reduceEqDiff, Int.reduceEq, Int.reduceLT, Int.reduceLE, Int.reduceAdd, Int.reduceSub, Int.reduceMul, Int.reduceNeg, jp_n9_1, jp_n9_8, jp_n9_15, jp_n9_21, jp_n9_24, jp_n10_1, jp_n10_2, jp_n10_3, jp_n10_4, jp_n10_5, jp_n10_6, jp_n17_1, jp_n17_2, jp_n17_3, jp_n17_4, jp_n17_5, jp_n17_6, jp_n24_1, jp_n24_2, jp_n24_3, jp_n24_4, jp_n24_5, jp_n30_1, jp_n30_2, jp_n33_1, jp_n33_2, false_and, true_and, and_true, and_false, and_self, ne_eq, not_true_eq_false, not_false_eq_true, jw_ws, jw_vs, jw_cmp_lt, jw_cmp_gt, jw_cmp_eq, jp_t1, jp_t2, jp_t3, jp_t4, jp_t5, jp_t6, g4, ↓jp_bnd h2]
      unfold jp_rs
      rw [jp_all_f h0 (by omega) (decide_eq_false hh)]
      rfl
  · intro k _ hp
    show fX8_allAtRest_2 _ _ _ = _
    rw [fX8_allAtRest_2]
    simp (disch := omega) only [↓jp_bs, ↓jp_b2s, ↓reduceIte, jw_up_a, Nat.reduceEqDiff, Int.reduceEq, Int.reduceLT, Int.reduceLE, Int.reduceAdd, Int.reduceSub, Int.reduceMul, Int.reduceNeg, jp_n9_1, jp_n9_8, jp_n9_15, jp_n9_21, jp_n9_24, jp_n10_1, jp_n10_2, jp_n10_3, jp_n10_4, jp_n10_5, jp_n10_6, jp_n17_1, jp_n17_2, jp_n17_3, jp_n17_4, jp_n17_5, jp_n17_6, jp_n24_1, jp_n24_2, jp_n24_3, jp_n24_4, jp_n24_5, jp_n30_1, jp_n30_2, jp_n33_1, jp_n33_2, false_and, true_and, and_true, and_false, and_self, ne_eq, not_true_eq_false, not_false_eq_true, jw_ws, jw_vs, jw_cmp_lt, jw_cmp_gt, jw_cmp_eq, jp_t1, jp_t2, jp_t3, jp_t4, jp_t5, jp_t6, g4]
    unfold jp_rs
    rw [hp.2]
    rfl
theorem bX8_allAtRest {M : jw_M} (hA : jp_A M) (hD : jp_D M) (hP : ∀ q : Int, 0 ≤ q → q < M 131 3 → 0 ≤ M 22 q ∧ M 22 q < M 131 0) {be : Type} (kk : _ → Option be) : Option.bind (fX8_allAtRest M) kk = kk ((jp_01 (jp_rs (M 131) (M 133) (M 22)))) := by rw [show fX8_allAtRest M = some (jp_01 (jp_rs (M 131) (M 133) (M 22))) from gX8_allAtRest hA hD hP]; rfl
theorem gX12_areAtRest {M : jw_M} (hA : jp_A M) (hD : jp_D M) (hP : ∀ q : Int, 0 ≤ q → q < M 131 3 → 0 ≤ M 133 q ∧ M 133 q < M 131 0) : fX12_areAtRest M = some (jp_01 (jp_rs (M 131) (M 133) (M 133))) := by
  obtain ⟨⟨r0, r2, r3, r4, r5⟩, -⟩ := jp_A_r hA
  unfold fX12_areAtRest
  simp (disch := omega) only [↓jp_bs, ↓jp_b2s, ↓reduceIte, jw_up_a, Nat.reduceEqDiff, Int.reduceEq, Int.reduceLT, Int.reduceLE, Int.reduceAdd, Int.reduceSub, Int.reduceMul, Int.reduceNeg, jp_n9_1, jp_n9_8, jp_n9_15, jp_n9_21, jp_n9_24, jp_n10_1, jp_n10_2, jp_n10_3, jp_n10_4, jp_n10_5, jp_n10_6, jp_n17_1, jp_n17_2, jp_n17_3, jp_n17_4, jp_n17_5, jp_n17_6, jp_n24_1, jp_n24_2, jp_n24_3, jp_n24_4, jp_n24_5, jp_n30_1, jp_n30_2, jp_n33_1, jp_n33_2, false_and, true_and, and_true, and_false, and_self, ne_eq, not_true_eq_false, not_false_eq_true, jw_ws, jw_vs, jw_cmp_lt, jw_cmp_gt, jw_cmp_eq, jp_t1, jp_t2, jp_t3, jp_t4, jp_t5, jp_t6]
  have out : ∀ (k : Nat) (i : Int), 0 ≤ i → i ≤ M 131 3 → jp_rs (M 131) (M 133) (M 133) = false → fX12_areAtRest_4 M (k + 1) 0 i = some (jp_01 (jp_rs (M 131) (M 133) (M 133))) := by
    intro k i h0 h1 h
    rw [fX12_areAtRest_4, h, jp_01f]
    simp
  refine jp_up (fun k i (_ : Unit) => fX12_areAtRest_4 M (k + 1) 1 i) (M 131 3) (fun i _ => 0 ≤ i ∧ jp_all (fun s => decide (jp_be (M 131) (M 133) (M 133) s = M 133 s)) i.toNat = true) (fun x => x = some (jp_01 (jp_rs (M 131) (M 133) (M 133)))) ?_ ?_ 99999 0 () (by omega) (by omega) ⟨by omega, rfl⟩
  · intro k i _ hp hi ih
    obtain ⟨h0, h1⟩ := hp
    have h2 := gX12_bestOf hA hD i ⟨h0, hi⟩ hP
    show fX12_areAtRest_4 _ _ _ _ = _
    rw [fX12_areAtRest_4]
    unfold fX12_areAtRest_39
    by_cases hh : jp_be (M 131) (M 133) (M 133) i = M 133 i
    · simp (disch := omega) only [↓jp_bs, ↓jp_b2s, ↓reduceIte, jw_up_a, Nat.reduceEqDiff, Int.reduceEq, Int.reduceLT, Int.reduceLE, Int.reduceAdd, Int.reduceSub, Int.reduceMul, Int.reduceNeg, jp_n9_1, jp_n9_8, jp_n9_15, jp_n9_21, jp_n9_24, jp_n10_1, jp_n10_2, jp_n10_3, jp_n10_4, jp_n10_5, jp_n10_6, jp_n17_1, jp_n17_2, jp_n17_3, jp_n17_4, jp_n17_5, jp_n17_6, jp_n24_1, jp_n24_2, jp_n24_3, jp_n24_4, jp_n24_5, jp_n30_1, jp_n30_2, jp_n33_1, jp_n33_2, false_and, true_and, and_true, and_false, and_self, ne_eq, not_true_eq_false, not_false_eq_true, jw_ws, jw_vs, jw_cmp_lt, jw_cmp_gt, jw_cmp_eq, jp_t1, jp_t2, jp_t3, jp_t4, jp_t5, jp_t6, ↓jp_bnd h2, Int.zero_add]
      exact ih () ⟨by omega, by rw [jp_all_s _ h0, h1, decide_eq_true hh]; rfl⟩
    · simp (disch := omega) only [↓jp_bs, ↓jp_b2s, ↓reduceIte, jw_up_a, Nat.reduceEqDiff, Int.reduceEq, Int.reduceLT, Int.reduceLE, Int.reduceAdd, Int.reduceSub, Int.reduceMul, Int.reduceNeg, jp_n9_1, jp_n9_8, jp_n9_15, jp_n9_21, jp_n9_24, jp_n10_1, jp_n10_2, jp_n10_3, jp_n10_4, jp_n10_5, jp_n10_6, jp_n17_1, jp_n17_2, jp_n17_3, jp_n17_4, jp_n17_5, jp_n17_6, jp_n24_1, jp_n24_2, jp_n24_3, jp_n24_4, jp_n24_5, jp_n30_1, jp_n30_2, jp_n33_1, jp_n33_2, false_and, true_and, and_true, and_false, and_self, ne_eq, not_true_eq_false, not_false_eq_true, jw_ws, jw_vs, jw_cmp_lt, jw_cmp_gt, jw_cmp_eq, jp_t1, jp_t2, jp_t3, jp_t4, jp_t5, jp_t6, ↓jp_bnd h2, Int.zero_add]
      exact out k (i + 1) (by omega) (by omega) (jp_all_f h0 (by omega) (decide_eq_false hh))
  · intro k _ hp
    show fX12_areAtRest_4 _ _ _ _ = _
    rw [fX12_areAtRest_4]
    simp (disch := omega) only [↓jp_bs, ↓jp_b2s, ↓reduceIte, jw_up_a, Nat.reduceEqDiff, Int.reduceEq, Int.reduceLT, Int.reduceLE, Int.reduceAdd, Int.reduceSub, Int.reduceMul, Int.reduceNeg, jp_n9_1, jp_n9_8, jp_n9_15, jp_n9_21, jp_n9_24, jp_n10_1, jp_n10_2, jp_n10_3, jp_n10_4, jp_n10_5, jp_n10_6, jp_n17_1, jp_n17_2, jp_n17_3, jp_n17_4, jp_n17_5, jp_n17_6, jp_n24_1, jp_n24_2, jp_n24_3, jp_n24_4, jp_n24_5, jp_n30_1, jp_n30_2, jp_n33_1, jp_n33_2, false_and, true_and, and_true, and_false, and_self, ne_eq, not_true_eq_false, not_false_eq_true, jw_ws, jw_vs, jw_cmp_lt, jw_cmp_gt, jw_cmp_eq, jp_t1, jp_t2, jp_t3, jp_t4, jp_t5, jp_t6]
    unfold jp_rs
    rw [hp.2]
    simp [jp_01]
theorem bX12_areAtRest {M : jw_M} (hA : jp_A M) (hD : jp_D M) (hP : ∀ q : Int, 0 ≤ q → q < M 131 3 → 0 ≤ M 133 q ∧ M 133 q < M 131 0) {be : Type} (kk : _ → Option be) : Option.bind (fX12_areAtRest M) kk = kk ((jp_01 (jp_rs (M 131) (M 133) (M 133)))) := by rw [show fX12_areAtRest M = some (jp_01 (jp_rs (M 131) (M 133) (M 133))) from gX12_areAtRest hA hD hP]; rfl
theorem jp_score {M : jw_M} (h : jp_inv M) (s c : Int) : jp_ok1 (fX11_score s c M) M (fX12_score s c) := by
  have hA := jp_inv_A h
  have hA1 := jp_A_th hA 0 0
  have hB := jp_inv_B h
  have hD := jp_inv_D h
  have hD1 := jp_D_th hD 0 0
  obtain ⟨⟨c0, -⟩, -, g4, -⟩ := jp_A_c hA
  obtain ⟨⟨r0, r2, r3, r4, r5⟩, -⟩ := jp_A_r hA
  by_cases h1 : 0 ≤ s ∧ s < M 131 3
  · by_cases h2 : 0 ≤ c ∧ c < M 131 0
    · have hx := gX8_scoreAt hA hD s c h1 h2
      rw [jp_sc_e r3.1 (fun j _ _ => rfl) hD.1.1 (fun q a b => (hB.1 q a b).1) s c] at hx
      have hy : fX12_scoreOf s c (jw_up M 127 0 0) = some (jp_sc (M 131) (M 133) (M 133) s c) := gX12_scoreOf hA1 hD1 s c h1 h2
      refine ⟨jp_sc (M 131) (M 133) (M 133) s c, _, ?_, ?_, jp_th h 0⟩
      · unfold fX11_score
        simp (disch := omega) only [↓jp_bs, ↓jp_b2s, ↓reduceIte, jw_up_a, Nat.reduceEqDiff, Int.reduceEq, Int.reduceLT, Int.reduceLE, Int.reduceAdd, Int.reduceSub, Int.reduceMul, Int.reduceNeg, jp_n9_1, jp_n9_8, jp_n9_15, jp_n9_21, jp_n9_24, jp_n10_1, jp_n10_2, jp_n10_3, jp_n10_4, jp_n10_5, jp_n10_6, jp_n17_1, jp_n17_2, jp_n17_3, jp_n17_4, jp_n17_5, jp_n17_6, jp_n24_1, jp_n24_2, jp_n24_3, jp_n24_4, jp_n24_5, jp_n30_1, jp_n30_2, jp_n33_1, jp_n33_2, false_and, true_and, and_true, and_false, and_self, ne_eq, not_true_eq_false, not_false_eq_true, jw_ws, jw_vs, jw_cmp_lt, jw_cmp_gt, jw_cmp_eq, jp_t1, jp_t2, jp_t3, jp_t4, jp_t5, jp_t6, ↓bX10_isSeller, ↓bX9_isCorner, c0, g4, ↓jp_bnd hx]
      · unfold fX12_score
        simp (disch := omega) only [↓jp_bs, ↓jp_b2s, ↓reduceIte, jw_up_a, Nat.reduceEqDiff, Int.reduceEq, Int.reduceLT, Int.reduceLE, Int.reduceAdd, Int.reduceSub, Int.reduceMul, Int.reduceNeg, jp_n9_1, jp_n9_8, jp_n9_15, jp_n9_21, jp_n9_24, jp_n10_1, jp_n10_2, jp_n10_3, jp_n10_4, jp_n10_5, jp_n10_6, jp_n17_1, jp_n17_2, jp_n17_3, jp_n17_4, jp_n17_5, jp_n17_6, jp_n24_1, jp_n24_2, jp_n24_3, jp_n24_4, jp_n24_5, jp_n30_1, jp_n30_2, jp_n33_1, jp_n33_2, false_and, true_and, and_true, and_false, and_self, ne_eq, not_true_eq_false, not_false_eq_true, jw_ws, jw_vs, jw_cmp_lt, jw_cmp_gt, jw_cmp_eq, jp_t1, jp_t2, jp_t3, jp_t4, jp_t5, jp_t6, ↓bX12_isSeller hA1, ↓bX12_isCorner hA1, ↓jp_bnd hy]
    · refine ⟨-9000000000000000001, _, ?_, ?_, jp_th h 0⟩
      · unfold fX11_score
        simp (disch := omega) only [↓jp_bs, ↓jp_b2s, ↓reduceIte, jw_up_a, Nat.reduceEqDiff, Int.reduceEq, Int.reduceLT, Int.reduceLE, Int.reduceAdd, Int.reduceSub, Int.reduceMul, Int.reduceNeg, jp_n9_1, jp_n9_8, jp_n9_15, jp_n9_21, jp_n9_24, jp_n10_1, jp_n10_2, jp_n10_3, jp_n10_4, jp_n10_5, jp_n10_6, jp_n17_1, jp_n17_2, jp_n17_3, jp_n17_4, jp_n17_5, jp_n17_6, jp_n24_1, jp_n24_2, jp_n24_3, jp_n24_4, jp_n24_5, jp_n30_1, jp_n30_2, jp_n33_1, jp_n33_2, false_and, true_and, and_true, and_false, and_self, ne_eq, not_true_eq_false, not_false_eq_true, jw_ws, jw_vs, jw_cmp_lt, jw_cmp_gt, jw_cmp_eq, jp_t1, jp_t2, jp_t3, jp_t4, jp_t5, jp_t6, ↓bX10_isSeller, ↓bX9_isCorner, c0, g4]
      · unfold fX12_score
        simp (disch := omega) only [↓jp_bs, ↓jp_b2s, ↓reduceIte, jw_up_a, Nat.reduceEqDiff, Int.reduceEq, Int.reduceLT, Int.reduceLE, Int.reduceAdd, Int.reduceSub, Int.reduceMul, Int.reduceNeg, jp_n9_1, jp_n9_8, jp_n9_15, jp_n9_21, jp_n9_24, jp_n10_1, jp_n10_2, jp_n10_3, jp_n10_4, jp_n10_5, jp_n10_6, jp_n17_1, jp_n17_2, jp_n17_3, jp_n17_4, jp_n17_5, jp_n17_6, jp_n24_1, jp_n24_2, jp_n24_3, jp_n24_4, jp_n24_5, jp_n30_1, jp_n30_2, jp_n33_1, jp_n33_2, false_and, true_and, and_true, and_false, and_self, ne_eq, not_true_eq_false, not_false_eq_true, jw_ws, jw_vs, jw_cmp_lt, jw_cmp_gt, jw_cmp_eq, jp_t1, jp_t2, jp_t3, jp_t4, jp_t5, jp_t6, ↓bX12_isSeller hA1, ↓bX12_isCorner hA1]
  · refine ⟨-9000000000000000001, _, ?_, ?_, jp_th h 0⟩
    · unfold fX11_score
      simp (disch := omega) only [↓jp_bs, ↓jp_b2s, ↓reduceIte, jw_up_a, Nat.reduceEqDiff, Int.reduceEq, Int.reduceLT, Int.reduceLE, Int.reduceAdd, Int.reduceSub, Int.reduceMul, Int.reduceNeg, jp_n9_1, jp_n9_8, jp_n9_15, jp_n9_21, jp_n9_24, jp_n10_1, jp_n10_2, jp_n10_3, jp_n10_4, jp_n10_5, jp_n10_6, jp_n17_1, jp_n17_2, jp_n17_3, jp_n17_4, jp_n17_5, jp_n17_6, jp_n24_1, jp_n24_2, jp_n24_3, jp_n24_4, jp_n24_5, jp_n30_1, jp_n30_2, jp_n33_1, jp_n33_2, false_and, true_and, and_true, and_false, and_self, ne_eq, not_true_eq_false, not_false_eq_true, jw_ws, jw_vs, jw_cmp_lt, jw_cmp_gt, jw_cmp_eq, jp_t1, jp_t2, jp_t3, jp_t4, jp_t5, jp_t6, ↓bX10_isSeller, ↓bX9_isCorner, c0, g4]
    · unfold fX12_score
      simp (disch := omega) only [↓jp_bs, ↓jp_b2s, ↓reduceIte, jw_up_a, Nat.reduceEqDiff, Int.reduceEq, Int.reduceLT, Int.reduceLE, Int.reduceAdd, Int.reduceSub, Int.reduceMul, Int.reduceNeg, jp_n9_1, jp_n9_8, jp_n9_15, jp_n9_21, jp_n9_24, jp_n10_1, jp_n10_2, jp_n10_3, jp_n10_4, jp_n10_5, jp_n10_6, jp_n17_1, jp_n17_2, jp_n17_3, jp_n17_4, jp_n17_5, jp_n17_6, jp_n24_1, jp_n24_2, jp_n24_3, jp_n24_4, jp_n24_5, jp_n30_1, jp_n30_2, jp_n33_1, jp_n33_2, false_and, true_and, and_true, and_false, and_self, ne_eq, not_true_eq_false, not_false_eq_true, jw_ws, jw_vs, jw_cmp_lt, jw_cmp_gt, jw_cmp_eq, jp_t1, jp_t2, jp_t3, jp_t4, jp_t5, jp_t6, ↓bX12_isSeller hA1, ↓bX12_isCorner hA1]
theorem jp_lm_e {T P P' : Int → Int} (h3 : 0 ≤ T 3) (hP : ∀ q : Int, 0 ≤ q → q < T 3 → P' q = P q) (g b : Int) (n : Nat) : jp_mask (jp_lw T P' g b) n = jp_mask (jp_lw T P g b) n := jp_mask_c n (fun i _ _ => jp_lw_e h3 hP g b i)
theorem jp_may {M : jw_M} (h : jp_inv M) (s : Int) : jp_ok1 (fX11_may s M) M (fX12_may s) := by
  have hA := jp_inv_A h
  have hA1 := jp_A_th hA 0 0
  have hB := jp_inv_B h
  obtain ⟨⟨c0, -⟩, -, g4, -⟩ := jp_A_c hA
  obtain ⟨⟨r0, r2, r3, r4, r5⟩, -⟩ := jp_A_r hA
  by_cases h1 : 0 ≤ s ∧ s < M 131 3
  · have es := (jp_gof hA h1).1
    have hx := gX8_lawfulCorners hA (M 131 (90 + s)) s (fun q a b => by have := hB.1 q a b; omega)
    rw [jp_lm_e r3.1 (fun q a b => (hB.1 q a b).1)] at hx
    have hy : fX12_mayOf (M 131 (90 + s)) s (jw_up M 127 0 0) = some (jp_mask (jp_lw (M 131) (M 133) (M 131 (90 + s)) s) (M 131 0).toNat) := gX12_mayOf hA1 (M 131 (90 + s)) s (fun q a b => (hB.1 q a b).2)
    refine ⟨jp_mask (jp_lw (M 131) (M 133) (M 131 (90 + s)) s) (M 131 0).toNat, _, ?_, ?_, jp_th h 0⟩
    · unfold fX11_may
      simp (disch := omega) only [↓jp_bs, ↓jp_b2s, ↓reduceIte, jw_up_a, Nat.reduceEqDiff, Int.reduceEq, Int.reduceLT, Int.reduceLE, Int.reduceAdd, Int.reduceSub, Int.reduceMul, Int.reduceNeg, jp_n9_1, jp_n9_8, jp_n9_15, jp_n9_21, jp_n9_24, jp_n10_1, jp_n10_2, jp_n10_3, jp_n10_4, jp_n10_5, jp_n10_6, jp_n17_1, jp_n17_2, jp_n17_3, jp_n17_4, jp_n17_5, jp_n17_6, jp_n24_1, jp_n24_2, jp_n24_3, jp_n24_4, jp_n24_5, jp_n30_1, jp_n30_2, jp_n33_1, jp_n33_2, false_and, true_and, and_true, and_false, and_self, ne_eq, not_true_eq_false, not_false_eq_true, jw_ws, jw_vs, jw_cmp_lt, jw_cmp_gt, jw_cmp_eq, jp_t1, jp_t2, jp_t3, jp_t4, jp_t5, jp_t6, ↓bX10_isSeller, g4, es, ↓jp_bnd hx]
    · unfold fX12_may
      simp (disch := omega) only [↓jp_bs, ↓jp_b2s, ↓reduceIte, jw_up_a, Nat.reduceEqDiff, Int.reduceEq, Int.reduceLT, Int.reduceLE, Int.reduceAdd, Int.reduceSub, Int.reduceMul, Int.reduceNeg, jp_n9_1, jp_n9_8, jp_n9_15, jp_n9_21, jp_n9_24, jp_n10_1, jp_n10_2, jp_n10_3, jp_n10_4, jp_n10_5, jp_n10_6, jp_n17_1, jp_n17_2, jp_n17_3, jp_n17_4, jp_n17_5, jp_n17_6, jp_n24_1, jp_n24_2, jp_n24_3, jp_n24_4, jp_n24_5, jp_n30_1, jp_n30_2, jp_n33_1, jp_n33_2, false_and, true_and, and_true, and_false, and_self, ne_eq, not_true_eq_false, not_false_eq_true, jw_ws, jw_vs, jw_cmp_lt, jw_cmp_gt, jw_cmp_eq, jp_t1, jp_t2, jp_t3, jp_t4, jp_t5, jp_t6, ↓bX12_isSeller hA1, ↓jp_bnd hy]
  · refine ⟨-9000000000000000001, _, ?_, ?_, jp_th h 0⟩
    · unfold fX11_may
      simp (disch := omega) only [↓jp_bs, ↓jp_b2s, ↓reduceIte, jw_up_a, Nat.reduceEqDiff, Int.reduceEq, Int.reduceLT, Int.reduceLE, Int.reduceAdd, Int.reduceSub, Int.reduceMul, Int.reduceNeg, jp_n9_1, jp_n9_8, jp_n9_15, jp_n9_21, jp_n9_24, jp_n10_1, jp_n10_2, jp_n10_3, jp_n10_4, jp_n10_5, jp_n10_6, jp_n17_1, jp_n17_2, jp_n17_3, jp_n17_4, jp_n17_5, jp_n17_6, jp_n24_1, jp_n24_2, jp_n24_3, jp_n24_4, jp_n24_5, jp_n30_1, jp_n30_2, jp_n33_1, jp_n33_2, false_and, true_and, and_true, and_false, and_self, ne_eq, not_true_eq_false, not_false_eq_true, jw_ws, jw_vs, jw_cmp_lt, jw_cmp_gt, jw_cmp_eq, jp_t1, jp_t2, jp_t3, jp_t4, jp_t5, jp_t6, ↓bX10_isSeller, g4]
    · unfold fX12_may
      simp (disch := omega) only [↓jp_bs, ↓jp_b2s, ↓reduceIte, jw_up_a, Nat.reduceEqDiff, Int.reduceEq, Int.reduceLT, Int.reduceLE, Int.reduceAdd, Int.reduceSub, Int.reduceMul, Int.reduceNeg, jp_n9_1, jp_n9_8, jp_n9_15, jp_n9_21, jp_n9_24, jp_n10_1, jp_n10_2, jp_n10_3, jp_n10_4, jp_n10_5, jp_n10_6, jp_n17_1, jp_n17_2, jp_n17_3, jp_n17_4, jp_n17_5, jp_n17_6, jp_n24_1, jp_n24_2, jp_n24_3, jp_n24_4, jp_n24_5, jp_n30_1, jp_n30_2, jp_n33_1, jp_n33_2, false_and, true_and, and_true, and_false, and_self, ne_eq, not_true_eq_false, not_false_eq_true, jw_ws, jw_vs, jw_cmp_lt, jw_cmp_gt, jw_cmp_eq, jp_t1, jp_t2, jp_t3, jp_t4, jp_t5, jp_t6, ↓bX12_isSeller hA1]
theorem jp_newcomer {M : jw_M} (h : jp_inv M) (g : Int) : jp_ok1 (fX11_newcomer g M) M (fX12_newcomer g) := by
  have hA := jp_inv_A h
  have hA1 := jp_A_th hA 0 0
  have hB := jp_inv_B h
  obtain ⟨⟨c0, -⟩, g0, g4, -⟩ := jp_A_c hA
  obtain ⟨⟨r0, r2, r3, r4, r5⟩, -⟩ := jp_A_r hA
  by_cases h1 : 0 ≤ g ∧ g < M 131 2
  · have hx := gX8_lawfulCorners hA g (-1) (fun q a b => by have := hB.1 q a b; omega)
    rw [jp_lm_e r3.1 (fun q a b => (hB.1 q a b).1)] at hx
    have hy : fX12_mayOf g (-1000000) (jw_up M 127 0 0) = some (jp_mask (jp_lw (M 131) (M 133) g (-1000000)) (M 131 0).toNat) := gX12_mayOf hA1 g (-1000000) (fun q a b => (hB.1 q a b).2)
    have e : jp_mask (jp_lw (M 131) (M 133) g (-1000000)) (M 131 0).toNat = jp_mask (jp_lw (M 131) (M 133) g (-1)) (M 131 0).toNat := by
      refine jp_mask_c _ (fun i _ _ => jp_all_c _ (fun q a b => ?_))
      unfold jp_lp
      rw [decide_eq_false (by omega : ¬ q = -1000000), decide_eq_false (by omega : ¬ q = -1)]
    rw [e] at hy
    refine ⟨jp_mask (jp_lw (M 131) (M 133) g (-1)) (M 131 0).toNat, _, ?_, ?_, jp_th h 0⟩
    · unfold fX11_newcomer
      simp (disch := omega) only [↓jp_bs, ↓jp_b2s, ↓reduceIte, jw_up_a, Nat.reduceEqDiff, Int.reduceEq, Int.reduceLT, Int.reduceLE, Int.reduceAdd, Int.reduceSub, Int.reduceMul, Int.reduceNeg, jp_n9_1, jp_n9_8, jp_n9_15, jp_n9_21, jp_n9_24, jp_n10_1, jp_n10_2, jp_n10_3, jp_n10_4, jp_n10_5, jp_n10_6, jp_n17_1, jp_n17_2, jp_n17_3, jp_n17_4, jp_n17_5, jp_n17_6, jp_n24_1, jp_n24_2, jp_n24_3, jp_n24_4, jp_n24_5, jp_n30_1, jp_n30_2, jp_n33_1, jp_n33_2, false_and, true_and, and_true, and_false, and_self, ne_eq, not_true_eq_false, not_false_eq_true, jw_ws, jw_vs, jw_cmp_lt, jw_cmp_gt, jw_cmp_eq, jp_t1, jp_t2, jp_t3, jp_t4, jp_t5, jp_t6, ↓bX10_isGoods, g0, ↓jp_bnd hx]
    · unfold fX12_newcomer
      simp (disch := omega) only [↓jp_bs, ↓jp_b2s, ↓reduceIte, jw_up_a, Nat.reduceEqDiff, Int.reduceEq, Int.reduceLT, Int.reduceLE, Int.reduceAdd, Int.reduceSub, Int.reduceMul, Int.reduceNeg, jp_n9_1, jp_n9_8, jp_n9_15, jp_n9_21, jp_n9_24, jp_n10_1, jp_n10_2, jp_n10_3, jp_n10_4, jp_n10_5, jp_n10_6, jp_n17_1, jp_n17_2, jp_n17_3, jp_n17_4, jp_n17_5, jp_n17_6, jp_n24_1, jp_n24_2, jp_n24_3, jp_n24_4, jp_n24_5, jp_n30_1, jp_n30_2, jp_n33_1, jp_n33_2, false_and, true_and, and_true, and_false, and_self, ne_eq, not_true_eq_false, not_false_eq_true, jw_ws, jw_vs, jw_cmp_lt, jw_cmp_gt, jw_cmp_eq, jp_t1, jp_t2, jp_t3, jp_t4, jp_t5, jp_t6, ↓bX12_in, ↓jp_bnd hy]
  · refine ⟨-9000000000000000001, _, ?_, ?_, jp_th h 0⟩
    · unfold fX11_newcomer
      simp (disch := omega) only [↓jp_bs, ↓jp_b2s, ↓reduceIte, jw_up_a, Nat.reduceEqDiff, Int.reduceEq, Int.reduceLT, Int.reduceLE, Int.reduceAdd, Int.reduceSub, Int.reduceMul, Int.reduceNeg, jp_n9_1, jp_n9_8, jp_n9_15, jp_n9_21, jp_n9_24, jp_n10_1, jp_n10_2, jp_n10_3, jp_n10_4, jp_n10_5, jp_n10_6, jp_n17_1, jp_n17_2, jp_n17_3, jp_n17_4, jp_n17_5, jp_n17_6, jp_n24_1, jp_n24_2, jp_n24_3, jp_n24_4, jp_n24_5, jp_n30_1, jp_n30_2, jp_n33_1, jp_n33_2, false_and, true_and, and_true, and_false, and_self, ne_eq, not_true_eq_false, not_false_eq_true, jw_ws, jw_vs, jw_cmp_lt, jw_cmp_gt, jw_cmp_eq, jp_t1, jp_t2, jp_t3, jp_t4, jp_t5, jp_t6, ↓bX10_isGoods, g0]
    · unfold fX12_newcomer
      simp (disch := omega) only [↓jp_bs, ↓jp_b2s, ↓reduceIte, jw_up_a, Nat.reduceEqDiff, Int.reduceEq, Int.reduceLT, Int.reduceLE, Int.reduceAdd, Int.reduceSub, Int.reduceMul, Int.reduceNeg, jp_n9_1, jp_n9_8, jp_n9_15, jp_n9_21, jp_n9_24, jp_n10_1, jp_n10_2, jp_n10_3, jp_n10_4, jp_n10_5, jp_n10_6, jp_n17_1, jp_n17_2, jp_n17_3, jp_n17_4, jp_n17_5, jp_n17_6, jp_n24_1, jp_n24_2, jp_n24_3, jp_n24_4, jp_n24_5, jp_n30_1, jp_n30_2, jp_n33_1, jp_n33_2, false_and, true_and, and_true, and_false, and_self, ne_eq, not_true_eq_false, not_false_eq_true, jw_ws, jw_vs, jw_cmp_lt, jw_cmp_gt, jw_cmp_eq, jp_t1, jp_t2, jp_t3, jp_t4, jp_t5, jp_t6, ↓bX12_in]
theorem jp_rest {M : jw_M} (h : jp_inv M) : jp_ok1 (fX11_rest M) M fX12_rest := by
  have hA := jp_inv_A h
  have hA1 := jp_A_th hA 0 0
  have hB := jp_inv_B h
  have hD := jp_inv_D h
  have hD1 := jp_D_th hD 0 0
  obtain ⟨⟨r0, r2, r3, r4, r5⟩, -⟩ := jp_A_r hA
  obtain ⟨p1, p2⟩ := h.2.2.2.2.1.1
  by_cases hp : M 127 7 = 0
  · refine ⟨-9000000000000000002, _, ?_, ?_, jp_th h 0⟩
    · unfold fX11_rest
      simp (disch := omega) only [↓jp_bs, ↓jp_b2s, ↓reduceIte, jw_up_a, Nat.reduceEqDiff, Int.reduceEq, Int.reduceLT, Int.reduceLE, Int.reduceAdd, Int.reduceSub, Int.reduceMul, Int.reduceNeg, jp_n9_1, jp_n9_8, jp_n9_15, jp_n9_21, jp_n9_24, jp_n10_1, jp_n10_2, jp_n10_3, jp_n10_4, jp_n10_5, jp_n10_6, jp_n17_1, jp_n17_2, jp_n17_3, jp_n17_4, jp_n17_5, jp_n17_6, jp_n24_1, jp_n24_2, jp_n24_3, jp_n24_4, jp_n24_5, jp_n30_1, jp_n30_2, jp_n33_1, jp_n33_2, false_and, true_and, and_true, and_false, and_self, ne_eq, not_true_eq_false, not_false_eq_true, jw_ws, jw_vs, jw_cmp_lt, jw_cmp_gt, jw_cmp_eq, jp_t1, jp_t2, jp_t3, jp_t4, jp_t5, jp_t6]
    · unfold fX12_rest
      simp (disch := omega) only [↓jp_bs, ↓jp_b2s, ↓reduceIte, jw_up_a, Nat.reduceEqDiff, Int.reduceEq, Int.reduceLT, Int.reduceLE, Int.reduceAdd, Int.reduceSub, Int.reduceMul, Int.reduceNeg, jp_n9_1, jp_n9_8, jp_n9_15, jp_n9_21, jp_n9_24, jp_n10_1, jp_n10_2, jp_n10_3, jp_n10_4, jp_n10_5, jp_n10_6, jp_n17_1, jp_n17_2, jp_n17_3, jp_n17_4, jp_n17_5, jp_n17_6, jp_n24_1, jp_n24_2, jp_n24_3, jp_n24_4, jp_n24_5, jp_n30_1, jp_n30_2, jp_n33_1, jp_n33_2, false_and, true_and, and_true, and_false, and_self, ne_eq, not_true_eq_false, not_false_eq_true, jw_ws, jw_vs, jw_cmp_lt, jw_cmp_gt, jw_cmp_eq, jp_t1, jp_t2, jp_t3, jp_t4, jp_t5, jp_t6]
  · have hx := gX8_allAtRest hA hD (fun q a b => by have := hB.1 q a b; omega)
    rw [jp_rs_e r3.1 (fun j _ _ => rfl) hD.1.1 (fun q a b => (hB.1 q a b).1)] at hx
    have hy : fX12_areAtRest (jw_up M 127 0 0) = some (jp_01 (jp_rs (M 131) (M 133) (M 133))) := gX12_areAtRest hA1 hD1 (fun q a b => (hB.1 q a b).2)
    refine ⟨jp_01 (jp_rs (M 131) (M 133) (M 133)), _, ?_, ?_, jp_th h 0⟩
    · unfold fX11_rest
      simp (disch := omega) only [↓jp_bs, ↓jp_b2s, ↓reduceIte, jw_up_a, Nat.reduceEqDiff, Int.reduceEq, Int.reduceLT, Int.reduceLE, Int.reduceAdd, Int.reduceSub, Int.reduceMul, Int.reduceNeg, jp_n9_1, jp_n9_8, jp_n9_15, jp_n9_21, jp_n9_24, jp_n10_1, jp_n10_2, jp_n10_3, jp_n10_4, jp_n10_5, jp_n10_6, jp_n17_1, jp_n17_2, jp_n17_3, jp_n17_4, jp_n17_5, jp_n17_6, jp_n24_1, jp_n24_2, jp_n24_3, jp_n24_4, jp_n24_5, jp_n30_1, jp_n30_2, jp_n33_1, jp_n33_2, false_and, true_and, and_true, and_false, and_self, ne_eq, not_true_eq_false, not_false_eq_true, jw_ws, jw_vs, jw_cmp_lt, jw_cmp_gt, jw_cmp_eq, jp_t1, jp_t2, jp_t3, jp_t4, jp_t5, jp_t6, ↓jp_bnd hx]
      rcases jp_01r (jp_rs (M 131) (M 133) (M 133)) with e | e <;> rw [e] <;> rfl
    · unfold fX12_rest
      simp (disch := omega) only [↓jp_bs, ↓jp_b2s, ↓reduceIte, jw_up_a, Nat.reduceEqDiff, Int.reduceEq, Int.reduceLT, Int.reduceLE, Int.reduceAdd, Int.reduceSub, Int.reduceMul, Int.reduceNeg, jp_n9_1, jp_n9_8, jp_n9_15, jp_n9_21, jp_n9_24, jp_n10_1, jp_n10_2, jp_n10_3, jp_n10_4, jp_n10_5, jp_n10_6, jp_n17_1, jp_n17_2, jp_n17_3, jp_n17_4, jp_n17_5, jp_n17_6, jp_n24_1, jp_n24_2, jp_n24_3, jp_n24_4, jp_n24_5, jp_n30_1, jp_n30_2, jp_n33_1, jp_n33_2, false_and, true_and, and_true, and_false, and_self, ne_eq, not_true_eq_false, not_false_eq_true, jw_ws, jw_vs, jw_cmp_lt, jw_cmp_gt, jw_cmp_eq, jp_t1, jp_t2, jp_t3, jp_t4, jp_t5, jp_t6, ↓jp_bnd hy]
      rcases jp_01r (jp_rs (M 131) (M 133) (M 133)) with e | e <;> rw [e] <;> rfl
