/-! count, keep -/
theorem jp_sum_z (f : Int → Int) (m : Nat) : ∀ n : Nat, m ≤ n → (∀ i : Int, (m : Int) ≤ i → i < (n : Int) → f i = 0) → jp_sum f n = jp_sum f m := by
  intro n
  induction n with
  | zero => intro h _; rw [show m = 0 by omega]
  | succ n ih =>
    intro h hz
    by_cases e : m = n + 1
    · rw [e]
    · rw [jp_sum, ih (by omega) (fun i p q => hz i p (by omega)), hz (n : Int) (by omega) (by omega)]
      omega
def jp_rw (M : jw_M) (i : Int) : Int := if M 128 i < 0 then 0 else 1
theorem jp_rw_b (M : jw_M) (i : Int) (h0 : 0 ≤ i) (h1 : i ≤ 8) : 0 ≤ jp_sum (jp_rw M) i.toNat ∧ jp_sum (jp_rw M) i.toNat ≤ 8 := by
  have hb := jp_sum_b (jp_rw M) 0 1 i.toNat (fun j p q => by unfold jp_rw; split <;> omega)
  omega
theorem gX6_howMany {M : jw_M} (h : jp_rowsI M) : fX6_howMany M = some (jp_sum (jp_rw M) 8) := by
  unfold fX6_howMany
  simp (disch := omega) only [↓jp_bs, ↓jp_b2s, ↓reduceIte, jw_up_a, Nat.reduceEqDiff, Int.reduceEq, Int.reduceLT, Int.reduceLE, Int.reduceAdd, Int.reduceSub, Int.reduceMul, Int.reduceNeg, jp_n9_1, jp_n9_8, jp_n9_15, jp_n9_21, jp_n9_24, jp_n10_1, jp_n10_2, jp_n10_3, jp_n10_4, jp_n10_5, jp_n10_6, jp_n17_1, jp_n17_2, jp_n17_3, jp_n17_4, jp_n17_5, jp_n17_6, jp_n24_1, jp_n24_2, jp_n24_3, jp_n24_4, jp_n24_5, jp_n30_1, jp_n30_2, jp_n33_1, jp_n33_2, false_and, true_and, and_true, and_false, and_self, ne_eq, not_true_eq_false, not_false_eq_true, jw_ws, jw_vs, jw_cmp_lt, jw_cmp_gt, jw_cmp_eq, jp_t1, jp_t2, jp_t3, jp_t4, jp_t5, jp_t6]
  refine jp_up (fun k i a => fX6_howMany_4 M k a i) 8 (fun i a => 0 ≤ i ∧ a = jp_sum (jp_rw M) i.toNat) (fun x => x = some (jp_sum (jp_rw M) 8)) ?_ ?_ jw_fu 0 0 (by unfold jw_fu; omega) (by omega) ⟨by omega, rfl⟩
  · intro k i a hp hi ih
    obtain ⟨h0, rfl⟩ := hp
    have q1 := jp_rw_b M i h0 (by omega)
    have q2 := h.1 i h0 hi
    show fX6_howMany_4 _ _ _ _ = _
    rw [fX6_howMany_4]
    unfold fX6_howMany_21
    by_cases hh : M 128 i < 0
    · have e : jp_rw M i = 0 := if_pos hh
      simp (disch := omega) only [↓jp_bs, ↓jp_b2s, ↓reduceIte, jw_up_a, Nat.reduceEqDiff, Int.reduceEq, Int.reduceLT, Int.reduceLE, Int.reduceAdd, Int.reduceSub, Int.reduceMul, Int.reduceNeg, jp_n9_1, jp_n9_8, jp_n9_15, jp_n9_21, jp_n9_24, jp_n10_1, jp_n10_2, jp_n10_3, jp_n10_4, jp_n10_5, jp_n10_6, jp_n17_1, jp_n17_2, jp_n17_3, jp_n17_4, jp_n17_5, jp_n17_6, jp_n24_1, jp_n24_2, jp_n24_3, jp_n24_4, jp_n24_5, jp_n30_1, jp_n30_2, jp_n33_1, jp_n33_2, false_and, true_and, and_true, and_false, and_self, ne_eq, not_true_eq_false, not_false_eq_true, jw_ws, jw_vs, jw_cmp_lt, jw_cmp_gt, jw_cmp_eq, jp_t1, jp_t2, jp_t3, jp_t4, jp_t5, jp_t6, ↓bX6_isMissing]
      exact ih _ ⟨by omega, by rw [jp_sum_s _ h0, e]; omega⟩
    · have e : jp_rw M i = 1 := if_neg hh
      simp (disch := omega) only [↓jp_bs, ↓jp_b2s, ↓reduceIte, jw_up_a, Nat.reduceEqDiff, Int.reduceEq, Int.reduceLT, Int.reduceLE, Int.reduceAdd, Int.reduceSub, Int.reduceMul, Int.reduceNeg, jp_n9_1, jp_n9_8, jp_n9_15, jp_n9_21, jp_n9_24, jp_n10_1, jp_n10_2, jp_n10_3, jp_n10_4, jp_n10_5, jp_n10_6, jp_n17_1, jp_n17_2, jp_n17_3, jp_n17_4, jp_n17_5, jp_n17_6, jp_n24_1, jp_n24_2, jp_n24_3, jp_n24_4, jp_n24_5, jp_n30_1, jp_n30_2, jp_n33_1, jp_n33_2, false_and, true_and, and_true, and_false, and_self, ne_eq, not_true_eq_false, not_false_eq_true, jw_ws, jw_vs, jw_cmp_lt, jw_cmp_gt, jw_cmp_eq, jp_t1, jp_t2, jp_t3, jp_t4, jp_t5, jp_t6, ↓bX6_isMissing]
      exact ih _ ⟨by omega, by rw [jp_sum_s _ h0, e]⟩
  · intro k a hp
    obtain ⟨h0, rfl⟩ := hp
    show fX6_howMany_4 _ _ _ _ = _
    rw [fX6_howMany_4]
    simp (disch := omega) only [↓jp_bs, ↓jp_b2s, ↓reduceIte, jw_up_a, Nat.reduceEqDiff, Int.reduceEq, Int.reduceLT, Int.reduceLE, Int.reduceAdd, Int.reduceSub, Int.reduceMul, Int.reduceNeg, jp_n9_1, jp_n9_8, jp_n9_15, jp_n9_21, jp_n9_24, jp_n10_1, jp_n10_2, jp_n10_3, jp_n10_4, jp_n10_5, jp_n10_6, jp_n17_1, jp_n17_2, jp_n17_3, jp_n17_4, jp_n17_5, jp_n17_6, jp_n24_1, jp_n24_2, jp_n24_3, jp_n24_4, jp_n24_5, jp_n30_1, jp_n30_2, jp_n33_1, jp_n33_2, false_and, true_and, and_true, and_false, and_self, ne_eq, not_true_eq_false, not_false_eq_true, jw_ws, jw_vs, jw_cmp_lt, jw_cmp_gt, jw_cmp_eq, jp_t1, jp_t2, jp_t3, jp_t4, jp_t5, jp_t6]
    rfl
theorem bX6_howMany {M : jw_M} (h : jp_rowsI M) {be : Type} (kk : _ → Option be) : Option.bind (fX6_howMany M) kk = kk ((jp_sum (jp_rw M) 8)) := by rw [show fX6_howMany M = some (jp_sum (jp_rw M) 8) from gX6_howMany h]; rfl
theorem gX12_count_62 (M : jw_M) : fX12_count_62 jw_fu 0 0 M = some (jp_sum (jp_rw M) 8, M) := by
  refine jp_up (fun k i a => fX12_count_62 k a i M) 8 (fun i a => 0 ≤ i ∧ a = jp_sum (jp_rw M) i.toNat) (fun x => x = some (jp_sum (jp_rw M) 8, M)) ?_ ?_ jw_fu 0 0 (by unfold jw_fu; omega) (by omega) ⟨by omega, rfl⟩
  · intro k i a hp hi ih
    obtain ⟨h0, rfl⟩ := hp
    have q1 := jp_rw_b M i h0 (by omega)
    show fX12_count_62 _ _ _ _ = _
    rw [fX12_count_62]
    unfold fX12_count_83
    by_cases hh : M 128 i < 0
    · have e : jp_rw M i = 0 := if_pos hh
      simp (disch := omega) only [↓jp_bs, ↓jp_b2s, ↓reduceIte, jw_up_a, Nat.reduceEqDiff, Int.reduceEq, Int.reduceLT, Int.reduceLE, Int.reduceAdd, Int.reduceSub, Int.reduceMul, Int.reduceNeg, jp_n9_1, jp_n9_8, jp_n9_15, jp_n9_21, jp_n9_24, jp_n10_1, jp_n10_2, jp_n10_3, jp_n10_4, jp_n10_5, jp_n10_6, jp_n17_1, jp_n17_2, jp_n17_3, jp_n17_4, jp_n17_5, jp_n17_6, jp_n24_1, jp_n24_2, jp_n24_3, jp_n24_4, jp_n24_5, jp_n30_1, jp_n30_2, jp_n33_1, jp_n33_2, false_and, true_and, and_true, and_false, and_self, ne_eq, not_true_eq_false, not_false_eq_true, jw_ws, jw_vs, jw_cmp_lt, jw_cmp_gt, jw_cmp_eq, jp_t1, jp_t2, jp_t3, jp_t4, jp_t5, jp_t6]
      exact ih _ ⟨by omega, by rw [jp_sum_s _ h0, e]⟩
    · have e : jp_rw M i = 1 := if_neg hh
      simp (disch := omega) only [↓jp_bs, ↓jp_b2s, ↓reduceIte, jw_up_a, Nat.reduceEqDiff, Int.reduceEq, Int.reduceLT, Int.reduceLE, Int.reduceAdd, Int.reduceSub, Int.reduceMul, Int.reduceNeg, jp_n9_1, jp_n9_8, jp_n9_15, jp_n9_21, jp_n9_24, jp_n10_1, jp_n10_2, jp_n10_3, jp_n10_4, jp_n10_5, jp_n10_6, jp_n17_1, jp_n17_2, jp_n17_3, jp_n17_4, jp_n17_5, jp_n17_6, jp_n24_1, jp_n24_2, jp_n24_3, jp_n24_4, jp_n24_5, jp_n30_1, jp_n30_2, jp_n33_1, jp_n33_2, false_and, true_and, and_true, and_false, and_self, ne_eq, not_true_eq_false, not_false_eq_true, jw_ws, jw_vs, jw_cmp_lt, jw_cmp_gt, jw_cmp_eq, jp_t1, jp_t2, jp_t3, jp_t4, jp_t5, jp_t6]
      exact ih _ ⟨by omega, by rw [jp_sum_s _ h0, e]⟩
  · intro k a hp
    obtain ⟨h0, rfl⟩ := hp
    show fX12_count_62 _ _ _ _ = _
    rw [fX12_count_62]
    simp (disch := omega) only [↓jp_bs, ↓jp_b2s, ↓reduceIte, jw_up_a, Nat.reduceEqDiff, Int.reduceEq, Int.reduceLT, Int.reduceLE, Int.reduceAdd, Int.reduceSub, Int.reduceMul, Int.reduceNeg, jp_n9_1, jp_n9_8, jp_n9_15, jp_n9_21, jp_n9_24, jp_n10_1, jp_n10_2, jp_n10_3, jp_n10_4, jp_n10_5, jp_n10_6, jp_n17_1, jp_n17_2, jp_n17_3, jp_n17_4, jp_n17_5, jp_n17_6, jp_n24_1, jp_n24_2, jp_n24_3, jp_n24_4, jp_n24_5, jp_n30_1, jp_n30_2, jp_n33_1, jp_n33_2, false_and, true_and, and_true, and_false, and_self, ne_eq, not_true_eq_false, not_false_eq_true, jw_ws, jw_vs, jw_cmp_lt, jw_cmp_gt, jw_cmp_eq, jp_t1, jp_t2, jp_t3, jp_t4, jp_t5, jp_t6]
    rfl
theorem bX12_count_62 (M : jw_M) {be : Type} (kk : Int → jw_M → Option be) : jw_b2 (fX12_count_62 jw_fu 0 0 M) kk = kk (jp_sum (jp_rw M) 8) (M) := by rw [show fX12_count_62 jw_fu 0 0 M = some (jp_sum (jp_rw M) 8, M) from gX12_count_62 M]; rfl
def jp_pr (T : Int → Int) (a b : Int) : Int := if a < b ∧ 0 < T (14 + 7 * a + b) then 1 else 0
theorem jp_pr_r (T : Int → Int) (a b : Int) : 0 ≤ jp_pr T a b ∧ jp_pr T a b ≤ 1 := by
  unfold jp_pr
  split <;> omega
theorem gX9_pairsWithStreet {M : jw_M} (hA : jp_A M) : fX9_pairsWithStreet (9 + 1) M = some (jp_sum (fun a => jp_sum (jp_pr (M 131) a) 7) 7) := by
  obtain ⟨⟨c0, -⟩, -, g4, g7⟩ := jp_A_c hA
  obtain ⟨⟨r0, r2, r3, r4, r5⟩, -, rq, -⟩ := jp_A_r hA
  have c1 : M (9 + 1) 0 = M 131 0 := c0
  have hz : ∀ a b : Int, 0 ≤ a → a < 7 → 0 ≤ b → b < 7 → (M 131 0 ≤ a ∨ M 131 0 ≤ b) → jp_pr (M 131) a b = 0 := by
    intro a b a1 a2 b1 b2 o
    have := (hA.1.2.2.2.1 a b a1 a2 b1 b2).2.2.2 (Or.inr o)
    unfold jp_pr
    rw [if_neg (by omega)]
  have hrow : ∀ a : Int, 0 ≤ a → a < 7 → jp_sum (jp_pr (M 131) a) (M 131 0).toNat = jp_sum (jp_pr (M 131) a) 7 := by
    intro a a1 a2
    exact (jp_sum_z _ _ 7 (by omega) (fun b b1 b2 => hz a b a1 a2 (by omega) (by omega) (Or.inr (by omega)))).symm
  have hcol : jp_sum (fun a => jp_sum (jp_pr (M 131) a) 7) (M 131 0).toNat = jp_sum (fun a => jp_sum (jp_pr (M 131) a) 7) 7 := by
    refine (jp_sum_z _ _ 7 (by omega) (fun a a1 a2 => ?_)).symm
    exact jp_sum_z (jp_pr (M 131) a) 0 7 (by omega) (fun b b1 b2 => hz a b (by omega) (by omega) (by omega) (by omega) (Or.inl (by omega)))
  have hin : ∀ a : Int, 0 ≤ a → jp_sum (jp_pr (M 131) a) (a + 1).toNat = 0 := by
    intro a a1
    exact jp_sum_z (jp_pr (M 131) a) 0 (a + 1).toNat (by omega) (fun b b1 b2 => by unfold jp_pr; rw [if_neg (by omega)])
  have hb1 : ∀ a i : Int, 0 ≤ i → i ≤ 7 → 0 ≤ jp_sum (jp_pr (M 131) a) i.toNat ∧ jp_sum (jp_pr (M 131) a) i.toNat ≤ 7 := by
    intro a i h0 h1
    have hb := jp_sum_b (jp_pr (M 131) a) 0 1 i.toNat (fun j p q => jp_pr_r _ _ _)
    omega
  have hb2 : ∀ i : Int, 0 ≤ i → i ≤ 7 → 0 ≤ jp_sum (fun a => jp_sum (jp_pr (M 131) a) 7) i.toNat ∧ jp_sum (fun a => jp_sum (jp_pr (M 131) a) 7) i.toNat ≤ 49 := by
    intro i h0 h1
    have hb := jp_sum_b (fun a => jp_sum (jp_pr (M 131) a) 7) 0 7 i.toNat (fun j p q => hb1 j 7 (by omega) (by omega))
    omega
  unfold fX9_pairsWithStreet
  rw [if_pos (by decide)]
  simp only [Option.bind_some]
  refine jp_up (fun k i a => fX9_pairsWithStreet_4 (9 + 1) M k a i) (M 131 0) (fun i a => 0 ≤ i ∧ a = jp_sum (fun a => jp_sum (jp_pr (M 131) a) 7) i.toNat) (fun x => x = some (jp_sum (fun a => jp_sum (jp_pr (M 131) a) 7) 7)) ?_ ?_ jw_fu 0 0 (by unfold jw_fu; omega) (by omega) ⟨by omega, rfl⟩
  · intro k i a hp hi ih
    obtain ⟨h0, rfl⟩ := hp
    have q1 := hb2 i h0 (by omega)
    show fX9_pairsWithStreet_4 _ _ _ _ _ = _
    rw [fX9_pairsWithStreet_4]
    simp (disch := omega) only [↓jp_bs, ↓jp_b2s, ↓reduceIte, jw_up_a, Nat.reduceEqDiff, Int.reduceEq, Int.reduceLT, Int.reduceLE, Int.reduceAdd, Int.reduceSub, Int.reduceMul, Int.reduceNeg, false_and, true_and, and_true, and_false, and_self, ne_eq, not_true_eq_false, not_false_eq_true, jw_ws, jw_vs, jw_cmp_lt, jw_cmp_gt, jw_cmp_eq, jp_t1, jp_t2, jp_t3, jp_t4, jp_t5, jp_t6, c1]
    refine jp_up (fun k j a => fX9_pairsWithStreet_16 (9 + 1) M (fX9_pairsWithStreet_4 (9 + 1) M _) k a i j) (M 131 0) (fun j a => i < j ∧ a = jp_sum (fun a => jp_sum (jp_pr (M 131) a) 7) i.toNat + jp_sum (jp_pr (M 131) i) j.toNat) (fun x => x = some (jp_sum (fun a => jp_sum (jp_pr (M 131) a) 7) 7)) ?_ ?_ jw_fu (i + 1) _ (by unfold jw_fu; omega) (by omega) ⟨by omega, by rw [hin i h0]; omega⟩
    · intro k2 j a hp hj ih2
      obtain ⟨h1, rfl⟩ := hp
      have q2 := hb1 i j (by omega) (by omega)
      show fX9_pairsWithStreet_16 _ _ _ _ _ _ _ = _
      rw [fX9_pairsWithStreet_16]
      unfold fX9_pairsWithStreet_36
      by_cases hh : 0 < M 131 (14 + 7 * i + j)
      · have e : jp_pr (M 131) i j = 1 := if_pos ⟨h1, hh⟩
        simp (disch := omega) only [↓jp_bs, ↓jp_b2s, ↓reduceIte, jw_up_a, Nat.reduceEqDiff, Int.reduceEq, Int.reduceLT, Int.reduceLE, Int.reduceAdd, Int.reduceSub, Int.reduceMul, Int.reduceNeg, false_and, true_and, and_true, and_false, and_self, ne_eq, not_true_eq_false, not_false_eq_true, jw_ws, jw_vs, jw_cmp_lt, jw_cmp_gt, jw_cmp_eq, jp_t1, jp_t2, jp_t3, jp_t4, jp_t5, jp_t6, c1, ↓bX9_streetTo hA]
        exact ih2 _ ⟨by omega, by rw [jp_sum_s _ (by omega : 0 ≤ j), e]; omega⟩
      · have e : jp_pr (M 131) i j = 0 := if_neg (fun z => hh z.2)
        simp (disch := omega) only [↓jp_bs, ↓jp_b2s, ↓reduceIte, jw_up_a, Nat.reduceEqDiff, Int.reduceEq, Int.reduceLT, Int.reduceLE, Int.reduceAdd, Int.reduceSub, Int.reduceMul, Int.reduceNeg, false_and, true_and, and_true, and_false, and_self, ne_eq, not_true_eq_false, not_false_eq_true, jw_ws, jw_vs, jw_cmp_lt, jw_cmp_gt, jw_cmp_eq, jp_t1, jp_t2, jp_t3, jp_t4, jp_t5, jp_t6, c1, ↓bX9_streetTo hA]
        exact ih2 _ ⟨by omega, by rw [jp_sum_s _ (by omega : 0 ≤ j), e]; omega⟩
    · intro k2 a hp
      obtain ⟨h1, rfl⟩ := hp
      show fX9_pairsWithStreet_16 _ _ _ _ _ _ _ = _
      rw [fX9_pairsWithStreet_16]
      simp (disch := omega) only [↓jp_bs, ↓jp_b2s, ↓reduceIte, jw_up_a, Nat.reduceEqDiff, Int.reduceEq, Int.reduceLT, Int.reduceLE, Int.reduceAdd, Int.reduceSub, Int.reduceMul, Int.reduceNeg, false_and, true_and, and_true, and_false, and_self, ne_eq, not_true_eq_false, not_false_eq_true, jw_ws, jw_vs, jw_cmp_lt, jw_cmp_gt, jw_cmp_eq, jp_t1, jp_t2, jp_t3, jp_t4, jp_t5, jp_t6, c1]
      exact ih _ ⟨by omega, by rw [jp_sum_s _ h0, hrow i h0 (by omega)]⟩
  · intro k a hp
    obtain ⟨h0, rfl⟩ := hp
    show fX9_pairsWithStreet_4 _ _ _ _ _ = _
    rw [fX9_pairsWithStreet_4]
    simp (disch := omega) only [↓jp_bs, ↓jp_b2s, ↓reduceIte, jw_up_a, Nat.reduceEqDiff, Int.reduceEq, Int.reduceLT, Int.reduceLE, Int.reduceAdd, Int.reduceSub, Int.reduceMul, Int.reduceNeg, false_and, true_and, and_true, and_false, and_self, ne_eq, not_true_eq_false, not_false_eq_true, jw_ws, jw_vs, jw_cmp_lt, jw_cmp_gt, jw_cmp_eq, jp_t1, jp_t2, jp_t3, jp_t4, jp_t5, jp_t6, c1]
    rw [hcol]
theorem bX9_pairsWithStreet {M : jw_M} (hA : jp_A M) {be : Type} (kk : _ → Option be) : Option.bind (fX9_pairsWithStreet (9 + 1) M) kk = kk ((jp_sum (fun a => jp_sum (jp_pr (M 131) a) 7) 7)) := by rw [show fX9_pairsWithStreet (9 + 1) M = some (jp_sum (fun a => jp_sum (jp_pr (M 131) a) 7) 7) from gX9_pairsWithStreet hA]; rfl
def jp_pk (T : Int → Int) (k : Int) : Int := jp_pr T (k / 7) (k % 7)
theorem jp_pk7 (T : Int → Int) : jp_sum (jp_pk T) 49 = jp_sum (fun a => jp_sum (jp_pr T a) 7) 7 := by
  simp only [jp_sum, jp_pk]
  simp only [Int.reduceDiv, Int.reduceMod, Int.natCast_zero, Int.natCast_one, Int.cast_ofNat_Int]
  omega
theorem gX12_count_104 (M : jw_M) : fX12_count_104 jw_fu 0 0 M = some (jp_sum (fun a => jp_sum (jp_pr (M 131) a) 7) 7, M) := by
  rw [← jp_pk7]
  refine jp_up (fun k i a => fX12_count_104 k a i M) 49 (fun i a => 0 ≤ i ∧ a = jp_sum (jp_pk (M 131)) i.toNat) (fun x => x = some (jp_sum (jp_pk (M 131)) 49, M)) ?_ ?_ jw_fu 0 0 (by unfold jw_fu; omega) (by omega) ⟨by omega, rfl⟩
  · intro k i a hp hi ih
    obtain ⟨h0, rfl⟩ := hp
    have q1 := jp_sum_b (jp_pk (M 131)) 0 1 i.toNat (fun j p q => jp_pr_r _ _ _)
    have t1 : Int.tdiv i 7 = i / 7 := Int.tdiv_eq_ediv_of_nonneg h0
    have t2 : Int.tmod i 7 = i % 7 := Int.tmod_eq_emod_of_nonneg h0
    have t3 : 14 + 7 * (i / 7) + i % 7 = 14 + i := by omega
    show fX12_count_104 _ _ _ _ = _
    rw [fX12_count_104]
    unfold fX12_count_138 fX12_count_139
    by_cases h1 : i / 7 < i % 7
    · by_cases hh : 0 < M 131 (14 + i)
      · have e : jp_pk (M 131) i = 1 := by unfold jp_pk jp_pr; rw [t3, if_pos ⟨h1, hh⟩]
        simp (disch := omega) only [↓jp_bs, ↓jp_b2s, ↓reduceIte, jw_up_a, Nat.reduceEqDiff, Int.reduceEq, Int.reduceLT, Int.reduceLE, Int.reduceAdd, Int.reduceSub, Int.reduceMul, Int.reduceNeg, jp_n9_1, jp_n9_8, jp_n9_15, jp_n9_21, jp_n9_24, jp_n10_1, jp_n10_2, jp_n10_3, jp_n10_4, jp_n10_5, jp_n10_6, jp_n17_1, jp_n17_2, jp_n17_3, jp_n17_4, jp_n17_5, jp_n17_6, jp_n24_1, jp_n24_2, jp_n24_3, jp_n24_4, jp_n24_5, jp_n30_1, jp_n30_2, jp_n33_1, jp_n33_2, false_and, true_and, and_true, and_false, and_self, ne_eq, not_true_eq_false, not_false_eq_true, jw_ws, jw_vs, jw_cmp_lt, jw_cmp_gt, jw_cmp_eq, jp_t1, jp_t2, jp_t3, jp_t4, jp_t5, jp_t6, t1, t2]
        exact ih _ ⟨by omega, by rw [jp_sum_s _ h0, e]⟩
      · have e : jp_pk (M 131) i = 0 := by unfold jp_pk jp_pr; rw [t3, if_neg (fun z => hh z.2)]
        simp (disch := omega) only [↓jp_bs, ↓jp_b2s, ↓reduceIte, jw_up_a, Nat.reduceEqDiff, Int.reduceEq, Int.reduceLT, Int.reduceLE, Int.reduceAdd, Int.reduceSub, Int.reduceMul, Int.reduceNeg, jp_n9_1, jp_n9_8, jp_n9_15, jp_n9_21, jp_n9_24, jp_n10_1, jp_n10_2, jp_n10_3, jp_n10_4, jp_n10_5, jp_n10_6, jp_n17_1, jp_n17_2, jp_n17_3, jp_n17_4, jp_n17_5, jp_n17_6, jp_n24_1, jp_n24_2, jp_n24_3, jp_n24_4, jp_n24_5, jp_n30_1, jp_n30_2, jp_n33_1, jp_n33_2, false_and, true_and, and_true, and_false, and_self, ne_eq, not_true_eq_false, not_false_eq_true, jw_ws, jw_vs, jw_cmp_lt, jw_cmp_gt, jw_cmp_eq, jp_t1, jp_t2, jp_t3, jp_t4, jp_t5, jp_t6, t1, t2]
        exact ih _ ⟨by omega, by rw [jp_sum_s _ h0, e]⟩
    · have e : jp_pk (M 131) i = 0 := by unfold jp_pk jp_pr; rw [t3, if_neg (fun z => h1 z.1)]
      simp (disch := omega) only [↓jp_bs, ↓jp_b2s, ↓reduceIte, jw_up_a, Nat.reduceEqDiff, Int.reduceEq, Int.reduceLT, Int.reduceLE, Int.reduceAdd, Int.reduceSub, Int.reduceMul, Int.reduceNeg, jp_n9_1, jp_n9_8, jp_n9_15, jp_n9_21, jp_n9_24, jp_n10_1, jp_n10_2, jp_n10_3, jp_n10_4, jp_n10_5, jp_n10_6, jp_n17_1, jp_n17_2, jp_n17_3, jp_n17_4, jp_n17_5, jp_n17_6, jp_n24_1, jp_n24_2, jp_n24_3, jp_n24_4, jp_n24_5, jp_n30_1, jp_n30_2, jp_n33_1, jp_n33_2, false_and, true_and, and_true, and_false, and_self, ne_eq, not_true_eq_false, not_false_eq_true, jw_ws, jw_vs, jw_cmp_lt, jw_cmp_gt, jw_cmp_eq, jp_t1, jp_t2, jp_t3, jp_t4, jp_t5, jp_t6, t1, t2]
      exact ih _ ⟨by omega, by rw [jp_sum_s _ h0, e]⟩
  · intro k a hp
    obtain ⟨h0, rfl⟩ := hp
    show fX12_count_104 _ _ _ _ = _
    rw [fX12_count_104]
    simp (disch := omega) only [↓jp_bs, ↓jp_b2s, ↓reduceIte, jw_up_a, Nat.reduceEqDiff, Int.reduceEq, Int.reduceLT, Int.reduceLE, Int.reduceAdd, Int.reduceSub, Int.reduceMul, Int.reduceNeg, jp_n9_1, jp_n9_8, jp_n9_15, jp_n9_21, jp_n9_24, jp_n10_1, jp_n10_2, jp_n10_3, jp_n10_4, jp_n10_5, jp_n10_6, jp_n17_1, jp_n17_2, jp_n17_3, jp_n17_4, jp_n17_5, jp_n17_6, jp_n24_1, jp_n24_2, jp_n24_3, jp_n24_4, jp_n24_5, jp_n30_1, jp_n30_2, jp_n33_1, jp_n33_2, false_and, true_and, and_true, and_false, and_self, ne_eq, not_true_eq_false, not_false_eq_true, jw_ws, jw_vs, jw_cmp_lt, jw_cmp_gt, jw_cmp_eq, jp_t1, jp_t2, jp_t3, jp_t4, jp_t5, jp_t6]
    rfl
theorem bX12_count_104 (M : jw_M) {be : Type} (kk : Int → jw_M → Option be) : jw_b2 (fX12_count_104 jw_fu 0 0 M) kk = kk (jp_sum (fun a => jp_sum (jp_pr (M 131) a) 7) 7) (M) := by rw [show fX12_count_104 jw_fu 0 0 M = some (jp_sum (fun a => jp_sum (jp_pr (M 131) a) 7) 7, M) from gX12_count_104 M]; rfl
theorem jp_count_0 {M : jw_M} (h : jp_inv M) : jp_ok1 (fX11_count 0 M) M (fX12_count 0) := by
  have hA := jp_inv_A h
  have hD := jp_inv_D h
  obtain ⟨⟨c0, c5, -⟩, g0, g4, g7⟩ := jp_A_c hA
  obtain ⟨⟨r0, r2, r3, r4, r5⟩, -, rq, -⟩ := jp_A_r hA
  have d11 := hD.2.2.2.2.2.2.2.2.2.2.1
  refine ⟨jp_sum (jp_rw M) 8, _, ?_, ?_, jp_th h 0⟩
  · unfold fX11_count
    simp (disch := omega) only [↓jp_bs, ↓jp_b2s, ↓reduceIte, jw_up_a, Nat.reduceEqDiff, Int.reduceEq, Int.reduceLT, Int.reduceLE, Int.reduceAdd, Int.reduceSub, Int.reduceMul, Int.reduceNeg, jp_n9_1, jp_n9_8, jp_n9_15, jp_n9_21, jp_n9_24, jp_n10_1, jp_n10_2, jp_n10_3, jp_n10_4, jp_n10_5, jp_n10_6, jp_n17_1, jp_n17_2, jp_n17_3, jp_n17_4, jp_n17_5, jp_n17_6, jp_n24_1, jp_n24_2, jp_n24_3, jp_n24_4, jp_n24_5, jp_n30_1, jp_n30_2, jp_n33_1, jp_n33_2, false_and, true_and, and_true, and_false, and_self, ne_eq, not_true_eq_false, not_false_eq_true, jw_ws, jw_vs, jw_cmp_lt, jw_cmp_gt, jw_cmp_eq, jp_t1, jp_t2, jp_t3, jp_t4, jp_t5, jp_t6, ↓bX6_howMany h.1]
  · unfold fX12_count
    simp (disch := omega) only [↓jp_bs, ↓jp_b2s, ↓reduceIte, jw_up_a, Nat.reduceEqDiff, Int.reduceEq, Int.reduceLT, Int.reduceLE, Int.reduceAdd, Int.reduceSub, Int.reduceMul, Int.reduceNeg, jp_n9_1, jp_n9_8, jp_n9_15, jp_n9_21, jp_n9_24, jp_n10_1, jp_n10_2, jp_n10_3, jp_n10_4, jp_n10_5, jp_n10_6, jp_n17_1, jp_n17_2, jp_n17_3, jp_n17_4, jp_n17_5, jp_n17_6, jp_n24_1, jp_n24_2, jp_n24_3, jp_n24_4, jp_n24_5, jp_n30_1, jp_n30_2, jp_n33_1, jp_n33_2, false_and, true_and, and_true, and_false, and_self, ne_eq, not_true_eq_false, not_false_eq_true, jw_ws, jw_vs, jw_cmp_lt, jw_cmp_gt, jw_cmp_eq, jp_t1, jp_t2, jp_t3, jp_t4, jp_t5, jp_t6, gX12_count_62, show jp_rw (jw_up M 127 0 0) = jp_rw M from by funext i; rfl]
theorem jp_count_1 {M : jw_M} (h : jp_inv M) : jp_ok1 (fX11_count 1 M) M (fX12_count 1) := by
  have hA := jp_inv_A h
  have hD := jp_inv_D h
  obtain ⟨⟨c0, c5, -⟩, g0, g4, g7⟩ := jp_A_c hA
  obtain ⟨⟨r0, r2, r3, r4, r5⟩, -, rq, -⟩ := jp_A_r hA
  have d11 := hD.2.2.2.2.2.2.2.2.2.2.1
  refine ⟨M 131 0, _, ?_, ?_, jp_th h 0⟩
  · unfold fX11_count
    simp (disch := omega) only [↓jp_bs, ↓jp_b2s, ↓reduceIte, jw_up_a, Nat.reduceEqDiff, Int.reduceEq, Int.reduceLT, Int.reduceLE, Int.reduceAdd, Int.reduceSub, Int.reduceMul, Int.reduceNeg, jp_n9_1, jp_n9_8, jp_n9_15, jp_n9_21, jp_n9_24, jp_n10_1, jp_n10_2, jp_n10_3, jp_n10_4, jp_n10_5, jp_n10_6, jp_n17_1, jp_n17_2, jp_n17_3, jp_n17_4, jp_n17_5, jp_n17_6, jp_n24_1, jp_n24_2, jp_n24_3, jp_n24_4, jp_n24_5, jp_n30_1, jp_n30_2, jp_n33_1, jp_n33_2, false_and, true_and, and_true, and_false, and_self, ne_eq, not_true_eq_false, not_false_eq_true, jw_ws, jw_vs, jw_cmp_lt, jw_cmp_gt, jw_cmp_eq, jp_t1, jp_t2, jp_t3, jp_t4, jp_t5, jp_t6, c0]
  · unfold fX12_count
    simp (disch := omega) only [↓jp_bs, ↓jp_b2s, ↓reduceIte, jw_up_a, Nat.reduceEqDiff, Int.reduceEq, Int.reduceLT, Int.reduceLE, Int.reduceAdd, Int.reduceSub, Int.reduceMul, Int.reduceNeg, jp_n9_1, jp_n9_8, jp_n9_15, jp_n9_21, jp_n9_24, jp_n10_1, jp_n10_2, jp_n10_3, jp_n10_4, jp_n10_5, jp_n10_6, jp_n17_1, jp_n17_2, jp_n17_3, jp_n17_4, jp_n17_5, jp_n17_6, jp_n24_1, jp_n24_2, jp_n24_3, jp_n24_4, jp_n24_5, jp_n30_1, jp_n30_2, jp_n33_1, jp_n33_2, false_and, true_and, and_true, and_false, and_self, ne_eq, not_true_eq_false, not_false_eq_true, jw_ws, jw_vs, jw_cmp_lt, jw_cmp_gt, jw_cmp_eq, jp_t1, jp_t2, jp_t3, jp_t4, jp_t5, jp_t6]
theorem jp_count_2 {M : jw_M} (h : jp_inv M) : jp_ok1 (fX11_count 2 M) M (fX12_count 2) := by
  have hA := jp_inv_A h
  have hD := jp_inv_D h
  obtain ⟨⟨c0, c5, -⟩, g0, g4, g7⟩ := jp_A_c hA
  obtain ⟨⟨r0, r2, r3, r4, r5⟩, -, rq, -⟩ := jp_A_r hA
  have d11 := hD.2.2.2.2.2.2.2.2.2.2.1
  refine ⟨jp_sum (fun a => jp_sum (jp_pr (M 131) a) 7) 7, _, ?_, ?_, jp_th h 0⟩
  · unfold fX11_count
    rw [if_neg (by decide), if_neg (by decide), if_pos rfl, gX9_pairsWithStreet hA]
    rfl
  · unfold fX12_count
    simp only [Option.bind_some]
    rw [if_neg (by decide), if_neg (by decide), if_pos trivial, gX12_count_104, show jw_up M 127 0 0 131 = M 131 from jw_up_ne _ (by decide) _ _]
theorem jp_count_3 {M : jw_M} (h : jp_inv M) : jp_ok1 (fX11_count 3 M) M (fX12_count 3) := by
  have hA := jp_inv_A h
  have hD := jp_inv_D h
  obtain ⟨⟨c0, c5, -⟩, g0, g4, g7⟩ := jp_A_c hA
  obtain ⟨⟨r0, r2, r3, r4, r5⟩, -, rq, -⟩ := jp_A_r hA
  have d11 := hD.2.2.2.2.2.2.2.2.2.2.1
  refine ⟨M 131 2, _, ?_, ?_, jp_th h 0⟩
  · unfold fX11_count
    simp (disch := omega) only [↓jp_bs, ↓jp_b2s, ↓reduceIte, jw_up_a, Nat.reduceEqDiff, Int.reduceEq, Int.reduceLT, Int.reduceLE, Int.reduceAdd, Int.reduceSub, Int.reduceMul, Int.reduceNeg, jp_n9_1, jp_n9_8, jp_n9_15, jp_n9_21, jp_n9_24, jp_n10_1, jp_n10_2, jp_n10_3, jp_n10_4, jp_n10_5, jp_n10_6, jp_n17_1, jp_n17_2, jp_n17_3, jp_n17_4, jp_n17_5, jp_n17_6, jp_n24_1, jp_n24_2, jp_n24_3, jp_n24_4, jp_n24_5, jp_n30_1, jp_n30_2, jp_n33_1, jp_n33_2, false_and, true_and, and_true, and_false, and_self, ne_eq, not_true_eq_false, not_false_eq_true, jw_ws, jw_vs, jw_cmp_lt, jw_cmp_gt, jw_cmp_eq, jp_t1, jp_t2, jp_t3, jp_t4, jp_t5, jp_t6, g0]
  · unfold fX12_count
    simp (disch := omega) only [↓jp_bs, ↓jp_b2s, ↓reduceIte, jw_up_a, Nat.reduceEqDiff, Int.reduceEq, Int.reduceLT, Int.reduceLE, Int.reduceAdd, Int.reduceSub, Int.reduceMul, Int.reduceNeg, jp_n9_1, jp_n9_8, jp_n9_15, jp_n9_21, jp_n9_24, jp_n10_1, jp_n10_2, jp_n10_3, jp_n10_4, jp_n10_5, jp_n10_6, jp_n17_1, jp_n17_2, jp_n17_3, jp_n17_4, jp_n17_5, jp_n17_6, jp_n24_1, jp_n24_2, jp_n24_3, jp_n24_4, jp_n24_5, jp_n30_1, jp_n30_2, jp_n33_1, jp_n33_2, false_and, true_and, and_true, and_false, and_self, ne_eq, not_true_eq_false, not_false_eq_true, jw_ws, jw_vs, jw_cmp_lt, jw_cmp_gt, jw_cmp_eq, jp_t1, jp_t2, jp_t3, jp_t4, jp_t5, jp_t6]
theorem jp_count_4 {M : jw_M} (h : jp_inv M) : jp_ok1 (fX11_count 4 M) M (fX12_count 4) := by
  have hA := jp_inv_A h
  have hD := jp_inv_D h
  obtain ⟨⟨c0, c5, -⟩, g0, g4, g7⟩ := jp_A_c hA
  obtain ⟨⟨r0, r2, r3, r4, r5⟩, -, rq, -⟩ := jp_A_r hA
  have d11 := hD.2.2.2.2.2.2.2.2.2.2.1
  refine ⟨M 131 3, _, ?_, ?_, jp_th h 0⟩
  · unfold fX11_count
    simp (disch := omega) only [↓jp_bs, ↓jp_b2s, ↓reduceIte, jw_up_a, Nat.reduceEqDiff, Int.reduceEq, Int.reduceLT, Int.reduceLE, Int.reduceAdd, Int.reduceSub, Int.reduceMul, Int.reduceNeg, jp_n9_1, jp_n9_8, jp_n9_15, jp_n9_21, jp_n9_24, jp_n10_1, jp_n10_2, jp_n10_3, jp_n10_4, jp_n10_5, jp_n10_6, jp_n17_1, jp_n17_2, jp_n17_3, jp_n17_4, jp_n17_5, jp_n17_6, jp_n24_1, jp_n24_2, jp_n24_3, jp_n24_4, jp_n24_5, jp_n30_1, jp_n30_2, jp_n33_1, jp_n33_2, false_and, true_and, and_true, and_false, and_self, ne_eq, not_true_eq_false, not_false_eq_true, jw_ws, jw_vs, jw_cmp_lt, jw_cmp_gt, jw_cmp_eq, jp_t1, jp_t2, jp_t3, jp_t4, jp_t5, jp_t6, g4]
  · unfold fX12_count
    simp (disch := omega) only [↓jp_bs, ↓jp_b2s, ↓reduceIte, jw_up_a, Nat.reduceEqDiff, Int.reduceEq, Int.reduceLT, Int.reduceLE, Int.reduceAdd, Int.reduceSub, Int.reduceMul, Int.reduceNeg, jp_n9_1, jp_n9_8, jp_n9_15, jp_n9_21, jp_n9_24, jp_n10_1, jp_n10_2, jp_n10_3, jp_n10_4, jp_n10_5, jp_n10_6, jp_n17_1, jp_n17_2, jp_n17_3, jp_n17_4, jp_n17_5, jp_n17_6, jp_n24_1, jp_n24_2, jp_n24_3, jp_n24_4, jp_n24_5, jp_n30_1, jp_n30_2, jp_n33_1, jp_n33_2, false_and, true_and, and_true, and_false, and_self, ne_eq, not_true_eq_false, not_false_eq_true, jw_ws, jw_vs, jw_cmp_lt, jw_cmp_gt, jw_cmp_eq, jp_t1, jp_t2, jp_t3, jp_t4, jp_t5, jp_t6]
theorem jp_count_5 {M : jw_M} (h : jp_inv M) : jp_ok1 (fX11_count 5 M) M (fX12_count 5) := by
  have hA := jp_inv_A h
  have hD := jp_inv_D h
  obtain ⟨⟨c0, c5, -⟩, g0, g4, g7⟩ := jp_A_c hA
  obtain ⟨⟨r0, r2, r3, r4, r5⟩, -, rq, -⟩ := jp_A_r hA
  have d11 := hD.2.2.2.2.2.2.2.2.2.2.1
  refine ⟨M 131 4, _, ?_, ?_, jp_th h 0⟩
  · unfold fX11_count
    simp (disch := omega) only [↓jp_bs, ↓jp_b2s, ↓reduceIte, jw_up_a, Nat.reduceEqDiff, Int.reduceEq, Int.reduceLT, Int.reduceLE, Int.reduceAdd, Int.reduceSub, Int.reduceMul, Int.reduceNeg, jp_n9_1, jp_n9_8, jp_n9_15, jp_n9_21, jp_n9_24, jp_n10_1, jp_n10_2, jp_n10_3, jp_n10_4, jp_n10_5, jp_n10_6, jp_n17_1, jp_n17_2, jp_n17_3, jp_n17_4, jp_n17_5, jp_n17_6, jp_n24_1, jp_n24_2, jp_n24_3, jp_n24_4, jp_n24_5, jp_n30_1, jp_n30_2, jp_n33_1, jp_n33_2, false_and, true_and, and_true, and_false, and_self, ne_eq, not_true_eq_false, not_false_eq_true, jw_ws, jw_vs, jw_cmp_lt, jw_cmp_gt, jw_cmp_eq, jp_t1, jp_t2, jp_t3, jp_t4, jp_t5, jp_t6, g7]
  · unfold fX12_count
    simp (disch := omega) only [↓jp_bs, ↓jp_b2s, ↓reduceIte, jw_up_a, Nat.reduceEqDiff, Int.reduceEq, Int.reduceLT, Int.reduceLE, Int.reduceAdd, Int.reduceSub, Int.reduceMul, Int.reduceNeg, jp_n9_1, jp_n9_8, jp_n9_15, jp_n9_21, jp_n9_24, jp_n10_1, jp_n10_2, jp_n10_3, jp_n10_4, jp_n10_5, jp_n10_6, jp_n17_1, jp_n17_2, jp_n17_3, jp_n17_4, jp_n17_5, jp_n17_6, jp_n24_1, jp_n24_2, jp_n24_3, jp_n24_4, jp_n24_5, jp_n30_1, jp_n30_2, jp_n33_1, jp_n33_2, false_and, true_and, and_true, and_false, and_self, ne_eq, not_true_eq_false, not_false_eq_true, jw_ws, jw_vs, jw_cmp_lt, jw_cmp_gt, jw_cmp_eq, jp_t1, jp_t2, jp_t3, jp_t4, jp_t5, jp_t6]
theorem jp_count_6 {M : jw_M} (h : jp_inv M) : jp_ok1 (fX11_count 6 M) M (fX12_count 6) := by
  have hA := jp_inv_A h
  have hD := jp_inv_D h
  obtain ⟨⟨c0, c5, -⟩, g0, g4, g7⟩ := jp_A_c hA
  obtain ⟨⟨r0, r2, r3, r4, r5⟩, -, rq, -⟩ := jp_A_r hA
  have d11 := hD.2.2.2.2.2.2.2.2.2.2.1
  refine ⟨M 131 5, _, ?_, ?_, jp_th h 0⟩
  · unfold fX11_count
    simp (disch := omega) only [↓jp_bs, ↓jp_b2s, ↓reduceIte, jw_up_a, Nat.reduceEqDiff, Int.reduceEq, Int.reduceLT, Int.reduceLE, Int.reduceAdd, Int.reduceSub, Int.reduceMul, Int.reduceNeg, jp_n9_1, jp_n9_8, jp_n9_15, jp_n9_21, jp_n9_24, jp_n10_1, jp_n10_2, jp_n10_3, jp_n10_4, jp_n10_5, jp_n10_6, jp_n17_1, jp_n17_2, jp_n17_3, jp_n17_4, jp_n17_5, jp_n17_6, jp_n24_1, jp_n24_2, jp_n24_3, jp_n24_4, jp_n24_5, jp_n30_1, jp_n30_2, jp_n33_1, jp_n33_2, false_and, true_and, and_true, and_false, and_self, ne_eq, not_true_eq_false, not_false_eq_true, jw_ws, jw_vs, jw_cmp_lt, jw_cmp_gt, jw_cmp_eq, jp_t1, jp_t2, jp_t3, jp_t4, jp_t5, jp_t6, c5]
  · unfold fX12_count
    simp (disch := omega) only [↓jp_bs, ↓jp_b2s, ↓reduceIte, jw_up_a, Nat.reduceEqDiff, Int.reduceEq, Int.reduceLT, Int.reduceLE, Int.reduceAdd, Int.reduceSub, Int.reduceMul, Int.reduceNeg, jp_n9_1, jp_n9_8, jp_n9_15, jp_n9_21, jp_n9_24, jp_n10_1, jp_n10_2, jp_n10_3, jp_n10_4, jp_n10_5, jp_n10_6, jp_n17_1, jp_n17_2, jp_n17_3, jp_n17_4, jp_n17_5, jp_n17_6, jp_n24_1, jp_n24_2, jp_n24_3, jp_n24_4, jp_n24_5, jp_n30_1, jp_n30_2, jp_n33_1, jp_n33_2, false_and, true_and, and_true, and_false, and_self, ne_eq, not_true_eq_false, not_false_eq_true, jw_ws, jw_vs, jw_cmp_lt, jw_cmp_gt, jw_cmp_eq, jp_t1, jp_t2, jp_t3, jp_t4, jp_t5, jp_t6]
theorem jp_count_7 {M : jw_M} (h : jp_inv M) : jp_ok1 (fX11_count 7 M) M (fX12_count 7) := by
  have hA := jp_inv_A h
  have hD := jp_inv_D h
  obtain ⟨⟨c0, c5, -⟩, g0, g4, g7⟩ := jp_A_c hA
  obtain ⟨⟨r0, r2, r3, r4, r5⟩, -, rq, -⟩ := jp_A_r hA
  have d11 := hD.2.2.2.2.2.2.2.2.2.2.1
  refine ⟨M 133 9, _, ?_, ?_, jp_th h 0⟩
  · unfold fX11_count
    simp (disch := omega) only [↓jp_bs, ↓jp_b2s, ↓reduceIte, jw_up_a, Nat.reduceEqDiff, Int.reduceEq, Int.reduceLT, Int.reduceLE, Int.reduceAdd, Int.reduceSub, Int.reduceMul, Int.reduceNeg, jp_n9_1, jp_n9_8, jp_n9_15, jp_n9_21, jp_n9_24, jp_n10_1, jp_n10_2, jp_n10_3, jp_n10_4, jp_n10_5, jp_n10_6, jp_n17_1, jp_n17_2, jp_n17_3, jp_n17_4, jp_n17_5, jp_n17_6, jp_n24_1, jp_n24_2, jp_n24_3, jp_n24_4, jp_n24_5, jp_n30_1, jp_n30_2, jp_n33_1, jp_n33_2, false_and, true_and, and_true, and_false, and_self, ne_eq, not_true_eq_false, not_false_eq_true, jw_ws, jw_vs, jw_cmp_lt, jw_cmp_gt, jw_cmp_eq, jp_t1, jp_t2, jp_t3, jp_t4, jp_t5, jp_t6, d11]
  · unfold fX12_count
    simp (disch := omega) only [↓jp_bs, ↓jp_b2s, ↓reduceIte, jw_up_a, Nat.reduceEqDiff, Int.reduceEq, Int.reduceLT, Int.reduceLE, Int.reduceAdd, Int.reduceSub, Int.reduceMul, Int.reduceNeg, jp_n9_1, jp_n9_8, jp_n9_15, jp_n9_21, jp_n9_24, jp_n10_1, jp_n10_2, jp_n10_3, jp_n10_4, jp_n10_5, jp_n10_6, jp_n17_1, jp_n17_2, jp_n17_3, jp_n17_4, jp_n17_5, jp_n17_6, jp_n24_1, jp_n24_2, jp_n24_3, jp_n24_4, jp_n24_5, jp_n30_1, jp_n30_2, jp_n33_1, jp_n33_2, false_and, true_and, and_true, and_false, and_self, ne_eq, not_true_eq_false, not_false_eq_true, jw_ws, jw_vs, jw_cmp_lt, jw_cmp_gt, jw_cmp_eq, jp_t1, jp_t2, jp_t3, jp_t4, jp_t5, jp_t6]
theorem jp_count_8 {M : jw_M} (h : jp_inv M) : jp_ok1 (fX11_count 8 M) M (fX12_count 8) := by
  have hA := jp_inv_A h
  have hD := jp_inv_D h
  obtain ⟨⟨c0, c5, -⟩, g0, g4, g7⟩ := jp_A_c hA
  obtain ⟨⟨r0, r2, r3, r4, r5⟩, -, rq, -⟩ := jp_A_r hA
  have d11 := hD.2.2.2.2.2.2.2.2.2.2.1
  refine ⟨M 127 10, _, ?_, ?_, jp_th h 0⟩
  · unfold fX11_count fX4_length
    simp (disch := omega) only [↓jp_bs, ↓jp_b2s, ↓reduceIte, jw_up_a, Nat.reduceEqDiff, Int.reduceEq, Int.reduceLT, Int.reduceLE, Int.reduceAdd, Int.reduceSub, Int.reduceMul, Int.reduceNeg, jp_n9_1, jp_n9_8, jp_n9_15, jp_n9_21, jp_n9_24, jp_n10_1, jp_n10_2, jp_n10_3, jp_n10_4, jp_n10_5, jp_n10_6, jp_n17_1, jp_n17_2, jp_n17_3, jp_n17_4, jp_n17_5, jp_n17_6, jp_n24_1, jp_n24_2, jp_n24_3, jp_n24_4, jp_n24_5, jp_n30_1, jp_n30_2, jp_n33_1, jp_n33_2, false_and, true_and, and_true, and_false, and_self, ne_eq, not_true_eq_false, not_false_eq_true, jw_ws, jw_vs, jw_cmp_lt, jw_cmp_gt, jw_cmp_eq, jp_t1, jp_t2, jp_t3, jp_t4, jp_t5, jp_t6, h.2.1.1]
  · unfold fX12_count
    simp (disch := omega) only [↓jp_bs, ↓jp_b2s, ↓reduceIte, jw_up_a, Nat.reduceEqDiff, Int.reduceEq, Int.reduceLT, Int.reduceLE, Int.reduceAdd, Int.reduceSub, Int.reduceMul, Int.reduceNeg, jp_n9_1, jp_n9_8, jp_n9_15, jp_n9_21, jp_n9_24, jp_n10_1, jp_n10_2, jp_n10_3, jp_n10_4, jp_n10_5, jp_n10_6, jp_n17_1, jp_n17_2, jp_n17_3, jp_n17_4, jp_n17_5, jp_n17_6, jp_n24_1, jp_n24_2, jp_n24_3, jp_n24_4, jp_n24_5, jp_n30_1, jp_n30_2, jp_n33_1, jp_n33_2, false_and, true_and, and_true, and_false, and_self, ne_eq, not_true_eq_false, not_false_eq_true, jw_ws, jw_vs, jw_cmp_lt, jw_cmp_gt, jw_cmp_eq, jp_t1, jp_t2, jp_t3, jp_t4, jp_t5, jp_t6]
theorem jp_count_9 {M : jw_M} (h : jp_inv M) (w : Int) (hw : w < 0 ∨ 8 < w) : jp_ok1 (fX11_count w M) M (fX12_count w) := by
  have hA := jp_inv_A h
  have hD := jp_inv_D h
  obtain ⟨⟨c0, c5, -⟩, g0, g4, g7⟩ := jp_A_c hA
  obtain ⟨⟨r0, r2, r3, r4, r5⟩, -, rq, -⟩ := jp_A_r hA
  have d11 := hD.2.2.2.2.2.2.2.2.2.2.1
  refine ⟨-9000000000000000001, _, ?_, ?_, jp_th h 0⟩
  · unfold fX11_count
    simp (disch := omega) only [↓jp_bs, ↓jp_b2s, ↓reduceIte, jw_up_a, Nat.reduceEqDiff, Int.reduceEq, Int.reduceLT, Int.reduceLE, Int.reduceAdd, Int.reduceSub, Int.reduceMul, Int.reduceNeg, jp_n9_1, jp_n9_8, jp_n9_15, jp_n9_21, jp_n9_24, jp_n10_1, jp_n10_2, jp_n10_3, jp_n10_4, jp_n10_5, jp_n10_6, jp_n17_1, jp_n17_2, jp_n17_3, jp_n17_4, jp_n17_5, jp_n17_6, jp_n24_1, jp_n24_2, jp_n24_3, jp_n24_4, jp_n24_5, jp_n30_1, jp_n30_2, jp_n33_1, jp_n33_2, false_and, true_and, and_true, and_false, and_self, ne_eq, not_true_eq_false, not_false_eq_true, jw_ws, jw_vs, jw_cmp_lt, jw_cmp_gt, jw_cmp_eq, jp_t1, jp_t2, jp_t3, jp_t4, jp_t5, jp_t6]
  · unfold fX12_count
    simp (disch := omega) only [↓jp_bs, ↓jp_b2s, ↓reduceIte, jw_up_a, Nat.reduceEqDiff, Int.reduceEq, Int.reduceLT, Int.reduceLE, Int.reduceAdd, Int.reduceSub, Int.reduceMul, Int.reduceNeg, jp_n9_1, jp_n9_8, jp_n9_15, jp_n9_21, jp_n9_24, jp_n10_1, jp_n10_2, jp_n10_3, jp_n10_4, jp_n10_5, jp_n10_6, jp_n17_1, jp_n17_2, jp_n17_3, jp_n17_4, jp_n17_5, jp_n17_6, jp_n24_1, jp_n24_2, jp_n24_3, jp_n24_4, jp_n24_5, jp_n30_1, jp_n30_2, jp_n33_1, jp_n33_2, false_and, true_and, and_true, and_false, and_self, ne_eq, not_true_eq_false, not_false_eq_true, jw_ws, jw_vs, jw_cmp_lt, jw_cmp_gt, jw_cmp_eq, jp_t1, jp_t2, jp_t3, jp_t4, jp_t5, jp_t6]
theorem jp_count {M : jw_M} (h : jp_inv M) (w : Int) : jp_ok1 (fX11_count w M) M (fX12_count w) := by
  have hw : w = 0 ∨ w = 1 ∨ w = 2 ∨ w = 3 ∨ w = 4 ∨ w = 5 ∨ w = 6 ∨ w = 7 ∨ w = 8 ∨ (w < 0 ∨ 8 < w) := by omega
  rcases hw with rfl | rfl | rfl | rfl | rfl | rfl | rfl | rfl | rfl | hw
  · exact jp_count_0 h
  · exact jp_count_1 h
  · exact jp_count_2 h
  · exact jp_count_3 h
  · exact jp_count_4 h
  · exact jp_count_5 h
  · exact jp_count_6 h
  · exact jp_count_7 h
  · exact jp_count_8 h
  · exact jp_count_9 h w hw
