/-! ask: the model's side, and the call -/
theorem gX12_isOf3 (k : Int) (hk : k = 3 ∨ k = 4) (M : jw_M) : fX12_isOf k 3 M = some 1 := by
  unfold fX12_isOf fX12_isOf_19 fX12_isOf_29
  rcases hk with rfl | rfl <;> simp
theorem bX12_isOf3 (k : Int) (hk : k = 3 ∨ k = 4) (M : jw_M) {be : Type} (kk : _ → Option be) : Option.bind (fX12_isOf k 3 M) kk = kk (1) := by rw [show fX12_isOf k 3 M = some 1 from gX12_isOf3 k hk M]; rfl
theorem gX12_isOf3n (k : Int) (hk : k = 1 ∨ k = 2) (M : jw_M) : fX12_isOf k 3 M = some 0 := by
  unfold fX12_isOf fX12_isOf_19 fX12_isOf_29
  rcases hk with rfl | rfl <;> simp
theorem bX12_isOf3n (k : Int) (hk : k = 1 ∨ k = 2) (M : jw_M) {be : Type} (kk : _ → Option be) : Option.bind (fX12_isOf k 3 M) kk = kk (0) := by rw [show fX12_isOf k 3 M = some 0 from gX12_isOf3n k hk M]; rfl
section
variable {M0 M : jw_M} {l : List Int} {s : Int}
theorem jm_cs (hA : jp_ABD M0) (hs : 0 ≤ s ∧ s < M0 131 3) (h : jp_tm M0 l M) (hl : l.length < 10) (k : Int) (hk : k = 3 ∨ k = 4) : ∃ N : jw_M, fX12_caughtSize s k M = some ((if k = 4 then -2 * (jp_W M0 s + jp_F M0 s) else -(jp_W M0 s + jp_F M0 s)), N) ∧ jp_tm M0 (if k = 4 then l ++ [14] ++ [13] ++ [10] else l ++ [13] ++ [10]) N := by
  have hw := jp_WF hA.1 hs
  rcases hk with rfl | rfl
  · obtain ⟨N, r, t⟩ := jm_b h (by omega) 13
    obtain ⟨N2, r2, t2⟩ := jm_b t (by have := jp_len1 l 13; omega) 10
    obtain ⟨⟨a1, a2, a3⟩, e1, e2⟩ := jm_A t2 hA
    have hs' : 0 ≤ s ∧ s < N2 131 3 := by rw [e1]; exact hs
    have hf : N2 131 (64 + 3 * N2 131 (90 + s)) + N2 131 (65 + 3 * N2 131 (90 + s)) = jp_W M0 s + jp_F M0 s := by rw [e1]; rfl
    refine ⟨N2, ?_, t2⟩
    unfold fX12_caughtSize fX12_caughtSize_11
    simp (disch := omega) only [↓jp_bs, ↓jp_b2s, ↓reduceIte, jw_up_a, Nat.reduceEqDiff, Int.reduceEq, Int.reduceLT, Int.reduceLE, Int.reduceAdd, Int.reduceSub, Int.reduceMul, Int.reduceNeg, jp_n9_1, jp_n9_8, jp_n9_15, jp_n9_21, jp_n9_24, jp_n10_1, jp_n10_2, jp_n10_3, jp_n10_4, jp_n10_5, jp_n10_6, jp_n17_1, jp_n17_2, jp_n17_3, jp_n17_4, jp_n17_5, jp_n17_6, jp_n24_1, jp_n24_2, jp_n24_3, jp_n24_4, jp_n24_5, jp_n30_1, jp_n30_2, jp_n33_1, jp_n33_2, false_and, true_and, and_true, and_false, and_self, ne_eq, not_true_eq_false, not_false_eq_true, jw_ws, jw_vs, jw_cmp_lt, jw_cmp_gt, jw_cmp_eq, jp_t1, jp_t2, jp_t3, jp_t4, jp_t5, jp_t6, ↓jp_bnd r, ↓jp_bnd r2, ↓bX12_lostOf a1, hf]
  · obtain ⟨N0, r0, t0⟩ := jm_b h (by omega) 14
    obtain ⟨N, r, t⟩ := jm_b t0 (by have := jp_len1 l 14; omega) 13
    obtain ⟨N2, r2, t2⟩ := jm_b t (by have := jp_len1 l 14; have := jp_len1 (l ++ [14]) 13; omega) 10
    obtain ⟨⟨a1, a2, a3⟩, e1, e2⟩ := jm_A t2 hA
    have hs' : 0 ≤ s ∧ s < N2 131 3 := by rw [e1]; exact hs
    have hf : N2 131 (64 + 3 * N2 131 (90 + s)) + N2 131 (65 + 3 * N2 131 (90 + s)) = jp_W M0 s + jp_F M0 s := by rw [e1]; rfl
    refine ⟨N2, ?_, t2⟩
    unfold fX12_caughtSize fX12_caughtSize_11
    simp (disch := omega) only [↓jp_bs, ↓jp_b2s, ↓reduceIte, jw_up_a, Nat.reduceEqDiff, Int.reduceEq, Int.reduceLT, Int.reduceLE, Int.reduceAdd, Int.reduceSub, Int.reduceMul, Int.reduceNeg, jp_n9_1, jp_n9_8, jp_n9_15, jp_n9_21, jp_n9_24, jp_n10_1, jp_n10_2, jp_n10_3, jp_n10_4, jp_n10_5, jp_n10_6, jp_n17_1, jp_n17_2, jp_n17_3, jp_n17_4, jp_n17_5, jp_n17_6, jp_n24_1, jp_n24_2, jp_n24_3, jp_n24_4, jp_n24_5, jp_n30_1, jp_n30_2, jp_n33_1, jp_n33_2, false_and, true_and, and_true, and_false, and_self, ne_eq, not_true_eq_false, not_false_eq_true, jw_ws, jw_vs, jw_cmp_lt, jw_cmp_gt, jw_cmp_eq, jp_t1, jp_t2, jp_t3, jp_t4, jp_t5, jp_t6, ↓jp_bnd r0, ↓jp_bnd r, ↓jp_bnd r2, ↓bX12_lostOf a1, hf]
theorem jm21 (hA : jp_ABD M0) (hs : 0 ≤ s ∧ s < M0 131 3) (h : jp_tm M0 l M) (hl : l.length < 10) : ∃ N : jw_M, fX12_ownMark s 1 M = some (s + 10 * M0 133 s, N) ∧ jp_tm M0 (l ++ [21] ++ [20]) N := by
  have hr := (jp_A_r hA.1).1
  have hb := hA.2.1.1 s hs.1 hs.2
  obtain ⟨N, r, t⟩ := jm_b h (by omega) 21
  obtain ⟨N2, r2, t2⟩ := jm_b t (by have := jp_len1 l 21; omega) 20
  obtain ⟨⟨a1, a2, a3⟩, e1, e2⟩ := jm_A t2 hA
  refine ⟨N2, ?_, t2⟩
  unfold fX12_ownMark fX12_ownMark_40 fX12_ownMark_77
  simp (disch := omega) only [↓jp_bs, ↓jp_b2s, ↓reduceIte, jw_up_a, Nat.reduceEqDiff, Int.reduceEq, Int.reduceLT, Int.reduceLE, Int.reduceAdd, Int.reduceSub, Int.reduceMul, Int.reduceNeg, jp_n9_1, jp_n9_8, jp_n9_15, jp_n9_21, jp_n9_24, jp_n10_1, jp_n10_2, jp_n10_3, jp_n10_4, jp_n10_5, jp_n10_6, jp_n17_1, jp_n17_2, jp_n17_3, jp_n17_4, jp_n17_5, jp_n17_6, jp_n24_1, jp_n24_2, jp_n24_3, jp_n24_4, jp_n24_5, jp_n30_1, jp_n30_2, jp_n33_1, jp_n33_2, false_and, true_and, and_true, and_false, and_self, ne_eq, not_true_eq_false, not_false_eq_true, jw_ws, jw_vs, jw_cmp_lt, jw_cmp_gt, jw_cmp_eq, jp_t1, jp_t2, jp_t3, jp_t4, jp_t5, jp_t6, gX12_isOf3n 1 (Or.inl rfl), ↓jp_bnd r, ↓jp_bnd r2, Int.zero_add, e2, Int.add_zero]
theorem jm23 (hA : jp_ABD M0) (hs : 0 ≤ s ∧ s < M0 131 3) (h : jp_tm M0 l M) (hl : l.length < 10) : ∃ N : jw_M, fX12_ownMark s 2 M = some (s + 10 * M0 133 s + 500, N) ∧ jp_tm M0 (l ++ [23] ++ [21] ++ [20]) N := by
  have hr := (jp_A_r hA.1).1
  have hb := hA.2.1.1 s hs.1 hs.2
  obtain ⟨N0, r0, t0⟩ := jm_b h (by omega) 23
  obtain ⟨N, r, t⟩ := jm_b t0 (by have := jp_len1 l 23; omega) 21
  obtain ⟨N2, r2, t2⟩ := jm_b t (by have := jp_len1 l 23; have := jp_len1 (l ++ [23]) 21; omega) 20
  obtain ⟨⟨a1, a2, a3⟩, e1, e2⟩ := jm_A t2 hA
  refine ⟨N2, ?_, t2⟩
  unfold fX12_ownMark fX12_ownMark_40 fX12_ownMark_77
  simp (disch := omega) only [↓jp_bs, ↓jp_b2s, ↓reduceIte, jw_up_a, Nat.reduceEqDiff, Int.reduceEq, Int.reduceLT, Int.reduceLE, Int.reduceAdd, Int.reduceSub, Int.reduceMul, Int.reduceNeg, jp_n9_1, jp_n9_8, jp_n9_15, jp_n9_21, jp_n9_24, jp_n10_1, jp_n10_2, jp_n10_3, jp_n10_4, jp_n10_5, jp_n10_6, jp_n17_1, jp_n17_2, jp_n17_3, jp_n17_4, jp_n17_5, jp_n17_6, jp_n24_1, jp_n24_2, jp_n24_3, jp_n24_4, jp_n24_5, jp_n30_1, jp_n30_2, jp_n33_1, jp_n33_2, false_and, true_and, and_true, and_false, and_self, ne_eq, not_true_eq_false, not_false_eq_true, jw_ws, jw_vs, jw_cmp_lt, jw_cmp_gt, jw_cmp_eq, jp_t1, jp_t2, jp_t3, jp_t4, jp_t5, jp_t6, gX12_isOf3n 2 (Or.inr rfl), ↓jp_bnd r0, ↓jp_bnd r, ↓jp_bnd r2, Int.zero_add, e2]
theorem jm22 (hA : jp_ABD M0) (hs : 0 ≤ s ∧ s < M0 131 3) (h : jp_tm M0 l M) (hl : l.length < 7) (k : Int) (hk : k = 3 ∨ k = 4) : ∃ N : jw_M, fX12_ownMark s k M = some (s - (if k = 4 then -2 * (jp_W M0 s + jp_F M0 s) else -(jp_W M0 s + jp_F M0 s)), N) ∧ jp_tm M0 (if k = 4 then l ++ [22] ++ [20] ++ [14] ++ [13] ++ [10] else l ++ [22] ++ [20] ++ [13] ++ [10]) N := by
  have hw := jp_WF hA.1 hs
  have hr := (jp_A_r hA.1).1
  obtain ⟨N, r, t⟩ := jm_b h (by omega) 22
  obtain ⟨N2, r2, t2⟩ := jm_b t (by have := jp_len1 l 22; omega) 20
  obtain ⟨N3, r3, t3⟩ := jm_cs hA hs t2 (by have := jp_len1 l 22; have := jp_len1 (l ++ [22]) 20; omega) k hk
  refine ⟨N3, ?_, t3⟩
  unfold fX12_ownMark
  rw [gX12_isOf3 k hk]
  rcases hk with rfl | rfl
  · simp (disch := omega) only [↓jp_bs, ↓jp_b2s, ↓reduceIte, jw_up_a, Nat.reduceEqDiff, Int.reduceEq, Int.reduceLT, Int.reduceLE, Int.reduceAdd, Int.reduceSub, Int.reduceMul, Int.reduceNeg, jp_n9_1, jp_n9_8, jp_n9_15, jp_n9_21, jp_n9_24, jp_n10_1, jp_n10_2, jp_n10_3, jp_n10_4, jp_n10_5, jp_n10_6, jp_n17_1, jp_n17_2, jp_n17_3, jp_n17_4, jp_n17_5, jp_n17_6, jp_n24_1, jp_n24_2, jp_n24_3, jp_n24_4, jp_n24_5, jp_n30_1, jp_n30_2, jp_n33_1, jp_n33_2, false_and, true_and, and_true, and_false, and_self, ne_eq, not_true_eq_false, not_false_eq_true, jw_ws, jw_vs, jw_cmp_lt, jw_cmp_gt, jw_cmp_eq, jp_t1, jp_t2, jp_t3, jp_t4, jp_t5, jp_t6, ↓jp_bnd r, ↓jp_bnd r2, ↓jp_bn2 r3]
  · simp (disch := omega) only [↓jp_bs, ↓jp_b2s, ↓reduceIte, jw_up_a, Nat.reduceEqDiff, Int.reduceEq, Int.reduceLT, Int.reduceLE, Int.reduceAdd, Int.reduceSub, Int.reduceMul, Int.reduceNeg, jp_n9_1, jp_n9_8, jp_n9_15, jp_n9_21, jp_n9_24, jp_n10_1, jp_n10_2, jp_n10_3, jp_n10_4, jp_n10_5, jp_n10_6, jp_n17_1, jp_n17_2, jp_n17_3, jp_n17_4, jp_n17_5, jp_n17_6, jp_n24_1, jp_n24_2, jp_n24_3, jp_n24_4, jp_n24_5, jp_n30_1, jp_n30_2, jp_n33_1, jp_n33_2, false_and, true_and, and_true, and_false, and_self, ne_eq, not_true_eq_false, not_false_eq_true, jw_ws, jw_vs, jw_cmp_lt, jw_cmp_gt, jw_cmp_eq, jp_t1, jp_t2, jp_t3, jp_t4, jp_t5, jp_t6, ↓jp_bnd r, ↓jp_bnd r2, ↓jp_bn2 r3]
theorem jm11 (hA : jp_ABD M0) (hs : 0 ≤ s ∧ s < M0 131 3) (h : jp_tm M0 l M) (hl : l.length < 7) : ∃ N : jw_M, fX12_ownSize s 1 M = some (jp_W M0 s + (s + 10 * M0 133 s), N) ∧ jp_tm M0 (l ++ [11] ++ [10] ++ [21] ++ [20]) N := by
  have hw := jp_WF hA.1 hs
  have hr := (jp_A_r hA.1).1
  have hb := hA.2.1.1 s hs.1 hs.2
  obtain ⟨N, r, t⟩ := jm_b h (by omega) 11
  obtain ⟨N2, r2, t2⟩ := jm_b t (by have := jp_len1 l 11; omega) 10
  obtain ⟨⟨a1, a2, a3⟩, e1, e2⟩ := jm_A t2 hA
  have hs' : 0 ≤ s ∧ s < N2 131 3 := by rw [e1]; exact hs
  have hf : N2 131 (64 + 3 * N2 131 (90 + s)) = jp_W M0 s := by rw [e1]; rfl
  obtain ⟨N3, r3, t3⟩ := jm21 hA hs t2 (by have := jp_len1 l 11; have := jp_len1 (l ++ [11]) 10; omega)
  refine ⟨N3, ?_, t3⟩
  unfold fX12_ownSize fX12_ownSize_26
  simp (disch := omega) only [↓jp_bs, ↓jp_b2s, ↓reduceIte, jw_up_a, Nat.reduceEqDiff, Int.reduceEq, Int.reduceLT, Int.reduceLE, Int.reduceAdd, Int.reduceSub, Int.reduceMul, Int.reduceNeg, jp_n9_1, jp_n9_8, jp_n9_15, jp_n9_21, jp_n9_24, jp_n10_1, jp_n10_2, jp_n10_3, jp_n10_4, jp_n10_5, jp_n10_6, jp_n17_1, jp_n17_2, jp_n17_3, jp_n17_4, jp_n17_5, jp_n17_6, jp_n24_1, jp_n24_2, jp_n24_3, jp_n24_4, jp_n24_5, jp_n30_1, jp_n30_2, jp_n33_1, jp_n33_2, false_and, true_and, and_true, and_false, and_self, ne_eq, not_true_eq_false, not_false_eq_true, jw_ws, jw_vs, jw_cmp_lt, jw_cmp_gt, jw_cmp_eq, jp_t1, jp_t2, jp_t3, jp_t4, jp_t5, jp_t6, gX12_isOf3n 1 (Or.inl rfl), ↓jp_bnd r, ↓jp_bnd r2, ↓bX12_goodsOf1 a1, hf, ↓jp_bn2 r3]
theorem jm12 (hA : jp_ABD M0) (hs : 0 ≤ s ∧ s < M0 131 3) (h : jp_tm M0 l M) (hl : l.length < 6) (hk : M0 133 (53 + s) = 1) : ∃ N : jw_M, fX12_ownSize s 2 M = some (jp_W M0 s + (s + 10 * M0 133 s + 500) - jp_G M0 s, N) ∧ jp_tm M0 (l ++ [12] ++ [11] ++ [10] ++ [23] ++ [21] ++ [20]) N := by
  have hw := jp_WF hA.1 hs
  have hr := jp_A_r hA.1
  have hb := hA.2.1.1 s hs.1 hs.2
  have hg := jp_gds hA.1 hs
  obtain ⟨N0, r0, t0⟩ := jm_b h (by omega) 12
  obtain ⟨N, r, t⟩ := jm_b t0 (by have := jp_len1 l 12; omega) 11
  obtain ⟨N2, r2, t2⟩ := jm_b t (by have := jp_len1 l 12; have := jp_len1 (l ++ [12]) 11; omega) 10
  obtain ⟨⟨a1, a2, a3⟩, e1, e2⟩ := jm_A t2 hA
  have hs' : 0 ≤ s ∧ s < N2 131 3 := by rw [e1]; exact hs
  have hf : N2 131 (64 + 3 * N2 131 (90 + s)) = jp_W M0 s := by rw [e1]; rfl
  obtain ⟨N3, r3, t3⟩ := jm23 hA hs t2 (by have := jp_len1 l 12; have := jp_len1 (l ++ [12]) 11; have := jp_len1 (l ++ [12] ++ [11]) 10; omega)
  obtain ⟨⟨c1, c2, c3⟩, e3, e4⟩ := jm_A t3 hA
  have hs3 : 0 ≤ s ∧ s < N3 131 3 := by rw [e3]; exact hs
  have hg2 : N3 131 (63 + 3 * N3 131 (90 + s)) + N3 131 88 = jp_G M0 s := by rw [e3]; rfl
  have hg3 : 0 ≤ jp_G M0 s ∧ jp_G M0 s ≤ 100 := by unfold jp_G; omega
  refine ⟨N3, ?_, t3⟩
  unfold fX12_ownSize fX12_ownSize_26 fX12_goneOf
  simp (disch := omega) only [↓jp_bs, ↓jp_b2s, ↓reduceIte, jw_up_a, Nat.reduceEqDiff, Int.reduceEq, Int.reduceLT, Int.reduceLE, Int.reduceAdd, Int.reduceSub, Int.reduceMul, Int.reduceNeg, jp_n9_1, jp_n9_8, jp_n9_15, jp_n9_21, jp_n9_24, jp_n10_1, jp_n10_2, jp_n10_3, jp_n10_4, jp_n10_5, jp_n10_6, jp_n17_1, jp_n17_2, jp_n17_3, jp_n17_4, jp_n17_5, jp_n17_6, jp_n24_1, jp_n24_2, jp_n24_3, jp_n24_4, jp_n24_5, jp_n30_1, jp_n30_2, jp_n33_1, jp_n33_2, false_and, true_and, and_true, and_false, and_self, ne_eq, not_true_eq_false, not_false_eq_true, jw_ws, jw_vs, jw_cmp_lt, jw_cmp_gt, jw_cmp_eq, jp_t1, jp_t2, jp_t3, jp_t4, jp_t5, jp_t6, gX12_isOf3n 2 (Or.inr rfl), ↓jp_bnd r0, ↓jp_bnd r, ↓jp_bnd r2, ↓bX12_goodsOf1 a1, hf, ↓jp_bn2 r3, ↓bX12_becameOf, e4, hk, ↓bX12_goodsOf0 c1, hg2]
theorem jm13 (hA : jp_ABD M0) (hs : 0 ≤ s ∧ s < M0 131 3) (h : jp_tm M0 l M) (hl : l.length < 10) (k : Int) (hk : k = 3 ∨ k = 4) : ∃ N : jw_M, fX12_ownSize s k M = some ((if k = 4 then -2 * (jp_W M0 s + jp_F M0 s) else -(jp_W M0 s + jp_F M0 s)), N) ∧ jp_tm M0 (if k = 4 then l ++ [14] ++ [13] ++ [10] else l ++ [13] ++ [10]) N := by
  obtain ⟨N, r, t⟩ := jm_cs hA hs h hl k hk
  refine ⟨N, ?_, t⟩
  unfold fX12_ownSize
  rw [gX12_isOf3 k hk]
  simp (disch := omega) only [↓jp_bs, ↓jp_b2s, ↓reduceIte, jw_up_a, Nat.reduceEqDiff, Int.reduceEq, Int.reduceLT, Int.reduceLE, Int.reduceAdd, Int.reduceSub, Int.reduceMul, Int.reduceNeg, jp_n9_1, jp_n9_8, jp_n9_15, jp_n9_21, jp_n9_24, jp_n10_1, jp_n10_2, jp_n10_3, jp_n10_4, jp_n10_5, jp_n10_6, jp_n17_1, jp_n17_2, jp_n17_3, jp_n17_4, jp_n17_5, jp_n17_6, jp_n24_1, jp_n24_2, jp_n24_3, jp_n24_4, jp_n24_5, jp_n30_1, jp_n30_2, jp_n33_1, jp_n33_2, false_and, true_and, and_true, and_false, and_self, ne_eq, not_true_eq_false, not_false_eq_true, jw_ws, jw_vs, jw_cmp_lt, jw_cmp_gt, jw_cmp_eq, jp_t1, jp_t2, jp_t3, jp_t4, jp_t5, jp_t6, ↓jp_bn2 r]
end
def jp_av (M : jw_M) (s w : Int) : Int :=
  if w = 0 then (if jp_kind M s = 1 then jp_W M s + (s + 10 * M 133 s) else if jp_kind M s = 2 then jp_W M s + (s + 10 * M 133 s + 500) - jp_G M s else if jp_kind M s = 4 then -2 * (jp_W M s + jp_F M s) else -(jp_W M s + jp_F M s))
  else (if jp_kind M s = 1 then s + 10 * M 133 s else if jp_kind M s = 2 then s + 10 * M 133 s + 500 else s - (if jp_kind M s = 4 then -2 * (jp_W M s + jp_F M s) else -(jp_W M s + jp_F M s)))
def jp_al (M : jw_M) (s w : Int) : List Int :=
  if w = 0 then (if jp_kind M s = 1 then [11, 10, 21, 20] else if jp_kind M s = 2 then [12, 11, 10, 23, 21, 20] else if jp_kind M s = 4 then [14, 13, 10] else [13, 10])
  else (if jp_kind M s = 1 then [21, 20] else if jp_kind M s = 2 then [23, 21, 20] else if jp_kind M s = 4 then [22, 20, 14, 13, 10] else [22, 20, 13, 10])
theorem jp_al_len (M : jw_M) (s w : Int) : (jp_al M s w).length ≤ 16 := by
  unfold jp_al
  split <;> (split <;> (try split <;> (try split))) <;> simp
theorem jp_ask_a {M N : jw_M} (hA : jp_ABD M) (s : Int) (hs : 0 ≤ s ∧ s < M 131 3) (w : Int) (hw : 0 ≤ w ∧ w ≤ 1) (t0 : jp_tx M [] (jw_up M 125 2 0)) : ∃ N : jw_M, fX0_answer s w M = some (jp_av M s w, N) ∧ jp_tx M (jp_al M s w) N := by
  have hk2 := jx_k hA hs t0
  have hk : jp_kind M s = 1 ∨ jp_kind M s = 2 ∨ jp_kind M s = 3 ∨ jp_kind M s = 4 := by have := jp_kind_r M s; omega
  have hw2 : w = 0 ∨ w = 1 := by omega
  have fin : ∀ (b v : Int) (l : List Int), (∃ N : jw_M, fX0_body (19 + 5) b s 0 (jw_up M 125 2 0) = some (v, N) ∧ jp_tx M l N) → (if w = 0 then jw_x5.getD (jp_kind M s).toNat 0 else jw_x6.getD (jp_kind M s).toNat 0) = b → v = jp_av M s w → l = jp_al M s w → ∃ N : jw_M, fX0_answer s w M = some (jp_av M s w, N) ∧ jp_tx M (jp_al M s w) N := by
    rintro b v l ⟨N, r, t⟩ hb rfl rfl
    refine ⟨N, ?_, t⟩
    have r' : fX0_body jw_rn b s 0 (jw_up M 125 2 0) = some (jp_av M s w, N) := r
    have hkr : 0 ≤ jp_kind M s ∧ jp_kind M s < 5 := by omega
    unfold fX0_answer fX0_answer_29
    rw [jp_bs, hk2, jp_bs, jp_bs, if_pos hkr, if_pos hkr]
    by_cases e : w = 0
    · rw [if_pos e] at hb ⊢
      rw [hb, r']
      rfl
    · rw [if_neg e] at hb ⊢
      rw [hb, r']
      rfl
  rcases hw2 with rfl | rfl <;> rcases hk with k | k | k | k
  · obtain ⟨N, r, t⟩ := jx11 hA hs t0 (by decide) 20 0 (by omega) (Or.inl k)
    rw [k] at r t
    refine fin 11 _ _ ⟨N, r, t⟩ (by rw [k]; rfl) ?_ ?_
    · unfold jp_av; rw [k]; simp
    · unfold jp_al; rw [k]; rfl
  · obtain ⟨N, r, t⟩ := jx12 hA hs t0 (by decide) 19 0 (by omega) k
    refine fin 12 _ _ ⟨N, r, t⟩ (by rw [k]; rfl) ?_ ?_
    · unfold jp_av; rw [k]; simp
    · unfold jp_al; rw [k]; rfl
  · obtain ⟨N, r, t⟩ := jx13 hA hs t0 (by decide) 22 0 (by omega)
    refine fin 13 _ _ ⟨N, r, t⟩ (by rw [k]; rfl) ?_ ?_
    · unfold jp_av; rw [k]; simp
    · unfold jp_al; rw [k]; rfl
  · obtain ⟨N, r, t⟩ := jx14 hA hs t0 (by decide) 21 0 (by omega)
    refine fin 14 _ _ ⟨N, r, t⟩ (by rw [k]; rfl) ?_ ?_
    · unfold jp_av; rw [k]; simp
    · unfold jp_al; rw [k]; rfl
  · obtain ⟨N, r, t⟩ := jx21 hA hs t0 (by decide) 22 0 (by omega)
    refine fin 21 _ _ ⟨N, r, t⟩ (by rw [k]; rfl) ?_ ?_
    · unfold jp_av; rw [k]; simp
    · unfold jp_al; rw [k]; rfl
  · obtain ⟨N, r, t⟩ := jx23 hA hs t0 (by decide) 21 0 (by omega)
    refine fin 23 _ _ ⟨N, r, t⟩ (by rw [k]; rfl) ?_ ?_
    · unfold jp_av; rw [k]; simp
    · unfold jp_al; rw [k]; rfl
  · obtain ⟨N, r, t⟩ := jx22 hA hs t0 (by decide) 20 0 (by omega) (Or.inl k)
    rw [k] at r t
    refine fin 22 _ _ ⟨N, r, t⟩ (by rw [k]; rfl) ?_ ?_
    · unfold jp_av; rw [k]; simp
    · unfold jp_al; rw [k]; rfl
  · obtain ⟨N, r, t⟩ := jx22 hA hs t0 (by decide) 20 0 (by omega) (Or.inr k)
    rw [k] at r t
    refine fin 22 _ _ ⟨N, r, t⟩ (by rw [k]; rfl) ?_ ?_
    · unfold jp_av; rw [k]; simp
    · unfold jp_al; rw [k]; rfl
theorem jp_ask_m {M M1 : jw_M} (hA : jp_ABD M) (s : Int) (hs : 0 ≤ s ∧ s < M 131 3) (w : Int) (hw : 0 ≤ w ∧ w ≤ 1) (t0 : jp_tm M [] M1) : ∃ N : jw_M, (if w = 0 then fX12_ownSize s (jp_kind M s) M1 else fX12_ownMark s (jp_kind M s) M1) = some (jp_av M s w, N) ∧ jp_tm M (jp_al M s w) N := by
  have hk : jp_kind M s = 1 ∨ jp_kind M s = 2 ∨ jp_kind M s = 3 ∨ jp_kind M s = 4 := by have := jp_kind_r M s; omega
  have hw2 : w = 0 ∨ w = 1 := by omega
  have fin : ∀ (x : Option (Int × jw_M)) (v : Int) (l : List Int), (∃ N : jw_M, x = some (v, N) ∧ jp_tm M l N) → v = jp_av M s w → l = jp_al M s w → ∃ N : jw_M, x = some (jp_av M s w, N) ∧ jp_tm M (jp_al M s w) N := by
    rintro x v l ⟨N, r, t⟩ rfl rfl
    exact ⟨N, r, t⟩
  rcases hw2 with rfl | rfl <;> rcases hk with k | k | k | k
  · refine fin _ _ _ (by rw [k]; exact jm11 hA hs t0 (by decide)) ?_ ?_
    · unfold jp_av; rw [k]; simp
    · unfold jp_al; rw [k]; rfl
  · have h1 : M 133 (53 + s) = 1 := by
      unfold jp_kind at k
      split at k
      · omega
      · split at k
        · assumption
        · split at k <;> omega
    refine fin _ _ _ (by rw [k]; exact jm12 hA hs t0 (by decide) h1) ?_ ?_
    · unfold jp_av; rw [k]; simp
    · unfold jp_al; rw [k]; rfl
  · refine fin _ _ _ (by rw [k]; exact jm13 hA hs t0 (by decide) 3 (Or.inl rfl)) ?_ ?_
    · unfold jp_av; rw [k]; simp
    · unfold jp_al; rw [k]; rfl
  · refine fin _ _ _ (by rw [k]; exact jm13 hA hs t0 (by decide) 4 (Or.inr rfl)) ?_ ?_
    · unfold jp_av; rw [k]; simp
    · unfold jp_al; rw [k]; rfl
  · refine fin _ _ _ (by rw [k]; exact jm21 hA hs t0 (by decide)) ?_ ?_
    · unfold jp_av; rw [k]; simp
    · unfold jp_al; rw [k]; rfl
  · refine fin _ _ _ (by rw [k]; exact jm23 hA hs t0 (by decide)) ?_ ?_
    · unfold jp_av; rw [k]; simp
    · unfold jp_al; rw [k]; rfl
  · refine fin _ _ _ (by rw [k]; exact jm22 hA hs t0 (by decide) 3 (Or.inl rfl)) ?_ ?_
    · unfold jp_av; rw [k]; simp
    · unfold jp_al; rw [k]; rfl
  · refine fin _ _ _ (by rw [k]; exact jm22 hA hs t0 (by decide) 4 (Or.inr rfl)) ?_ ?_
    · unfold jp_av; rw [k]; simp
    · unfold jp_al; rw [k]; rfl
theorem jp_ask_f {M N N2 : jw_M} {l : List Int} (h : jp_inv M) (hl : l.length ≤ 16) (t1 : jp_tx M l N) (t2 : jp_tm (jw_up N 127 0 0) l N2) : jp_inv N2 := by
  obtain ⟨x1, x2, x3⟩ := t1
  obtain ⟨y1, y2, y3, y4⟩ := t2
  have f : ∀ k : Nat, k ≠ 125 → k ≠ 126 → k ≠ 127 → k ≠ 147 → N2 k = M k := fun k a b c d => by rw [y3 k c d, jw_up_ne _ c, x3 k a b]
  have f5 : N2 125 = N 125 := by rw [y3 _ (by decide) (by decide), jw_up_ne _ (by decide)]
  have f6 : N2 126 = N 126 := by rw [y3 _ (by decide) (by decide), jw_up_ne _ (by decide)]
  have f7 : ∀ j : Int, j ≠ 34 → j ≠ 0 → N2 127 j = M 127 j := fun j a b => by rw [y4 j a, jw_up_a, if_neg (by omega), x3 127 (by decide) (by decide)]
  obtain ⟨a, b, c, d, e, g, i⟩ := h
  refine ⟨jp_rows_fr a (f _ (by decide) (by decide) (by decide) (by decide)) (f _ (by decide) (by decide) (by decide) (by decide)) (f _ (by decide) (by decide) (by decide) (by decide)) (f _ (by decide) (by decide) (by decide) (by decide)) (f _ (by decide) (by decide) (by decide) (by decide)) (f _ (by decide) (by decide) (by decide) (by decide)), jp_tape_fr b (by rw [f 5 (by decide) (by decide) (by decide) (by decide)]) (f _ (by decide) (by decide) (by decide) (by decide)) (f7 _ (by decide) (by decide)) (f _ (by decide) (by decide) (by decide) (by decide)), ?_, ?_, jp_cur_fr e (fun k p q => f k (by omega) (by omega) (by omega) (by omega)) (f7 _ (by decide) (by decide)) (f _ (by decide) (by decide) (by decide) (by decide)) (f _ (by decide) (by decide) (by decide) (by decide)) (f _ (by decide) (by decide) (by decide) (by decide)) (f _ (by decide) (by decide) (by decide) (by decide)), jp_img_fr g (fun k p q => f k (by omega) (by omega) (by omega) (by omega)) (f _ (by decide) (by decide) (by decide) (by decide)) (f _ (by decide) (by decide) (by decide) (by decide)) (f _ (by decide) (by decide) (by decide) (by decide)) (f _ (by decide) (by decide) (by decide) (by decide)) (fun z => by rw [f7 _ (by decide) (by decide)]; exact z), jp_img_fr i (fun k p q => f k (by omega) (by omega) (by omega) (by omega)) (f _ (by decide) (by decide) (by decide) (by decide)) (f _ (by decide) (by decide) (by decide) (by decide)) (f _ (by decide) (by decide) (by decide) (by decide)) (f _ (by decide) (by decide) (by decide) (by decide)) (fun z => by rw [f7 _ (by decide) (by decide)]; exact z)⟩
  · unfold jp_outI
    rw [f 0 (by decide) (by decide) (by decide) (by decide), f7 _ (by decide) (by decide), f7 _ (by decide) (by decide)]
    exact c
  · refine ⟨by rw [f5, x1, y1], by rw [y1]; omega, by rw [y1]; omega, fun i p q => ?_⟩
    rw [y1] at q
    rw [f6, x2 i p q, y2 i p q]
theorem jp_ask {M : jw_M} (h : jp_inv M) (s w : Int) : jp_ok (fX11_ask s w M) (fX12_ask s w) := by
  have hA := jp_inv_A h
  have hA1 := jp_A_th hA 0 0
  have hABD : jp_ABD M := ⟨hA, jp_inv_B h, jp_inv_D h⟩
  obtain ⟨-, -, g4, g7⟩ := jp_A_c hA
  obtain ⟨⟨r0, r2, r3, r4, r5⟩, -⟩ := jp_A_r hA
  by_cases h1 : 0 ≤ s ∧ s < M 131 3
  · by_cases h2 : 0 ≤ w ∧ w ≤ 1
    · have t0 : jp_tx M [] (jw_up M 125 2 0) := ⟨rfl, fun i p q => by simp at q; omega, fun k a b => jw_up_ne _ a _ _⟩
      obtain ⟨N, rx, tx⟩ := jp_ask_a (N := M) hABD s h1 w h2 t0
      obtain ⟨⟨a1, a2, a3⟩, e1, e2, e3⟩ := jx_A tx hABD
      have b1 : jp_A (jw_up N 127 0 0) := jp_A_th a1 0 0
      have b2 : jp_B (jw_up N 127 0 0) := jp_B_th a2 0 0 (by rw [e1]; omega)
      have b3 : jp_D (jw_up N 127 0 0) := jp_D_th a3 0 0
      have m1 : jw_up N 127 0 0 131 = M 131 := by rw [jw_up_ne _ (by decide), e1]
      have m3 : jw_up N 127 0 0 133 = M 133 := by rw [jw_up_ne _ (by decide), e2]
      have hkd := jp_kind_e m1 m3 s
      have ev : jp_av (jw_up N 127 0 0) s w = jp_av M s w := by unfold jp_av jp_W jp_F jp_G; rw [hkd, m1, m3]
      have el : jp_al (jw_up N 127 0 0) s w = jp_al M s w := by unfold jp_al; rw [hkd]
      have t1 : jp_tm (jw_up N 127 0 0) [] (jw_up (jw_up N 127 0 0) 127 34 0) := ⟨rfl, fun i p q => by simp at q; omega, fun k a b => jw_up_ne _ a _ _, fun j a => by rw [jw_up_a, if_neg (by omega)]⟩
      have h1' : 0 ≤ s ∧ s < jw_up N 127 0 0 131 3 := by rw [m1]; exact h1
      obtain ⟨N2, rm, tm⟩ := jp_ask_m ⟨b1, b2, b3⟩ s h1' w h2 t1
      have hk2 : fX12_kindOf s (jw_up (jw_up N 127 0 0) 127 34 0) = some (jp_kind (jw_up N 127 0 0) s) := by
        have c1 := jp_A_th b1 34 0
        have c2 := jp_B_th b2 34 0 (by rw [m1]; omega)
        have c3 := jp_D_th b3 34 0
        rw [gX12_kindOf c1 c2 c3 s h1']
        rfl
      rw [ev] at rm
      rw [el] at tm
      have hx : fX11_ask s w M = some (jp_av M s w, N) := by
        unfold fX11_ask
        simp (disch := omega) only [↓jp_bs, ↓jp_b2s, ↓reduceIte, jw_up_a, Nat.reduceEqDiff, Int.reduceEq, Int.reduceLT, Int.reduceLE, Int.reduceAdd, Int.reduceSub, Int.reduceMul, Int.reduceNeg, jp_n9_1, jp_n9_8, jp_n9_15, jp_n9_21, jp_n9_24, jp_n10_1, jp_n10_2, jp_n10_3, jp_n10_4, jp_n10_5, jp_n10_6, jp_n17_1, jp_n17_2, jp_n17_3, jp_n17_4, jp_n17_5, jp_n17_6, jp_n24_1, jp_n24_2, jp_n24_3, jp_n24_4, jp_n24_5, jp_n30_1, jp_n30_2, jp_n33_1, jp_n33_2, false_and, true_and, and_true, and_false, and_self, ne_eq, not_true_eq_false, not_false_eq_true, jw_ws, jw_vs, jw_cmp_lt, jw_cmp_gt, jw_cmp_eq, jp_t1, jp_t2, jp_t3, jp_t4, jp_t5, jp_t6, ↓bX10_isSeller, g4, ↓bX11_isHalf, ↓jp_bn2 rx]
      have hy : fX12_ask s w N = some (jp_av M s w, N2) := by
        unfold fX12_ask
        rw [jp_bs, gX12_isSeller b1, if_pos h1', jp_bs, if_neg (by decide), gX12_in, if_pos h2, jp_bs, if_neg (by decide), jp_bs]
        by_cases e : w = 0
        · rw [if_pos e] at rm ⊢
          rw [hk2, jp_bs, rm]
          rfl
        · rw [if_neg e] at rm ⊢
          rw [hk2, jp_bs, rm]
          rfl
      exact ⟨_, _, _, hx, hy, jp_ask_f h (jp_al_len M s w) tx tm⟩
    · have hx : fX11_ask s w M = some (-9000000000000000001, M) := by
        unfold fX11_ask
        simp (disch := omega) only [↓jp_bs, ↓jp_b2s, ↓reduceIte, jw_up_a, Nat.reduceEqDiff, Int.reduceEq, Int.reduceLT, Int.reduceLE, Int.reduceAdd, Int.reduceSub, Int.reduceMul, Int.reduceNeg, jp_n9_1, jp_n9_8, jp_n9_15, jp_n9_21, jp_n9_24, jp_n10_1, jp_n10_2, jp_n10_3, jp_n10_4, jp_n10_5, jp_n10_6, jp_n17_1, jp_n17_2, jp_n17_3, jp_n17_4, jp_n17_5, jp_n17_6, jp_n24_1, jp_n24_2, jp_n24_3, jp_n24_4, jp_n24_5, jp_n30_1, jp_n30_2, jp_n33_1, jp_n33_2, false_and, true_and, and_true, and_false, and_self, ne_eq, not_true_eq_false, not_false_eq_true, jw_ws, jw_vs, jw_cmp_lt, jw_cmp_gt, jw_cmp_eq, jp_t1, jp_t2, jp_t3, jp_t4, jp_t5, jp_t6, ↓bX10_isSeller, g4, ↓bX11_isHalf]
      refine ⟨_, _, _, hx, ?_, jp_th h 0⟩
      unfold fX12_ask
      simp (disch := omega) only [↓jp_bs, ↓jp_b2s, ↓reduceIte, jw_up_a, Nat.reduceEqDiff, Int.reduceEq, Int.reduceLT, Int.reduceLE, Int.reduceAdd, Int.reduceSub, Int.reduceMul, Int.reduceNeg, jp_n9_1, jp_n9_8, jp_n9_15, jp_n9_21, jp_n9_24, jp_n10_1, jp_n10_2, jp_n10_3, jp_n10_4, jp_n10_5, jp_n10_6, jp_n17_1, jp_n17_2, jp_n17_3, jp_n17_4, jp_n17_5, jp_n17_6, jp_n24_1, jp_n24_2, jp_n24_3, jp_n24_4, jp_n24_5, jp_n30_1, jp_n30_2, jp_n33_1, jp_n33_2, false_and, true_and, and_true, and_false, and_self, ne_eq, not_true_eq_false, not_false_eq_true, jw_ws, jw_vs, jw_cmp_lt, jw_cmp_gt, jw_cmp_eq, jp_t1, jp_t2, jp_t3, jp_t4, jp_t5, jp_t6, ↓bX12_isSeller hA1, ↓bX12_in]
  · have hx : fX11_ask s w M = some (-9000000000000000001, M) := by
      unfold fX11_ask
      simp (disch := omega) only [↓jp_bs, ↓jp_b2s, ↓reduceIte, jw_up_a, Nat.reduceEqDiff, Int.reduceEq, Int.reduceLT, Int.reduceLE, Int.reduceAdd, Int.reduceSub, Int.reduceMul, Int.reduceNeg, jp_n9_1, jp_n9_8, jp_n9_15, jp_n9_21, jp_n9_24, jp_n10_1, jp_n10_2, jp_n10_3, jp_n10_4, jp_n10_5, jp_n10_6, jp_n17_1, jp_n17_2, jp_n17_3, jp_n17_4, jp_n17_5, jp_n17_6, jp_n24_1, jp_n24_2, jp_n24_3, jp_n24_4, jp_n24_5, jp_n30_1, jp_n30_2, jp_n33_1, jp_n33_2, false_and, true_and, and_true, and_false, and_self, ne_eq, not_true_eq_false, not_false_eq_true, jw_ws, jw_vs, jw_cmp_lt, jw_cmp_gt, jw_cmp_eq, jp_t1, jp_t2, jp_t3, jp_t4, jp_t5, jp_t6, ↓bX10_isSeller, g4]
    refine ⟨_, _, _, hx, ?_, jp_th h 0⟩
    unfold fX12_ask
    simp (disch := omega) only [↓jp_bs, ↓jp_b2s, ↓reduceIte, jw_up_a, Nat.reduceEqDiff, Int.reduceEq, Int.reduceLT, Int.reduceLE, Int.reduceAdd, Int.reduceSub, Int.reduceMul, Int.reduceNeg, jp_n9_1, jp_n9_8, jp_n9_15, jp_n9_21, jp_n9_24, jp_n10_1, jp_n10_2, jp_n10_3, jp_n10_4, jp_n10_5, jp_n10_6, jp_n17_1, jp_n17_2, jp_n17_3, jp_n17_4, jp_n17_5, jp_n17_6, jp_n24_1, jp_n24_2, jp_n24_3, jp_n24_4, jp_n24_5, jp_n30_1, jp_n30_2, jp_n33_1, jp_n33_2, false_and, true_and, and_true, and_false, and_self, ne_eq, not_true_eq_false, not_false_eq_true, jw_ws, jw_vs, jw_cmp_lt, jw_cmp_gt, jw_cmp_eq, jp_t1, jp_t2, jp_t3, jp_t4, jp_t5, jp_t6, ↓bX12_isSeller hA1, ↓bX12_in]
