/-! ask: bodies that begin, one within another -/
theorem jp_gd (l : List Int) (n i : Int) (h0 : 0 ≤ i) (h1 : i < ((l ++ [n]).length : Int)) : (l ++ [n]).getD i.toNat 0 = if i = (l.length : Int) then n else l.getD i.toNat 0 := by
  rw [List.length_append] at h1
  simp only [List.length_cons, List.length_nil] at h1
  rw [List.getD_eq_getElem?_getD, List.getD_eq_getElem?_getD, List.getElem?_append]
  by_cases e : i = (l.length : Int)
  · rw [if_pos e, if_neg (by omega), show i.toNat - l.length = 0 by omega]
    rfl
  · rw [if_neg e, if_pos (by omega)]
def jp_tx (M0 : jw_M) (l : List Int) (M : jw_M) : Prop := M 125 2 = (l.length : Int) ∧ (∀ i : Int, 0 ≤ i → i < (l.length : Int) → M 126 i = l.getD i.toNat 0) ∧ (∀ k : Nat, k ≠ 125 → k ≠ 126 → M k = M0 k)
def jp_tm (M0 : jw_M) (l : List Int) (M : jw_M) : Prop := M 127 34 = (l.length : Int) ∧ (∀ i : Int, 0 ≤ i → i < (l.length : Int) → M 147 i = l.getD i.toNat 0) ∧ (∀ k : Nat, k ≠ 127 → k ≠ 147 → M k = M0 k) ∧ (∀ j : Int, j ≠ 34 → M 127 j = M0 127 j)
theorem jp_len1 (l : List Int) (n : Int) : ((l ++ [n]).length : Int) = (l.length : Int) + 1 := by
  rw [List.length_append]
  simp
theorem jx_b {M0 M : jw_M} {l : List Int} (h : jp_tx M0 l M) (hl : l.length < 16) (n : Int) : ∃ N : jw_M, fX0_begins n M = some N ∧ jp_tx M0 (l ++ [n]) N := by
  obtain ⟨t1, t2, t3⟩ := h
  unfold fX0_begins
  simp (disch := omega) only [↓jp_bs, ↓jp_b2s, ↓reduceIte, jw_up_a, Nat.reduceEqDiff, Int.reduceEq, Int.reduceLT, Int.reduceLE, Int.reduceAdd, Int.reduceSub, Int.reduceMul, Int.reduceNeg, jp_n9_1, jp_n9_8, jp_n9_15, jp_n9_21, jp_n9_24, jp_n10_1, jp_n10_2, jp_n10_3, jp_n10_4, jp_n10_5, jp_n10_6, jp_n17_1, jp_n17_2, jp_n17_3, jp_n17_4, jp_n17_5, jp_n17_6, jp_n24_1, jp_n24_2, jp_n24_3, jp_n24_4, jp_n24_5, jp_n30_1, jp_n30_2, jp_n33_1, jp_n33_2, false_and, true_and, and_true, and_false, and_self, ne_eq, not_true_eq_false, not_false_eq_true, jw_ws, jw_vs, jw_cmp_lt, jw_cmp_gt, jw_cmp_eq, jp_t1, jp_t2, jp_t3, jp_t4, jp_t5, jp_t6]
  refine ⟨_, rfl, ?_, fun i p q => ?_, fun k c d => ?_⟩
  · rw [jp_len1]
    simp (disch := omega) only [↓jp_bs, ↓jp_b2s, ↓reduceIte, jw_up_a, Nat.reduceEqDiff, Int.reduceEq, Int.reduceLT, Int.reduceLE, Int.reduceAdd, Int.reduceSub, Int.reduceMul, Int.reduceNeg, jp_n9_1, jp_n9_8, jp_n9_15, jp_n9_21, jp_n9_24, jp_n10_1, jp_n10_2, jp_n10_3, jp_n10_4, jp_n10_5, jp_n10_6, jp_n17_1, jp_n17_2, jp_n17_3, jp_n17_4, jp_n17_5, jp_n17_6, jp_n24_1, jp_n24_2, jp_n24_3, jp_n24_4, jp_n24_5, jp_n30_1, jp_n30_2, jp_n33_1, jp_n33_2, false_and, true_and, and_true, and_false, and_self, ne_eq, not_true_eq_false, not_false_eq_true, jw_ws, jw_vs, jw_cmp_lt, jw_cmp_gt, jw_cmp_eq, jp_t1, jp_t2, jp_t3, jp_t4, jp_t5, jp_t6]
  · rw [jp_gd l n i p q]
    rw [jp_len1] at q
    rw [jw_up_ne _ (by decide), jw_up_eq, jw_u1_a, t1]
    by_cases e : i = (l.length : Int)
    · rw [if_pos e, if_pos e]
    · rw [if_neg e, if_neg e, t2 i p (by omega)]
  · rw [jw_up_ne _ c, jw_up_ne _ d, t3 k c d]
theorem jm_b {M0 M : jw_M} {l : List Int} (h : jp_tm M0 l M) (hl : l.length < 16) (n : Int) : ∃ N : jw_M, fX12_began n M = some N ∧ jp_tm M0 (l ++ [n]) N := by
  obtain ⟨t1, t2, t3, t4⟩ := h
  unfold fX12_began
  simp (disch := omega) only [↓jp_bs, ↓jp_b2s, ↓reduceIte, jw_up_a, Nat.reduceEqDiff, Int.reduceEq, Int.reduceLT, Int.reduceLE, Int.reduceAdd, Int.reduceSub, Int.reduceMul, Int.reduceNeg, jp_n9_1, jp_n9_8, jp_n9_15, jp_n9_21, jp_n9_24, jp_n10_1, jp_n10_2, jp_n10_3, jp_n10_4, jp_n10_5, jp_n10_6, jp_n17_1, jp_n17_2, jp_n17_3, jp_n17_4, jp_n17_5, jp_n17_6, jp_n24_1, jp_n24_2, jp_n24_3, jp_n24_4, jp_n24_5, jp_n30_1, jp_n30_2, jp_n33_1, jp_n33_2, false_and, true_and, and_true, and_false, and_self, ne_eq, not_true_eq_false, not_false_eq_true, jw_ws, jw_vs, jw_cmp_lt, jw_cmp_gt, jw_cmp_eq, jp_t1, jp_t2, jp_t3, jp_t4, jp_t5, jp_t6]
  refine ⟨_, rfl, ?_, fun i p q => ?_, fun k c d => ?_, fun j c => ?_⟩
  · rw [jp_len1]
    simp (disch := omega) only [↓jp_bs, ↓jp_b2s, ↓reduceIte, jw_up_a, Nat.reduceEqDiff, Int.reduceEq, Int.reduceLT, Int.reduceLE, Int.reduceAdd, Int.reduceSub, Int.reduceMul, Int.reduceNeg, jp_n9_1, jp_n9_8, jp_n9_15, jp_n9_21, jp_n9_24, jp_n10_1, jp_n10_2, jp_n10_3, jp_n10_4, jp_n10_5, jp_n10_6, jp_n17_1, jp_n17_2, jp_n17_3, jp_n17_4, jp_n17_5, jp_n17_6, jp_n24_1, jp_n24_2, jp_n24_3, jp_n24_4, jp_n24_5, jp_n30_1, jp_n30_2, jp_n33_1, jp_n33_2, false_and, true_and, and_true, and_false, and_self, ne_eq, not_true_eq_false, not_false_eq_true, jw_ws, jw_vs, jw_cmp_lt, jw_cmp_gt, jw_cmp_eq, jp_t1, jp_t2, jp_t3, jp_t4, jp_t5, jp_t6]
  · rw [jp_gd l n i p q]
    rw [jp_len1] at q
    rw [jw_up_ne _ (by decide), jw_up_eq, jw_u1_a, t1]
    by_cases e : i = (l.length : Int)
    · rw [if_pos e, if_pos e]
    · rw [if_neg e, if_neg e, t2 i p (by omega)]
  · rw [jw_up_ne _ c, jw_up_ne _ d, t3 k c d]
  · rw [jw_up_a, if_neg (by omega), jw_up_ne _ (by decide), t4 j c]
def jp_ABD (M : jw_M) : Prop := jp_A M ∧ jp_B M ∧ jp_D M
theorem jx_A {M0 M : jw_M} {l : List Int} (h : jp_tx M0 l M) (hA : jp_ABD M0) : jp_ABD M ∧ M 131 = M0 131 ∧ M 133 = M0 133 ∧ M 22 = M0 22 := by
  have f := h.2.2
  have r := (jp_A_r hA.1).1
  exact ⟨⟨jp_A_fr hA.1 (fun k p q => f k (by omega) (by omega)) (f _ (by decide) (by decide)) (f _ (by decide) (by decide)) (f _ (by decide) (by decide)), jp_B_fr hA.2.1 (f _ (by decide) (by decide)) (f _ (by decide) (by decide)) (f _ (by decide) (by decide)) (fun j _ _ => by rw [f _ (by decide) (by decide)]) (by omega), jp_D_fr hA.2.2 (fun k p q => f k (by omega) (by omega)) (f _ (by decide) (by decide)) (f _ (by decide) (by decide))⟩, f _ (by decide) (by decide), f _ (by decide) (by decide), f _ (by decide) (by decide)⟩
theorem jm_A {M0 M : jw_M} {l : List Int} (h : jp_tm M0 l M) (hA : jp_ABD M0) : jp_ABD M ∧ M 131 = M0 131 ∧ M 133 = M0 133 := by
  have f := h.2.2.1
  have r := (jp_A_r hA.1).1
  exact ⟨⟨jp_A_fr hA.1 (fun k p q => f k (by omega) (by omega)) (f _ (by decide) (by decide)) (f _ (by decide) (by decide)) (f _ (by decide) (by decide)), jp_B_fr hA.2.1 (f _ (by decide) (by decide)) (f _ (by decide) (by decide)) (f _ (by decide) (by decide)) (fun j _ _ => by rw [f _ (by decide) (by decide)]) (by omega), jp_D_fr hA.2.2 (fun k p q => f k (by omega) (by omega)) (f _ (by decide) (by decide)) (f _ (by decide) (by decide))⟩, f _ (by decide) (by decide), f _ (by decide) (by decide)⟩
theorem jp_kind_e {M M0 : jw_M} (h1 : M 131 = M0 131) (h2 : M 133 = M0 133) (s : Int) : jp_kind M s = jp_kind M0 s := by
  unfold jp_kind
  rw [h1, h2]
def jp_W (M : jw_M) (s : Int) : Int := M 131 (64 + 3 * M 131 (90 + s))
def jp_F (M : jw_M) (s : Int) : Int := M 131 (65 + 3 * M 131 (90 + s))
theorem jp_WF {M : jw_M} (hA : jp_A M) {s : Int} (hs : 0 ≤ s ∧ s < M 131 3) : (1 ≤ jp_W M s ∧ jp_W M s ≤ 99) ∧ (0 ≤ jp_F M s ∧ jp_F M s ≤ 99) := (jp_gds hA hs).2
section
variable {M0 M : jw_M} {l : List Int} {s : Int}
theorem jx10 (hA : jp_ABD M0) (hs : 0 ≤ s ∧ s < M0 131 3) (h : jp_tx M0 l M) (hl : l.length < 16) (k : Nat) (d : Int) (hd : 0 ≤ d ∧ d ≤ 16) : ∃ N : jw_M, fX0_body (k + 1) 10 s d M = some (jp_W M0 s, N) ∧ jp_tx M0 (l ++ [10]) N := by
  obtain ⟨N, r, t⟩ := jx_b h hl 10
  obtain ⟨⟨a1, a2, a3⟩, e1, e2, e3⟩ := jx_A t hA
  have hs' : 0 ≤ s ∧ s < N 131 3 := by rw [e1]; exact hs
  refine ⟨N, ?_, t⟩
  rw [fX0_body]
  unfold bX0_body jp_W
  simp (disch := omega) only [↓jp_bs, ↓jp_b2s, ↓reduceIte, jw_up_a, Nat.reduceEqDiff, Int.reduceEq, Int.reduceLT, Int.reduceLE, Int.reduceAdd, Int.reduceSub, Int.reduceMul, Int.reduceNeg, jp_n9_1, jp_n9_8, jp_n9_15, jp_n9_21, jp_n9_24, jp_n10_1, jp_n10_2, jp_n10_3, jp_n10_4, jp_n10_5, jp_n10_6, jp_n17_1, jp_n17_2, jp_n17_3, jp_n17_4, jp_n17_5, jp_n17_6, jp_n24_1, jp_n24_2, jp_n24_3, jp_n24_4, jp_n24_5, jp_n30_1, jp_n30_2, jp_n33_1, jp_n33_2, false_and, true_and, and_true, and_false, and_self, ne_eq, not_true_eq_false, not_false_eq_true, jw_ws, jw_vs, jw_cmp_lt, jw_cmp_gt, jw_cmp_eq, jp_t1, jp_t2, jp_t3, jp_t4, jp_t5, jp_t6, ↓jp_bnd r, ↓bX10_worthOf a1]
  rw [e1]
theorem jx20 (h : jp_tx M0 l M) (hl : l.length < 16) (k : Nat) (d : Int) (hd : 0 ≤ d ∧ d ≤ 16) : ∃ N : jw_M, fX0_body (k + 1) 20 s d M = some (s, N) ∧ jp_tx M0 (l ++ [20]) N := by
  obtain ⟨N, r, t⟩ := jx_b h hl 20
  refine ⟨N, ?_, t⟩
  rw [fX0_body]
  unfold bX0_body
  simp (disch := omega) only [↓jp_bs, ↓jp_b2s, ↓reduceIte, jw_up_a, Nat.reduceEqDiff, Int.reduceEq, Int.reduceLT, Int.reduceLE, Int.reduceAdd, Int.reduceSub, Int.reduceMul, Int.reduceNeg, jp_n9_1, jp_n9_8, jp_n9_15, jp_n9_21, jp_n9_24, jp_n10_1, jp_n10_2, jp_n10_3, jp_n10_4, jp_n10_5, jp_n10_6, jp_n17_1, jp_n17_2, jp_n17_3, jp_n17_4, jp_n17_5, jp_n17_6, jp_n24_1, jp_n24_2, jp_n24_3, jp_n24_4, jp_n24_5, jp_n30_1, jp_n30_2, jp_n33_1, jp_n33_2, false_and, true_and, and_true, and_false, and_self, ne_eq, not_true_eq_false, not_false_eq_true, jw_ws, jw_vs, jw_cmp_lt, jw_cmp_gt, jw_cmp_eq, jp_t1, jp_t2, jp_t3, jp_t4, jp_t5, jp_t6, ↓jp_bnd r]
theorem jx21 (hA : jp_ABD M0) (hs : 0 ≤ s ∧ s < M0 131 3) (h : jp_tx M0 l M) (hl : l.length < 15) (k : Nat) (d : Int) (hd : 0 ≤ d ∧ d ≤ 15) : ∃ N : jw_M, fX0_body (k + 2) 21 s d M = some (s + 10 * M0 133 s, N) ∧ jp_tx M0 (l ++ [21] ++ [20]) N := by
  obtain ⟨N, r, t⟩ := jx_b h (by omega) 21
  obtain ⟨N2, r2, t2⟩ := jx20 (s := s) t (by have := jp_len1 l 21; omega) k (d + 1) (by omega)
  obtain ⟨⟨a1, a2, a3⟩, e1, e2, e3⟩ := jx_A t2 hA
  have hr := (jp_A_r hA.1).1
  have hb := hA.2.1.1 s hs.1 hs.2
  refine ⟨N2, ?_, t2⟩
  rw [fX0_body]
  unfold bX0_body
  simp (disch := omega) only [↓jp_bs, ↓jp_b2s, ↓reduceIte, jw_up_a, Nat.reduceEqDiff, Int.reduceEq, Int.reduceLT, Int.reduceLE, Int.reduceAdd, Int.reduceSub, Int.reduceMul, Int.reduceNeg, jp_n9_1, jp_n9_8, jp_n9_15, jp_n9_21, jp_n9_24, jp_n10_1, jp_n10_2, jp_n10_3, jp_n10_4, jp_n10_5, jp_n10_6, jp_n17_1, jp_n17_2, jp_n17_3, jp_n17_4, jp_n17_5, jp_n17_6, jp_n24_1, jp_n24_2, jp_n24_3, jp_n24_4, jp_n24_5, jp_n30_1, jp_n30_2, jp_n33_1, jp_n33_2, false_and, true_and, and_true, and_false, and_self, ne_eq, not_true_eq_false, not_false_eq_true, jw_ws, jw_vs, jw_cmp_lt, jw_cmp_gt, jw_cmp_eq, jp_t1, jp_t2, jp_t3, jp_t4, jp_t5, jp_t6, ↓jp_bnd r, ↓jp_bn2 r2, e3, hb.1]
theorem jx23 (hA : jp_ABD M0) (hs : 0 ≤ s ∧ s < M0 131 3) (h : jp_tx M0 l M) (hl : l.length < 14) (k : Nat) (d : Int) (hd : 0 ≤ d ∧ d ≤ 14) : ∃ N : jw_M, fX0_body (k + 3) 23 s d M = some (s + 10 * M0 133 s + 500, N) ∧ jp_tx M0 (l ++ [23] ++ [21] ++ [20]) N := by
  obtain ⟨N, r, t⟩ := jx_b h (by omega) 23
  obtain ⟨N2, r2, t2⟩ := jx21 hA hs t (by have := jp_len1 l 23; omega) k (d + 1) (by omega)
  have hr := (jp_A_r hA.1).1
  have hb := hA.2.1.1 s hs.1 hs.2
  refine ⟨N2, ?_, t2⟩
  rw [fX0_body]
  unfold bX0_body
  simp (disch := omega) only [↓jp_bs, ↓jp_b2s, ↓reduceIte, jw_up_a, Nat.reduceEqDiff, Int.reduceEq, Int.reduceLT, Int.reduceLE, Int.reduceAdd, Int.reduceSub, Int.reduceMul, Int.reduceNeg, jp_n9_1, jp_n9_8, jp_n9_15, jp_n9_21, jp_n9_24, jp_n10_1, jp_n10_2, jp_n10_3, jp_n10_4, jp_n10_5, jp_n10_6, jp_n17_1, jp_n17_2, jp_n17_3, jp_n17_4, jp_n17_5, jp_n17_6, jp_n24_1, jp_n24_2, jp_n24_3, jp_n24_4, jp_n24_5, jp_n30_1, jp_n30_2, jp_n33_1, jp_n33_2, false_and, true_and, and_true, and_false, and_self, ne_eq, not_true_eq_false, not_false_eq_true, jw_ws, jw_vs, jw_cmp_lt, jw_cmp_gt, jw_cmp_eq, jp_t1, jp_t2, jp_t3, jp_t4, jp_t5, jp_t6, ↓jp_bnd r, ↓jp_bn2 r2]
theorem jx13 (hA : jp_ABD M0) (hs : 0 ≤ s ∧ s < M0 131 3) (h : jp_tx M0 l M) (hl : l.length < 15) (k : Nat) (d : Int) (hd : 0 ≤ d ∧ d ≤ 15) : ∃ N : jw_M, fX0_body (k + 2) 13 s d M = some (-(jp_W M0 s + jp_F M0 s), N) ∧ jp_tx M0 (l ++ [13] ++ [10]) N := by
  obtain ⟨N, r, t⟩ := jx_b h (by omega) 13
  obtain ⟨N2, r2, t2⟩ := jx10 hA hs t (by have := jp_len1 l 13; omega) k (d + 1) (by omega)
  obtain ⟨⟨a1, a2, a3⟩, e1, e2, e3⟩ := jx_A t2 hA
  have hs' : 0 ≤ s ∧ s < N2 131 3 := by rw [e1]; exact hs
  have hw := jp_WF hA.1 hs
  have hf : N2 131 (65 + 3 * N2 131 (90 + s)) = jp_F M0 s := by rw [e1]; rfl
  refine ⟨N2, ?_, t2⟩
  rw [fX0_body]
  unfold bX0_body
  simp (disch := omega) only [↓jp_bs, ↓jp_b2s, ↓reduceIte, jw_up_a, Nat.reduceEqDiff, Int.reduceEq, Int.reduceLT, Int.reduceLE, Int.reduceAdd, Int.reduceSub, Int.reduceMul, Int.reduceNeg, jp_n9_1, jp_n9_8, jp_n9_15, jp_n9_21, jp_n9_24, jp_n10_1, jp_n10_2, jp_n10_3, jp_n10_4, jp_n10_5, jp_n10_6, jp_n17_1, jp_n17_2, jp_n17_3, jp_n17_4, jp_n17_5, jp_n17_6, jp_n24_1, jp_n24_2, jp_n24_3, jp_n24_4, jp_n24_5, jp_n30_1, jp_n30_2, jp_n33_1, jp_n33_2, false_and, true_and, and_true, and_false, and_self, ne_eq, not_true_eq_false, not_false_eq_true, jw_ws, jw_vs, jw_cmp_lt, jw_cmp_gt, jw_cmp_eq, jp_t1, jp_t2, jp_t3, jp_t4, jp_t5, jp_t6, ↓jp_bnd r, ↓jp_bn2 r2, ↓bX10_fineOf a1, hf]
  rw [show -jp_W M0 s - jp_F M0 s = -(jp_W M0 s + jp_F M0 s) by omega]
theorem jx14 (hA : jp_ABD M0) (hs : 0 ≤ s ∧ s < M0 131 3) (h : jp_tx M0 l M) (hl : l.length < 14) (k : Nat) (d : Int) (hd : 0 ≤ d ∧ d ≤ 14) : ∃ N : jw_M, fX0_body (k + 3) 14 s d M = some (-2 * (jp_W M0 s + jp_F M0 s), N) ∧ jp_tx M0 (l ++ [14] ++ [13] ++ [10]) N := by
  obtain ⟨N, r, t⟩ := jx_b h (by omega) 14
  obtain ⟨N2, r2, t2⟩ := jx13 hA hs t (by have := jp_len1 l 14; omega) k (d + 1) (by omega)
  have hw := jp_WF hA.1 hs
  refine ⟨N2, ?_, t2⟩
  rw [fX0_body]
  unfold bX0_body
  simp (disch := omega) only [↓jp_bs, ↓jp_b2s, ↓reduceIte, jw_up_a, Nat.reduceEqDiff, Int.reduceEq, Int.reduceLT, Int.reduceLE, Int.reduceAdd, Int.reduceSub, Int.reduceMul, Int.reduceNeg, jp_n9_1, jp_n9_8, jp_n9_15, jp_n9_21, jp_n9_24, jp_n10_1, jp_n10_2, jp_n10_3, jp_n10_4, jp_n10_5, jp_n10_6, jp_n17_1, jp_n17_2, jp_n17_3, jp_n17_4, jp_n17_5, jp_n17_6, jp_n24_1, jp_n24_2, jp_n24_3, jp_n24_4, jp_n24_5, jp_n30_1, jp_n30_2, jp_n33_1, jp_n33_2, false_and, true_and, and_true, and_false, and_self, ne_eq, not_true_eq_false, not_false_eq_true, jw_ws, jw_vs, jw_cmp_lt, jw_cmp_gt, jw_cmp_eq, jp_t1, jp_t2, jp_t3, jp_t4, jp_t5, jp_t6, ↓jp_bnd r, ↓jp_bn2 r2]
  rw [show 2 * -(jp_W M0 s + jp_F M0 s) = -2 * (jp_W M0 s + jp_F M0 s) by omega]
theorem jx_k (hA : jp_ABD M0) (hs : 0 ≤ s ∧ s < M0 131 3) (t : jp_tx M0 l M) : fX0_kindOf s M = some (jp_kind M0 s) := by
  obtain ⟨⟨a1, a2, a3⟩, e1, e2, e3⟩ := jx_A t hA
  rw [gX0_kindOf a1 a2 a3 s (by rw [e1]; exact hs), jp_kind_e e1 e2]
theorem jx22 (hA : jp_ABD M0) (hs : 0 ≤ s ∧ s < M0 131 3) (h : jp_tx M0 l M) (hl : l.length < 10) (k : Nat) (d : Int) (hd : 0 ≤ d ∧ d ≤ 10) (hk : jp_kind M0 s = 3 ∨ jp_kind M0 s = 4) : ∃ N : jw_M, fX0_body (k + 4) 22 s d M = some (s - (if jp_kind M0 s = 4 then -2 * (jp_W M0 s + jp_F M0 s) else -(jp_W M0 s + jp_F M0 s)), N) ∧ jp_tx M0 (if jp_kind M0 s = 4 then l ++ [22] ++ [20] ++ [14] ++ [13] ++ [10] else l ++ [22] ++ [20] ++ [13] ++ [10]) N := by
  obtain ⟨N, r, t⟩ := jx_b h (by omega) 22
  obtain ⟨N2, r2, t2⟩ := jx20 (s := s) t (by have := jp_len1 l 22; omega) (k + 2) (d + 1) (by omega)
  have hr := (jp_A_r hA.1).1
  have hw := jp_WF hA.1 hs
  have hk2 := jx_k hA hs t2
  have l2 : (l ++ [22] ++ [20]).length < 13 := by have := jp_len1 l 22; have := jp_len1 (l ++ [22]) 20; omega
  rcases hk with hk | hk
  · rw [hk] at hk2 ⊢
    obtain ⟨N3, r3, t3⟩ := jx13 hA hs t2 (by omega) (k + 1) (d + 1) (by omega)
    refine ⟨N3, ?_, t3⟩
    rw [fX0_body]
    unfold bX0_body
    simp (disch := omega) only [↓jp_bs, ↓jp_b2s, ↓reduceIte, jw_up_a, Nat.reduceEqDiff, Int.reduceEq, Int.reduceLT, Int.reduceLE, Int.reduceAdd, Int.reduceSub, Int.reduceMul, Int.reduceNeg, jp_n9_1, jp_n9_8, jp_n9_15, jp_n9_21, jp_n9_24, jp_n10_1, jp_n10_2, jp_n10_3, jp_n10_4, jp_n10_5, jp_n10_6, jp_n17_1, jp_n17_2, jp_n17_3, jp_n17_4, jp_n17_5, jp_n17_6, jp_n24_1, jp_n24_2, jp_n24_3, jp_n24_4, jp_n24_5, jp_n30_1, jp_n30_2, jp_n33_1, jp_n33_2, false_and, true_and, and_true, and_false, and_self, ne_eq, not_true_eq_false, not_false_eq_true, jw_ws, jw_vs, jw_cmp_lt, jw_cmp_gt, jw_cmp_eq, jp_t1, jp_t2, jp_t3, jp_t4, jp_t5, jp_t6, ↓jp_bnd r, ↓jp_bn2 r2, ↓jp_bnd hk2, show jw_x5.getD (3 : Int).toNat 0 = 13 from rfl, ↓jp_bn2 r3]
  · rw [hk] at hk2 ⊢
    obtain ⟨N3, r3, t3⟩ := jx14 hA hs t2 (by omega) k (d + 1) (by omega)
    refine ⟨N3, ?_, t3⟩
    rw [fX0_body]
    unfold bX0_body
    simp (disch := omega) only [↓jp_bs, ↓jp_b2s, ↓reduceIte, jw_up_a, Nat.reduceEqDiff, Int.reduceEq, Int.reduceLT, Int.reduceLE, Int.reduceAdd, Int.reduceSub, Int.reduceMul, Int.reduceNeg, jp_n9_1, jp_n9_8, jp_n9_15, jp_n9_21, jp_n9_24, jp_n10_1, jp_n10_2, jp_n10_3, jp_n10_4, jp_n10_5, jp_n10_6, jp_n17_1, jp_n17_2, jp_n17_3, jp_n17_4, jp_n17_5, jp_n17_6, jp_n24_1, jp_n24_2, jp_n24_3, jp_n24_4, jp_n24_5, jp_n30_1, jp_n30_2, jp_n33_1, jp_n33_2, false_and, true_and, and_true, and_false, and_self, ne_eq, not_true_eq_false, not_false_eq_true, jw_ws, jw_vs, jw_cmp_lt, jw_cmp_gt, jw_cmp_eq, jp_t1, jp_t2, jp_t3, jp_t4, jp_t5, jp_t6, ↓jp_bnd r, ↓jp_bn2 r2, ↓jp_bnd hk2, show jw_x5.getD (4 : Int).toNat 0 = 14 from rfl, ↓jp_bn2 r3]
theorem jx11 (hA : jp_ABD M0) (hs : 0 ≤ s ∧ s < M0 131 3) (h : jp_tx M0 l M) (hl : l.length < 8) (k : Nat) (d : Int) (hd : 0 ≤ d ∧ d ≤ 8) (hk : jp_kind M0 s = 1 ∨ jp_kind M0 s = 2) : ∃ N : jw_M, fX0_body (k + 4) 11 s d M = some (jp_W M0 s + (s + 10 * M0 133 s + (if jp_kind M0 s = 2 then 500 else 0)), N) ∧ jp_tx M0 (if jp_kind M0 s = 2 then l ++ [11] ++ [10] ++ [23] ++ [21] ++ [20] else l ++ [11] ++ [10] ++ [21] ++ [20]) N := by
  obtain ⟨N, r, t⟩ := jx_b h (by omega) 11
  obtain ⟨N2, r2, t2⟩ := jx10 hA hs t (by have := jp_len1 l 11; omega) (k + 2) (d + 1) (by omega)
  have hr := (jp_A_r hA.1).1
  have hw := jp_WF hA.1 hs
  have hb := hA.2.1.1 s hs.1 hs.2
  have hk2 := jx_k hA hs t2
  have l2 : (l ++ [11] ++ [10]).length < 13 := by have := jp_len1 l 11; have := jp_len1 (l ++ [11]) 10; omega
  rcases hk with hk | hk
  · rw [hk] at hk2 ⊢
    obtain ⟨N3, r3, t3⟩ := jx21 hA hs t2 (by omega) (k + 1) (d + 1) (by omega)
    refine ⟨N3, ?_, t3⟩
    rw [fX0_body]
    unfold bX0_body
    simp (disch := omega) only [↓jp_bs, ↓jp_b2s, ↓reduceIte, jw_up_a, Nat.reduceEqDiff, Int.reduceEq, Int.reduceLT, Int.reduceLE, Int.reduceAdd, Int.reduceSub, Int.reduceMul, Int.reduceNeg, jp_n9_1, jp_n9_8, jp_n9_15, jp_n9_21, jp_n9_24, jp_n10_1, jp_n10_2, jp_n10_3, jp_n10_4, jp_n10_5, jp_n10_6, jp_n17_1, jp_n17_2, jp_n17_3, jp_n17_4, jp_n17_5, jp_n17_6, jp_n24_1, jp_n24_2, jp_n24_3, jp_n24_4, jp_n24_5, jp_n30_1, jp_n30_2, jp_n33_1, jp_n33_2, false_and, true_and, and_true, and_false, and_self, ne_eq, not_true_eq_false, not_false_eq_true, jw_ws, jw_vs, jw_cmp_lt, jw_cmp_gt, jw_cmp_eq, jp_t1, jp_t2, jp_t3, jp_t4, jp_t5, jp_t6, ↓jp_bnd r, ↓jp_bn2 r2, ↓jp_bnd hk2, show jw_x6.getD (1 : Int).toNat 0 = 21 from rfl, ↓jp_bn2 r3]
    rw [Int.add_zero]
  · rw [hk] at hk2 ⊢
    obtain ⟨N3, r3, t3⟩ := jx23 hA hs t2 (by omega) k (d + 1) (by omega)
    refine ⟨N3, ?_, t3⟩
    rw [fX0_body]
    unfold bX0_body
    simp (disch := omega) only [↓jp_bs, ↓jp_b2s, ↓reduceIte, jw_up_a, Nat.reduceEqDiff, Int.reduceEq, Int.reduceLT, Int.reduceLE, Int.reduceAdd, Int.reduceSub, Int.reduceMul, Int.reduceNeg, jp_n9_1, jp_n9_8, jp_n9_15, jp_n9_21, jp_n9_24, jp_n10_1, jp_n10_2, jp_n10_3, jp_n10_4, jp_n10_5, jp_n10_6, jp_n17_1, jp_n17_2, jp_n17_3, jp_n17_4, jp_n17_5, jp_n17_6, jp_n24_1, jp_n24_2, jp_n24_3, jp_n24_4, jp_n24_5, jp_n30_1, jp_n30_2, jp_n33_1, jp_n33_2, false_and, true_and, and_true, and_false, and_self, ne_eq, not_true_eq_false, not_false_eq_true, jw_ws, jw_vs, jw_cmp_lt, jw_cmp_gt, jw_cmp_eq, jp_t1, jp_t2, jp_t3, jp_t4, jp_t5, jp_t6, ↓jp_bnd r, ↓jp_bn2 r2, ↓jp_bnd hk2, show jw_x6.getD (2 : Int).toNat 0 = 23 from rfl, ↓jp_bn2 r3]
def jp_G (M : jw_M) (s : Int) : Int := M 131 (63 + 3 * M 131 (90 + s)) + M 131 88
theorem jx12 (hA : jp_ABD M0) (hs : 0 ≤ s ∧ s < M0 131 3) (h : jp_tx M0 l M) (hl : l.length < 7) (k : Nat) (d : Int) (hd : 0 ≤ d ∧ d ≤ 7) (hk : jp_kind M0 s = 2) : ∃ N : jw_M, fX0_body (k + 5) 12 s d M = some (jp_W M0 s + (s + 10 * M0 133 s + 500) - jp_G M0 s, N) ∧ jp_tx M0 (l ++ [12] ++ [11] ++ [10] ++ [23] ++ [21] ++ [20]) N := by
  obtain ⟨N, r, t⟩ := jx_b h (by omega) 12
  obtain ⟨N2, r2, t2⟩ := jx11 hA hs t (by have := jp_len1 l 12; omega) k (d + 1) (by omega) (Or.inr hk)
  have hr := jp_A_r hA.1
  have hw := jp_WF hA.1 hs
  have hg := jp_gds hA.1 hs
  have hb := hA.2.1.1 s hs.1 hs.2
  rw [hk] at r2 t2
  obtain ⟨⟨a1, a2, a3⟩, e1, e2, e3⟩ := jx_A t2 hA
  have hs' : 0 ≤ s ∧ s < N2 131 3 := by rw [e1]; exact hs
  have hg2 : N2 131 (63 + 3 * N2 131 (90 + s)) + N2 131 88 = jp_G M0 s := by rw [e1]; rfl
  have hg3 : 0 ≤ jp_G M0 s ∧ jp_G M0 s ≤ 100 := by unfold jp_G; omega
  refine ⟨N2, ?_, t2⟩
  rw [fX0_body]
  unfold bX0_body
  simp only [if_true] at r2
  simp (disch := omega) only [↓jp_bs, ↓jp_b2s, ↓reduceIte, jw_up_a, Nat.reduceEqDiff, Int.reduceEq, Int.reduceLT, Int.reduceLE, Int.reduceAdd, Int.reduceSub, Int.reduceMul, Int.reduceNeg, jp_n9_1, jp_n9_8, jp_n9_15, jp_n9_21, jp_n9_24, jp_n10_1, jp_n10_2, jp_n10_3, jp_n10_4, jp_n10_5, jp_n10_6, jp_n17_1, jp_n17_2, jp_n17_3, jp_n17_4, jp_n17_5, jp_n17_6, jp_n24_1, jp_n24_2, jp_n24_3, jp_n24_4, jp_n24_5, jp_n30_1, jp_n30_2, jp_n33_1, jp_n33_2, false_and, true_and, and_true, and_false, and_self, ne_eq, not_true_eq_false, not_false_eq_true, jw_ws, jw_vs, jw_cmp_lt, jw_cmp_gt, jw_cmp_eq, jp_t1, jp_t2, jp_t3, jp_t4, jp_t5, jp_t6, ↓jp_bnd r, ↓jp_bn2 r2, ↓bX7_minutesGone a1, hg2]
end
