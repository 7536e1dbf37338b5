/-! ways of escape: the call -/
theorem jp_fl_14 {T : Int → Int} {a b : Int} (ha : 0 ≤ a ∧ a < 7) (hb : 0 ≤ b ∧ b < 7) {R : Int → Int} {n : Int} (h : jp_fl T a b R n) : n ≤ 14 := by
  have h3 := h.2.2 (7 + a) (by omega) (by omega)
  rw [if_pos rfl, if_neg (by omega), Int.sub_zero] at h3
  have := (jp_sum_lt (f := fun q => jp_cap T a b (7 + a) q - R (14 * (7 + a) + q)) (g := fun _ => 1) 14 (fun q q0 q1 => by
    have h1 := h.1 (7 + a) q (by omega) (by omega) q0 (by omega)
    have h2 := jp_cap_3 T a b q ha.1
    show jp_cap T a b (7 + a) q - R (14 * (7 + a) + q) ≤ 1
    rw [h2]
    split <;> omega)).1
  rw [jp_sum_1] at this
  omega
theorem gX12_escapes_38 {M : jw_M} {T : Int → Int} {a b : Int} (ha : 0 ≤ a ∧ a < 7) (hb : 0 ≤ b ∧ b < 7) : ∀ (m : Nat) (n : Int) (N : jw_M) (k : Nat), 15 - n ≤ (m : Int) → 0 ≤ n → m < k → (∀ k : Nat, k ≠ 141 → k ≠ 142 → N k = M k) → jp_fl T a b (N 141) n → ∃ (v : Int) (N' : jw_M), fX12_escapes_38 k a b n N = some (v, N') ∧ (∀ k : Nat, k ≠ 141 → k ≠ 142 → N' k = M k) ∧ jp_fl T a b (N' 141) v ∧ ∃ Q : Int → Bool, Q (7 + a) = true ∧ Q b = false ∧ ∀ p q : Int, 0 ≤ p → p < 14 → 0 ≤ q → q < 14 → Q p = true → Q q = false → N' 141 (14 * p + q) ≤ 0 := by
  intro m
  induction m with
  | zero =>
    intro n N k hm h0 hk hf hfl
    have := jp_fl_14 ha hb hfl
    omega
  | succ m ih =>
    intro n N k hm h0 hk hf hfl
    obtain ⟨k, rfl⟩ : ∃ j, k = j + 1 := ⟨k - 1, by omega⟩
    have h14 := jp_fl_14 ha hb hfl
    obtain ⟨N1, n1, n2⟩ := gX12_goesMore ha hb hfl
    have hf1 : ∀ k : Nat, k ≠ 141 → k ≠ 142 → N1 k = M k := fun k a b => by rw [n1 k a b, hf k a b]
    rw [fX12_escapes_38, jw_ws (x := 7 + a) (by omega)]
    rcases n2 with ⟨q1, q2⟩ | ⟨q1, q2, q3⟩
    · rw [q1, jp_b2s, if_neg (by decide), jp_bs, jw_ws (by omega)]
      exact ih (n + 1) N1 k (by omega) (by omega) (by omega) hf1 q2
    · rw [q1, jp_b2s, if_pos rfl]
      exact ⟨n, N1, rfl, hf1, by rw [q2]; exact hfl, by rw [q2]; exact q3⟩
theorem jp_escapes {M : jw_M} (h : jp_inv M) (a b : Int) : jp_ok1 (fX11_escapes a b M) M (fX12_escapes a b) := by
  have hA := jp_inv_A h
  obtain ⟨⟨r0, r2, r3, r4, r5⟩, -⟩ := jp_A_r hA
  obtain ⟨⟨c0, -⟩, -⟩ := jp_A_c hA
  have hA1 := jp_A_th hA 0 0
  have f131 : ∀ j : Int, jw_up M 127 0 0 131 j = M 131 j := fun j => by rw [jw_up_ne _ (by decide)]
  by_cases h1 : 0 ≤ a ∧ a < M 131 0
  · by_cases h2 : 0 ≤ b ∧ b < M 131 0
    · by_cases h3 : a = b
      · have hx : fX11_escapes a b M = some (-9000000000000000001) := by
          unfold fX11_escapes
          simp (disch := omega) only [↓jp_bs, ↓jp_b2s, ↓reduceIte, jw_up_a, Nat.reduceEqDiff, Int.reduceEq, Int.reduceLT, Int.reduceLE, Int.reduceAdd, Int.reduceSub, Int.reduceMul, Int.reduceNeg, jp_n9_1, jp_n9_8, jp_n9_15, jp_n9_21, jp_n9_24, jp_n10_1, jp_n10_2, jp_n10_3, jp_n10_4, jp_n10_5, jp_n10_6, jp_n17_1, jp_n17_2, jp_n17_3, jp_n17_4, jp_n17_5, jp_n17_6, jp_n24_1, jp_n24_2, jp_n24_3, jp_n24_4, jp_n24_5, jp_n30_1, jp_n30_2, jp_n33_1, jp_n33_2, false_and, true_and, and_true, and_false, and_self, ne_eq, not_true_eq_false, not_false_eq_true, jw_ws, jw_vs, jw_cmp_lt, jw_cmp_gt, jw_cmp_eq, jp_t1, jp_t2, jp_t3, jp_t4, jp_t5, jp_t6, ↓bX9_isCorner, c0]
        refine ⟨_, _, hx, ?_, jp_th h 0⟩
        unfold fX12_escapes
        simp (disch := omega) only [↓jp_bs, ↓jp_b2s, ↓reduceIte, jw_up_a, Nat.reduceEqDiff, Int.reduceEq, Int.reduceLT, Int.reduceLE, Int.reduceAdd, Int.reduceSub, Int.reduceMul, Int.reduceNeg, jp_n9_1, jp_n9_8, jp_n9_15, jp_n9_21, jp_n9_24, jp_n10_1, jp_n10_2, jp_n10_3, jp_n10_4, jp_n10_5, jp_n10_6, jp_n17_1, jp_n17_2, jp_n17_3, jp_n17_4, jp_n17_5, jp_n17_6, jp_n24_1, jp_n24_2, jp_n24_3, jp_n24_4, jp_n24_5, jp_n30_1, jp_n30_2, jp_n33_1, jp_n33_2, false_and, true_and, and_true, and_false, and_self, ne_eq, not_true_eq_false, not_false_eq_true, jw_ws, jw_vs, jw_cmp_lt, jw_cmp_gt, jw_cmp_eq, jp_t1, jp_t2, jp_t3, jp_t4, jp_t5, jp_t6, ↓bX12_isCorner hA1, f131]
      · obtain ⟨F, w1, w2, w3, w4⟩ := gX9_waysApart hA a b h1 h2
        have hx : fX11_escapes a b M = some (F + jp_dr (M 131) a b) := by
          unfold fX11_escapes
          simp (disch := omega) only [↓jp_bs, ↓jp_b2s, ↓reduceIte, jw_up_a, Nat.reduceEqDiff, Int.reduceEq, Int.reduceLT, Int.reduceLE, Int.reduceAdd, Int.reduceSub, Int.reduceMul, Int.reduceNeg, jp_n9_1, jp_n9_8, jp_n9_15, jp_n9_21, jp_n9_24, jp_n10_1, jp_n10_2, jp_n10_3, jp_n10_4, jp_n10_5, jp_n10_6, jp_n17_1, jp_n17_2, jp_n17_3, jp_n17_4, jp_n17_5, jp_n17_6, jp_n24_1, jp_n24_2, jp_n24_3, jp_n24_4, jp_n24_5, jp_n30_1, jp_n30_2, jp_n33_1, jp_n33_2, false_and, true_and, and_true, and_false, and_self, ne_eq, not_true_eq_false, not_false_eq_true, jw_ws, jw_vs, jw_cmp_lt, jw_cmp_gt, jw_cmp_eq, jp_t1, jp_t2, jp_t3, jp_t4, jp_t5, jp_t6, ↓bX9_isCorner, c0, ↓jp_bnd w1]
        obtain ⟨N, n1, n2, n3⟩ := gX12_layRoom hA1 a b
        have e131 : jw_up M 127 0 0 131 = M 131 := jw_up_ne _ (by decide) _ _
        rw [e131] at n3
        have hfl0 : jp_fl (M 131) a b (N 141) 0 := by
          refine ⟨fun p q p0 p1 q0 q1 => by rw [n3 p q p0 p1 q0 q1]; exact (jp_cap_r _ _ _ _ _).1, fun p q p0 p1 q0 q1 => by rw [n3 p q p0 p1 q0 q1, n3 q p q0 q1 p0 p1], fun p p0 p1 => ?_⟩
          rw [jp_sum_c 14 (g := fun _ => 0) (fun q q0 q1 => by rw [n3 p q p0 p1 q0 (by omega)]; show jp_cap (M 131) a b p q - jp_cap (M 131) a b p q = 0; omega), jp_sum_0]
          split <;> split <;> rfl
        obtain ⟨v, N', v1, v2, v3, Q, q1, q2, q3⟩ := gX12_escapes_38 (M := N) (T := M 131) (a := a) (b := b) (by omega) (by omega) 15 0 N jw_fu (by omega) (by omega) (by unfold jw_fu; omega) (fun _ _ _ => rfl) hfl0
        obtain ⟨x, x0, x1, x2, x3, x4⟩ := jp_cutB hA.1 h1 h2 h3 v3 Q q1 q2 q3
        have hFx := w3 x x0 x1 x2
        have hv : v = F + jp_dr (M 131) a b := by
          rcases w4 with z | ⟨x', y0, y1, ⟨y2, y3, A, y4, y5, y6⟩, y7⟩
          · omega
          · have hcut := jp_cutA hA.1 h1 h2 v3 y2 y3 y4 y5 y6
            rw [← jp_pc_s (jp_bs2_s ⟨y0, y1⟩)] at hcut
            omega
        have hy : fX12_escapes a b M = some (F + jp_dr (M 131) a b, N') := by
          unfold fX12_escapes
          simp (disch := omega) only [↓jp_bs, ↓jp_b2s, ↓reduceIte, jw_up_a, Nat.reduceEqDiff, Int.reduceEq, Int.reduceLT, Int.reduceLE, Int.reduceAdd, Int.reduceSub, Int.reduceMul, Int.reduceNeg, jp_n9_1, jp_n9_8, jp_n9_15, jp_n9_21, jp_n9_24, jp_n10_1, jp_n10_2, jp_n10_3, jp_n10_4, jp_n10_5, jp_n10_6, jp_n17_1, jp_n17_2, jp_n17_3, jp_n17_4, jp_n17_5, jp_n17_6, jp_n24_1, jp_n24_2, jp_n24_3, jp_n24_4, jp_n24_5, jp_n30_1, jp_n30_2, jp_n33_1, jp_n33_2, false_and, true_and, and_true, and_false, and_self, ne_eq, not_true_eq_false, not_false_eq_true, jw_ws, jw_vs, jw_cmp_lt, jw_cmp_gt, jw_cmp_eq, jp_t1, jp_t2, jp_t3, jp_t4, jp_t5, jp_t6, ↓bX12_isCorner hA1, f131, ↓jp_bnd n1]
          rw [v1, hv]
        refine ⟨_, _, hx, hy, ?_⟩
        have fr : ∀ k : Nat, k ≠ 141 → k ≠ 142 → N' k = jw_up M 127 0 0 k := fun k a b => by rw [v2 k a b, n2 k a]
        refine jp_inv_fr (jp_th h 0) (fun k hk => fr k (fun e => ?_) (fun e => ?_)) (by rw [fr _ (by decide) (by decide)]) (by rw [fr _ (by decide) (by decide)]) (by rw [fr _ (by decide) (by decide)]) (by rw [fr _ (by decide) (by decide)]) (by rw [fr _ (by decide) (by decide)]) (by rw [fr _ (by decide) (by decide)]) (by rw [fr _ (by decide) (by decide)]) (by rw [fr _ (by decide) (by decide)]) (by rw [fr _ (by decide) (by decide)]) <;> (subst e; revert hk; decide)
    · have hx : fX11_escapes a b M = some (-9000000000000000001) := by
        unfold fX11_escapes
        simp (disch := omega) only [↓jp_bs, ↓jp_b2s, ↓reduceIte, jw_up_a, Nat.reduceEqDiff, Int.reduceEq, Int.reduceLT, Int.reduceLE, Int.reduceAdd, Int.reduceSub, Int.reduceMul, Int.reduceNeg, jp_n9_1, jp_n9_8, jp_n9_15, jp_n9_21, jp_n9_24, jp_n10_1, jp_n10_2, jp_n10_3, jp_n10_4, jp_n10_5, jp_n10_6, jp_n17_1, jp_n17_2, jp_n17_3, jp_n17_4, jp_n17_5, jp_n17_6, jp_n24_1, jp_n24_2, jp_n24_3, jp_n24_4, jp_n24_5, jp_n30_1, jp_n30_2, jp_n33_1, jp_n33_2, false_and, true_and, and_true, and_false, and_self, ne_eq, not_true_eq_false, not_false_eq_true, jw_ws, jw_vs, jw_cmp_lt, jw_cmp_gt, jw_cmp_eq, jp_t1, jp_t2, jp_t3, jp_t4, jp_t5, jp_t6, ↓bX9_isCorner, c0]
      refine ⟨_, _, hx, ?_, jp_th h 0⟩
      unfold fX12_escapes
      simp (disch := omega) only [↓jp_bs, ↓jp_b2s, ↓reduceIte, jw_up_a, Nat.reduceEqDiff, Int.reduceEq, Int.reduceLT, Int.reduceLE, Int.reduceAdd, Int.reduceSub, Int.reduceMul, Int.reduceNeg, jp_n9_1, jp_n9_8, jp_n9_15, jp_n9_21, jp_n9_24, jp_n10_1, jp_n10_2, jp_n10_3, jp_n10_4, jp_n10_5, jp_n10_6, jp_n17_1, jp_n17_2, jp_n17_3, jp_n17_4, jp_n17_5, jp_n17_6, jp_n24_1, jp_n24_2, jp_n24_3, jp_n24_4, jp_n24_5, jp_n30_1, jp_n30_2, jp_n33_1, jp_n33_2, false_and, true_and, and_true, and_false, and_self, ne_eq, not_true_eq_false, not_false_eq_true, jw_ws, jw_vs, jw_cmp_lt, jw_cmp_gt, jw_cmp_eq, jp_t1, jp_t2, jp_t3, jp_t4, jp_t5, jp_t6, ↓bX12_isCorner hA1, f131]
  · have hx : fX11_escapes a b M = some (-9000000000000000001) := by
      unfold fX11_escapes
      simp (disch := omega) only [↓jp_bs, ↓jp_b2s, ↓reduceIte, jw_up_a, Nat.reduceEqDiff, Int.reduceEq, Int.reduceLT, Int.reduceLE, Int.reduceAdd, Int.reduceSub, Int.reduceMul, Int.reduceNeg, jp_n9_1, jp_n9_8, jp_n9_15, jp_n9_21, jp_n9_24, jp_n10_1, jp_n10_2, jp_n10_3, jp_n10_4, jp_n10_5, jp_n10_6, jp_n17_1, jp_n17_2, jp_n17_3, jp_n17_4, jp_n17_5, jp_n17_6, jp_n24_1, jp_n24_2, jp_n24_3, jp_n24_4, jp_n24_5, jp_n30_1, jp_n30_2, jp_n33_1, jp_n33_2, false_and, true_and, and_true, and_false, and_self, ne_eq, not_true_eq_false, not_false_eq_true, jw_ws, jw_vs, jw_cmp_lt, jw_cmp_gt, jw_cmp_eq, jp_t1, jp_t2, jp_t3, jp_t4, jp_t5, jp_t6, ↓bX9_isCorner, c0]
    refine ⟨_, _, hx, ?_, jp_th h 0⟩
    unfold fX12_escapes
    simp (disch := omega) only [↓jp_bs, ↓jp_b2s, ↓reduceIte, jw_up_a, Nat.reduceEqDiff, Int.reduceEq, Int.reduceLT, Int.reduceLE, Int.reduceAdd, Int.reduceSub, Int.reduceMul, Int.reduceNeg, jp_n9_1, jp_n9_8, jp_n9_15, jp_n9_21, jp_n9_24, jp_n10_1, jp_n10_2, jp_n10_3, jp_n10_4, jp_n10_5, jp_n10_6, jp_n17_1, jp_n17_2, jp_n17_3, jp_n17_4, jp_n17_5, jp_n17_6, jp_n24_1, jp_n24_2, jp_n24_3, jp_n24_4, jp_n24_5, jp_n30_1, jp_n30_2, jp_n33_1, jp_n33_2, false_and, true_and, and_true, and_false, and_self, ne_eq, not_true_eq_false, not_false_eq_true, jw_ws, jw_vs, jw_cmp_lt, jw_cmp_gt, jw_cmp_eq, jp_t1, jp_t2, jp_t3, jp_t4, jp_t5, jp_t6, ↓bX12_isCorner hA1, f131]
