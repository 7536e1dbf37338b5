/-! mixed rounds: the two calls -/
theorem jp_red_k {a b g : Int} (hg : 0 < g) (w : Int) : jp_red (g * a) (g * b) w = jp_red a b w := by
  have e : ((Int.gcd (g * a) (g * b) : Nat) : Int) = g * ((Int.gcd a b : Nat) : Int) := by
    rw [Int.gcd_mul_left, Int.natCast_mul, Int.natAbs_of_nonneg (by omega)]
  unfold jp_red
  rw [e, Int.mul_tdiv_mul_of_pos _ _ hg, Int.mul_tdiv_mul_of_pos _ _ hg]
theorem jp_red_g {a b : Int} (hb : 0 < b) : ∃ g : Int, 0 < g ∧ a = g * jp_red a b 0 ∧ b = g * jp_red a b 1 := by
  refine ⟨(Int.gcd a b : Nat), ?_, ?_, ?_⟩
  · have := Int.gcd_pos_of_ne_zero_right a (b := b) (by omega)
    omega
  · unfold jp_red
    rw [if_pos rfl, Int.mul_tdiv_cancel_of_dvd (Int.gcd_dvd_left a b)]
  · unfold jp_red
    rw [if_neg (by decide), Int.mul_tdiv_cancel_of_dvd (Int.gcd_dvd_right a b)]
theorem jp_red_0 {b w : Int} (hb : 0 < b) (hw : 0 ≤ w ∧ w ≤ 1) : jp_red 0 b w = w := by
  have e : ((Int.gcd 0 b : Nat) : Int) = b := by
    rw [Int.gcd_zero_left]
    omega
  unfold jp_red
  rw [e]
  by_cases h : w = 0
  · rw [if_pos h, Int.zero_tdiv, h]
  · rw [if_neg h, Int.tdiv_self (by omega)]
    omega
theorem jp_inv_123 {M N : jw_M} (h : jp_inv M) (fr : ∀ k : Nat, k ≠ 123 → N k = M k) : jp_inv N := by
  refine jp_inv_fr h (fun k hk => fr k (fun e => ?_)) (by rw [fr _ (by decide)]) (by rw [fr _ (by decide)]) (by rw [fr _ (by decide)]) (by rw [fr _ (by decide)]) (by rw [fr _ (by decide)]) (by rw [fr _ (by decide)]) (by rw [fr _ (by decide)]) (by rw [fr _ (by decide)]) (by rw [fr _ (by decide)])
  subst e
  revert hk
  decide
theorem jp_value {M : jw_M} (h : jp_inv M) (f w : Int) : jp_ok (fX11_value f w M) (fX12_value f w) := by
  have hA := jp_inv_A h
  obtain ⟨p1, p2⟩ := h.2.2.2.2.1.1
  by_cases h1 : 1 ≤ f ∧ f ≤ 99
  · by_cases h2 : 0 ≤ w ∧ w ≤ 1
    · by_cases h3 : M 127 7 = 0
      · have hx : fX11_value f w M = some (-9000000000000000002, M) := by
          unfold fX11_value
          simp (disch := omega) only [↓jp_bs, ↓jp_b2s, ↓reduceIte, jw_up_a, Nat.reduceEqDiff, Int.reduceEq, Int.reduceLT, Int.reduceLE, Int.reduceAdd, Int.reduceSub, Int.reduceMul, Int.reduceNeg, jp_n9_1, jp_n9_8, jp_n9_15, jp_n9_21, jp_n9_24, jp_n10_1, jp_n10_2, jp_n10_3, jp_n10_4, jp_n10_5, jp_n10_6, jp_n17_1, jp_n17_2, jp_n17_3, jp_n17_4, jp_n17_5, jp_n17_6, jp_n24_1, jp_n24_2, jp_n24_3, jp_n24_4, jp_n24_5, jp_n30_1, jp_n30_2, jp_n33_1, jp_n33_2, false_and, true_and, and_true, and_false, and_self, ne_eq, not_true_eq_false, not_false_eq_true, jw_ws, jw_vs, jw_cmp_lt, jw_cmp_gt, jw_cmp_eq, jp_t1, jp_t2, jp_t3, jp_t4, jp_t5, jp_t6, ↓bX11_isHalf]
        refine ⟨_, _, _, hx, ?_, jp_th h 0⟩
        unfold fX12_value
        simp (disch := omega) only [↓jp_bs, ↓jp_b2s, ↓reduceIte, jw_up_a, Nat.reduceEqDiff, Int.reduceEq, Int.reduceLT, Int.reduceLE, Int.reduceAdd, Int.reduceSub, Int.reduceMul, Int.reduceNeg, jp_n9_1, jp_n9_8, jp_n9_15, jp_n9_21, jp_n9_24, jp_n10_1, jp_n10_2, jp_n10_3, jp_n10_4, jp_n10_5, jp_n10_6, jp_n17_1, jp_n17_2, jp_n17_3, jp_n17_4, jp_n17_5, jp_n17_6, jp_n24_1, jp_n24_2, jp_n24_3, jp_n24_4, jp_n24_5, jp_n30_1, jp_n30_2, jp_n33_1, jp_n33_2, false_and, true_and, and_true, and_false, and_self, ne_eq, not_true_eq_false, not_false_eq_true, jw_ws, jw_vs, jw_cmp_lt, jw_cmp_gt, jw_cmp_eq, jp_t1, jp_t2, jp_t3, jp_t4, jp_t5, jp_t6, ↓bX12_in]
      · obtain ⟨N, p, n1, n2, n3, n4, n5⟩ := gX5_mixRounds hA f h1 (by omega)
        have hE := jp_E_k hA h1
        have hv := jp_v_7 hE p
        have hb := n5.2.1
        have hu : -4611686018427387904 < jp_up1 (jp_E M) f p (M 131 0) ∧ jp_up1 (jp_E M) f p (M 131 0) < 4611686018427387904 := by unfold jp_up1; omega
        have hx : fX11_value f w M = some (jp_red (jp_up1 (jp_E M) f p (M 131 0)) (jp_vb (jp_E M) f p (M 131 0).toNat) w, N) := by
          unfold fX11_value
          simp (disch := omega) only [↓jp_bs, ↓jp_b2s, ↓reduceIte, jw_up_a, Nat.reduceEqDiff, Int.reduceEq, Int.reduceLT, Int.reduceLE, Int.reduceAdd, Int.reduceSub, Int.reduceMul, Int.reduceNeg, jp_n9_1, jp_n9_8, jp_n9_15, jp_n9_21, jp_n9_24, jp_n10_1, jp_n10_2, jp_n10_3, jp_n10_4, jp_n10_5, jp_n10_6, jp_n17_1, jp_n17_2, jp_n17_3, jp_n17_4, jp_n17_5, jp_n17_6, jp_n24_1, jp_n24_2, jp_n24_3, jp_n24_4, jp_n24_5, jp_n30_1, jp_n30_2, jp_n33_1, jp_n33_2, false_and, true_and, and_true, and_false, and_self, ne_eq, not_true_eq_false, not_false_eq_true, jw_ws, jw_vs, jw_cmp_lt, jw_cmp_gt, jw_cmp_eq, jp_t1, jp_t2, jp_t3, jp_t4, jp_t5, jp_t6, ↓bX11_isHalf, ↓jp_bnd n1, n3, n4, ↓bX11_half]
        have hI := jp_inv_123 h n2
        have e131 : jw_up N 127 0 0 131 = M 131 := by rw [jw_up_ne _ (by decide), n2 _ (by decide)]
        have eE : jp_E (jw_up N 127 0 0) = jp_E M := by unfold jp_E; rw [e131]
        obtain ⟨L, l1, l2, l3, l4⟩ := gX12_seekValue (jp_A_th (jp_inv_A hI) 0 0) f h1 (p := p) (by rw [eE, e131]; exact n5)
        rw [eE, e131] at l3 l4
        have e7 : N 127 7 = M 127 7 := by rw [n2 _ (by decide)]
        have hy : fX12_value f w N = some (jp_red (jp_up1 (jp_E M) f p (M 131 0)) (jp_vb (jp_E M) f p (M 131 0).toNat) w, L) := by
          unfold fX12_value
          by_cases e : w = 0
          · subst e
            simp (disch := omega) only [↓jp_bs, ↓jp_b2s, ↓reduceIte, jw_up_a, Nat.reduceEqDiff, Int.reduceEq, Int.reduceLT, Int.reduceLE, Int.reduceAdd, Int.reduceSub, Int.reduceMul, Int.reduceNeg, jp_n9_1, jp_n9_8, jp_n9_15, jp_n9_21, jp_n9_24, jp_n10_1, jp_n10_2, jp_n10_3, jp_n10_4, jp_n10_5, jp_n10_6, jp_n17_1, jp_n17_2, jp_n17_3, jp_n17_4, jp_n17_5, jp_n17_6, jp_n24_1, jp_n24_2, jp_n24_3, jp_n24_4, jp_n24_5, jp_n30_1, jp_n30_2, jp_n33_1, jp_n33_2, false_and, true_and, and_true, and_false, and_self, ne_eq, not_true_eq_false, not_false_eq_true, jw_ws, jw_vs, jw_cmp_lt, jw_cmp_gt, jw_cmp_eq, jp_t1, jp_t2, jp_t3, jp_t4, jp_t5, jp_t6, ↓bX12_in, e7, ↓jp_bnd l1, l3]
          · have e1 : w = 1 := by omega
            subst e1
            simp (disch := omega) only [↓jp_bs, ↓jp_b2s, ↓reduceIte, jw_up_a, Nat.reduceEqDiff, Int.reduceEq, Int.reduceLT, Int.reduceLE, Int.reduceAdd, Int.reduceSub, Int.reduceMul, Int.reduceNeg, jp_n9_1, jp_n9_8, jp_n9_15, jp_n9_21, jp_n9_24, jp_n10_1, jp_n10_2, jp_n10_3, jp_n10_4, jp_n10_5, jp_n10_6, jp_n17_1, jp_n17_2, jp_n17_3, jp_n17_4, jp_n17_5, jp_n17_6, jp_n24_1, jp_n24_2, jp_n24_3, jp_n24_4, jp_n24_5, jp_n30_1, jp_n30_2, jp_n33_1, jp_n33_2, false_and, true_and, and_true, and_false, and_self, ne_eq, not_true_eq_false, not_false_eq_true, jw_ws, jw_vs, jw_cmp_lt, jw_cmp_gt, jw_cmp_eq, jp_t1, jp_t2, jp_t3, jp_t4, jp_t5, jp_t6, ↓bX12_in, e7, ↓jp_bnd l1, l4]
        exact ⟨_, _, _, hx, hy, jp_vf_i l2 (jp_th hI 0)⟩
    · have hx : fX11_value f w M = some (-9000000000000000001, M) := by
        unfold fX11_value
        simp (disch := omega) only [↓jp_bs, ↓jp_b2s, ↓reduceIte, jw_up_a, Nat.reduceEqDiff, Int.reduceEq, Int.reduceLT, Int.reduceLE, Int.reduceAdd, Int.reduceSub, Int.reduceMul, Int.reduceNeg, jp_n9_1, jp_n9_8, jp_n9_15, jp_n9_21, jp_n9_24, jp_n10_1, jp_n10_2, jp_n10_3, jp_n10_4, jp_n10_5, jp_n10_6, jp_n17_1, jp_n17_2, jp_n17_3, jp_n17_4, jp_n17_5, jp_n17_6, jp_n24_1, jp_n24_2, jp_n24_3, jp_n24_4, jp_n24_5, jp_n30_1, jp_n30_2, jp_n33_1, jp_n33_2, false_and, true_and, and_true, and_false, and_self, ne_eq, not_true_eq_false, not_false_eq_true, jw_ws, jw_vs, jw_cmp_lt, jw_cmp_gt, jw_cmp_eq, jp_t1, jp_t2, jp_t3, jp_t4, jp_t5, jp_t6, ↓bX11_isHalf]
      refine ⟨_, _, _, hx, ?_, jp_th h 0⟩
      unfold fX12_value
      simp (disch := omega) only [↓jp_bs, ↓jp_b2s, ↓reduceIte, jw_up_a, Nat.reduceEqDiff, Int.reduceEq, Int.reduceLT, Int.reduceLE, Int.reduceAdd, Int.reduceSub, Int.reduceMul, Int.reduceNeg, jp_n9_1, jp_n9_8, jp_n9_15, jp_n9_21, jp_n9_24, jp_n10_1, jp_n10_2, jp_n10_3, jp_n10_4, jp_n10_5, jp_n10_6, jp_n17_1, jp_n17_2, jp_n17_3, jp_n17_4, jp_n17_5, jp_n17_6, jp_n24_1, jp_n24_2, jp_n24_3, jp_n24_4, jp_n24_5, jp_n30_1, jp_n30_2, jp_n33_1, jp_n33_2, false_and, true_and, and_true, and_false, and_self, ne_eq, not_true_eq_false, not_false_eq_true, jw_ws, jw_vs, jw_cmp_lt, jw_cmp_gt, jw_cmp_eq, jp_t1, jp_t2, jp_t3, jp_t4, jp_t5, jp_t6, ↓bX12_in]
  · have hx : fX11_value f w M = some (-9000000000000000001, M) := by
      unfold fX11_value
      by_cases h2 : f < 1
      · simp (disch := omega) only [↓jp_bs, ↓jp_b2s, ↓reduceIte, jw_up_a, Nat.reduceEqDiff, Int.reduceEq, Int.reduceLT, Int.reduceLE, Int.reduceAdd, Int.reduceSub, Int.reduceMul, Int.reduceNeg, jp_n9_1, jp_n9_8, jp_n9_15, jp_n9_21, jp_n9_24, jp_n10_1, jp_n10_2, jp_n10_3, jp_n10_4, jp_n10_5, jp_n10_6, jp_n17_1, jp_n17_2, jp_n17_3, jp_n17_4, jp_n17_5, jp_n17_6, jp_n24_1, jp_n24_2, jp_n24_3, jp_n24_4, jp_n24_5, jp_n30_1, jp_n30_2, jp_n33_1, jp_n33_2, false_and, true_and, and_true, and_false, and_self, ne_eq, not_true_eq_false, not_false_eq_true, jw_ws, jw_vs, jw_cmp_lt, jw_cmp_gt, jw_cmp_eq, jp_t1, jp_t2, jp_t3, jp_t4, jp_t5, jp_t6]
      · simp (disch := omega) only [↓jp_bs, ↓jp_b2s, ↓reduceIte, jw_up_a, Nat.reduceEqDiff, Int.reduceEq, Int.reduceLT, Int.reduceLE, Int.reduceAdd, Int.reduceSub, Int.reduceMul, Int.reduceNeg, jp_n9_1, jp_n9_8, jp_n9_15, jp_n9_21, jp_n9_24, jp_n10_1, jp_n10_2, jp_n10_3, jp_n10_4, jp_n10_5, jp_n10_6, jp_n17_1, jp_n17_2, jp_n17_3, jp_n17_4, jp_n17_5, jp_n17_6, jp_n24_1, jp_n24_2, jp_n24_3, jp_n24_4, jp_n24_5, jp_n30_1, jp_n30_2, jp_n33_1, jp_n33_2, false_and, true_and, and_true, and_false, and_self, ne_eq, not_true_eq_false, not_false_eq_true, jw_ws, jw_vs, jw_cmp_lt, jw_cmp_gt, jw_cmp_eq, jp_t1, jp_t2, jp_t3, jp_t4, jp_t5, jp_t6]
    refine ⟨_, _, _, hx, ?_, jp_th h 0⟩
    unfold fX12_value
    simp (disch := omega) only [↓jp_bs, ↓jp_b2s, ↓reduceIte, jw_up_a, Nat.reduceEqDiff, Int.reduceEq, Int.reduceLT, Int.reduceLE, Int.reduceAdd, Int.reduceSub, Int.reduceMul, Int.reduceNeg, jp_n9_1, jp_n9_8, jp_n9_15, jp_n9_21, jp_n9_24, jp_n10_1, jp_n10_2, jp_n10_3, jp_n10_4, jp_n10_5, jp_n10_6, jp_n17_1, jp_n17_2, jp_n17_3, jp_n17_4, jp_n17_5, jp_n17_6, jp_n24_1, jp_n24_2, jp_n24_3, jp_n24_4, jp_n24_5, jp_n30_1, jp_n30_2, jp_n33_1, jp_n33_2, false_and, true_and, and_true, and_false, and_self, ne_eq, not_true_eq_false, not_false_eq_true, jw_ws, jw_vs, jw_cmp_lt, jw_cmp_gt, jw_cmp_eq, jp_t1, jp_t2, jp_t3, jp_t4, jp_t5, jp_t6, ↓bX12_in]
theorem jp_odds {M : jw_M} (h : jp_inv M) (f c w : Int) : jp_ok (fX11_odds f c w M) (fX12_odds f c w) := by
  have hA := jp_inv_A h
  obtain ⟨⟨r0, r2, r3, r4, r5⟩, -⟩ := jp_A_r hA
  obtain ⟨⟨c0, -⟩, -⟩ := jp_A_c hA
  have hA1 := jp_A_th hA 0 0
  have f131 : ∀ j : Int, jw_up M 127 0 0 131 j = M 131 j := fun j => by rw [jw_up_ne _ (by decide)]
  by_cases h1 : 1 ≤ f ∧ f ≤ 99
  · by_cases h3 : 0 ≤ c ∧ c < M 131 0
    · by_cases h2 : 0 ≤ w ∧ w ≤ 1
      · obtain ⟨N, p, n1, n2, n3, n4, n5⟩ := gX5_mixRounds hA f h1 (by omega)
        have hE := jp_E_k hA h1
        have hv := jp_v_7 hE p
        have hb := n5.2.1
        have he := hE.2.2 c h3.1 h3.2
        have hE11 : M (10 + 1) c = jp_E M c := hA.2.2.1 c h3.1 h3.2
        have hu : -11930436453209472 ≤ jp_up1 (jp_E M) f p (M 131 0) ∧ jp_up1 (jp_E M) f p (M 131 0) ≤ 41756527586233152 := by unfold jp_up1; omega
        generalize hUU : jp_up1 (jp_E M) f p (M 131 0) = U at *
        generalize hBB : jp_vb (jp_E M) f p (M 131 0).toNat = B at *
        have m1 : 0 ≤ jp_E M c * B ∧ jp_E M c * B ≤ 99 * 421783106931648 := jp_mb he hv.2.1
        have m2 : 0 ≤ B * (jp_E M c + f) ∧ B * (jp_E M c + f) ≤ 421783106931648 * 198 := jp_mb hv.2.1 (by omega)
        have m3 : 0 < B * (jp_E M c + f) := Int.mul_pos hb (by omega)
        have ho : fX5_oddsFromValue f c N = some (jw_up (jw_up N 123 4 (jw_max (jp_E M c * B - U) 0)) 123 5 (B * (jp_E M c + f))) := by
          have e11 : N (10 + 1) c = jp_E M c := by rw [n2 (10 + 1) (by decide)]; exact hE11
          unfold fX5_oddsFromValue
          rw [if_pos (by omega), jp_bs, e11, jp_bs, n3, n4, jw_vs (x := jp_E M c * B) (by omega), jw_vs (x := jp_E M c * B - U) (by omega), jp_bs]
          have e5 : ∀ v : Int, jw_up N 123 4 v 123 5 = B := fun v => by rw [jw_up_eq, jw_u1_n _ (by decide)]; exact n4
          rw [e5, jw_ws (x := jp_E M c + f) (by omega), jw_vs (by omega)]
        generalize hM4 : jw_up (jw_up N 123 4 (jw_max (jp_E M c * B - U) 0)) 123 5 (B * (jp_E M c + f)) = M4 at ho
        have a4 : M4 123 4 = jw_max (jp_E M c * B - U) 0 := by rw [← hM4, jw_up_eq, jw_u1_n _ (by decide), jw_up_eq, jw_u1_s]
        have a5 : M4 123 5 = B * (jp_E M c + f) := by rw [← hM4, jw_up_eq, jw_u1_s]
        have fr : ∀ k : Nat, k ≠ 123 → M4 k = M k := fun k hk => by rw [← hM4, jw_up_ne _ hk, jw_up_ne _ hk, n2 k hk]
        have mx : 0 ≤ jw_max (jp_E M c * B - U) 0 ∧ jw_max (jp_E M c * B - U) 0 ≤ 99 * 421783106931648 + 11930436453209472 := by unfold jw_max; split <;> omega
        have hx : fX11_odds f c w M = some (jp_red (jw_max (jp_E M c * B - U) 0) (B * (jp_E M c + f)) w, M4) := by
          unfold fX11_odds
          simp (disch := omega) only [↓jp_bs, ↓jp_b2s, ↓reduceIte, jw_up_a, Nat.reduceEqDiff, Int.reduceEq, Int.reduceLT, Int.reduceLE, Int.reduceAdd, Int.reduceSub, Int.reduceMul, Int.reduceNeg, jp_n9_1, jp_n9_8, jp_n9_15, jp_n9_21, jp_n9_24, jp_n10_1, jp_n10_2, jp_n10_3, jp_n10_4, jp_n10_5, jp_n10_6, jp_n17_1, jp_n17_2, jp_n17_3, jp_n17_4, jp_n17_5, jp_n17_6, jp_n24_1, jp_n24_2, jp_n24_3, jp_n24_4, jp_n24_5, jp_n30_1, jp_n30_2, jp_n33_1, jp_n33_2, false_and, true_and, and_true, and_false, and_self, ne_eq, not_true_eq_false, not_false_eq_true, jw_ws, jw_vs, jw_cmp_lt, jw_cmp_gt, jw_cmp_eq, jp_t1, jp_t2, jp_t3, jp_t4, jp_t5, jp_t6, ↓bX11_isHalf, ↓bX9_isCorner, c0, ↓jp_bnd n1, ↓jp_bnd ho, a4, a5, ↓bX11_half]
        have hI := jp_inv_123 h fr
        have e131 : jw_up M4 127 0 0 131 = M 131 := by rw [jw_up_ne _ (by decide), fr _ (by decide)]
        have eE : jp_E (jw_up M4 127 0 0) = jp_E M := by unfold jp_E; rw [e131]
        obtain ⟨L, l1, l2, l3, l4⟩ := gX12_seekValue (jp_A_th (jp_inv_A hI) 0 0) f h1 (p := p) (by rw [eE, e131]; exact n5)
        rw [eE, e131, hUU, hBB] at l3 l4
        obtain ⟨g, g1, g2, g3⟩ := jp_red_g (a := U) hb
        generalize jp_red U B 0 = u at l3 g2
        generalize jp_red U B 1 = b at l4 g3
        have eL : L 131 (7 + c) = jp_E M c := by rw [l2.1 _ (by decide), e131]; rfl
        have b0 : 0 < b := by
          by_cases z : 0 < b
          · exact z
          · have : g * b ≤ g * 0 := Int.mul_le_mul_of_nonneg_left (by omega) (by omega)
            omega
        have b1 : b ≤ 421783106931648 := by
          have : 1 * b ≤ g * b := Int.mul_le_mul_of_nonneg_right (by omega) (by omega)
          omega
        have u1 : -11930436453209472 ≤ u ∧ u ≤ 41756527586233152 := by
          by_cases z : 0 ≤ u
          · have : 1 * u ≤ g * u := Int.mul_le_mul_of_nonneg_right (by omega) z
            omega
          · have : g * u ≤ 1 * u := Int.mul_le_mul_of_nonpos_right (by omega) (by omega)
            omega
        have q1 : 0 ≤ jp_E M c * b ∧ jp_E M c * b ≤ 99 * 421783106931648 := jp_mb he (by omega)
        have q2 : 0 ≤ b * (jp_E M c + f) ∧ b * (jp_E M c + f) ≤ 421783106931648 * 198 := jp_mb (by omega) (by omega)
        have q3 : 0 < b * (jp_E M c + f) := Int.mul_pos b0 (by omega)
        have z1 : jp_E M c * B - U = g * (jp_E M c * b - u) := by rw [g2, g3]; grind
        have z2 : B * (jp_E M c + f) = g * (b * (jp_E M c + f)) := by rw [g3]; grind
        have g131 : M4 131 0 = M 131 0 := by rw [fr _ (by decide)]
        have hA4 := jp_A_th (jp_inv_A hI) 0 0
        have hy : fX12_odds f c w M4 = some (jp_red (jw_max (jp_E M c * B - U) 0) (B * (jp_E M c + f)) w, L) := by
          unfold fX12_odds fX12_isAbove
          by_cases e : u < jp_E M c * b
          · have pz : 0 < g * (jp_E M c * b - u) := Int.mul_pos g1 (by omega)
            have em : jw_max (jp_E M c * B - U) 0 = jp_E M c * B - U := by unfold jw_max; rw [if_neg (by omega)]
            rw [em, z1, z2, jp_red_k g1]
            simp (disch := omega) only [↓jp_bs, ↓jp_b2s, ↓reduceIte, jw_up_a, Nat.reduceEqDiff, Int.reduceEq, Int.reduceLT, Int.reduceLE, Int.reduceAdd, Int.reduceSub, Int.reduceMul, Int.reduceNeg, jp_n9_1, jp_n9_8, jp_n9_15, jp_n9_21, jp_n9_24, jp_n10_1, jp_n10_2, jp_n10_3, jp_n10_4, jp_n10_5, jp_n10_6, jp_n17_1, jp_n17_2, jp_n17_3, jp_n17_4, jp_n17_5, jp_n17_6, jp_n24_1, jp_n24_2, jp_n24_3, jp_n24_4, jp_n24_5, jp_n30_1, jp_n30_2, jp_n33_1, jp_n33_2, false_and, true_and, and_true, and_false, and_self, ne_eq, not_true_eq_false, not_false_eq_true, jw_ws, jw_vs, jw_cmp_lt, jw_cmp_gt, jw_cmp_eq, jp_t1, jp_t2, jp_t3, jp_t4, jp_t5, jp_t6, ↓bX12_in, ↓bX12_isCorner hA4, g131, ↓jp_bnd l1, eL, l3, l4, ↓bX12_partOf]
          · have pz : g * (jp_E M c * b - u) ≤ g * 0 := Int.mul_le_mul_of_nonneg_left (by omega) (by omega)
            have em : jw_max (jp_E M c * B - U) 0 = 0 := by
              unfold jw_max
              split
              · rfl
              · omega
            rw [em, jp_red_0 m3 h2]
            simp (disch := omega) only [↓jp_bs, ↓jp_b2s, ↓reduceIte, jw_up_a, Nat.reduceEqDiff, Int.reduceEq, Int.reduceLT, Int.reduceLE, Int.reduceAdd, Int.reduceSub, Int.reduceMul, Int.reduceNeg, jp_n9_1, jp_n9_8, jp_n9_15, jp_n9_21, jp_n9_24, jp_n10_1, jp_n10_2, jp_n10_3, jp_n10_4, jp_n10_5, jp_n10_6, jp_n17_1, jp_n17_2, jp_n17_3, jp_n17_4, jp_n17_5, jp_n17_6, jp_n24_1, jp_n24_2, jp_n24_3, jp_n24_4, jp_n24_5, jp_n30_1, jp_n30_2, jp_n33_1, jp_n33_2, false_and, true_and, and_true, and_false, and_self, ne_eq, not_true_eq_false, not_false_eq_true, jw_ws, jw_vs, jw_cmp_lt, jw_cmp_gt, jw_cmp_eq, jp_t1, jp_t2, jp_t3, jp_t4, jp_t5, jp_t6, ↓bX12_in, ↓bX12_isCorner hA4, g131, ↓jp_bnd l1, eL, l3, l4]
        exact ⟨_, _, _, hx, hy, jp_vf_i l2 (jp_th hI 0)⟩
      · have hx : fX11_odds f c w M = some (-9000000000000000001, M) := by
          unfold fX11_odds
          simp (disch := omega) only [↓jp_bs, ↓jp_b2s, ↓reduceIte, jw_up_a, Nat.reduceEqDiff, Int.reduceEq, Int.reduceLT, Int.reduceLE, Int.reduceAdd, Int.reduceSub, Int.reduceMul, Int.reduceNeg, jp_n9_1, jp_n9_8, jp_n9_15, jp_n9_21, jp_n9_24, jp_n10_1, jp_n10_2, jp_n10_3, jp_n10_4, jp_n10_5, jp_n10_6, jp_n17_1, jp_n17_2, jp_n17_3, jp_n17_4, jp_n17_5, jp_n17_6, jp_n24_1, jp_n24_2, jp_n24_3, jp_n24_4, jp_n24_5, jp_n30_1, jp_n30_2, jp_n33_1, jp_n33_2, false_and, true_and, and_true, and_false, and_self, ne_eq, not_true_eq_false, not_false_eq_true, jw_ws, jw_vs, jw_cmp_lt, jw_cmp_gt, jw_cmp_eq, jp_t1, jp_t2, jp_t3, jp_t4, jp_t5, jp_t6, ↓bX11_isHalf, ↓bX9_isCorner, c0]
        refine ⟨_, _, _, hx, ?_, jp_th h 0⟩
        unfold fX12_odds
        simp (disch := omega) only [↓jp_bs, ↓jp_b2s, ↓reduceIte, jw_up_a, Nat.reduceEqDiff, Int.reduceEq, Int.reduceLT, Int.reduceLE, Int.reduceAdd, Int.reduceSub, Int.reduceMul, Int.reduceNeg, jp_n9_1, jp_n9_8, jp_n9_15, jp_n9_21, jp_n9_24, jp_n10_1, jp_n10_2, jp_n10_3, jp_n10_4, jp_n10_5, jp_n10_6, jp_n17_1, jp_n17_2, jp_n17_3, jp_n17_4, jp_n17_5, jp_n17_6, jp_n24_1, jp_n24_2, jp_n24_3, jp_n24_4, jp_n24_5, jp_n30_1, jp_n30_2, jp_n33_1, jp_n33_2, false_and, true_and, and_true, and_false, and_self, ne_eq, not_true_eq_false, not_false_eq_true, jw_ws, jw_vs, jw_cmp_lt, jw_cmp_gt, jw_cmp_eq, jp_t1, jp_t2, jp_t3, jp_t4, jp_t5, jp_t6, ↓bX12_in, ↓bX12_isCorner hA1, f131]
    · have hx : fX11_odds f c w M = some (-9000000000000000001, M) := by
        unfold fX11_odds
        simp (disch := omega) only [↓jp_bs, ↓jp_b2s, ↓reduceIte, jw_up_a, Nat.reduceEqDiff, Int.reduceEq, Int.reduceLT, Int.reduceLE, Int.reduceAdd, Int.reduceSub, Int.reduceMul, Int.reduceNeg, jp_n9_1, jp_n9_8, jp_n9_15, jp_n9_21, jp_n9_24, jp_n10_1, jp_n10_2, jp_n10_3, jp_n10_4, jp_n10_5, jp_n10_6, jp_n17_1, jp_n17_2, jp_n17_3, jp_n17_4, jp_n17_5, jp_n17_6, jp_n24_1, jp_n24_2, jp_n24_3, jp_n24_4, jp_n24_5, jp_n30_1, jp_n30_2, jp_n33_1, jp_n33_2, false_and, true_and, and_true, and_false, and_self, ne_eq, not_true_eq_false, not_false_eq_true, jw_ws, jw_vs, jw_cmp_lt, jw_cmp_gt, jw_cmp_eq, jp_t1, jp_t2, jp_t3, jp_t4, jp_t5, jp_t6, ↓bX9_isCorner, c0]
      refine ⟨_, _, _, hx, ?_, jp_th h 0⟩
      unfold fX12_odds
      simp (disch := omega) only [↓jp_bs, ↓jp_b2s, ↓reduceIte, jw_up_a, Nat.reduceEqDiff, Int.reduceEq, Int.reduceLT, Int.reduceLE, Int.reduceAdd, Int.reduceSub, Int.reduceMul, Int.reduceNeg, jp_n9_1, jp_n9_8, jp_n9_15, jp_n9_21, jp_n9_24, jp_n10_1, jp_n10_2, jp_n10_3, jp_n10_4, jp_n10_5, jp_n10_6, jp_n17_1, jp_n17_2, jp_n17_3, jp_n17_4, jp_n17_5, jp_n17_6, jp_n24_1, jp_n24_2, jp_n24_3, jp_n24_4, jp_n24_5, jp_n30_1, jp_n30_2, jp_n33_1, jp_n33_2, false_and, true_and, and_true, and_false, and_self, ne_eq, not_true_eq_false, not_false_eq_true, jw_ws, jw_vs, jw_cmp_lt, jw_cmp_gt, jw_cmp_eq, jp_t1, jp_t2, jp_t3, jp_t4, jp_t5, jp_t6, ↓bX12_in, ↓bX12_isCorner hA1, f131]
  · have hx : fX11_odds f c w M = some (-9000000000000000001, M) := by
      unfold fX11_odds
      by_cases h2 : f < 1
      · simp (disch := omega) only [↓jp_bs, ↓jp_b2s, ↓reduceIte, jw_up_a, Nat.reduceEqDiff, Int.reduceEq, Int.reduceLT, Int.reduceLE, Int.reduceAdd, Int.reduceSub, Int.reduceMul, Int.reduceNeg, jp_n9_1, jp_n9_8, jp_n9_15, jp_n9_21, jp_n9_24, jp_n10_1, jp_n10_2, jp_n10_3, jp_n10_4, jp_n10_5, jp_n10_6, jp_n17_1, jp_n17_2, jp_n17_3, jp_n17_4, jp_n17_5, jp_n17_6, jp_n24_1, jp_n24_2, jp_n24_3, jp_n24_4, jp_n24_5, jp_n30_1, jp_n30_2, jp_n33_1, jp_n33_2, false_and, true_and, and_true, and_false, and_self, ne_eq, not_true_eq_false, not_false_eq_true, jw_ws, jw_vs, jw_cmp_lt, jw_cmp_gt, jw_cmp_eq, jp_t1, jp_t2, jp_t3, jp_t4, jp_t5, jp_t6]
      · simp (disch := omega) only [↓jp_bs, ↓jp_b2s, ↓reduceIte, jw_up_a, Nat.reduceEqDiff, Int.reduceEq, Int.reduceLT, Int.reduceLE, Int.reduceAdd, Int.reduceSub, Int.reduceMul, Int.reduceNeg, jp_n9_1, jp_n9_8, jp_n9_15, jp_n9_21, jp_n9_24, jp_n10_1, jp_n10_2, jp_n10_3, jp_n10_4, jp_n10_5, jp_n10_6, jp_n17_1, jp_n17_2, jp_n17_3, jp_n17_4, jp_n17_5, jp_n17_6, jp_n24_1, jp_n24_2, jp_n24_3, jp_n24_4, jp_n24_5, jp_n30_1, jp_n30_2, jp_n33_1, jp_n33_2, false_and, true_and, and_true, and_false, and_self, ne_eq, not_true_eq_false, not_false_eq_true, jw_ws, jw_vs, jw_cmp_lt, jw_cmp_gt, jw_cmp_eq, jp_t1, jp_t2, jp_t3, jp_t4, jp_t5, jp_t6]
    refine ⟨_, _, _, hx, ?_, jp_th h 0⟩
    unfold fX12_odds
    simp (disch := omega) only [↓jp_bs, ↓jp_b2s, ↓reduceIte, jw_up_a, Nat.reduceEqDiff, Int.reduceEq, Int.reduceLT, Int.reduceLE, Int.reduceAdd, Int.reduceSub, Int.reduceMul, Int.reduceNeg, jp_n9_1, jp_n9_8, jp_n9_15, jp_n9_21, jp_n9_24, jp_n10_1, jp_n10_2, jp_n10_3, jp_n10_4, jp_n10_5, jp_n10_6, jp_n17_1, jp_n17_2, jp_n17_3, jp_n17_4, jp_n17_5, jp_n17_6, jp_n24_1, jp_n24_2, jp_n24_3, jp_n24_4, jp_n24_5, jp_n30_1, jp_n30_2, jp_n33_1, jp_n33_2, false_and, true_and, and_true, and_false, and_self, ne_eq, not_true_eq_false, not_false_eq_true, jw_ws, jw_vs, jw_cmp_lt, jw_cmp_gt, jw_cmp_eq, jp_t1, jp_t2, jp_t3, jp_t4, jp_t5, jp_t6, ↓bX12_in]
