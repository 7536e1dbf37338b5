/-! debts passed round -/
theorem jp_ring_step {n : Int} (Mc Mm : jw_M) (hS : jp_Sn (Mc 34) n) (hn : Mm 131 3 = n) (hD : ∀ j : Int, 0 ≤ j → j < 25 → Mm 133 (79 + j) = Mc 34 j) : (∃ Nc Nm : jw_M, fX2_firstRing (9 + 24) n Mc = some (0, Nc) ∧ fX12_takesRing Mm = some (0, Nm) ∧ (∀ k : Nat, k ≠ 35 → Nc k = Mc k) ∧ (∀ k : Nat, k ≠ 143 → Nm k = Mm k)) ∨ (∃ (v : Int) (N1 Nc Nm : jw_M), v ≠ 0 ∧ fX2_firstRing (9 + 24) n Mc = some (v, N1) ∧ fX2_lessen (9 + 24) v N1 = some Nc ∧ fX12_takesRing Mm = some (1, Nm) ∧ (∀ k : Nat, k ≠ 34 → k ≠ 35 → Nc k = Mc k) ∧ (∀ k : Nat, k ≠ 133 → k ≠ 143 → Nm k = Mm k) ∧ (∀ j : Int, j < 79 → Nm 133 j = Mm 133 j) ∧ jp_Sn (Nc 34) n ∧ jp_cp (Nc 34) < jp_cp (Mc 34) ∧ (∀ j : Int, 0 ≤ j → j < 25 → Nm 133 (79 + j) = Nc 34 j)) := by
  have hn5 := hS.1
  obtain ⟨v, N1, c1, c2, c3⟩ := gX2_firstRing Mc hS
  obtain ⟨Nm, hm⟩ := gX12_takesRing hS Mm hn hD
  have e34 : N1 34 = Mc 34 := c2 _ (by decide)
  rcases c3 with ⟨v2, vn, hd, hv, hl, hno⟩ | ⟨rfl, hno⟩
  · rcases hm with ⟨m1, m2, m3⟩ | ⟨m1, L, l2, ln, lno, x, xd, xv, xm, xf, xg, xh⟩
    · exact absurd hv (m3 v v2 vn _ hd)
    · have eL : L = v := by
        by_cases z : L < v
        · exact absurd xv (hno L l2 z _ xd)
        · by_cases z2 : v < L
          · exact absurd hv (lno v v2 z2 _ hd)
          · omega
      subst eL
      have ex : ∀ j : Int, 0 ≤ j → j < L → N1 35 j = x j := by
        rcases hl x xd xv with w | ⟨k, k0, k1, k2, k3⟩
        · exact w
        · have w1 := jp_cb_lt (B := 5) (by omega) hd xd k0 k2 k3 L.toNat (by omega) (by omega)
          have w2 := xm _ hd hv
          omega
      have hles := gX2_lessen (n := n) N1 (by rw [e34]; exact hS) ⟨l2, by omega⟩ hd (by rw [e34]; exact hv)
      rw [e34] at hles
      obtain ⟨ok1, ok2⟩ := jp_ld_ok hS ⟨l2, by omega⟩ hd hv
      refine Or.inr ⟨L, N1, _, Nm, by omega, c1, hles, m1, fun k a b => by rw [jw_pt_ne _ a, c2 k b], xf, xg, ?_, ?_, fun j a b => ?_⟩
      · rw [jw_pt_eq]; exact ok1
      · rw [jw_pt_eq]; exact ok2
      · rw [jw_pt_eq, xh j a b, jp_lm_c (S' := Mc 34) xd (fun _ _ _ => rfl) ex L.toNat (by omega)]
        exact (jp_ld_c _ xd (fun _ _ _ => rfl) ex L.toNat (by omega) j a b).symm
  · rcases hm with ⟨m1, m2, m3⟩ | ⟨m1, L, l2, ln, lno, x, xd, xv, xm, xf, xg, xh⟩
    · exact Or.inl ⟨N1, Nm, c1, m1, c2, m2⟩
    · exact absurd xv (hno L l2 ln _ xd)
theorem jp_cp_0 (S : Int → Int) : 0 ≤ jp_cp S ∧ jp_cp S ≤ 25 := by
  have := jp_sum_b (fun j => if 0 < S j then 1 else 0) 0 1 25 (fun j a b => by
    show 0 ≤ (if 0 < S j then (1 : Int) else 0) ∧ (if 0 < S j then (1 : Int) else 0) ≤ 1
    split <;> omega)
  unfold jp_cp
  omega
theorem jp_pass {n : Int} : ∀ (c : Nat) (t : Int) (k k' : Nat) (Mc Mm : jw_M), jp_Sn (Mc 34) n → Mm 131 3 = n → (∀ j : Int, 0 ≤ j → j < 25 → Mm 133 (79 + j) = Mc 34 j) → jp_cp (Mc 34) ≤ (c : Int) → t + (c : Int) ≤ 25 → 0 ≤ t → c < k → c < k' → ∃ (v : Int) (Nc Nm : jw_M), fX2_passRound_2 (9 + 24) k n t Mc = some (v, Nc) ∧ fX12_passed_18 k' t Mm = some (v, Nm) ∧ (∀ k : Nat, k ≠ 34 → k ≠ 35 → Nc k = Mc k) ∧ (∀ k : Nat, k ≠ 133 → k ≠ 143 → Nm k = Mm k) ∧ (∀ j : Int, j < 79 → Nm 133 j = Mm 133 j) ∧ jp_Sn (Nc 34) n ∧ (∀ j : Int, 0 ≤ j → j < 25 → Nm 133 (79 + j) = Nc 34 j) := by
  intro c
  induction c with
  | zero =>
    intro t k k' Mc Mm hS hn hD hc ht h0 hk hk'
    obtain ⟨k, rfl⟩ : ∃ j, k = j + 1 := ⟨k - 1, by omega⟩
    obtain ⟨k', rfl⟩ : ∃ j, k' = j + 1 := ⟨k' - 1, by omega⟩
    rcases jp_ring_step Mc Mm hS hn hD with ⟨Nc, Nm, a1, a2, a3, a4⟩ | ⟨v, N1, Nc, Nm, a0, a1, a2, a3, a4, a5, a6, a7, a8, a9⟩
    · by_cases h25 : t < 25
      · refine ⟨t, Nc, Nm, ?_, ?_, fun k _ b => a3 k b, fun k _ b => a4 k b, fun j _ => by rw [a4 _ (by decide)], by rw [a3 _ (by decide)]; exact hS, fun j a b => by rw [a4 _ (by decide), a3 _ (by decide)]; exact hD j a b⟩
        · rw [fX2_passRound_2, if_pos h25, a1, jp_b2s, jp_bs, if_pos rfl]
        · rw [fX12_passed_18, a2, jp_b2s, if_pos rfl]
      · refine ⟨t, Mc, Nm, ?_, ?_, fun k _ b => rfl, fun k _ b => a4 k b, fun j _ => by rw [a4 _ (by decide)], hS, fun j a b => by rw [a4 _ (by decide)]; exact hD j a b⟩
        · rw [fX2_passRound_2, if_neg h25]
        · rw [fX12_passed_18, a2, jp_b2s, if_pos rfl]
    · have := jp_cp_0 (Nc 34)
      have hc' : jp_cp (Mc 34) ≤ 0 := hc
      omega
  | succ c ih =>
    intro t k k' Mc Mm hS hn hD hc ht h0 hk hk'
    obtain ⟨k, rfl⟩ : ∃ j, k = j + 1 := ⟨k - 1, by omega⟩
    obtain ⟨k', rfl⟩ : ∃ j, k' = j + 1 := ⟨k' - 1, by omega⟩
    rcases jp_ring_step Mc Mm hS hn hD with ⟨Nc, Nm, a1, a2, a3, a4⟩ | ⟨v, N1, Nc, Nm, a0, a1, a2, a3, a4, a5, a6, a7, a8, a9⟩
    · refine ⟨t, Nc, Nm, ?_, ?_, fun k _ b => a3 k b, fun k _ b => a4 k b, fun j _ => by rw [a4 _ (by decide)], by rw [a3 _ (by decide)]; exact hS, fun j a b => by rw [a4 _ (by decide), a3 _ (by decide)]; exact hD j a b⟩
      · rw [fX2_passRound_2, if_pos (by omega), a1, jp_b2s, jp_bs, if_pos rfl]
      · rw [fX12_passed_18, a2, jp_b2s, if_pos rfl]
    · obtain ⟨w, Oc, Om, b1, b2, b3, b4, b5, b6, b7⟩ := ih (t + 1) k k' Nc Nm a7 (by rw [a5 _ (by decide) (by decide)]; exact hn) a9 (by omega) (by omega) (by omega) (by omega) (by omega)
      refine ⟨w, Oc, Om, ?_, ?_, fun k p q => by rw [b3 k p q, a4 k p q], fun k p q => by rw [b4 k p q, a5 k p q], fun j hj => by rw [b5 j hj, a6 j hj], b6, b7⟩
      · rw [fX2_passRound_2, if_pos (by omega), a1, jp_b2s, jp_bs, if_neg a0, a2, jp_bs, jp_bs, jw_ws (by omega)]
        exact b1
      · rw [fX12_passed_18, a3, jp_b2s, if_neg (by decide), jp_bs, jw_ws (by omega)]
        exact b2
theorem jp_passed {M : jw_M} (h : jp_inv M) : jp_ok (fX11_passed M) fX12_passed := by
  have hA := jp_inv_A h
  have hD := jp_inv_D h
  obtain ⟨⟨r0, r2, r3, r4, r5⟩, -⟩ := jp_A_r hA
  obtain ⟨-, -, g4, g7⟩ := jp_A_c hA
  obtain ⟨p1, p2⟩ := h.2.2.2.2.1.1
  by_cases hp : M 127 7 = 0
  · have hx : fX11_passed M = some (-9000000000000000002, M) := by
      unfold fX11_passed
      simp (disch := omega) only [↓jp_bs, ↓jp_b2s, ↓reduceIte, jw_up_a, Nat.reduceEqDiff, Int.reduceEq, Int.reduceLT, Int.reduceLE, Int.reduceAdd, Int.reduceSub, Int.reduceMul, Int.reduceNeg, jp_n9_1, jp_n9_8, jp_n9_15, jp_n9_21, jp_n9_24, jp_n10_1, jp_n10_2, jp_n10_3, jp_n10_4, jp_n10_5, jp_n10_6, jp_n17_1, jp_n17_2, jp_n17_3, jp_n17_4, jp_n17_5, jp_n17_6, jp_n24_1, jp_n24_2, jp_n24_3, jp_n24_4, jp_n24_5, jp_n30_1, jp_n30_2, jp_n33_1, jp_n33_2, false_and, true_and, and_true, and_false, and_self, ne_eq, not_true_eq_false, not_false_eq_true, jw_ws, jw_vs, jw_cmp_lt, jw_cmp_gt, jw_cmp_eq, jp_t1, jp_t2, jp_t3, jp_t4, jp_t5, jp_t6]
    refine ⟨_, _, _, hx, ?_, jp_th h 0⟩
    unfold fX12_passed
    simp (disch := omega) only [↓jp_bs, ↓jp_b2s, ↓reduceIte, jw_up_a, Nat.reduceEqDiff, Int.reduceEq, Int.reduceLT, Int.reduceLE, Int.reduceAdd, Int.reduceSub, Int.reduceMul, Int.reduceNeg, jp_n9_1, jp_n9_8, jp_n9_15, jp_n9_21, jp_n9_24, jp_n10_1, jp_n10_2, jp_n10_3, jp_n10_4, jp_n10_5, jp_n10_6, jp_n17_1, jp_n17_2, jp_n17_3, jp_n17_4, jp_n17_5, jp_n17_6, jp_n24_1, jp_n24_2, jp_n24_3, jp_n24_4, jp_n24_5, jp_n30_1, jp_n30_2, jp_n33_1, jp_n33_2, false_and, true_and, and_true, and_false, and_self, ne_eq, not_true_eq_false, not_false_eq_true, jw_ws, jw_vs, jw_cmp_lt, jw_cmp_gt, jw_cmp_eq, jp_t1, jp_t2, jp_t3, jp_t4, jp_t5, jp_t6]
  · obtain ⟨d1, d2, d3, d4, d5, d6, d7, d8, d9, d10, d11, d12, d13, d14⟩ := id hD
    have hSn : jp_Sn (M 34) (M 131 3) := ⟨r3, fun a b a0 a1 b0 b1 => by rw [d14 a b a0 a1 b0 b1]; exact d6 a b a0 a1 b0 b1⟩
    have h34 : ∀ j : Int, 0 ≤ j → j < 25 → M 133 (79 + j) = M 34 j := fun j a b => by
      have := d14 (j / 5) (j % 5) (by omega) (by omega) (by omega) (by omega)
      rw [show 5 * (j / 5) + j % 5 = j by omega, show 79 + 5 * (j / 5) + j % 5 = 79 + j by omega] at this
      exact this.symm
    have hcp := jp_cp_0 (M 34)
    obtain ⟨v, Nc, -, a1, -, a3, -⟩ := jp_pass 25 0 jw_fu jw_fu M M hSn rfl h34 (by omega) (by omega) (by omega) (by unfold jw_fu; omega) (by unfold jw_fu; omega)
    have e131 : jw_up Nc 127 0 0 131 = M 131 := by rw [jw_up_ne _ (by decide), a3 _ (by decide) (by decide)]
    have e133 : jw_up Nc 127 0 0 133 = M 133 := by rw [jw_up_ne _ (by decide), a3 _ (by decide) (by decide)]
    obtain ⟨v', Nc', Z, b1, b2, -, b4, b5, b6, b7⟩ := jp_pass 25 0 jw_fu jw_fu M (jw_up Nc 127 0 0) hSn (by rw [e131]) (by rw [e133]; exact h34) (by omega) (by omega) (by omega) (by unfold jw_fu; omega) (by unfold jw_fu; omega)
    rw [a1] at b1
    injection b1 with b1
    injection b1 with bv bN
    subst bv
    subst bN
    have hx : fX11_passed M = some (v, Nc) := by
      unfold fX11_passed fX2_passRound
      have e4 : M (9 + 8) 4 = M 131 3 := g4
      rw [if_neg (by omega), e4, if_pos (by decide), jp_bs, a1, jp_b2s]
    have e7 : Nc 127 7 = M 127 7 := by rw [a3 _ (by decide) (by decide)]
    have hy : fX12_passed Nc = some (v, Z) := by
      have e77 : jw_up Nc 127 0 0 127 7 = M 127 7 := by rw [jw_up_eq, jw_u1_n _ (by decide)]; exact e7
      unfold fX12_passed
      rw [jp_bs, e77, if_neg hp, jp_bs, b2]
    refine ⟨_, _, _, hx, hy, ?_⟩
    have f133 : ∀ j : Int, j < 79 → Z 133 j = M 133 j := fun j hj => by rw [b5 j hj, e133]
    have fr : ∀ k : Nat, k ≠ 133 → k ≠ 143 → k ≠ 127 → k ≠ 34 → k ≠ 35 → Z k = M k := fun k a b c d e => by rw [b4 k a b, jw_up_ne _ c, a3 k d e]
    have Z34 : Z 34 = Nc 34 := by rw [b4 _ (by decide) (by decide), jw_up_ne _ (by decide)]
    have fr7 : ∀ j : Int, j ≠ 0 → Z 127 j = M 127 j := fun j hj => by rw [b4 _ (by decide) (by decide), jw_up_eq, jw_u1_n _ hj, a3 _ (by decide) (by decide)]
    have fr0 : Z 0 = M 0 := fr 0 (by decide) (by decide) (by decide) (by decide) (by decide)
    refine jp_inv_dyn h ?_ (fun k u a b => fr k b (by intro e; subst e; revert u; decide) (by intro e; subst e; revert u; decide) (by omega) (by intro e; subst e; revert u; decide)) (fun j a b => f133 j (by omega)) (by rw [fr0]) (by rw [fr0, fr7 1 (by decide)]; exact h.2.2.1.2) (by rw [fr 5 (by decide) (by decide) (by decide) (by decide) (by decide)]) (by rw [fr 125 (by decide) (by decide) (by decide) (by decide) (by decide)]) (fr7 _ (by decide)) (fr7 _ (by decide)) (fr7 _ (by decide)) (fr7 _ (by decide))
    have Z131 : Z 131 = M 131 := fr 131 (by decide) (by decide) (by decide) (by decide) (by decide)
    unfold jp_D
    rw [Z131, f133 9 (by omega), f133 42 (by omega), f133 58 (by omega), fr 24 (by decide) (by decide) (by decide) (by decide) (by decide), fr 25 (by decide) (by decide) (by decide) (by decide) (by decide), fr 26 (by decide) (by decide) (by decide) (by decide) (by decide), fr 27 (by decide) (by decide) (by decide) (by decide) (by decide), fr 28 (by decide) (by decide) (by decide) (by decide) (by decide), fr 29 (by decide) (by decide) (by decide) (by decide) (by decide), fr 30 (by decide) (by decide) (by decide) (by decide) (by decide), fr 31 (by decide) (by decide) (by decide) (by decide) (by decide), fr 32 (by decide) (by decide) (by decide) (by decide) (by decide), Z34]
    refine ⟨d1, fun d a b => ?_, fun k a b => ?_, fun k a b => ?_, fun s a b => ?_, fun x y a b c d => ?_, d7, d8, fun z i a b => ?_, fun k a b => ?_, d11, fun c a b => ?_, fun k a b => ?_, fun x y a b c d => ?_⟩
    · rw [f133 _ (by omega)]; exact d2 d a b
    · rw [f133 _ (by omega)]; exact d3 k a b
    · rw [f133 _ (by omega)]; exact d4 k a b
    · rw [f133 _ (by omega)]; exact d5 s a b
    · rw [show 79 + 5 * x + y = 79 + (5 * x + y) by omega, b7 _ (by omega) (by omega)]
      exact b6.2 x y a b c d
    · rw [f133 _ (by omega), f133 _ (by omega), f133 _ (by omega)]; exact d9 z i a b
    · rw [f133 _ (by omega)]; exact d10 k a b
    · rw [d12 c a b]
      exact (jp_ct_c (fun j _ d => f133 _ (by omega)) c _ (by omega)).symm
    · rw [f133 _ (by omega)]; exact d13 k a b
    · rw [show 79 + 5 * x + y = 79 + (5 * x + y) by omega, b7 _ (by omega) (by omega)]
