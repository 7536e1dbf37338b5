/-! goods to cellars: the call -/
/-- what the model holds when the rows below i are through -/
def jp_sI (c : Int → Int → Int) (C n i best : Int) (bc : Int → Int) : Prop :=
  (jp_dp c C n n.toNat 0 = 1000000 → best = 1000000) ∧
  (jp_dp c C n n.toNat 0 < 1000000 → (i ≤ jp_cb C (jp_gs2 c C n) n.toNat → jp_dp c C n n.toNat 0 < best) ∧ (jp_cb C (jp_gs2 c C n) n.toNat < i → best = jp_dp c C n n.toNat 0 ∧ ∀ j : Int, 0 ≤ j → j < n → bc j = jp_gs2 c C n j))
theorem jp_fr0_0 {k : Int} (h : 0 ≤ k ∧ k < 7) : jp_fr0 0 k = true := by
  rw [jp_fr0_b (by decide) h]
  unfold jp_bit
  simp
theorem jp_dgk {C n row : Int} (hC : 0 ≤ C) (hn : 0 ≤ n) (hr : 0 ≤ row ∧ row < C ^ n.toNat) : jp_xk C n (jp_dg C row n) ∧ jp_cb C (jp_dg C row n) n.toNat = row := by
  by_cases z : C = 0
  · by_cases z2 : n = 0
    · subst z2
      refine ⟨fun j a b => by omega, ?_⟩
      have : row = 0 := by
        have h1 : C ^ (0 : Int).toNat = 1 := Int.pow_zero C
        omega
      rw [this]
      rfl
    · rw [z, Int.zero_pow (by omega)] at hr; omega
  · refine ⟨fun j a b => jp_dg_r (by omega) _ _ _, ?_⟩
    have := jp_cb_dgn (B := C) (by omega) (row := row) (n := n.toNat) hr
    rw [Int.toNat_of_nonneg hn] at this
    exact this
theorem jp_cb_lx0 {C n : Int} (hn : 0 ≤ n) {x y : Int → Int} (hx : jp_xk C n x) (hy : jp_xk C n y) (h : jp_cb C x n.toNat < jp_cb C y n.toNat) : ∃ k : Int, 0 ≤ k ∧ k < n ∧ (∀ j : Int, 0 ≤ j → j < k → x j = y j) ∧ x k < y k := by
  by_cases z : n = 0
  · subst z
    have e : jp_cb C x (0 : Int).toNat = jp_cb C y (0 : Int).toNat := rfl
    omega
  · have h0 := hx 0 (by omega) (by omega)
    obtain ⟨k, a, b, c, d⟩ := jp_cb_lx (B := C) (by omega) (x := x) (y := y) (n := n.toNat) (fun j p q => hx j p (by omega)) (fun j p q => hy j p (by omega)) h
    exact ⟨k, a, by omega, c, d⟩
theorem jp_sI_s {c : Int → Int → Int} {C n : Int} (hc : jp_ck c C n) {i best : Int} {bc : Int → Int} (hi : 0 ≤ i ∧ i < C ^ n.toNat) (h : jp_sI c C n i best bc) {best' : Int} {bc' : Int → Int} (h2 : (jp_xd n (jp_dg C i n) ∧ jp_tl c n (jp_dg C i n) n.toNat < best ∧ best' = jp_tl c n (jp_dg C i n) n.toNat ∧ ∀ j : Int, 0 ≤ j → j < n → bc' j = jp_dg C i n j) ∨ (¬ (jp_xd n (jp_dg C i n) ∧ jp_tl c n (jp_dg C i n) n.toNat < best) ∧ best' = best ∧ bc' = bc)) : jp_sI c C n (i + 1) best' bc' := by
  have hC := hc.1
  have hn := hc.2.1
  have h6 := jp_2p6 hC
  obtain ⟨xk, xc⟩ := jp_dgk hC.1 hn.1 hi
  have hle : jp_xd n (jp_dg C i n) → jp_dp c C n n.toNat 0 ≤ jp_tl c n (jp_dg C i n) n.toNat := fun hd => jp_dp_le hc xk hd n.toNat (by omega) 0 (by omega) (by omega) (fun j a b => jp_fr0_0 (by have := xk j (by omega) b; omega))
  obtain ⟨s1, s2⟩ := h
  refine ⟨fun z => ?_, fun hl => ?_⟩
  · have hb := s1 z
    rcases h2 with ⟨d1, d2, d3, d4⟩ | ⟨d1, d2, d3⟩
    · have := hle d1
      omega
    · rw [d2]; exact hb
  · obtain ⟨t1, t2⟩ := s2 hl
    obtain ⟨g1, g2, g3⟩ := jp_g3 hc hl
    have hgt := g3 n.toNat (by omega)
    rw [show (n - ((n.toNat : Nat) : Int)).toNat = 0 by omega] at hgt
    have hgt0 : jp_dp c C n n.toNat 0 = jp_tl c n (jp_gs2 c C n) n.toNat := hgt
    refine ⟨fun hz => ?_, fun hz => ?_⟩
    · have hb := t1 (by omega)
      rcases h2 with ⟨d1, d2, d3, d4⟩ | ⟨d1, d2, d3⟩
      · have h3 := hle d1
        by_cases z : jp_tl c n (jp_dg C i n) n.toNat = jp_dp c C n n.toNat 0
        · obtain ⟨k, k0, k1, k2, k3⟩ := jp_cb_lx0 hn.1 xk g1 (by rw [xc]; omega)
          exact absurd k3 (jp_g4 hc hl xk d1 z k0 k1 k2)
        · omega
      · rw [d2]; exact hb
    · by_cases z : jp_cb C (jp_gs2 c C n) n.toNat = i
      · have hb := t1 (by omega)
        have eq : ∀ j : Int, 0 ≤ j → j < n → jp_dg C i n j = jp_gs2 c C n j := by
          intro j a b
          have hc1 := g1 j a b
          exact jp_cb_eq (B := C) (by omega) (x := jp_dg C i n) (y := jp_gs2 c C n) (n := n.toNat) (fun j p q => xk j p (by omega)) (fun j p q => g1 j p (by omega)) (by rw [xc, z]) j a (by omega)
        have etl : jp_tl c n (jp_dg C i n) n.toNat = jp_dp c C n n.toNat 0 := by
          rw [hgt0]
          exact jp_tl_c n.toNat (fun j a b => eq j (by omega) b)
        have exd : jp_xd n (jp_dg C i n) := fun p q a b d => by rw [eq p a (by omega), eq q (by omega) d]; exact g2 p q a b d
        rcases h2 with ⟨d1, d2, d3, d4⟩ | ⟨d1, d2, d3⟩
        · exact ⟨by rw [d3, etl], fun j a b => by rw [d4 j a b, eq j a b]⟩
        · exact absurd ⟨exd, by omega⟩ d1
      · obtain ⟨hb, hbc⟩ := t2 (by omega)
        rcases h2 with ⟨d1, d2, d3, d4⟩ | ⟨d1, d2, d3⟩
        · have := hle d1
          omega
        · rw [d2, d3]; exact ⟨hb, hbc⟩
theorem gX12_stored_37 {M : jw_M} (hA : jp_A M) {P : Int → Int} (hP : ∀ s : Int, 0 ≤ s → s < M 131 3 → M 133 s = P s ∧ 0 ≤ P s ∧ P s < M 131 0) (a : Int) (ha : -1 ≤ a) : ∃ N : jw_M, jp_s9 M N ∧ fX12_stored_37 jw_fu a (M 131 3) 1 0 M = some (if jp_dp (jp_co (M 131) P) (M 131 5) (M 131 3) (M 131 3).toNat 0 < 1000000 ∧ a < M 131 3 then (if a = -1 then jp_dp (jp_co (M 131) P) (M 131 5) (M 131 3) (M 131 3).toNat 0 else jp_gs2 (jp_co (M 131) P) (M 131 5) (M 131 3) a) else -1000000, N) := by
  obtain ⟨⟨r0, r2, r3, r4, r5⟩, -⟩ := jp_A_r hA
  have h76 := jp_pw76 r5 r3
  have hck := jp_co_k (P := P) hA.1 (fun s a b => (hP s a b).2)
  have hdr := jp_dp_r hck (M 131 3).toNat (by omega) 0
  refine jp_up (fun k i q => fX12_stored_37 k a (M 131 3) q i M) (M 131 3) (fun i q => 0 ≤ i ∧ q = M 131 5 ^ i.toNat) (fun r => ∃ N : jw_M, jp_s9 M N ∧ r = some (if jp_dp (jp_co (M 131) P) (M 131 5) (M 131 3) (M 131 3).toNat 0 < 1000000 ∧ a < M 131 3 then (if a = -1 then jp_dp (jp_co (M 131) P) (M 131 5) (M 131 3) (M 131 3).toNat 0 else jp_gs2 (jp_co (M 131) P) (M 131 5) (M 131 3) a) else -1000000, N)) ?_ ?_ jw_fu 0 1 (by unfold jw_fu; omega) (by omega) ⟨by omega, (Int.pow_zero (M 131 5)).symm⟩
  · intro k i q hp hi ih
    obtain ⟨h0, rfl⟩ := hp
    have hb := jp_pw76 (C := M 131 5) (n := i + 1) r5 (by omega)
    have e : M 131 5 ^ (i + 1).toNat = M 131 5 ^ i.toNat * M 131 5 := by rw [show (i + 1).toNat = i.toNat + 1 by omega, Int.pow_succ]
    show ∃ N : jw_M, jp_s9 M N ∧ fX12_stored_37 (k + 1) a (M 131 3) (M 131 5 ^ i.toNat) i M = _
    rw [fX12_stored_37, if_pos hi, if_pos (by decide), jp_bs, jp_bs, ← e, jw_ws (x := i + 1) (by omega), jw_ws (by omega)]
    exact ih _ ⟨by omega, rfl⟩
  · intro k q hp
    obtain ⟨h0, rfl⟩ := hp
    show ∃ N : jw_M, jp_s9 M N ∧ fX12_stored_37 (k + 1) a (M 131 3) (M 131 5 ^ (M 131 3).toNat) (M 131 3) M = _
    rw [fX12_stored_37, if_neg (by omega), jp_bs, jp_bs]
    refine jp_up (fun k i (q : Int × jw_M) => fX12_stored_65 k a (M 131 3) (M 131 5 ^ (M 131 3).toNat) q.1 i q.2) (M 131 5 ^ (M 131 3).toNat) (fun i q => 0 ≤ i ∧ jp_s9 M q.2 ∧ jp_sI (jp_co (M 131) P) (M 131 5) (M 131 3) i q.1 (q.2 140)) (fun r => ∃ N : jw_M, jp_s9 M N ∧ r = some (if jp_dp (jp_co (M 131) P) (M 131 5) (M 131 3) (M 131 3).toNat 0 < 1000000 ∧ a < M 131 3 then (if a = -1 then jp_dp (jp_co (M 131) P) (M 131 5) (M 131 3) (M 131 3).toNat 0 else jp_gs2 (jp_co (M 131) P) (M 131 5) (M 131 3) a) else -1000000, N)) ?_ ?_ jw_fu 0 (1000000, M) (by unfold jw_fu; omega) (by omega) ⟨by omega, fun _ _ _ => rfl, fun _ => rfl, fun hl => ⟨fun _ => hl, fun z => ?_⟩⟩
    · intro k i q hp hi ih
      obtain ⟨best, N⟩ := q
      obtain ⟨h0, hf, hs⟩ := hp
      have hf0 : jp_s9 M N := hf
      have hs0 : jp_sI (jp_co (M 131) P) (M 131 5) (M 131 3) i best (N 140) := hs
      obtain ⟨N', n1, n2⟩ := gX12_stored_89 hA hP (fX12_stored_65 k) a (M 131 5 ^ (M 131 3).toNat) best i ⟨h0, hi⟩ N hf0
      show ∃ N : jw_M, jp_s9 M N ∧ fX12_stored_65 (k + 1) a (M 131 3) (M 131 5 ^ (M 131 3).toNat) best i _ = _
      rw [fX12_stored_65, if_pos hi, jp_bs, jp_bs, jp_bs, jp_bs, jp_bs, jw_ws (by omega)]
      rcases n2 with ⟨d1, d2, d3, d4⟩ | ⟨d1, d2, d3⟩
      · rw [d3]
        exact ih (_, N') ⟨by omega, n1, jp_sI_s hck ⟨h0, hi⟩ hs0 (Or.inl ⟨d1, d2, rfl, d4⟩)⟩
      · rw [d2]
        exact ih (_, N') ⟨by omega, n1, jp_sI_s hck ⟨h0, hi⟩ hs0 (Or.inr ⟨d1, rfl, d3⟩)⟩
    · intro k q hp
      obtain ⟨best, N⟩ := q
      obtain ⟨h0, hf, hs⟩ := hp
      have hf0 : jp_s9 M N := hf
      have hs0 : jp_sI (jp_co (M 131) P) (M 131 5) (M 131 3) (M 131 5 ^ (M 131 3).toNat) best (N 140) := hs
      refine ⟨N, hf0, ?_⟩
      show fX12_stored_65 (k + 1) a (M 131 3) (M 131 5 ^ (M 131 3).toNat) best (M 131 5 ^ (M 131 3).toNat) N = _
      rw [fX12_stored_65, if_neg (by omega)]
      obtain ⟨s1, s2⟩ := hs0
      by_cases hl : jp_dp (jp_co (M 131) P) (M 131 5) (M 131 3) (M 131 3).toNat 0 < 1000000
      · obtain ⟨g1, g2, g3⟩ := jp_g3 hck hl
        have hcr : jp_cb (M 131 5) (jp_gs2 (jp_co (M 131) P) (M 131 5) (M 131 3)) (M 131 3).toNat < M 131 5 ^ (M 131 3).toNat := by
          by_cases z : M 131 3 = 0
          · have e0 : (M 131 3).toNat = 0 := by omega
            rw [e0, Int.pow_zero, jp_cb]
            decide
          · have hg0 := g1 0 (by omega) (by omega)
            exact (jp_cb_r (B := M 131 5) (by omega) (M 131 3).toNat (fun j p q => g1 j p (by omega))).2
        obtain ⟨hb, hbc⟩ := (s2 hl).2 hcr
        rw [hb, if_pos hl]
        by_cases z : a = -1
        · rw [if_pos z, if_pos ⟨hl, by omega⟩, if_pos z]
        · rw [if_neg z]
          by_cases z2 : a < M 131 3
          · rw [if_pos z2, if_pos (by omega), hbc a (by omega) z2, if_pos ⟨hl, z2⟩, if_neg z]
          · rw [if_neg z2, if_neg (fun w => z2 w.2)]
      · have hb := s1 (by omega)
        rw [hb, if_neg (by decide), if_neg (fun w => hl w.1)]
    · exfalso
      have z2 : jp_cb (M 131 5) (jp_gs2 (jp_co (M 131) P) (M 131 5) (M 131 3)) (M 131 3).toNat < 0 := z
      obtain ⟨g1, g2, g3⟩ := jp_g3 hck hl
      by_cases z3 : M 131 3 = 0
      · have e0 : (M 131 3).toNat = 0 := by omega
        rw [e0, jp_cb] at z2
        omega
      · have hg0 := g1 0 (by omega) (by omega)
        have := (jp_cb_r (B := M 131 5) (by omega) (M 131 3).toNat (fun j p q => g1 j p (by omega))).1
        omega
theorem jp_stored {M : jw_M} (h : jp_inv M) (a : Int) : jp_ok (fX11_stored a M) (fX12_stored a) := by
  have hA := jp_inv_A h
  have hB := jp_inv_B h
  obtain ⟨⟨r0, r2, r3, r4, r5⟩, -⟩ := jp_A_r hA
  obtain ⟨-, -, g4, g7⟩ := jp_A_c hA
  obtain ⟨p1, p2⟩ := h.2.2.2.2.1.1
  by_cases ha : a < -1
  · have hx : fX11_stored a M = some (-9000000000000000001, M) := by
      unfold fX11_stored
      simp (disch := omega) only [↓jp_bs, ↓jp_b2s, ↓reduceIte, jw_up_a, Nat.reduceEqDiff, Int.reduceEq, Int.reduceLT, Int.reduceLE, Int.reduceAdd, Int.reduceSub, Int.reduceMul, Int.reduceNeg, jp_n9_1, jp_n9_8, jp_n9_15, jp_n9_21, jp_n9_24, jp_n10_1, jp_n10_2, jp_n10_3, jp_n10_4, jp_n10_5, jp_n10_6, jp_n17_1, jp_n17_2, jp_n17_3, jp_n17_4, jp_n17_5, jp_n17_6, jp_n24_1, jp_n24_2, jp_n24_3, jp_n24_4, jp_n24_5, jp_n30_1, jp_n30_2, jp_n33_1, jp_n33_2, false_and, true_and, and_true, and_false, and_self, ne_eq, not_true_eq_false, not_false_eq_true, jw_ws, jw_vs, jw_cmp_lt, jw_cmp_gt, jw_cmp_eq, jp_t1, jp_t2, jp_t3, jp_t4, jp_t5, jp_t6]
    refine ⟨_, _, _, hx, ?_, jp_th h 0⟩
    unfold fX12_stored
    simp (disch := omega) only [↓jp_bs, ↓jp_b2s, ↓reduceIte, jw_up_a, Nat.reduceEqDiff, Int.reduceEq, Int.reduceLT, Int.reduceLE, Int.reduceAdd, Int.reduceSub, Int.reduceMul, Int.reduceNeg, jp_n9_1, jp_n9_8, jp_n9_15, jp_n9_21, jp_n9_24, jp_n10_1, jp_n10_2, jp_n10_3, jp_n10_4, jp_n10_5, jp_n10_6, jp_n17_1, jp_n17_2, jp_n17_3, jp_n17_4, jp_n17_5, jp_n17_6, jp_n24_1, jp_n24_2, jp_n24_3, jp_n24_4, jp_n24_5, jp_n30_1, jp_n30_2, jp_n33_1, jp_n33_2, false_and, true_and, and_true, and_false, and_self, ne_eq, not_true_eq_false, not_false_eq_true, jw_ws, jw_vs, jw_cmp_lt, jw_cmp_gt, jw_cmp_eq, jp_t1, jp_t2, jp_t3, jp_t4, jp_t5, jp_t6]
  · by_cases hp : M 127 7 = 0
    · have hx : fX11_stored a M = some (-9000000000000000002, M) := by
        unfold fX11_stored
        simp (disch := omega) only [↓jp_bs, ↓jp_b2s, ↓reduceIte, jw_up_a, Nat.reduceEqDiff, Int.reduceEq, Int.reduceLT, Int.reduceLE, Int.reduceAdd, Int.reduceSub, Int.reduceMul, Int.reduceNeg, jp_n9_1, jp_n9_8, jp_n9_15, jp_n9_21, jp_n9_24, jp_n10_1, jp_n10_2, jp_n10_3, jp_n10_4, jp_n10_5, jp_n10_6, jp_n17_1, jp_n17_2, jp_n17_3, jp_n17_4, jp_n17_5, jp_n17_6, jp_n24_1, jp_n24_2, jp_n24_3, jp_n24_4, jp_n24_5, jp_n30_1, jp_n30_2, jp_n33_1, jp_n33_2, false_and, true_and, and_true, and_false, and_self, ne_eq, not_true_eq_false, not_false_eq_true, jw_ws, jw_vs, jw_cmp_lt, jw_cmp_gt, jw_cmp_eq, jp_t1, jp_t2, jp_t3, jp_t4, jp_t5, jp_t6]
      refine ⟨_, _, _, hx, ?_, jp_th h 0⟩
      unfold fX12_stored
      simp (disch := omega) only [↓jp_bs, ↓jp_b2s, ↓reduceIte, jw_up_a, Nat.reduceEqDiff, Int.reduceEq, Int.reduceLT, Int.reduceLE, Int.reduceAdd, Int.reduceSub, Int.reduceMul, Int.reduceNeg, jp_n9_1, jp_n9_8, jp_n9_15, jp_n9_21, jp_n9_24, jp_n10_1, jp_n10_2, jp_n10_3, jp_n10_4, jp_n10_5, jp_n10_6, jp_n17_1, jp_n17_2, jp_n17_3, jp_n17_4, jp_n17_5, jp_n17_6, jp_n24_1, jp_n24_2, jp_n24_3, jp_n24_4, jp_n24_5, jp_n30_1, jp_n30_2, jp_n33_1, jp_n33_2, false_and, true_and, and_true, and_false, and_self, ne_eq, not_true_eq_false, not_false_eq_true, jw_ws, jw_vs, jw_cmp_lt, jw_cmp_gt, jw_cmp_eq, jp_t1, jp_t2, jp_t3, jp_t4, jp_t5, jp_t6]
    · have hP : ∀ s : Int, 0 ≤ s → s < M 131 3 → 0 ≤ M 22 s ∧ M 22 s < M 131 0 := fun s p q => by have := hB.1 s p q; omega
      obtain ⟨N, n1, n2, n3⟩ := gX5_leastStorage hA hP
      have n131 : N 131 = M 131 := n2 _ (by decide)
      have n22 : N 22 = M 22 := n2 _ (by decide)
      have hAN : jp_A N := jp_A_fr hA (fun k _ _ => n2 k (by omega)) n131 (n2 _ (by decide)) (n2 _ (by decide))
      have hIN : jp_inv N := by
        refine jp_inv_fr h (fun k hk => n2 k (fun e => ?_)) (by rw [n2 _ (by decide)]) (by rw [n2 _ (by decide)]) (by rw [n2 _ (by decide)]) (by rw [n2 _ (by decide)]) (by rw [n2 _ (by decide)]) (by rw [n2 _ (by decide)]) (by rw [n2 _ (by decide)]) (by rw [n2 _ (by decide)]) (by rw [n2 _ (by decide)])
        subst e
        revert hk
        decide
      have e17 : N (9 + 8) 4 = M 131 3 := by rw [n2 (9 + 8) (by decide)]; exact g4
      have hx : fX11_stored a M = some (if jp_dp (jp_co (M 131) (M 22)) (M 131 5) (M 131 3) (M 131 3).toNat 0 < 1000000 ∧ a < M 131 3 then (if a = -1 then jp_dp (jp_co (M 131) (M 22)) (M 131 5) (M 131 3) (M 131 3).toNat 0 else jp_gs2 (jp_co (M 131) (M 22)) (M 131 5) (M 131 3) a) else -1000000, N) := by
        unfold fX11_stored
        rw [if_neg ha, if_neg (by omega), n1, jp_b2s, jp_bs, e17]
        by_cases hl : jp_dp (jp_co (M 131) (M 22)) (M 131 5) (M 131 3) (M 131 3).toNat 0 < 1000000
        · by_cases h2 : a < M 131 3
          · rw [if_pos hl, if_pos h2, if_pos (And.intro hl h2)]
            by_cases h3 : a = -1
            · rw [if_pos h3, if_pos h3]
            · have hcf := gX5_cellarFor hAN (by rw [n131, n22]; exact hP) n3 (by rw [n131, n22]; exact hl) a (by rw [n131]; omega)
              rw [n131, n22] at hcf
              rw [if_neg h3, if_neg h3, hcf, jp_bs]
          · rw [if_pos hl, if_neg h2, if_neg (fun w => h2 w.2)]
        · rw [if_neg hl, if_neg (fun w => hl w.1)]
      have e131 : jw_up N 127 0 0 131 = M 131 := by rw [jw_up_ne _ (by decide)]; exact n131
      have e133 : jw_up N 127 0 0 133 = M 133 := by rw [jw_up_ne _ (by decide)]; exact n2 _ (by decide)
      obtain ⟨Z, z1, z2⟩ := gX12_stored_37 (M := jw_up N 127 0 0) (jp_A_th hAN 0 0) (P := M 22) (by rw [e131, e133]; exact fun s p q => by have := hB.1 s p q; omega) a (by omega)
      rw [e131] at z2
      have hy : fX12_stored a N = some (if jp_dp (jp_co (M 131) (M 22)) (M 131 5) (M 131 3) (M 131 3).toNat 0 < 1000000 ∧ a < M 131 3 then (if a = -1 then jp_dp (jp_co (M 131) (M 22)) (M 131 5) (M 131 3) (M 131 3).toNat 0 else jp_gs2 (jp_co (M 131) (M 22)) (M 131 5) (M 131 3) a) else -1000000, Z) := by
        have e7 : jw_up N 127 0 0 127 7 = M 127 7 := by rw [jw_up_eq, jw_u1_n _ (by decide), n2 _ (by decide)]
        unfold fX12_stored
        rw [jp_bs, if_neg ha, e7, if_neg hp, if_pos (by decide), jp_bs, jp_bs, jp_bs, e131]
        exact z2
      refine ⟨_, _, _, hx, hy, ?_⟩
      refine jp_inv_fr (jp_th hIN 0) (fun k hk => z1 k (fun e => ?_) (fun e => ?_)) (by rw [z1 _ (by decide) (by decide)]) (by rw [z1 _ (by decide) (by decide)]) (by rw [z1 _ (by decide) (by decide)]) (by rw [z1 _ (by decide) (by decide)]) (by rw [z1 _ (by decide) (by decide)]) (by rw [z1 _ (by decide) (by decide)]) (by rw [z1 _ (by decide) (by decide)]) (by rw [z1 _ (by decide) (by decide)]) (by rw [z1 _ (by decide) (by decide)])
      · subst e
        revert hk
        decide
      · subst e
        revert hk
        decide
