/-! raids: the two calls -/
theorem jp_raid_B {M : jw_M} (h : jp_inv M) (q : Int) {C : Int → Int} (hC : jp_cok C) (hp : 1 ≤ M 131 0) : (∀ k : Nat, k ≠ 24 → k ≠ 25 → k ≠ 29 → jw_pt (jp_bg M q) 25 C k = M k) ∧ jw_pt (jp_bg M q) 25 C 24 0 = q ∧ jw_pt (jp_bg M q) 25 C 24 1 = 0 ∧ jw_pt (jp_bg M q) 25 C 25 = C ∧ (∀ k : Int, 0 ≤ k → k < 20 → jw_pt (jp_bg M q) 25 C 29 k = 0) ∧ ∃ N : jw_M, fX11_raidFrom_153 (jw_pt (jp_bg M q) 25 C) = some (jp_mask (fun s => decide (jp_o (M 131) C (M 23) (M 22) s = 2)) (M 131 3).toNat, jw_up N 0 10 0) ∧ jp_jI (jw_pt (jp_bg M q) 25 C) N (M 131 3) (M 131 3) 0 := by
  obtain ⟨g1, g2, g3, g4, g5⟩ := jp_bg_f M q
  have hA := jp_inv_A h
  have hB := jp_inv_B h
  have b1 : ∀ k : Nat, k ≠ 24 → k ≠ 25 → k ≠ 29 → jw_pt (jp_bg M q) 25 C k = M k := fun k a b c => by rw [jw_pt_ne _ b, g1 k a b c]
  have b25 : jw_pt (jp_bg M q) 25 C 25 = C := jw_pt_eq _ _ _
  have hX : jp_Xc (jw_pt (jp_bg M q) 25 C) := by
    refine ⟨jp_A_fr hA (fun k a b => b1 k (by omega) (by omega) (by omega)) (b1 _ (by decide) (by decide) (by decide)) (b1 _ (by decide) (by decide) (by decide)) (b1 _ (by decide) (by decide) (by decide)), ?_, ?_, ?_, ?_⟩
    · rw [b1 131 (by decide) (by decide) (by decide)]; exact hp
    · rw [b25]; exact hC
    · rw [b1 131 (by decide) (by decide) (by decide), b1 22 (by decide) (by decide) (by decide)]
      intro s a b
      have := hB.1 s a b
      omega
    · rw [b1 131 (by decide) (by decide) (by decide), b1 23 (by decide) (by decide) (by decide)]
      intro s a b
      have := hB.2 s a b
      omega
  obtain ⟨N, n1, n2⟩ := gX11_raid_153 hX
  rw [b1 131 (by decide) (by decide) (by decide), b1 22 (by decide) (by decide) (by decide), b1 23 (by decide) (by decide) (by decide), b25] at n1
  rw [b1 131 (by decide) (by decide) (by decide)] at n2
  refine ⟨b1, ?_, ?_, b25, fun k a b => ?_, N, n1, n2⟩
  · rw [jw_pt_ne _ (by decide)]; exact g2
  · rw [jw_pt_ne _ (by decide)]; exact g3
  · rw [jw_pt_ne _ (by decide)]; exact g5 k a b
theorem jp_inv_137 {M : jw_M} (h : jp_inv M) (g : Int → Int) : jp_inv (jw_pt M 137 g) := by
  refine jp_inv_fr h (fun k hk => jw_pt_ne _ (fun e => ?_) _) rfl rfl rfl rfl rfl rfl rfl rfl rfl
  subst e
  revert hk
  decide
theorem jp_fnd2 {M : jw_M} (h : jp_inv M) (n : Int) : jp_inv (jw_up (jw_up (jw_up M 0 10 n) 127 0 0) 127 1 n) := by
  simp only [jw_up_pt]
  refine jp_inv_st h (fun k p q => ?_) rfl rfl rfl rfl rfl rfl
  rw [jw_pt_ne _ q, jw_pt_ne _ q, jw_pt_ne _ p]
/-- the class walks -/
theorem gX11_walk1 {M : jw_M} (h : jp_inv M) (q r f n : Int) (C : Int → Int) (hr : 0 ≤ r ∧ r < 8) (hf : 0 ≤ f ∧ 0 ≤ n ∧ n ≤ 10 ∧ f + n ≤ 40) (hv : jp_all (jp_rp (M 131) (M 4) (40 * r + f)) n.toNat = true) : fX11_walkRoute r f n (jw_pt (jp_bg M q) 25 C) = some (jw_pt (jp_bg M q) 25 (jp_cw (M 131) (M 4) (40 * r + f) C n.toNat)) := by
  have g1 := (jp_bg_f M q).1
  have b1 : ∀ k : Nat, k ≠ 24 → k ≠ 25 → k ≠ 29 → jw_pt (jp_bg M q) 25 C k = M k := fun k a b c => by rw [jw_pt_ne _ b, g1 k a b c]
  have hA : jp_A (jw_pt (jp_bg M q) 25 C) := jp_A_fr (jp_inv_A h) (fun k a b => b1 k (by omega) (by omega) (by omega)) (b1 _ (by decide) (by decide) (by decide)) (b1 _ (by decide) (by decide) (by decide)) (b1 _ (by decide) (by decide) (by decide))
  have hw := gX11_walkRoute hA r f n hr hf (by rw [b1 131 (by decide) (by decide) (by decide), b1 4 (by decide) (by decide) (by decide)]; exact hv)
  rw [b1 131 (by decide) (by decide) (by decide), b1 4 (by decide) (by decide) (by decide), jw_pt_eq, jw_pt_pt] at hw
  exact hw
theorem bX11_walk1 {M : jw_M} (h : jp_inv M) (q r f n : Int) (C : Int → Int) (hr : 0 ≤ r ∧ r < 8) (hf : 0 ≤ f ∧ 0 ≤ n ∧ n ≤ 10 ∧ f + n ≤ 40) (hv : jp_all (jp_rp (M 131) (M 4) (40 * r + f)) n.toNat = true) {be : Type} (kk : _ → Option be) : Option.bind (fX11_walkRoute r f n (jw_pt (jp_bg M q) 25 C)) kk = kk ((jw_pt (jp_bg M q) 25 (jp_cw (M 131) (M 4) (40 * r + f) C n.toNat))) := by rw [show fX11_walkRoute r f n (jw_pt (jp_bg M q) 25 C) = some (jw_pt (jp_bg M q) 25 (jp_cw (M 131) (M 4) (40 * r + f) C n.toNat)) from gX11_walk1 h q r f n C hr hf hv]; rfl
theorem jp_bg_25 (M : jw_M) (q : Int) : jw_pt (jp_bg M q) 25 (jw_ff (M 25) 0 7 1000000) = jp_bg M q := by
  have e := (jp_bg_f M q).2.2.2.1
  rw [← e, jw_pt_id]
/-- the model walks -/
theorem gX12_go1 {X : jw_M} (hA : jp_A X) {R : Int → Int} (o n : Int) (ho : 0 ≤ o ∧ 0 ≤ n ∧ n ≤ 10 ∧ o + n ≤ 320) (hR : ∀ k : Int, o ≤ k → k < o + n → X 130 k = R k) (g : Int → Int) : ∃ C : Int → Int, fX12_goRoute o n (jw_pt X 137 g) = some (jp_01 (jp_all (jp_rp (X 131) R o) n.toNat), jw_pt X 137 C) ∧ (jp_all (jp_rp (X 131) R o) n.toNat = true → ∀ D : Int → Int, (∀ c : Int, 0 ≤ c → c < 7 → g c = D c) → ∀ c : Int, 0 ≤ c → c < 7 → C c = jp_cw (X 131) R o D n.toNat c) := by
  obtain ⟨⟨r0, r2, r3, r4, r5⟩, -⟩ := jp_A_r hA
  obtain ⟨C, c1, c2⟩ := gX12_goRoute (jp_A_pt hA 137 g (by decide)) o n ho
  rw [jw_pt_ne _ (by decide), jw_pt_ne _ (by decide), jw_pt_eq, jp_rp_e hR] at c2
  rw [jw_pt_ne _ (by decide), jw_pt_ne _ (by decide), jp_rp_e hR, jw_pt_pt] at c1
  refine ⟨C, c1, fun hv D hD c a b => ?_⟩
  rw [c2 hv]
  exact jp_cw_e r0.2 hv hR hD _ (by omega) c a b
theorem jp_raid {M : jw_M} (h : jp_inv M) (r i n : Int) (hi : -2147483648 ≤ i ∧ i < 2147483648) (hn : -2147483648 ≤ n ∧ n < 2147483648) : jp_ok (fX11_raid r i n M) (fX12_raid r i n) := by
  have hA := jp_inv_A h
  obtain ⟨p1, p2⟩ := h.2.2.2.2.1.1
  by_cases h0 : (0 ≤ r ∧ r < 8) ∧ 1 ≤ n ∧ n ≤ 10
  · obtain ⟨hr, hn1⟩ := h0
    obtain ⟨e1, e2, e3, e4, e5, e6⟩ := h.1.1 r hr.1 hr.2
    by_cases hp : M 127 7 = 0
    · have hx : fX11_raid r i n M = some (-9000000000000000002, M) := by
        unfold fX11_raid fX11_raidFrom
        simp (disch := omega) only [↓jp_bs, ↓jp_b2s, ↓reduceIte, jw_up_a, Nat.reduceEqDiff, Int.reduceEq, Int.reduceLT, Int.reduceLE, Int.reduceAdd, Int.reduceSub, Int.reduceMul, Int.reduceNeg, jp_n9_1, jp_n9_8, jp_n9_15, jp_n9_21, jp_n9_24, jp_n10_1, jp_n10_2, jp_n10_3, jp_n10_4, jp_n10_5, jp_n10_6, jp_n17_1, jp_n17_2, jp_n17_3, jp_n17_4, jp_n17_5, jp_n17_6, jp_n24_1, jp_n24_2, jp_n24_3, jp_n24_4, jp_n24_5, jp_n30_1, jp_n30_2, jp_n33_1, jp_n33_2, false_and, true_and, and_true, and_false, and_self, ne_eq, not_true_eq_false, not_false_eq_true, jw_ws, jw_vs, jw_cmp_lt, jw_cmp_gt, jw_cmp_eq, jp_t1, jp_t2, jp_t3, jp_t4, jp_t5, jp_t6, ↓bX6_isRow]
      refine ⟨_, _, _, hx, ?_, jp_th h 0⟩
      unfold fX12_raid
      simp (disch := omega) only [↓jp_bs, ↓jp_b2s, ↓reduceIte, jw_up_a, Nat.reduceEqDiff, Int.reduceEq, Int.reduceLT, Int.reduceLE, Int.reduceAdd, Int.reduceSub, Int.reduceMul, Int.reduceNeg, jp_n9_1, jp_n9_8, jp_n9_15, jp_n9_21, jp_n9_24, jp_n10_1, jp_n10_2, jp_n10_3, jp_n10_4, jp_n10_5, jp_n10_6, jp_n17_1, jp_n17_2, jp_n17_3, jp_n17_4, jp_n17_5, jp_n17_6, jp_n24_1, jp_n24_2, jp_n24_3, jp_n24_4, jp_n24_5, jp_n30_1, jp_n30_2, jp_n33_1, jp_n33_2, false_and, true_and, and_true, and_false, and_self, ne_eq, not_true_eq_false, not_false_eq_true, jw_ws, jw_vs, jw_cmp_lt, jw_cmp_gt, jw_cmp_eq, jp_t1, jp_t2, jp_t3, jp_t4, jp_t5, jp_t6, ↓bX12_isRow, ↓bX12_in]
    · by_cases hm : M 128 r = -1
      · have hx : fX11_raid r i n M = some (-9000000000000000011, jw_up M 0 10 1) := by
          unfold fX11_raid fX11_raidFrom
          simp (disch := omega) only [↓jp_bs, ↓jp_b2s, ↓reduceIte, jw_up_a, Nat.reduceEqDiff, Int.reduceEq, Int.reduceLT, Int.reduceLE, Int.reduceAdd, Int.reduceSub, Int.reduceMul, Int.reduceNeg, jp_n9_1, jp_n9_8, jp_n9_15, jp_n9_21, jp_n9_24, jp_n10_1, jp_n10_2, jp_n10_3, jp_n10_4, jp_n10_5, jp_n10_6, jp_n17_1, jp_n17_2, jp_n17_3, jp_n17_4, jp_n17_5, jp_n17_6, jp_n24_1, jp_n24_2, jp_n24_3, jp_n24_4, jp_n24_5, jp_n30_1, jp_n30_2, jp_n33_1, jp_n33_2, false_and, true_and, and_true, and_false, and_self, ne_eq, not_true_eq_false, not_false_eq_true, jw_ws, jw_vs, jw_cmp_lt, jw_cmp_gt, jw_cmp_eq, jp_t1, jp_t2, jp_t3, jp_t4, jp_t5, jp_t6, ↓bX6_isRow, ↓bX6_isMissing, ↓bX11_found]
        refine ⟨_, _, _, hx, ?_, jp_fnd2 h 1⟩
        unfold fX12_raid
        simp (disch := omega) only [↓jp_bs, ↓jp_b2s, ↓reduceIte, jw_up_a, Nat.reduceEqDiff, Int.reduceEq, Int.reduceLT, Int.reduceLE, Int.reduceAdd, Int.reduceSub, Int.reduceMul, Int.reduceNeg, jp_n9_1, jp_n9_8, jp_n9_15, jp_n9_21, jp_n9_24, jp_n10_1, jp_n10_2, jp_n10_3, jp_n10_4, jp_n10_5, jp_n10_6, jp_n17_1, jp_n17_2, jp_n17_3, jp_n17_4, jp_n17_5, jp_n17_6, jp_n24_1, jp_n24_2, jp_n24_3, jp_n24_4, jp_n24_5, jp_n30_1, jp_n30_2, jp_n33_1, jp_n33_2, false_and, true_and, and_true, and_false, and_self, ne_eq, not_true_eq_false, not_false_eq_true, jw_ws, jw_vs, jw_cmp_lt, jw_cmp_gt, jw_cmp_eq, jp_t1, jp_t2, jp_t3, jp_t4, jp_t5, jp_t6, ↓bX12_isRow, ↓bX12_in, ↓bX12_finding]
      · by_cases hs : 0 ≤ i ∧ i + n ≤ M 129 r
        · have hrp : jp_all (jp_rp (M 131) (M 4) (40 * r + i)) n.toNat = true ∨ jp_all (jp_rp (M 131) (M 4) (40 * r + i)) n.toNat = false := by cases jp_all (jp_rp (M 131) (M 4) (40 * r + i)) n.toNat <;> simp
          rcases hrp with hv | hv
          · have hp7 : 1 ≤ M 131 0 := by omega
            have hC := jp_cw_ok hA.1 (o := 40 * r + i) (n := n) (by omega) hv (jp_ff_cok (M 25)) n.toNat (by omega)
            obtain ⟨b1, b2, b3, b4, b5, N, n1, n2⟩ := jp_raid_B h 1 hC hp7
            have hw := gX11_walk1 h 1 r i n (jw_ff (M 25) 0 7 1000000) hr (by omega) hv
            rw [jp_bg_25] at hw
            have hx : fX11_raid r i n M = some (jp_mask (fun s => decide (jp_o (M 131) (jp_cw (M 131) (M 4) (40 * r + i) (jw_ff (M 25) 0 7 1000000) n.toNat) (M 23) (M 22) s = 2)) (M 131 3).toNat, jw_up N 0 10 0) := by
              unfold fX11_raid fX11_raidFrom
              simp (disch := omega) only [↓jp_bs, ↓jp_b2s, ↓reduceIte, jw_up_a, Nat.reduceEqDiff, Int.reduceEq, Int.reduceLT, Int.reduceLE, Int.reduceAdd, Int.reduceSub, Int.reduceMul, Int.reduceNeg, jp_n9_1, jp_n9_8, jp_n9_15, jp_n9_21, jp_n9_24, jp_n10_1, jp_n10_2, jp_n10_3, jp_n10_4, jp_n10_5, jp_n10_6, jp_n17_1, jp_n17_2, jp_n17_3, jp_n17_4, jp_n17_5, jp_n17_6, jp_n24_1, jp_n24_2, jp_n24_3, jp_n24_4, jp_n24_5, jp_n30_1, jp_n30_2, jp_n33_1, jp_n33_2, false_and, true_and, and_true, and_false, and_self, ne_eq, not_true_eq_false, not_false_eq_true, jw_ws, jw_vs, jw_cmp_lt, jw_cmp_gt, jw_cmp_eq, jp_t1, jp_t2, jp_t3, jp_t4, jp_t5, jp_t6, ↓bX6_isRow, ↓bX6_isMissing, ↓bX6_hasPlaces, ↓bX11_isRoute hA, hv, jp_01t, ↓bX3_begin, ↓jp_bnd hw, ↓jp_bn2 n1]
            have fN : ∀ k : Nat, ¬ (24 ≤ k ∧ k ≤ 29) → N k = M k := fun k a => by rw [n2.1 k (by omega) (by omega) (by omega) (by omega), b1 k (by omega) (by omega) (by omega)]
            have x0 : jw_up N 0 10 0 0 9 = M 0 9 := by rw [jw_up_eq, jw_u1_n _ (by decide), fN _ (by decide)]
            have x10 : jw_up N 0 10 0 0 10 = 0 := by rw [jw_up_eq, jw_u1_s]
            have fX : ∀ k : Nat, k ≠ 0 → jw_up N 0 10 0 k = N k := fun k a => jw_up_ne _ a _ _
            generalize jw_up N 0 10 0 = X at hx x0 x10 fX
            have x127 : X 127 = M 127 := by rw [fX _ (by decide), fN _ (by decide)]
            have x128 : X 128 = M 128 := by rw [fX _ (by decide), fN _ (by decide)]
            have x129 : X 129 = M 129 := by rw [fX _ (by decide), fN _ (by decide)]
            have x130 : X 130 = M 130 := by rw [fX _ (by decide), fN _ (by decide)]
            have x131 : X 131 = M 131 := by rw [fX _ (by decide), fN _ (by decide)]
            have hAX : jp_A (jw_up X 127 0 0) := jp_A_th (jp_A_fr hA (fun k a b => by rw [fX k (by omega), fN k (by omega)]) x131 (by rw [fX _ (by decide), fN _ (by decide)]) (by rw [fX _ (by decide), fN _ (by decide)])) 0 0
            obtain ⟨C, c1, c2⟩ := gX12_go1 hAX (R := M 4) (40 * r + i) n (by omega) (fun k a b => by rw [jw_up_ne _ (by decide), x130]; exact (h.1.2 k (by omega) (by omega)).symm) (jw_ff (jw_up X 127 0 0 137) 0 7 1000000)
            rw [jw_up_ne _ (k' := 131) (by decide), x131, hv] at c1 c2
            have c3 := c2 rfl (jw_ff (M 25) 0 7 1000000) (fun c a b => by rw [jw_ff_a, jw_ff_a, if_pos ⟨a, b⟩, if_pos ⟨a, b⟩])
            obtain ⟨Z, z1, z2⟩ := jp_raid_fin (Y := jw_up (jw_pt (jw_up X 127 0 0) 137 C) 127 1 0) h 1 (Or.inl rfl) hp7 b1 b2 b3 (by rw [b4]; exact hC) b5 n2 (fun k a b c => by rw [jw_up_ne _ b, jw_pt_ne _ c, jw_up_ne _ b, fX k a]) (fun j a b => by rw [jw_up_eq, jw_u1_n _ b, jw_pt_ne _ (by decide), jw_up_eq, jw_u1_n _ a, x127]) (by rw [jw_up_eq, jw_u1_s]) (by rw [jw_up_ne _ (by decide), jw_pt_ne _ (by decide), jw_up_ne _ (by decide)]; exact x0) (by rw [jw_up_ne _ (by decide), jw_pt_ne _ (by decide), jw_up_ne _ (by decide)]; exact x10) (fun c a b => by rw [jw_up_ne _ (by decide), jw_pt_eq, b4]; exact c3 c a b)
            rw [b4] at z1
            refine ⟨_, _, _, hx, ?_, z2⟩
            unfold fX12_raid
            simp (disch := omega) only [↓jp_bs, ↓jp_b2s, ↓reduceIte, jw_up_a, Nat.reduceEqDiff, Int.reduceEq, Int.reduceLT, Int.reduceLE, Int.reduceAdd, Int.reduceSub, Int.reduceMul, Int.reduceNeg, jp_n9_1, jp_n9_8, jp_n9_15, jp_n9_21, jp_n9_24, jp_n10_1, jp_n10_2, jp_n10_3, jp_n10_4, jp_n10_5, jp_n10_6, jp_n17_1, jp_n17_2, jp_n17_3, jp_n17_4, jp_n17_5, jp_n17_6, jp_n24_1, jp_n24_2, jp_n24_3, jp_n24_4, jp_n24_5, jp_n30_1, jp_n30_2, jp_n33_1, jp_n33_2, false_and, true_and, and_true, and_false, and_self, ne_eq, not_true_eq_false, not_false_eq_true, jw_ws, jw_vs, jw_cmp_lt, jw_cmp_gt, jw_cmp_eq, jp_t1, jp_t2, jp_t3, jp_t4, jp_t5, jp_t6, ↓bX12_isRow, ↓bX12_in, x127, x128, x129, ↓bX12_clearComes, ↓jp_bn2 c1, jp_01t, ↓jp_bn2 z1]
          · have hx : fX11_raid r i n M = some (-9000000000000000001, M) := by
              unfold fX11_raid fX11_raidFrom
              simp (disch := omega) only [↓jp_bs, ↓jp_b2s, ↓reduceIte, jw_up_a, Nat.reduceEqDiff, Int.reduceEq, Int.reduceLT, Int.reduceLE, Int.reduceAdd, Int.reduceSub, Int.reduceMul, Int.reduceNeg, jp_n9_1, jp_n9_8, jp_n9_15, jp_n9_21, jp_n9_24, jp_n10_1, jp_n10_2, jp_n10_3, jp_n10_4, jp_n10_5, jp_n10_6, jp_n17_1, jp_n17_2, jp_n17_3, jp_n17_4, jp_n17_5, jp_n17_6, jp_n24_1, jp_n24_2, jp_n24_3, jp_n24_4, jp_n24_5, jp_n30_1, jp_n30_2, jp_n33_1, jp_n33_2, false_and, true_and, and_true, and_false, and_self, ne_eq, not_true_eq_false, not_false_eq_true, jw_ws, jw_vs, jw_cmp_lt, jw_cmp_gt, jw_cmp_eq, jp_t1, jp_t2, jp_t3, jp_t4, jp_t5, jp_t6, ↓bX6_isRow, ↓bX6_isMissing, ↓bX6_hasPlaces, ↓bX11_isRoute hA, hv, jp_01f]
            obtain ⟨C, c1, -⟩ := gX12_go1 (jp_A_th hA 0 0) (R := M 4) (40 * r + i) n (by omega) (fun k a b => by rw [jw_up_ne _ (by decide)]; exact (h.1.2 k (by omega) (by omega)).symm) (jw_ff (jw_up M 127 0 0 137) 0 7 1000000)
            rw [jw_up_ne _ (k' := 131) (by decide), hv] at c1
            refine ⟨_, _, _, hx, ?_, jp_inv_137 (jp_th h 0) C⟩
            unfold fX12_raid
            simp (disch := omega) only [↓jp_bs, ↓jp_b2s, ↓reduceIte, jw_up_a, Nat.reduceEqDiff, Int.reduceEq, Int.reduceLT, Int.reduceLE, Int.reduceAdd, Int.reduceSub, Int.reduceMul, Int.reduceNeg, jp_n9_1, jp_n9_8, jp_n9_15, jp_n9_21, jp_n9_24, jp_n10_1, jp_n10_2, jp_n10_3, jp_n10_4, jp_n10_5, jp_n10_6, jp_n17_1, jp_n17_2, jp_n17_3, jp_n17_4, jp_n17_5, jp_n17_6, jp_n24_1, jp_n24_2, jp_n24_3, jp_n24_4, jp_n24_5, jp_n30_1, jp_n30_2, jp_n33_1, jp_n33_2, false_and, true_and, and_true, and_false, and_self, ne_eq, not_true_eq_false, not_false_eq_true, jw_ws, jw_vs, jw_cmp_lt, jw_cmp_gt, jw_cmp_eq, jp_t1, jp_t2, jp_t3, jp_t4, jp_t5, jp_t6, ↓bX12_isRow, ↓bX12_in, ↓bX12_clearComes, ↓jp_bn2 c1, jp_01f]
        · have hx : fX11_raid r i n M = some (-9000000000000000012, jw_up M 0 10 2) := by
            unfold fX11_raid fX11_raidFrom fX11_raidFrom_87
            simp (disch := omega) only [↓jp_bs, ↓jp_b2s, ↓reduceIte, jw_up_a, Nat.reduceEqDiff, Int.reduceEq, Int.reduceLT, Int.reduceLE, Int.reduceAdd, Int.reduceSub, Int.reduceMul, Int.reduceNeg, jp_n9_1, jp_n9_8, jp_n9_15, jp_n9_21, jp_n9_24, jp_n10_1, jp_n10_2, jp_n10_3, jp_n10_4, jp_n10_5, jp_n10_6, jp_n17_1, jp_n17_2, jp_n17_3, jp_n17_4, jp_n17_5, jp_n17_6, jp_n24_1, jp_n24_2, jp_n24_3, jp_n24_4, jp_n24_5, jp_n30_1, jp_n30_2, jp_n33_1, jp_n33_2, false_and, true_and, and_true, and_false, and_self, ne_eq, not_true_eq_false, not_false_eq_true, jw_ws, jw_vs, jw_cmp_lt, jw_cmp_gt, jw_cmp_eq, jp_t1, jp_t2, jp_t3, jp_t4, jp_t5, jp_t6, ↓bX6_isRow, ↓bX6_isMissing, ↓bX6_hasPlaces, ↓bX11_found]
          refine ⟨_, _, _, hx, ?_, jp_fnd2 h 2⟩
          unfold fX12_raid fX12_raid_74
          by_cases h1 : i < 0
          · simp (disch := omega) only [↓jp_bs, ↓jp_b2s, ↓reduceIte, jw_up_a, Nat.reduceEqDiff, Int.reduceEq, Int.reduceLT, Int.reduceLE, Int.reduceAdd, Int.reduceSub, Int.reduceMul, Int.reduceNeg, jp_n9_1, jp_n9_8, jp_n9_15, jp_n9_21, jp_n9_24, jp_n10_1, jp_n10_2, jp_n10_3, jp_n10_4, jp_n10_5, jp_n10_6, jp_n17_1, jp_n17_2, jp_n17_3, jp_n17_4, jp_n17_5, jp_n17_6, jp_n24_1, jp_n24_2, jp_n24_3, jp_n24_4, jp_n24_5, jp_n30_1, jp_n30_2, jp_n33_1, jp_n33_2, false_and, true_and, and_true, and_false, and_self, ne_eq, not_true_eq_false, not_false_eq_true, jw_ws, jw_vs, jw_cmp_lt, jw_cmp_gt, jw_cmp_eq, jp_t1, jp_t2, jp_t3, jp_t4, jp_t5, jp_t6, ↓bX12_isRow, ↓bX12_in, ↓bX12_finding]
          · simp (disch := omega) only [↓jp_bs, ↓jp_b2s, ↓reduceIte, jw_up_a, Nat.reduceEqDiff, Int.reduceEq, Int.reduceLT, Int.reduceLE, Int.reduceAdd, Int.reduceSub, Int.reduceMul, Int.reduceNeg, jp_n9_1, jp_n9_8, jp_n9_15, jp_n9_21, jp_n9_24, jp_n10_1, jp_n10_2, jp_n10_3, jp_n10_4, jp_n10_5, jp_n10_6, jp_n17_1, jp_n17_2, jp_n17_3, jp_n17_4, jp_n17_5, jp_n17_6, jp_n24_1, jp_n24_2, jp_n24_3, jp_n24_4, jp_n24_5, jp_n30_1, jp_n30_2, jp_n33_1, jp_n33_2, false_and, true_and, and_true, and_false, and_self, ne_eq, not_true_eq_false, not_false_eq_true, jw_ws, jw_vs, jw_cmp_lt, jw_cmp_gt, jw_cmp_eq, jp_t1, jp_t2, jp_t3, jp_t4, jp_t5, jp_t6, ↓bX12_isRow, ↓bX12_in, ↓bX12_finding]
  · have hx : fX11_raid r i n M = some (-9000000000000000001, M) := by
      unfold fX11_raid fX11_raidFrom
      by_cases h1 : 0 ≤ r ∧ r < 8
      · by_cases h2 : n < 1
        · simp (disch := omega) only [↓jp_bs, ↓jp_b2s, ↓reduceIte, jw_up_a, Nat.reduceEqDiff, Int.reduceEq, Int.reduceLT, Int.reduceLE, Int.reduceAdd, Int.reduceSub, Int.reduceMul, Int.reduceNeg, jp_n9_1, jp_n9_8, jp_n9_15, jp_n9_21, jp_n9_24, jp_n10_1, jp_n10_2, jp_n10_3, jp_n10_4, jp_n10_5, jp_n10_6, jp_n17_1, jp_n17_2, jp_n17_3, jp_n17_4, jp_n17_5, jp_n17_6, jp_n24_1, jp_n24_2, jp_n24_3, jp_n24_4, jp_n24_5, jp_n30_1, jp_n30_2, jp_n33_1, jp_n33_2, false_and, true_and, and_true, and_false, and_self, ne_eq, not_true_eq_false, not_false_eq_true, jw_ws, jw_vs, jw_cmp_lt, jw_cmp_gt, jw_cmp_eq, jp_t1, jp_t2, jp_t3, jp_t4, jp_t5, jp_t6, ↓bX6_isRow]
        · simp (disch := omega) only [↓jp_bs, ↓jp_b2s, ↓reduceIte, jw_up_a, Nat.reduceEqDiff, Int.reduceEq, Int.reduceLT, Int.reduceLE, Int.reduceAdd, Int.reduceSub, Int.reduceMul, Int.reduceNeg, jp_n9_1, jp_n9_8, jp_n9_15, jp_n9_21, jp_n9_24, jp_n10_1, jp_n10_2, jp_n10_3, jp_n10_4, jp_n10_5, jp_n10_6, jp_n17_1, jp_n17_2, jp_n17_3, jp_n17_4, jp_n17_5, jp_n17_6, jp_n24_1, jp_n24_2, jp_n24_3, jp_n24_4, jp_n24_5, jp_n30_1, jp_n30_2, jp_n33_1, jp_n33_2, false_and, true_and, and_true, and_false, and_self, ne_eq, not_true_eq_false, not_false_eq_true, jw_ws, jw_vs, jw_cmp_lt, jw_cmp_gt, jw_cmp_eq, jp_t1, jp_t2, jp_t3, jp_t4, jp_t5, jp_t6, ↓bX6_isRow]
      · simp (disch := omega) only [↓jp_bs, ↓jp_b2s, ↓reduceIte, jw_up_a, Nat.reduceEqDiff, Int.reduceEq, Int.reduceLT, Int.reduceLE, Int.reduceAdd, Int.reduceSub, Int.reduceMul, Int.reduceNeg, jp_n9_1, jp_n9_8, jp_n9_15, jp_n9_21, jp_n9_24, jp_n10_1, jp_n10_2, jp_n10_3, jp_n10_4, jp_n10_5, jp_n10_6, jp_n17_1, jp_n17_2, jp_n17_3, jp_n17_4, jp_n17_5, jp_n17_6, jp_n24_1, jp_n24_2, jp_n24_3, jp_n24_4, jp_n24_5, jp_n30_1, jp_n30_2, jp_n33_1, jp_n33_2, false_and, true_and, and_true, and_false, and_self, ne_eq, not_true_eq_false, not_false_eq_true, jw_ws, jw_vs, jw_cmp_lt, jw_cmp_gt, jw_cmp_eq, jp_t1, jp_t2, jp_t3, jp_t4, jp_t5, jp_t6, ↓bX6_isRow]
    refine ⟨_, _, _, hx, ?_, jp_th h 0⟩
    unfold fX12_raid
    by_cases h1 : 0 ≤ r ∧ r < 8
    · by_cases h2 : n < 1
      · simp (disch := omega) only [↓jp_bs, ↓jp_b2s, ↓reduceIte, jw_up_a, Nat.reduceEqDiff, Int.reduceEq, Int.reduceLT, Int.reduceLE, Int.reduceAdd, Int.reduceSub, Int.reduceMul, Int.reduceNeg, jp_n9_1, jp_n9_8, jp_n9_15, jp_n9_21, jp_n9_24, jp_n10_1, jp_n10_2, jp_n10_3, jp_n10_4, jp_n10_5, jp_n10_6, jp_n17_1, jp_n17_2, jp_n17_3, jp_n17_4, jp_n17_5, jp_n17_6, jp_n24_1, jp_n24_2, jp_n24_3, jp_n24_4, jp_n24_5, jp_n30_1, jp_n30_2, jp_n33_1, jp_n33_2, false_and, true_and, and_true, and_false, and_self, ne_eq, not_true_eq_false, not_false_eq_true, jw_ws, jw_vs, jw_cmp_lt, jw_cmp_gt, jw_cmp_eq, jp_t1, jp_t2, jp_t3, jp_t4, jp_t5, jp_t6, ↓bX12_isRow, ↓bX12_in]
      · simp (disch := omega) only [↓jp_bs, ↓jp_b2s, ↓reduceIte, jw_up_a, Nat.reduceEqDiff, Int.reduceEq, Int.reduceLT, Int.reduceLE, Int.reduceAdd, Int.reduceSub, Int.reduceMul, Int.reduceNeg, jp_n9_1, jp_n9_8, jp_n9_15, jp_n9_21, jp_n9_24, jp_n10_1, jp_n10_2, jp_n10_3, jp_n10_4, jp_n10_5, jp_n10_6, jp_n17_1, jp_n17_2, jp_n17_3, jp_n17_4, jp_n17_5, jp_n17_6, jp_n24_1, jp_n24_2, jp_n24_3, jp_n24_4, jp_n24_5, jp_n30_1, jp_n30_2, jp_n33_1, jp_n33_2, false_and, true_and, and_true, and_false, and_self, ne_eq, not_true_eq_false, not_false_eq_true, jw_ws, jw_vs, jw_cmp_lt, jw_cmp_gt, jw_cmp_eq, jp_t1, jp_t2, jp_t3, jp_t4, jp_t5, jp_t6, ↓bX12_isRow, ↓bX12_in]
    · simp (disch := omega) only [↓jp_bs, ↓jp_b2s, ↓reduceIte, jw_up_a, Nat.reduceEqDiff, Int.reduceEq, Int.reduceLT, Int.reduceLE, Int.reduceAdd, Int.reduceSub, Int.reduceMul, Int.reduceNeg, jp_n9_1, jp_n9_8, jp_n9_15, jp_n9_21, jp_n9_24, jp_n10_1, jp_n10_2, jp_n10_3, jp_n10_4, jp_n10_5, jp_n10_6, jp_n17_1, jp_n17_2, jp_n17_3, jp_n17_4, jp_n17_5, jp_n17_6, jp_n24_1, jp_n24_2, jp_n24_3, jp_n24_4, jp_n24_5, jp_n30_1, jp_n30_2, jp_n33_1, jp_n33_2, false_and, true_and, and_true, and_false, and_self, ne_eq, not_true_eq_false, not_false_eq_true, jw_ws, jw_vs, jw_cmp_lt, jw_cmp_gt, jw_cmp_eq, jp_t1, jp_t2, jp_t3, jp_t4, jp_t5, jp_t6, ↓bX12_isRow]
