/-! settle: rounds -/
def jp_rd (T N P : Int → Int) : Nat → Int → Int
  | 0 => P
  | n + 1 => jw_u1 (jp_rd T N P n) (n : Int) (jp_be T N (jp_rd T N P n) (n : Int))
def jp_mv (T N P : Int → Int) : Nat → Bool
  | 0 => false
  | n + 1 => jp_mv T N P n || decide (jp_be T N (jp_rd T N P n) (n : Int) ≠ jp_rd T N P n (n : Int))
def jp_st (T N : Int → Int) : Nat → (Int → Int) → Int → Int × (Int → Int)
  | 0, P, _ => (-1000000, P)
  | k + 1, P, r => if jp_mv T N P (T 3).toNat = true then jp_st T N k (jp_rd T N P (T 3).toNat) (r + 1) else (r, jp_rd T N P (T 3).toNat)
theorem jp_rd_s (T N P : Int → Int) {i : Int} (h : 0 ≤ i) : jp_rd T N P (i + 1).toNat = jw_u1 (jp_rd T N P i.toNat) i (jp_be T N (jp_rd T N P i.toNat) i) := by
  have e : (i + 1).toNat = i.toNat + 1 := by omega
  rw [e, jp_rd, Int.toNat_of_nonneg h]
theorem jp_mv_s (T N P : Int → Int) {i : Int} (h : 0 ≤ i) : jp_mv T N P (i + 1).toNat = (jp_mv T N P i.toNat || decide (jp_be T N (jp_rd T N P i.toNat) i ≠ jp_rd T N P i.toNat i)) := by
  have e : (i + 1).toNat = i.toNat + 1 := by omega
  rw [e, jp_mv, Int.toNat_of_nonneg h]
theorem jp_rd_r {T N P : Int → Int} (h0 : 0 ≤ T 0) (hP : ∀ q : Int, 0 ≤ q → q < T 3 → 0 ≤ P q ∧ P q < T 0) : ∀ n : Nat, (n : Int) ≤ T 3 → ∀ q : Int, 0 ≤ q → q < T 3 → 0 ≤ jp_rd T N P n q ∧ jp_rd T N P n q < T 0 := by
  intro n
  induction n with
  | zero => intro _; exact hP
  | succ n ih =>
    intro hn q q0 q1
    rw [jp_rd, jw_u1_a]
    split
    · exact jp_bc_r (ih (by omega) n (by omega) (by omega)) _ (by omega)
    · exact ih (by omega) q q0 q1
theorem jp_rd_o {T N P : Int → Int} : ∀ n : Nat, ∀ j : Int, (n : Int) ≤ j → jp_rd T N P n j = P j := by
  intro n
  induction n with
  | zero => intro j _; rfl
  | succ n ih =>
    intro j hj
    rw [jp_rd, jw_u1_a, if_neg (by omega)]
    exact ih j (by omega)
theorem jp_rd_e {T N N' P P' : Int → Int} (h3 : 0 ≤ T 3) (hN : ∀ j : Int, 9 ≤ j → j < 22 → N' j = N j) (h9 : 0 ≤ N 9 ∧ N 9 ≤ 12) (hP : ∀ q : Int, 0 ≤ q → q < T 3 → P' q = P q) : ∀ n : Nat, (n : Int) ≤ T 3 → (∀ q : Int, 0 ≤ q → q < T 3 → jp_rd T N' P' n q = jp_rd T N P n q) ∧ jp_mv T N' P' n = jp_mv T N P n := by
  intro n
  induction n with
  | zero => intro _; exact ⟨hP, rfl⟩
  | succ n ih =>
    intro hn
    obtain ⟨i1, i2⟩ := ih (by omega)
    have e := jp_be_e h3 hN h9 i1 (n : Int) ⟨by omega, by omega⟩
    refine ⟨fun q q0 q1 => ?_, ?_⟩
    · rw [jp_rd, jp_rd, jw_u1_a, jw_u1_a, e, i1 q q0 q1]
    · rw [jp_mv, jp_mv, i2, e, i1 (n : Int) (by omega) (by omega)]
theorem jp_st_e {T N N' : Int → Int} (h3 : 0 ≤ T 3) (hN : ∀ j : Int, 9 ≤ j → j < 22 → N' j = N j) (h9 : 0 ≤ N 9 ∧ N 9 ≤ 12) : ∀ (k : Nat) (P P' : Int → Int) (r : Int), (∀ q : Int, 0 ≤ q → q < T 3 → P' q = P q) → (jp_st T N' k P' r).1 = (jp_st T N k P r).1 ∧ ∀ q : Int, 0 ≤ q → q < T 3 → (jp_st T N' k P' r).2 q = (jp_st T N k P r).2 q := by
  intro k
  induction k with
  | zero => intro P P' r hP; exact ⟨rfl, hP⟩
  | succ k ih =>
    intro P P' r hP
    obtain ⟨i1, i2⟩ := jp_rd_e h3 hN h9 hP (T 3).toNat (by omega)
    rw [jp_st, jp_st, i2]
    split
    · exact ih _ _ _ i1
    · exact ⟨rfl, i1⟩
theorem jp_st_o {T N : Int → Int} (h3 : 0 ≤ T 3) : ∀ (k : Nat) (P : Int → Int) (r : Int), ∀ j : Int, T 3 ≤ j → (jp_st T N k P r).2 j = P j := by
  intro k
  induction k with
  | zero => intro P r j _; rfl
  | succ k ih =>
    intro P r j hj
    rw [jp_st]
    split
    · rw [ih _ _ j hj, jp_rd_o _ j (by omega)]
    · exact jp_rd_o _ j (by omega)
theorem jp_st_r {T N : Int → Int} (h0 : 0 ≤ T 0) (h3 : 0 ≤ T 3) : ∀ (k : Nat) (P : Int → Int) (r : Int), (∀ q : Int, 0 ≤ q → q < T 3 → 0 ≤ P q ∧ P q < T 0) → ∀ q : Int, 0 ≤ q → q < T 3 → 0 ≤ (jp_st T N k P r).2 q ∧ (jp_st T N k P r).2 q < T 0 := by
  intro k
  induction k with
  | zero => intro P r hP; exact hP
  | succ k ih =>
    intro P r hP
    have h1 := jp_rd_r (N := N) h0 hP (T 3).toNat (by omega)
    rw [jp_st]
    split
    · exact ih _ _ h1
    · exact h1
theorem jw_u1_id (f : Int → Int) (i : Int) : jw_u1 f i (f i) = f := by
  funext j
  rw [jw_u1_a]
  split
  · rename_i e; rw [e]
  · rfl
theorem jw_pt_up (M : jw_M) (k : Nat) (g : Int → Int) (i v : Int) : jw_up (jw_pt M k g) k i v = jw_pt M k (jw_u1 g i v) := by
  rw [jw_up_pt, jw_pt_eq, jw_pt_pt]
theorem jp_D_9 {M M' : jw_M} (h : jp_D M) (f1 : ∀ k : Nat, 24 ≤ k → k ≤ 34 → M' k = M k) (f2 : M' 131 = M 131) (f3 : ∀ j : Int, 9 ≤ j → M' 133 j = M 133 j) : jp_D M' := by
  obtain ⟨d1, d2, d3, d4, d5, d6, d7, d8, d9, d10, d11, d12, d13, d14⟩ := h
  unfold jp_D
  rw [f1 24 (by omega) (by omega), f1 25 (by omega) (by omega), f1 26 (by omega) (by omega), f1 27 (by omega) (by omega), f1 28 (by omega) (by omega), f1 29 (by omega) (by omega), f1 30 (by omega) (by omega), f1 31 (by omega) (by omega), f1 32 (by omega) (by omega), f1 34 (by omega) (by omega), f2, f3 9 (by omega), f3 42 (by omega), f3 58 (by omega)]
  refine ⟨d1, fun d p q => ?_, fun k p q => ?_, fun k p q => ?_, fun s p q => ?_, fun x y p q r s => ?_, d7, d8, fun z i p q => ?_, fun k p q => ?_, d11, fun c p q => ?_, fun k p q => ?_, fun x y p q r s => ?_⟩
  · rw [f3 _ (by omega)]; exact d2 d p q
  · rw [f3 _ (by omega)]; exact d3 k p q
  · rw [f3 _ (by omega)]; exact d4 k p q
  · rw [f3 _ (by omega)]; exact d5 s p q
  · rw [f3 _ (by omega)]; exact d6 x y p q r s
  · rw [f3 _ (by omega), f3 _ (by omega), f3 _ (by omega)]; exact d9 z i p q
  · rw [f3 _ (by omega)]; exact d10 k p q
  · rw [jp_ct_c (fun j j1 j2 => f3 j (by omega)) c _ (by omega)]; exact d12 c p q
  · rw [f3 _ (by omega)]; exact d13 k p q
  · rw [f3 _ (by omega)]; exact d14 x y p q r s
theorem jp_A_pt {M : jw_M} (h : jp_A M) (k : Nat) (g : Int → Int) (hk : k < 10 ∨ (21 < k ∧ k ≠ 131 ∧ k ≠ 135 ∧ k ≠ 136)) : jp_A (jw_pt M k g) := jp_A_fr h (fun k p q => jw_pt_ne _ (by omega) _) (jw_pt_ne _ (by omega) _) (jw_pt_ne _ (by omega) _) (jw_pt_ne _ (by omega) _)
theorem gX8_moveOnce {M : jw_M} (hA : jp_A M) (hD : jp_D M) (hP : ∀ q : Int, 0 ≤ q → q < M 131 3 → 0 ≤ M 22 q ∧ M 22 q < M 131 0) : fX8_moveOnce M = some (jp_01 (jp_mv (M 131) (M 133) (M 22) (M 131 3).toNat), jw_pt M 22 (jp_rd (M 131) (M 133) (M 22) (M 131 3).toNat)) := by
  obtain ⟨⟨c0, c5, c8, -⟩, -, g4, g7⟩ := jp_A_c hA
  obtain ⟨⟨r0, r2, r3, r4, r5⟩, -⟩ := jp_A_r hA
  unfold fX8_moveOnce
  simp (disch := omega) only [↓jp_bs, ↓jp_b2s, ↓reduceIte, jw_up_a, Nat.reduceEqDiff, Int.reduceEq, Int.reduceLT, Int.reduceLE, Int.reduceAdd, Int.reduceSub, Int.reduceMul, Int.reduceNeg, jp_n9_1, jp_n9_8, jp_n9_15, jp_n9_21, jp_n9_24, jp_n10_1, jp_n10_2, jp_n10_3, jp_n10_4, jp_n10_5, jp_n10_6, jp_n17_1, jp_n17_2, jp_n17_3, jp_n17_4, jp_n17_5, jp_n17_6, jp_n24_1, jp_n24_2, jp_n24_3, jp_n24_4, jp_n24_5, jp_n30_1, jp_n30_2, jp_n33_1, jp_n33_2, false_and, true_and, and_true, and_false, and_self, ne_eq, not_true_eq_false, not_false_eq_true, jw_ws, jw_vs, jw_cmp_lt, jw_cmp_gt, jw_cmp_eq, jp_t1, jp_t2, jp_t3, jp_t4, jp_t5, jp_t6]
  refine jp_up (fun k i (a : Int × jw_M) => fX8_moveOnce_4 k a.1 i a.2) (M 131 3) (fun i a => 0 ≤ i ∧ a = (jp_01 (jp_mv (M 131) (M 133) (M 22) i.toNat), jw_pt M 22 (jp_rd (M 131) (M 133) (M 22) i.toNat))) (fun x => x = some (jp_01 (jp_mv (M 131) (M 133) (M 22) (M 131 3).toNat), jw_pt M 22 (jp_rd (M 131) (M 133) (M 22) (M 131 3).toNat))) ?_ ?_ jw_fu 0 (0, M) (by unfold jw_fu; omega) (by omega) ⟨by omega, ?_⟩
  · intro k i a hp hi ih
    obtain ⟨h0, rfl⟩ := hp
    show fX8_moveOnce_4 (k + 1) (jp_01 (jp_mv (M 131) (M 133) (M 22) i.toNat)) i (jw_pt M 22 (jp_rd (M 131) (M 133) (M 22) i.toNat)) = _
    have hr := jp_rd_r (N := M 133) r0.1 hP i.toNat (by omega)
    have em := jp_mv_s (M 131) (M 133) (M 22) h0
    have er := jp_rd_s (M 131) (M 133) (M 22) h0
    generalize jp_rd (M 131) (M 133) (M 22) i.toNat = P at hr em er ⊢
    have f1 : ∀ k : Nat, k ≠ 22 → jw_pt M 22 P k = M k := fun k hk => jw_pt_ne _ hk _
    have f2 : jw_pt M 22 P 22 = P := jw_pt_eq _ _ _
    have hA' := jp_A_pt hA 22 P (by decide)
    have hD' : jp_D (jw_pt M 22 P) := jp_D_9 hD (fun k p q => f1 k (by omega)) (f1 _ (by decide)) (fun j _ => by rw [f1 _ (by decide)])
    have hb := gX8_bestCorner hA' hD' i (by rw [f1 _ (by decide)]; exact ⟨h0, hi⟩) (by rw [f1 _ (by decide), f2]; exact hr)
    rw [f1 131 (by decide), f1 133 (by decide), f2] at hb
    rw [fX8_moveOnce_4]
    unfold fX8_moveOnce_46
    have f3 : jw_pt M 22 P 17 = M 17 := f1 17 (by decide)
    by_cases hh : jp_be (M 131) (M 133) P i = P i
    · rw [decide_eq_false (fun z => z hh), Bool.or_false] at em
      rw [hh, jw_u1_id] at er
      simp (disch := omega) only [↓jp_bs, ↓jp_b2s, ↓reduceIte, jw_up_a, Nat.reduceEqDiff, Int.reduceEq, Int.reduceLT, Int.reduceLE, Int.reduceAdd, Int.reduceSub, Int.reduceMul, Int.reduceNeg, jp_n9_1, jp_n9_8, jp_n9_15, jp_n9_21, jp_n9_24, jp_n10_1, jp_n10_2, jp_n10_3, jp_n10_4, jp_n10_5, jp_n10_6, jp_n17_1, jp_n17_2, jp_n17_3, jp_n17_4, jp_n17_5, jp_n17_6, jp_n24_1, jp_n24_2, jp_n24_3, jp_n24_4, jp_n24_5, jp_n30_1, jp_n30_2, jp_n33_1, jp_n33_2, false_and, true_and, and_true, and_false, and_self, ne_eq, not_true_eq_false, not_false_eq_true, jw_ws, jw_vs, jw_cmp_lt, jw_cmp_gt, jw_cmp_eq, jp_t1, jp_t2, jp_t3, jp_t4, jp_t5, jp_t6, g4, f3, ↓jp_bnd hb, f2]
      exact ih _ ⟨by omega, by rw [em, er]⟩
    · rw [decide_eq_true hh, Bool.or_true] at em
      simp (disch := omega) only [↓jp_bs, ↓jp_b2s, ↓reduceIte, jw_up_a, Nat.reduceEqDiff, Int.reduceEq, Int.reduceLT, Int.reduceLE, Int.reduceAdd, Int.reduceSub, Int.reduceMul, Int.reduceNeg, jp_n9_1, jp_n9_8, jp_n9_15, jp_n9_21, jp_n9_24, jp_n10_1, jp_n10_2, jp_n10_3, jp_n10_4, jp_n10_5, jp_n10_6, jp_n17_1, jp_n17_2, jp_n17_3, jp_n17_4, jp_n17_5, jp_n17_6, jp_n24_1, jp_n24_2, jp_n24_3, jp_n24_4, jp_n24_5, jp_n30_1, jp_n30_2, jp_n33_1, jp_n33_2, false_and, true_and, and_true, and_false, and_self, ne_eq, not_true_eq_false, not_false_eq_true, jw_ws, jw_vs, jw_cmp_lt, jw_cmp_gt, jw_cmp_eq, jp_t1, jp_t2, jp_t3, jp_t4, jp_t5, jp_t6, g4, f3, ↓jp_bnd hb, f2, jw_pt_up]
      exact ih (1, jw_pt M 22 (jw_u1 P i (jp_be (M 131) (M 133) P i))) ⟨by omega, by rw [em, er]; rfl⟩
  · intro k a hp
    obtain ⟨h0, rfl⟩ := hp
    show fX8_moveOnce_4 (k + 1) (jp_01 (jp_mv (M 131) (M 133) (M 22) (M 131 3).toNat)) (M 131 3) (jw_pt M 22 (jp_rd (M 131) (M 133) (M 22) (M 131 3).toNat)) = _
    rw [fX8_moveOnce_4, jw_pt_ne _ (by decide), g4, if_neg (by omega), if_pos (jp_01r _)]
  · show ((0 : Int), M) = (0, jw_pt M 22 (M 22))
    rw [jw_pt_id]
theorem bX8_moveOnce {M : jw_M} (hA : jp_A M) (hD : jp_D M) (hP : ∀ q : Int, 0 ≤ q → q < M 131 3 → 0 ≤ M 22 q ∧ M 22 q < M 131 0) {be : Type} (kk : Int → jw_M → Option be) : jw_b2 (fX8_moveOnce M) kk = kk (jp_01 (jp_mv (M 131) (M 133) (M 22) (M 131 3).toNat)) (jw_pt M 22 (jp_rd (M 131) (M 133) (M 22) (M 131 3).toNat)) := by rw [show fX8_moveOnce M = some (jp_01 (jp_mv (M 131) (M 133) (M 22) (M 131 3).toNat), jw_pt M 22 (jp_rd (M 131) (M 133) (M 22) (M 131 3).toNat)) from gX8_moveOnce hA hD hP]; rfl
theorem gX8_mtr : ∀ (k : Nat) (r : Int) (M : jw_M) (j : Nat), (k : Int) + r = 40 → 0 ≤ r → k < j → jp_A M → jp_D M → (∀ q : Int, 0 ≤ q → q < M 131 3 → 0 ≤ M 22 q ∧ M 22 q < M 131 0) → fX8_moveTillRest_2 j r M = some ((jp_st (M 131) (M 133) k (M 22) r).1, jw_pt M 22 (jp_st (M 131) (M 133) k (M 22) r).2) := by
  intro k
  induction k with
  | zero =>
    intro r M j hk hr hj hA hD hP
    obtain ⟨j, rfl⟩ : ∃ i, j = i + 1 := ⟨j - 1, by omega⟩
    rw [fX8_moveTillRest_2, if_neg (by omega)]
    show some _ = some (-1000000, jw_pt M 22 (M 22))
    rw [jw_pt_id]
  | succ k ih =>
    intro r M j hk hr hj hA hD hP
    obtain ⟨j, rfl⟩ : ∃ i, j = i + 1 := ⟨j - 1, by omega⟩
    obtain ⟨⟨r0, r2, r3, r4, r5⟩, -⟩ := jp_A_r hA
    have hm := gX8_moveOnce hA hD hP
    rw [fX8_moveTillRest_2, if_pos (by omega), jp_bn2 hm]
    have hR := jp_rd_r (N := M 133) r0.1 hP (M 131 3).toNat (by omega)
    cases em : jp_mv (M 131) (M 133) (M 22) (M 131 3).toNat with
    | false =>
      rw [jp_01f, if_pos rfl, jp_st, em, if_neg (by decide)]
    | true =>
      rw [jp_01t, if_neg (by decide), jp_bs, jw_ws (by omega), jp_st, em, if_pos rfl]
      generalize jp_rd (M 131) (M 133) (M 22) (M 131 3).toNat = P at hR ⊢
      have f1 : ∀ k : Nat, k ≠ 22 → jw_pt M 22 P k = M k := fun k hk => jw_pt_ne _ hk _
      have f2 : jw_pt M 22 P 22 = P := jw_pt_eq _ _ _
      have hA' := jp_A_pt hA 22 P (by decide)
      have hD' : jp_D (jw_pt M 22 P) := jp_D_9 hD (fun k p q => f1 k (by omega)) (f1 _ (by decide)) (fun j _ => by rw [f1 _ (by decide)])
      have := ih (r + 1) (jw_pt M 22 P) j (by omega) (by omega) (by omega) hA' hD' (by rw [f1 _ (by decide), f2]; exact hR)
      rw [f1 131 (by decide), f1 133 (by decide), f2, jw_pt_pt] at this
      exact this
theorem gX12_settle_34 (r20 : Int → Int → jw_M → Option (Int × jw_M)) {M : jw_M} (hA : jp_A M) (hD : jp_D M) (hP : ∀ q : Int, 0 ≤ q → q < M 131 3 → 0 ≤ M 133 q ∧ M 133 q < M 131 0) (x : Int) (hx : 0 ≤ x ∧ x < 40) : fX12_settle_34 r20 jw_fu x 0 0 M = r20 (x + jp_01 (jp_mv (M 131) (M 133) (M 133) (M 131 3).toNat)) (jp_01 (jp_mv (M 131) (M 133) (M 133) (M 131 3).toNat)) (jw_pt M 133 (jp_rd (M 131) (M 133) (M 133) (M 131 3).toNat)) := by
  obtain ⟨⟨r0, r2, r3, r4, r5⟩, -⟩ := jp_A_r hA
  refine jp_up (fun k i (a : Int × jw_M) => fX12_settle_34 r20 k x a.1 i a.2) (M 131 3) (fun i a => 0 ≤ i ∧ a = (jp_01 (jp_mv (M 131) (M 133) (M 133) i.toNat), jw_pt M 133 (jp_rd (M 131) (M 133) (M 133) i.toNat))) (fun y => y = r20 (x + jp_01 (jp_mv (M 131) (M 133) (M 133) (M 131 3).toNat)) (jp_01 (jp_mv (M 131) (M 133) (M 133) (M 131 3).toNat)) (jw_pt M 133 (jp_rd (M 131) (M 133) (M 133) (M 131 3).toNat))) ?_ ?_ jw_fu 0 (0, M) (by unfold jw_fu; omega) (by omega) ⟨by omega, ?_⟩
  · intro k i a hp hi ih
    obtain ⟨h0, rfl⟩ := hp
    show fX12_settle_34 r20 (k + 1) x (jp_01 (jp_mv (M 131) (M 133) (M 133) i.toNat)) i (jw_pt M 133 (jp_rd (M 131) (M 133) (M 133) i.toNat)) = _
    have hr := jp_rd_r (N := M 133) r0.1 hP i.toNat (by omega)
    have ho : ∀ j : Int, 9 ≤ j → jp_rd (M 131) (M 133) (M 133) i.toNat j = M 133 j := fun j hj => jp_rd_o _ j (by omega)
    have em := jp_mv_s (M 131) (M 133) (M 133) h0
    have er := jp_rd_s (M 131) (M 133) (M 133) h0
    generalize jp_rd (M 131) (M 133) (M 133) i.toNat = P at hr em er ho ⊢
    have f1 : ∀ k : Nat, k ≠ 133 → jw_pt M 133 P k = M k := fun k hk => jw_pt_ne _ hk _
    have f2 : jw_pt M 133 P 133 = P := jw_pt_eq _ _ _
    have hA' := jp_A_pt hA 133 P (by decide)
    have hD' : jp_D (jw_pt M 133 P) := jp_D_9 hD (fun k p q => f1 k (by omega)) (f1 _ (by decide)) (fun j hj => by rw [f2, ho j hj])
    have hb := gX12_bestOf hA' hD' i (by rw [f1 _ (by decide)]; exact ⟨h0, hi⟩) (by rw [f1 _ (by decide), f2]; exact hr)
    rw [f1 131 (by decide), f2, jp_be_e r3.1 (fun j j1 _ => ho j j1) hD.1.1 (fun q _ _ => rfl) i ⟨h0, hi⟩] at hb
    rw [fX12_settle_34]
    unfold fX12_settle_68 fX12_settle_73
    have f3 : jw_pt M 133 P 131 = M 131 := f1 131 (by decide)
    cases ea : jp_mv (M 131) (M 133) (M 133) i.toNat with
    | false =>
      rw [ea, Bool.false_or] at em
      rw [jp_01f]
      by_cases hh : jp_be (M 131) (M 133) P i = P i
      · rw [decide_eq_false (fun z => z hh)] at em
        simp (disch := omega) only [↓jp_bs, ↓jp_b2s, ↓reduceIte, jw_up_a, Nat.reduceEqDiff, Int.reduceEq, Int.reduceLT, Int.reduceLE, Int.reduceAdd, Int.reduceSub, Int.reduceMul, Int.reduceNeg, jp_n9_1, jp_n9_8, jp_n9_15, jp_n9_21, jp_n9_24, jp_n10_1, jp_n10_2, jp_n10_3, jp_n10_4, jp_n10_5, jp_n10_6, jp_n17_1, jp_n17_2, jp_n17_3, jp_n17_4, jp_n17_5, jp_n17_6, jp_n24_1, jp_n24_2, jp_n24_3, jp_n24_4, jp_n24_5, jp_n30_1, jp_n30_2, jp_n33_1, jp_n33_2, false_and, true_and, and_true, and_false, and_self, ne_eq, not_true_eq_false, not_false_eq_true, jw_ws, jw_vs, jw_cmp_lt, jw_cmp_gt, jw_cmp_eq, jp_t1, jp_t2, jp_t3, jp_t4, jp_t5, jp_t6, f3, ↓jp_bnd hb, f2, Int.zero_add, jw_pt_up]
        exact ih (0, jw_pt M 133 (jw_u1 P i (jp_be (M 131) (M 133) P i))) ⟨by omega, by rw [em, er]; rfl⟩
      · rw [decide_eq_true hh] at em
        simp (disch := omega) only [↓jp_bs, ↓jp_b2s, ↓reduceIte, jw_up_a, Nat.reduceEqDiff, Int.reduceEq, Int.reduceLT, Int.reduceLE, Int.reduceAdd, Int.reduceSub, Int.reduceMul, Int.reduceNeg, jp_n9_1, jp_n9_8, jp_n9_15, jp_n9_21, jp_n9_24, jp_n10_1, jp_n10_2, jp_n10_3, jp_n10_4, jp_n10_5, jp_n10_6, jp_n17_1, jp_n17_2, jp_n17_3, jp_n17_4, jp_n17_5, jp_n17_6, jp_n24_1, jp_n24_2, jp_n24_3, jp_n24_4, jp_n24_5, jp_n30_1, jp_n30_2, jp_n33_1, jp_n33_2, false_and, true_and, and_true, and_false, and_self, ne_eq, not_true_eq_false, not_false_eq_true, jw_ws, jw_vs, jw_cmp_lt, jw_cmp_gt, jw_cmp_eq, jp_t1, jp_t2, jp_t3, jp_t4, jp_t5, jp_t6, f3, ↓jp_bnd hb, f2, Int.zero_add, jw_pt_up]
        exact ih (1, jw_pt M 133 (jw_u1 P i (jp_be (M 131) (M 133) P i))) ⟨by omega, by rw [em, er]; rfl⟩
    | true =>
      rw [ea, Bool.true_or] at em
      rw [jp_01t]
      simp (disch := omega) only [↓jp_bs, ↓jp_b2s, ↓reduceIte, jw_up_a, Nat.reduceEqDiff, Int.reduceEq, Int.reduceLT, Int.reduceLE, Int.reduceAdd, Int.reduceSub, Int.reduceMul, Int.reduceNeg, jp_n9_1, jp_n9_8, jp_n9_15, jp_n9_21, jp_n9_24, jp_n10_1, jp_n10_2, jp_n10_3, jp_n10_4, jp_n10_5, jp_n10_6, jp_n17_1, jp_n17_2, jp_n17_3, jp_n17_4, jp_n17_5, jp_n17_6, jp_n24_1, jp_n24_2, jp_n24_3, jp_n24_4, jp_n24_5, jp_n30_1, jp_n30_2, jp_n33_1, jp_n33_2, false_and, true_and, and_true, and_false, and_self, ne_eq, not_true_eq_false, not_false_eq_true, jw_ws, jw_vs, jw_cmp_lt, jw_cmp_gt, jw_cmp_eq, jp_t1, jp_t2, jp_t3, jp_t4, jp_t5, jp_t6, f3, ↓jp_bnd hb, f2, Int.zero_add, jw_pt_up]
      exact ih (1, jw_pt M 133 (jw_u1 P i (jp_be (M 131) (M 133) P i))) ⟨by omega, by rw [em, er]; rfl⟩
  · intro k a hp
    obtain ⟨h0, rfl⟩ := hp
    show fX12_settle_34 r20 (k + 1) x (jp_01 (jp_mv (M 131) (M 133) (M 133) (M 131 3).toNat)) (M 131 3) (jw_pt M 133 (jp_rd (M 131) (M 133) (M 133) (M 131 3).toNat)) = _
    rw [fX12_settle_34, if_pos (by decide), jw_pt_ne _ (by decide), if_neg (by omega)]
    unfold fX12_settle_100
    cases jp_mv (M 131) (M 133) (M 133) (M 131 3).toNat with
    | false => rw [jp_01f, if_pos rfl, jw_ws (by omega), jp_bs]
    | true => rw [jp_01t, if_neg (by decide), jw_ws (by omega), jp_bs]
  · show ((0 : Int), M) = (0, jw_pt M 133 (M 133))
    rw [jw_pt_id]
theorem gX12_settle_20 : ∀ (k : Nat) (r : Int) (M : jw_M) (j : Nat), (k : Int) + r = 40 → 0 ≤ r → k + 1 < j → jp_A M → jp_D M → (∀ q : Int, 0 ≤ q → q < M 131 3 → 0 ≤ M 133 q ∧ M 133 q < M 131 0) → ∃ Q : Int → Int, fX12_settle_20 j r 1 M = some ((jp_st (M 131) (M 133) k (M 133) r).1, jw_pt M 133 Q) ∧ (∀ q : Int, 0 ≤ q → q < M 131 3 → Q q = (jp_st (M 131) (M 133) k (M 133) r).2 q) ∧ (∀ q : Int, M 131 3 ≤ q → Q q = M 133 q) := by
  intro k
  induction k with
  | zero =>
    intro r M j hk hr hj hA hD hP
    obtain ⟨j, rfl⟩ : ∃ i, j = i + 1 := ⟨j - 1, by omega⟩
    refine ⟨M 133, ?_, fun q _ _ => rfl, fun q _ => rfl⟩
    rw [fX12_settle_20, if_neg (by decide), if_neg (by omega), jw_pt_id]
    rfl
  | succ k ih =>
    intro r M j hk hr hj hA hD hP
    obtain ⟨j, rfl⟩ : ∃ i, j = i + 1 := ⟨j - 1, by omega⟩
    obtain ⟨⟨r0, r2, r3, r4, r5⟩, -⟩ := jp_A_r hA
    rw [fX12_settle_20, if_neg (by decide), if_pos (by omega), jp_bs, jp_bs, gX12_settle_34 _ hA hD hP r (by omega)]
    have hR := jp_rd_r (N := M 133) r0.1 hP (M 131 3).toNat (by omega)
    have ho : ∀ q : Int, M 131 3 ≤ q → jp_rd (M 131) (M 133) (M 133) (M 131 3).toNat q = M 133 q := fun q hq => jp_rd_o _ q (by omega)
    cases em : jp_mv (M 131) (M 133) (M 133) (M 131 3).toNat with
    | false =>
      refine ⟨jp_rd (M 131) (M 133) (M 133) (M 131 3).toNat, ?_, ?_, ho⟩
      · obtain ⟨j, rfl⟩ : ∃ i, j = i + 1 := ⟨j - 1, by omega⟩
        rw [jp_01f, fX12_settle_20, if_pos rfl, jp_st, em, if_neg (by decide), Int.add_zero]
        rfl
      · intro q _ _
        rw [jp_st, em, if_neg (by decide)]
    | true =>
      rw [jp_01t, jp_st, em, if_pos rfl]
      generalize jp_rd (M 131) (M 133) (M 133) (M 131 3).toNat = P at hR ho ⊢
      have f1 : ∀ k : Nat, k ≠ 133 → jw_pt M 133 P k = M k := fun k hk => jw_pt_ne _ hk _
      have f2 : jw_pt M 133 P 133 = P := jw_pt_eq _ _ _
      have hA' := jp_A_pt hA 133 P (by decide)
      have hD' : jp_D (jw_pt M 133 P) := jp_D_9 hD (fun k p q => f1 k (by omega)) (f1 _ (by decide)) (fun j hj => by rw [f2, ho j (by omega)])
      obtain ⟨Q, q1, q2, q3⟩ := ih (r + 1) (jw_pt M 133 P) j (by omega) (by omega) (by omega) hA' hD' (by rw [f1 _ (by decide), f2]; exact hR)
      rw [f1 131 (by decide), f2, jw_pt_pt] at q1
      rw [f1 131 (by decide), f2] at q2 q3
      obtain ⟨z1, z2⟩ := jp_st_e (T := M 131) (N := M 133) (N' := P) r3.1 (fun j j1 _ => ho j (by omega)) hD.1.1 k P P (r + 1) (fun q _ _ => rfl)
      refine ⟨Q, by rw [q1, z1], fun q a b => by rw [q2 q a b, z2 q a b], fun q a => by rw [q3 q a, ho q a]⟩
theorem jp_settle {M : jw_M} (h : jp_inv M) : jp_ok (fX11_settle M) fX12_settle := by
  have hA := jp_inv_A h
  have hB := jp_inv_B h
  have hD := jp_inv_D h
  obtain ⟨⟨r0, r2, r3, r4, r5⟩, -⟩ := jp_A_r hA
  obtain ⟨p1, p2⟩ := h.2.2.2.2.1.1
  by_cases hp : M 127 7 = 0
  · have hx : fX11_settle M = some (-9000000000000000002, M) := by
      unfold fX11_settle
      simp (disch := omega) only [↓jp_bs, ↓jp_b2s, ↓reduceIte, jw_up_a, Nat.reduceEqDiff, Int.reduceEq, Int.reduceLT, Int.reduceLE, Int.reduceAdd, Int.reduceSub, Int.reduceMul, Int.reduceNeg, jp_n9_1, jp_n9_8, jp_n9_15, jp_n9_21, jp_n9_24, jp_n10_1, jp_n10_2, jp_n10_3, jp_n10_4, jp_n10_5, jp_n10_6, jp_n17_1, jp_n17_2, jp_n17_3, jp_n17_4, jp_n17_5, jp_n17_6, jp_n24_1, jp_n24_2, jp_n24_3, jp_n24_4, jp_n24_5, jp_n30_1, jp_n30_2, jp_n33_1, jp_n33_2, false_and, true_and, and_true, and_false, and_self, ne_eq, not_true_eq_false, not_false_eq_true, jw_ws, jw_vs, jw_cmp_lt, jw_cmp_gt, jw_cmp_eq, jp_t1, jp_t2, jp_t3, jp_t4, jp_t5, jp_t6]
    refine ⟨_, _, _, hx, ?_, jp_th h 0⟩
    unfold fX12_settle
    simp (disch := omega) only [↓jp_bs, ↓jp_b2s, ↓reduceIte, jw_up_a, Nat.reduceEqDiff, Int.reduceEq, Int.reduceLT, Int.reduceLE, Int.reduceAdd, Int.reduceSub, Int.reduceMul, Int.reduceNeg, jp_n9_1, jp_n9_8, jp_n9_15, jp_n9_21, jp_n9_24, jp_n10_1, jp_n10_2, jp_n10_3, jp_n10_4, jp_n10_5, jp_n10_6, jp_n17_1, jp_n17_2, jp_n17_3, jp_n17_4, jp_n17_5, jp_n17_6, jp_n24_1, jp_n24_2, jp_n24_3, jp_n24_4, jp_n24_5, jp_n30_1, jp_n30_2, jp_n33_1, jp_n33_2, false_and, true_and, and_true, and_false, and_self, ne_eq, not_true_eq_false, not_false_eq_true, jw_ws, jw_vs, jw_cmp_lt, jw_cmp_gt, jw_cmp_eq, jp_t1, jp_t2, jp_t3, jp_t4, jp_t5, jp_t6]
  · have hP : ∀ q : Int, 0 ≤ q → q < M 131 3 → 0 ≤ M 22 q ∧ M 22 q < M 131 0 := fun q a b => by have := hB.1 q a b; omega
    have hP3 : ∀ q : Int, 0 ≤ q → q < M 131 3 → 0 ≤ M 133 q ∧ M 133 q < M 131 0 := fun q a b => (hB.1 q a b).2
    have hc := gX8_mtr 40 0 M jw_fu (by omega) (by omega) (by unfold jw_fu; omega) hA hD hP
    obtain ⟨z1, z2⟩ := jp_st_e (T := M 131) (N := M 133) (N' := M 133) r3.1 (fun j _ _ => rfl) hD.1.1 40 (M 133) (M 22) 0 (fun q a b => (hB.1 q a b).1)
    rw [z1] at hc
    have zr := jp_st_r (N := M 133) r0.1 r3.1 40 (M 133) 0 hP3
    generalize (jp_st (M 131) (M 133) 40 (M 22) 0).2 = P at hc z2
    have hx : fX11_settle M = some ((jp_st (M 131) (M 133) 40 (M 133) 0).1, jw_pt M 22 P) := by
      unfold fX11_settle fX8_moveTillRest
      simp (disch := omega) only [↓jp_bs, ↓jp_b2s, ↓reduceIte, jw_up_a, Nat.reduceEqDiff, Int.reduceEq, Int.reduceLT, Int.reduceLE, Int.reduceAdd, Int.reduceSub, Int.reduceMul, Int.reduceNeg, jp_n9_1, jp_n9_8, jp_n9_15, jp_n9_21, jp_n9_24, jp_n10_1, jp_n10_2, jp_n10_3, jp_n10_4, jp_n10_5, jp_n10_6, jp_n17_1, jp_n17_2, jp_n17_3, jp_n17_4, jp_n17_5, jp_n17_6, jp_n24_1, jp_n24_2, jp_n24_3, jp_n24_4, jp_n24_5, jp_n30_1, jp_n30_2, jp_n33_1, jp_n33_2, false_and, true_and, and_true, and_false, and_self, ne_eq, not_true_eq_false, not_false_eq_true, jw_ws, jw_vs, jw_cmp_lt, jw_cmp_gt, jw_cmp_eq, jp_t1, jp_t2, jp_t3, jp_t4, jp_t5, jp_t6]
      exact jp_bn2 hc _
    have f1 : ∀ k : Nat, k ≠ 22 → k ≠ 127 → jw_up (jw_pt M 22 P) 127 0 0 k = M k := fun k a b => by rw [jw_up_ne _ b, jw_pt_ne _ a]
    have hA1 : jp_A (jw_up (jw_pt M 22 P) 127 0 0) := jp_A_th (jp_A_pt hA 22 P (by decide)) 0 0
    have hD1 : jp_D (jw_up (jw_pt M 22 P) 127 0 0) := jp_D_9 hD (fun k p q => f1 k (by omega) (by omega)) (f1 _ (by decide) (by decide)) (fun j _ => by rw [f1 _ (by decide) (by decide)])
    obtain ⟨Q, q1, q2, q3⟩ := gX12_settle_20 40 0 (jw_up (jw_pt M 22 P) 127 0 0) jw_fu (by omega) (by omega) (by unfold jw_fu; omega) hA1 hD1 (by rw [f1 131 (by decide) (by decide), f1 133 (by decide) (by decide)]; exact hP3)
    rw [f1 131 (by decide) (by decide), f1 133 (by decide) (by decide)] at q1 q2 q3
    have hy : fX12_settle (jw_pt M 22 P) = some ((jp_st (M 131) (M 133) 40 (M 133) 0).1, jw_pt (jw_up (jw_pt M 22 P) 127 0 0) 133 Q) := by
      have e : jw_up (jw_pt M 22 P) 127 0 0 127 7 = M 127 7 := rfl
      unfold fX12_settle
      rw [jp_bs, e, if_neg hp, jp_bs, jp_bs, q1]
    refine ⟨_, _, _, hx, hy, ?_⟩
    have m22 : jw_pt (jw_up (jw_pt M 22 P) 127 0 0) 133 Q 22 = P := by rw [jw_pt_ne _ (by decide), jw_up_ne _ (by decide), jw_pt_eq]
    have m133 : jw_pt (jw_up (jw_pt M 22 P) 127 0 0) 133 Q 133 = Q := jw_pt_eq _ _ _
    have m23 : jw_pt (jw_up (jw_pt M 22 P) 127 0 0) 133 Q 23 = M 23 := by rw [jw_pt_ne _ (by decide), f1 _ (by decide) (by decide)]
    have m131 : jw_pt (jw_up (jw_pt M 22 P) 127 0 0) 133 Q 131 = M 131 := by rw [jw_pt_ne _ (by decide), f1 _ (by decide) (by decide)]
    refine jp_inv_pos h ⟨?_, ?_⟩ (fun k u a b c => ?_) (fun j hj => ?_) rfl rfl rfl rfl rfl rfl rfl rfl rfl
    · rw [m22, m133, m131]
      intro s a b
      have := zr s a b
      rw [q2 s a b, z2 s a b]
      exact ⟨rfl, this⟩
    · rw [m23, m133, m131]
      intro w a b
      rw [q3 (5 + w) (by omega)]
      exact hB.2 w a b
    · rw [jw_pt_ne _ c, f1 k a (by intro e; subst e; revert u; decide)]
    · rw [m133, q3 j (by omega)]
