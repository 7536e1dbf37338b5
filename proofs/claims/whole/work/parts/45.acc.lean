/-! what stands still of the sheet in use (jp_A), where they stand (jp_B); the small methods in closed form -/
theorem jp_inv_cur {M M' : jw_M} (h : jp_inv M) (hc : jp_curI M') (h1 : ∀ k : Nat, jp_use k = true → ¬ (9 ≤ k ∧ k ≤ 34) → k ≠ 131 → k ≠ 133 → k ≠ 135 → k ≠ 136 → M' k = M k) (h2 : M' 0 9 = M' 127 11) (h3 : M' 0 10 = M' 127 1) (h4 : M' 5 1 = M 5 1) (h5 : M' 125 2 = M 125 2) (h8 : M' 127 10 = M 127 10) (h10 : M' 127 34 = M 127 34) (h7 : M 127 7 = 1 → M' 127 7 = 1) : jp_inv M' := by
  obtain ⟨a, b, c, d, e, f, g⟩ := h
  refine ⟨jp_rows_fr a (h1 _ rfl (by decide) (by decide) (by decide) (by decide) (by decide)) (h1 _ rfl (by decide) (by decide) (by decide) (by decide) (by decide)) (h1 _ rfl (by decide) (by decide) (by decide) (by decide) (by decide)) (h1 _ rfl (by decide) (by decide) (by decide) (by decide) (by decide)) (h1 _ rfl (by decide) (by decide) (by decide) (by decide) (by decide)) (h1 _ rfl (by decide) (by decide) (by decide) (by decide) (by decide)), jp_tape_fr b h4 (h1 _ rfl (by decide) (by decide) (by decide) (by decide) (by decide)) h8 (h1 _ rfl (by decide) (by decide) (by decide) (by decide) (by decide)), ⟨h2, h3⟩, jp_ask_fr d h5 (h1 _ rfl (by decide) (by decide) (by decide) (by decide) (by decide)) h10 (h1 _ rfl (by decide) (by decide) (by decide) (by decide) (by decide)), hc, jp_img_fr f (fun k p q => h1 k (jp_use_i (by omega)) (by omega) (by omega) (by omega) (by omega) (by omega)) (h1 _ rfl (by decide) (by decide) (by decide) (by decide) (by decide)) (h1 _ rfl (by decide) (by decide) (by decide) (by decide) (by decide)) (h1 _ rfl (by decide) (by decide) (by decide) (by decide) (by decide)) (h1 _ rfl (by decide) (by decide) (by decide) (by decide) (by decide)) h7, jp_img_fr g (fun k p q => h1 k (jp_use_i (by omega)) (by omega) (by omega) (by omega) (by omega) (by omega)) (h1 _ rfl (by decide) (by decide) (by decide) (by decide) (by decide)) (h1 _ rfl (by decide) (by decide) (by decide) (by decide) (by decide)) (h1 _ rfl (by decide) (by decide) (by decide) (by decide) (by decide)) (h1 _ rfl (by decide) (by decide) (by decide) (by decide) (by decide)) h7⟩
def jp_A (M : jw_M) : Prop :=
  jp_T (M 131) ∧ (M 10 0 = M 131 0 ∧ M 10 5 = M 131 5 ∧ M 10 8 = M 131 87 ∧ M 10 9 = M 131 88 ∧ M 10 10 = M 131 89) ∧
  (∀ c : Int, 0 ≤ c → c < M 131 0 → M 11 c = M 131 (7 + c)) ∧
  (∀ a b : Int, 0 ≤ a → a < 7 → 0 ≤ b → b < 7 → M 12 (7 * a + b) = M 131 (14 + 7 * a + b)) ∧
  (∀ a b : Int, 0 ≤ a → a < M 131 0 → 0 ≤ b → b < M 131 0 → M 13 (7 * a + b) = jp_wk (M 131) a b ∧ M 14 (7 * a + b) = jp_hk (M 131) a b) ∧
  (∀ k : Int, 0 ≤ k → k < M 131 5 → M 15 k = M 131 (75 + 2 * k) ∧ M 16 k = M 131 (76 + 2 * k)) ∧
  (M 17 0 = M 131 2 ∧ M 17 4 = M 131 3 ∧ M 17 7 = M 131 4) ∧
  (∀ g : Int, 0 ≤ g → g < M 131 2 → M 18 g = M 131 (63 + 3 * g) ∧ M 19 g = M 131 (64 + 3 * g) ∧ M 20 g = M 131 (65 + 3 * g)) ∧
  (∀ i : Int, 0 ≤ i → i < M 131 3 → M 21 i = M 131 (90 + i)) ∧
  (∀ a b : Int, 0 ≤ a → a < M 131 0 → 0 ≤ b → b < M 131 0 → M 135 (7 * a + b) = jp_wk (M 131) a b ∧ M 136 (7 * a + b) = jp_hk (M 131) a b)
def jp_B (M : jw_M) : Prop := (∀ s : Int, 0 ≤ s → s < M 131 3 → M 22 s = M 133 s ∧ 0 ≤ M 133 s ∧ M 133 s < M 131 0) ∧ (∀ w : Int, 0 ≤ w → w < M 131 4 → M 23 w = M 133 (5 + w) ∧ 0 ≤ M 133 (5 + w) ∧ M 133 (5 + w) < M 131 0)
theorem jp_inv_A {M : jw_M} (h : jp_inv M) : jp_A M := by
  obtain ⟨-, -, -, -, ⟨-, t, n, s, w⟩, -, -⟩ := h
  obtain ⟨s1, s2, s3, s4, s5, s6, s7, s8, -⟩ := s
  exact ⟨t, s1, s2, s3, s4, s5, s6, s7, s8, w⟩
theorem jp_inv_B {M : jw_M} (h : jp_inv M) : jp_B M := by
  obtain ⟨-, -, -, -, ⟨-, t, n, s, w⟩, -, -⟩ := h
  obtain ⟨s1, s2, s3, s4, s5, s6, s7, s8, s9, s10, -⟩ := s
  exact ⟨fun i p q => ⟨s9 i p q, n.1 i p q⟩, fun i p q => ⟨s10 i p q, n.2.1 i p q⟩⟩
theorem jp_A_fr {M M' : jw_M} (h : jp_A M) (h1 : ∀ k : Nat, 10 ≤ k → k ≤ 21 → M' k = M k) (h2 : M' 131 = M 131) (h3 : M' 135 = M 135) (h4 : M' 136 = M 136) : jp_A M' := by
  unfold jp_A at h ⊢
  rw [h1 10 (by omega) (by omega), h1 11 (by omega) (by omega), h1 12 (by omega) (by omega), h1 13 (by omega) (by omega), h1 14 (by omega) (by omega), h1 15 (by omega) (by omega), h1 16 (by omega) (by omega), h1 17 (by omega) (by omega), h1 18 (by omega) (by omega), h1 19 (by omega) (by omega), h1 20 (by omega) (by omega), h1 21 (by omega) (by omega), h2, h3, h4]
  exact h
theorem jp_B_fr {M M' : jw_M} (h : jp_B M) (h1 : M' 22 = M 22) (h2 : M' 23 = M 23) (h3 : M' 131 = M 131) (h4 : ∀ j : Int, 0 ≤ j → j < 9 → M' 133 j = M 133 j) (h5 : M 131 3 ≤ 5 ∧ M 131 4 ≤ 4) : jp_B M' := by
  unfold jp_B at h ⊢
  rw [h1, h2, h3]
  refine ⟨fun s p q => ?_, fun w p q => ?_⟩
  · rw [h4 s p (by omega)]; exact h.1 s p q
  · rw [h4 (5 + w) (by omega) (by omega)]; exact h.2 w p q
theorem jp_A_th {M : jw_M} (h : jp_A M) (j v : Int) : jp_A (jw_up M 127 j v) := jp_A_fr h (fun k p q => jw_up_ne _ (by omega) _ _) (jw_up_ne _ (by decide) _ _) (jw_up_ne _ (by decide) _ _) (jw_up_ne _ (by decide) _ _)
theorem jp_A_up {M : jw_M} (h : jp_A M) (k : Nat) (i v : Int) (hk : k < 10 ∨ (21 < k ∧ k ≠ 131 ∧ k ≠ 135 ∧ k ≠ 136)) : jp_A (jw_up M k i v) := jp_A_fr h (fun k p q => jw_up_ne _ (by omega) _ _) (jw_up_ne _ (by omega) _ _) (jw_up_ne _ (by omega) _ _) (jw_up_ne _ (by omega) _ _)
theorem jp_A_r {M : jw_M} (h : jp_A M) : ((0 ≤ M 131 0 ∧ M 131 0 ≤ 7) ∧ (0 ≤ M 131 2 ∧ M 131 2 ≤ 4) ∧ (0 ≤ M 131 3 ∧ M 131 3 ≤ 5) ∧ (0 ≤ M 131 4 ∧ M 131 4 ≤ 4) ∧ (0 ≤ M 131 5 ∧ M 131 5 ≤ 6)) ∧ ((0 ≤ M 131 87 ∧ M 131 87 ≤ 20) ∧ (0 ≤ M 131 88 ∧ M 131 88 ≤ 30) ∧ (0 ≤ M 131 89 ∧ M 131 89 ≤ 9)) := ⟨h.1.1, h.1.2.1.1, h.1.2.1.2.1, h.1.2.1.2.2.1⟩
theorem jp_A_c {M : jw_M} (h : jp_A M) : (M 10 0 = M 131 0 ∧ M 10 5 = M 131 5 ∧ M 10 8 = M 131 87 ∧ M 10 9 = M 131 88 ∧ M 10 10 = M 131 89) ∧ (M 17 0 = M 131 2 ∧ M 17 4 = M 131 3 ∧ M 17 7 = M 131 4) := ⟨h.2.1, h.2.2.2.2.2.2.1⟩
theorem gX9_isCorner (a : Int) (M : jw_M) : fX9_isCorner (9 + 1) a M = some (if 0 ≤ a ∧ a < M 10 0 then 1 else 0) := by
  unfold fX9_isCorner
  rw [if_pos (by decide)]
  by_cases h1 : a < 0
  · rw [if_pos h1, if_neg (by omega)]
  · rw [if_neg h1]
    by_cases h2 : a < M 10 0
    · rw [if_pos h2, if_pos (by omega)]
    · rw [if_neg h2, if_neg (by omega)]
theorem bX9_isCorner (a : Int) (M : jw_M) {be : Type} (kk : _ → Option be) : Option.bind (fX9_isCorner (9 + 1) a M) kk = kk ((if 0 ≤ a ∧ a < M 10 0 then 1 else 0)) := by rw [show fX9_isCorner (9 + 1) a M = some (if 0 ≤ a ∧ a < M 10 0 then 1 else 0) from gX9_isCorner a M]; rfl
theorem gX10_isGoods (a : Int) (M : jw_M) : fX10_isGoods (9 + 8) a M = some (if 0 ≤ a ∧ a < M 17 0 then 1 else 0) := by
  unfold fX10_isGoods
  rw [if_pos (by decide)]
  by_cases h1 : a < 0
  · rw [if_pos h1, if_neg (by omega)]
  · rw [if_neg h1]
    by_cases h2 : a < M 17 0
    · rw [if_pos h2, if_pos (by omega)]
    · rw [if_neg h2, if_neg (by omega)]
theorem bX10_isGoods (a : Int) (M : jw_M) {be : Type} (kk : _ → Option be) : Option.bind (fX10_isGoods (9 + 8) a M) kk = kk ((if 0 ≤ a ∧ a < M 17 0 then 1 else 0)) := by rw [show fX10_isGoods (9 + 8) a M = some (if 0 ≤ a ∧ a < M 17 0 then 1 else 0) from gX10_isGoods a M]; rfl
theorem gX10_isSeller (a : Int) (M : jw_M) : fX10_isSeller (9 + 8) a M = some (if 0 ≤ a ∧ a < M 17 4 then 1 else 0) := by
  unfold fX10_isSeller
  rw [if_pos (by decide)]
  by_cases h1 : a < 0
  · rw [if_pos h1, if_neg (by omega)]
  · rw [if_neg h1]
    by_cases h2 : a < M 17 4
    · rw [if_pos h2, if_pos (by omega)]
    · rw [if_neg h2, if_neg (by omega)]
theorem bX10_isSeller (a : Int) (M : jw_M) {be : Type} (kk : _ → Option be) : Option.bind (fX10_isSeller (9 + 8) a M) kk = kk ((if 0 ≤ a ∧ a < M 17 4 then 1 else 0)) := by rw [show fX10_isSeller (9 + 8) a M = some (if 0 ≤ a ∧ a < M 17 4 then 1 else 0) from gX10_isSeller a M]; rfl
theorem gX10_isWatcher (a : Int) (M : jw_M) : fX10_isWatcher (9 + 8) a M = some (if 0 ≤ a ∧ a < M 17 7 then 1 else 0) := by
  unfold fX10_isWatcher
  rw [if_pos (by decide)]
  by_cases h1 : a < 0
  · rw [if_pos h1, if_neg (by omega)]
  · rw [if_neg h1]
    by_cases h2 : a < M 17 7
    · rw [if_pos h2, if_pos (by omega)]
    · rw [if_neg h2, if_neg (by omega)]
theorem bX10_isWatcher (a : Int) (M : jw_M) {be : Type} (kk : _ → Option be) : Option.bind (fX10_isWatcher (9 + 8) a M) kk = kk ((if 0 ≤ a ∧ a < M 17 7 then 1 else 0)) := by rw [show fX10_isWatcher (9 + 8) a M = some (if 0 ≤ a ∧ a < M 17 7 then 1 else 0) from gX10_isWatcher a M]; rfl
theorem gX11_isHalf (a : Int) (M : jw_M) : fX11_isHalf a M = some (if 0 ≤ a ∧ a ≤ 1 then 1 else 0) := by
  unfold fX11_isHalf fX11_isHalf_9
  by_cases h1 : a = 0
  · rw [if_pos h1, if_pos (by omega)]
  · rw [if_neg h1]
    by_cases h2 : a = 1
    · rw [if_pos h2, if_pos (by omega)]
    · rw [if_neg h2, if_neg (by omega)]
theorem bX11_isHalf (a : Int) (M : jw_M) {be : Type} (kk : _ → Option be) : Option.bind (fX11_isHalf a M) kk = kk ((if 0 ≤ a ∧ a ≤ 1 then 1 else 0)) := by rw [show fX11_isHalf a M = some (if 0 ≤ a ∧ a ≤ 1 then 1 else 0) from gX11_isHalf a M]; rfl
theorem gX11_orNone (a : Int) (M : jw_M) : fX11_orNone a M = some (if a < 1000000 then a else -1000000) := by
  unfold fX11_orNone
  split <;> rfl
theorem bX11_orNone (a : Int) (M : jw_M) {be : Type} (kk : _ → Option be) : Option.bind (fX11_orNone a M) kk = kk ((if a < 1000000 then a else -1000000)) := by rw [show fX11_orNone a M = some (if a < 1000000 then a else -1000000) from gX11_orNone a M]; rfl
theorem gX12_isCorner {M : jw_M} (hA : jp_A M) (a : Int) : fX12_isCorner a M = some (if 0 ≤ a ∧ a < M 131 0 then 1 else 0) := by
  unfold fX12_isCorner
  have h := (jp_A_r hA).1
  rw [if_pos (by decide), jw_ws (by omega), gX12_in]
  by_cases h2 : 0 ≤ a ∧ a < M 131 0
  · rw [if_pos h2, if_pos (by omega)]; rfl
  · rw [if_neg h2, if_neg (by omega)]; rfl
theorem bX12_isCorner {M : jw_M} (hA : jp_A M) (a : Int) {be : Type} (kk : _ → Option be) : Option.bind (fX12_isCorner a M) kk = kk ((if 0 ≤ a ∧ a < M 131 0 then 1 else 0)) := by rw [show fX12_isCorner a M = some (if 0 ≤ a ∧ a < M 131 0 then 1 else 0) from gX12_isCorner hA a]; rfl
theorem gX12_isSeller {M : jw_M} (hA : jp_A M) (a : Int) : fX12_isSeller a M = some (if 0 ≤ a ∧ a < M 131 3 then 1 else 0) := by
  unfold fX12_isSeller
  have h := (jp_A_r hA).1
  rw [if_pos (by decide), jw_ws (by omega), gX12_in]
  by_cases h2 : 0 ≤ a ∧ a < M 131 3
  · rw [if_pos h2, if_pos (by omega)]; rfl
  · rw [if_neg h2, if_neg (by omega)]; rfl
theorem bX12_isSeller {M : jw_M} (hA : jp_A M) (a : Int) {be : Type} (kk : _ → Option be) : Option.bind (fX12_isSeller a M) kk = kk ((if 0 ≤ a ∧ a < M 131 3 then 1 else 0)) := by rw [show fX12_isSeller a M = some (if 0 ≤ a ∧ a < M 131 3 then 1 else 0) from gX12_isSeller hA a]; rfl
theorem gX12_isWatcher {M : jw_M} (hA : jp_A M) (a : Int) : fX12_isWatcher a M = some (if 0 ≤ a ∧ a < M 131 4 then 1 else 0) := by
  unfold fX12_isWatcher
  have h := (jp_A_r hA).1
  rw [if_pos (by decide), jw_ws (by omega), gX12_in]
  by_cases h2 : 0 ≤ a ∧ a < M 131 4
  · rw [if_pos h2, if_pos (by omega)]; rfl
  · rw [if_neg h2, if_neg (by omega)]; rfl
theorem bX12_isWatcher {M : jw_M} (hA : jp_A M) (a : Int) {be : Type} (kk : _ → Option be) : Option.bind (fX12_isWatcher a M) kk = kk ((if 0 ≤ a ∧ a < M 131 4 then 1 else 0)) := by rw [show fX12_isWatcher a M = some (if 0 ≤ a ∧ a < M 131 4 then 1 else 0) from gX12_isWatcher hA a]; rfl
theorem gX9_streetTo {M : jw_M} (hA : jp_A M) (a b : Int) (h : 0 ≤ a ∧ a < 7 ∧ 0 ≤ b ∧ b < 7) : fX9_streetTo (9 + 1) a b M = some (M 131 (14 + 7 * a + b)) := by
  unfold fX9_streetTo
  rw [if_pos (by decide)]
  have := hA.2.2.2.1 a b h.1 h.2.1 h.2.2.1 h.2.2.2
  simp (disch := omega) only [↓jp_bs, ↓jp_b2s, ↓reduceIte, jw_up_a, Nat.reduceEqDiff, Int.reduceEq, Int.reduceLT, Int.reduceLE, Int.reduceAdd, Int.reduceSub, Int.reduceMul, Int.reduceNeg, jp_n9_1, jp_n9_8, jp_n9_15, jp_n9_21, jp_n9_24, jp_n10_1, jp_n10_2, jp_n10_3, jp_n10_4, jp_n10_5, jp_n10_6, jp_n17_1, jp_n17_2, jp_n17_3, jp_n17_4, jp_n17_5, jp_n17_6, jp_n24_1, jp_n24_2, jp_n24_3, jp_n24_4, jp_n24_5, jp_n30_1, jp_n30_2, jp_n33_1, jp_n33_2, false_and, true_and, and_true, and_false, and_self, ne_eq, not_true_eq_false, not_false_eq_true, jw_ws, jw_vs, jw_cmp_lt, jw_cmp_gt, jw_cmp_eq, jp_t1, jp_t2, jp_t3, jp_t4, jp_t5, jp_t6, show a * 7 + b = 7 * a + b by omega, this]
theorem bX9_streetTo {M : jw_M} (hA : jp_A M) (a b : Int) (h : 0 ≤ a ∧ a < 7 ∧ 0 ≤ b ∧ b < 7) {be : Type} (kk : _ → Option be) : Option.bind (fX9_streetTo (9 + 1) a b M) kk = kk ((M 131 (14 + 7 * a + b))) := by rw [show fX9_streetTo (9 + 1) a b M = some (M 131 (14 + 7 * a + b)) from gX9_streetTo hA a b h]; rfl
theorem gX9_walkTo {M : jw_M} (hA : jp_A M) (a b : Int) (h : 0 ≤ a ∧ a < M 131 0 ∧ 0 ≤ b ∧ b < M 131 0) : fX9_walkTo (9 + 1) a b M = some (jp_wk (M 131) a b) := by
  unfold fX9_walkTo
  rw [if_pos (by decide)]
  have h2 := (hA.2.2.2.2.1 a b h.1 h.2.1 h.2.2.1 h.2.2.2).1
  have h3 := hA.1.1.1
  simp (disch := omega) only [↓jp_bs, ↓jp_b2s, ↓reduceIte, jw_up_a, Nat.reduceEqDiff, Int.reduceEq, Int.reduceLT, Int.reduceLE, Int.reduceAdd, Int.reduceSub, Int.reduceMul, Int.reduceNeg, jp_n9_1, jp_n9_8, jp_n9_15, jp_n9_21, jp_n9_24, jp_n10_1, jp_n10_2, jp_n10_3, jp_n10_4, jp_n10_5, jp_n10_6, jp_n17_1, jp_n17_2, jp_n17_3, jp_n17_4, jp_n17_5, jp_n17_6, jp_n24_1, jp_n24_2, jp_n24_3, jp_n24_4, jp_n24_5, jp_n30_1, jp_n30_2, jp_n33_1, jp_n33_2, false_and, true_and, and_true, and_false, and_self, ne_eq, not_true_eq_false, not_false_eq_true, jw_ws, jw_vs, jw_cmp_lt, jw_cmp_gt, jw_cmp_eq, jp_t1, jp_t2, jp_t3, jp_t4, jp_t5, jp_t6, show a * 7 + b = 7 * a + b by omega, h2]
theorem bX9_walkTo {M : jw_M} (hA : jp_A M) (a b : Int) (h : 0 ≤ a ∧ a < M 131 0 ∧ 0 ≤ b ∧ b < M 131 0) {be : Type} (kk : _ → Option be) : Option.bind (fX9_walkTo (9 + 1) a b M) kk = kk ((jp_wk (M 131) a b)) := by rw [show fX9_walkTo (9 + 1) a b M = some (jp_wk (M 131) a b) from gX9_walkTo hA a b h]; rfl
theorem gX9_hearingTo {M : jw_M} (hA : jp_A M) (a b : Int) (h : 0 ≤ a ∧ a < M 131 0 ∧ 0 ≤ b ∧ b < M 131 0) : fX9_hearingTo (9 + 1) a b M = some (jp_hk (M 131) a b) := by
  unfold fX9_hearingTo
  rw [if_pos (by decide)]
  have h2 := (hA.2.2.2.2.1 a b h.1 h.2.1 h.2.2.1 h.2.2.2).2
  have h3 := hA.1.1.1
  simp (disch := omega) only [↓jp_bs, ↓jp_b2s, ↓reduceIte, jw_up_a, Nat.reduceEqDiff, Int.reduceEq, Int.reduceLT, Int.reduceLE, Int.reduceAdd, Int.reduceSub, Int.reduceMul, Int.reduceNeg, jp_n9_1, jp_n9_8, jp_n9_15, jp_n9_21, jp_n9_24, jp_n10_1, jp_n10_2, jp_n10_3, jp_n10_4, jp_n10_5, jp_n10_6, jp_n17_1, jp_n17_2, jp_n17_3, jp_n17_4, jp_n17_5, jp_n17_6, jp_n24_1, jp_n24_2, jp_n24_3, jp_n24_4, jp_n24_5, jp_n30_1, jp_n30_2, jp_n33_1, jp_n33_2, false_and, true_and, and_true, and_false, and_self, ne_eq, not_true_eq_false, not_false_eq_true, jw_ws, jw_vs, jw_cmp_lt, jw_cmp_gt, jw_cmp_eq, jp_t1, jp_t2, jp_t3, jp_t4, jp_t5, jp_t6, show a * 7 + b = 7 * a + b by omega, h2]
theorem bX9_hearingTo {M : jw_M} (hA : jp_A M) (a b : Int) (h : 0 ≤ a ∧ a < M 131 0 ∧ 0 ≤ b ∧ b < M 131 0) {be : Type} (kk : _ → Option be) : Option.bind (fX9_hearingTo (9 + 1) a b M) kk = kk ((jp_hk (M 131) a b)) := by rw [show fX9_hearingTo (9 + 1) a b M = some (jp_hk (M 131) a b) from gX9_hearingTo hA a b h]; rfl
theorem jp_gof {M : jw_M} (hA : jp_A M) {s : Int} (h : 0 ≤ s ∧ s < M 131 3) : M 21 s = M 131 (90 + s) ∧ 0 ≤ M 131 (90 + s) ∧ M 131 (90 + s) < M 131 2 := ⟨hA.2.2.2.2.2.2.2.2.1 s h.1 h.2, hA.1.2.2.2.2.2.2 s h.1 h.2⟩
/-- the goods of a seller: 0 folding, 1 worth, 2 fine -/
theorem jp_gds {M : jw_M} (hA : jp_A M) {s : Int} (h : 0 ≤ s ∧ s < M 131 3) : (1 ≤ M 131 (63 + 3 * M 131 (90 + s)) ∧ M 131 (63 + 3 * M 131 (90 + s)) ≤ 9) ∧ (1 ≤ M 131 (64 + 3 * M 131 (90 + s)) ∧ M 131 (64 + 3 * M 131 (90 + s)) ≤ 99) ∧ (0 ≤ M 131 (65 + 3 * M 131 (90 + s)) ∧ M 131 (65 + 3 * M 131 (90 + s)) ≤ 99) := by
  obtain ⟨-, h2, h3⟩ := jp_gof hA h
  obtain ⟨a, b, c, d, e, f⟩ := hA.1.2.2.2.2.1 _ h2 h3
  exact ⟨⟨a, b⟩, ⟨c, d⟩, ⟨e, f⟩⟩
theorem gX10_foldOf {M : jw_M} (hA : jp_A M) (s : Int) (h : 0 ≤ s ∧ s < M 131 3) : fX10_foldOf (9 + 8) s M = some (M 131 (63 + 3 * M 131 (90 + s))) := by
  unfold fX10_foldOf
  rw [if_pos (by decide)]
  obtain ⟨h1, h2, h3⟩ := jp_gof hA h
  obtain ⟨p, q, r⟩ := hA.2.2.2.2.2.2.2.1 _ h2 h3
  have h5 := hA.1.1
  simp (disch := omega) only [↓jp_bs, ↓jp_b2s, ↓reduceIte, jw_up_a, Nat.reduceEqDiff, Int.reduceEq, Int.reduceLT, Int.reduceLE, Int.reduceAdd, Int.reduceSub, Int.reduceMul, Int.reduceNeg, jp_n9_1, jp_n9_8, jp_n9_15, jp_n9_21, jp_n9_24, jp_n10_1, jp_n10_2, jp_n10_3, jp_n10_4, jp_n10_5, jp_n10_6, jp_n17_1, jp_n17_2, jp_n17_3, jp_n17_4, jp_n17_5, jp_n17_6, jp_n24_1, jp_n24_2, jp_n24_3, jp_n24_4, jp_n24_5, jp_n30_1, jp_n30_2, jp_n33_1, jp_n33_2, false_and, true_and, and_true, and_false, and_self, ne_eq, not_true_eq_false, not_false_eq_true, jw_ws, jw_vs, jw_cmp_lt, jw_cmp_gt, jw_cmp_eq, jp_t1, jp_t2, jp_t3, jp_t4, jp_t5, jp_t6, h1, p]
theorem bX10_foldOf {M : jw_M} (hA : jp_A M) (s : Int) (h : 0 ≤ s ∧ s < M 131 3) {be : Type} (kk : _ → Option be) : Option.bind (fX10_foldOf (9 + 8) s M) kk = kk ((M 131 (63 + 3 * M 131 (90 + s)))) := by rw [show fX10_foldOf (9 + 8) s M = some (M 131 (63 + 3 * M 131 (90 + s))) from gX10_foldOf hA s h]; rfl
theorem gX10_worthOf {M : jw_M} (hA : jp_A M) (s : Int) (h : 0 ≤ s ∧ s < M 131 3) : fX10_worthOf (9 + 8) s M = some (M 131 (64 + 3 * M 131 (90 + s))) := by
  unfold fX10_worthOf
  rw [if_pos (by decide)]
  obtain ⟨h1, h2, h3⟩ := jp_gof hA h
  obtain ⟨p, q, r⟩ := hA.2.2.2.2.2.2.2.1 _ h2 h3
  have h5 := hA.1.1
  simp (disch := omega) only [↓jp_bs, ↓jp_b2s, ↓reduceIte, jw_up_a, Nat.reduceEqDiff, Int.reduceEq, Int.reduceLT, Int.reduceLE, Int.reduceAdd, Int.reduceSub, Int.reduceMul, Int.reduceNeg, jp_n9_1, jp_n9_8, jp_n9_15, jp_n9_21, jp_n9_24, jp_n10_1, jp_n10_2, jp_n10_3, jp_n10_4, jp_n10_5, jp_n10_6, jp_n17_1, jp_n17_2, jp_n17_3, jp_n17_4, jp_n17_5, jp_n17_6, jp_n24_1, jp_n24_2, jp_n24_3, jp_n24_4, jp_n24_5, jp_n30_1, jp_n30_2, jp_n33_1, jp_n33_2, false_and, true_and, and_true, and_false, and_self, ne_eq, not_true_eq_false, not_false_eq_true, jw_ws, jw_vs, jw_cmp_lt, jw_cmp_gt, jw_cmp_eq, jp_t1, jp_t2, jp_t3, jp_t4, jp_t5, jp_t6, h1, q]
theorem bX10_worthOf {M : jw_M} (hA : jp_A M) (s : Int) (h : 0 ≤ s ∧ s < M 131 3) {be : Type} (kk : _ → Option be) : Option.bind (fX10_worthOf (9 + 8) s M) kk = kk ((M 131 (64 + 3 * M 131 (90 + s)))) := by rw [show fX10_worthOf (9 + 8) s M = some (M 131 (64 + 3 * M 131 (90 + s))) from gX10_worthOf hA s h]; rfl
theorem gX10_fineOf {M : jw_M} (hA : jp_A M) (s : Int) (h : 0 ≤ s ∧ s < M 131 3) : fX10_fineOf (9 + 8) s M = some (M 131 (65 + 3 * M 131 (90 + s))) := by
  unfold fX10_fineOf
  rw [if_pos (by decide)]
  obtain ⟨h1, h2, h3⟩ := jp_gof hA h
  obtain ⟨p, q, r⟩ := hA.2.2.2.2.2.2.2.1 _ h2 h3
  have h5 := hA.1.1
  simp (disch := omega) only [↓jp_bs, ↓jp_b2s, ↓reduceIte, jw_up_a, Nat.reduceEqDiff, Int.reduceEq, Int.reduceLT, Int.reduceLE, Int.reduceAdd, Int.reduceSub, Int.reduceMul, Int.reduceNeg, jp_n9_1, jp_n9_8, jp_n9_15, jp_n9_21, jp_n9_24, jp_n10_1, jp_n10_2, jp_n10_3, jp_n10_4, jp_n10_5, jp_n10_6, jp_n17_1, jp_n17_2, jp_n17_3, jp_n17_4, jp_n17_5, jp_n17_6, jp_n24_1, jp_n24_2, jp_n24_3, jp_n24_4, jp_n24_5, jp_n30_1, jp_n30_2, jp_n33_1, jp_n33_2, false_and, true_and, and_true, and_false, and_self, ne_eq, not_true_eq_false, not_false_eq_true, jw_ws, jw_vs, jw_cmp_lt, jw_cmp_gt, jw_cmp_eq, jp_t1, jp_t2, jp_t3, jp_t4, jp_t5, jp_t6, h1, r]
theorem bX10_fineOf {M : jw_M} (hA : jp_A M) (s : Int) (h : 0 ≤ s ∧ s < M 131 3) {be : Type} (kk : _ → Option be) : Option.bind (fX10_fineOf (9 + 8) s M) kk = kk ((M 131 (65 + 3 * M 131 (90 + s)))) := by rw [show fX10_fineOf (9 + 8) s M = some (M 131 (65 + 3 * M 131 (90 + s))) from gX10_fineOf hA s h]; rfl
theorem gX10_lossOf {M : jw_M} (hA : jp_A M) (s : Int) (h : 0 ≤ s ∧ s < M 131 3) : fX10_lossOf (9 + 8) s M = some (M 131 (64 + 3 * M 131 (90 + s)) + M 131 (65 + 3 * M 131 (90 + s))) := by
  unfold fX10_lossOf
  rw [if_pos (by decide)]
  have := jp_gds hA h
  obtain ⟨h1, h2, h3⟩ := jp_gof hA h
  obtain ⟨p, q, r⟩ := hA.2.2.2.2.2.2.2.1 _ h2 h3
  have h5 := hA.1.1
  simp (disch := omega) only [↓jp_bs, ↓jp_b2s, ↓reduceIte, jw_up_a, Nat.reduceEqDiff, Int.reduceEq, Int.reduceLT, Int.reduceLE, Int.reduceAdd, Int.reduceSub, Int.reduceMul, Int.reduceNeg, jp_n9_1, jp_n9_8, jp_n9_15, jp_n9_21, jp_n9_24, jp_n10_1, jp_n10_2, jp_n10_3, jp_n10_4, jp_n10_5, jp_n10_6, jp_n17_1, jp_n17_2, jp_n17_3, jp_n17_4, jp_n17_5, jp_n17_6, jp_n24_1, jp_n24_2, jp_n24_3, jp_n24_4, jp_n24_5, jp_n30_1, jp_n30_2, jp_n33_1, jp_n33_2, false_and, true_and, and_true, and_false, and_self, ne_eq, not_true_eq_false, not_false_eq_true, jw_ws, jw_vs, jw_cmp_lt, jw_cmp_gt, jw_cmp_eq, jp_t1, jp_t2, jp_t3, jp_t4, jp_t5, jp_t6, h1, q, r]
theorem bX10_lossOf {M : jw_M} (hA : jp_A M) (s : Int) (h : 0 ≤ s ∧ s < M 131 3) {be : Type} (kk : _ → Option be) : Option.bind (fX10_lossOf (9 + 8) s M) kk = kk ((M 131 (64 + 3 * M 131 (90 + s)) + M 131 (65 + 3 * M 131 (90 + s)))) := by rw [show fX10_lossOf (9 + 8) s M = some (M 131 (64 + 3 * M 131 (90 + s)) + M 131 (65 + 3 * M 131 (90 + s))) from gX10_lossOf hA s h]; rfl
theorem gX12_goodsOf0 {M : jw_M} (hA : jp_A M) (s : Int) (h : 0 ≤ s ∧ s < M 131 3) : fX12_goodsOf s 0 M = some (M 131 (63 + 3 * M 131 (90 + s))) := by
  unfold fX12_goodsOf
  have h1 := jp_gof hA h
  have h5 := hA.1.1
  simp (disch := omega) only [↓jp_bs, ↓jp_b2s, ↓reduceIte, jw_up_a, Nat.reduceEqDiff, Int.reduceEq, Int.reduceLT, Int.reduceLE, Int.reduceAdd, Int.reduceSub, Int.reduceMul, Int.reduceNeg, jp_n9_1, jp_n9_8, jp_n9_15, jp_n9_21, jp_n9_24, jp_n10_1, jp_n10_2, jp_n10_3, jp_n10_4, jp_n10_5, jp_n10_6, jp_n17_1, jp_n17_2, jp_n17_3, jp_n17_4, jp_n17_5, jp_n17_6, jp_n24_1, jp_n24_2, jp_n24_3, jp_n24_4, jp_n24_5, jp_n30_1, jp_n30_2, jp_n33_1, jp_n33_2, false_and, true_and, and_true, and_false, and_self, ne_eq, not_true_eq_false, not_false_eq_true, jw_ws, jw_vs, jw_cmp_lt, jw_cmp_gt, jw_cmp_eq, jp_t1, jp_t2, jp_t3, jp_t4, jp_t5, jp_t6, Int.add_zero]
theorem bX12_goodsOf0 {M : jw_M} (hA : jp_A M) (s : Int) (h : 0 ≤ s ∧ s < M 131 3) {be : Type} (kk : _ → Option be) : Option.bind (fX12_goodsOf s 0 M) kk = kk ((M 131 (63 + 3 * M 131 (90 + s)))) := by rw [show fX12_goodsOf s 0 M = some (M 131 (63 + 3 * M 131 (90 + s))) from gX12_goodsOf0 hA s h]; rfl
theorem gX12_goodsOf1 {M : jw_M} (hA : jp_A M) (s : Int) (h : 0 ≤ s ∧ s < M 131 3) : fX12_goodsOf s 1 M = some (M 131 (64 + 3 * M 131 (90 + s))) := by
  unfold fX12_goodsOf
  have h1 := jp_gof hA h
  have h5 := hA.1.1
  simp (disch := omega) only [↓jp_bs, ↓jp_b2s, ↓reduceIte, jw_up_a, Nat.reduceEqDiff, Int.reduceEq, Int.reduceLT, Int.reduceLE, Int.reduceAdd, Int.reduceSub, Int.reduceMul, Int.reduceNeg, jp_n9_1, jp_n9_8, jp_n9_15, jp_n9_21, jp_n9_24, jp_n10_1, jp_n10_2, jp_n10_3, jp_n10_4, jp_n10_5, jp_n10_6, jp_n17_1, jp_n17_2, jp_n17_3, jp_n17_4, jp_n17_5, jp_n17_6, jp_n24_1, jp_n24_2, jp_n24_3, jp_n24_4, jp_n24_5, jp_n30_1, jp_n30_2, jp_n33_1, jp_n33_2, false_and, true_and, and_true, and_false, and_self, ne_eq, not_true_eq_false, not_false_eq_true, jw_ws, jw_vs, jw_cmp_lt, jw_cmp_gt, jw_cmp_eq, jp_t1, jp_t2, jp_t3, jp_t4, jp_t5, jp_t6, show 63 + 3 * M 131 (90 + s) + 1 = 64 + 3 * M 131 (90 + s) by omega]
theorem bX12_goodsOf1 {M : jw_M} (hA : jp_A M) (s : Int) (h : 0 ≤ s ∧ s < M 131 3) {be : Type} (kk : _ → Option be) : Option.bind (fX12_goodsOf s 1 M) kk = kk ((M 131 (64 + 3 * M 131 (90 + s)))) := by rw [show fX12_goodsOf s 1 M = some (M 131 (64 + 3 * M 131 (90 + s))) from gX12_goodsOf1 hA s h]; rfl
theorem gX12_goodsOf2 {M : jw_M} (hA : jp_A M) (s : Int) (h : 0 ≤ s ∧ s < M 131 3) : fX12_goodsOf s 2 M = some (M 131 (65 + 3 * M 131 (90 + s))) := by
  unfold fX12_goodsOf
  have h1 := jp_gof hA h
  have h5 := hA.1.1
  simp (disch := omega) only [↓jp_bs, ↓jp_b2s, ↓reduceIte, jw_up_a, Nat.reduceEqDiff, Int.reduceEq, Int.reduceLT, Int.reduceLE, Int.reduceAdd, Int.reduceSub, Int.reduceMul, Int.reduceNeg, jp_n9_1, jp_n9_8, jp_n9_15, jp_n9_21, jp_n9_24, jp_n10_1, jp_n10_2, jp_n10_3, jp_n10_4, jp_n10_5, jp_n10_6, jp_n17_1, jp_n17_2, jp_n17_3, jp_n17_4, jp_n17_5, jp_n17_6, jp_n24_1, jp_n24_2, jp_n24_3, jp_n24_4, jp_n24_5, jp_n30_1, jp_n30_2, jp_n33_1, jp_n33_2, false_and, true_and, and_true, and_false, and_self, ne_eq, not_true_eq_false, not_false_eq_true, jw_ws, jw_vs, jw_cmp_lt, jw_cmp_gt, jw_cmp_eq, jp_t1, jp_t2, jp_t3, jp_t4, jp_t5, jp_t6, show 63 + 3 * M 131 (90 + s) + 2 = 65 + 3 * M 131 (90 + s) by omega]
theorem bX12_goodsOf2 {M : jw_M} (hA : jp_A M) (s : Int) (h : 0 ≤ s ∧ s < M 131 3) {be : Type} (kk : _ → Option be) : Option.bind (fX12_goodsOf s 2 M) kk = kk ((M 131 (65 + 3 * M 131 (90 + s)))) := by rw [show fX12_goodsOf s 2 M = some (M 131 (65 + 3 * M 131 (90 + s))) from gX12_goodsOf2 hA s h]; rfl
theorem gX12_lostOf {M : jw_M} (hA : jp_A M) (s : Int) (h : 0 ≤ s ∧ s < M 131 3) : fX12_lostOf s M = some (M 131 (64 + 3 * M 131 (90 + s)) + M 131 (65 + 3 * M 131 (90 + s))) := by
  unfold fX12_lostOf
  have := jp_gds hA h
  simp (disch := omega) only [↓jp_bs, ↓jp_b2s, ↓reduceIte, jw_up_a, Nat.reduceEqDiff, Int.reduceEq, Int.reduceLT, Int.reduceLE, Int.reduceAdd, Int.reduceSub, Int.reduceMul, Int.reduceNeg, jp_n9_1, jp_n9_8, jp_n9_15, jp_n9_21, jp_n9_24, jp_n10_1, jp_n10_2, jp_n10_3, jp_n10_4, jp_n10_5, jp_n10_6, jp_n17_1, jp_n17_2, jp_n17_3, jp_n17_4, jp_n17_5, jp_n17_6, jp_n24_1, jp_n24_2, jp_n24_3, jp_n24_4, jp_n24_5, jp_n30_1, jp_n30_2, jp_n33_1, jp_n33_2, false_and, true_and, and_true, and_false, and_self, ne_eq, not_true_eq_false, not_false_eq_true, jw_ws, jw_vs, jw_cmp_lt, jw_cmp_gt, jw_cmp_eq, jp_t1, jp_t2, jp_t3, jp_t4, jp_t5, jp_t6, ↓bX12_goodsOf1 hA, ↓bX12_goodsOf2 hA]
theorem bX12_lostOf {M : jw_M} (hA : jp_A M) (s : Int) (h : 0 ≤ s ∧ s < M 131 3) {be : Type} (kk : _ → Option be) : Option.bind (fX12_lostOf s M) kk = kk ((M 131 (64 + 3 * M 131 (90 + s)) + M 131 (65 + 3 * M 131 (90 + s)))) := by rw [show fX12_lostOf s M = some (M 131 (64 + 3 * M 131 (90 + s)) + M 131 (65 + 3 * M 131 (90 + s))) from gX12_lostOf hA s h]; rfl
theorem gX7_minutesGone {M : jw_M} (hA : jp_A M) (s : Int) (h : 0 ≤ s ∧ s < M 131 3) : fX7_minutesGone 9 s M = some (M 131 (63 + 3 * M 131 (90 + s)) + M 131 88) := by
  unfold fX7_minutesGone
  rw [if_pos (by decide)]
  have h2 := jp_gds hA h
  have h3 := jp_A_r hA
  simp (disch := omega) only [↓jp_bs, ↓jp_b2s, ↓reduceIte, jw_up_a, Nat.reduceEqDiff, Int.reduceEq, Int.reduceLT, Int.reduceLE, Int.reduceAdd, Int.reduceSub, Int.reduceMul, Int.reduceNeg, jp_n9_1, jp_n9_8, jp_n9_15, jp_n9_21, jp_n9_24, jp_n10_1, jp_n10_2, jp_n10_3, jp_n10_4, jp_n10_5, jp_n10_6, jp_n17_1, jp_n17_2, jp_n17_3, jp_n17_4, jp_n17_5, jp_n17_6, jp_n24_1, jp_n24_2, jp_n24_3, jp_n24_4, jp_n24_5, jp_n30_1, jp_n30_2, jp_n33_1, jp_n33_2, false_and, true_and, and_true, and_false, and_self, ne_eq, not_true_eq_false, not_false_eq_true, jw_ws, jw_vs, jw_cmp_lt, jw_cmp_gt, jw_cmp_eq, jp_t1, jp_t2, jp_t3, jp_t4, jp_t5, jp_t6, ↓bX10_foldOf hA, hA.2.1.2.2.2.1]
theorem bX7_minutesGone {M : jw_M} (hA : jp_A M) (s : Int) (h : 0 ≤ s ∧ s < M 131 3) {be : Type} (kk : _ → Option be) : Option.bind (fX7_minutesGone 9 s M) kk = kk ((M 131 (63 + 3 * M 131 (90 + s)) + M 131 88)) := by rw [show fX7_minutesGone 9 s M = some (M 131 (63 + 3 * M 131 (90 + s)) + M 131 88) from gX7_minutesGone hA s h]; rfl
