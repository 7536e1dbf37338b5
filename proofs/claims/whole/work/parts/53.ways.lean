/-! ways over and over -/
def jp_wok (w : Int → Int → Int) : Prop := ∀ a b : Int, 0 ≤ a → a < 7 → 0 ≤ b → b < 7 → 0 ≤ w a b ∧ w a b ≤ 1000000 ∧ w a a = 0
theorem jp_fw_b {w : Int → Int → Int} (h : jp_wok w) : ∀ k : Nat, k ≤ 7 → jp_wok (jp_fw w k) := by
  intro k
  induction k with
  | zero => intro _; exact h
  | succ k ih =>
    intro hk a b a1 a2 b1 b2
    have h1 := ih (by omega) a b a1 a2 b1 b2
    have h2 := ih (by omega) a k a1 a2 (by omega) (by omega)
    have h3 := ih (by omega) k b (by omega) (by omega) b1 b2
    have h4 := ih (by omega) k a (by omega) (by omega) a1 a2
    rw [jp_fw, jp_fw]
    refine ⟨?_, ?_, ?_⟩
    · split <;> omega
    · split <;> omega
    · split <;> omega
theorem jp_fw_row {w : Int → Int → Int} (h : jp_wok w) {k : Nat} (hk : k < 7) {a : Int} (h1 : 0 ≤ a) (h2 : a < 7) : jp_fw w (k + 1) a k = jp_fw w k a k ∧ jp_fw w (k + 1) k a = jp_fw w k k a := by
  have q1 := jp_fw_b h k (by omega) a k h1 h2 (by omega) (by omega)
  have q2 := jp_fw_b h k (by omega) k a (by omega) (by omega) h1 h2
  rw [jp_fw, jp_fw]
  exact ⟨if_neg (by omega), if_neg (by omega)⟩
theorem jp_fw_c {w w' : Int → Int → Int} (h : ∀ a b : Int, 0 ≤ a → a < 7 → 0 ≤ b → b < 7 → w a b = w' a b) : ∀ k : Nat, k ≤ 7 → ∀ a b : Int, 0 ≤ a → a < 7 → 0 ≤ b → b < 7 → jp_fw w k a b = jp_fw w' k a b := by
  intro k
  induction k with
  | zero => intro _; exact h
  | succ k ih =>
    intro hk a b a1 a2 b1 b2
    rw [jp_fw, jp_fw, ih (by omega) a b a1 a2 b1 b2, ih (by omega) a k a1 a2 (by omega) (by omega), ih (by omega) k b (by omega) (by omega) b1 b2]
theorem jp_fw_far {w : Int → Int → Int} (h : jp_wok w) {n : Int} (hn : 0 ≤ n) (hz : ∀ a b : Int, 0 ≤ a → a < n → n ≤ b → b < 7 → w a b = 1000000) : ∀ k : Nat, k ≤ 7 → ∀ a b : Int, 0 ≤ a → a < n → n ≤ b → b < 7 → jp_fw w k a b = 1000000 := by
  intro k
  induction k with
  | zero => intro _; exact hz
  | succ k ih =>
    intro hk a b a1 a2 b1 b2
    have q1 := jp_fw_b h k (by omega) a k a1 (by omega) (by omega) (by omega)
    have q2 := jp_fw_b h k (by omega) k b (by omega) (by omega) (by omega) b2
    rw [jp_fw, ih (by omega) a b a1 a2 b1 b2]
    by_cases hkn : (k : Int) < n
    · have := ih (by omega) k b (by omega) hkn b1 b2
      rw [if_neg (by omega)]
    · have := ih (by omega) a k a1 a2 (by omega) (by omega)
      rw [if_neg (by omega)]
theorem jp_fw_n {w : Int → Int → Int} (h : jp_wok w) {n : Nat} (hz : ∀ a b : Int, 0 ≤ a → a < n → n ≤ b → b < 7 → w a b = 1000000) : ∀ k : Nat, n ≤ k → k ≤ 7 → ∀ a b : Int, 0 ≤ a → a < n → 0 ≤ b → b < n → jp_fw w k a b = jp_fw w n a b := by
  intro k
  induction k with
  | zero => intro h1 _ a b a1 a2 b1 b2; rw [show n = 0 by omega]
  | succ k ih =>
    intro h1 hk a b a1 a2 b1 b2
    by_cases e : n = k + 1
    · rw [e]
    · have q := jp_fw_far h (by omega : (0 : Int) ≤ n) hz k (by omega) a k a1 a2 (by omega) (by omega)
      have q1 := jp_fw_b h k (by omega) a b a1 (by omega) b1 (by omega)
      have q2 := jp_fw_b h k (by omega) k b (by omega) (by omega) b1 (by omega)
      rw [jp_fw, if_neg (by omega)]
      exact ih (by omega) (by omega) a b a1 a2 b1 b2
theorem jp_fw_sym {w : Int → Int → Int} (h : ∀ a b : Int, 0 ≤ a → a < 7 → 0 ≤ b → b < 7 → w a b = w b a) : ∀ k : Nat, k ≤ 7 → ∀ a b : Int, 0 ≤ a → a < 7 → 0 ≤ b → b < 7 → jp_fw w k a b = jp_fw w k b a := by
  intro k
  induction k with
  | zero => intro _; exact h
  | succ k ih =>
    intro hk a b a1 a2 b1 b2
    rw [jp_fw, jp_fw, ih (by omega) a b a1 a2 b1 b2, ih (by omega) a k a1 a2 (by omega) (by omega), ih (by omega) k b (by omega) (by omega) b1 b2, Int.add_comm]
theorem jp_fw_lim {w : Int → Int → Int} (hw : jp_wok w) (h : ∀ a b : Int, 0 ≤ a → a < 7 → 0 ≤ b → b < 7 → w a b = 1000000 ∨ w a b ≤ 20) : ∀ k : Nat, k ≤ 7 → ∀ a b : Int, 0 ≤ a → a < 7 → 0 ≤ b → b < 7 → jp_fw w k a b = 1000000 ∨ jp_fw w k a b ≤ 20 * 2 ^ k := by
  intro k
  induction k with
  | zero => intro _ a b a1 a2 b1 b2; have := h a b a1 a2 b1 b2; simpa [jp_fw] using this
  | succ k ih =>
    intro hk a b a1 a2 b1 b2
    have h1 := ih (by omega) a b a1 a2 b1 b2
    have h2 := ih (by omega) a k a1 a2 (by omega) (by omega)
    have h3 := ih (by omega) k b (by omega) (by omega) b1 b2
    have q1 := jp_fw_b hw k (by omega) a b a1 a2 b1 b2
    have q2 := jp_fw_b hw k (by omega) a k a1 a2 (by omega) (by omega)
    have q3 := jp_fw_b hw k (by omega) k b (by omega) (by omega) b1 b2
    have e : (2 : Int) ^ (k + 1) = 2 * 2 ^ k := by rw [Int.pow_succ]; omega
    have e0 : (0 : Int) < 2 ^ k := Int.pow_pos (by decide)
    rw [jp_fw, e]
    split <;> omega
theorem jp_w0_ok {T : Int → Int} (hT : jp_T T) : jp_wok (jp_w0 T) := by
  intro a b a1 a2 b1 b2
  have h := hT.2.2.2.1 a b a1 a2 b1 b2
  unfold jp_w0
  refine ⟨?_, ?_, if_pos rfl⟩
  · split
    · omega
    · split <;> omega
  · split
    · omega
    · split <;> omega
theorem jp_hq {x p : Int} (hx : 0 ≤ x ∧ x ≤ 20) (hp : 1 ≤ p ∧ p ≤ 9) : 0 ≤ (x + p - 1).tdiv p ∧ (x + p - 1).tdiv p ≤ 28 := by
  rw [Int.tdiv_eq_ediv_of_nonneg (by omega)]
  have h1 := Int.ediv_nonneg (a := x + p - 1) (b := p) (by omega) (by omega)
  have h2 : (x + p - 1) / p ≤ x + p - 1 := Int.ediv_le_self p (by omega)
  omega
theorem jp_h0_ok {T : Int → Int} (hT : jp_T T) (h89 : 1 ≤ T 89) : jp_wok (jp_h0 T) := by
  intro a b a1 a2 b1 b2
  have h := hT.2.2.2.1 a b a1 a2 b1 b2
  have h2 := hT.2.1.2.2.1
  have q := jp_hq (x := T (14 + 7 * a + b)) ⟨h.1, h.2.1⟩ ⟨h89, h2.2⟩
  unfold jp_h0
  refine ⟨?_, ?_, if_pos rfl⟩
  · split
    · omega
    · split <;> omega
  · split
    · omega
    · split <;> omega
theorem jp_w0_far {T : Int → Int} (hT : jp_T T) : ∀ a b : Int, 0 ≤ a → a < T 0 → T 0 ≤ b → b < 7 → jp_w0 T a b = 1000000 ∧ jp_h0 T a b = 1000000 := by
  intro a b a1 a2 b1 b2
  have h := (hT.2.2.2.1 a b a1 (by omega) (by omega) b2).2.2.2 (Or.inr (Or.inr b1))
  unfold jp_w0 jp_h0
  exact ⟨by rw [if_neg (by omega), if_pos h], by rw [if_neg (by omega), if_pos h]⟩
theorem jp_w0_sym {T : Int → Int} (hT : jp_T T) : ∀ a b : Int, 0 ≤ a → a < 7 → 0 ≤ b → b < 7 → jp_w0 T a b = jp_w0 T b a ∧ jp_h0 T a b = jp_h0 T b a := by
  intro a b a1 a2 b1 b2
  have h := (hT.2.2.2.1 a b a1 a2 b1 b2).2.2.1
  unfold jp_w0 jp_h0
  rw [h]
  by_cases e : a = b
  · rw [if_pos e, if_pos e.symm, if_pos e, if_pos e.symm]; exact ⟨rfl, rfl⟩
  · have e2 : ¬ b = a := fun z => e z.symm
    simp only [if_neg e, if_neg e2]
    exact ⟨trivial, trivial⟩
theorem jp_wk_r {T : Int → Int} (hT : jp_T T) {a b : Int} (a1 : 0 ≤ a) (a2 : a < 7) (b1 : 0 ≤ b) (b2 : b < 7) : 0 ≤ jp_wk T a b ∧ (jp_wk T a b = 1000000 ∨ jp_wk T a b ≤ 2560) ∧ jp_wk T a b = jp_wk T b a := by
  have h1 := jp_fw_b (jp_w0_ok hT) 7 (by omega) a b a1 a2 b1 b2
  have h2 := jp_fw_lim (jp_w0_ok hT) (fun a b a1 a2 b1 b2 => by
    have h := hT.2.2.2.1 a b a1 a2 b1 b2
    unfold jp_w0
    split
    · omega
    · split <;> omega) 7 (by omega) a b a1 a2 b1 b2
  have h3 := jp_fw_sym (fun a b a1 a2 b1 b2 => (jp_w0_sym hT a b a1 a2 b1 b2).1) 7 (by omega) a b a1 a2 b1 b2
  unfold jp_wk
  refine ⟨h1.1, ?_, h3⟩
  have e : (2 : Int) ^ 7 = 128 := by decide
  rw [e] at h2
  omega
theorem jp_hk_r {T : Int → Int} (hT : jp_T T) {a b : Int} (h0 : 1 ≤ T 0) (a1 : 0 ≤ a) (a2 : a < 7) (b1 : 0 ≤ b) (b2 : b < 7) : 0 ≤ jp_hk T a b ∧ jp_hk T a b ≤ 1000000 := by
  have h1 := jp_fw_b (jp_h0_ok hT (hT.2.1.2.2.2 h0)) 7 (by omega) a b a1 a2 b1 b2
  exact ⟨h1.1, h1.2.1⟩
theorem jp_div7 {a b : Int} (h : 0 ≤ b ∧ b < 7) (ha : 0 ≤ a) : (7 * a + b) / 7 = a ∧ (7 * a + b) % 7 = b := by omega
/-- the ways are laid: the model -/
theorem gX12_layWays2 {M : jw_M} (hT : jp_T (M 131)) (h89 : 1 ≤ M 131 89) (R : Option jw_M → Prop) (hR : ∀ N : jw_M, (∀ a b : Int, 0 ≤ a → a < 7 → 0 ≤ b → b < 7 → N 135 (7 * a + b) = jp_w0 (M 131) a b ∧ N 136 (7 * a + b) = jp_h0 (M 131) a b) → (∀ k : Nat, k ≠ 135 → k ≠ 136 → N k = M k) → R (fX12_layWays_106 jw_fu 0 N)) : R (fX12_layWays M) := by
  unfold fX12_layWays
  rw [jp_bs]
  have hr := hT.2.1.2.2.1
  refine jp_up (fun k i N => fX12_layWays_2 k i N) 49 (fun i N => 0 ≤ i ∧ (∀ a b : Int, 0 ≤ a → a < 7 → 0 ≤ b → b < 7 → 7 * a + b < i → N 135 (7 * a + b) = jp_w0 (M 131) a b ∧ N 136 (7 * a + b) = jp_h0 (M 131) a b) ∧ (∀ k : Nat, k ≠ 135 → k ≠ 136 → N k = M k)) R ?_ ?_ jw_fu 0 _ (by unfold jw_fu; omega) (by omega) ⟨by omega, fun a b p q r s t => by omega, fun k _ _ => rfl⟩
  · intro k i N hp hi ih
    obtain ⟨p0, p1, p2⟩ := hp
    have e131 := p2 131 (by decide) (by decide)
    have t1 : Int.tdiv i 7 = i / 7 := Int.tdiv_eq_ediv_of_nonneg p0
    have t2 : Int.tmod i 7 = i % 7 := Int.tmod_eq_emod_of_nonneg p0
    have t3 : 14 + 7 * (i / 7) + i % 7 = 14 + i := by omega
    have hs := hT.2.2.2.1 (i / 7) (i % 7) (by omega) (by omega) (by omega) (by omega)
    rw [t3] at hs
    have hq := jp_hq (x := M 131 (14 + i)) ⟨hs.1, hs.2.1⟩ ⟨h89, hr.2⟩
    have step : ∀ x y : Int, x = jp_w0 (M 131) (i / 7) (i % 7) → y = jp_h0 (M 131) (i / 7) (i % 7) → R (fX12_layWays_2 k (i + 1) (jw_up (jw_up N 135 i x) 136 i y)) := by
      intro x y hx hy
      refine ih _ ⟨by omega, fun a b a1 a2 b1 b2 hl => ?_, fun k c d => ?_⟩
      · by_cases e : 7 * a + b = i
        · have e2 := jp_div7 ⟨b1, b2⟩ a1
          rw [e] at e2
          rw [e2.1, e2.2] at hx hy
          simp (disch := omega) only [↓jp_bs, ↓jp_b2s, ↓reduceIte, jw_up_a, Nat.reduceEqDiff, Int.reduceEq, Int.reduceLT, Int.reduceLE, Int.reduceAdd, Int.reduceSub, Int.reduceMul, Int.reduceNeg, jp_n9_1, jp_n9_8, jp_n9_15, jp_n9_21, jp_n9_24, jp_n10_1, jp_n10_2, jp_n10_3, jp_n10_4, jp_n10_5, jp_n10_6, jp_n17_1, jp_n17_2, jp_n17_3, jp_n17_4, jp_n17_5, jp_n17_6, jp_n24_1, jp_n24_2, jp_n24_3, jp_n24_4, jp_n24_5, jp_n30_1, jp_n30_2, jp_n33_1, jp_n33_2, false_and, true_and, and_true, and_false, and_self, ne_eq, not_true_eq_false, not_false_eq_true, jw_ws, jw_vs, jw_cmp_lt, jw_cmp_gt, jw_cmp_eq, jp_t1, jp_t2, jp_t3, jp_t4, jp_t5, jp_t6] <;> exact ⟨hx, hy⟩
        · have := p1 a b a1 a2 b1 b2 (by omega)
          simp (disch := omega) only [↓jp_bs, ↓jp_b2s, ↓reduceIte, jw_up_a, Nat.reduceEqDiff, Int.reduceEq, Int.reduceLT, Int.reduceLE, Int.reduceAdd, Int.reduceSub, Int.reduceMul, Int.reduceNeg, jp_n9_1, jp_n9_8, jp_n9_15, jp_n9_21, jp_n9_24, jp_n10_1, jp_n10_2, jp_n10_3, jp_n10_4, jp_n10_5, jp_n10_6, jp_n17_1, jp_n17_2, jp_n17_3, jp_n17_4, jp_n17_5, jp_n17_6, jp_n24_1, jp_n24_2, jp_n24_3, jp_n24_4, jp_n24_5, jp_n30_1, jp_n30_2, jp_n33_1, jp_n33_2, false_and, true_and, and_true, and_false, and_self, ne_eq, not_true_eq_false, not_false_eq_true, jw_ws, jw_vs, jw_cmp_lt, jw_cmp_gt, jw_cmp_eq, jp_t1, jp_t2, jp_t3, jp_t4, jp_t5, jp_t6] <;> exact this
      · rw [jw_up_ne _ d, jw_up_ne _ c, p2 k c d]
    show R (fX12_layWays_2 _ _ _)
    rw [fX12_layWays_2]
    unfold fX12_layWays_48 fX12_layWays_97
    unfold jp_w0 jp_h0 at step
    rw [t3] at step
    by_cases h1 : i / 7 = i % 7
    · rw [if_pos h1, if_pos h1] at step
      simp (disch := omega) only [↓jp_bs, ↓jp_b2s, ↓reduceIte, jw_up_a, Nat.reduceEqDiff, Int.reduceEq, Int.reduceLT, Int.reduceLE, Int.reduceAdd, Int.reduceSub, Int.reduceMul, Int.reduceNeg, jp_n9_1, jp_n9_8, jp_n9_15, jp_n9_21, jp_n9_24, jp_n10_1, jp_n10_2, jp_n10_3, jp_n10_4, jp_n10_5, jp_n10_6, jp_n17_1, jp_n17_2, jp_n17_3, jp_n17_4, jp_n17_5, jp_n17_6, jp_n24_1, jp_n24_2, jp_n24_3, jp_n24_4, jp_n24_5, jp_n30_1, jp_n30_2, jp_n33_1, jp_n33_2, false_and, true_and, and_true, and_false, and_self, ne_eq, not_true_eq_false, not_false_eq_true, jw_ws, jw_vs, jw_cmp_lt, jw_cmp_gt, jw_cmp_eq, jp_t1, jp_t2, jp_t3, jp_t4, jp_t5, jp_t6, t1, t2]
      exact step _ _ rfl rfl
    · rw [if_neg h1, if_neg h1] at step
      by_cases h2 : M 131 (14 + i) = 0
      · rw [if_pos h2, if_pos h2] at step
        simp (disch := omega) only [↓jp_bs, ↓jp_b2s, ↓reduceIte, jw_up_a, Nat.reduceEqDiff, Int.reduceEq, Int.reduceLT, Int.reduceLE, Int.reduceAdd, Int.reduceSub, Int.reduceMul, Int.reduceNeg, jp_n9_1, jp_n9_8, jp_n9_15, jp_n9_21, jp_n9_24, jp_n10_1, jp_n10_2, jp_n10_3, jp_n10_4, jp_n10_5, jp_n10_6, jp_n17_1, jp_n17_2, jp_n17_3, jp_n17_4, jp_n17_5, jp_n17_6, jp_n24_1, jp_n24_2, jp_n24_3, jp_n24_4, jp_n24_5, jp_n30_1, jp_n30_2, jp_n33_1, jp_n33_2, false_and, true_and, and_true, and_false, and_self, ne_eq, not_true_eq_false, not_false_eq_true, jw_ws, jw_vs, jw_cmp_lt, jw_cmp_gt, jw_cmp_eq, jp_t1, jp_t2, jp_t3, jp_t4, jp_t5, jp_t6, t1, t2, e131]
        exact step _ _ rfl rfl
      · rw [if_neg h2, if_neg h2] at step
        simp (disch := omega) only [↓jp_bs, ↓jp_b2s, ↓reduceIte, jw_up_a, Nat.reduceEqDiff, Int.reduceEq, Int.reduceLT, Int.reduceLE, Int.reduceAdd, Int.reduceSub, Int.reduceMul, Int.reduceNeg, jp_n9_1, jp_n9_8, jp_n9_15, jp_n9_21, jp_n9_24, jp_n10_1, jp_n10_2, jp_n10_3, jp_n10_4, jp_n10_5, jp_n10_6, jp_n17_1, jp_n17_2, jp_n17_3, jp_n17_4, jp_n17_5, jp_n17_6, jp_n24_1, jp_n24_2, jp_n24_3, jp_n24_4, jp_n24_5, jp_n30_1, jp_n30_2, jp_n33_1, jp_n33_2, false_and, true_and, and_true, and_false, and_self, ne_eq, not_true_eq_false, not_false_eq_true, jw_ws, jw_vs, jw_cmp_lt, jw_cmp_gt, jw_cmp_eq, jp_t1, jp_t2, jp_t3, jp_t4, jp_t5, jp_t6, t1, t2, e131]
        exact step _ _ rfl rfl
  · intro k N hp
    obtain ⟨p0, p1, p2⟩ := hp
    show R (fX12_layWays_2 _ _ _)
    rw [fX12_layWays_2]
    simp (disch := omega) only [↓jp_bs, ↓jp_b2s, ↓reduceIte, jw_up_a, Nat.reduceEqDiff, Int.reduceEq, Int.reduceLT, Int.reduceLE, Int.reduceAdd, Int.reduceSub, Int.reduceMul, Int.reduceNeg, jp_n9_1, jp_n9_8, jp_n9_15, jp_n9_21, jp_n9_24, jp_n10_1, jp_n10_2, jp_n10_3, jp_n10_4, jp_n10_5, jp_n10_6, jp_n17_1, jp_n17_2, jp_n17_3, jp_n17_4, jp_n17_5, jp_n17_6, jp_n24_1, jp_n24_2, jp_n24_3, jp_n24_4, jp_n24_5, jp_n30_1, jp_n30_2, jp_n33_1, jp_n33_2, false_and, true_and, and_true, and_false, and_self, ne_eq, not_true_eq_false, not_false_eq_true, jw_ws, jw_vs, jw_cmp_lt, jw_cmp_gt, jw_cmp_eq, jp_t1, jp_t2, jp_t3, jp_t4, jp_t5, jp_t6]
    exact hR N (fun a b a1 a2 b1 b2 => p1 a b a1 a2 b1 b2 (by omega)) p2
theorem gX12_layWays {M : jw_M} (hT : jp_T (M 131)) (h89 : 1 ≤ M 131 89) : ∃ N : jw_M, fX12_layWays M = some N ∧ (∀ a b : Int, 0 ≤ a → a < 7 → 0 ≤ b → b < 7 → N 135 (7 * a + b) = jp_wk (M 131) a b ∧ N 136 (7 * a + b) = jp_hk (M 131) a b) ∧ (∀ k : Nat, k ≠ 135 → k ≠ 136 → N k = M k) := by
  refine gX12_layWays2 hT h89 (fun x => ∃ N : jw_M, x = some N ∧ (∀ a b : Int, 0 ≤ a → a < 7 → 0 ≤ b → b < 7 → N 135 (7 * a + b) = jp_wk (M 131) a b ∧ N 136 (7 * a + b) = jp_hk (M 131) a b) ∧ (∀ k : Nat, k ≠ 135 → k ≠ 136 → N k = M k)) (fun N0 n1 n2 => ?_)
  have hw := jp_w0_ok hT
  have hh := jp_h0_ok hT h89
  generalize hw0 : jp_w0 (M 131) = w0 at *
  generalize hh0 : jp_h0 (M 131) = h0 at *
  refine jp_up (fun k i N => fX12_layWays_106 k i N) 7 (fun i N => 0 ≤ i ∧ (∀ a b : Int, 0 ≤ a → a < 7 → 0 ≤ b → b < 7 → N 135 (7 * a + b) = jp_fw w0 i.toNat a b ∧ N 136 (7 * a + b) = jp_fw h0 i.toNat a b) ∧ (∀ k : Nat, k ≠ 135 → k ≠ 136 → N k = M k)) (fun x => ∃ N : jw_M, x = some N ∧ (∀ a b : Int, 0 ≤ a → a < 7 → 0 ≤ b → b < 7 → N 135 (7 * a + b) = jp_wk (M 131) a b ∧ N 136 (7 * a + b) = jp_hk (M 131) a b) ∧ (∀ k : Nat, k ≠ 135 → k ≠ 136 → N k = M k)) ?_ ?_ jw_fu 0 _ (by unfold jw_fu; omega) (by omega) ⟨by omega, n1, n2⟩
  · intro k i N hp hi ih
    obtain ⟨p0, p1, p2⟩ := hp
    show ∃ N : jw_M, fX12_layWays_106 (k + 1) i _ = _ ∧ _
    rw [fX12_layWays_106]
    simp (disch := omega) only [↓jp_bs, ↓jp_b2s, ↓reduceIte, jw_up_a, Nat.reduceEqDiff, Int.reduceEq, Int.reduceLT, Int.reduceLE, Int.reduceAdd, Int.reduceSub, Int.reduceMul, Int.reduceNeg, jp_n9_1, jp_n9_8, jp_n9_15, jp_n9_21, jp_n9_24, jp_n10_1, jp_n10_2, jp_n10_3, jp_n10_4, jp_n10_5, jp_n10_6, jp_n17_1, jp_n17_2, jp_n17_3, jp_n17_4, jp_n17_5, jp_n17_6, jp_n24_1, jp_n24_2, jp_n24_3, jp_n24_4, jp_n24_5, jp_n30_1, jp_n30_2, jp_n33_1, jp_n33_2, false_and, true_and, and_true, and_false, and_self, ne_eq, not_true_eq_false, not_false_eq_true, jw_ws, jw_vs, jw_cmp_lt, jw_cmp_gt, jw_cmp_eq, jp_t1, jp_t2, jp_t3, jp_t4, jp_t5, jp_t6]
    have ei : ((i.toNat : Nat) : Int) = i := by omega
    refine jp_up (fun k2 x N => fX12_layWays_114 (fX12_layWays_106 k) k2 i x N) 49 (fun x N => 0 ≤ x ∧ (∀ a b : Int, 0 ≤ a → a < 7 → 0 ≤ b → b < 7 → N 135 (7 * a + b) = (if 7 * a + b < x then jp_fw w0 (i.toNat + 1) a b else jp_fw w0 i.toNat a b) ∧ N 136 (7 * a + b) = (if 7 * a + b < x then jp_fw h0 (i.toNat + 1) a b else jp_fw h0 i.toNat a b)) ∧ (∀ k : Nat, k ≠ 135 → k ≠ 136 → N k = M k)) (fun x => ∃ N : jw_M, x = some N ∧ (∀ a b : Int, 0 ≤ a → a < 7 → 0 ≤ b → b < 7 → N 135 (7 * a + b) = jp_wk (M 131) a b ∧ N 136 (7 * a + b) = jp_hk (M 131) a b) ∧ (∀ k : Nat, k ≠ 135 → k ≠ 136 → N k = M k)) ?_ ?_ jw_fu 0 _ (by unfold jw_fu; omega) (by omega) ⟨by omega, fun a b a1 a2 b1 b2 => by rw [if_neg (by omega), if_neg (by omega)]; exact p1 a b a1 a2 b1 b2, p2⟩
    · intro k2 x N hp hx ih2
      obtain ⟨q0, q1, q2⟩ := hp
      have t1 : Int.tdiv x 7 = x / 7 := Int.tdiv_eq_ediv_of_nonneg q0
      have t2 : Int.tmod x 7 = x % 7 := Int.tmod_eq_emod_of_nonneg q0
      have ax : 7 * (x / 7) + x % 7 = x := by omega
      have c1 := q1 (x / 7) i (by omega) (by omega) (by omega) (by omega)
      have c2 := q1 i (x % 7) (by omega) (by omega) (by omega) (by omega)
      have c3 := q1 (x / 7) (x % 7) (by omega) (by omega) (by omega) (by omega)
      rw [ax, if_neg (by omega), if_neg (by omega)] at c3
      have r1 := jp_fw_row hw (k := i.toNat) (by omega) (a := x / 7) (by omega) (by omega)
      have r2 := jp_fw_row hw (k := i.toNat) (by omega) (a := x % 7) (by omega) (by omega)
      have r3 := jp_fw_row hh (k := i.toNat) (by omega) (a := x / 7) (by omega) (by omega)
      have r4 := jp_fw_row hh (k := i.toNat) (by omega) (a := x % 7) (by omega) (by omega)
      rw [ei] at r1 r2 r3 r4
      rw [r1.1, r3.1, ite_self, ite_self] at c1
      rw [r2.2, r4.2, ite_self, ite_self] at c2
      have b1 := jp_fw_b hw i.toNat (by omega) (x / 7) i (by omega) (by omega) (by omega) (by omega)
      have b2 := jp_fw_b hw i.toNat (by omega) i (x % 7) (by omega) (by omega) (by omega) (by omega)
      have b3 := jp_fw_b hh i.toNat (by omega) (x / 7) i (by omega) (by omega) (by omega) (by omega)
      have b4 := jp_fw_b hh i.toNat (by omega) i (x % 7) (by omega) (by omega) (by omega) (by omega)
      have s1 : jp_fw w0 (i.toNat + 1) (x / 7) (x % 7) = if jp_fw w0 i.toNat (x / 7) i + jp_fw w0 i.toNat i (x % 7) < jp_fw w0 i.toNat (x / 7) (x % 7) then jp_fw w0 i.toNat (x / 7) i + jp_fw w0 i.toNat i (x % 7) else jp_fw w0 i.toNat (x / 7) (x % 7) := by rw [jp_fw, ei]
      have s2 : jp_fw h0 (i.toNat + 1) (x / 7) (x % 7) = if jp_fw h0 i.toNat (x / 7) i + jp_fw h0 i.toNat i (x % 7) < jp_fw h0 i.toNat (x / 7) (x % 7) then jp_fw h0 i.toNat (x / 7) i + jp_fw h0 i.toNat i (x % 7) else jp_fw h0 i.toNat (x / 7) (x % 7) := by rw [jp_fw, ei]
      have step : ∀ u v : Int, u = jp_fw w0 (i.toNat + 1) (x / 7) (x % 7) → v = jp_fw h0 (i.toNat + 1) (x / 7) (x % 7) → ∃ N' : jw_M, fX12_layWays_114 (fX12_layWays_106 k) k2 i (x + 1) (jw_up (jw_up N 135 x u) 136 x v) = some N' ∧ (∀ a b : Int, 0 ≤ a → a < 7 → 0 ≤ b → b < 7 → N' 135 (7 * a + b) = jp_wk (M 131) a b ∧ N' 136 (7 * a + b) = jp_hk (M 131) a b) ∧ (∀ k : Nat, k ≠ 135 → k ≠ 136 → N' k = M k) := by
        intro u v hu hv
        refine ih2 _ ⟨by omega, fun a b a1 a2 b1 b2 => ?_, fun k c d => ?_⟩
        · by_cases e : 7 * a + b = x
          · have e2 := jp_div7 ⟨b1, b2⟩ a1
            rw [e] at e2
            rw [e2.1, e2.2] at hu hv
            rw [if_pos (by omega), if_pos (by omega)]
            simp (disch := omega) only [↓jp_bs, ↓jp_b2s, ↓reduceIte, jw_up_a, Nat.reduceEqDiff, Int.reduceEq, Int.reduceLT, Int.reduceLE, Int.reduceAdd, Int.reduceSub, Int.reduceMul, Int.reduceNeg, jp_n9_1, jp_n9_8, jp_n9_15, jp_n9_21, jp_n9_24, jp_n10_1, jp_n10_2, jp_n10_3, jp_n10_4, jp_n10_5, jp_n10_6, jp_n17_1, jp_n17_2, jp_n17_3, jp_n17_4, jp_n17_5, jp_n17_6, jp_n24_1, jp_n24_2, jp_n24_3, jp_n24_4, jp_n24_5, jp_n30_1, jp_n30_2, jp_n33_1, jp_n33_2, false_and, true_and, and_true, and_false, and_self, ne_eq, not_true_eq_false, not_false_eq_true, jw_ws, jw_vs, jw_cmp_lt, jw_cmp_gt, jw_cmp_eq, jp_t1, jp_t2, jp_t3, jp_t4, jp_t5, jp_t6] <;> exact ⟨hu, hv⟩
          · have := q1 a b a1 a2 b1 b2
            rw [jp_ifc (show 7 * a + b < x + 1 ↔ 7 * a + b < x by omega), jp_ifc (show 7 * a + b < x + 1 ↔ 7 * a + b < x by omega), ← this.1, ← this.2]
            simp (disch := omega) only [↓jp_bs, ↓jp_b2s, ↓reduceIte, jw_up_a, Nat.reduceEqDiff, Int.reduceEq, Int.reduceLT, Int.reduceLE, Int.reduceAdd, Int.reduceSub, Int.reduceMul, Int.reduceNeg, jp_n9_1, jp_n9_8, jp_n9_15, jp_n9_21, jp_n9_24, jp_n10_1, jp_n10_2, jp_n10_3, jp_n10_4, jp_n10_5, jp_n10_6, jp_n17_1, jp_n17_2, jp_n17_3, jp_n17_4, jp_n17_5, jp_n17_6, jp_n24_1, jp_n24_2, jp_n24_3, jp_n24_4, jp_n24_5, jp_n30_1, jp_n30_2, jp_n33_1, jp_n33_2, false_and, true_and, and_true, and_false, and_self, ne_eq, not_true_eq_false, not_false_eq_true, jw_ws, jw_vs, jw_cmp_lt, jw_cmp_gt, jw_cmp_eq, jp_t1, jp_t2, jp_t3, jp_t4, jp_t5, jp_t6]
        · rw [jw_up_ne _ d, jw_up_ne _ c, q2 k c d]
      rw [s1, s2] at step
      show ∃ N : jw_M, fX12_layWays_114 _ (k2 + 1) i x _ = _ ∧ _
      rw [fX12_layWays_114]
      unfold fX12_layWays_192 fX12_layWays_244
      by_cases h1 : jp_fw w0 i.toNat (x / 7) i + jp_fw w0 i.toNat i (x % 7) < jp_fw w0 i.toNat (x / 7) (x % 7)
      · by_cases h2 : jp_fw h0 i.toNat (x / 7) i + jp_fw h0 i.toNat i (x % 7) < jp_fw h0 i.toNat (x / 7) (x % 7)
        · simp (disch := omega) only [↓jp_bs, ↓jp_b2s, ↓reduceIte, jw_up_a, Nat.reduceEqDiff, Int.reduceEq, Int.reduceLT, Int.reduceLE, Int.reduceAdd, Int.reduceSub, Int.reduceMul, Int.reduceNeg, jp_n9_1, jp_n9_8, jp_n9_15, jp_n9_21, jp_n9_24, jp_n10_1, jp_n10_2, jp_n10_3, jp_n10_4, jp_n10_5, jp_n10_6, jp_n17_1, jp_n17_2, jp_n17_3, jp_n17_4, jp_n17_5, jp_n17_6, jp_n24_1, jp_n24_2, jp_n24_3, jp_n24_4, jp_n24_5, jp_n30_1, jp_n30_2, jp_n33_1, jp_n33_2, false_and, true_and, and_true, and_false, and_self, ne_eq, not_true_eq_false, not_false_eq_true, jw_ws, jw_vs, jw_cmp_lt, jw_cmp_gt, jw_cmp_eq, jp_t1, jp_t2, jp_t3, jp_t4, jp_t5, jp_t6, t1, t2, c1.1, c2.1, c3.1, c1.2, c2.2, c3.2]
          exact step _ _ (by rw [if_pos h1]) (by rw [if_pos h2])
        · simp (disch := omega) only [↓jp_bs, ↓jp_b2s, ↓reduceIte, jw_up_a, Nat.reduceEqDiff, Int.reduceEq, Int.reduceLT, Int.reduceLE, Int.reduceAdd, Int.reduceSub, Int.reduceMul, Int.reduceNeg, jp_n9_1, jp_n9_8, jp_n9_15, jp_n9_21, jp_n9_24, jp_n10_1, jp_n10_2, jp_n10_3, jp_n10_4, jp_n10_5, jp_n10_6, jp_n17_1, jp_n17_2, jp_n17_3, jp_n17_4, jp_n17_5, jp_n17_6, jp_n24_1, jp_n24_2, jp_n24_3, jp_n24_4, jp_n24_5, jp_n30_1, jp_n30_2, jp_n33_1, jp_n33_2, false_and, true_and, and_true, and_false, and_self, ne_eq, not_true_eq_false, not_false_eq_true, jw_ws, jw_vs, jw_cmp_lt, jw_cmp_gt, jw_cmp_eq, jp_t1, jp_t2, jp_t3, jp_t4, jp_t5, jp_t6, t1, t2, c1.1, c2.1, c3.1, c1.2, c2.2, c3.2]
          exact step _ _ (by rw [if_pos h1]) (by rw [if_neg h2])
      · by_cases h2 : jp_fw h0 i.toNat (x / 7) i + jp_fw h0 i.toNat i (x % 7) < jp_fw h0 i.toNat (x / 7) (x % 7)
        · simp (disch := omega) only [↓jp_bs, ↓jp_b2s, ↓reduceIte, jw_up_a, Nat.reduceEqDiff, Int.reduceEq, Int.reduceLT, Int.reduceLE, Int.reduceAdd, Int.reduceSub, Int.reduceMul, Int.reduceNeg, jp_n9_1, jp_n9_8, jp_n9_15, jp_n9_21, jp_n9_24, jp_n10_1, jp_n10_2, jp_n10_3, jp_n10_4, jp_n10_5, jp_n10_6, jp_n17_1, jp_n17_2, jp_n17_3, jp_n17_4, jp_n17_5, jp_n17_6, jp_n24_1, jp_n24_2, jp_n24_3, jp_n24_4, jp_n24_5, jp_n30_1, jp_n30_2, jp_n33_1, jp_n33_2, false_and, true_and, and_true, and_false, and_self, ne_eq, not_true_eq_false, not_false_eq_true, jw_ws, jw_vs, jw_cmp_lt, jw_cmp_gt, jw_cmp_eq, jp_t1, jp_t2, jp_t3, jp_t4, jp_t5, jp_t6, t1, t2, c1.1, c2.1, c3.1, c1.2, c2.2, c3.2]
          exact step _ _ (by rw [if_neg h1]) (by rw [if_pos h2])
        · simp (disch := omega) only [↓jp_bs, ↓jp_b2s, ↓reduceIte, jw_up_a, Nat.reduceEqDiff, Int.reduceEq, Int.reduceLT, Int.reduceLE, Int.reduceAdd, Int.reduceSub, Int.reduceMul, Int.reduceNeg, jp_n9_1, jp_n9_8, jp_n9_15, jp_n9_21, jp_n9_24, jp_n10_1, jp_n10_2, jp_n10_3, jp_n10_4, jp_n10_5, jp_n10_6, jp_n17_1, jp_n17_2, jp_n17_3, jp_n17_4, jp_n17_5, jp_n17_6, jp_n24_1, jp_n24_2, jp_n24_3, jp_n24_4, jp_n24_5, jp_n30_1, jp_n30_2, jp_n33_1, jp_n33_2, false_and, true_and, and_true, and_false, and_self, ne_eq, not_true_eq_false, not_false_eq_true, jw_ws, jw_vs, jw_cmp_lt, jw_cmp_gt, jw_cmp_eq, jp_t1, jp_t2, jp_t3, jp_t4, jp_t5, jp_t6, t1, t2, c1.1, c2.1, c3.1, c1.2, c2.2, c3.2]
          exact step _ _ (by rw [if_neg h1]) (by rw [if_neg h2])
    · intro k2 N hp
      obtain ⟨q0, q1, q2⟩ := hp
      show ∃ N : jw_M, fX12_layWays_114 _ (k2 + 1) i 49 _ = _ ∧ _
      rw [fX12_layWays_114]
      simp (disch := omega) only [↓jp_bs, ↓jp_b2s, ↓reduceIte, jw_up_a, Nat.reduceEqDiff, Int.reduceEq, Int.reduceLT, Int.reduceLE, Int.reduceAdd, Int.reduceSub, Int.reduceMul, Int.reduceNeg, jp_n9_1, jp_n9_8, jp_n9_15, jp_n9_21, jp_n9_24, jp_n10_1, jp_n10_2, jp_n10_3, jp_n10_4, jp_n10_5, jp_n10_6, jp_n17_1, jp_n17_2, jp_n17_3, jp_n17_4, jp_n17_5, jp_n17_6, jp_n24_1, jp_n24_2, jp_n24_3, jp_n24_4, jp_n24_5, jp_n30_1, jp_n30_2, jp_n33_1, jp_n33_2, false_and, true_and, and_true, and_false, and_self, ne_eq, not_true_eq_false, not_false_eq_true, jw_ws, jw_vs, jw_cmp_lt, jw_cmp_gt, jw_cmp_eq, jp_t1, jp_t2, jp_t3, jp_t4, jp_t5, jp_t6]
      refine ih _ ⟨by omega, fun a b a1 a2 b1 b2 => ?_, q2⟩
      have := q1 a b a1 a2 b1 b2
      rw [if_pos (by omega), if_pos (by omega)] at this
      rw [show (i + 1).toNat = i.toNat + 1 by omega]
      exact this
  · intro k N hp
    obtain ⟨p0, p1, p2⟩ := hp
    refine ⟨N, ?_, fun a b a1 a2 b1 b2 => ?_, p2⟩
    · show fX12_layWays_106 (k + 1) 7 _ = _
      rw [fX12_layWays_106]
      simp (disch := omega) only [↓jp_bs, ↓jp_b2s, ↓reduceIte, jw_up_a, Nat.reduceEqDiff, Int.reduceEq, Int.reduceLT, Int.reduceLE, Int.reduceAdd, Int.reduceSub, Int.reduceMul, Int.reduceNeg, jp_n9_1, jp_n9_8, jp_n9_15, jp_n9_21, jp_n9_24, jp_n10_1, jp_n10_2, jp_n10_3, jp_n10_4, jp_n10_5, jp_n10_6, jp_n17_1, jp_n17_2, jp_n17_3, jp_n17_4, jp_n17_5, jp_n17_6, jp_n24_1, jp_n24_2, jp_n24_3, jp_n24_4, jp_n24_5, jp_n30_1, jp_n30_2, jp_n33_1, jp_n33_2, false_and, true_and, and_true, and_false, and_self, ne_eq, not_true_eq_false, not_false_eq_true, jw_ws, jw_vs, jw_cmp_lt, jw_cmp_gt, jw_cmp_eq, jp_t1, jp_t2, jp_t3, jp_t4, jp_t5, jp_t6]
    · unfold jp_wk jp_hk
      rw [hw0, hh0]
      exact p1 a b a1 a2 b1 b2
