/-! reading: what a statement adds -/
def jp_isq (D : Int → Int) (a b c : Int) : Int := if D (14 + 7 * a + b) = 0 ∨ c < D (14 + 7 * a + b) then c else D (14 + 7 * a + b)
def jp_tko (w : Int) (D : Int → Int) (a b c : Int) : Int → Int :=
  if w = 0 then jw_u1 (jw_u1 D 0 (D 0 + 1)) (7 + D 0) a
  else if w = 1 then jw_u1 (jw_u1 (jw_u1 D 1 (D 1 + 1)) (14 + 7 * a + b) (jp_isq D a b c)) (14 + 7 * b + a) (jp_isq D a b c)
  else if w = 2 then jw_u1 (jw_u1 (jw_u1 (jw_u1 D 2 (D 2 + 1)) (63 + 3 * D 2) a) (64 + 3 * D 2) b) (65 + 3 * D 2) c
  else if w = 3 then jw_u1 (jw_u1 (jw_u1 D 3 (D 3 + 1)) (90 + D 3) a) (95 + D 3) b
  else if w = 4 then jw_u1 (jw_u1 D 4 (D 4 + 1)) (100 + D 4) a
  else if w = 5 then jw_u1 (jw_u1 (jw_u1 D 5 (D 5 + 1)) (75 + 2 * D 5) a) (76 + 2 * D 5) b
  else jw_u1 (jw_u1 (jw_u1 (jw_u1 D 6 (D 6 + 1)) 87 a) 88 b) 89 c
/-- what has been told so far is in order -/
def jp_Dk (D : Int → Int) : Prop :=
  ((0 ≤ D 0 ∧ D 0 ≤ 7) ∧ (0 ≤ D 1 ∧ D 1 ≤ 16) ∧ (0 ≤ D 2 ∧ D 2 ≤ 4) ∧ (0 ≤ D 3 ∧ D 3 ≤ 5) ∧ (0 ≤ D 4 ∧ D 4 ≤ 4) ∧ (0 ≤ D 5 ∧ D 5 ≤ 6) ∧ (0 ≤ D 6 ∧ D 6 ≤ 1)) ∧
  ((0 ≤ D 87 ∧ D 87 ≤ 20) ∧ (0 ≤ D 88 ∧ D 88 ≤ 30) ∧ (1 ≤ D 89 ∧ D 89 ≤ 9)) ∧
  (∀ c : Int, 0 ≤ c → c < 7 → 0 ≤ D (7 + c) ∧ D (7 + c) ≤ 99) ∧
  (∀ a b : Int, 0 ≤ a → a < 7 → 0 ≤ b → b < 7 → 0 ≤ D (14 + 7 * a + b) ∧ D (14 + 7 * a + b) ≤ 20 ∧ D (14 + 7 * a + b) = D (14 + 7 * b + a) ∧ (a = b ∨ D 0 ≤ a ∨ D 0 ≤ b → D (14 + 7 * a + b) = 0)) ∧
  (∀ g : Int, 0 ≤ g → g < D 2 → 1 ≤ D (63 + 3 * g) ∧ D (63 + 3 * g) ≤ 9 ∧ 1 ≤ D (64 + 3 * g) ∧ D (64 + 3 * g) ≤ 99 ∧ 0 ≤ D (65 + 3 * g) ∧ D (65 + 3 * g) ≤ 99) ∧
  (∀ k : Int, 0 ≤ k → k < D 5 → 0 ≤ D (75 + 2 * k) ∧ D (75 + 2 * k) < D 0 ∧ 0 ≤ D (76 + 2 * k) ∧ D (76 + 2 * k) ≤ 99) ∧
  (∀ s : Int, 0 ≤ s → s < D 3 → 0 ≤ D (90 + s) ∧ D (90 + s) < D 2 ∧ 0 ≤ D (95 + s) ∧ D (95 + s) < D 0) ∧
  (∀ w : Int, 0 ≤ w → w < D 4 → 0 ≤ D (100 + w) ∧ D (100 + w) < D 0)
/-- the class's draft shows the same -/
def jp_cR (N : jw_M) (D : Int → Int) : Prop :=
  (∀ w : Int, 0 ≤ w → w < 7 → N 8 w = D w) ∧
  (N 37 0 = D 0 ∧ N 37 5 = D 5 ∧ N 37 8 = D 87 ∧ N 37 9 = D 88 ∧ N 37 10 = D 89) ∧
  (∀ c : Int, 0 ≤ c → c < D 0 → N 38 c = D (7 + c)) ∧
  (∀ a b : Int, 0 ≤ a → a < 7 → 0 ≤ b → b < 7 → N 39 (7 * a + b) = D (14 + 7 * a + b)) ∧
  (∀ k : Int, 0 ≤ k → k < D 5 → N 42 k = D (75 + 2 * k) ∧ N 43 k = D (76 + 2 * k)) ∧
  (N 44 0 = D 2 ∧ N 44 4 = D 3 ∧ N 44 7 = D 4) ∧
  (∀ g : Int, 0 ≤ g → g < D 2 → N 45 g = D (63 + 3 * g) ∧ N 46 g = D (64 + 3 * g) ∧ N 47 g = D (65 + 3 * g)) ∧
  (∀ i : Int, 0 ≤ i → i < D 3 → N 48 i = D (90 + i) ∧ N 49 i = D (95 + i)) ∧
  (∀ w : Int, 0 ≤ w → w < D 4 → N 50 w = D (100 + w))
theorem jp_cR_fr {M N : jw_M} {D : Int → Int} (h : jp_cR M D) (h8 : N 8 = M 8) (hf : ∀ k : Nat, 37 ≤ k → k ≤ 50 → N k = M k) : jp_cR N D := by
  unfold jp_cR at h ⊢
  rw [h8, hf 37 (by omega) (by omega), hf 38 (by omega) (by omega), hf 39 (by omega) (by omega), hf 42 (by omega) (by omega), hf 43 (by omega) (by omega), hf 44 (by omega) (by omega), hf 45 (by omega) (by omega), hf 46 (by omega) (by omega), hf 47 (by omega) (by omega), hf 48 (by omega) (by omega), hf 49 (by omega) (by omega), hf 50 (by omega) (by omega)]
  exact h
/-- what the numbers of a statement may be -/
def jp_vk (D : Int → Int) (w a b c : Int) : Prop :=
  (w = 0 → 0 ≤ a ∧ a ≤ 99) ∧ (w = 1 → (0 ≤ a ∧ a < D 0) ∧ (0 ≤ b ∧ b < D 0) ∧ a ≠ b ∧ (1 ≤ c ∧ c ≤ 20)) ∧ (w = 2 → (1 ≤ a ∧ a ≤ 9) ∧ (1 ≤ b ∧ b ≤ 99) ∧ (0 ≤ c ∧ c ≤ 99)) ∧ (w = 3 → (0 ≤ a ∧ a < D 2) ∧ (0 ≤ b ∧ b < D 0)) ∧ (w = 4 → 0 ≤ a ∧ a < D 0) ∧ (w = 5 → (0 ≤ a ∧ a < D 0) ∧ (0 ≤ b ∧ b ≤ 99)) ∧ (w = 6 → (0 ≤ a ∧ a ≤ 20) ∧ (0 ≤ b ∧ b ≤ 30) ∧ (1 ≤ c ∧ c ≤ 9))
theorem jp_vk_o {t : Int → Int} {L s : Int} {D : Int → Int} {w : Int} (hw : 0 ≤ w ∧ w < 7) (h : ∀ k : Int, 0 ≤ k → k < jp_nb w → jp_nf t L (jp_it t L s k.toNat) (jp_lo w k) (jp_hi D w k) (jp_not w k (jp_vl t L s 0)) = 0) : jp_vk D w (jp_vl t L s 0) (jp_vl t L s 1) (jp_vl t L s 2) := by
  have g : ∀ k : Int, 0 ≤ k → k < jp_nb w → jp_lo w k ≤ jp_vl t L s k ∧ jp_vl t L s k ≤ jp_hi D w k ∧ jp_vl t L s k ≠ jp_not w k (jp_vl t L s 0) := fun k a b => (jp_nf_0 (h k a b)).2
  unfold jp_vk
  refine ⟨fun e => ?_, fun e => ?_, fun e => ?_, fun e => ?_, fun e => ?_, fun e => ?_, fun e => ?_⟩ <;> subst e
  · have g0 := g 0 (by decide) (by decide)
    have l0 : jp_lo 0 0 = 0 := rfl
    have h0 : jp_hi D 0 0 = 99 := rfl
    omega
  · have g0 := g 0 (by decide) (by decide)
    have g1 := g 1 (by decide) (by decide)
    have g2 := g 2 (by decide) (by decide)
    have l0 : jp_lo 1 0 = 0 := rfl
    have h0 : jp_hi D 1 0 = D 0 - 1 := rfl
    have l1 : jp_lo 1 1 = 0 := rfl
    have h1 : jp_hi D 1 1 = D 0 - 1 := rfl
    have l2 : jp_lo 1 2 = 1 := rfl
    have h2 : jp_hi D 1 2 = 20 := rfl
    have n1 : jp_not 1 1 (jp_vl t L s 0) = jp_vl t L s 0 := rfl
    omega
  · have g0 := g 0 (by decide) (by decide)
    have g1 := g 1 (by decide) (by decide)
    have g2 := g 2 (by decide) (by decide)
    have l0 : jp_lo 2 0 = 1 := rfl
    have h0 : jp_hi D 2 0 = 9 := rfl
    have l1 : jp_lo 2 1 = 1 := rfl
    have h1 : jp_hi D 2 1 = 99 := rfl
    have l2 : jp_lo 2 2 = 0 := rfl
    have h2 : jp_hi D 2 2 = 99 := rfl
    omega
  · have g0 := g 0 (by decide) (by decide)
    have g1 := g 1 (by decide) (by decide)
    have l0 : jp_lo 3 0 = 0 := rfl
    have h0 : jp_hi D 3 0 = D 2 - 1 := rfl
    have l1 : jp_lo 3 1 = 0 := rfl
    have h1 : jp_hi D 3 1 = D 0 - 1 := rfl
    omega
  · have g0 := g 0 (by decide) (by decide)
    have l0 : jp_lo 4 0 = 0 := rfl
    have h0 : jp_hi D 4 0 = D 0 - 1 := rfl
    omega
  · have g0 := g 0 (by decide) (by decide)
    have g1 := g 1 (by decide) (by decide)
    have l0 : jp_lo 5 0 = 0 := rfl
    have h0 : jp_hi D 5 0 = D 0 - 1 := rfl
    have l1 : jp_lo 5 1 = 0 := rfl
    have h1 : jp_hi D 5 1 = 99 := rfl
    omega
  · have g0 := g 0 (by decide) (by decide)
    have g1 := g 1 (by decide) (by decide)
    have g2 := g 2 (by decide) (by decide)
    have l0 : jp_lo 6 0 = 0 := rfl
    have h0 : jp_hi D 6 0 = 20 := rfl
    have l1 : jp_lo 6 1 = 0 := rfl
    have h1 : jp_hi D 6 1 = 30 := rfl
    have l2 : jp_lo 6 2 = 1 := rfl
    have h2 : jp_hi D 6 2 = 9 := rfl
    omega
theorem jp_Dk_t {D : Int → Int} (h : jp_Dk D) {w a b c : Int} (hw : 0 ≤ w ∧ w < 7) (hr : D w < jp_ro w) (hv : jp_vk D w a b c) : jp_Dk (jp_tko w D a b c) := by
  obtain ⟨⟨d0, d1, d2, d3, d4, d5, d6⟩, ⟨e1, e2, e3⟩, f1, f2, f3, f4, f5, f6⟩ := h
  obtain ⟨v0, v1, v2, v3, v4, v5, v6⟩ := hv
  unfold jp_tko
  have h1 : w = 0 ∨ w = 1 ∨ w = 2 ∨ w = 3 ∨ w = 4 ∨ w = 5 ∨ w = 6 := by omega
  rcases h1 with rfl | rfl | rfl | rfl | rfl | rfl | rfl
  · have hr2 : D 0 < 7 := hr
    have v := v0 rfl
    rw [if_pos rfl]
    unfold jp_Dk
    rw [jw_u1_n _ (show (0 : Int) ≠ 7 + D 0 by omega), jw_u1_s]
    refine ⟨⟨by omega, ?_⟩, ?_, fun x x0 x1 => ?_, fun x y x0 x1 y0 y1 => ?_, fun x x0 x1 => ?_, fun x x0 x1 => ?_, fun x x0 x1 => ?_, fun x x0 x1 => ?_⟩
    · simp (disch := omega) only [jw_u1_n]; omega
    · simp (disch := omega) only [jw_u1_n]; omega
    · rw [jw_u1_a, jw_u1_n _ (by omega)]
      split
      · exact v
      · exact f1 x x0 x1
    · have := f2 x y x0 x1 y0 y1
      simp (disch := omega) only [jw_u1_n]
      refine ⟨this.1, this.2.1, this.2.2.1, fun z => this.2.2.2 (by omega)⟩
    · have x1' : x < D 2 := by simpa (disch := omega) only [jw_u1_n] using x1
      have := f3 x x0 x1'
      simp (disch := omega) only [jw_u1_n]; exact this
    · have x1' : x < D 5 := by simpa (disch := omega) only [jw_u1_n] using x1
      have := f4 x x0 x1'
      simp (disch := omega) only [jw_u1_n]; omega
    · have x1' : x < D 3 := by simpa (disch := omega) only [jw_u1_n] using x1
      have := f5 x x0 x1'
      simp (disch := omega) only [jw_u1_n]; omega
    · have x1' : x < D 4 := by simpa (disch := omega) only [jw_u1_n] using x1
      have := f6 x x0 x1'
      simp (disch := omega) only [jw_u1_n]; omega
  · have hr2 : D 1 < 16 := hr
    have v := v1 rfl
    rw [if_neg (by decide), if_pos rfl]
    have hq : 1 ≤ jp_isq D a b c ∧ jp_isq D a b c ≤ 20 := by
      have := f2 a b (by omega) (by omega) (by omega) (by omega)
      unfold jp_isq
      split <;> omega
    generalize jp_isq D a b c = q at hq ⊢
    unfold jp_Dk
    simp (disch := omega) only [jw_u1_n, jw_u1_s]
    refine ⟨⟨d0, by omega, d2, d3, d4, d5, d6⟩, ⟨e1, e2, e3⟩, fun x x0 x1 => ?_, fun x y x0 x1 y0 y1 => ?_, fun x x0 x1 => ?_, fun x x0 x1 => ?_, fun x x0 x1 => ?_, fun x x0 x1 => ?_⟩
    · simp (disch := omega) only [jw_u1_n]; exact f1 x x0 x1
    · have u := f2 x y x0 x1 y0 y1
      simp only [jw_u1_a]
      rw [if_neg (show ¬ 14 + 7 * x + y = 1 by omega), if_neg (show ¬ 14 + 7 * y + x = 1 by omega)]
      by_cases z1 : 14 + 7 * x + y = 14 + 7 * b + a
      · have ex : x = b := by omega
        have ey : y = a := by omega
        rw [if_pos z1, if_neg (show ¬ 14 + 7 * y + x = 14 + 7 * b + a by omega), if_pos (show 14 + 7 * y + x = 14 + 7 * a + b by omega)]
        exact ⟨by omega, by omega, rfl, fun z => by omega⟩
      · rw [if_neg z1]
        by_cases z2 : 14 + 7 * x + y = 14 + 7 * a + b
        · have ex : x = a := by omega
          have ey : y = b := by omega
          rw [if_pos z2, if_pos (show 14 + 7 * y + x = 14 + 7 * b + a by omega)]
          exact ⟨by omega, by omega, rfl, fun z => by omega⟩
        · rw [if_neg z2, if_neg (show ¬ 14 + 7 * y + x = 14 + 7 * b + a by omega), if_neg (show ¬ 14 + 7 * y + x = 14 + 7 * a + b by omega)]
          exact u
    · simp (disch := omega) only [jw_u1_n]; exact f3 x x0 x1
    · simp (disch := omega) only [jw_u1_n]; exact f4 x x0 x1
    · simp (disch := omega) only [jw_u1_n]; exact f5 x x0 x1
    · simp (disch := omega) only [jw_u1_n]; exact f6 x x0 x1
  · have hr2 : D 2 < 4 := hr
    have v := v2 rfl
    rw [if_neg (by decide), if_neg (by decide), if_pos rfl]
    unfold jp_Dk
    simp (disch := omega) only [jw_u1_n, jw_u1_s]
    refine ⟨⟨d0, d1, by omega, d3, d4, d5, d6⟩, ⟨e1, e2, e3⟩, fun x x0 x1 => ?_, fun x y x0 x1 y0 y1 => ?_, fun x x0 x1 => ?_, fun x x0 x1 => ?_, fun x x0 x1 => ?_, fun x x0 x1 => ?_⟩
    · simp (disch := omega) only [jw_u1_n]; exact f1 x x0 x1
    · simp (disch := omega) only [jw_u1_n]; exact f2 x y x0 x1 y0 y1
    · by_cases z : x = D 2
      · subst z
        simp (disch := omega) only [jw_u1_n, jw_u1_s]; omega
      · simp (disch := omega) only [jw_u1_n]; exact f3 x x0 (by omega)
    · simp (disch := omega) only [jw_u1_n]; exact f4 x x0 x1
    · have u := f5 x x0 x1
      simp (disch := omega) only [jw_u1_n]; omega
    · simp (disch := omega) only [jw_u1_n]; exact f6 x x0 x1
  · have hr2 : D 3 < 5 := hr
    have v := v3 rfl
    rw [if_neg (by decide), if_neg (by decide), if_neg (by decide), if_pos rfl]
    unfold jp_Dk
    simp (disch := omega) only [jw_u1_n, jw_u1_s]
    refine ⟨⟨d0, d1, d2, by omega, d4, d5, d6⟩, ⟨e1, e2, e3⟩, fun x x0 x1 => ?_, fun x y x0 x1 y0 y1 => ?_, fun x x0 x1 => ?_, fun x x0 x1 => ?_, fun x x0 x1 => ?_, fun x x0 x1 => ?_⟩
    · simp (disch := omega) only [jw_u1_n]; exact f1 x x0 x1
    · simp (disch := omega) only [jw_u1_n]; exact f2 x y x0 x1 y0 y1
    · simp (disch := omega) only [jw_u1_n]; exact f3 x x0 x1
    · simp (disch := omega) only [jw_u1_n]; exact f4 x x0 x1
    · by_cases z : x = D 3
      · subst z
        simp (disch := omega) only [jw_u1_n, jw_u1_s]; omega
      · simp (disch := omega) only [jw_u1_n]; exact f5 x x0 (by omega)
    · simp (disch := omega) only [jw_u1_n]; exact f6 x x0 x1
  · have hr2 : D 4 < 4 := hr
    have v := v4 rfl
    rw [if_neg (by decide), if_neg (by decide), if_neg (by decide), if_neg (by decide), if_pos rfl]
    unfold jp_Dk
    simp (disch := omega) only [jw_u1_n, jw_u1_s]
    refine ⟨⟨d0, d1, d2, d3, by omega, d5, d6⟩, ⟨e1, e2, e3⟩, fun x x0 x1 => ?_, fun x y x0 x1 y0 y1 => ?_, fun x x0 x1 => ?_, fun x x0 x1 => ?_, fun x x0 x1 => ?_, fun x x0 x1 => ?_⟩
    · simp (disch := omega) only [jw_u1_n]; exact f1 x x0 x1
    · simp (disch := omega) only [jw_u1_n]; exact f2 x y x0 x1 y0 y1
    · simp (disch := omega) only [jw_u1_n]; exact f3 x x0 x1
    · simp (disch := omega) only [jw_u1_n]; exact f4 x x0 x1
    · simp (disch := omega) only [jw_u1_n]; exact f5 x x0 x1
    · by_cases z : x = D 4
      · subst z
        simp (disch := omega) only [jw_u1_n, jw_u1_s]; omega
      · simp (disch := omega) only [jw_u1_n]; exact f6 x x0 (by omega)
  · have hr2 : D 5 < 6 := hr
    have v := v5 rfl
    rw [if_neg (by decide), if_neg (by decide), if_neg (by decide), if_neg (by decide), if_neg (by decide), if_pos rfl]
    unfold jp_Dk
    simp (disch := omega) only [jw_u1_n, jw_u1_s]
    refine ⟨⟨d0, d1, d2, d3, d4, by omega, d6⟩, ⟨e1, e2, e3⟩, fun x x0 x1 => ?_, fun x y x0 x1 y0 y1 => ?_, fun x x0 x1 => ?_, fun x x0 x1 => ?_, fun x x0 x1 => ?_, fun x x0 x1 => ?_⟩
    · simp (disch := omega) only [jw_u1_n]; exact f1 x x0 x1
    · simp (disch := omega) only [jw_u1_n]; exact f2 x y x0 x1 y0 y1
    · simp (disch := omega) only [jw_u1_n]; exact f3 x x0 x1
    · by_cases z : x = D 5
      · subst z
        simp (disch := omega) only [jw_u1_n, jw_u1_s]; omega
      · simp (disch := omega) only [jw_u1_n]; exact f4 x x0 (by omega)
    · simp (disch := omega) only [jw_u1_n]; exact f5 x x0 x1
    · simp (disch := omega) only [jw_u1_n]; exact f6 x x0 x1
  · have hr2 : D 6 < 1 := hr
    have v := v6 rfl
    rw [if_neg (by decide), if_neg (by decide), if_neg (by decide), if_neg (by decide), if_neg (by decide), if_neg (by decide)]
    unfold jp_Dk
    simp (disch := omega) only [jw_u1_n, jw_u1_s]
    refine ⟨⟨d0, d1, d2, d3, d4, d5, by omega⟩, by omega, fun x x0 x1 => ?_, fun x y x0 x1 y0 y1 => ?_, fun x x0 x1 => ?_, fun x x0 x1 => ?_, fun x x0 x1 => ?_, fun x x0 x1 => ?_⟩
    · simp (disch := omega) only [jw_u1_n]; exact f1 x x0 x1
    · simp (disch := omega) only [jw_u1_n]; exact f2 x y x0 x1 y0 y1
    · simp (disch := omega) only [jw_u1_n]; exact f3 x x0 x1
    · simp (disch := omega) only [jw_u1_n]; exact f4 x x0 x1
    · simp (disch := omega) only [jw_u1_n]; exact f5 x x0 x1
    · simp (disch := omega) only [jw_u1_n]; exact f6 x x0 x1
