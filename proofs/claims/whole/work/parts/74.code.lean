/-! rows of figures and their numbers -/
def jp_cb (B : Int) (x : Int → Int) : Nat → Int
  | 0 => 0
  | n + 1 => B * jp_cb B x n + x (n : Int)
def jp_dg (B row L k : Int) : Int := row / B ^ (L - 1 - k).toNat % B
theorem jp_cb_c {B : Int} {x y : Int → Int} : ∀ n : Nat, (∀ j : Int, 0 ≤ j → j < (n : Int) → x j = y j) → jp_cb B x n = jp_cb B y n := by
  intro n
  induction n with
  | zero => intro _; rfl
  | succ n ih => intro h; rw [jp_cb, jp_cb, ih (fun j a b => h j a (by omega)), h n (by omega) (by omega)]
theorem jp_cb_r {B : Int} (hB : 1 ≤ B) {x : Int → Int} : ∀ n : Nat, (∀ j : Int, 0 ≤ j → j < (n : Int) → 0 ≤ x j ∧ x j < B) → 0 ≤ jp_cb B x n ∧ jp_cb B x n < B ^ n := by
  intro n
  induction n with
  | zero => intro _; simp [jp_cb]
  | succ n ih =>
    intro h
    have h1 := ih (fun j a b => h j a (by omega))
    have h2 := h n (by omega) (by omega)
    have e : B ^ (n + 1) = B * B ^ n := by rw [Int.pow_succ, Int.mul_comm]
    rw [jp_cb, e]
    generalize jp_cb B x n = c at h1 ⊢
    generalize B ^ n = p at h1 ⊢
    have h3 : 0 ≤ B * c := Int.mul_nonneg (by omega) h1.1
    have h4 : B * (c + 1) ≤ B * p := Int.mul_le_mul_of_nonneg_left (by omega) (by omega)
    have h5 : B * (c + 1) = B * c + B := by rw [Int.mul_add, Int.mul_one]
    omega
theorem jp_cb_lt {B : Int} (hB : 1 ≤ B) {x y : Int → Int} {L : Int} (hx : ∀ j : Int, 0 ≤ j → j < L → 0 ≤ x j ∧ x j < B) (hy : ∀ j : Int, 0 ≤ j → j < L → 0 ≤ y j ∧ y j < B) {k : Int} (h0 : 0 ≤ k) (he : ∀ j : Int, 0 ≤ j → j < k → x j = y j) (hk : x k < y k) : ∀ n : Nat, k < (n : Int) → (n : Int) ≤ L → jp_cb B x n < jp_cb B y n := by
  intro n
  induction n with
  | zero => intro a b; omega
  | succ n ih =>
    intro a b
    rw [jp_cb, jp_cb]
    by_cases e : k = (n : Int)
    · rw [jp_cb_c n (x := x) (y := y) (fun j p q => he j p (by omega)), ← e]
      omega
    · have h1 := ih (by omega) (by omega)
      have h2 := hx n (by omega) (by omega)
      have h3 := hy n (by omega) (by omega)
      generalize jp_cb B x n = c at h1 ⊢
      generalize jp_cb B y n = d at h1 ⊢
      have h4 : B * (c + 1) ≤ B * d := Int.mul_le_mul_of_nonneg_left (by omega) (by omega)
      have h5 : B * (c + 1) = B * c + B := by rw [Int.mul_add, Int.mul_one]
      omega
theorem jp_tri (x y : Int → Int) : ∀ n : Nat, (∀ j : Int, 0 ≤ j → j < (n : Int) → x j = y j) ∨ (∃ k : Int, 0 ≤ k ∧ k < (n : Int) ∧ (∀ j : Int, 0 ≤ j → j < k → x j = y j) ∧ x k < y k) ∨ (∃ k : Int, 0 ≤ k ∧ k < (n : Int) ∧ (∀ j : Int, 0 ≤ j → j < k → x j = y j) ∧ y k < x k) := by
  intro n
  induction n with
  | zero => exact Or.inl (fun j a b => by omega)
  | succ n ih =>
    rcases ih with h | ⟨k, a, b, c, d⟩ | ⟨k, a, b, c, d⟩
    · by_cases e : x (n : Int) = y (n : Int)
      · refine Or.inl (fun j a b => ?_)
        by_cases z : j = (n : Int)
        · rw [z]; exact e
        · exact h j a (by omega)
      · by_cases e2 : x (n : Int) < y (n : Int)
        · exact Or.inr (Or.inl ⟨n, by omega, by omega, h, e2⟩)
        · exact Or.inr (Or.inr ⟨n, by omega, by omega, h, by omega⟩)
    · exact Or.inr (Or.inl ⟨k, a, by omega, c, d⟩)
    · exact Or.inr (Or.inr ⟨k, a, by omega, c, d⟩)
/-- the smaller number has the smaller figure first -/
theorem jp_cb_lx {B : Int} (hB : 1 ≤ B) {x y : Int → Int} {n : Nat} (hx : ∀ j : Int, 0 ≤ j → j < (n : Int) → 0 ≤ x j ∧ x j < B) (hy : ∀ j : Int, 0 ≤ j → j < (n : Int) → 0 ≤ y j ∧ y j < B) (h : jp_cb B x n < jp_cb B y n) : ∃ k : Int, 0 ≤ k ∧ k < (n : Int) ∧ (∀ j : Int, 0 ≤ j → j < k → x j = y j) ∧ x k < y k := by
  rcases jp_tri x y n with e | e | ⟨k, a, b, c, d⟩
  · rw [jp_cb_c n e] at h; omega
  · exact e
  · have := jp_cb_lt hB hy hx a (fun j p q => (c j p q).symm) d n b (Int.le_refl _)
    omega
theorem jp_cb_eq {B : Int} (hB : 1 ≤ B) {x y : Int → Int} {n : Nat} (hx : ∀ j : Int, 0 ≤ j → j < (n : Int) → 0 ≤ x j ∧ x j < B) (hy : ∀ j : Int, 0 ≤ j → j < (n : Int) → 0 ≤ y j ∧ y j < B) (h : jp_cb B x n = jp_cb B y n) : ∀ j : Int, 0 ≤ j → j < (n : Int) → x j = y j := by
  rcases jp_tri x y n with e | ⟨k, a, b, c, d⟩ | ⟨k, a, b, c, d⟩
  · exact e
  · have := jp_cb_lt hB hx hy a c d n b (Int.le_refl _)
    omega
  · have := jp_cb_lt hB hy hx a (fun j p q => (c j p q).symm) d n b (Int.le_refl _)
    omega
theorem jp_dg_r {B : Int} (hB : 1 ≤ B) (row L k : Int) : 0 ≤ jp_dg B row L k ∧ jp_dg B row L k < B := ⟨Int.emod_nonneg _ (by omega), Int.emod_lt_of_pos _ (by omega)⟩
/-- one figure less -/
theorem jp_dq {B : Int} (hB : 1 ≤ B) (row : Int) (n : Nat) : row / B ^ n / B = row / B ^ (n + 1) := by
  rw [Int.ediv_ediv_of_nonneg (Int.pow_nonneg (by omega)), Int.pow_succ]
theorem jp_cb_dg {B : Int} (hB : 1 ≤ B) {row L : Int} (hr : 0 ≤ row ∧ row < B ^ L.toNat) : ∀ m : Nat, (m : Int) ≤ L → jp_cb B (jp_dg B row L) m = row / B ^ (L - (m : Int)).toNat := by
  intro m
  induction m with
  | zero =>
    intro h
    rw [jp_cb, show (L - ((0 : Nat) : Int)).toNat = L.toNat by omega, Int.ediv_eq_zero_of_lt hr.1 hr.2]
  | succ m ih =>
    intro h
    rw [jp_cb, ih (by omega)]
    have e1 : (L - (m : Int)).toNat = (L - 1 - (m : Int)).toNat + 1 := by omega
    have e2 : (L - ((m + 1 : Nat) : Int)).toNat = (L - 1 - (m : Int)).toNat := by omega
    rw [e1, e2, ← jp_dq hB]
    unfold jp_dg
    exact Int.mul_ediv_add_emod _ _
theorem jp_cb_dgn {B : Int} (hB : 1 ≤ B) {row : Int} {n : Nat} (hr : 0 ≤ row ∧ row < B ^ n) : jp_cb B (jp_dg B row (n : Int)) n = row := by
  rw [jp_cb_dg hB (L := (n : Int)) (by rw [Int.toNat_natCast]; exact hr) n (Int.le_refl _), show ((n : Int) - (n : Int)).toNat = 0 by omega, Int.pow_zero, Int.ediv_one]
