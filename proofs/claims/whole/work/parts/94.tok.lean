/-! reading: tokens -/
def jp_ru (p : Int → Bool) (L : Int) : Nat → Int → Int
  | 0, i => i
  | k + 1, i => if i < L ∧ p i = true then jp_ru p L k (i + 1) else i
def jp_run (p : Int → Bool) (L i : Int) : Int := jp_ru p L (L - i).toNat i
theorem jp_run_y {p : Int → Bool} {L i : Int} (h1 : i < L) (h2 : p i = true) : jp_run p L i = jp_run p L (i + 1) := by
  unfold jp_run
  rw [show (L - i).toNat = (L - (i + 1)).toNat + 1 by omega, jp_ru, if_pos ⟨h1, h2⟩]
theorem jp_run_n {p : Int → Bool} {L i : Int} (h : ¬ (i < L ∧ p i = true)) : jp_run p L i = i := by
  unfold jp_run
  by_cases e : i < L
  · rw [show (L - i).toNat = (L - (i + 1)).toNat + 1 by omega, jp_ru, if_neg h]
  · rw [show (L - i).toNat = 0 by omega, jp_ru]
theorem jp_run_r (p : Int → Bool) (L : Int) : ∀ (k : Nat) (i : Int), (L - i).toNat = k → i ≤ L → i ≤ jp_run p L i ∧ jp_run p L i ≤ L ∧ (∀ j : Int, i ≤ j → j < jp_run p L i → p j = true) ∧ ¬ (jp_run p L i < L ∧ p (jp_run p L i) = true) := by
  intro k
  induction k with
  | zero =>
    intro i hk hi
    rw [jp_run_n (by omega)]
    exact ⟨Int.le_refl _, hi, fun j a b => by omega, fun w => by omega⟩
  | succ k ih =>
    intro i hk hi
    by_cases e : p i = true
    · rw [jp_run_y (by omega) e]
      obtain ⟨a, b, c, d⟩ := ih (i + 1) (by omega) (by omega)
      refine ⟨by omega, b, fun j p1 p2 => ?_, d⟩
      by_cases z : j = i
      · rw [z]; exact e
      · exact c j (by omega) p2
    · rw [jp_run_n (fun w => e w.2)]
      exact ⟨Int.le_refl _, hi, fun j a b => by omega, fun w => e w.2⟩
def jp_bl (t : Int → Int) (i : Int) : Bool := decide (t i = 32) || decide (t i = 10)
def jp_lt (t : Int → Int) (i : Int) : Bool := decide (97 ≤ t i ∧ t i ≤ 122)
def jp_fi (t : Int → Int) (i : Int) : Bool := decide (48 ≤ t i ∧ t i ≤ 57)
theorem jp_bl_i (t : Int → Int) (i : Int) : jp_bl t i = true ↔ t i = 32 ∨ t i = 10 := by unfold jp_bl; rw [Bool.or_eq_true, decide_eq_true_iff, decide_eq_true_iff]
theorem jp_lt_i (t : Int → Int) (i : Int) : jp_lt t i = true ↔ 97 ≤ t i ∧ t i ≤ 122 := by unfold jp_lt; rw [decide_eq_true_iff]
theorem jp_fi_i (t : Int → Int) (i : Int) : jp_fi t i = true ↔ 48 ≤ t i ∧ t i ≤ 57 := by unfold jp_fi; rw [decide_eq_true_iff]
def jp_frm (t : Int → Int) (L s : Int) : Int := jp_run (jp_bl t) L s
def jp_kd0 (t : Int → Int) (L f : Int) : Int := if L ≤ f then 0 else if jp_lt t f = true then 1 else if jp_fi t f = true then (if jp_run (jp_fi t) L f - f ≤ 3 then 2 else 4) else if t f = 59 then 3 else 4
def jp_en0 (t : Int → Int) (L f : Int) : Int := if L ≤ f then f else if jp_lt t f = true then jp_run (jp_lt t) L f else if jp_fi t f = true then jp_run (jp_fi t) L f else f + 1
def jp_kd (t : Int → Int) (L s : Int) : Int := jp_kd0 t L (jp_frm t L s)
def jp_en (t : Int → Int) (L s : Int) : Int := jp_en0 t L (jp_frm t L s)
def jp_nv (t : Int → Int) (f : Int) : Nat → Int
  | 0 => 0
  | k + 1 => 10 * jp_nv t f k + t (f + (k : Int)) - 48
def jp_nm (t : Int → Int) (L s : Int) : Int := jp_nv t (jp_frm t L s) (jp_en t L s - jp_frm t L s).toNat
theorem jp_nv_s (t : Int → Int) (f : Int) {i : Int} (h : 0 ≤ i) : jp_nv t f (i + 1).toNat = 10 * jp_nv t f i.toNat + t (f + i) - 48 := by
  rw [show (i + 1).toNat = i.toNat + 1 by omega, jp_nv, Int.toNat_of_nonneg h]
theorem jp_nv_r {t : Int → Int} {f : Int} : ∀ n : Nat, n ≤ 3 → (∀ j : Int, f ≤ j → j < f + (n : Int) → jp_fi t j = true) → 0 ≤ jp_nv t f n ∧ jp_nv t f n ≤ 999 ∧ (n ≤ 2 → jp_nv t f n ≤ 99) ∧ (n ≤ 1 → jp_nv t f n ≤ 9) := by
  intro n
  induction n with
  | zero => intro _ _; simp [jp_nv]
  | succ n ih =>
    intro hn h
    have h1 := ih (by omega) (fun j a b => h j a (by omega))
    have h2 := (jp_fi_i t (f + (n : Int))).mp (h (f + (n : Int)) (by omega) (by omega))
    rw [jp_nv]
    by_cases e0 : n = 0
    · subst e0
      have : jp_nv t f 0 = 0 := rfl
      omega
    · by_cases e1 : n = 1
      · subst e1; have := h1.2.2.2 (by omega); omega
      · have := h1.2.2.1 (by omega); omega
theorem jp_frm_r (t : Int → Int) {L s : Int} (h : s ≤ L) : s ≤ jp_frm t L s ∧ jp_frm t L s ≤ L := by
  obtain ⟨a, b, -⟩ := jp_run_r (jp_bl t) L (L - s).toNat s rfl h
  exact ⟨a, b⟩
theorem jp_en0_r (t : Int → Int) {L f : Int} (h : f ≤ L) : f ≤ jp_en0 t L f ∧ jp_en0 t L f ≤ L ∧ (f < L → f < jp_en0 t L f) := by
  unfold jp_en0
  by_cases e : L ≤ f
  · rw [if_pos e]; omega
  · rw [if_neg e]
    by_cases e1 : jp_lt t f = true
    · rw [if_pos e1, jp_run_y (by omega) e1]
      obtain ⟨a, b, -⟩ := jp_run_r (jp_lt t) L (L - (f + 1)).toNat (f + 1) rfl (by omega)
      omega
    · rw [if_neg e1]
      by_cases e2 : jp_fi t f = true
      · rw [if_pos e2, jp_run_y (by omega) e2]
        obtain ⟨a, b, -⟩ := jp_run_r (jp_fi t) L (L - (f + 1)).toNat (f + 1) rfl (by omega)
        omega
      · rw [if_neg e2]; omega
theorem jp_en_r (t : Int → Int) {L s : Int} (h : s ≤ L) : jp_frm t L s ≤ jp_en t L s ∧ jp_en t L s ≤ L := by
  have h1 := jp_frm_r t h
  have h2 := jp_en0_r t h1.2
  exact ⟨h2.1, h2.2.1⟩
theorem jp_kd_2 {t : Int → Int} {L s : Int} (h : s ≤ L) (hk : jp_kd t L s = 2) : jp_frm t L s < jp_en t L s ∧ jp_en t L s - jp_frm t L s ≤ 3 ∧ (∀ j : Int, jp_frm t L s ≤ j → j < jp_en t L s → jp_fi t j = true) ∧ (0 ≤ jp_nm t L s ∧ jp_nm t L s ≤ 999) := by
  have h1 := jp_frm_r t h
  have hnm : jp_nm t L s = jp_nv t (jp_frm t L s) (jp_en t L s - jp_frm t L s).toNat := rfl
  have hek : jp_en t L s = jp_en0 t L (jp_frm t L s) := rfl
  have hkk : jp_kd0 t L (jp_frm t L s) = 2 := hk
  generalize jp_frm t L s = f at *
  unfold jp_kd0 at hkk
  unfold jp_en0 at hek
  by_cases e : L ≤ f
  · rw [if_pos e] at hkk; omega
  · rw [if_neg e] at hkk hek
    by_cases e1 : jp_lt t f = true
    · rw [if_pos e1] at hkk; omega
    · rw [if_neg e1] at hkk hek
      by_cases e2 : jp_fi t f = true
      · rw [if_pos e2] at hkk hek
        by_cases e3 : jp_run (jp_fi t) L f - f ≤ 3
        · obtain ⟨a, b, c, d⟩ := jp_run_r (jp_fi t) L (L - f).toNat f rfl (by omega)
          have hlt : f < jp_run (jp_fi t) L f := by
            by_cases z : f = jp_run (jp_fi t) L f
            · rw [← z] at d; exact absurd ⟨by omega, e2⟩ d
            · omega
          rw [← hek] at e3 c hlt
          have hr := jp_nv_r (t := t) (f := f) (jp_en t L s - f).toNat (by omega) (fun j p1 p2 => c j p1 (by omega))
          exact ⟨hlt, e3, c, by rw [hnm]; exact ⟨hr.1, hr.2.1⟩⟩
        · rw [if_neg e3] at hkk; omega
      · rw [if_neg e2] at hkk
        split at hkk <;> omega
theorem jp_kd_1 {t : Int → Int} {L s : Int} (h : s ≤ L) (hk : jp_kd t L s = 1) : jp_frm t L s < jp_en t L s ∧ (∀ j : Int, jp_frm t L s ≤ j → j < jp_en t L s → jp_lt t j = true) := by
  have h1 := jp_frm_r t h
  have hek : jp_en t L s = jp_en0 t L (jp_frm t L s) := rfl
  have hkk : jp_kd0 t L (jp_frm t L s) = 1 := hk
  generalize jp_frm t L s = f at *
  unfold jp_kd0 at hkk
  unfold jp_en0 at hek
  by_cases e : L ≤ f
  · rw [if_pos e] at hkk; omega
  · rw [if_neg e] at hkk hek
    by_cases e1 : jp_lt t f = true
    · rw [if_pos e1] at hek
      obtain ⟨a, b, c, d⟩ := jp_run_r (jp_lt t) L (L - f).toNat f rfl (by omega)
      have hlt : f < jp_run (jp_lt t) L f := by
        by_cases z : f = jp_run (jp_lt t) L f
        · rw [← z] at d; exact absurd ⟨by omega, e1⟩ d
        · omega
      rw [← hek] at c hlt
      exact ⟨hlt, c⟩
    · rw [if_neg e1] at hkk
      by_cases e2 : jp_fi t f = true
      · rw [if_pos e2] at hkk
        split at hkk <;> omega
      · rw [if_neg e2] at hkk
        split at hkk <;> omega
theorem jp_kd_v (t : Int → Int) (L s : Int) : jp_kd t L s = 0 ∨ jp_kd t L s = 1 ∨ jp_kd t L s = 2 ∨ jp_kd t L s = 3 ∨ jp_kd t L s = 4 := by
  unfold jp_kd jp_kd0
  split
  · omega
  · split
    · omega
    · split
      · split <;> omega
      · split <;> omega
/-- the tape of the class shows the same -/
def jp_tp (M : jw_M) (t : Int → Int) (L : Int) : Prop := (0 ≤ L ∧ L ≤ 600) ∧ M 5 1 = L ∧ ∀ i : Int, 0 ≤ i → i < L → t i = M 6 i % 256 ∧ -128 ≤ M 6 i ∧ M 6 i ≤ 127
theorem jp_tp_c {M : jw_M} {t : Int → Int} {L : Int} (h : jp_tp M t L) {i : Int} (h0 : 0 ≤ i) (h1 : i < L) : (M 6 i = 32 ↔ t i = 32) ∧ (M 6 i = 10 ↔ t i = 10) ∧ (M 6 i = 59 ↔ t i = 59) ∧ ((97 ≤ M 6 i ∧ M 6 i ≤ 122) ↔ jp_lt t i = true) ∧ ((48 ≤ M 6 i ∧ M 6 i ≤ 57) ↔ jp_fi t i = true) ∧ (jp_fi t i = true → M 6 i = t i) ∧ (jp_lt t i = true → M 6 i = t i) := by
  obtain ⟨a, b, c⟩ := h.2.2 i h0 h1
  rw [jp_lt_i, jp_fi_i]
  omega
