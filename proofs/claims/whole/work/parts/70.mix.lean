/-! mixed rounds: sets of corners, their values -/
def jp_vp (E : Int → Int) (f : Int) (p : Int → Bool) : Nat → Int
  | 0 => 1
  | n + 1 => if p (n : Int) = true then jp_vp E f p n * (E (n : Int) + f) else jp_vp E f p n
def jp_vb (E : Int → Int) (f : Int) (p : Int → Bool) : Nat → Int
  | 0 => 0
  | n + 1 => if p (n : Int) = true then jp_vb E f p n * (E (n : Int) + f) + jp_vp E f p n else jp_vb E f p n
def jp_ve (E : Int → Int) (f : Int) (p : Int → Bool) : Nat → Int
  | 0 => 0
  | n + 1 => if p (n : Int) = true then jp_ve E f p n * (E (n : Int) + f) + E (n : Int) * jp_vp E f p n else jp_ve E f p n
theorem jp_v_c {E : Int → Int} {f : Int} {p q : Int → Bool} : ∀ n : Nat, (∀ c : Int, 0 ≤ c → c < (n : Int) → p c = q c) → jp_vp E f p n = jp_vp E f q n ∧ jp_vb E f p n = jp_vb E f q n ∧ jp_ve E f p n = jp_ve E f q n := by
  intro n
  induction n with
  | zero => intro _; exact ⟨rfl, rfl, rfl⟩
  | succ n ih =>
    intro h
    obtain ⟨a, b, c⟩ := ih (fun c x y => h c x (by omega))
    simp only [jp_vp, jp_vb, jp_ve, h n (by omega) (by omega), a, b, c]
    exact ⟨trivial, trivial, trivial⟩
/-- one more joins -/
def jp_j1 (p : Int → Bool) (c : Int) : Int → Bool := fun d => decide (d = c) || p d
theorem jp_j1_n (p : Int → Bool) {c d : Int} (h : d ≠ c) : jp_j1 p c d = p d := by unfold jp_j1; rw [decide_eq_false h, Bool.false_or]
theorem jp_j1_s (p : Int → Bool) (c : Int) : jp_j1 p c c = true := by unfold jp_j1; rw [decide_eq_true rfl, Bool.true_or]
theorem jp_v_j {E : Int → Int} {f : Int} {p : Int → Bool} {c : Int} (h0 : 0 ≤ c) (hc : p c = false) : ∀ n : Nat, c < (n : Int) → jp_vp E f (jp_j1 p c) n = jp_vp E f p n * (E c + f) ∧ jp_vb E f (jp_j1 p c) n = jp_vb E f p n * (E c + f) + jp_vp E f p n ∧ jp_ve E f (jp_j1 p c) n = jp_ve E f p n * (E c + f) + E c * jp_vp E f p n := by
  intro n
  induction n with
  | zero => intro h; omega
  | succ n ih =>
    intro h
    by_cases e : c = (n : Int)
    · subst e
      obtain ⟨a, b, d⟩ := jp_v_c (E := E) (f := f) (p := jp_j1 p (n : Int)) (q := p) n (fun d x y => jp_j1_n p (by omega))
      simp only [jp_vp, jp_vb, jp_ve, jp_j1_s, hc, a, b, d, ↓reduceIte, Bool.false_eq_true]
      exact ⟨trivial, trivial, trivial⟩
    · obtain ⟨a, b, d⟩ := ih (by omega)
      have e2 : jp_j1 p c (n : Int) = p (n : Int) := jp_j1_n p (by omega)
      simp only [jp_vp, jp_vb, jp_ve, e2, a, b, d]
      generalize jp_vp E f p n = P
      generalize jp_vb E f p n = B
      generalize jp_ve E f p n = X
      split
      · refine ⟨?_, ?_, ?_⟩ <;> grind
      · exact ⟨rfl, rfl, rfl⟩
def jp_Ek (E : Int → Int) (f n : Int) : Prop := (0 ≤ n ∧ n ≤ 7) ∧ (1 ≤ f ∧ f ≤ 99) ∧ (∀ c : Int, 0 ≤ c → c < n → 0 ≤ E c ∧ E c ≤ 99)
theorem jp_v_r {E : Int → Int} {f N : Int} (hE : jp_Ek E f N) (p : Int → Bool) : ∀ n : Nat, (n : Int) ≤ N → (1 ≤ jp_vp E f p n ∧ jp_vp E f p n ≤ 198 ^ n) ∧ (0 ≤ jp_vb E f p n ∧ jp_vb E f p n * 198 ≤ (n : Int) * 198 ^ n) ∧ (0 ≤ jp_ve E f p n ∧ jp_ve E f p n ≤ 99 * jp_vb E f p n) := by
  intro n
  induction n with
  | zero => intro _; simp [jp_vp, jp_vb, jp_ve]
  | succ n ih =>
    intro hn
    obtain ⟨⟨a1, a2⟩, ⟨b1, b2⟩, c1, c2⟩ := ih (by omega)
    have he := hE.2.2 n (by omega) (by omega)
    have hf := hE.2.1
    have e198 : (198 : Int) ^ (n + 1) = 198 ^ n * 198 := Int.pow_succ _ _
    have ec : (((n + 1 : Nat)) : Int) = (n : Int) + 1 := by omega
    simp only [jp_vp, jp_vb, jp_ve, e198, ec]
    generalize jp_vp E f p n = P at a1 a2 b2 ⊢
    generalize jp_vb E f p n = B at b1 b2 c2 ⊢
    generalize jp_ve E f p n = X at c1 c2 ⊢
    generalize (198 : Int) ^ n = K at a2 b2 ⊢
    have hnk : 0 ≤ (n : Int) * K := Int.mul_nonneg (by omega) (by omega)
    split
    · have s1 : 1 ≤ E n + f ∧ E n + f ≤ 198 := by omega
      have q1 : 1 * 1 ≤ P * (E n + f) := Int.mul_le_mul a1 s1.1 (by omega) (by omega)
      have q2 : P * (E n + f) ≤ K * 198 := Int.mul_le_mul a2 s1.2 (by omega) (by omega)
      have q3 : 0 ≤ B * (E n + f) := Int.mul_nonneg b1 (by omega)
      have q4 : B * (E n + f) ≤ B * 198 := Int.mul_le_mul_of_nonneg_left s1.2 b1
      have q5 : 0 ≤ X * (E n + f) := Int.mul_nonneg c1 (by omega)
      have q6 : X * (E n + f) ≤ 99 * B * (E n + f) := Int.mul_le_mul_of_nonneg_right c2 (by omega)
      have q7 : 0 ≤ E n * P := Int.mul_nonneg he.1 (by omega)
      have q8 : E n * P ≤ 99 * P := Int.mul_le_mul_of_nonneg_right he.2 (by omega)
      have q9 : 99 * B * (E n + f) = 99 * (B * (E n + f)) := Int.mul_assoc _ _ _
      have q10 : ((n : Int) + 1) * (K * 198) = (n : Int) * K * 198 + K * 198 := by grind
      refine ⟨⟨by omega, by omega⟩, ⟨by omega, ?_⟩, by omega, by omega⟩
      rw [q10]
      omega
    · have q10 : ((n : Int) + 1) * (K * 198) = (n : Int) * K * 198 + K * 198 := by grind
      refine ⟨⟨by omega, by omega⟩, ⟨by omega, ?_⟩, by omega, by omega⟩
      rw [q10]
      omega
theorem jp_v_7 {E : Int → Int} {f n : Int} (hE : jp_Ek E f n) (p : Int → Bool) : (1 ≤ jp_vp E f p n.toNat ∧ jp_vp E f p n.toNat ≤ 11930436453209472) ∧ (0 ≤ jp_vb E f p n.toNat ∧ jp_vb E f p n.toNat ≤ 421783106931648) ∧ (0 ≤ jp_ve E f p n.toNat ∧ jp_ve E f p n.toNat ≤ 41756527586233152) := by
  have h := jp_v_r hE p n.toNat (by have := hE.1; omega)
  have hn := hE.1
  have h1 : n = 0 ∨ n = 1 ∨ n = 2 ∨ n = 3 ∨ n = 4 ∨ n = 5 ∨ n = 6 ∨ n = 7 := by omega
  have k : ((n.toNat : Nat) : Int) * 198 ^ n.toNat ≤ 7 * 11930436453209472 ∧ (198 : Int) ^ n.toNat ≤ 11930436453209472 := by
    rcases h1 with rfl | rfl | rfl | rfl | rfl | rfl | rfl | rfl <;> decide
  generalize ((n.toNat : Nat) : Int) * 198 ^ n.toNat = Y at h k
  generalize (198 : Int) ^ n.toNat = Z at h k
  omega
theorem jp_vp_7 {E : Int → Int} {f n : Int} (hE : jp_Ek E f n) (p : Int → Bool) {i : Int} (h0 : 0 ≤ i) (h1 : i ≤ n) : 1 ≤ jp_vp E f p i.toNat ∧ jp_vp E f p i.toNat ≤ 11930436453209472 := by
  have hE' : jp_Ek E f i := ⟨⟨h0, by have := hE.1; omega⟩, hE.2.1, fun c a b => hE.2.2 c a (by omega)⟩
  exact (jp_v_7 hE' p).1
/-- the sums over all of the set, out of the whole product -/
theorem jp_v_sum {E : Int → Int} {f N : Int} (hE : jp_Ek E f N) (p : Int → Bool) : ∀ (n : Nat) (K : Int), (n : Int) ≤ N → 0 ≤ K → jp_sum (fun c => if p c = true then (jp_vp E f p n * K).tdiv (E c + f) else 0) n = jp_vb E f p n * K ∧ jp_sum (fun c => if p c = true then (jp_vp E f p n * K).tdiv (E c + f) * E c else 0) n = jp_ve E f p n * K := by
  intro n
  induction n with
  | zero => intro K _ _; simp [jp_sum, jp_vb, jp_ve]
  | succ n ih =>
    intro K hn hK
    have he := hE.2.2 n (by omega) (by omega)
    have hf := hE.2.1
    rw [jp_sum, jp_sum, jp_vp, jp_vb, jp_ve]
    by_cases e : p (n : Int) = true
    · simp only [e, ↓reduceIte]
      have e1 : jp_vp E f p n * (E (n : Int) + f) * K = jp_vp E f p n * ((E (n : Int) + f) * K) := Int.mul_assoc _ _ _
      have e2 : jp_vp E f p n * (E (n : Int) + f) * K = (E (n : Int) + f) * (jp_vp E f p n * K) := by grind
      have e3 : (jp_vp E f p n * (E (n : Int) + f) * K).tdiv (E (n : Int) + f) = jp_vp E f p n * K := by rw [e2]; exact Int.mul_tdiv_cancel_left _ (by omega)
      obtain ⟨a, b⟩ := ih ((E (n : Int) + f) * K) (by omega) (Int.mul_nonneg (by omega) hK)
      rw [e3, e1, a, b]
      constructor <;> grind
    · simp only [e, ↓reduceIte, Int.add_zero, Bool.false_eq_true]
      exact ih K (by omega) hK
def jp_ut (E : Int → Int) (t : Int) : Int → Bool := fun c => decide (t ≤ E c)
def jp_up1 (E : Int → Int) (f : Int) (p : Int → Bool) (n : Int) : Int := jp_ve E f p n.toNat - jp_vp E f p n.toNat
/-- the model stops at t -/
def jp_cd (E : Int → Int) (f n t : Int) : Prop := 0 < jp_vb E f (jp_ut E t) n.toNat ∧ ∀ c : Int, 0 ≤ c → c < n → t ≤ E c ∨ E c * jp_vb E f (jp_ut E t) n.toNat ≤ jp_up1 E f (jp_ut E t) n
/-- on the way of the class -/
def jp_go (E : Int → Int) (f n : Int) (p : Int → Bool) : Prop :=
  (∀ c d : Int, 0 ≤ c → c < n → 0 ≤ d → d < n → p c = true → p d = false → E d ≤ E c) ∧
  (∀ c : Int, 0 ≤ c → c < n → p c = true → jp_up1 E f p n < E c * jp_vb E f p n.toNat) ∧
  (∀ t c : Int, 0 ≤ c → c < n → p c = true → E c < t → ¬ jp_cd E f n t)
theorem jp_v_0 (E : Int → Int) (f : Int) : ∀ n : Nat, jp_vp E f (fun _ => false) n = 1 ∧ jp_vb E f (fun _ => false) n = 0 ∧ jp_ve E f (fun _ => false) n = 0 := by
  intro n
  induction n with
  | zero => exact ⟨rfl, rfl, rfl⟩
  | succ n ih => simp only [jp_vp, jp_vb, jp_ve, Bool.false_eq_true, ↓reduceIte]; exact ih
theorem jp_go_0 (E : Int → Int) (f n : Int) : jp_go E f n (fun _ => false) :=
  ⟨fun _ _ _ _ _ _ h => (by cases h), fun _ _ _ h => (by cases h), fun _ _ _ _ h => (by cases h)⟩
theorem jp_go_j {E : Int → Int} {f n : Int} (hE : jp_Ek E f n) {p : Int → Bool} (h : jp_go E f n p) {b : Int} (h0 : 0 ≤ b) (h1 : b < n) (hb : p b = false) (hm : ∀ d : Int, 0 ≤ d → d < n → p d = false → E d ≤ E b) (hg : jp_up1 E f p n < E b * jp_vb E f p n.toNat) : jp_go E f n (jp_j1 p b) ∧ 0 < jp_vb E f (jp_j1 p b) n.toNat := by
  obtain ⟨g1, g2, g3⟩ := h
  obtain ⟨j1, j2, j3⟩ := jp_v_j (E := E) (f := f) h0 hb n.toNat (by omega)
  have he := hE.2.2 b h0 h1
  have hf := hE.2.1
  obtain ⟨v1, v2, v3⟩ := jp_v_7 hE p
  have hs : 1 ≤ E b + f := by omega
  have key : jp_up1 E f (jp_j1 p b) n < E b * jp_vb E f (jp_j1 p b) n.toNat := by
    unfold jp_up1 at hg ⊢
    rw [j1, j2, j3]
    generalize jp_vp E f p n.toNat = P at *
    generalize jp_vb E f p n.toNat = B at *
    generalize jp_ve E f p n.toNat = X at *
    have q : 0 < (E b + f) * (E b * B - (X - P)) := Int.mul_pos (by omega) (by omega)
    have q2 : E b * (B * (E b + f) + P) - (X * (E b + f) + E b * P - P * (E b + f)) = (E b + f) * (E b * B - (X - P)) := by grind
    omega
  have posb : 0 < jp_vb E f (jp_j1 p b) n.toNat := by
    rw [j2]
    have q : 0 ≤ jp_vb E f p n.toNat * (E b + f) := Int.mul_nonneg v2.1 (by omega)
    omega
  refine ⟨⟨fun c d c0 c1 d0 d1 pc pd => ?_, fun c c0 c1 pc => ?_, fun t c c0 c1 pc hc => ?_⟩, posb⟩
  · have ed : d ≠ b := fun e => by rw [e, jp_j1_s] at pd; cases pd
    rw [jp_j1_n p ed] at pd
    by_cases ec : c = b
    · rw [ec]; exact hm d d0 d1 pd
    · rw [jp_j1_n p ec] at pc
      exact g1 c d c0 c1 d0 d1 pc pd
  · by_cases ec : c = b
    · rw [ec]; exact key
    · rw [jp_j1_n p ec] at pc
      have q := g1 c b c0 c1 h0 h1 pc hb
      have q2 : E b * jp_vb E f (jp_j1 p b) n.toNat ≤ E c * jp_vb E f (jp_j1 p b) n.toNat := Int.mul_le_mul_of_nonneg_right q (by omega)
      omega
  · by_cases hx : ∃ c' : Int, 0 ≤ c' ∧ c' < n ∧ p c' = true ∧ E c' < t
    · obtain ⟨c', a, a2, a3, a4⟩ := hx
      exact g3 t c' a a2 a3 a4
    · have hall : ∀ c' : Int, 0 ≤ c' → c' < n → p c' = true → t ≤ E c' := by
        intro c' a a2 a3
        by_cases z : t ≤ E c'
        · exact z
        · exact absurd ⟨c', a, a2, a3, by omega⟩ hx
      have ecb : c = b := by
        by_cases z : c = b
        · exact z
        · rw [jp_j1_n p z] at pc
          have := hall c c0 c1 pc
          omega
      subst ecb
      have eU : ∀ d : Int, 0 ≤ d → d < n → jp_ut E t d = p d := by
        intro d d0 d1
        unfold jp_ut
        cases pd : p d with
        | true => exact decide_eq_true (hall d d0 d1 pd)
        | false => have := hm d d0 d1 pd; exact decide_eq_false (by omega)
      obtain ⟨k1, k2, k3⟩ := jp_v_c (E := E) (f := f) (p := jp_ut E t) (q := p) n.toNat (fun d d0 d1 => eU d d0 (by omega))
      intro hcd
      have := hcd.2 c h0 h1
      unfold jp_up1 at this hg
      rw [k1, k2, k3] at this
      omega
/-- where the class stops -/
def jp_fin (E : Int → Int) (f n : Int) (p : Int → Bool) : Prop := jp_go E f n p ∧ 0 < jp_vb E f p n.toNat ∧ (∃ c : Int, 0 ≤ c ∧ c < n ∧ p c = true) ∧ (∀ d : Int, 0 ≤ d → d < n → p d = false → E d * jp_vb E f p n.toNat ≤ jp_up1 E f p n)
/-- .. the model finds the same, on its way down -/
theorem jp_fin_t {E : Int → Int} {f n : Int} {p : Int → Bool} (h : jp_fin E f n p) {t : Int} (ht : ∃ c : Int, 0 ≤ c ∧ c < n ∧ p c = true ∧ E c ≤ t) (hE : jp_Ek E f n) : (¬ jp_cd E f n t ∧ 1 ≤ t ∧ ∃ c : Int, 0 ≤ c ∧ c < n ∧ p c = true ∧ E c ≤ t - 1) ∨ (jp_cd E f n t ∧ jp_vb E f (jp_ut E t) n.toNat = jp_vb E f p n.toNat ∧ jp_up1 E f (jp_ut E t) n = jp_up1 E f p n) := by
  obtain ⟨⟨g1, g2, g3⟩, hb, -, hd⟩ := h
  by_cases hx : ∃ c' : Int, 0 ≤ c' ∧ c' < n ∧ p c' = true ∧ E c' < t
  · obtain ⟨c', a, a2, a3, a4⟩ := hx
    have he := hE.2.2 c' a a2
    exact Or.inl ⟨g3 t c' a a2 a3 a4, by omega, c', a, a2, a3, by omega⟩
  · have hall : ∀ c' : Int, 0 ≤ c' → c' < n → p c' = true → t ≤ E c' := by
      intro c' a a2 a3
      by_cases z : t ≤ E c'
      · exact z
      · exact absurd ⟨c', a, a2, a3, by omega⟩ hx
    obtain ⟨c, c0, c1, pc, ec⟩ := ht
    have ec2 : E c = t := by have := hall c c0 c1 pc; omega
    have eU : ∀ d : Int, 0 ≤ d → d < n → jp_ut E t d = p d := by
      intro d d0 d1
      unfold jp_ut
      cases pd : p d with
      | true => exact decide_eq_true (hall d d0 d1 pd)
      | false =>
        refine decide_eq_false (fun z => ?_)
        have q1 := hd d d0 d1 pd
        have q2 := g2 c c0 c1 pc
        have q3 : E c * jp_vb E f p n.toNat ≤ E d * jp_vb E f p n.toNat := Int.mul_le_mul_of_nonneg_right (by omega) (by omega)
        omega
    obtain ⟨k1, k2, k3⟩ := jp_v_c (E := E) (f := f) (p := jp_ut E t) (q := p) n.toNat (fun d d0 d1 => eU d d0 (by omega))
    have ku : jp_up1 E f (jp_ut E t) n = jp_up1 E f p n := by unfold jp_up1; rw [k1, k3]
    refine Or.inr ⟨⟨by rw [k2]; exact hb, fun d d0 d1 => ?_⟩, k2, ku⟩
    rw [k2, ku]
    cases pd : p d with
    | true => exact Or.inl (hall d d0 d1 pd)
    | false => exact Or.inr (hd d d0 d1 pd)
