/-! ways of escape: flows and cuts -/
theorem jp_sum_ad (f g : Int → Int) : ∀ n : Nat, jp_sum (fun i => f i + g i) n = jp_sum f n + jp_sum g n := by
  intro n
  induction n with
  | zero => rfl
  | succ n ih => rw [jp_sum, jp_sum, jp_sum, ih]; omega
theorem jp_sum_0 : ∀ n : Nat, jp_sum (fun _ => 0) n = 0 := by
  intro n
  induction n with
  | zero => rfl
  | succ n ih => rw [jp_sum, ih]; rfl
theorem jp_sum_o {f : Int → Int} {s : Int} (hs : 0 ≤ s) : ∀ n : Nat, s < (n : Int) → (∀ j : Int, 0 ≤ j → j < (n : Int) → j ≠ s → f j = 0) → jp_sum f n = f s := by
  intro n
  induction n with
  | zero => intro h; omega
  | succ n ih =>
    intro h hf
    rw [jp_sum]
    by_cases e : s = (n : Int)
    · rw [jp_sum_c n (f := f) (g := fun _ => 0) (fun j a b => hf j a (by omega) (by omega)), jp_sum_0, ← e]
      omega
    · rw [ih (by omega) (fun j a b => hf j a (by omega)), hf n (by omega) (by omega) (fun z => e z.symm)]
      omega
theorem jp_sum_sw (f : Int → Int → Int) (m : Nat) : ∀ n : Nat, jp_sum (fun i => jp_sum (fun j => f i j) m) n = jp_sum (fun j => jp_sum (fun i => f i j) n) m := by
  intro n
  induction n with
  | zero => rw [jp_sum]; exact (jp_sum_0 m).symm
  | succ n ih =>
    rw [jp_sum, ih]
    exact (jp_sum_ad _ _ m).symm
theorem jp_sum_cut (f : Int → Int) (m : Nat) : ∀ n : Nat, jp_sum f (m + n) = jp_sum f m + jp_sum (fun i => f ((m : Int) + i)) n := by
  intro n
  induction n with
  | zero => rw [Nat.add_zero, jp_sum]; omega
  | succ n ih =>
    rw [show m + (n + 1) = (m + n) + 1 by omega, jp_sum, ih, jp_sum, show ((m + n : Nat) : Int) = (m : Int) + (n : Int) by omega]
    omega
theorem jp_anti : ∀ (n : Nat) (G : Int → Int → Int), (∀ p q : Int, 0 ≤ p → p < (n : Int) → 0 ≤ q → q < (n : Int) → G p q = - G q p) → jp_sum (fun p => jp_sum (fun q => G p q) n) n = 0 := by
  intro n
  induction n with
  | zero => intro G _; rfl
  | succ n ih =>
    intro G h
    have h1 := ih G (fun p q a b c d => h p q a (by omega) c (by omega))
    have h2 := h n n (by omega) (by omega) (by omega) (by omega)
    have h3 : jp_sum (fun p => G p (n : Int)) n + jp_sum (fun q => G (n : Int) q) n = 0 := by
      rw [← jp_sum_ad, jp_sum_c n (g := fun _ => 0) (fun j a b => by
        have := h j n a (by omega) (by omega) (by omega)
        show G j (n : Int) + G (n : Int) j = 0
        omega)]
      exact jp_sum_0 n
    have e : jp_sum (fun p => jp_sum (fun q => G p q) (n + 1)) (n + 1) = (jp_sum (fun p => jp_sum (fun q => G p q) n) n + jp_sum (fun p => G p (n : Int)) n) + (jp_sum (fun q => G (n : Int) q) n + G (n : Int) (n : Int)) := by
      rw [jp_sum, jp_sum, ← jp_sum_ad]
      rfl
    rw [e]
    omega
/-- room at first -/
def jp_cap (T : Int → Int) (a b p q : Int) : Int := if p < 7 then (if q = 7 + p ∧ p < T 0 then (if p = a ∨ p = b then 99 else 1) else 0) else (if p - 7 < T 0 ∧ q < T 0 ∧ 0 < T (14 + 7 * (p - 7) + q) then 1 else 0)
theorem jp_cap_r (T : Int → Int) (a b p q : Int) : 0 ≤ jp_cap T a b p q ∧ jp_cap T a b p q ≤ 99 := by
  unfold jp_cap
  split
  · split
    · split <;> omega
    · omega
  · split <;> omega
/-- a flow of n -/
def jp_fl (T : Int → Int) (a b : Int) (R : Int → Int) (n : Int) : Prop :=
  (∀ p q : Int, 0 ≤ p → p < 14 → 0 ≤ q → q < 14 → 0 ≤ R (14 * p + q)) ∧
  (∀ p q : Int, 0 ≤ p → p < 14 → 0 ≤ q → q < 14 → R (14 * p + q) + R (14 * q + p) = jp_cap T a b p q + jp_cap T a b q p) ∧
  (∀ p : Int, 0 ≤ p → p < 14 → jp_sum (fun q => jp_cap T a b p q - R (14 * p + q)) 14 = (if p = 7 + a then n else 0) - (if p = b then n else 0))
theorem jp_fl_cut {T : Int → Int} {a b : Int} {R : Int → Int} {n : Int} (h : jp_fl T a b R n) (ha : 0 ≤ a ∧ a < 7) (hb : 0 ≤ b ∧ b < 7) (Q : Int → Bool) (hS : Q (7 + a) = true) (hE : Q b = false) : n = jp_sum (fun p => jp_sum (fun q => if Q p = true ∧ Q q = false then jp_cap T a b p q - R (14 * p + q) else 0) 14) 14 := by
  obtain ⟨h1, h2, h3⟩ := h
  have e1 : jp_sum (fun p => if Q p = true then jp_sum (fun q => jp_cap T a b p q - R (14 * p + q)) 14 else 0) 14 = n := by
    rw [jp_sum_o (s := 7 + a) (by omega) 14 (by omega) (fun j j0 j1 hj => ?_)]
    · rw [if_pos hS, h3 (7 + a) (by omega) (by omega), if_pos rfl, if_neg (by omega)]
      omega
    · by_cases z : Q j = true
      · rw [if_pos z, h3 j j0 (by omega), if_neg hj]
        have : j ≠ b := fun e => by rw [e, hE] at z; cases z
        rw [if_neg this]
        omega
      · rw [if_neg z]
  have e2 : ∀ p : Int, (if Q p = true then jp_sum (fun q => jp_cap T a b p q - R (14 * p + q)) 14 else 0) = jp_sum (fun q => if Q p = true ∧ Q q = true then jp_cap T a b p q - R (14 * p + q) else 0) 14 + jp_sum (fun q => if Q p = true ∧ Q q = false then jp_cap T a b p q - R (14 * p + q) else 0) 14 := by
    intro p
    rw [← jp_sum_ad]
    by_cases z : Q p = true
    · rw [if_pos z]
      refine jp_sum_c _ (fun q _ _ => ?_)
      cases hq : Q q with
      | true => rw [if_pos ⟨z, rfl⟩, if_neg (fun w => by cases w.2)]; omega
      | false => rw [if_neg (fun w => by cases w.2), if_pos ⟨z, rfl⟩]; omega
    · rw [if_neg z, jp_sum_c 14 (g := fun _ => 0) (fun q _ _ => by rw [if_neg (fun w => z w.1), if_neg (fun w => z w.1)]; rfl), jp_sum_0]
  have e3 : jp_sum (fun p => jp_sum (fun q => if Q p = true ∧ Q q = true then jp_cap T a b p q - R (14 * p + q) else 0) 14) 14 = 0 := by
    refine jp_anti 14 _ (fun p q p0 p1 q0 q1 => ?_)
    have := h2 p q p0 (by omega) q0 (by omega)
    by_cases z : Q p = true ∧ Q q = true
    · rw [if_pos z, if_pos ⟨z.2, z.1⟩]; omega
    · rw [if_neg z, if_neg (fun w => z ⟨w.2, w.1⟩)]; omega
  have e4 : jp_sum (fun p => if Q p = true then jp_sum (fun q => jp_cap T a b p q - R (14 * p + q)) 14 else 0) 14 = jp_sum (fun p => jp_sum (fun q => if Q p = true ∧ Q q = true then jp_cap T a b p q - R (14 * p + q) else 0) 14 + jp_sum (fun q => if Q p = true ∧ Q q = false then jp_cap T a b p q - R (14 * p + q) else 0) 14) 14 := jp_sum_c 14 (fun p _ _ => e2 p)
  rw [jp_sum_ad, e3, Int.zero_add, e1] at e4
  exact e4
/-- what a set lets out -/
def jp_out (T : Int → Int) (a b : Int) (Q : Int → Bool) : Int := jp_sum (fun p => jp_sum (fun q => if Q p = true ∧ Q q = false then jp_cap T a b p q else 0) 14) 14
theorem jp_fl_le {T : Int → Int} {a b : Int} {R : Int → Int} {n : Int} (h : jp_fl T a b R n) (ha : 0 ≤ a ∧ a < 7) (hb : 0 ≤ b ∧ b < 7) (Q : Int → Bool) (hS : Q (7 + a) = true) (hE : Q b = false) : n ≤ jp_out T a b Q := by
  have h1 : n = jp_sum (fun p => jp_sum (fun q => if Q p = true ∧ Q q = false then jp_cap T a b p q - R (14 * p + q) else 0) 14) 14 := jp_fl_cut h ha hb Q hS hE
  rw [h1]
  unfold jp_out
  refine (jp_sum_lt 14 (fun p p0 p1 => (jp_sum_lt 14 (fun q q0 q1 => ?_)).1)).1
  have := h.1 p q p0 (by omega) q0 (by omega)
  show (if Q p = true ∧ Q q = false then jp_cap T a b p q - R (14 * p + q) else 0) ≤ (if Q p = true ∧ Q q = false then jp_cap T a b p q else 0)
  split <;> omega
theorem jp_fl_eq {T : Int → Int} {a b : Int} {R : Int → Int} {n : Int} (h : jp_fl T a b R n) (ha : 0 ≤ a ∧ a < 7) (hb : 0 ≤ b ∧ b < 7) (Q : Int → Bool) (hS : Q (7 + a) = true) (hE : Q b = false) (hc : ∀ p q : Int, 0 ≤ p → p < 14 → 0 ≤ q → q < 14 → Q p = true → Q q = false → R (14 * p + q) ≤ 0) : n = jp_out T a b Q := by
  have h1 : n = jp_sum (fun p => jp_sum (fun q => if Q p = true ∧ Q q = false then jp_cap T a b p q - R (14 * p + q) else 0) 14) 14 := jp_fl_cut h ha hb Q hS hE
  rw [h1]
  unfold jp_out
  refine jp_sum_c 14 (fun p p0 p1 => jp_sum_c 14 (fun q q0 q1 => ?_))
  by_cases z : Q p = true ∧ Q q = false
  · have h2 := h.1 p q p0 (by omega) q0 (by omega)
    have h3 := hc p q p0 (by omega) q0 (by omega) z.1 z.2
    rw [if_pos z, if_pos z]
    omega
  · rw [if_neg z, if_neg z]
theorem jp_cap_1 (T : Int → Int) (a b : Int) {c : Int} (hc : c < 7) : jp_cap T a b c (7 + c) = if c < T 0 then (if c = a ∨ c = b then 99 else 1) else 0 := by
  unfold jp_cap
  rw [if_pos hc]
  exact jp_ifc ⟨fun w => w.2, fun w => ⟨rfl, w⟩⟩
theorem jp_cap_2 (T : Int → Int) (a b : Int) {c q : Int} (hc : c < 7) (hq : q ≠ 7 + c) : jp_cap T a b c q = 0 := by
  unfold jp_cap
  rw [if_pos hc, if_neg (fun w => hq w.1)]
theorem jp_cap_3 (T : Int → Int) (a b : Int) {c : Int} (q : Int) (hc : 0 ≤ c) : jp_cap T a b (7 + c) q = if c < T 0 ∧ q < T 0 ∧ 0 < T (14 + 7 * c + q) then 1 else 0 := by
  unfold jp_cap
  rw [if_neg (show ¬ 7 + c < 7 by omega), show 7 + c - 7 = c by omega]
/-- .. told by corners -/
theorem jp_out_c {T : Int → Int} (hT : jp_T T) (a b : Int) (Q : Int → Bool) : jp_out T a b Q = jp_sum (fun c => if c < T 0 ∧ Q c = true ∧ Q (7 + c) = false then (if c = a ∨ c = b then 99 else 1) else 0) 7 + jp_sum (fun c => jp_sum (fun d => if c < T 0 ∧ d < T 0 ∧ 0 < T (14 + 7 * c + d) ∧ Q (7 + c) = true ∧ Q d = false then 1 else 0) 7) 7 := by
  have t0 := hT.1.1
  unfold jp_out
  rw [show (14 : Nat) = 7 + 7 by decide, jp_sum_cut]
  have e1 : jp_sum (fun p => jp_sum (fun q => if Q p = true ∧ Q q = false then jp_cap T a b p q else 0) (7 + 7)) 7 = jp_sum (fun c => if c < T 0 ∧ Q c = true ∧ Q (7 + c) = false then (if c = a ∨ c = b then 99 else 1) else 0) 7 := by
    refine jp_sum_c 7 (fun c c0 c1 => ?_)
    rw [jp_sum_o (s := 7 + c) (by omega) (7 + 7) (by omega) (fun q q0 q1 hq => ?_)]
    · rw [jp_cap_1 T a b (by omega)]
      by_cases z : c < T 0 ∧ Q c = true ∧ Q (7 + c) = false
      · rw [if_pos z, if_pos z.2, if_pos z.1]
      · rw [if_neg z]
        by_cases z2 : Q c = true ∧ Q (7 + c) = false
        · rw [if_pos z2, if_neg (fun w => z ⟨w, z2⟩)]
        · rw [if_neg z2]
    · rw [jp_cap_2 T a b (by omega) hq]
      split <;> rfl
  have e2 : jp_sum (fun i => jp_sum (fun q => if Q (((7 : Nat) : Int) + i) = true ∧ Q q = false then jp_cap T a b (((7 : Nat) : Int) + i) q else 0) (7 + 7)) 7 = jp_sum (fun c => jp_sum (fun d => if c < T 0 ∧ d < T 0 ∧ 0 < T (14 + 7 * c + d) ∧ Q (7 + c) = true ∧ Q d = false then 1 else 0) 7) 7 := by
    refine jp_sum_c 7 (fun c c0 c1 => ?_)
    have h1 := jp_sum_cut (fun q => if Q (((7 : Nat) : Int) + c) = true ∧ Q q = false then jp_cap T a b (((7 : Nat) : Int) + c) q else 0) 7 7
    have h2 : jp_sum (fun i => if Q (((7 : Nat) : Int) + c) = true ∧ Q (((7 : Nat) : Int) + i) = false then jp_cap T a b (((7 : Nat) : Int) + c) (((7 : Nat) : Int) + i) else 0) 7 = 0 := by
      rw [jp_sum_c 7 (g := fun _ => 0) (fun i i0 i1 => ?_), jp_sum_0]
      have ec : (((7 : Nat) : Int) + c) = 7 + c := rfl
      have ei : (((7 : Nat) : Int) + i) = 7 + i := rfl
      rw [ec, ei, jp_cap_3 T a b _ c0, if_neg (show ¬ (c < T 0 ∧ 7 + i < T 0 ∧ 0 < T (14 + 7 * c + (7 + i))) by omega)]
      split <;> rfl
    rw [h1, h2, Int.add_zero]
    refine jp_sum_c 7 (fun d d0 d1 => ?_)
    have ec : (((7 : Nat) : Int) + c) = 7 + c := rfl
    rw [ec, jp_cap_3 T a b _ c0]
    by_cases z : Q (7 + c) = true ∧ Q d = false
    · rw [if_pos z]
      exact jp_ifc ⟨fun w => ⟨w.1, w.2.1, w.2.2, z⟩, fun w => ⟨w.1, w.2.1, w.2.2.1⟩⟩
    · rw [if_neg z, if_neg (fun w => z w.2.2.2)]
  rw [e1, e2]
/-- a set of corners parts the two -/
def jp_cls (T : Int → Int) (a b : Int) (X A : Int → Bool) : Prop := ∀ c d : Int, 0 ≤ c → c < T 0 → 0 ≤ d → d < T 0 → A c = true → 0 < T (14 + 7 * c + d) → ¬ (c = a ∧ d = b) → X d = false → A d = true
def jp_dr (T : Int → Int) (a b : Int) : Int := if 0 < T (14 + 7 * a + b) then 1 else 0
theorem jp_cutA {T : Int → Int} (hT : jp_T T) {a b : Int} (ha : 0 ≤ a ∧ a < T 0) (hb : 0 ≤ b ∧ b < T 0) {R : Int → Int} {n : Int} (h : jp_fl T a b R n) {X A : Int → Bool} (xa : X a = false) (xb : X b = false) (aa : A a = true) (ab : A b = false) (hcl : jp_cls T a b X A) : n ≤ jp_sum (fun c => jp_01 (X c)) 7 + jp_dr T a b := by
  have t0 := hT.1.1
  have h1 := jp_fl_le h (by omega) (by omega) (fun p => if p < 7 then A p || X p else A (p - 7)) (by
    show (if 7 + a < 7 then A (7 + a) || X (7 + a) else A (7 + a - 7)) = true
    rw [if_neg (by omega), show 7 + a - 7 = a by omega]; exact aa) (by
    show (if b < 7 then A b || X b else A (b - 7)) = false
    rw [if_pos (by omega), ab, xb]; rfl)
  rw [jp_out_c hT] at h1
  have h2 : jp_sum (fun c => if c < T 0 ∧ (if c < 7 then A c || X c else A (c - 7)) = true ∧ (if 7 + c < 7 then A (7 + c) || X (7 + c) else A (7 + c - 7)) = false then (if c = a ∨ c = b then 99 else 1) else 0) 7 ≤ jp_sum (fun c => jp_01 (X c)) 7 := by
    refine (jp_sum_lt 7 (fun c c0 c1 => ?_)).1
    have hr := jp_01r (X c)
    show (if c < T 0 ∧ (if c < 7 then A c || X c else A (c - 7)) = true ∧ (if 7 + c < 7 then A (7 + c) || X (7 + c) else A (7 + c - 7)) = false then (if c = a ∨ c = b then 99 else 1) else 0) ≤ jp_01 (X c)
    rw [if_pos (show c < 7 by omega), if_neg (show ¬ 7 + c < 7 by omega), show 7 + c - 7 = c by omega]
    by_cases z : c < T 0 ∧ (A c || X c) = true ∧ A c = false
    · have hx : X c = true := by have := z.2.1; rw [z.2.2, Bool.false_or] at this; exact this
      have hne : ¬ (c = a ∨ c = b) := fun w => by
        rcases w with w | w
        · rw [w, xa] at hx; cases hx
        · rw [w, xb] at hx; cases hx
      rw [if_pos z, if_neg hne, hx, jp_01t]
      omega
    · rw [if_neg z]; omega
  have h3 : jp_sum (fun c => jp_sum (fun d => if c < T 0 ∧ d < T 0 ∧ 0 < T (14 + 7 * c + d) ∧ (if 7 + c < 7 then A (7 + c) || X (7 + c) else A (7 + c - 7)) = true ∧ (if d < 7 then A d || X d else A (d - 7)) = false then 1 else 0) 7) 7 ≤ jp_dr T a b := by
    have e : jp_sum (fun c => jp_sum (fun d => if c = a ∧ d = b then jp_dr T a b else 0) 7) 7 = jp_dr T a b := by
      rw [jp_sum_o (s := a) ha.1 7 (by omega) (fun c c0 c1 hc => ?_)]
      · rw [jp_sum_o (s := b) hb.1 7 (by omega) (fun d d0 d1 hd => if_neg (fun w => hd w.2)), if_pos ⟨rfl, rfl⟩]
      · rw [jp_sum_c 7 (g := fun _ => 0) (fun d _ _ => if_neg (fun w => hc w.1)), jp_sum_0]
    rw [← e]
    refine (jp_sum_lt 7 (fun c c0 c1 => (jp_sum_lt 7 (fun d d0 d1 => ?_)).1)).1
    have hdr : 0 ≤ jp_dr T a b := by unfold jp_dr; split <;> omega
    show (if c < T 0 ∧ d < T 0 ∧ 0 < T (14 + 7 * c + d) ∧ (if 7 + c < 7 then A (7 + c) || X (7 + c) else A (7 + c - 7)) = true ∧ (if d < 7 then A d || X d else A (d - 7)) = false then 1 else 0) ≤ (if c = a ∧ d = b then jp_dr T a b else 0)
    rw [if_neg (show ¬ 7 + c < 7 by omega), show 7 + c - 7 = c by omega, if_pos (show d < 7 by omega)]
    by_cases z : c < T 0 ∧ d < T 0 ∧ 0 < T (14 + 7 * c + d) ∧ A c = true ∧ (A d || X d) = false
    · rw [if_pos z]
      obtain ⟨z1, z2, z3, z4, z5⟩ := z
      rw [Bool.or_eq_false_iff] at z5
      by_cases w : c = a ∧ d = b
      · rw [if_pos w]
        unfold jp_dr
        rw [← w.1, ← w.2, if_pos z3]
        exact Int.le_refl _
      · have := hcl c d c0 z1 d0 z2 z4 z3 w z5.2
        rw [z5.1] at this; cases this
    · rw [if_neg z]
      split <;> omega
  have h4 : n ≤ _ + _ := h1
  omega
