/-! where to stand: scores, the law, the best corner -/
def jp_all (p : Int → Bool) : Nat → Bool
  | 0 => true
  | n + 1 => jp_all p n && p (n : Int)
theorem jp_all_s (p : Int → Bool) {i : Int} (h : 0 ≤ i) : jp_all p (i + 1).toNat = (jp_all p i.toNat && p i) := by
  have e : (i + 1).toNat = i.toNat + 1 := by omega
  rw [e, jp_all, Int.toNat_of_nonneg h]
theorem jp_all_i (p : Int → Bool) : ∀ n : Nat, jp_all p n = true ↔ ∀ i : Int, 0 ≤ i → i < (n : Int) → p i = true := by
  intro n
  induction n with
  | zero => exact ⟨fun _ i a b => by omega, fun _ => rfl⟩
  | succ n ih =>
    rw [jp_all, Bool.and_eq_true, ih]
    refine ⟨fun h i a b => ?_, fun h => ⟨fun i a b => h i a (by omega), h n (by omega) (by omega)⟩⟩
    by_cases e : i = (n : Int)
    · rw [e]; exact h.2
    · exact h.1 i a (by omega)
theorem jp_all_c {p q : Int → Bool} (n : Nat) (h : ∀ i : Int, 0 ≤ i → i < (n : Int) → p i = q i) : jp_all p n = jp_all q n := by
  induction n with
  | zero => rfl
  | succ n ih => rw [jp_all, jp_all, ih (fun i a b => h i a (by omega)), h n (by omega) (by omega)]
theorem jp_all_f {p : Int → Bool} {n : Nat} {i : Int} (h0 : 0 ≤ i) (h1 : i < (n : Int)) (h : p i = false) : jp_all p n = false := by
  cases e : jp_all p n with
  | false => rfl
  | true =>
    have := (jp_all_i p n).mp e i h0 h1
    rw [h] at this
    cases this
def jp_01 (b : Bool) : Int := if b = true then 1 else 0
theorem jp_01t : jp_01 true = 1 := rfl
theorem jp_01f : jp_01 false = 0 := rfl
theorem jp_01r (b : Bool) : jp_01 b = 0 ∨ jp_01 b = 1 := by cases b <;> simp [jp_01]
def jp_mask (p : Int → Bool) : Nat → Int
  | 0 => 0
  | n + 1 => jp_mask p n + (if p (n : Int) = true then 2 ^ n else 0)
theorem jp_mask_r (p : Int → Bool) : ∀ n : Nat, 0 ≤ jp_mask p n ∧ jp_mask p n < 2 ^ n := by
  intro n
  induction n with
  | zero => simp [jp_mask]
  | succ n ih =>
    have e : (2 : Int) ^ (n + 1) = 2 * 2 ^ n := by rw [Int.pow_succ]; omega
    have e0 : (0 : Int) < 2 ^ n := Int.pow_pos (by decide)
    rw [jp_mask, e]
    split <;> omega
theorem jp_p2 {c : Int} (h : 0 ≤ c ∧ c < 7) : (2 : Int) ^ c.toNat ≤ 64 ∧ 1 ≤ (2 : Int) ^ c.toNat := by
  have h1 : c = 0 ∨ c = 1 ∨ c = 2 ∨ c = 3 ∨ c = 4 ∨ c = 5 ∨ c = 6 := by omega
  rcases h1 with rfl | rfl | rfl | rfl | rfl | rfl | rfl <;> decide
theorem jp_or_f : ∀ (c : Fin 7) (x : Fin 128), ((x : Nat) : Int) < 2 ^ (c : Nat) → jw_ior ((x : Nat) : Int) (jw_ishl 1 ((c : Nat) : Int)) = ((x : Nat) : Int) + 2 ^ (c : Nat) := by decide +kernel
theorem jp_or {x c : Int} (hc : 0 ≤ c ∧ c < 7) (hx : 0 ≤ x ∧ x < 2 ^ c.toNat) : jw_ior x (jw_ishl 1 c) = x + 2 ^ c.toNat := by
  have h2 := jp_p2 hc
  have h := jp_or_f ⟨c.toNat, by omega⟩ ⟨x.toNat, by omega⟩
  simp only [Int.toNat_of_nonneg hx.1, Int.toNat_of_nonneg hc.1] at h
  exact h hx.2
theorem jp_or0_f : ∀ (x : Fin 128), jw_ior ((x : Nat) : Int) 0 = ((x : Nat) : Int) := by decide +kernel
theorem jp_or0 {x : Int} (hx : 0 ≤ x ∧ x < 128) : jw_ior x 0 = x := by
  have h := jp_or0_f ⟨x.toNat, by omega⟩
  simp only [Int.toNat_of_nonneg hx.1] at h
  exact h
theorem jp_bit_f : ∀ (n : Fin 7) (x : Fin 128) (c : Fin 7), ((x : Nat) : Int) < 2 ^ (n : Nat) → ((c : Nat) < (n : Nat) → jp_bit (((x : Nat) : Int) + 2 ^ (n : Nat)) ((c : Nat) : Int) = jp_bit ((x : Nat) : Int) ((c : Nat) : Int)) ∧ jp_bit (((x : Nat) : Int) + 2 ^ (n : Nat)) ((n : Nat) : Int) = 1 ∧ jp_bit ((x : Nat) : Int) ((n : Nat) : Int) = 0 := by decide +kernel
theorem jp_mask_bit (p : Int → Bool) : ∀ n : Nat, n ≤ 7 → ∀ c : Int, 0 ≤ c → c < (n : Int) → jp_bit (jp_mask p n) c = jp_01 (p c) := by
  intro n
  induction n with
  | zero => intro _ c a b; omega
  | succ n ih =>
    intro hn c a b
    have hr := jp_mask_r p n
    have hp : (2 : Int) ^ n ≤ 64 := by have := (jp_p2 (c := (n : Int)) ⟨by omega, by omega⟩).1; rw [Int.toNat_natCast] at this; exact this
    have h := jp_bit_f ⟨n, by omega⟩ ⟨(jp_mask p n).toNat, by omega⟩ ⟨c.toNat, by omega⟩
    simp only [Int.toNat_of_nonneg hr.1, Int.toNat_of_nonneg a] at h
    obtain ⟨h1, h2, h3⟩ := h hr.2
    rw [jp_mask]
    by_cases e : c = (n : Int)
    · rw [e]
      cases hpn : p (n : Int) with
      | true => rw [if_pos rfl, h2]; rfl
      | false => rw [if_neg (by decide), Int.add_zero, h3]; rfl
    · split
      · rw [h1 (by omega)]; exact ih (by omega) c a (by omega)
      · rw [Int.add_zero]; exact ih (by omega) c a (by omega)
theorem jp_mask_s (p : Int → Bool) {i : Int} (h : 0 ≤ i) : jp_mask p (i + 1).toNat = jp_mask p i.toNat + (if p i = true then 2 ^ i.toNat else 0) := by
  have e : (i + 1).toNat = i.toNat + 1 := by omega
  rw [e, jp_mask, Int.toNat_of_nonneg h]
theorem jp_mask_c {p q : Int → Bool} (n : Nat) (h : ∀ i : Int, 0 ≤ i → i < (n : Int) → p i = q i) : jp_mask p n = jp_mask q n := by
  induction n with
  | zero => rfl
  | succ n ih => rw [jp_mask, jp_mask, ih (fun i a b => h i a (by omega)), h n (by omega) (by omega)]
theorem jp_mask_7 (p : Int → Bool) {i : Int} (h : 0 ≤ i ∧ i ≤ 7) : 0 ≤ jp_mask p i.toNat ∧ jp_mask p i.toNat < 128 := by
  have h1 := jp_mask_r p i.toNat
  have h2 : (2 : Int) ^ i.toNat ≤ 128 := by
    have h1 : i = 0 ∨ i = 1 ∨ i = 2 ∨ i = 3 ∨ i = 4 ∨ i = 5 ∨ i = 6 ∨ i = 7 := by omega
    rcases h1 with rfl | rfl | rfl | rfl | rfl | rfl | rfl | rfl <;> decide
  omega
theorem jp_mb {x y a b : Int} (hx : 0 ≤ x ∧ x ≤ a) (hy : 0 ≤ y ∧ y ≤ b) : 0 ≤ x * y ∧ x * y ≤ a * b := ⟨Int.mul_nonneg hx.1 hy.1, Int.mul_le_mul hx.2 hy.2 hy.1 (by omega)⟩
theorem jp_tdb {a b : Int} (ha : 0 ≤ a) (hb : 1 ≤ b) : 0 ≤ a.tdiv b ∧ a.tdiv b ≤ a := by
  rw [Int.tdiv_eq_ediv_of_nonneg ha]
  exact ⟨Int.ediv_nonneg ha (by omega), Int.ediv_le_self b ha⟩
/-- one more of its goods there -/
def jp_cr (T P : Int → Int) (s c q : Int) : Int := if q ≠ s ∧ T (90 + q) = T (90 + s) ∧ P q = c then 1 else 0
def jp_s0 (T N : Int → Int) (s c a : Int) : Int := (60 * T (7 + c)).tdiv a - (10 * (T (64 + 3 * T (90 + s)) + T (65 + 3 * T (90 + s))) * (jp_ct N c (N 9).toNat + 1)).tdiv (N 9 + 2)
def jp_sc (T N P : Int → Int) (s c : Int) : Int := jp_s0 T N s c (1 + jp_sum (jp_cr T P s c) (T 3).toNat)
def jp_lp (T P : Int → Int) (g b c q : Int) : Bool := decide (q = b) || decide (T (90 + q) ≠ g) || decide (T 87 ≤ jp_wk T c (P q))
def jp_lw (T P : Int → Int) (g b c : Int) : Bool := jp_all (jp_lp T P g b c) (T 3).toNat
def jp_bc (T N P : Int → Int) (s : Int) : Nat → Int
  | 0 => P s
  | n + 1 => if jp_sc T N P s (jp_bc T N P s n) < jp_sc T N P s (n : Int) ∧ jp_lw T P (T (90 + s)) s (n : Int) = true then (n : Int) else jp_bc T N P s n
def jp_be (T N P : Int → Int) (s : Int) : Int := jp_bc T N P s (T 0).toNat
def jp_rs (T N P : Int → Int) : Bool := jp_all (fun s => decide (jp_be T N P s = P s)) (T 3).toNat
theorem jp_cr_r (T P : Int → Int) (s c q : Int) : 0 ≤ jp_cr T P s c q ∧ jp_cr T P s c q ≤ 1 := by
  unfold jp_cr
  split <;> omega
theorem jp_cr_b {T P : Int → Int} (h3 : 0 ≤ T 3 ∧ T 3 ≤ 5) (s c i : Int) (h0 : 0 ≤ i) (h1 : i ≤ T 3) : 0 ≤ jp_sum (jp_cr T P s c) i.toNat ∧ jp_sum (jp_cr T P s c) i.toNat ≤ 5 := by
  have := jp_sum_r (f := jp_cr T P s c) h3 (fun j _ _ => jp_cr_r T P s c j) (by omega) (by omega) i h0 h1
  omega
/-- positions count only where there are sellers; of the days only the days -/
theorem jp_ct_e {N N' : Int → Int} (h : ∀ j : Int, 9 ≤ j → j < 22 → N' j = N j) (h9 : 0 ≤ N 9 ∧ N 9 ≤ 12) (c : Int) : jp_ct N' c (N' 9).toNat = jp_ct N c (N 9).toNat := by
  rw [h 9 (by omega) (by omega)]
  exact jp_ct_c (fun j a b => h j (by omega) b) c _ (by omega)
theorem jp_sc_e {T N N' P P' : Int → Int} (h3 : 0 ≤ T 3) (hN : ∀ j : Int, 9 ≤ j → j < 22 → N' j = N j) (h9 : 0 ≤ N 9 ∧ N 9 ≤ 12) (hP : ∀ q : Int, 0 ≤ q → q < T 3 → P' q = P q) (s c : Int) : jp_sc T N' P' s c = jp_sc T N P s c := by
  have e : jp_sum (jp_cr T P' s c) (T 3).toNat = jp_sum (jp_cr T P s c) (T 3).toNat := jp_sum_c _ (fun q a b => by unfold jp_cr; rw [hP q a (by omega)])
  unfold jp_sc jp_s0
  rw [e, jp_ct_e hN h9, hN 9 (by omega) (by omega)]
theorem jp_lw_e {T P P' : Int → Int} (h3 : 0 ≤ T 3) (hP : ∀ q : Int, 0 ≤ q → q < T 3 → P' q = P q) (g b c : Int) : jp_lw T P' g b c = jp_lw T P g b c := by
  refine jp_all_c _ (fun q a b => ?_)
  unfold jp_lp
  rw [hP q a (by omega)]
theorem jp_be_e {T N N' P P' : Int → Int} (h3 : 0 ≤ T 3) (hN : ∀ j : Int, 9 ≤ j → j < 22 → N' j = N j) (h9 : 0 ≤ N 9 ∧ N 9 ≤ 12) (hP : ∀ q : Int, 0 ≤ q → q < T 3 → P' q = P q) (s : Int) (hs : 0 ≤ s ∧ s < T 3) : jp_be T N' P' s = jp_be T N P s := by
  have : ∀ n : Nat, jp_bc T N' P' s n = jp_bc T N P s n := by
    intro n
    induction n with
    | zero => exact hP s hs.1 hs.2
    | succ n ih => rw [jp_bc, jp_bc, ih, jp_sc_e h3 hN h9 hP, jp_sc_e h3 hN h9 hP, jp_lw_e h3 hP]
  exact this _
theorem jp_rs_e {T N N' P P' : Int → Int} (h3 : 0 ≤ T 3) (hN : ∀ j : Int, 9 ≤ j → j < 22 → N' j = N j) (h9 : 0 ≤ N 9 ∧ N 9 ≤ 12) (hP : ∀ q : Int, 0 ≤ q → q < T 3 → P' q = P q) : jp_rs T N' P' = jp_rs T N P := by
  refine jp_all_c _ (fun q a b => ?_)
  rw [jp_be_e h3 hN h9 hP q ⟨a, by omega⟩, hP q a (by omega)]
theorem jp_bc_r {T N P : Int → Int} {s : Int} (hs : 0 ≤ P s ∧ P s < T 0) : ∀ n : Nat, (n : Int) ≤ T 0 → 0 ≤ jp_bc T N P s n ∧ jp_bc T N P s n < T 0 := by
  intro n
  induction n with
  | zero => intro _; exact hs
  | succ n ih =>
    intro hn
    rw [jp_bc]
    split
    · omega
    · exact ih (by omega)
theorem jp_s0_r {T N : Int → Int} (hT : jp_T T) (h9 : 0 ≤ N 9 ∧ N 9 ≤ 12) {s c a : Int} (hs : 0 ≤ s ∧ s < T 3) (hc : 0 ≤ c ∧ c < T 0) (ha : 1 ≤ a) : (0 ≤ T (7 + c) ∧ T (7 + c) ≤ 99) ∧ (1 ≤ T (64 + 3 * T (90 + s)) + T (65 + 3 * T (90 + s)) ∧ T (64 + 3 * T (90 + s)) + T (65 + 3 * T (90 + s)) ≤ 198) ∧ (0 ≤ jp_ct N c (N 9).toNat ∧ jp_ct N c (N 9).toNat ≤ 12) ∧ (0 ≤ (60 * T (7 + c)).tdiv a ∧ (60 * T (7 + c)).tdiv a ≤ 5940) ∧ (0 ≤ 10 * (T (64 + 3 * T (90 + s)) + T (65 + 3 * T (90 + s))) * (jp_ct N c (N 9).toNat + 1) ∧ 10 * (T (64 + 3 * T (90 + s)) + T (65 + 3 * T (90 + s))) * (jp_ct N c (N 9).toNat + 1) ≤ 25740) ∧ (0 ≤ (10 * (T (64 + 3 * T (90 + s)) + T (65 + 3 * T (90 + s))) * (jp_ct N c (N 9).toNat + 1)).tdiv (N 9 + 2) ∧ (10 * (T (64 + 3 * T (90 + s)) + T (65 + 3 * T (90 + s))) * (jp_ct N c (N 9).toNat + 1)).tdiv (N 9 + 2) ≤ 25740) := by
  obtain ⟨⟨t0, t2, t3, -⟩, -, te, -, tg, -, ts⟩ := hT
  have e1 := te c hc.1 (by omega)
  obtain ⟨e2, e3⟩ := ts s hs.1 hs.2
  have e4 := tg _ e2 e3
  have e5 := jp_ct_r N c (N 9).toNat
  have e6 := jp_tdb (a := 60 * T (7 + c)) (by omega) ha
  have e7 := jp_mb (x := 10 * (T (64 + 3 * T (90 + s)) + T (65 + 3 * T (90 + s)))) (y := jp_ct N c (N 9).toNat + 1) (a := 1980) (b := 13) (by omega) (by omega)
  have e8 := jp_tdb (b := N 9 + 2) e7.1 (by omega)
  refine ⟨e1, by omega, by omega, by omega, by omega, by omega⟩
theorem zX10_lossOf {M : jw_M} (hA : jp_A M) (s : Int) (h : 0 ≤ s ∧ s < M 131 3) {be : Type} (kk : Int → Option be) : Option.bind (fX10_lossOf 17 s M) kk = kk (M 131 (64 + 3 * M 131 (90 + s)) + M 131 (65 + 3 * M 131 (90 + s))) := bX10_lossOf hA s h kk
theorem zX1_fearedAbove {M : jw_M} (hD : jp_D M) (c : Int) (hc : 0 ≤ c ∧ c < 7) {be : Type} (kk : Int → Option be) : Option.bind (fX1_fearedAbove 30 c M) kk = kk (jp_ct (M 133) c (M 133 9).toNat + 1) := bX1_fearedAbove hD c hc kk
theorem zX1_fearedBelow {M : jw_M} (hD : jp_D M) {be : Type} (kk : Int → Option be) : Option.bind (fX1_fearedBelow 30 M) kk = kk (M 133 9 + 2) := bX1_fearedBelow hD kk
theorem zX9_walkTo {M : jw_M} (hA : jp_A M) (a b : Int) (h : 0 ≤ a ∧ a < M 131 0 ∧ 0 ≤ b ∧ b < M 131 0) {be : Type} (kk : Int → Option be) : Option.bind (fX9_walkTo 10 a b M) kk = kk (jp_wk (M 131) a b) := bX9_walkTo hA a b h kk
theorem gX8_scoreAmong {M : jw_M} (hA : jp_A M) (hD : jp_D M) (s c a : Int) (hs : 0 ≤ s ∧ s < M 131 3) (hc : 0 ≤ c ∧ c < M 131 0) (ha : 1 ≤ a) : fX8_scoreAmong s c a M = some (jp_s0 (M 131) (M 133) s c a) := by
  have hr := (jp_A_r hA).1
  have h9 := hD.1.1
  obtain ⟨q1, q2, q3, q4, q5, q6⟩ := jp_s0_r hA.1 h9 hs hc ha
  have e := hA.2.2.1 c hc.1 hc.2
  unfold fX8_scoreAmong fX8_scoreAmong_23 jp_s0
  simp (disch := omega) only [↓jp_bs, ↓jp_b2s, ↓reduceIte, jw_up_a, Nat.reduceEqDiff, Int.reduceEq, Int.reduceLT, Int.reduceLE, Int.reduceAdd, Int.reduceSub, Int.reduceMul, Int.reduceNeg, jp_n9_1, jp_n9_8, jp_n9_15, jp_n9_21, jp_n9_24, jp_n10_1, jp_n10_2, jp_n10_3, jp_n10_4, jp_n10_5, jp_n10_6, jp_n17_1, jp_n17_2, jp_n17_3, jp_n17_4, jp_n17_5, jp_n17_6, jp_n24_1, jp_n24_2, jp_n24_3, jp_n24_4, jp_n24_5, jp_n30_1, jp_n30_2, jp_n33_1, jp_n33_2, false_and, true_and, and_true, and_false, and_self, ne_eq, not_true_eq_false, not_false_eq_true, jw_ws, jw_vs, jw_cmp_lt, jw_cmp_gt, jw_cmp_eq, jp_t1, jp_t2, jp_t3, jp_t4, jp_t5, jp_t6, e, ↓zX10_lossOf hA, ↓zX1_fearedAbove hD, ↓zX1_fearedBelow hD]
theorem bX8_scoreAmong {M : jw_M} (hA : jp_A M) (hD : jp_D M) (s c a : Int) (hs : 0 ≤ s ∧ s < M 131 3) (hc : 0 ≤ c ∧ c < M 131 0) (ha : 1 ≤ a) {be : Type} (kk : _ → Option be) : Option.bind (fX8_scoreAmong s c a M) kk = kk ((jp_s0 (M 131) (M 133) s c a)) := by rw [show fX8_scoreAmong s c a M = some (jp_s0 (M 131) (M 133) s c a) from gX8_scoreAmong hA hD s c a hs hc ha]; rfl
theorem gX8_scoreAt {M : jw_M} (hA : jp_A M) (hD : jp_D M) (s c : Int) (hs : 0 ≤ s ∧ s < M 131 3) (hc : 0 ≤ c ∧ c < M 131 0) : fX8_scoreAt s c M = some (jp_sc (M 131) (M 133) (M 22) s c) := by
  obtain ⟨⟨c0, -⟩, -, g4, g7⟩ := jp_A_c hA
  obtain ⟨⟨r0, r2, r3, r4, r5⟩, -⟩ := jp_A_r hA
  have es := (jp_gof hA hs).1
  unfold fX8_scoreAt
  simp (disch := omega) only [↓jp_bs, ↓jp_b2s, ↓reduceIte, jw_up_a, Nat.reduceEqDiff, Int.reduceEq, Int.reduceLT, Int.reduceLE, Int.reduceAdd, Int.reduceSub, Int.reduceMul, Int.reduceNeg, jp_n9_1, jp_n9_8, jp_n9_15, jp_n9_21, jp_n9_24, jp_n10_1, jp_n10_2, jp_n10_3, jp_n10_4, jp_n10_5, jp_n10_6, jp_n17_1, jp_n17_2, jp_n17_3, jp_n17_4, jp_n17_5, jp_n17_6, jp_n24_1, jp_n24_2, jp_n24_3, jp_n24_4, jp_n24_5, jp_n30_1, jp_n30_2, jp_n33_1, jp_n33_2, false_and, true_and, and_true, and_false, and_self, ne_eq, not_true_eq_false, not_false_eq_true, jw_ws, jw_vs, jw_cmp_lt, jw_cmp_gt, jw_cmp_eq, jp_t1, jp_t2, jp_t3, jp_t4, jp_t5, jp_t6]
  refine jp_up (fun k i a => fX8_scoreAt_5 M k s c a i) (M 131 3) (fun i a => 0 ≤ i ∧ a = 1 + jp_sum (jp_cr (M 131) (M 22) s c) i.toNat) (fun x => x = some (jp_sc (M 131) (M 133) (M 22) s c)) ?_ ?_ jw_fu 0 1 (by unfold jw_fu; omega) (by omega) ⟨by omega, rfl⟩
  · intro k i a hp hi ih
    obtain ⟨h0, rfl⟩ := hp
    have q1 := jp_cr_b (T := M 131) (P := M 22) r3 s c i h0 (by omega)
    have ei := (jp_gof hA ⟨h0, hi⟩).1
    show fX8_scoreAt_5 _ _ _ _ _ _ = _
    rw [fX8_scoreAt_5]
    unfold fX8_scoreAt_62
    by_cases h1 : i = s
    · have e : jp_cr (M 131) (M 22) s c i = 0 := if_neg (fun z => z.1 h1)
      simp (disch := omega) only [↓jp_bs, ↓jp_b2s, ↓reduceIte, jw_up_a, Nat.reduceEqDiff, Int.reduceEq, Int.reduceLT, Int.reduceLE, Int.reduceAdd, Int.reduceSub, Int.reduceMul, Int.reduceNeg, jp_n9_1, jp_n9_8, jp_n9_15, jp_n9_21, jp_n9_24, jp_n10_1, jp_n10_2, jp_n10_3, jp_n10_4, jp_n10_5, jp_n10_6, jp_n17_1, jp_n17_2, jp_n17_3, jp_n17_4, jp_n17_5, jp_n17_6, jp_n24_1, jp_n24_2, jp_n24_3, jp_n24_4, jp_n24_5, jp_n30_1, jp_n30_2, jp_n33_1, jp_n33_2, false_and, true_and, and_true, and_false, and_self, ne_eq, not_true_eq_false, not_false_eq_true, jw_ws, jw_vs, jw_cmp_lt, jw_cmp_gt, jw_cmp_eq, jp_t1, jp_t2, jp_t3, jp_t4, jp_t5, jp_t6, g4]
      exact ih _ ⟨by omega, by rw [jp_sum_s _ h0, e]; omega⟩
    · by_cases h2 : M 131 (90 + i) = M 131 (90 + s)
      · by_cases h3 : M 22 i = c
        · have e : jp_cr (M 131) (M 22) s c i = 1 := if_pos ⟨h1, h2, h3⟩
          simp (disch := omega) only [↓jp_bs, ↓jp_b2s, ↓reduceIte, jw_up_a, Nat.reduceEqDiff, Int.reduceEq, Int.reduceLT, Int.reduceLE, Int.reduceAdd, Int.reduceSub, Int.reduceMul, Int.reduceNeg, jp_n9_1, jp_n9_8, jp_n9_15, jp_n9_21, jp_n9_24, jp_n10_1, jp_n10_2, jp_n10_3, jp_n10_4, jp_n10_5, jp_n10_6, jp_n17_1, jp_n17_2, jp_n17_3, jp_n17_4, jp_n17_5, jp_n17_6, jp_n24_1, jp_n24_2, jp_n24_3, jp_n24_4, jp_n24_5, jp_n30_1, jp_n30_2, jp_n33_1, jp_n33_2, false_and, true_and, and_true, and_false, and_self, ne_eq, not_true_eq_false, not_false_eq_true, jw_ws, jw_vs, jw_cmp_lt, jw_cmp_gt, jw_cmp_eq, jp_t1, jp_t2, jp_t3, jp_t4, jp_t5, jp_t6, g4, ei, es]
          exact ih _ ⟨by omega, by rw [jp_sum_s _ h0, e]; omega⟩
        · have e : jp_cr (M 131) (M 22) s c i = 0 := if_neg (fun z => h3 z.2.2)
          simp (disch := omega) only [↓jp_bs, ↓jp_b2s, ↓reduceIte, jw_up_a, Nat.reduceEqDiff, Int.reduceEq, Int.reduceLT, Int.reduceLE, Int.reduceAdd, Int.reduceSub, Int.reduceMul, Int.reduceNeg, jp_n9_1, jp_n9_8, jp_n9_15, jp_n9_21, jp_n9_24, jp_n10_1, jp_n10_2, jp_n10_3, jp_n10_4, jp_n10_5, jp_n10_6, jp_n17_1, jp_n17_2, jp_n17_3, jp_n17_4, jp_n17_5, jp_n17_6, jp_n24_1, jp_n24_2, jp_n24_3, jp_n24_4, jp_n24_5, jp_n30_1, jp_n30_2, jp_n33_1, jp_n33_2, false_and, true_and, and_true, and_false, and_self, ne_eq, not_true_eq_false, not_false_eq_true, jw_ws, jw_vs, jw_cmp_lt, jw_cmp_gt, jw_cmp_eq, jp_t1, jp_t2, jp_t3, jp_t4, jp_t5, jp_t6, g4, ei, es]
          exact ih _ ⟨by omega, by rw [jp_sum_s _ h0, e]; omega⟩
      · have e : jp_cr (M 131) (M 22) s c i = 0 := if_neg (fun z => h2 z.2.1)
        simp (disch := omega) only [↓jp_bs, ↓jp_b2s, ↓reduceIte, jw_up_a, Nat.reduceEqDiff, Int.reduceEq, Int.reduceLT, Int.reduceLE, Int.reduceAdd, Int.reduceSub, Int.reduceMul, Int.reduceNeg, jp_n9_1, jp_n9_8, jp_n9_15, jp_n9_21, jp_n9_24, jp_n10_1, jp_n10_2, jp_n10_3, jp_n10_4, jp_n10_5, jp_n10_6, jp_n17_1, jp_n17_2, jp_n17_3, jp_n17_4, jp_n17_5, jp_n17_6, jp_n24_1, jp_n24_2, jp_n24_3, jp_n24_4, jp_n24_5, jp_n30_1, jp_n30_2, jp_n33_1, jp_n33_2, false_and, true_and, and_true, and_false, and_self, ne_eq, not_true_eq_false, not_false_eq_true, jw_ws, jw_vs, jw_cmp_lt, jw_cmp_gt, jw_cmp_eq, jp_t1, jp_t2, jp_t3, jp_t4, jp_t5, jp_t6, g4, ei, es]
        exact ih _ ⟨by omega, by rw [jp_sum_s _ h0, e]; omega⟩
  · intro k a hp
    obtain ⟨h0, rfl⟩ := hp
    have q1 := jp_cr_b (T := M 131) (P := M 22) r3 s c (M 131 3) h0 (by omega)
    show fX8_scoreAt_5 _ _ _ _ _ _ = _
    rw [fX8_scoreAt_5]
    simp (disch := omega) only [↓jp_bs, ↓jp_b2s, ↓reduceIte, jw_up_a, Nat.reduceEqDiff, Int.reduceEq, Int.reduceLT, Int.reduceLE, Int.reduceAdd, Int.reduceSub, Int.reduceMul, Int.reduceNeg, jp_n9_1, jp_n9_8, jp_n9_15, jp_n9_21, jp_n9_24, jp_n10_1, jp_n10_2, jp_n10_3, jp_n10_4, jp_n10_5, jp_n10_6, jp_n17_1, jp_n17_2, jp_n17_3, jp_n17_4, jp_n17_5, jp_n17_6, jp_n24_1, jp_n24_2, jp_n24_3, jp_n24_4, jp_n24_5, jp_n30_1, jp_n30_2, jp_n33_1, jp_n33_2, false_and, true_and, and_true, and_false, and_self, ne_eq, not_true_eq_false, not_false_eq_true, jw_ws, jw_vs, jw_cmp_lt, jw_cmp_gt, jw_cmp_eq, jp_t1, jp_t2, jp_t3, jp_t4, jp_t5, jp_t6, g4, ↓bX8_scoreAmong hA hD]
    rfl
theorem bX8_scoreAt {M : jw_M} (hA : jp_A M) (hD : jp_D M) (s c : Int) (hs : 0 ≤ s ∧ s < M 131 3) (hc : 0 ≤ c ∧ c < M 131 0) {be : Type} (kk : _ → Option be) : Option.bind (fX8_scoreAt s c M) kk = kk ((jp_sc (M 131) (M 133) (M 22) s c)) := by rw [show fX8_scoreAt s c M = some (jp_sc (M 131) (M 133) (M 22) s c) from gX8_scoreAt hA hD s c hs hc]; rfl
theorem gX12_scoreOf {M : jw_M} (hA : jp_A M) (hD : jp_D M) (s c : Int) (hs : 0 ≤ s ∧ s < M 131 3) (hc : 0 ≤ c ∧ c < M 131 0) : fX12_scoreOf s c M = some (jp_sc (M 131) (M 133) (M 133) s c) := by
  obtain ⟨⟨r0, r2, r3, r4, r5⟩, -⟩ := jp_A_r hA
  have h9 := hD.1.1
  unfold fX12_scoreOf
  simp (disch := omega) only [↓jp_bs, ↓jp_b2s, ↓reduceIte, jw_up_a, Nat.reduceEqDiff, Int.reduceEq, Int.reduceLT, Int.reduceLE, Int.reduceAdd, Int.reduceSub, Int.reduceMul, Int.reduceNeg, jp_n9_1, jp_n9_8, jp_n9_15, jp_n9_21, jp_n9_24, jp_n10_1, jp_n10_2, jp_n10_3, jp_n10_4, jp_n10_5, jp_n10_6, jp_n17_1, jp_n17_2, jp_n17_3, jp_n17_4, jp_n17_5, jp_n17_6, jp_n24_1, jp_n24_2, jp_n24_3, jp_n24_4, jp_n24_5, jp_n30_1, jp_n30_2, jp_n33_1, jp_n33_2, false_and, true_and, and_true, and_false, and_self, ne_eq, not_true_eq_false, not_false_eq_true, jw_ws, jw_vs, jw_cmp_lt, jw_cmp_gt, jw_cmp_eq, jp_t1, jp_t2, jp_t3, jp_t4, jp_t5, jp_t6]
  refine jp_up (fun k i a => fX12_scoreOf_5 M k s c a i) (M 131 3) (fun i a => 0 ≤ i ∧ a = 1 + jp_sum (jp_cr (M 131) (M 133) s c) i.toNat) (fun x => x = some (jp_sc (M 131) (M 133) (M 133) s c)) ?_ ?_ jw_fu 0 1 (by unfold jw_fu; omega) (by omega) ⟨by omega, rfl⟩
  · intro k i a hp hi ih
    obtain ⟨h0, rfl⟩ := hp
    have q1 := jp_cr_b (T := M 131) (P := M 133) r3 s c i h0 (by omega)
    show fX12_scoreOf_5 _ _ _ _ _ _ = _
    rw [fX12_scoreOf_5]
    unfold fX12_scoreOf_62 fX12_scoreOf_63
    by_cases h1 : i = s
    · have e : jp_cr (M 131) (M 133) s c i = 0 := if_neg (fun z => z.1 h1)
      simp (disch := omega) only [↓jp_bs, ↓jp_b2s, ↓reduceIte, jw_up_a, Nat.reduceEqDiff, Int.reduceEq, Int.reduceLT, Int.reduceLE, Int.reduceAdd, Int.reduceSub, Int.reduceMul, Int.reduceNeg, jp_n9_1, jp_n9_8, jp_n9_15, jp_n9_21, jp_n9_24, jp_n10_1, jp_n10_2, jp_n10_3, jp_n10_4, jp_n10_5, jp_n10_6, jp_n17_1, jp_n17_2, jp_n17_3, jp_n17_4, jp_n17_5, jp_n17_6, jp_n24_1, jp_n24_2, jp_n24_3, jp_n24_4, jp_n24_5, jp_n30_1, jp_n30_2, jp_n33_1, jp_n33_2, false_and, true_and, and_true, and_false, and_self, ne_eq, not_true_eq_false, not_false_eq_true, jw_ws, jw_vs, jw_cmp_lt, jw_cmp_gt, jw_cmp_eq, jp_t1, jp_t2, jp_t3, jp_t4, jp_t5, jp_t6]
      exact ih _ ⟨by omega, by rw [jp_sum_s _ h0, e]; omega⟩
    · by_cases h2 : M 131 (90 + i) = M 131 (90 + s)
      · by_cases h3 : M 133 i = c
        · have e : jp_cr (M 131) (M 133) s c i = 1 := if_pos ⟨h1, h2, h3⟩
          simp (disch := omega) only [↓jp_bs, ↓jp_b2s, ↓reduceIte, jw_up_a, Nat.reduceEqDiff, Int.reduceEq, Int.reduceLT, Int.reduceLE, Int.reduceAdd, Int.reduceSub, Int.reduceMul, Int.reduceNeg, jp_n9_1, jp_n9_8, jp_n9_15, jp_n9_21, jp_n9_24, jp_n10_1, jp_n10_2, jp_n10_3, jp_n10_4, jp_n10_5, jp_n10_6, jp_n17_1, jp_n17_2, jp_n17_3, jp_n17_4, jp_n17_5, jp_n17_6, jp_n24_1, jp_n24_2, jp_n24_3, jp_n24_4, jp_n24_5, jp_n30_1, jp_n30_2, jp_n33_1, jp_n33_2, false_and, true_and, and_true, and_false, and_self, ne_eq, not_true_eq_false, not_false_eq_true, jw_ws, jw_vs, jw_cmp_lt, jw_cmp_gt, jw_cmp_eq, jp_t1, jp_t2, jp_t3, jp_t4, jp_t5, jp_t6, Int.zero_add]
          exact ih _ ⟨by omega, by rw [jp_sum_s _ h0, e]; omega⟩
        · have e : jp_cr (M 131) (M 133) s c i = 0 := if_neg (fun z => h3 z.2.2)
          simp (disch := omega) only [↓jp_bs, ↓jp_b2s, ↓reduceIte, jw_up_a, Nat.reduceEqDiff, Int.reduceEq, Int.reduceLT, Int.reduceLE, Int.reduceAdd, Int.reduceSub, Int.reduceMul, Int.reduceNeg, jp_n9_1, jp_n9_8, jp_n9_15, jp_n9_21, jp_n9_24, jp_n10_1, jp_n10_2, jp_n10_3, jp_n10_4, jp_n10_5, jp_n10_6, jp_n17_1, jp_n17_2, jp_n17_3, jp_n17_4, jp_n17_5, jp_n17_6, jp_n24_1, jp_n24_2, jp_n24_3, jp_n24_4, jp_n24_5, jp_n30_1, jp_n30_2, jp_n33_1, jp_n33_2, false_and, true_and, and_true, and_false, and_self, ne_eq, not_true_eq_false, not_false_eq_true, jw_ws, jw_vs, jw_cmp_lt, jw_cmp_gt, jw_cmp_eq, jp_t1, jp_t2, jp_t3, jp_t4, jp_t5, jp_t6, Int.zero_add]
          exact ih _ ⟨by omega, by rw [jp_sum_s _ h0, e]; omega⟩
      · have e : jp_cr (M 131) (M 133) s c i = 0 := if_neg (fun z => h2 z.2.1)
        simp (disch := omega) only [↓jp_bs, ↓jp_b2s, ↓reduceIte, jw_up_a, Nat.reduceEqDiff, Int.reduceEq, Int.reduceLT, Int.reduceLE, Int.reduceAdd, Int.reduceSub, Int.reduceMul, Int.reduceNeg, jp_n9_1, jp_n9_8, jp_n9_15, jp_n9_21, jp_n9_24, jp_n10_1, jp_n10_2, jp_n10_3, jp_n10_4, jp_n10_5, jp_n10_6, jp_n17_1, jp_n17_2, jp_n17_3, jp_n17_4, jp_n17_5, jp_n17_6, jp_n24_1, jp_n24_2, jp_n24_3, jp_n24_4, jp_n24_5, jp_n30_1, jp_n30_2, jp_n33_1, jp_n33_2, false_and, true_and, and_true, and_false, and_self, ne_eq, not_true_eq_false, not_false_eq_true, jw_ws, jw_vs, jw_cmp_lt, jw_cmp_gt, jw_cmp_eq, jp_t1, jp_t2, jp_t3, jp_t4, jp_t5, jp_t6]
        exact ih _ ⟨by omega, by rw [jp_sum_s _ h0, e]; omega⟩
  · intro k a hp
    obtain ⟨h0, rfl⟩ := hp
    have q0 := jp_cr_b (T := M 131) (P := M 133) r3 s c (M 131 3) h0 (by omega)
    obtain ⟨q1, q2, q3, q4, q5, q6⟩ := jp_s0_r (a := 1 + jp_sum (jp_cr (M 131) (M 133) s c) (M 131 3).toNat) hA.1 h9 hs hc (by omega)
    have ht := gX12_timesAt c M (by omega) h9 hD.2.1
    show fX12_scoreOf_5 _ _ _ _ _ _ = _
    rw [fX12_scoreOf_5]
    unfold jp_sc jp_s0
    simp (disch := omega) only [↓jp_bs, ↓jp_b2s, ↓reduceIte, jw_up_a, Nat.reduceEqDiff, Int.reduceEq, Int.reduceLT, Int.reduceLE, Int.reduceAdd, Int.reduceSub, Int.reduceMul, Int.reduceNeg, jp_n9_1, jp_n9_8, jp_n9_15, jp_n9_21, jp_n9_24, jp_n10_1, jp_n10_2, jp_n10_3, jp_n10_4, jp_n10_5, jp_n10_6, jp_n17_1, jp_n17_2, jp_n17_3, jp_n17_4, jp_n17_5, jp_n17_6, jp_n24_1, jp_n24_2, jp_n24_3, jp_n24_4, jp_n24_5, jp_n30_1, jp_n30_2, jp_n33_1, jp_n33_2, false_and, true_and, and_true, and_false, and_self, ne_eq, not_true_eq_false, not_false_eq_true, jw_ws, jw_vs, jw_cmp_lt, jw_cmp_gt, jw_cmp_eq, jp_t1, jp_t2, jp_t3, jp_t4, jp_t5, jp_t6, ↓bX12_lostOf hA, ↓jp_bnd ht]
theorem bX12_scoreOf {M : jw_M} (hA : jp_A M) (hD : jp_D M) (s c : Int) (hs : 0 ≤ s ∧ s < M 131 3) (hc : 0 ≤ c ∧ c < M 131 0) {be : Type} (kk : _ → Option be) : Option.bind (fX12_scoreOf s c M) kk = kk ((jp_sc (M 131) (M 133) (M 133) s c)) := by rw [show fX12_scoreOf s c M = some (jp_sc (M 131) (M 133) (M 133) s c) from gX12_scoreOf hA hD s c hs hc]; rfl
theorem jp_lp_t {T P : Int → Int} {g b c q : Int} (h : q = b ∨ T (90 + q) ≠ g ∨ T 87 ≤ jp_wk T c (P q)) : jp_lp T P g b c q = true := by
  unfold jp_lp
  rcases h with h | h | h <;> simp [h]
theorem jp_lp_f {T P : Int → Int} {g b c q : Int} (h : q ≠ b ∧ T (90 + q) = g ∧ jp_wk T c (P q) < T 87) : jp_lp T P g b c q = false := by
  unfold jp_lp
  have h3 : ¬ T 87 ≤ jp_wk T c (P q) := by omega
  simp [h.1, h.2.1, h3]
theorem gX8_isLawful {M : jw_M} (hA : jp_A M) (g b c : Int) (hc : 0 ≤ c ∧ c < M 131 0) (hP : ∀ q : Int, 0 ≤ q → q < M 131 3 → 0 ≤ M 22 q ∧ M 22 q < M 131 0) : fX8_isLawful g b c M = some (jp_01 (jp_lw (M 131) (M 22) g b c)) := by
  obtain ⟨⟨c0, c5, c8, -⟩, -, g4, g7⟩ := jp_A_c hA
  obtain ⟨⟨r0, r2, r3, r4, r5⟩, -⟩ := jp_A_r hA
  unfold fX8_isLawful
  simp (disch := omega) only [↓jp_bs, ↓jp_b2s, ↓reduceIte, jw_up_a, Nat.reduceEqDiff, Int.reduceEq, Int.reduceLT, Int.reduceLE, Int.reduceAdd, Int.reduceSub, Int.reduceMul, Int.reduceNeg, jp_n9_1, jp_n9_8, jp_n9_15, jp_n9_21, jp_n9_24, jp_n10_1, jp_n10_2, jp_n10_3, jp_n10_4, jp_n10_5, jp_n10_6, jp_n17_1, jp_n17_2, jp_n17_3, jp_n17_4, jp_n17_5, jp_n17_6, jp_n24_1, jp_n24_2, jp_n24_3, jp_n24_4, jp_n24_5, jp_n30_1, jp_n30_2, jp_n33_1, jp_n33_2, false_and, true_and, and_true, and_false, and_self, ne_eq, not_true_eq_false, not_false_eq_true, jw_ws, jw_vs, jw_cmp_lt, jw_cmp_gt, jw_cmp_eq, jp_t1, jp_t2, jp_t3, jp_t4, jp_t5, jp_t6]
  refine jp_up (fun k i (_ : Unit) => fX8_isLawful_3 M k g b c i) (M 131 3) (fun i _ => 0 ≤ i ∧ jp_all (jp_lp (M 131) (M 22) g b c) i.toNat = true) (fun x => x = some (jp_01 (jp_lw (M 131) (M 22) g b c))) ?_ ?_ jw_fu 0 () (by unfold jw_fu; omega) (by omega) ⟨by omega, rfl⟩
  · intro k i _ hp hi ih
    obtain ⟨h0, h1⟩ := hp
    have ei := (jp_gof hA ⟨h0, hi⟩).1
    have hq := hP i h0 hi
    have hw := (jp_wk_r hA.1 (a := c) (b := M 22 i) (by omega) (by omega) (by omega) (by omega)).2.2
    have next : jp_lp (M 131) (M 22) g b c i = true → fX8_isLawful_3 M k g b c (i + 1) = some (jp_01 (jp_lw (M 131) (M 22) g b c)) := fun e => ih () ⟨by omega, by rw [jp_all_s _ h0, h1, e]; rfl⟩
    show fX8_isLawful_3 _ _ _ _ _ _ = _
    rw [fX8_isLawful_3]
    unfold fX8_isLawful_65
    by_cases h2 : i = b
    · simp (disch := omega) only [↓jp_bs, ↓jp_b2s, ↓reduceIte, jw_up_a, Nat.reduceEqDiff, Int.reduceEq, Int.reduceLT, Int.reduceLE, Int.reduceAdd, Int.reduceSub, Int.reduceMul, Int.reduceNeg, jp_n9_1, jp_n9_8, jp_n9_15, jp_n9_21, jp_n9_24, jp_n10_1, jp_n10_2, jp_n10_3, jp_n10_4, jp_n10_5, jp_n10_6, jp_n17_1, jp_n17_2, jp_n17_3, jp_n17_4, jp_n17_5, jp_n17_6, jp_n24_1, jp_n24_2, jp_n24_3, jp_n24_4, jp_n24_5, jp_n30_1, jp_n30_2, jp_n33_1, jp_n33_2, false_and, true_and, and_true, and_false, and_self, ne_eq, not_true_eq_false, not_false_eq_true, jw_ws, jw_vs, jw_cmp_lt, jw_cmp_gt, jw_cmp_eq, jp_t1, jp_t2, jp_t3, jp_t4, jp_t5, jp_t6, g4]
      rw [← h2]
      rw [← h2] at next
      exact next (jp_lp_t (Or.inl rfl))
    · by_cases h3 : M 131 (90 + i) = g
      · by_cases h4 : jp_wk (M 131) (M 22 i) c < M 131 87
        · simp (disch := omega) only [↓jp_bs, ↓jp_b2s, ↓reduceIte, jw_up_a, Nat.reduceEqDiff, Int.reduceEq, Int.reduceLT, Int.reduceLE, Int.reduceAdd, Int.reduceSub, Int.reduceMul, Int.reduceNeg, jp_n9_1, jp_n9_8, jp_n9_15, jp_n9_21, jp_n9_24, jp_n10_1, jp_n10_2, jp_n10_3, jp_n10_4, jp_n10_5, jp_n10_6, jp_n17_1, jp_n17_2, jp_n17_3, jp_n17_4, jp_n17_5, jp_n17_6, jp_n24_1, jp_n24_2, jp_n24_3, jp_n24_4, jp_n24_5, jp_n30_1, jp_n30_2, jp_n33_1, jp_n33_2, false_and, true_and, and_true, and_false, and_self, ne_eq, not_true_eq_false, not_false_eq_true, jw_ws, jw_vs, jw_cmp_lt, jw_cmp_gt, jw_cmp_eq, jp_t1, jp_t2, jp_t3, jp_t4, jp_t5, jp_t6, g4, ei, c8, ↓zX9_walkTo hA]
          unfold jp_lw
          rw [jp_all_f h0 (by omega) (jp_lp_f ⟨h2, h3, by omega⟩)]
          rfl
        · simp (disch := omega) only [↓jp_bs, ↓jp_b2s, ↓reduceIte, jw_up_a, Nat.reduceEqDiff, Int.reduceEq, Int.reduceLT, Int.reduceLE, Int.reduceAdd, Int.reduceSub, Int.reduceMul, Int.reduceNeg, jp_n9_1, jp_n9_8, jp_n9_15, jp_n9_21, jp_n9_24, jp_n10_1, jp_n10_2, jp_n10_3, jp_n10_4, jp_n10_5, jp_n10_6, jp_n17_1, jp_n17_2, jp_n17_3, jp_n17_4, jp_n17_5, jp_n17_6, jp_n24_1, jp_n24_2, jp_n24_3, jp_n24_4, jp_n24_5, jp_n30_1, jp_n30_2, jp_n33_1, jp_n33_2, false_and, true_and, and_true, and_false, and_self, ne_eq, not_true_eq_false, not_false_eq_true, jw_ws, jw_vs, jw_cmp_lt, jw_cmp_gt, jw_cmp_eq, jp_t1, jp_t2, jp_t3, jp_t4, jp_t5, jp_t6, g4, ei, c8, ↓zX9_walkTo hA]
          exact next (jp_lp_t (Or.inr (Or.inr (by omega))))
      · simp (disch := omega) only [↓jp_bs, ↓jp_b2s, ↓reduceIte, jw_up_a, Nat.reduceEqDiff, Int.reduceEq, Int.reduceLT, Int.reduceLE, Int.reduceAdd, Int.reduceSub, Int.reduceMul, Int.reduceNeg, jp_n9_1, jp_n9_8, jp_n9_15, jp_n9_21, jp_n9_24, jp_n10_1, jp_n10_2, jp_n10_3, jp_n10_4, jp_n10_5, jp_n10_6, jp_n17_1, jp_n17_2, jp_n17_3, jp_n17_4, jp_n17_5, jp_n17_6, jp_n24_1, jp_n24_2, jp_n24_3, jp_n24_4, jp_n24_5, jp_n30_1, jp_n30_2, jp_n33_1, jp_n33_2, false_and, true_and, and_true, and_false, and_self, ne_eq, not_true_eq_false, not_false_eq_true, jw_ws, jw_vs, jw_cmp_lt, jw_cmp_gt, jw_cmp_eq, jp_t1, jp_t2, jp_t3, jp_t4, jp_t5, jp_t6, g4, ei]
        exact next (jp_lp_t (Or.inr (Or.inl h3)))
  · intro k _ hp
    show fX8_isLawful_3 _ _ _ _ _ _ = _
    rw [fX8_isLawful_3]
    simp (disch := omega) only [↓jp_bs, ↓jp_b2s, ↓reduceIte, jw_up_a, Nat.reduceEqDiff, Int.reduceEq, Int.reduceLT, Int.reduceLE, Int.reduceAdd, Int.reduceSub, Int.reduceMul, Int.reduceNeg, jp_n9_1, jp_n9_8, jp_n9_15, jp_n9_21, jp_n9_24, jp_n10_1, jp_n10_2, jp_n10_3, jp_n10_4, jp_n10_5, jp_n10_6, jp_n17_1, jp_n17_2, jp_n17_3, jp_n17_4, jp_n17_5, jp_n17_6, jp_n24_1, jp_n24_2, jp_n24_3, jp_n24_4, jp_n24_5, jp_n30_1, jp_n30_2, jp_n33_1, jp_n33_2, false_and, true_and, and_true, and_false, and_self, ne_eq, not_true_eq_false, not_false_eq_true, jw_ws, jw_vs, jw_cmp_lt, jw_cmp_gt, jw_cmp_eq, jp_t1, jp_t2, jp_t3, jp_t4, jp_t5, jp_t6, g4]
    unfold jp_lw
    rw [hp.2]
    rfl
theorem bX8_isLawful {M : jw_M} (hA : jp_A M) (g b c : Int) (hc : 0 ≤ c ∧ c < M 131 0) (hP : ∀ q : Int, 0 ≤ q → q < M 131 3 → 0 ≤ M 22 q ∧ M 22 q < M 131 0) {be : Type} (kk : _ → Option be) : Option.bind (fX8_isLawful g b c M) kk = kk ((jp_01 (jp_lw (M 131) (M 22) g b c))) := by rw [show fX8_isLawful g b c M = some (jp_01 (jp_lw (M 131) (M 22) g b c)) from gX8_isLawful hA g b c hc hP]; rfl
theorem gX12_mayStand {M : jw_M} (hA : jp_A M) (g b c : Int) (hc : 0 ≤ c ∧ c < M 131 0) (hP : ∀ q : Int, 0 ≤ q → q < M 131 3 → 0 ≤ M 133 q ∧ M 133 q < M 131 0) : fX12_mayStand g b c M = some (jp_01 (jp_lw (M 131) (M 133) g b c)) := by
  obtain ⟨⟨r0, r2, r3, r4, r5⟩, -⟩ := jp_A_r hA
  unfold fX12_mayStand
  simp (disch := omega) only [↓jp_bs, ↓jp_b2s, ↓reduceIte, jw_up_a, Nat.reduceEqDiff, Int.reduceEq, Int.reduceLT, Int.reduceLE, Int.reduceAdd, Int.reduceSub, Int.reduceMul, Int.reduceNeg, jp_n9_1, jp_n9_8, jp_n9_15, jp_n9_21, jp_n9_24, jp_n10_1, jp_n10_2, jp_n10_3, jp_n10_4, jp_n10_5, jp_n10_6, jp_n17_1, jp_n17_2, jp_n17_3, jp_n17_4, jp_n17_5, jp_n17_6, jp_n24_1, jp_n24_2, jp_n24_3, jp_n24_4, jp_n24_5, jp_n30_1, jp_n30_2, jp_n33_1, jp_n33_2, false_and, true_and, and_true, and_false, and_self, ne_eq, not_true_eq_false, not_false_eq_true, jw_ws, jw_vs, jw_cmp_lt, jw_cmp_gt, jw_cmp_eq, jp_t1, jp_t2, jp_t3, jp_t4, jp_t5, jp_t6]
  refine jp_up (fun k i a => fX12_mayStand_6 M k g b c a i) (M 131 3) (fun i a => 0 ≤ i ∧ a = jp_01 (jp_all (jp_lp (M 131) (M 133) g b c) i.toNat)) (fun x => x = some (jp_01 (jp_lw (M 131) (M 133) g b c))) ?_ ?_ jw_fu 0 1 (by unfold jw_fu; omega) (by omega) ⟨by omega, rfl⟩
  · intro k i a hp hi ih
    obtain ⟨h0, rfl⟩ := hp
    have hq := hP i h0 hi
    have hw := (hA.2.2.2.2.2.2.2.2.2 c (M 133 i) hc.1 hc.2 hq.1 hq.2).1
    show fX12_mayStand_6 _ _ _ _ _ _ _ = _
    rw [fX12_mayStand_6]
    unfold fX12_mayStand_75 fX12_mayStand_71 fX12_mayStand_76
    cases ea : jp_all (jp_lp (M 131) (M 133) g b c) i.toNat with
    | false =>
      rw [jp_01f]
      simp (disch := omega) only [↓jp_bs, ↓jp_b2s, ↓reduceIte, jw_up_a, Nat.reduceEqDiff, Int.reduceEq, Int.reduceLT, Int.reduceLE, Int.reduceAdd, Int.reduceSub, Int.reduceMul, Int.reduceNeg, jp_n9_1, jp_n9_8, jp_n9_15, jp_n9_21, jp_n9_24, jp_n10_1, jp_n10_2, jp_n10_3, jp_n10_4, jp_n10_5, jp_n10_6, jp_n17_1, jp_n17_2, jp_n17_3, jp_n17_4, jp_n17_5, jp_n17_6, jp_n24_1, jp_n24_2, jp_n24_3, jp_n24_4, jp_n24_5, jp_n30_1, jp_n30_2, jp_n33_1, jp_n33_2, false_and, true_and, and_true, and_false, and_self, ne_eq, not_true_eq_false, not_false_eq_true, jw_ws, jw_vs, jw_cmp_lt, jw_cmp_gt, jw_cmp_eq, jp_t1, jp_t2, jp_t3, jp_t4, jp_t5, jp_t6]
      exact ih _ ⟨by omega, by rw [jp_all_s _ h0, ea]; rfl⟩
    | true =>
      rw [jp_01t]
      have n1 : jp_lp (M 131) (M 133) g b c i = true → fX12_mayStand_6 M k g b c 1 (i + 1) = some (jp_01 (jp_lw (M 131) (M 133) g b c)) := fun e => ih _ ⟨by omega, by rw [jp_all_s _ h0, ea, e]; rfl⟩
      have n0 : jp_lp (M 131) (M 133) g b c i = false → fX12_mayStand_6 M k g b c 0 (i + 1) = some (jp_01 (jp_lw (M 131) (M 133) g b c)) := fun e => ih _ ⟨by omega, by rw [jp_all_s _ h0, ea, e]; rfl⟩
      by_cases h2 : i = b
      · simp (disch := omega) only [↓jp_bs, ↓jp_b2s, ↓reduceIte, jw_up_a, Nat.reduceEqDiff, Int.reduceEq, Int.reduceLT, Int.reduceLE, Int.reduceAdd, Int.reduceSub, Int.reduceMul, Int.reduceNeg, jp_n9_1, jp_n9_8, jp_n9_15, jp_n9_21, jp_n9_24, jp_n10_1, jp_n10_2, jp_n10_3, jp_n10_4, jp_n10_5, jp_n10_6, jp_n17_1, jp_n17_2, jp_n17_3, jp_n17_4, jp_n17_5, jp_n17_6, jp_n24_1, jp_n24_2, jp_n24_3, jp_n24_4, jp_n24_5, jp_n30_1, jp_n30_2, jp_n33_1, jp_n33_2, false_and, true_and, and_true, and_false, and_self, ne_eq, not_true_eq_false, not_false_eq_true, jw_ws, jw_vs, jw_cmp_lt, jw_cmp_gt, jw_cmp_eq, jp_t1, jp_t2, jp_t3, jp_t4, jp_t5, jp_t6]
        rw [← h2]
        rw [← h2] at n1
        exact n1 (jp_lp_t (Or.inl rfl))
      · by_cases h3 : M 131 (90 + i) = g
        · by_cases h4 : jp_wk (M 131) c (M 133 i) < M 131 87
          · simp (disch := omega) only [↓jp_bs, ↓jp_b2s, ↓reduceIte, jw_up_a, Nat.reduceEqDiff, Int.reduceEq, Int.reduceLT, Int.reduceLE, Int.reduceAdd, Int.reduceSub, Int.reduceMul, Int.reduceNeg, jp_n9_1, jp_n9_8, jp_n9_15, jp_n9_21, jp_n9_24, jp_n10_1, jp_n10_2, jp_n10_3, jp_n10_4, jp_n10_5, jp_n10_6, jp_n17_1, jp_n17_2, jp_n17_3, jp_n17_4, jp_n17_5, jp_n17_6, jp_n24_1, jp_n24_2, jp_n24_3, jp_n24_4, jp_n24_5, jp_n30_1, jp_n30_2, jp_n33_1, jp_n33_2, false_and, true_and, and_true, and_false, and_self, ne_eq, not_true_eq_false, not_false_eq_true, jw_ws, jw_vs, jw_cmp_lt, jw_cmp_gt, jw_cmp_eq, jp_t1, jp_t2, jp_t3, jp_t4, jp_t5, jp_t6, Int.zero_add, hw]
            exact n0 (jp_lp_f ⟨h2, h3, h4⟩)
          · simp (disch := omega) only [↓jp_bs, ↓jp_b2s, ↓reduceIte, jw_up_a, Nat.reduceEqDiff, Int.reduceEq, Int.reduceLT, Int.reduceLE, Int.reduceAdd, Int.reduceSub, Int.reduceMul, Int.reduceNeg, jp_n9_1, jp_n9_8, jp_n9_15, jp_n9_21, jp_n9_24, jp_n10_1, jp_n10_2, jp_n10_3, jp_n10_4, jp_n10_5, jp_n10_6, jp_n17_1, jp_n17_2, jp_n17_3, jp_n17_4, jp_n17_5, jp_n17_6, jp_n24_1, jp_n24_2, jp_n24_3, jp_n24_4, jp_n24_5, jp_n30_1, jp_n30_2, jp_n33_1, jp_n33_2, false_and, true_and, and_true, and_false, and_self, ne_eq, not_true_eq_false, not_false_eq_true, jw_ws, jw_vs, jw_cmp_lt, jw_cmp_gt, jw_cmp_eq, jp_t1, jp_t2, jp_t3, jp_t4, jp_t5, jp_t6, Int.zero_add, hw]
            exact n1 (jp_lp_t (Or.inr (Or.inr (by omega))))
        · simp (disch := omega) only [↓jp_bs, ↓jp_b2s, ↓reduceIte, jw_up_a, Nat.reduceEqDiff, Int.reduceEq, Int.reduceLT, Int.reduceLE, Int.reduceAdd, Int.reduceSub, Int.reduceMul, Int.reduceNeg, jp_n9_1, jp_n9_8, jp_n9_15, jp_n9_21, jp_n9_24, jp_n10_1, jp_n10_2, jp_n10_3, jp_n10_4, jp_n10_5, jp_n10_6, jp_n17_1, jp_n17_2, jp_n17_3, jp_n17_4, jp_n17_5, jp_n17_6, jp_n24_1, jp_n24_2, jp_n24_3, jp_n24_4, jp_n24_5, jp_n30_1, jp_n30_2, jp_n33_1, jp_n33_2, false_and, true_and, and_true, and_false, and_self, ne_eq, not_true_eq_false, not_false_eq_true, jw_ws, jw_vs, jw_cmp_lt, jw_cmp_gt, jw_cmp_eq, jp_t1, jp_t2, jp_t3, jp_t4, jp_t5, jp_t6]
          exact n1 (jp_lp_t (Or.inr (Or.inl h3)))
  · intro k a hp
    obtain ⟨h0, rfl⟩ := hp
    show fX12_mayStand_6 _ _ _ _ _ _ _ = _
    rw [fX12_mayStand_6]
    have := jp_01r (jp_lw (M 131) (M 133) g b c)
    simp (disch := omega) only [↓jp_bs, ↓jp_b2s, ↓reduceIte, jw_up_a, Nat.reduceEqDiff, Int.reduceEq, Int.reduceLT, Int.reduceLE, Int.reduceAdd, Int.reduceSub, Int.reduceMul, Int.reduceNeg, jp_n9_1, jp_n9_8, jp_n9_15, jp_n9_21, jp_n9_24, jp_n10_1, jp_n10_2, jp_n10_3, jp_n10_4, jp_n10_5, jp_n10_6, jp_n17_1, jp_n17_2, jp_n17_3, jp_n17_4, jp_n17_5, jp_n17_6, jp_n24_1, jp_n24_2, jp_n24_3, jp_n24_4, jp_n24_5, jp_n30_1, jp_n30_2, jp_n33_1, jp_n33_2, false_and, true_and, and_true, and_false, and_self, ne_eq, not_true_eq_false, not_false_eq_true, jw_ws, jw_vs, jw_cmp_lt, jw_cmp_gt, jw_cmp_eq, jp_t1, jp_t2, jp_t3, jp_t4, jp_t5, jp_t6]
    exact if_pos this
theorem bX12_mayStand {M : jw_M} (hA : jp_A M) (g b c : Int) (hc : 0 ≤ c ∧ c < M 131 0) (hP : ∀ q : Int, 0 ≤ q → q < M 131 3 → 0 ≤ M 133 q ∧ M 133 q < M 131 0) {be : Type} (kk : _ → Option be) : Option.bind (fX12_mayStand g b c M) kk = kk ((jp_01 (jp_lw (M 131) (M 133) g b c))) := by rw [show fX12_mayStand g b c M = some (jp_01 (jp_lw (M 131) (M 133) g b c)) from gX12_mayStand hA g b c hc hP]; rfl
theorem gX8_lawfulCorners {M : jw_M} (hA : jp_A M) (g b : Int) (hP : ∀ q : Int, 0 ≤ q → q < M 131 3 → 0 ≤ M 22 q ∧ M 22 q < M 131 0) : fX8_lawfulCorners g b M = some (jp_mask (jp_lw (M 131) (M 22) g b) (M 131 0).toNat) := by
  obtain ⟨⟨c0, c5, c8, -⟩, -, g4, g7⟩ := jp_A_c hA
  obtain ⟨⟨r0, r2, r3, r4, r5⟩, -⟩ := jp_A_r hA
  unfold fX8_lawfulCorners
  simp (disch := omega) only [↓jp_bs, ↓jp_b2s, ↓reduceIte, jw_up_a, Nat.reduceEqDiff, Int.reduceEq, Int.reduceLT, Int.reduceLE, Int.reduceAdd, Int.reduceSub, Int.reduceMul, Int.reduceNeg, jp_n9_1, jp_n9_8, jp_n9_15, jp_n9_21, jp_n9_24, jp_n10_1, jp_n10_2, jp_n10_3, jp_n10_4, jp_n10_5, jp_n10_6, jp_n17_1, jp_n17_2, jp_n17_3, jp_n17_4, jp_n17_5, jp_n17_6, jp_n24_1, jp_n24_2, jp_n24_3, jp_n24_4, jp_n24_5, jp_n30_1, jp_n30_2, jp_n33_1, jp_n33_2, false_and, true_and, and_true, and_false, and_self, ne_eq, not_true_eq_false, not_false_eq_true, jw_ws, jw_vs, jw_cmp_lt, jw_cmp_gt, jw_cmp_eq, jp_t1, jp_t2, jp_t3, jp_t4, jp_t5, jp_t6]
  refine jp_up (fun k i a => fX8_lawfulCorners_5 M k g b a i) (M 131 0) (fun i a => 0 ≤ i ∧ a = jp_mask (jp_lw (M 131) (M 22) g b) i.toNat) (fun x => x = some (jp_mask (jp_lw (M 131) (M 22) g b) (M 131 0).toNat)) ?_ ?_ jw_fu 0 0 (by unfold jw_fu; omega) (by omega) ⟨by omega, rfl⟩
  · intro k i a hp hi ih
    obtain ⟨h0, rfl⟩ := hp
    have hm := jp_mask_r (jp_lw (M 131) (M 22) g b) i.toNat
    have hl := gX8_isLawful hA g b i ⟨h0, hi⟩ hP
    show fX8_lawfulCorners_5 _ _ _ _ _ _ = _
    rw [fX8_lawfulCorners_5]
    unfold fX8_lawfulCorners_35
    cases ea : jp_lw (M 131) (M 22) g b i with
    | false =>
      rw [ea, jp_01f] at hl
      simp (disch := omega) only [↓jp_bs, ↓jp_b2s, ↓reduceIte, jw_up_a, Nat.reduceEqDiff, Int.reduceEq, Int.reduceLT, Int.reduceLE, Int.reduceAdd, Int.reduceSub, Int.reduceMul, Int.reduceNeg, jp_n9_1, jp_n9_8, jp_n9_15, jp_n9_21, jp_n9_24, jp_n10_1, jp_n10_2, jp_n10_3, jp_n10_4, jp_n10_5, jp_n10_6, jp_n17_1, jp_n17_2, jp_n17_3, jp_n17_4, jp_n17_5, jp_n17_6, jp_n24_1, jp_n24_2, jp_n24_3, jp_n24_4, jp_n24_5, jp_n30_1, jp_n30_2, jp_n33_1, jp_n33_2, false_and, true_and, and_true, and_false, and_self, ne_eq, not_true_eq_false, not_false_eq_true, jw_ws, jw_vs, jw_cmp_lt, jw_cmp_gt, jw_cmp_eq, jp_t1, jp_t2, jp_t3, jp_t4, jp_t5, jp_t6, c0, ↓jp_bnd hl]
      exact ih _ ⟨by omega, by rw [jp_mask_s _ h0, ea, if_neg (by decide)]; omega⟩
    | true =>
      rw [ea, jp_01t] at hl
      have e := jp_or ⟨h0, by omega⟩ hm
      simp (disch := omega) only [↓jp_bs, ↓jp_b2s, ↓reduceIte, jw_up_a, Nat.reduceEqDiff, Int.reduceEq, Int.reduceLT, Int.reduceLE, Int.reduceAdd, Int.reduceSub, Int.reduceMul, Int.reduceNeg, jp_n9_1, jp_n9_8, jp_n9_15, jp_n9_21, jp_n9_24, jp_n10_1, jp_n10_2, jp_n10_3, jp_n10_4, jp_n10_5, jp_n10_6, jp_n17_1, jp_n17_2, jp_n17_3, jp_n17_4, jp_n17_5, jp_n17_6, jp_n24_1, jp_n24_2, jp_n24_3, jp_n24_4, jp_n24_5, jp_n30_1, jp_n30_2, jp_n33_1, jp_n33_2, false_and, true_and, and_true, and_false, and_self, ne_eq, not_true_eq_false, not_false_eq_true, jw_ws, jw_vs, jw_cmp_lt, jw_cmp_gt, jw_cmp_eq, jp_t1, jp_t2, jp_t3, jp_t4, jp_t5, jp_t6, c0, ↓jp_bnd hl, e]
      exact ih _ ⟨by omega, by rw [jp_mask_s _ h0, ea, if_pos rfl]⟩
  · intro k a hp
    obtain ⟨h0, rfl⟩ := hp
    show fX8_lawfulCorners_5 _ _ _ _ _ _ = _
    rw [fX8_lawfulCorners_5]
    simp (disch := omega) only [↓jp_bs, ↓jp_b2s, ↓reduceIte, jw_up_a, Nat.reduceEqDiff, Int.reduceEq, Int.reduceLT, Int.reduceLE, Int.reduceAdd, Int.reduceSub, Int.reduceMul, Int.reduceNeg, jp_n9_1, jp_n9_8, jp_n9_15, jp_n9_21, jp_n9_24, jp_n10_1, jp_n10_2, jp_n10_3, jp_n10_4, jp_n10_5, jp_n10_6, jp_n17_1, jp_n17_2, jp_n17_3, jp_n17_4, jp_n17_5, jp_n17_6, jp_n24_1, jp_n24_2, jp_n24_3, jp_n24_4, jp_n24_5, jp_n30_1, jp_n30_2, jp_n33_1, jp_n33_2, false_and, true_and, and_true, and_false, and_self, ne_eq, not_true_eq_false, not_false_eq_true, jw_ws, jw_vs, jw_cmp_lt, jw_cmp_gt, jw_cmp_eq, jp_t1, jp_t2, jp_t3, jp_t4, jp_t5, jp_t6, c0]
theorem bX8_lawfulCorners {M : jw_M} (hA : jp_A M) (g b : Int) (hP : ∀ q : Int, 0 ≤ q → q < M 131 3 → 0 ≤ M 22 q ∧ M 22 q < M 131 0) {be : Type} (kk : _ → Option be) : Option.bind (fX8_lawfulCorners g b M) kk = kk ((jp_mask (jp_lw (M 131) (M 22) g b) (M 131 0).toNat)) := by rw [show fX8_lawfulCorners g b M = some (jp_mask (jp_lw (M 131) (M 22) g b) (M 131 0).toNat) from gX8_lawfulCorners hA g b hP]; rfl
theorem gX12_mayOf {M : jw_M} (hA : jp_A M) (g b : Int) (hP : ∀ q : Int, 0 ≤ q → q < M 131 3 → 0 ≤ M 133 q ∧ M 133 q < M 131 0) : fX12_mayOf g b M = some (jp_mask (jp_lw (M 131) (M 133) g b) (M 131 0).toNat) := by
  obtain ⟨⟨r0, r2, r3, r4, r5⟩, -⟩ := jp_A_r hA
  unfold fX12_mayOf
  simp (disch := omega) only [↓jp_bs, ↓jp_b2s, ↓reduceIte, jw_up_a, Nat.reduceEqDiff, Int.reduceEq, Int.reduceLT, Int.reduceLE, Int.reduceAdd, Int.reduceSub, Int.reduceMul, Int.reduceNeg, jp_n9_1, jp_n9_8, jp_n9_15, jp_n9_21, jp_n9_24, jp_n10_1, jp_n10_2, jp_n10_3, jp_n10_4, jp_n10_5, jp_n10_6, jp_n17_1, jp_n17_2, jp_n17_3, jp_n17_4, jp_n17_5, jp_n17_6, jp_n24_1, jp_n24_2, jp_n24_3, jp_n24_4, jp_n24_5, jp_n30_1, jp_n30_2, jp_n33_1, jp_n33_2, false_and, true_and, and_true, and_false, and_self, ne_eq, not_true_eq_false, not_false_eq_true, jw_ws, jw_vs, jw_cmp_lt, jw_cmp_gt, jw_cmp_eq, jp_t1, jp_t2, jp_t3, jp_t4, jp_t5, jp_t6]
  refine jp_up (fun k i a => fX12_mayOf_5 M k g b a i) (M 131 0) (fun i a => 0 ≤ i ∧ a = jp_mask (jp_lw (M 131) (M 133) g b) i.toNat) (fun x => x = some (jp_mask (jp_lw (M 131) (M 133) g b) (M 131 0).toNat)) ?_ ?_ jw_fu 0 0 (by unfold jw_fu; omega) (by omega) ⟨by omega, rfl⟩
  · intro k i a hp hi ih
    obtain ⟨h0, rfl⟩ := hp
    have hm := jp_mask_r (jp_lw (M 131) (M 133) g b) i.toNat
    have h7 := jp_mask_7 (jp_lw (M 131) (M 133) g b) (i := i) (by omega)
    have hl := gX12_mayStand hA g b i ⟨h0, hi⟩ hP
    show fX12_mayOf_5 _ _ _ _ _ _ = _
    rw [fX12_mayOf_5]
    unfold fX12_mayOf_36
    cases ea : jp_lw (M 131) (M 133) g b i with
    | false =>
      rw [ea, jp_01f] at hl
      simp (disch := omega) only [↓jp_bs, ↓jp_b2s, ↓reduceIte, jw_up_a, Nat.reduceEqDiff, Int.reduceEq, Int.reduceLT, Int.reduceLE, Int.reduceAdd, Int.reduceSub, Int.reduceMul, Int.reduceNeg, jp_n9_1, jp_n9_8, jp_n9_15, jp_n9_21, jp_n9_24, jp_n10_1, jp_n10_2, jp_n10_3, jp_n10_4, jp_n10_5, jp_n10_6, jp_n17_1, jp_n17_2, jp_n17_3, jp_n17_4, jp_n17_5, jp_n17_6, jp_n24_1, jp_n24_2, jp_n24_3, jp_n24_4, jp_n24_5, jp_n30_1, jp_n30_2, jp_n33_1, jp_n33_2, false_and, true_and, and_true, and_false, and_self, ne_eq, not_true_eq_false, not_false_eq_true, jw_ws, jw_vs, jw_cmp_lt, jw_cmp_gt, jw_cmp_eq, jp_t1, jp_t2, jp_t3, jp_t4, jp_t5, jp_t6, ↓jp_bnd hl, jp_or0 h7]
      exact ih _ ⟨by omega, by rw [jp_mask_s _ h0, ea, if_neg (by decide)]; omega⟩
    | true =>
      rw [ea, jp_01t] at hl
      have e := jp_or ⟨h0, by omega⟩ hm
      simp (disch := omega) only [↓jp_bs, ↓jp_b2s, ↓reduceIte, jw_up_a, Nat.reduceEqDiff, Int.reduceEq, Int.reduceLT, Int.reduceLE, Int.reduceAdd, Int.reduceSub, Int.reduceMul, Int.reduceNeg, jp_n9_1, jp_n9_8, jp_n9_15, jp_n9_21, jp_n9_24, jp_n10_1, jp_n10_2, jp_n10_3, jp_n10_4, jp_n10_5, jp_n10_6, jp_n17_1, jp_n17_2, jp_n17_3, jp_n17_4, jp_n17_5, jp_n17_6, jp_n24_1, jp_n24_2, jp_n24_3, jp_n24_4, jp_n24_5, jp_n30_1, jp_n30_2, jp_n33_1, jp_n33_2, false_and, true_and, and_true, and_false, and_self, ne_eq, not_true_eq_false, not_false_eq_true, jw_ws, jw_vs, jw_cmp_lt, jw_cmp_gt, jw_cmp_eq, jp_t1, jp_t2, jp_t3, jp_t4, jp_t5, jp_t6, ↓jp_bnd hl, e]
      exact ih _ ⟨by omega, by rw [jp_mask_s _ h0, ea, if_pos rfl]⟩
  · intro k a hp
    obtain ⟨h0, rfl⟩ := hp
    show fX12_mayOf_5 _ _ _ _ _ _ = _
    rw [fX12_mayOf_5]
    simp (disch := omega) only [↓jp_bs, ↓jp_b2s, ↓reduceIte, jw_up_a, Nat.reduceEqDiff, Int.reduceEq, Int.reduceLT, Int.reduceLE, Int.reduceAdd, Int.reduceSub, Int.reduceMul, Int.reduceNeg, jp_n9_1, jp_n9_8, jp_n9_15, jp_n9_21, jp_n9_24, jp_n10_1, jp_n10_2, jp_n10_3, jp_n10_4, jp_n10_5, jp_n10_6, jp_n17_1, jp_n17_2, jp_n17_3, jp_n17_4, jp_n17_5, jp_n17_6, jp_n24_1, jp_n24_2, jp_n24_3, jp_n24_4, jp_n24_5, jp_n30_1, jp_n30_2, jp_n33_1, jp_n33_2, false_and, true_and, and_true, and_false, and_self, ne_eq, not_true_eq_false, not_false_eq_true, jw_ws, jw_vs, jw_cmp_lt, jw_cmp_gt, jw_cmp_eq, jp_t1, jp_t2, jp_t3, jp_t4, jp_t5, jp_t6]
theorem bX12_mayOf {M : jw_M} (hA : jp_A M) (g b : Int) (hP : ∀ q : Int, 0 ≤ q → q < M 131 3 → 0 ≤ M 133 q ∧ M 133 q < M 131 0) {be : Type} (kk : _ → Option be) : Option.bind (fX12_mayOf g b M) kk = kk ((jp_mask (jp_lw (M 131) (M 133) g b) (M 131 0).toNat)) := by rw [show fX12_mayOf g b M = some (jp_mask (jp_lw (M 131) (M 133) g b) (M 131 0).toNat) from gX12_mayOf hA g b hP]; rfl
