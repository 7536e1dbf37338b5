/-! sums, bits, common divisors -/
def jp_sum (f : Int → Int) : Nat → Int
  | 0 => 0
  | n + 1 => jp_sum f n + f (n : Int)
theorem jp_sum_s (f : Int → Int) {i : Int} (h : 0 ≤ i) : jp_sum f (i + 1).toNat = jp_sum f i.toNat + f i := by
  have e : (i + 1).toNat = i.toNat + 1 := by omega
  rw [e, jp_sum, Int.toNat_of_nonneg h]
theorem jp_sum_b (f : Int → Int) (lo hi : Int) : ∀ n : Nat, (∀ i : Int, 0 ≤ i → i < (n : Int) → lo ≤ f i ∧ f i ≤ hi) → lo * (n : Int) ≤ jp_sum f n ∧ jp_sum f n ≤ hi * (n : Int) := by
  intro n
  induction n with
  | zero => intro _; simp [jp_sum]
  | succ n ih =>
    intro h
    have h1 := ih (fun i p q => h i p (by omega))
    have h2 := h (n : Int) (by omega) (by omega)
    have e1 : lo * ((n + 1 : Nat) : Int) = lo * (n : Int) + lo := by rw [Int.natCast_add, Int.mul_add]; simp
    have e2 : hi * ((n + 1 : Nat) : Int) = hi * (n : Int) + hi := by rw [Int.natCast_add, Int.mul_add]; simp
    rw [jp_sum, e1, e2]
    omega
theorem jp_sum_c {f g : Int → Int} : ∀ n : Nat, (∀ i : Int, 0 ≤ i → i < (n : Int) → f i = g i) → jp_sum f n = jp_sum g n := by
  intro n
  induction n with
  | zero => intro _; rfl
  | succ n ih =>
    intro h
    rw [jp_sum, jp_sum, ih (fun i p q => h i p (by omega)), h (n : Int) (by omega) (by omega)]
theorem jp_bit_i {x c : Int} (hx : 0 ≤ x ∧ x < 128) (hc : 0 ≤ c ∧ c < 7) : jw_iand (jw_ishr x c) 1 = jp_bit x c := by
  have h := (by decide +kernel : ∀ x : Fin 128, ∀ c : Fin 7, jw_iand (jw_ishr ((x : Nat) : Int) ((c : Nat) : Int)) 1 = jp_bit ((x : Nat) : Int) ((c : Nat) : Int)) ⟨x.toNat, by omega⟩ ⟨c.toNat, by omega⟩
  simp only [Int.toNat_of_nonneg hx.1, Int.toNat_of_nonneg hc.1] at h
  exact h
theorem jp_bit_r (x c : Int) : 0 ≤ jp_bit x c ∧ jp_bit x c ≤ 1 := by
  unfold jp_bit
  omega
theorem jp_ct_r (N : Int → Int) (c : Int) : ∀ n : Nat, 0 ≤ jp_ct N c n ∧ jp_ct N c n ≤ (n : Int) := by
  intro n
  induction n with
  | zero => simp [jp_ct]
  | succ n ih =>
    have := jp_bit_r (N (10 + (n : Int))) c
    rw [jp_ct]
    omega
theorem jp_ct_s (N : Int → Int) (c : Int) {i : Int} (h : 0 ≤ i) : jp_ct N c (i + 1).toNat = jp_ct N c i.toNat + jp_bit (N (10 + i)) c := by
  have e : (i + 1).toNat = i.toNat + 1 := by omega
  rw [e, jp_ct, Int.toNat_of_nonneg h]
theorem gX12_timesAt (c : Int) (M : jw_M) (hc : 0 ≤ c ∧ c < 7) (h9 : 0 ≤ M 133 9 ∧ M 133 9 ≤ 12) (hN : ∀ d : Int, 0 ≤ d → d < 12 → 0 ≤ M 133 (10 + d) ∧ M 133 (10 + d) < 128) : fX12_timesAt c M = some (jp_ct (M 133) c (M 133 9).toNat) := by
  unfold fX12_timesAt
  simp (disch := omega) only [↓jp_bs, ↓jp_b2s, ↓reduceIte, jw_up_a, Nat.reduceEqDiff, Int.reduceEq, Int.reduceLT, Int.reduceLE, Int.reduceAdd, Int.reduceSub, Int.reduceMul, Int.reduceNeg, jp_n9_1, jp_n9_8, jp_n9_15, jp_n9_21, jp_n9_24, jp_n10_1, jp_n10_2, jp_n10_3, jp_n10_4, jp_n10_5, jp_n10_6, jp_n17_1, jp_n17_2, jp_n17_3, jp_n17_4, jp_n17_5, jp_n17_6, jp_n24_1, jp_n24_2, jp_n24_3, jp_n24_4, jp_n24_5, jp_n30_1, jp_n30_2, jp_n33_1, jp_n33_2, false_and, true_and, and_true, and_false, and_self, ne_eq, not_true_eq_false, not_false_eq_true, jw_ws, jw_vs, jw_cmp_lt, jw_cmp_gt, jw_cmp_eq, jp_t1, jp_t2, jp_t3, jp_t4, jp_t5, jp_t6]
  refine jp_up (fun k i a => fX12_timesAt_4 M k c a i) (M 133 9) (fun i a => 0 ≤ i ∧ a = jp_ct (M 133) c i.toNat) (fun x => x = some (jp_ct (M 133) c (M 133 9).toNat)) ?_ ?_ jw_fu 0 0 (by unfold jw_fu; omega) (by omega) ⟨by omega, rfl⟩
  · intro k i a hp hi ih
    obtain ⟨h0, rfl⟩ := hp
    have h1 := jp_ct_r (M 133) c i.toNat
    have h2 := jp_bit_r (M 133 (10 + i)) c
    have h3 := hN i h0 (by omega)
    show fX12_timesAt_4 _ _ _ _ _ = _
    rw [fX12_timesAt_4]
    simp (disch := omega) only [↓jp_bs, ↓jp_b2s, ↓reduceIte, jw_up_a, Nat.reduceEqDiff, Int.reduceEq, Int.reduceLT, Int.reduceLE, Int.reduceAdd, Int.reduceSub, Int.reduceMul, Int.reduceNeg, jp_n9_1, jp_n9_8, jp_n9_15, jp_n9_21, jp_n9_24, jp_n10_1, jp_n10_2, jp_n10_3, jp_n10_4, jp_n10_5, jp_n10_6, jp_n17_1, jp_n17_2, jp_n17_3, jp_n17_4, jp_n17_5, jp_n17_6, jp_n24_1, jp_n24_2, jp_n24_3, jp_n24_4, jp_n24_5, jp_n30_1, jp_n30_2, jp_n33_1, jp_n33_2, false_and, true_and, and_true, and_false, and_self, ne_eq, not_true_eq_false, not_false_eq_true, jw_ws, jw_vs, jw_cmp_lt, jw_cmp_gt, jw_cmp_eq, jp_t1, jp_t2, jp_t3, jp_t4, jp_t5, jp_t6, jp_bit_i]
    exact ih _ ⟨by omega, (jp_ct_s _ _ h0).symm⟩
  · intro k a hp
    obtain ⟨h0, rfl⟩ := hp
    show fX12_timesAt_4 _ _ _ _ _ = _
    rw [fX12_timesAt_4]
    simp (disch := omega) only [↓jp_bs, ↓jp_b2s, ↓reduceIte, jw_up_a, Nat.reduceEqDiff, Int.reduceEq, Int.reduceLT, Int.reduceLE, Int.reduceAdd, Int.reduceSub, Int.reduceMul, Int.reduceNeg, jp_n9_1, jp_n9_8, jp_n9_15, jp_n9_21, jp_n9_24, jp_n10_1, jp_n10_2, jp_n10_3, jp_n10_4, jp_n10_5, jp_n10_6, jp_n17_1, jp_n17_2, jp_n17_3, jp_n17_4, jp_n17_5, jp_n17_6, jp_n24_1, jp_n24_2, jp_n24_3, jp_n24_4, jp_n24_5, jp_n30_1, jp_n30_2, jp_n33_1, jp_n33_2, false_and, true_and, and_true, and_false, and_self, ne_eq, not_true_eq_false, not_false_eq_true, jw_ws, jw_vs, jw_cmp_lt, jw_cmp_gt, jw_cmp_eq, jp_t1, jp_t2, jp_t3, jp_t4, jp_t5, jp_t6]
theorem bX12_timesAt (c : Int) (M : jw_M) (hc : 0 ≤ c ∧ c < 7) (h9 : 0 ≤ M 133 9 ∧ M 133 9 ≤ 12) (hN : ∀ d : Int, 0 ≤ d → d < 12 → 0 ≤ M 133 (10 + d) ∧ M 133 (10 + d) < 128) {be : Type} (kk : _ → Option be) : Option.bind (fX12_timesAt c M) kk = kk ((jp_ct (M 133) c (M 133 9).toNat)) := by rw [show fX12_timesAt c M = some (jp_ct (M 133) c (M 133 9).toNat) from gX12_timesAt c M hc h9 hN]; rfl
/-- a fraction's half, cancelled -/
def jp_red (a b w : Int) : Int := if w = 0 then Int.tdiv a (Int.gcd a b : Int) else Int.tdiv b (Int.gcd a b : Int)
theorem jp_tmod (x y : Nat) : Int.tmod (x : Int) (y : Int) = ((x % y : Nat) : Int) := by
  rw [Int.tmod_eq_emod_of_nonneg (by omega)]
  rfl
theorem jp_half2 (x y : Nat) (h : 0 < x % y) (hy : 0 < y) : 2 * (y % (x % y)) < y := by
  have h1 : x % y < y := Nat.mod_lt _ hy
  generalize x % y = z at h h1
  have h2 : y % z < z := Nat.mod_lt _ h
  have h3 := Nat.div_add_mod y z
  have h4 : 1 ≤ y / z := Nat.div_pos (by omega) h
  have h5 : z * 1 ≤ z * (y / z) := Nat.mul_le_mul_left z h4
  omega
theorem gX11_cd_9 (M : jw_M) : ∀ (d : Nat) (x y : Nat) (g : Int) (k : Nat), d ≤ 62 → x < 9223372036854775808 → y < 2 ^ d → 0 ≤ g → g + 2 * (d : Int) ≤ 200 → 2 * d < k → fX11_commonDivisor_9 M k (x : Int) (y : Int) g = some ((Nat.gcd x y : Nat) : Int) := by
  intro d
  induction d with
  | zero =>
    intro x y g k _ hx hy h0 hg hk
    have e : y = 0 := by have := hy; simp at this; exact this
    subst e
    obtain ⟨k, rfl⟩ : ∃ j, k = j + 1 := ⟨k - 1, by omega⟩
    rw [fX11_commonDivisor_9]
    simp only [jw_cmp_eq, Nat.gcd_zero_right]
    split
    · rfl
    · rfl
  | succ d ih =>
    intro x y g k hd hx hy h0 hg hk
    obtain ⟨k, rfl⟩ : ∃ j, k = j + 1 := ⟨k - 1, by omega⟩
    have hp : 2 ^ (d + 1) = 2 * 2 ^ d := by rw [Nat.pow_succ]; omega
    have hp2 : 2 ^ (d + 1) ≤ 2 ^ 63 := Nat.pow_le_pow_right (by omega) (by omega)
    have e63 : (2 : Nat) ^ 63 = 9223372036854775808 := by decide
    rw [fX11_commonDivisor_9]
    by_cases hy0 : y = 0
    · subst hy0
      simp only [jw_cmp_eq, Nat.gcd_zero_right]
      split <;> rfl
    · have hm : x % y < y := Nat.mod_lt _ (by omega)
      simp (disch := omega) only [↓jp_bs, ↓jp_b2s, ↓reduceIte, jw_up_a, Nat.reduceEqDiff, Int.reduceEq, Int.reduceLT, Int.reduceLE, Int.reduceAdd, Int.reduceSub, Int.reduceMul, Int.reduceNeg, jp_n9_1, jp_n9_8, jp_n9_15, jp_n9_21, jp_n9_24, jp_n10_1, jp_n10_2, jp_n10_3, jp_n10_4, jp_n10_5, jp_n10_6, jp_n17_1, jp_n17_2, jp_n17_3, jp_n17_4, jp_n17_5, jp_n17_6, jp_n24_1, jp_n24_2, jp_n24_3, jp_n24_4, jp_n24_5, jp_n30_1, jp_n30_2, jp_n33_1, jp_n33_2, false_and, true_and, and_true, and_false, and_self, ne_eq, not_true_eq_false, not_false_eq_true, jw_ws, jw_vs, jw_cmp_lt, jw_cmp_gt, jw_cmp_eq, jp_t1, jp_t2, jp_t3, jp_t4, jp_t5, jp_t6, jp_tmod]
      obtain ⟨k, rfl⟩ : ∃ j, k = j + 1 := ⟨k - 1, by omega⟩
      rw [show Nat.gcd x y = Nat.gcd y (x % y) from by rw [Nat.gcd_comm x y, Nat.gcd_rec y x, Nat.gcd_comm]]
      rw [fX11_commonDivisor_9]
      by_cases hz : x % y = 0
      · rw [hz]
        simp only [jw_cmp_eq, Nat.gcd_zero_right]
        split <;> rfl
      · have h2 := jp_half2 x y (by omega) (by omega)
        simp (disch := omega) only [↓jp_bs, ↓jp_b2s, ↓reduceIte, jw_up_a, Nat.reduceEqDiff, Int.reduceEq, Int.reduceLT, Int.reduceLE, Int.reduceAdd, Int.reduceSub, Int.reduceMul, Int.reduceNeg, jp_n9_1, jp_n9_8, jp_n9_15, jp_n9_21, jp_n9_24, jp_n10_1, jp_n10_2, jp_n10_3, jp_n10_4, jp_n10_5, jp_n10_6, jp_n17_1, jp_n17_2, jp_n17_3, jp_n17_4, jp_n17_5, jp_n17_6, jp_n24_1, jp_n24_2, jp_n24_3, jp_n24_4, jp_n24_5, jp_n30_1, jp_n30_2, jp_n33_1, jp_n33_2, false_and, true_and, and_true, and_false, and_self, ne_eq, not_true_eq_false, not_false_eq_true, jw_ws, jw_vs, jw_cmp_lt, jw_cmp_gt, jw_cmp_eq, jp_t1, jp_t2, jp_t3, jp_t4, jp_t5, jp_t6, jp_tmod]
        rw [show Nat.gcd y (x % y) = Nat.gcd (x % y) (y % (x % y)) from by rw [Nat.gcd_comm y, Nat.gcd_rec (x % y) y, Nat.gcd_comm]]
        exact ih _ _ _ _ (by omega) (by omega) (by omega) (by omega) (by omega) (by omega)
theorem jp_tdr {a : Int} (h : -9223372036854775808 < a ∧ a < 9223372036854775808) (g : Int) : -9223372036854775808 ≤ Int.tdiv a g ∧ Int.tdiv a g < 9223372036854775808 := by
  have h3 : (Int.tdiv a g).natAbs ≤ a.natAbs := by rw [Int.natAbs_tdiv]; exact Nat.div_le_self _ _
  omega
theorem gX11_half (a b w : Int) (M : jw_M) (ha : -4611686018427387904 < a ∧ a < 4611686018427387904) (hb : 0 < b ∧ b < 4611686018427387904) : fX11_half a b w M = some (jp_red a b w) := by
  have hab : jw_abs a = ((a.natAbs : Nat) : Int) := by
    unfold jw_abs
    split
    · omega
    · rw [jw_vs (by omega)]; omega
  have hbb : b = ((b.natAbs : Nat) : Int) := by omega
  have hg := gX11_cd_9 M 62 a.natAbs b.natAbs 0 jw_fu (by omega) (by omega) (by omega) (by omega) (by omega) (by unfold jw_fu; omega)
  have hg2 : Nat.gcd a.natAbs b.natAbs = Int.gcd a b := rfl
  have hpos : 0 < Int.gcd a b := Nat.gcd_pos_of_pos_right _ (by omega)
  rw [← hbb, hg2] at hg
  unfold fX11_half fX11_commonDivisor
  simp only [Option.bind_some, hab, hg]
  unfold fX11_half_29 jp_red
  have q1 : -9223372036854775808 ≤ Int.tdiv a (Int.gcd a b : Int) ∧ Int.tdiv a (Int.gcd a b : Int) < 9223372036854775808 := by
    exact jp_tdr (by omega) _
  have q2 : -9223372036854775808 ≤ Int.tdiv b (Int.gcd a b : Int) ∧ Int.tdiv b (Int.gcd a b : Int) < 9223372036854775808 := by
    exact jp_tdr (by omega) _
  rw [jw_vs q1, jw_vs q2]
  simp (disch := omega) only [↓jp_bs, ↓jp_b2s, ↓reduceIte, jw_up_a, Nat.reduceEqDiff, Int.reduceEq, Int.reduceLT, Int.reduceLE, Int.reduceAdd, Int.reduceSub, Int.reduceMul, Int.reduceNeg, jp_n9_1, jp_n9_8, jp_n9_15, jp_n9_21, jp_n9_24, jp_n10_1, jp_n10_2, jp_n10_3, jp_n10_4, jp_n10_5, jp_n10_6, jp_n17_1, jp_n17_2, jp_n17_3, jp_n17_4, jp_n17_5, jp_n17_6, jp_n24_1, jp_n24_2, jp_n24_3, jp_n24_4, jp_n24_5, jp_n30_1, jp_n30_2, jp_n33_1, jp_n33_2, false_and, true_and, and_true, and_false, and_self, ne_eq, not_true_eq_false, not_false_eq_true, jw_ws, jw_vs, jw_cmp_lt, jw_cmp_gt, jw_cmp_eq, jp_t1, jp_t2, jp_t3, jp_t4, jp_t5, jp_t6]
  split <;> rfl
theorem bX11_half (a b w : Int) (M : jw_M) (ha : -4611686018427387904 < a ∧ a < 4611686018427387904) (hb : 0 < b ∧ b < 4611686018427387904) {be : Type} (kk : _ → Option be) : Option.bind (fX11_half a b w M) kk = kk ((jp_red a b w)) := by rw [show fX11_half a b w M = some (jp_red a b w) from gX11_half a b w M ha hb]; rfl
theorem gX12_po (M : jw_M) (a b w : Int) : ∀ (d : Nat) (x y : Nat) (k : Nat), d ≤ 62 → x < 9223372036854775808 → y < 2 ^ d → 2 * d < k → fX12_partOf_17 M k a b w (x : Int) (y : Int) = if w = 0 then fX12_partOf_52 M ((Nat.gcd x y : Nat) : Int) a else fX12_partOf_52 M ((Nat.gcd x y : Nat) : Int) b := by
  intro d
  induction d with
  | zero =>
    intro x y k _ hx hy hk
    have e : y = 0 := by have := hy; simp at this; exact this
    subst e
    obtain ⟨k, rfl⟩ : ∃ j, k = j + 1 := ⟨k - 1, by omega⟩
    rw [fX12_partOf_17]
    simp only [jw_cmp_eq, Nat.gcd_zero_right]
    rfl
  | succ d ih =>
    intro x y k hd hx hy hk
    obtain ⟨k, rfl⟩ : ∃ j, k = j + 1 := ⟨k - 1, by omega⟩
    have hp : 2 ^ (d + 1) = 2 * 2 ^ d := by rw [Nat.pow_succ]; omega
    have hp2 : 2 ^ (d + 1) ≤ 2 ^ 63 := Nat.pow_le_pow_right (by omega) (by omega)
    have e63 : (2 : Nat) ^ 63 = 9223372036854775808 := by decide
    rw [fX12_partOf_17]
    by_cases hy0 : y = 0
    · subst hy0
      simp only [jw_cmp_eq, Nat.gcd_zero_right]
      rfl
    · have hm : x % y < y := Nat.mod_lt _ (by omega)
      simp (disch := omega) only [↓jp_bs, ↓jp_b2s, ↓reduceIte, jw_up_a, Nat.reduceEqDiff, Int.reduceEq, Int.reduceLT, Int.reduceLE, Int.reduceAdd, Int.reduceSub, Int.reduceMul, Int.reduceNeg, jp_n9_1, jp_n9_8, jp_n9_15, jp_n9_21, jp_n9_24, jp_n10_1, jp_n10_2, jp_n10_3, jp_n10_4, jp_n10_5, jp_n10_6, jp_n17_1, jp_n17_2, jp_n17_3, jp_n17_4, jp_n17_5, jp_n17_6, jp_n24_1, jp_n24_2, jp_n24_3, jp_n24_4, jp_n24_5, jp_n30_1, jp_n30_2, jp_n33_1, jp_n33_2, false_and, true_and, and_true, and_false, and_self, ne_eq, not_true_eq_false, not_false_eq_true, jw_ws, jw_vs, jw_cmp_lt, jw_cmp_gt, jw_cmp_eq, jp_t1, jp_t2, jp_t3, jp_t4, jp_t5, jp_t6, jp_tmod]
      obtain ⟨k, rfl⟩ : ∃ j, k = j + 1 := ⟨k - 1, by omega⟩
      rw [show Nat.gcd x y = Nat.gcd y (x % y) from by rw [Nat.gcd_comm x y, Nat.gcd_rec y x, Nat.gcd_comm]]
      rw [fX12_partOf_17]
      by_cases hz : x % y = 0
      · rw [hz]
        simp only [jw_cmp_eq, Nat.gcd_zero_right]
        rfl
      · have h2 := jp_half2 x y (by omega) (by omega)
        simp (disch := omega) only [↓jp_bs, ↓jp_b2s, ↓reduceIte, jw_up_a, Nat.reduceEqDiff, Int.reduceEq, Int.reduceLT, Int.reduceLE, Int.reduceAdd, Int.reduceSub, Int.reduceMul, Int.reduceNeg, jp_n9_1, jp_n9_8, jp_n9_15, jp_n9_21, jp_n9_24, jp_n10_1, jp_n10_2, jp_n10_3, jp_n10_4, jp_n10_5, jp_n10_6, jp_n17_1, jp_n17_2, jp_n17_3, jp_n17_4, jp_n17_5, jp_n17_6, jp_n24_1, jp_n24_2, jp_n24_3, jp_n24_4, jp_n24_5, jp_n30_1, jp_n30_2, jp_n33_1, jp_n33_2, false_and, true_and, and_true, and_false, and_self, ne_eq, not_true_eq_false, not_false_eq_true, jw_ws, jw_vs, jw_cmp_lt, jw_cmp_gt, jw_cmp_eq, jp_t1, jp_t2, jp_t3, jp_t4, jp_t5, jp_t6, jp_tmod]
        rw [show Nat.gcd y (x % y) = Nat.gcd (x % y) (y % (x % y)) from by rw [Nat.gcd_comm y, Nat.gcd_rec (x % y) y, Nat.gcd_comm]]
        exact ih _ _ _ (by omega) (by omega) (by omega) (by omega)
theorem gX12_partOf (a b w : Int) (M : jw_M) (ha : -4611686018427387904 < a ∧ a < 4611686018427387904) (hb : 0 < b ∧ b < 4611686018427387904) : fX12_partOf a b w M = some (jp_red a b w) := by
  have hbb : b = ((b.natAbs : Nat) : Int) := by omega
  have hg2 : Nat.gcd a.natAbs b.natAbs = Int.gcd a b := rfl
  have hpos : 0 < Int.gcd a b := Nat.gcd_pos_of_pos_right _ (by omega)
  have key : fX12_partOf_12 M a b w ((a.natAbs : Nat) : Int) = some (jp_red a b w) := by
    unfold fX12_partOf_12
    simp only [Option.bind_some]
    have hg := gX12_po M a b w 62 a.natAbs b.natAbs jw_fu (by omega) (by omega) (by omega) (by unfold jw_fu; omega)
    rw [← hbb, hg2] at hg
    rw [hg]
    unfold fX12_partOf_52 jp_red
    rw [jw_vs (jp_tdr (by omega) _), jw_vs (jp_tdr (by omega) _)]
    simp (disch := omega) only [↓jp_bs, ↓jp_b2s, ↓reduceIte, jw_up_a, Nat.reduceEqDiff, Int.reduceEq, Int.reduceLT, Int.reduceLE, Int.reduceAdd, Int.reduceSub, Int.reduceMul, Int.reduceNeg, jp_n9_1, jp_n9_8, jp_n9_15, jp_n9_21, jp_n9_24, jp_n10_1, jp_n10_2, jp_n10_3, jp_n10_4, jp_n10_5, jp_n10_6, jp_n17_1, jp_n17_2, jp_n17_3, jp_n17_4, jp_n17_5, jp_n17_6, jp_n24_1, jp_n24_2, jp_n24_3, jp_n24_4, jp_n24_5, jp_n30_1, jp_n30_2, jp_n33_1, jp_n33_2, false_and, true_and, and_true, and_false, and_self, ne_eq, not_true_eq_false, not_false_eq_true, jw_ws, jw_vs, jw_cmp_lt, jw_cmp_gt, jw_cmp_eq, jp_t1, jp_t2, jp_t3, jp_t4, jp_t5, jp_t6]
    split <;> rfl
  unfold fX12_partOf
  simp only [jw_cmp_lt]
  by_cases h0 : a < 0
  · rw [if_pos h0, jw_vs (by omega), show -a = ((a.natAbs : Nat) : Int) by omega, key]
  · rw [if_neg h0]
    have e : fX12_partOf_12 M a b w a = fX12_partOf_12 M a b w ((a.natAbs : Nat) : Int) := by
      congr 1
      omega
    rw [e, key]
theorem bX12_partOf (a b w : Int) (M : jw_M) (ha : -4611686018427387904 < a ∧ a < 4611686018427387904) (hb : 0 < b ∧ b < 4611686018427387904) {be : Type} (kk : _ → Option be) : Option.bind (fX12_partOf a b w M) kk = kk ((jp_red a b w)) := by rw [show fX12_partOf a b w M = some (jp_red a b w) from gX12_partOf a b w M ha hb]; rfl
