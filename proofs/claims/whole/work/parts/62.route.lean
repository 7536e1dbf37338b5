/-! raids: routes -/
def jp_rp (T R : Int → Int) (o k : Int) : Bool := decide (0 ≤ R (o + k) ∧ R (o + k) < T 0) && (decide (k = 0) || decide (T (14 + 7 * R (o + k - 1) + R (o + k)) ≠ 0))
theorem jp_rp_i (T R : Int → Int) (o k : Int) : jp_rp T R o k = true ↔ (0 ≤ R (o + k) ∧ R (o + k) < T 0) ∧ (k = 0 ∨ T (14 + 7 * R (o + k - 1) + R (o + k)) ≠ 0) := by
  unfold jp_rp
  rw [Bool.and_eq_true, Bool.or_eq_true, decide_eq_true_iff, decide_eq_true_iff, decide_eq_true_iff]
theorem jp_rp_f {T R : Int → Int} {o k : Int} (h : ¬ ((0 ≤ R (o + k) ∧ R (o + k) < T 0) ∧ (k = 0 ∨ T (14 + 7 * R (o + k - 1) + R (o + k)) ≠ 0))) : jp_rp T R o k = false := by
  cases e : jp_rp T R o k with
  | false => rfl
  | true => exact absurd ((jp_rp_i T R o k).mp e) h
def jp_mi (T R : Int → Int) (o : Int) : Nat → Int
  | 0 => 0
  | n + 1 => jp_mi T R o n + (if (n : Int) = 0 then 0 else T (14 + 7 * R (o + (n : Int) - 1) + R (o + (n : Int))))
def jp_cw (T R : Int → Int) (o : Int) (C : Int → Int) : Nat → Int → Int
  | 0 => C
  | n + 1 => jw_u1 (jp_cw T R o C n) (R (o + (n : Int))) (if jp_mi T R o (n + 1) < jp_cw T R o C n (R (o + (n : Int))) then jp_mi T R o (n + 1) else jp_cw T R o C n (R (o + (n : Int))))
theorem jp_mi_s (T R : Int → Int) (o : Int) {i : Int} (h : 0 ≤ i) : jp_mi T R o (i + 1).toNat = jp_mi T R o i.toNat + (if i = 0 then 0 else T (14 + 7 * R (o + i - 1) + R (o + i))) := by
  have e : (i + 1).toNat = i.toNat + 1 := by omega
  rw [e, jp_mi, Int.toNat_of_nonneg h]
theorem jp_cw_s (T R : Int → Int) (o : Int) (C : Int → Int) {i : Int} (h : 0 ≤ i) : jp_cw T R o C (i + 1).toNat = jw_u1 (jp_cw T R o C i.toNat) (R (o + i)) (if jp_mi T R o (i + 1).toNat < jp_cw T R o C i.toNat (R (o + i)) then jp_mi T R o (i + 1).toNat else jp_cw T R o C i.toNat (R (o + i))) := by
  have e : (i + 1).toNat = i.toNat + 1 := by omega
  rw [e, jp_cw, Int.toNat_of_nonneg h]
def jp_cok (C : Int → Int) : Prop := ∀ c : Int, 0 ≤ c → c < 7 → 0 ≤ C c ∧ C c ≤ 1000000
/-- a step of a route -/
theorem jp_rp_s {T R : Int → Int} (hT : jp_T T) {o n : Int} (hv : jp_all (jp_rp T R o) n.toNat = true) {i : Int} (h0 : 0 ≤ i) (h1 : i < n) : (0 ≤ R (o + i) ∧ R (o + i) < T 0) ∧ (i ≠ 0 → (0 ≤ R (o + i - 1) ∧ R (o + i - 1) < T 0) ∧ 1 ≤ T (14 + 7 * R (o + i - 1) + R (o + i)) ∧ T (14 + 7 * R (o + i - 1) + R (o + i)) ≤ 20) := by
  have ha := (jp_rp_i T R o i).mp ((jp_all_i _ _).mp hv i h0 (by omega))
  refine ⟨ha.1, fun hz => ?_⟩
  have hb := (jp_rp_i T R o (i - 1)).mp ((jp_all_i _ _).mp hv (i - 1) (by omega) (by omega))
  rw [show o + (i - 1) = o + i - 1 by omega] at hb
  have t0 := hT.1.1
  have ht := hT.2.2.2.1 (R (o + i - 1)) (R (o + i)) (by omega) (by omega) (by omega) (by omega)
  omega
theorem jp_mi_r {T R : Int → Int} (hT : jp_T T) {o n : Int} (hv : jp_all (jp_rp T R o) n.toNat = true) : ∀ i : Nat, (i : Int) ≤ n → 0 ≤ jp_mi T R o i ∧ jp_mi T R o i ≤ 20 * (i : Int) := by
  intro i
  induction i with
  | zero => intro _; simp [jp_mi]
  | succ i ih =>
    intro hi
    have h1 := ih (by omega)
    have h2 := jp_rp_s hT hv (i := (i : Int)) (by omega) (by omega)
    rw [jp_mi]
    split <;> omega
theorem jp_cw_ok {T R : Int → Int} (hT : jp_T T) {o n : Int} (hn : n ≤ 10) (hv : jp_all (jp_rp T R o) n.toNat = true) {C : Int → Int} (hC : jp_cok C) : ∀ i : Nat, (i : Int) ≤ n → jp_cok (jp_cw T R o C i) := by
  intro i
  induction i with
  | zero => intro _; exact hC
  | succ i ih =>
    intro hi c c0 c1
    have h1 := ih (by omega)
    have h2 := jp_rp_s hT hv (i := (i : Int)) (by omega) (by omega)
    have h3 := jp_mi_r hT hv (i + 1) (by omega)
    have t0 := hT.1.1
    rw [jp_cw, jw_u1_a]
    split
    · have h4 := h1 (R (o + (i : Int))) (by omega) (by omega)
      split <;> omega
    · exact h1 c c0 c1
theorem jp_rp_e {T R R' : Int → Int} {o n : Int} (hR : ∀ k : Int, o ≤ k → k < o + n → R' k = R k) : jp_all (jp_rp T R' o) n.toNat = jp_all (jp_rp T R o) n.toNat := by
  refine jp_all_c _ (fun k k0 k1 => ?_)
  unfold jp_rp
  rw [hR (o + k) (by omega) (by omega)]
  by_cases e : k = 0
  · rw [decide_eq_true e, Bool.true_or, Bool.true_or]
  · rw [hR (o + k - 1) (by omega) (by omega)]
theorem jp_mi_e {T R R' : Int → Int} {o n : Int} (hR : ∀ k : Int, o ≤ k → k < o + n → R' k = R k) : ∀ i : Nat, (i : Int) ≤ n → jp_mi T R' o i = jp_mi T R o i := by
  intro i
  induction i with
  | zero => intro _; rfl
  | succ i ih =>
    intro hi
    rw [jp_mi, jp_mi, ih (by omega), hR (o + (i : Int)) (by omega) (by omega)]
    split
    · rfl
    · rw [hR (o + (i : Int) - 1) (by omega) (by omega)]
theorem jp_cw_e {T R R' : Int → Int} (h0 : T 0 ≤ 7) {o n : Int} (hv : jp_all (jp_rp T R o) n.toNat = true) (hR : ∀ k : Int, o ≤ k → k < o + n → R' k = R k) {C C' : Int → Int} (hC : ∀ c : Int, 0 ≤ c → c < 7 → C' c = C c) : ∀ i : Nat, (i : Int) ≤ n → ∀ c : Int, 0 ≤ c → c < 7 → jp_cw T R' o C' i c = jp_cw T R o C i c := by
  intro i
  induction i with
  | zero => intro _; exact hC
  | succ i ih =>
    intro hi c c0 c1
    have ha := (jp_rp_i T R o i).mp ((jp_all_i _ _).mp hv i (by omega) (by omega))
    rw [jp_cw, jp_cw, hR (o + (i : Int)) (by omega) (by omega), jw_u1_a, jw_u1_a, jp_mi_e hR (i + 1) (by omega), ih (by omega) c c0 c1, ih (by omega) (R (o + (i : Int))) (by omega) (by omega)]
theorem gX6_item {a i : Int} (ha : 0 ≤ a ∧ a < 8) (hi : 0 ≤ i ∧ i < 40) (M : jw_M) : fX6_item a i M = some (M 4 (40 * a + i)) := by
  unfold fX6_item
  simp (disch := omega) only [↓jp_bs, ↓jp_b2s, ↓reduceIte, jw_up_a, Nat.reduceEqDiff, Int.reduceEq, Int.reduceLT, Int.reduceLE, Int.reduceAdd, Int.reduceSub, Int.reduceMul, Int.reduceNeg, jp_n9_1, jp_n9_8, jp_n9_15, jp_n9_21, jp_n9_24, jp_n10_1, jp_n10_2, jp_n10_3, jp_n10_4, jp_n10_5, jp_n10_6, jp_n17_1, jp_n17_2, jp_n17_3, jp_n17_4, jp_n17_5, jp_n17_6, jp_n24_1, jp_n24_2, jp_n24_3, jp_n24_4, jp_n24_5, jp_n30_1, jp_n30_2, jp_n33_1, jp_n33_2, false_and, true_and, and_true, and_false, and_self, ne_eq, not_true_eq_false, not_false_eq_true, jw_ws, jw_vs, jw_cmp_lt, jw_cmp_gt, jw_cmp_eq, jp_t1, jp_t2, jp_t3, jp_t4, jp_t5, jp_t6, show a * 40 + i = 40 * a + i by omega]
theorem bX6_item {a i : Int} (ha : 0 ≤ a ∧ a < 8) (hi : 0 ≤ i ∧ i < 40) (M : jw_M) {be : Type} (kk : _ → Option be) : Option.bind (fX6_item a i M) kk = kk ((M 4 (40 * a + i))) := by rw [show fX6_item a i M = some (M 4 (40 * a + i)) from gX6_item ha hi M]; rfl
theorem gX11_isRoute {M : jw_M} (hA : jp_A M) (r f n : Int) (hr : 0 ≤ r ∧ r < 8) (hf : 0 ≤ f ∧ 0 ≤ n ∧ f + n ≤ 40) : fX11_isRoute r f n M = some (jp_01 (jp_all (jp_rp (M 131) (M 4) (40 * r + f)) n.toNat)) := by
  obtain ⟨⟨c0, c5, c8, -⟩, -, g4, g7⟩ := jp_A_c hA
  obtain ⟨⟨r0, r2, r3, r4, r5⟩, -⟩ := jp_A_r hA
  unfold fX11_isRoute
  simp (disch := omega) only [↓jp_bs, ↓jp_b2s, ↓reduceIte, jw_up_a, Nat.reduceEqDiff, Int.reduceEq, Int.reduceLT, Int.reduceLE, Int.reduceAdd, Int.reduceSub, Int.reduceMul, Int.reduceNeg, jp_n9_1, jp_n9_8, jp_n9_15, jp_n9_21, jp_n9_24, jp_n10_1, jp_n10_2, jp_n10_3, jp_n10_4, jp_n10_5, jp_n10_6, jp_n17_1, jp_n17_2, jp_n17_3, jp_n17_4, jp_n17_5, jp_n17_6, jp_n24_1, jp_n24_2, jp_n24_3, jp_n24_4, jp_n24_5, jp_n30_1, jp_n30_2, jp_n33_1, jp_n33_2, false_and, true_and, and_true, and_false, and_self, ne_eq, not_true_eq_false, not_false_eq_true, jw_ws, jw_vs, jw_cmp_lt, jw_cmp_gt, jw_cmp_eq, jp_t1, jp_t2, jp_t3, jp_t4, jp_t5, jp_t6]
  refine jp_up (fun k i (_ : Unit) => fX11_isRoute_3 M k r f n i) n (fun i _ => 0 ≤ i ∧ jp_all (jp_rp (M 131) (M 4) (40 * r + f)) i.toNat = true) (fun x => x = some (jp_01 (jp_all (jp_rp (M 131) (M 4) (40 * r + f)) n.toNat))) ?_ ?_ jw_fu 0 () (by unfold jw_fu; omega) (by omega) ⟨by omega, rfl⟩
  · intro k i _ hp hi ih
    obtain ⟨h0, h1⟩ := hp
    have e1 : 40 * r + (f + i) = 40 * r + f + i := by omega
    have e2 : 40 * r + (f + i - 1) = 40 * r + f + i - 1 := by omega
    have next : jp_rp (M 131) (M 4) (40 * r + f) i = true → fX11_isRoute_3 M k r f n (i + 1) = some (jp_01 (jp_all (jp_rp (M 131) (M 4) (40 * r + f)) n.toNat)) := fun e => ih () ⟨by omega, by rw [jp_all_s _ h0, h1, e]; rfl⟩
    have bad : jp_rp (M 131) (M 4) (40 * r + f) i = false → some (0 : Int) = some (jp_01 (jp_all (jp_rp (M 131) (M 4) (40 * r + f)) n.toNat)) := fun e => by rw [jp_all_f h0 (by omega) e]; rfl
    show fX11_isRoute_3 _ _ _ _ _ _ = _
    rw [fX11_isRoute_3]
    unfold fX11_isRoute_76
    by_cases h2 : 0 ≤ M 4 (40 * r + f + i) ∧ M 4 (40 * r + f + i) < M 131 0
    · by_cases h3 : i = 0
      · subst h3
        simp (disch := omega) only [↓jp_bs, ↓jp_b2s, ↓reduceIte, jw_up_a, Nat.reduceEqDiff, Int.reduceEq, Int.reduceLT, Int.reduceLE, Int.reduceAdd, Int.reduceSub, Int.reduceMul, Int.reduceNeg, jp_n9_1, jp_n9_8, jp_n9_15, jp_n9_21, jp_n9_24, jp_n10_1, jp_n10_2, jp_n10_3, jp_n10_4, jp_n10_5, jp_n10_6, jp_n17_1, jp_n17_2, jp_n17_3, jp_n17_4, jp_n17_5, jp_n17_6, jp_n24_1, jp_n24_2, jp_n24_3, jp_n24_4, jp_n24_5, jp_n30_1, jp_n30_2, jp_n33_1, jp_n33_2, false_and, true_and, and_true, and_false, and_self, ne_eq, not_true_eq_false, not_false_eq_true, jw_ws, jw_vs, jw_cmp_lt, jw_cmp_gt, jw_cmp_eq, jp_t1, jp_t2, jp_t3, jp_t4, jp_t5, jp_t6, ↓bX6_item, e1, ↓bX9_isCorner, c0]
        exact next ((jp_rp_i _ _ _ _).mpr ⟨h2, Or.inl rfl⟩)
      · have hb := (jp_rp_i (M 131) (M 4) (40 * r + f) (i - 1)).mp ((jp_all_i _ _).mp h1 (i - 1) (by omega) (by omega))
        rw [show 40 * r + f + (i - 1) = 40 * r + f + i - 1 by omega] at hb
        by_cases h4 : M 131 (14 + 7 * M 4 (40 * r + f + i - 1) + M 4 (40 * r + f + i)) = 0
        · simp (disch := omega) only [↓jp_bs, ↓jp_b2s, ↓reduceIte, jw_up_a, Nat.reduceEqDiff, Int.reduceEq, Int.reduceLT, Int.reduceLE, Int.reduceAdd, Int.reduceSub, Int.reduceMul, Int.reduceNeg, jp_n9_1, jp_n9_8, jp_n9_15, jp_n9_21, jp_n9_24, jp_n10_1, jp_n10_2, jp_n10_3, jp_n10_4, jp_n10_5, jp_n10_6, jp_n17_1, jp_n17_2, jp_n17_3, jp_n17_4, jp_n17_5, jp_n17_6, jp_n24_1, jp_n24_2, jp_n24_3, jp_n24_4, jp_n24_5, jp_n30_1, jp_n30_2, jp_n33_1, jp_n33_2, false_and, true_and, and_true, and_false, and_self, ne_eq, not_true_eq_false, not_false_eq_true, jw_ws, jw_vs, jw_cmp_lt, jw_cmp_gt, jw_cmp_eq, jp_t1, jp_t2, jp_t3, jp_t4, jp_t5, jp_t6, ↓bX6_item, e1, e2, ↓bX9_isCorner, c0, ↓bX9_streetTo hA]
          exact bad (jp_rp_f (fun z => z.2.elim h3 (fun y => y h4)))
        · simp (disch := omega) only [↓jp_bs, ↓jp_b2s, ↓reduceIte, jw_up_a, Nat.reduceEqDiff, Int.reduceEq, Int.reduceLT, Int.reduceLE, Int.reduceAdd, Int.reduceSub, Int.reduceMul, Int.reduceNeg, jp_n9_1, jp_n9_8, jp_n9_15, jp_n9_21, jp_n9_24, jp_n10_1, jp_n10_2, jp_n10_3, jp_n10_4, jp_n10_5, jp_n10_6, jp_n17_1, jp_n17_2, jp_n17_3, jp_n17_4, jp_n17_5, jp_n17_6, jp_n24_1, jp_n24_2, jp_n24_3, jp_n24_4, jp_n24_5, jp_n30_1, jp_n30_2, jp_n33_1, jp_n33_2, false_and, true_and, and_true, and_false, and_self, ne_eq, not_true_eq_false, not_false_eq_true, jw_ws, jw_vs, jw_cmp_lt, jw_cmp_gt, jw_cmp_eq, jp_t1, jp_t2, jp_t3, jp_t4, jp_t5, jp_t6, ↓bX6_item, e1, e2, ↓bX9_isCorner, c0, ↓bX9_streetTo hA]
          exact next ((jp_rp_i _ _ _ _).mpr ⟨h2, Or.inr h4⟩)
    · simp (disch := omega) only [↓jp_bs, ↓jp_b2s, ↓reduceIte, jw_up_a, Nat.reduceEqDiff, Int.reduceEq, Int.reduceLT, Int.reduceLE, Int.reduceAdd, Int.reduceSub, Int.reduceMul, Int.reduceNeg, jp_n9_1, jp_n9_8, jp_n9_15, jp_n9_21, jp_n9_24, jp_n10_1, jp_n10_2, jp_n10_3, jp_n10_4, jp_n10_5, jp_n10_6, jp_n17_1, jp_n17_2, jp_n17_3, jp_n17_4, jp_n17_5, jp_n17_6, jp_n24_1, jp_n24_2, jp_n24_3, jp_n24_4, jp_n24_5, jp_n30_1, jp_n30_2, jp_n33_1, jp_n33_2, false_and, true_and, and_true, and_false, and_self, ne_eq, not_true_eq_false, not_false_eq_true, jw_ws, jw_vs, jw_cmp_lt, jw_cmp_gt, jw_cmp_eq, jp_t1, jp_t2, jp_t3, jp_t4, jp_t5, jp_t6, ↓bX6_item, e1, ↓bX9_isCorner, c0]
      exact bad (jp_rp_f (fun z => h2 z.1))
  · intro k _ hp
    show fX11_isRoute_3 _ _ _ _ _ _ = _
    rw [fX11_isRoute_3]
    simp (disch := omega) only [↓jp_bs, ↓jp_b2s, ↓reduceIte, jw_up_a, Nat.reduceEqDiff, Int.reduceEq, Int.reduceLT, Int.reduceLE, Int.reduceAdd, Int.reduceSub, Int.reduceMul, Int.reduceNeg, jp_n9_1, jp_n9_8, jp_n9_15, jp_n9_21, jp_n9_24, jp_n10_1, jp_n10_2, jp_n10_3, jp_n10_4, jp_n10_5, jp_n10_6, jp_n17_1, jp_n17_2, jp_n17_3, jp_n17_4, jp_n17_5, jp_n17_6, jp_n24_1, jp_n24_2, jp_n24_3, jp_n24_4, jp_n24_5, jp_n30_1, jp_n30_2, jp_n33_1, jp_n33_2, false_and, true_and, and_true, and_false, and_self, ne_eq, not_true_eq_false, not_false_eq_true, jw_ws, jw_vs, jw_cmp_lt, jw_cmp_gt, jw_cmp_eq, jp_t1, jp_t2, jp_t3, jp_t4, jp_t5, jp_t6]
    rw [hp.2]
    rfl
theorem bX11_isRoute {M : jw_M} (hA : jp_A M) (r f n : Int) (hr : 0 ≤ r ∧ r < 8) (hf : 0 ≤ f ∧ 0 ≤ n ∧ f + n ≤ 40) {be : Type} (kk : _ → Option be) : Option.bind (fX11_isRoute r f n M) kk = kk ((jp_01 (jp_all (jp_rp (M 131) (M 4) (40 * r + f)) n.toNat))) := by rw [show fX11_isRoute r f n M = some (jp_01 (jp_all (jp_rp (M 131) (M 4) (40 * r + f)) n.toNat)) from gX11_isRoute hA r f n hr hf]; rfl
theorem gX3_comesTo (c m : Int) (hc : 0 ≤ c ∧ c < 7) (M : jw_M) : fX3_comesTo (9 + 15) c m M = some (jw_up M 25 c (if m < M 25 c then m else M 25 c)) := by
  unfold fX3_comesTo
  rw [if_pos (by decide), if_pos hc, if_pos hc]
  rfl
theorem bX3_comesTo (c m : Int) (hc : 0 ≤ c ∧ c < 7) (M : jw_M) {be : Type} (kk : _ → Option be) : Option.bind (fX3_comesTo (9 + 15) c m M) kk = kk ((jw_up M 25 c (if m < M 25 c then m else M 25 c))) := by rw [show fX3_comesTo (9 + 15) c m M = some (jw_up M 25 c (if m < M 25 c then m else M 25 c)) from gX3_comesTo c m hc M]; rfl
theorem gX11_walkRoute {M : jw_M} (hA : jp_A M) (r f n : Int) (hr : 0 ≤ r ∧ r < 8) (hf : 0 ≤ f ∧ 0 ≤ n ∧ n ≤ 10 ∧ f + n ≤ 40) (hv : jp_all (jp_rp (M 131) (M 4) (40 * r + f)) n.toNat = true) : fX11_walkRoute r f n M = some (jw_pt M 25 (jp_cw (M 131) (M 4) (40 * r + f) (M 25) n.toNat)) := by
  obtain ⟨⟨r0, r2, r3, r4, r5⟩, -⟩ := jp_A_r hA
  unfold fX11_walkRoute
  simp (disch := omega) only [↓jp_bs, ↓jp_b2s, ↓reduceIte, jw_up_a, Nat.reduceEqDiff, Int.reduceEq, Int.reduceLT, Int.reduceLE, Int.reduceAdd, Int.reduceSub, Int.reduceMul, Int.reduceNeg, jp_n9_1, jp_n9_8, jp_n9_15, jp_n9_21, jp_n9_24, jp_n10_1, jp_n10_2, jp_n10_3, jp_n10_4, jp_n10_5, jp_n10_6, jp_n17_1, jp_n17_2, jp_n17_3, jp_n17_4, jp_n17_5, jp_n17_6, jp_n24_1, jp_n24_2, jp_n24_3, jp_n24_4, jp_n24_5, jp_n30_1, jp_n30_2, jp_n33_1, jp_n33_2, false_and, true_and, and_true, and_false, and_self, ne_eq, not_true_eq_false, not_false_eq_true, jw_ws, jw_vs, jw_cmp_lt, jw_cmp_gt, jw_cmp_eq, jp_t1, jp_t2, jp_t3, jp_t4, jp_t5, jp_t6]
  refine jp_up (fun k i (a : Int × jw_M) => fX11_walkRoute_6 k r f n a.1 i a.2) n (fun i a => 0 ≤ i ∧ a = (jp_mi (M 131) (M 4) (40 * r + f) i.toNat, jw_pt M 25 (jp_cw (M 131) (M 4) (40 * r + f) (M 25) i.toNat))) (fun x => x = some (jw_pt M 25 (jp_cw (M 131) (M 4) (40 * r + f) (M 25) n.toNat))) ?_ ?_ jw_fu 0 (0, M) (by unfold jw_fu; omega) (by omega) ⟨by omega, ?_⟩
  · intro k i a hp hi ih
    obtain ⟨h0, rfl⟩ := hp
    have e1 : 40 * r + (f + i) = 40 * r + f + i := by omega
    have e2 : 40 * r + (f + i - 1) = 40 * r + f + i - 1 := by omega
    have hs := jp_rp_s hA.1 hv h0 hi
    have hm := jp_mi_r hA.1 hv i.toNat (by omega)
    have em := jp_mi_s (M 131) (M 4) (40 * r + f) h0
    have ec := jp_cw_s (M 131) (M 4) (40 * r + f) (M 25) h0
    show fX11_walkRoute_6 (k + 1) r f n (jp_mi (M 131) (M 4) (40 * r + f) i.toNat) i (jw_pt M 25 (jp_cw (M 131) (M 4) (40 * r + f) (M 25) i.toNat)) = _
    generalize jp_cw (M 131) (M 4) (40 * r + f) (M 25) i.toNat = C at ec ⊢
    have f1 : ∀ k : Nat, k ≠ 25 → jw_pt M 25 C k = M k := fun k hk => jw_pt_ne _ hk _
    have f2 : jw_pt M 25 C 25 = C := jw_pt_eq _ _ _
    have f4 : jw_pt M 25 C 4 = M 4 := f1 _ (by decide)
    have f131 : jw_pt M 25 C 131 = M 131 := f1 _ (by decide)
    have hA' := jp_A_pt hA 25 C (by decide)
    rw [fX11_walkRoute_6]
    unfold fX11_walkRoute_62
    by_cases h3 : i = 0
    · rw [if_pos h3] at em
      have fin := ih (jp_mi (M 131) (M 4) (40 * r + f) (i + 1).toNat, jw_pt M 25 (jp_cw (M 131) (M 4) (40 * r + f) (M 25) (i + 1).toNat)) ⟨by omega, rfl⟩
      rw [ec, em, Int.add_zero] at fin
      simp (disch := omega) only [↓jp_bs, ↓jp_b2s, ↓reduceIte, jw_up_a, Nat.reduceEqDiff, Int.reduceEq, Int.reduceLT, Int.reduceLE, Int.reduceAdd, Int.reduceSub, Int.reduceMul, Int.reduceNeg, jp_n9_1, jp_n9_8, jp_n9_15, jp_n9_21, jp_n9_24, jp_n10_1, jp_n10_2, jp_n10_3, jp_n10_4, jp_n10_5, jp_n10_6, jp_n17_1, jp_n17_2, jp_n17_3, jp_n17_4, jp_n17_5, jp_n17_6, jp_n24_1, jp_n24_2, jp_n24_3, jp_n24_4, jp_n24_5, jp_n30_1, jp_n30_2, jp_n33_1, jp_n33_2, false_and, true_and, and_true, and_false, and_self, ne_eq, not_true_eq_false, not_false_eq_true, jw_ws, jw_vs, jw_cmp_lt, jw_cmp_gt, jw_cmp_eq, jp_t1, jp_t2, jp_t3, jp_t4, jp_t5, jp_t6, ↓bX6_item, e1, f4, ↓bX3_comesTo, f2, jw_pt_up]
      exact fin
    · rw [if_neg h3] at em
      have fin := ih (jp_mi (M 131) (M 4) (40 * r + f) (i + 1).toNat, jw_pt M 25 (jp_cw (M 131) (M 4) (40 * r + f) (M 25) (i + 1).toNat)) ⟨by omega, rfl⟩
      rw [ec, em] at fin
      simp (disch := omega) only [↓jp_bs, ↓jp_b2s, ↓reduceIte, jw_up_a, Nat.reduceEqDiff, Int.reduceEq, Int.reduceLT, Int.reduceLE, Int.reduceAdd, Int.reduceSub, Int.reduceMul, Int.reduceNeg, jp_n9_1, jp_n9_8, jp_n9_15, jp_n9_21, jp_n9_24, jp_n10_1, jp_n10_2, jp_n10_3, jp_n10_4, jp_n10_5, jp_n10_6, jp_n17_1, jp_n17_2, jp_n17_3, jp_n17_4, jp_n17_5, jp_n17_6, jp_n24_1, jp_n24_2, jp_n24_3, jp_n24_4, jp_n24_5, jp_n30_1, jp_n30_2, jp_n33_1, jp_n33_2, false_and, true_and, and_true, and_false, and_self, ne_eq, not_true_eq_false, not_false_eq_true, jw_ws, jw_vs, jw_cmp_lt, jw_cmp_gt, jw_cmp_eq, jp_t1, jp_t2, jp_t3, jp_t4, jp_t5, jp_t6, ↓bX6_item, e1, e2, f4, ↓bX9_streetTo hA', f131, ↓bX3_comesTo, f2, jw_pt_up]
      exact fin
  · intro k a hp
    obtain ⟨h0, rfl⟩ := hp
    show fX11_walkRoute_6 (k + 1) r f n (jp_mi (M 131) (M 4) (40 * r + f) n.toNat) n (jw_pt M 25 (jp_cw (M 131) (M 4) (40 * r + f) (M 25) n.toNat)) = _
    rw [fX11_walkRoute_6, if_neg (by omega)]
  · show ((0 : Int), M) = (0, jw_pt M 25 (M 25))
    rw [jw_pt_id]
theorem bX11_walkRoute {M : jw_M} (hA : jp_A M) (r f n : Int) (hr : 0 ≤ r ∧ r < 8) (hf : 0 ≤ f ∧ 0 ≤ n ∧ n ≤ 10 ∧ f + n ≤ 40) (hv : jp_all (jp_rp (M 131) (M 4) (40 * r + f)) n.toNat = true) {be : Type} (kk : _ → Option be) : Option.bind (fX11_walkRoute r f n M) kk = kk ((jw_pt M 25 (jp_cw (M 131) (M 4) (40 * r + f) (M 25) n.toNat))) := by rw [show fX11_walkRoute r f n M = some (jw_pt M 25 (jp_cw (M 131) (M 4) (40 * r + f) (M 25) n.toNat)) from gX11_walkRoute hA r f n hr hf hv]; rfl
theorem gX12_clearComes (M : jw_M) : fX12_clearComes M = some (jw_pt M 137 (jw_ff (M 137) 0 7 1000000)) := by
  unfold fX12_clearComes
  simp (disch := omega) only [↓jp_bs, ↓jp_b2s, ↓reduceIte, jw_up_a, Nat.reduceEqDiff, Int.reduceEq, Int.reduceLT, Int.reduceLE, Int.reduceAdd, Int.reduceSub, Int.reduceMul, Int.reduceNeg, jp_n9_1, jp_n9_8, jp_n9_15, jp_n9_21, jp_n9_24, jp_n10_1, jp_n10_2, jp_n10_3, jp_n10_4, jp_n10_5, jp_n10_6, jp_n17_1, jp_n17_2, jp_n17_3, jp_n17_4, jp_n17_5, jp_n17_6, jp_n24_1, jp_n24_2, jp_n24_3, jp_n24_4, jp_n24_5, jp_n30_1, jp_n30_2, jp_n33_1, jp_n33_2, false_and, true_and, and_true, and_false, and_self, ne_eq, not_true_eq_false, not_false_eq_true, jw_ws, jw_vs, jw_cmp_lt, jw_cmp_gt, jw_cmp_eq, jp_t1, jp_t2, jp_t3, jp_t4, jp_t5, jp_t6]
  refine jp_up (fun k i N => fX12_clearComes_2 k i N) 7 (fun i N => 0 ≤ i ∧ N = jw_pt M 137 (jw_ff (M 137) 0 i 1000000)) (fun x => x = some (jw_pt M 137 (jw_ff (M 137) 0 7 1000000))) ?_ ?_ jw_fu 0 M (by unfold jw_fu; omega) (by omega) ⟨by omega, ?_⟩
  · intro k i N hp hi ih
    obtain ⟨h0, rfl⟩ := hp
    show fX12_clearComes_2 _ _ _ = _
    rw [fX12_clearComes_2]
    simp (disch := omega) only [↓jp_bs, ↓jp_b2s, ↓reduceIte, jw_up_a, Nat.reduceEqDiff, Int.reduceEq, Int.reduceLT, Int.reduceLE, Int.reduceAdd, Int.reduceSub, Int.reduceMul, Int.reduceNeg, jp_n9_1, jp_n9_8, jp_n9_15, jp_n9_21, jp_n9_24, jp_n10_1, jp_n10_2, jp_n10_3, jp_n10_4, jp_n10_5, jp_n10_6, jp_n17_1, jp_n17_2, jp_n17_3, jp_n17_4, jp_n17_5, jp_n17_6, jp_n24_1, jp_n24_2, jp_n24_3, jp_n24_4, jp_n24_5, jp_n30_1, jp_n30_2, jp_n33_1, jp_n33_2, false_and, true_and, and_true, and_false, and_self, ne_eq, not_true_eq_false, not_false_eq_true, jw_ws, jw_vs, jw_cmp_lt, jw_cmp_gt, jw_cmp_eq, jp_t1, jp_t2, jp_t3, jp_t4, jp_t5, jp_t6, jw_pt_up]
    exact ih _ ⟨by omega, by rw [jw_ff_1 _ h0]⟩
  · intro k N hp
    show fX12_clearComes_2 _ _ _ = _
    rw [fX12_clearComes_2, if_neg (by omega), hp.2]
  · rw [jw_ff_0, jw_pt_id]
theorem bX12_clearComes (M : jw_M) {be : Type} (kk : _ → Option be) : Option.bind (fX12_clearComes M) kk = kk ((jw_pt M 137 (jw_ff (M 137) 0 7 1000000))) := by rw [show fX12_clearComes M = some (jw_pt M 137 (jw_ff (M 137) 0 7 1000000)) from gX12_clearComes M]; rfl
theorem gX12_goRoute {M : jw_M} (hA : jp_A M) (o n : Int) (ho : 0 ≤ o ∧ 0 ≤ n ∧ n ≤ 10 ∧ o + n ≤ 320) : ∃ C : Int → Int, fX12_goRoute o n M = some (jp_01 (jp_all (jp_rp (M 131) (M 130) o) n.toNat), jw_pt M 137 C) ∧ (jp_all (jp_rp (M 131) (M 130) o) n.toNat = true → C = jp_cw (M 131) (M 130) o (M 137) n.toNat) := by
  obtain ⟨⟨r0, r2, r3, r4, r5⟩, -⟩ := jp_A_r hA
  unfold fX12_goRoute
  simp (disch := omega) only [↓jp_bs, ↓jp_b2s, ↓reduceIte, jw_up_a, Nat.reduceEqDiff, Int.reduceEq, Int.reduceLT, Int.reduceLE, Int.reduceAdd, Int.reduceSub, Int.reduceMul, Int.reduceNeg, jp_n9_1, jp_n9_8, jp_n9_15, jp_n9_21, jp_n9_24, jp_n10_1, jp_n10_2, jp_n10_3, jp_n10_4, jp_n10_5, jp_n10_6, jp_n17_1, jp_n17_2, jp_n17_3, jp_n17_4, jp_n17_5, jp_n17_6, jp_n24_1, jp_n24_2, jp_n24_3, jp_n24_4, jp_n24_5, jp_n30_1, jp_n30_2, jp_n33_1, jp_n33_2, false_and, true_and, and_true, and_false, and_self, ne_eq, not_true_eq_false, not_false_eq_true, jw_ws, jw_vs, jw_cmp_lt, jw_cmp_gt, jw_cmp_eq, jp_t1, jp_t2, jp_t3, jp_t4, jp_t5, jp_t6]
  refine jp_up (fun k i (a : Int × jw_M) => fX12_goRoute_5 k o n a.1 i a.2) n (fun i a => 0 ≤ i ∧ jp_all (jp_rp (M 131) (M 130) o) i.toNat = true ∧ a = (jp_mi (M 131) (M 130) o i.toNat, jw_pt M 137 (jp_cw (M 131) (M 130) o (M 137) i.toNat))) (fun x => ∃ C : Int → Int, x = some (jp_01 (jp_all (jp_rp (M 131) (M 130) o) n.toNat), jw_pt M 137 C) ∧ (jp_all (jp_rp (M 131) (M 130) o) n.toNat = true → C = jp_cw (M 131) (M 130) o (M 137) n.toNat)) ?_ ?_ jw_fu 0 (0, M) (by unfold jw_fu; omega) (by omega) ⟨by omega, rfl, ?_⟩
  · intro k i a hp hi ih
    obtain ⟨h0, h1, rfl⟩ := hp
    have hm := jp_mi_r hA.1 (n := i) h1 i.toNat (by omega)
    have em := jp_mi_s (M 131) (M 130) o h0
    have ec := jp_cw_s (M 131) (M 130) o (M 137) h0
    show ∃ C' : Int → Int, fX12_goRoute_5 (k + 1) o n (jp_mi (M 131) (M 130) o i.toNat) i (jw_pt M 137 (jp_cw (M 131) (M 130) o (M 137) i.toNat)) = _ ∧ _
    generalize jp_cw (M 131) (M 130) o (M 137) i.toNat = C at ec ⊢
    have f1 : ∀ k : Nat, k ≠ 137 → jw_pt M 137 C k = M k := fun k hk => jw_pt_ne _ hk _
    have f2 : jw_pt M 137 C 137 = C := jw_pt_eq _ _ _
    have f130 : jw_pt M 137 C 130 = M 130 := f1 _ (by decide)
    have f131 : jw_pt M 137 C 131 = M 131 := f1 _ (by decide)
    have hA' := jp_A_pt hA 137 C (by decide)
    have bad : jp_rp (M 131) (M 130) o i = false → ∃ C' : Int → Int, some (0, jw_pt M 137 C) = some (jp_01 (jp_all (jp_rp (M 131) (M 130) o) n.toNat), jw_pt M 137 C') ∧ (jp_all (jp_rp (M 131) (M 130) o) n.toNat = true → C' = jp_cw (M 131) (M 130) o (M 137) n.toNat) := by
      intro e
      have e2 := jp_all_f (n := n.toNat) h0 (by omega) e
      exact ⟨C, by rw [e2]; rfl, fun z => by rw [e2] at z; cases z⟩
    rw [fX12_goRoute_5]
    unfold fX12_goRoute_67 fX12_goRoute_81 fX12_goRoute_114
    by_cases h2 : 0 ≤ M 130 (o + i) ∧ M 130 (o + i) < M 131 0
    · by_cases h3 : i = 0
      · have go := (jp_rp_i (M 131) (M 130) o i).mpr ⟨h2, Or.inl h3⟩
        rw [if_pos h3, Int.add_zero] at em
        have fin := ih (jp_mi (M 131) (M 130) o (i + 1).toNat, jw_pt M 137 (jp_cw (M 131) (M 130) o (M 137) (i + 1).toNat)) ⟨by omega, by rw [jp_all_s _ h0, h1, go]; rfl, rfl⟩
        rw [ec, em] at fin
        by_cases h5 : jp_mi (M 131) (M 130) o i.toNat < C (M 130 (o + i))
        · rw [if_pos h5] at fin
          simp (disch := omega) only [↓jp_bs, ↓jp_b2s, ↓reduceIte, jw_up_a, Nat.reduceEqDiff, Int.reduceEq, Int.reduceLT, Int.reduceLE, Int.reduceAdd, Int.reduceSub, Int.reduceMul, Int.reduceNeg, jp_n9_1, jp_n9_8, jp_n9_15, jp_n9_21, jp_n9_24, jp_n10_1, jp_n10_2, jp_n10_3, jp_n10_4, jp_n10_5, jp_n10_6, jp_n17_1, jp_n17_2, jp_n17_3, jp_n17_4, jp_n17_5, jp_n17_6, jp_n24_1, jp_n24_2, jp_n24_3, jp_n24_4, jp_n24_5, jp_n30_1, jp_n30_2, jp_n33_1, jp_n33_2, false_and, true_and, and_true, and_false, and_self, ne_eq, not_true_eq_false, not_false_eq_true, jw_ws, jw_vs, jw_cmp_lt, jw_cmp_gt, jw_cmp_eq, jp_t1, jp_t2, jp_t3, jp_t4, jp_t5, jp_t6, f130, ↓bX12_isCorner hA', f131, f2, jw_pt_up, Int.add_zero]
          exact fin
        · rw [if_neg h5] at fin
          simp (disch := omega) only [↓jp_bs, ↓jp_b2s, ↓reduceIte, jw_up_a, Nat.reduceEqDiff, Int.reduceEq, Int.reduceLT, Int.reduceLE, Int.reduceAdd, Int.reduceSub, Int.reduceMul, Int.reduceNeg, jp_n9_1, jp_n9_8, jp_n9_15, jp_n9_21, jp_n9_24, jp_n10_1, jp_n10_2, jp_n10_3, jp_n10_4, jp_n10_5, jp_n10_6, jp_n17_1, jp_n17_2, jp_n17_3, jp_n17_4, jp_n17_5, jp_n17_6, jp_n24_1, jp_n24_2, jp_n24_3, jp_n24_4, jp_n24_5, jp_n30_1, jp_n30_2, jp_n33_1, jp_n33_2, false_and, true_and, and_true, and_false, and_self, ne_eq, not_true_eq_false, not_false_eq_true, jw_ws, jw_vs, jw_cmp_lt, jw_cmp_gt, jw_cmp_eq, jp_t1, jp_t2, jp_t3, jp_t4, jp_t5, jp_t6, f130, ↓bX12_isCorner hA', f131, f2, jw_pt_up, Int.add_zero]
          exact fin
      · have hb := (jp_rp_i (M 131) (M 130) o (i - 1)).mp ((jp_all_i _ _).mp h1 (i - 1) (by omega) (by omega))
        rw [show o + (i - 1) = o + i - 1 by omega] at hb
        have ht := hA.1.2.2.2.1 (M 130 (o + i - 1)) (M 130 (o + i)) (by omega) (by omega) (by omega) (by omega)
        by_cases h4 : M 131 (14 + 7 * M 130 (o + i - 1) + M 130 (o + i)) = 0
        · simp (disch := omega) only [↓jp_bs, ↓jp_b2s, ↓reduceIte, jw_up_a, Nat.reduceEqDiff, Int.reduceEq, Int.reduceLT, Int.reduceLE, Int.reduceAdd, Int.reduceSub, Int.reduceMul, Int.reduceNeg, jp_n9_1, jp_n9_8, jp_n9_15, jp_n9_21, jp_n9_24, jp_n10_1, jp_n10_2, jp_n10_3, jp_n10_4, jp_n10_5, jp_n10_6, jp_n17_1, jp_n17_2, jp_n17_3, jp_n17_4, jp_n17_5, jp_n17_6, jp_n24_1, jp_n24_2, jp_n24_3, jp_n24_4, jp_n24_5, jp_n30_1, jp_n30_2, jp_n33_1, jp_n33_2, false_and, true_and, and_true, and_false, and_self, ne_eq, not_true_eq_false, not_false_eq_true, jw_ws, jw_vs, jw_cmp_lt, jw_cmp_gt, jw_cmp_eq, jp_t1, jp_t2, jp_t3, jp_t4, jp_t5, jp_t6, f130, ↓bX12_isCorner hA', f131]
          exact bad (jp_rp_f (fun z => z.2.elim h3 (fun y => y h4)))
        · have go := (jp_rp_i (M 131) (M 130) o i).mpr ⟨h2, Or.inr h4⟩
          rw [if_neg h3] at em
          have fin := ih (jp_mi (M 131) (M 130) o (i + 1).toNat, jw_pt M 137 (jp_cw (M 131) (M 130) o (M 137) (i + 1).toNat)) ⟨by omega, by rw [jp_all_s _ h0, h1, go]; rfl, rfl⟩
          rw [ec, em] at fin
          by_cases h5 : jp_mi (M 131) (M 130) o i.toNat + M 131 (14 + 7 * M 130 (o + i - 1) + M 130 (o + i)) < C (M 130 (o + i))
          · rw [if_pos h5] at fin
            simp (disch := omega) only [↓jp_bs, ↓jp_b2s, ↓reduceIte, jw_up_a, Nat.reduceEqDiff, Int.reduceEq, Int.reduceLT, Int.reduceLE, Int.reduceAdd, Int.reduceSub, Int.reduceMul, Int.reduceNeg, jp_n9_1, jp_n9_8, jp_n9_15, jp_n9_21, jp_n9_24, jp_n10_1, jp_n10_2, jp_n10_3, jp_n10_4, jp_n10_5, jp_n10_6, jp_n17_1, jp_n17_2, jp_n17_3, jp_n17_4, jp_n17_5, jp_n17_6, jp_n24_1, jp_n24_2, jp_n24_3, jp_n24_4, jp_n24_5, jp_n30_1, jp_n30_2, jp_n33_1, jp_n33_2, false_and, true_and, and_true, and_false, and_self, ne_eq, not_true_eq_false, not_false_eq_true, jw_ws, jw_vs, jw_cmp_lt, jw_cmp_gt, jw_cmp_eq, jp_t1, jp_t2, jp_t3, jp_t4, jp_t5, jp_t6, f130, ↓bX12_isCorner hA', f131, f2, jw_pt_up]
            exact fin
          · rw [if_neg h5] at fin
            simp (disch := omega) only [↓jp_bs, ↓jp_b2s, ↓reduceIte, jw_up_a, Nat.reduceEqDiff, Int.reduceEq, Int.reduceLT, Int.reduceLE, Int.reduceAdd, Int.reduceSub, Int.reduceMul, Int.reduceNeg, jp_n9_1, jp_n9_8, jp_n9_15, jp_n9_21, jp_n9_24, jp_n10_1, jp_n10_2, jp_n10_3, jp_n10_4, jp_n10_5, jp_n10_6, jp_n17_1, jp_n17_2, jp_n17_3, jp_n17_4, jp_n17_5, jp_n17_6, jp_n24_1, jp_n24_2, jp_n24_3, jp_n24_4, jp_n24_5, jp_n30_1, jp_n30_2, jp_n33_1, jp_n33_2, false_and, true_and, and_true, and_false, and_self, ne_eq, not_true_eq_false, not_false_eq_true, jw_ws, jw_vs, jw_cmp_lt, jw_cmp_gt, jw_cmp_eq, jp_t1, jp_t2, jp_t3, jp_t4, jp_t5, jp_t6, f130, ↓bX12_isCorner hA', f131, f2, jw_pt_up]
            exact fin
    · simp (disch := omega) only [↓jp_bs, ↓jp_b2s, ↓reduceIte, jw_up_a, Nat.reduceEqDiff, Int.reduceEq, Int.reduceLT, Int.reduceLE, Int.reduceAdd, Int.reduceSub, Int.reduceMul, Int.reduceNeg, jp_n9_1, jp_n9_8, jp_n9_15, jp_n9_21, jp_n9_24, jp_n10_1, jp_n10_2, jp_n10_3, jp_n10_4, jp_n10_5, jp_n10_6, jp_n17_1, jp_n17_2, jp_n17_3, jp_n17_4, jp_n17_5, jp_n17_6, jp_n24_1, jp_n24_2, jp_n24_3, jp_n24_4, jp_n24_5, jp_n30_1, jp_n30_2, jp_n33_1, jp_n33_2, false_and, true_and, and_true, and_false, and_self, ne_eq, not_true_eq_false, not_false_eq_true, jw_ws, jw_vs, jw_cmp_lt, jw_cmp_gt, jw_cmp_eq, jp_t1, jp_t2, jp_t3, jp_t4, jp_t5, jp_t6, f130, ↓bX12_isCorner hA', f131]
      exact bad (jp_rp_f (fun z => h2 z.1))
  · intro k a hp
    obtain ⟨h0, h1, rfl⟩ := hp
    refine ⟨jp_cw (M 131) (M 130) o (M 137) n.toNat, ?_, fun _ => rfl⟩
    show fX12_goRoute_5 (k + 1) o n _ n (jw_pt M 137 (jp_cw (M 131) (M 130) o (M 137) n.toNat)) = _
    rw [fX12_goRoute_5, if_neg (by omega), h1]
    rfl
  · show ((0 : Int), M) = (0, jw_pt M 137 (M 137))
    rw [jw_pt_id]
