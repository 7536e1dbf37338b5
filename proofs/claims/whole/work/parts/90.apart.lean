/-! ways of escape: the fewest that part; what a full flow leaves -/
theorem jp_pc_s {x : Int} {X : Int → Bool} (h : jp_sh2 x X) : jp_pc x = jp_sum (fun c => jp_01 (X c)) 7 := by
  have e : ∀ c : Int, 0 ≤ c → c < 7 → jp_01 (X c) = x / 2 ^ c.toNat % 2 := fun c a b => (h.2 c a b).symm
  have h0 := e 0 (by decide) (by decide)
  have h1 := e 1 (by decide) (by decide)
  have h2 := e 2 (by decide) (by decide)
  have h3 := e 3 (by decide) (by decide)
  have h4 := e 4 (by decide) (by decide)
  have h5 := e 5 (by decide) (by decide)
  have h6 := e 6 (by decide) (by decide)
  have hs : jp_sum (fun c => jp_01 (X c)) 7 = jp_01 (X 0) + jp_01 (X 1) + jp_01 (X 2) + jp_01 (X 3) + jp_01 (X 4) + jp_01 (X 5) + jp_01 (X 6) := by
    show 0 + jp_01 (X 0) + jp_01 (X 1) + jp_01 (X 2) + jp_01 (X 3) + jp_01 (X 4) + jp_01 (X 5) + jp_01 (X 6) = _
    omega
  rw [hs, h0, h1, h2, h3, h4, h5, h6]
  unfold jp_pc
  have p0 : (2 : Int) ^ (0 : Int).toNat = 1 := by decide
  have p1 : (2 : Int) ^ (1 : Int).toNat = 2 := by decide
  have p2 : (2 : Int) ^ (2 : Int).toNat = 4 := by decide
  have p3 : (2 : Int) ^ (3 : Int).toNat = 8 := by decide
  have p4 : (2 : Int) ^ (4 : Int).toNat = 16 := by decide
  have p5 : (2 : Int) ^ (5 : Int).toNat = 32 := by decide
  have p6 : (2 : Int) ^ (6 : Int).toNat = 64 := by decide
  rw [p0, p1, p2, p3, p4, p5, p6, Int.ediv_one]
def jp_bs2 (x : Int) : Int → Bool := fun c => decide (jp_bit x c = 1)
theorem jp_bs2_s {x : Int} (h : 0 ≤ x ∧ x < 128) : jp_sh2 x (jp_bs2 x) := by
  refine ⟨h, fun c a b => ?_⟩
  unfold jp_bs2
  have h1 := jp_bit_r x c
  by_cases e : jp_bit x c = 1
  · rw [decide_eq_true e, e]; rfl
  · rw [decide_eq_false e]
    show jp_bit x c = 0
    omega
theorem jp_sh7 {n : Int} (h : 0 ≤ n ∧ n ≤ 7) : jw_ishl 1 n = 2 ^ n.toNat ∧ 1 ≤ (2 : Int) ^ n.toNat ∧ (2 : Int) ^ n.toNat ≤ 128 := by
  have h1 : n = 0 ∨ n = 1 ∨ n = 2 ∨ n = 3 ∨ n = 4 ∨ n = 5 ∨ n = 6 ∨ n = 7 := by omega
  rcases h1 with rfl | rfl | rfl | rfl | rfl | rfl | rfl | rfl <;> decide
/-- a set that parts -/
def jp_pt2 (T : Int → Int) (a b : Int) (X : Int → Bool) : Prop := X a = false ∧ X b = false ∧ ∃ A : Int → Bool, A a = true ∧ A b = false ∧ jp_cls T a b X A
theorem gX9_waysApart {M : jw_M} (hA : jp_A M) (a b : Int) (ha : 0 ≤ a ∧ a < M 131 0) (hb : 0 ≤ b ∧ b < M 131 0) : ∃ F : Int, fX9_waysApart (9 + 1) a b M = some (F + jp_dr (M 131) a b) ∧ (0 ≤ F ∧ F ≤ 7) ∧ (∀ x : Int, 0 ≤ x → x < 2 ^ (M 131 0).toNat → jp_pt2 (M 131) a b (jp_bs2 x) → F ≤ jp_pc x) ∧ (F = 7 ∨ ∃ x : Int, 0 ≤ x ∧ x < 128 ∧ jp_pt2 (M 131) a b (jp_bs2 x) ∧ F = jp_pc x) := by
  obtain ⟨⟨r0, r2, r3, r4, r5⟩, -⟩ := jp_A_r hA
  obtain ⟨⟨c0, -⟩, -⟩ := jp_A_c hA
  have c0' : M (9 + 1) 0 = M 131 0 := c0
  obtain ⟨s1, s2, s3⟩ := jp_sh7 r0
  unfold fX9_waysApart
  rw [if_pos (by decide), jp_bs, jp_bs]
  refine jp_up (fun k x F => fX9_waysApart_6 (9 + 1) M k a b F x) (2 ^ (M 131 0).toNat) (fun x F => 0 ≤ x ∧ (0 ≤ F ∧ F ≤ 7) ∧ (∀ x' : Int, 0 ≤ x' → x' < x → jp_pt2 (M 131) a b (jp_bs2 x') → F ≤ jp_pc x') ∧ (F = 7 ∨ ∃ x : Int, 0 ≤ x ∧ x < 128 ∧ jp_pt2 (M 131) a b (jp_bs2 x) ∧ F = jp_pc x)) (fun r => ∃ F : Int, r = some (F + jp_dr (M 131) a b) ∧ (0 ≤ F ∧ F ≤ 7) ∧ (∀ x : Int, 0 ≤ x → x < 2 ^ (M 131 0).toNat → jp_pt2 (M 131) a b (jp_bs2 x) → F ≤ jp_pc x) ∧ (F = 7 ∨ ∃ x : Int, 0 ≤ x ∧ x < 128 ∧ jp_pt2 (M 131) a b (jp_bs2 x) ∧ F = jp_pc x)) ?_ ?_ jw_fu 0 7 (by unfold jw_fu; omega) (by omega) ⟨by omega, by omega, fun x p q => by omega, Or.inl rfl⟩
  · intro k x F hp hx ih
    obtain ⟨x0, fr, hle, hat⟩ := hp
    have hsx := jp_bs2_s (x := x) (by omega)
    have hpc := jp_pc_r x0
    have next : ∀ F' : Int, (0 ≤ F' ∧ F' ≤ 7) → F' ≤ F → (jp_pt2 (M 131) a b (jp_bs2 x) → F' ≤ jp_pc x) → (F' = 7 ∨ ∃ x : Int, 0 ≤ x ∧ x < 128 ∧ jp_pt2 (M 131) a b (jp_bs2 x) ∧ F' = jp_pc x) → ∃ F : Int, fX9_waysApart_75 (9 + 1) M (fX9_waysApart_6 (9 + 1) M k) a b F' x = some (F + jp_dr (M 131) a b) ∧ (0 ≤ F ∧ F ≤ 7) ∧ (∀ x : Int, 0 ≤ x → x < 2 ^ (M 131 0).toNat → jp_pt2 (M 131) a b (jp_bs2 x) → F ≤ jp_pc x) ∧ (F = 7 ∨ ∃ x : Int, 0 ≤ x ∧ x < 128 ∧ jp_pt2 (M 131) a b (jp_bs2 x) ∧ F = jp_pc x) := by
      intro F' h1 h2 h3 h4
      unfold fX9_waysApart_75
      rw [jp_bs, jw_ws (by omega)]
      refine ih F' ⟨by omega, h1, fun x' p q hpt => ?_, h4⟩
      by_cases z : x' = x
      · rw [z] at hpt ⊢; exact h3 hpt
      · have := hle x' p (by omega) hpt; omega
    show ∃ F' : Int, fX9_waysApart_6 (9 + 1) M (k + 1) a b F x = _ ∧ _
    rw [fX9_waysApart_6, c0', s1, if_pos hx]
    unfold fX9_waysApart_37 fX9_waysApart_42
    by_cases e1 : jw_iand (jw_ishr x a) 1 = 1
    · rw [if_pos e1, jp_bs, if_neg (by decide)]
      have hxa := (jp_sh2_1 hsx (by omega)).mp e1
      exact next F fr (Int.le_refl _) (fun w => by rw [w.1] at hxa; cases hxa) hat
    · rw [if_neg e1]
      by_cases e2 : jw_iand (jw_ishr x b) 1 = 1
      · rw [if_pos e2, jp_bs, if_neg (by decide)]
        have hxb := (jp_sh2_1 hsx (by omega)).mp e2
        exact next F fr (Int.le_refl _) (fun w => by rw [w.2.1] at hxb; cases hxb) hat
      · rw [if_neg e2, jp_bs, if_pos rfl, gJ6_bitCount x M (by omega), jp_bs]
        have hxa : jp_bs2 x a = false := jp_Bf (fun w => e1 ((jp_sh2_1 hsx (by omega)).mpr w))
        have hxb : jp_bs2 x b = false := jp_Bf (fun w => e2 ((jp_sh2_1 hsx (by omega)).mpr w))
        by_cases e3 : jp_pc x < F
        · rw [if_pos e3]
          obtain ⟨A, q1, q2, q3, q4⟩ := gX9_parts hA a b x ha hb hsx
          rw [q1, jp_bs]
          cases hAb : A b with
          | true =>
            rw [if_pos (by decide)]
            refine next F fr (Int.le_refl _) (fun w => ?_) hat
            obtain ⟨-, -, W, w1, w2, w3⟩ := w
            have := q4 W w1 w3 b hAb
            rw [w2] at this; cases this
          | false =>
            rw [if_neg (by decide), jp_bs, jp_bs]
            exact next (jp_pc x) (by omega) (by omega) (fun _ => Int.le_refl _) (Or.inr ⟨x, x0, by omega, ⟨hxa, hxb, A, q2, hAb, q3⟩, rfl⟩)
        · rw [if_neg e3]
          exact next F fr (Int.le_refl _) (fun _ => by omega) hat
  · intro k F hp
    obtain ⟨x0, fr, hle, hat⟩ := hp
    have est := gX9_streetTo hA a b (by omega)
    refine ⟨F, ?_, fr, hle, hat⟩
    show fX9_waysApart_6 (9 + 1) M (k + 1) a b F (2 ^ (M 131 0).toNat) = _
    rw [fX9_waysApart_6, c0', s1, if_neg (by omega), est, jp_bs]
    unfold jp_dr
    by_cases e : 0 < M 131 (14 + 7 * a + b)
    · rw [if_pos e, if_pos e, jw_ws (by omega)]
    · rw [if_neg e, if_neg e, Int.add_zero]
theorem jp_mask_z {p : Int → Bool} (m : Nat) : ∀ n : Nat, m ≤ n → (∀ c : Int, (m : Int) ≤ c → c < (n : Int) → p c = false) → jp_mask p n = jp_mask p m := by
  intro n
  induction n with
  | zero => intro h _; rw [show m = 0 by omega]
  | succ n ih =>
    intro h hz
    by_cases e : m = n + 1
    · rw [e]
    · rw [jp_mask, ih (by omega) (fun c a b => hz c a (by omega)), hz n (by omega) (by omega), if_neg (by decide), Int.add_zero]
theorem jp_cls_c {T : Int → Int} {a b : Int} {X Y A : Int → Bool} (h : jp_cls T a b X A) (he : ∀ d : Int, 0 ≤ d → d < T 0 → X d = Y d) : jp_cls T a b Y A := fun c d p1 p2 q1 q2 u1 u2 u3 u4 => h c d p1 p2 q1 q2 u1 u2 u3 (by rw [he d q1 q2]; exact u4)
/-- a set that parts, no larger than the flow -/
theorem jp_cutB {T : Int → Int} (hT : jp_T T) {a b : Int} (ha : 0 ≤ a ∧ a < T 0) (hb : 0 ≤ b ∧ b < T 0) (hab : a ≠ b) {R : Int → Int} {n : Int} (h : jp_fl T a b R n) (Q : Int → Bool) (hS : Q (7 + a) = true) (hE : Q b = false) (hc : ∀ p q : Int, 0 ≤ p → p < 14 → 0 ≤ q → q < 14 → Q p = true → Q q = false → R (14 * p + q) ≤ 0) : ∃ x : Int, 0 ≤ x ∧ x < 2 ^ (T 0).toNat ∧ jp_pt2 T a b (jp_bs2 x) ∧ jp_pc x + jp_dr T a b ≤ n ∧ jp_pc x < 7 := by
  have t0 := hT.1.1
  have hout := jp_fl_eq h (by omega) (by omega) Q hS hE hc
  rw [jp_out_c hT] at hout
  -- the set
  have hX : ∃ X : Int → Bool, ∀ c : Int, X c = true ↔ (0 ≤ c ∧ c < T 0 ∧ c ≠ a ∧ c ≠ b ∧ ((Q c = true ∧ Q (7 + c) = false) ∨ (Q c = false ∧ ∃ d : Int, 0 ≤ d ∧ d < T 0 ∧ Q (7 + d) = true ∧ 0 < T (14 + 7 * d + c)) ∨ (Q (7 + c) = true ∧ 0 < T (14 + 7 * c + b)))) :=
    ⟨fun c => @decide _ (Classical.propDecidable (0 ≤ c ∧ c < T 0 ∧ c ≠ a ∧ c ≠ b ∧ ((Q c = true ∧ Q (7 + c) = false) ∨ (Q c = false ∧ ∃ d : Int, 0 ≤ d ∧ d < T 0 ∧ Q (7 + d) = true ∧ 0 < T (14 + 7 * d + c)) ∨ (Q (7 + c) = true ∧ 0 < T (14 + 7 * c + b))))), fun c => @decide_eq_true_iff _ (Classical.propDecidable _)⟩
  obtain ⟨X, hX⟩ := hX
  have hY : ∃ Y : Int → Bool, ∀ c : Int, Y c = true ↔ (c < T 0 ∧ c ≠ a ∧ c ≠ b ∧ Q c = false ∧ ∃ d : Int, 0 ≤ d ∧ d < T 0 ∧ Q (7 + d) = true ∧ 0 < T (14 + 7 * d + c)) :=
    ⟨fun c => @decide _ (Classical.propDecidable (c < T 0 ∧ c ≠ a ∧ c ≠ b ∧ Q c = false ∧ ∃ d : Int, 0 ≤ d ∧ d < T 0 ∧ Q (7 + d) = true ∧ 0 < T (14 + 7 * d + c))), fun c => @decide_eq_true_iff _ (Classical.propDecidable _)⟩
  obtain ⟨Y, hY⟩ := hY
  have hxa : X a = false := jp_Bf (fun w => ((hX a).mp w).2.2.1 rfl)
  have hxb : X b = false := jp_Bf (fun w => ((hX b).mp w).2.2.2.1 rfl)
  generalize hef : (fun c d : Int => if c < T 0 ∧ d < T 0 ∧ 0 < T (14 + 7 * c + d) ∧ Q (7 + c) = true ∧ Q d = false then (1 : Int) else 0) = e
  have hev : ∀ c d : Int, e c d = if c < T 0 ∧ d < T 0 ∧ 0 < T (14 + 7 * c + d) ∧ Q (7 + c) = true ∧ Q d = false then (1 : Int) else 0 := fun c d => by rw [← hef]
  have e0 : ∀ c d : Int, 0 ≤ e c d := fun c d => by rw [hev]; split <;> omega
  have hout2 : n = jp_sum (fun c => if c < T 0 ∧ Q c = true ∧ Q (7 + c) = false then (if c = a ∨ c = b then 99 else 1) else 0) 7 + jp_sum (fun c => jp_sum (fun d => e c d) 7) 7 := by
    rw [hout, ← hef]
  rw [jp_sum_sw e 7 7] at hout2
  -- the three kinds
  have k1 : jp_sum (fun c => if c ≠ a ∧ c ≠ b ∧ c < T 0 ∧ Q c = true ∧ Q (7 + c) = false then (1 : Int) else 0) 7 ≤ jp_sum (fun c => if c < T 0 ∧ Q c = true ∧ Q (7 + c) = false then (if c = a ∨ c = b then 99 else 1) else 0) 7 := by
    refine (jp_sum_lt 7 (fun c c0 c1 => ?_)).1
    show (if c ≠ a ∧ c ≠ b ∧ c < T 0 ∧ Q c = true ∧ Q (7 + c) = false then (1 : Int) else 0) ≤ (if c < T 0 ∧ Q c = true ∧ Q (7 + c) = false then (if c = a ∨ c = b then 99 else 1) else 0)
    by_cases z : c < T 0 ∧ Q c = true ∧ Q (7 + c) = false
    · rw [if_pos z]
      by_cases z2 : c = a ∨ c = b
      · rw [if_pos z2]; split <;> omega
      · rw [if_neg z2]; split <;> omega
    · rw [if_neg z, if_neg (fun w => z w.2.2)]
      exact Int.le_refl _
  have k2 : jp_sum (fun d => jp_01 (Y d)) 7 ≤ jp_sum (fun d => if d = b then 0 else jp_sum (fun c => e c d) 7) 7 := by
    refine (jp_sum_lt 7 (fun d d0 d1 => ?_)).1
    show jp_01 (Y d) ≤ (if d = b then 0 else jp_sum (fun c => e c d) 7)
    cases hYd : Y d with
    | false =>
      rw [jp_01f]
      split
      · exact Int.le_refl _
      · have := (jp_sum_lt (f := fun _ => 0) (g := fun c => e c d) 7 (fun c _ _ => e0 c d)).1
        rw [jp_sum_0] at this
        exact this
    | true =>
      obtain ⟨y1, y2, y3, y4, c, y5, y6, y7, y8⟩ := (hY d).mp hYd
      rw [jp_01t, if_neg y3]
      have := (jp_sum_lt (f := fun _ => 0) (g := fun c => e c d) 7 (fun c _ _ => e0 c d)).2 ⟨c, y5, by omega, by
        show 0 < e c d
        rw [hev, if_pos ⟨y6, y1, y8, y7, y4⟩]
        decide⟩
      rw [jp_sum_0] at this
      omega
  have k3 : jp_sum (fun c => if c ≠ a ∧ c ≠ b ∧ c < T 0 ∧ Q (7 + c) = true ∧ 0 < T (14 + 7 * c + b) then (1 : Int) else 0) 7 + jp_dr T a b ≤ jp_sum (fun c => e c b) 7 := by
    have q1 : jp_sum (fun c => if c = a then jp_dr T a b else 0) 7 = jp_dr T a b := by
      rw [jp_sum_o (s := a) ha.1 7 (by omega) (fun j _ _ hj => if_neg hj), if_pos rfl]
    rw [← q1, ← jp_sum_ad]
    refine (jp_sum_lt 7 (fun c c0 c1 => ?_)).1
    show (if c ≠ a ∧ c ≠ b ∧ c < T 0 ∧ Q (7 + c) = true ∧ 0 < T (14 + 7 * c + b) then (1 : Int) else 0) + (if c = a then jp_dr T a b else 0) ≤ e c b
    rw [hev]
    by_cases z : c = a
    · rw [if_pos z, if_neg (fun w => w.1 z), z]
      unfold jp_dr
      by_cases z2 : 0 < T (14 + 7 * a + b)
      · rw [if_pos z2, if_pos ⟨ha.2, hb.2, z2, hS, hE⟩]; decide
      · rw [if_neg z2, if_neg (fun w => z2 w.2.2.1)]; decide
    · rw [if_neg z, Int.add_zero]
      by_cases z2 : c ≠ a ∧ c ≠ b ∧ c < T 0 ∧ Q (7 + c) = true ∧ 0 < T (14 + 7 * c + b)
      · rw [if_pos z2, if_pos ⟨z2.2.2.1, hb.2, z2.2.2.2.2, z2.2.2.2.1, hE⟩]
        exact Int.le_refl _
      · rw [if_neg z2]; split <;> omega
  have k4 : jp_sum (fun d => jp_sum (fun c => e c d) 7) 7 = jp_sum (fun d => if d = b then 0 else jp_sum (fun c => e c d) 7) 7 + jp_sum (fun c => e c b) 7 := by
    have q1 : jp_sum (fun d => if d = b then jp_sum (fun c => e c b) 7 else 0) 7 = jp_sum (fun c => e c b) 7 := by
      rw [jp_sum_o (s := b) hb.1 7 (by omega) (fun j _ _ hj => if_neg hj), if_pos rfl]
    rw [← q1, ← jp_sum_ad]
    refine jp_sum_c 7 (fun d _ _ => ?_)
    by_cases z : d = b
    · rw [if_pos z, if_pos z, z, Int.zero_add]
    · rw [if_neg z, if_neg z, Int.add_zero]
  have k5 : jp_sum (fun c => jp_01 (X c)) 7 ≤ jp_sum (fun c => if c ≠ a ∧ c ≠ b ∧ c < T 0 ∧ Q c = true ∧ Q (7 + c) = false then (1 : Int) else 0) 7 + jp_sum (fun d => jp_01 (Y d)) 7 + jp_sum (fun c => if c ≠ a ∧ c ≠ b ∧ c < T 0 ∧ Q (7 + c) = true ∧ 0 < T (14 + 7 * c + b) then (1 : Int) else 0) 7 := by
    rw [← jp_sum_ad, ← jp_sum_ad]
    refine (jp_sum_lt 7 (fun c c0 c1 => ?_)).1
    show jp_01 (X c) ≤ (if c ≠ a ∧ c ≠ b ∧ c < T 0 ∧ Q c = true ∧ Q (7 + c) = false then (1 : Int) else 0) + jp_01 (Y c) + (if c ≠ a ∧ c ≠ b ∧ c < T 0 ∧ Q (7 + c) = true ∧ 0 < T (14 + 7 * c + b) then (1 : Int) else 0)
    have hy := jp_01r (Y c)
    cases hXc : X c with
    | false =>
      rw [jp_01f]
      split <;> split <;> omega
    | true =>
      rw [jp_01t]
      obtain ⟨x1, x2, x3, x4, x5⟩ := (hX c).mp hXc
      rcases x5 with w | w | w
      · rw [if_pos ⟨x3, x4, x2, w⟩]; split <;> omega
      · have : Y c = true := (hY c).mpr ⟨x2, x3, x4, w⟩
        rw [this, jp_01t]
        split <;> split <;> omega
      · rw [if_pos (show c ≠ a ∧ c ≠ b ∧ c < T 0 ∧ Q (7 + c) = true ∧ 0 < T (14 + 7 * c + b) from ⟨x3, x4, x2, w⟩)]; split <;> omega
  -- as a mask
  have hm1 := jp_mask_r X 7
  have hm2 : jp_mask X 7 = jp_mask X (T 0).toNat := jp_mask_z (T 0).toNat 7 (by omega) (fun c c0 c1 => jp_Bf (fun w => by have := (hX c).mp w; omega))
  have hm3 := jp_mask_r X (T 0).toNat
  have hbit : ∀ c : Int, 0 ≤ c → c < 7 → jp_bs2 (jp_mask X 7) c = X c := by
    intro c c0 c1
    unfold jp_bs2
    rw [jp_mask_bit X 7 (by decide) c c0 c1]
    cases X c with
    | true => rfl
    | false => rfl
  have e128 : (2 : Int) ^ 7 = 128 := by decide
  have hsh : jp_sh2 (jp_mask X 7) X := ⟨by omega, fun c c0 c1 => jp_mask_bit X 7 (by decide) c c0 c1⟩
  have hpc := jp_pc_s hsh
  have hlt : jp_sum (fun c => jp_01 (X c)) 7 < 7 := by
    have := (jp_sum_lt (f := fun c => jp_01 (X c)) (g := fun _ => 1) 7 (fun c _ _ => by have := jp_01r (X c); show jp_01 (X c) ≤ 1; omega)).2 ⟨a, ha.1, by omega, by show jp_01 (X a) < 1; rw [hxa]; decide⟩
    rw [jp_sum_1] at this
    exact this
  refine ⟨jp_mask X 7, hm1.1, by rw [hm2]; exact hm3.2, ⟨by rw [hbit a ha.1 (by omega)]; exact hxa, by rw [hbit b hb.1 (by omega)]; exact hxb, fun c => decide (c ≠ b) && (Q (7 + c) && !X c), ?_, ?_, ?_⟩, by rw [hpc]; omega, by rw [hpc]; exact hlt⟩
  · show (decide (a ≠ b) && (Q (7 + a) && !X a)) = true
    rw [decide_eq_true hab, hS, hxa]; rfl
  · show (decide (b ≠ b) && (Q (7 + b) && !X b)) = false
    rw [decide_eq_false (fun w => w rfl)]; rfl
  · refine jp_cls_c (X := X) (fun c d p1 p2 q1 q2 u1 u2 u3 u4 => ?_) (fun d d0 d1 => (hbit d d0 (by omega)).symm)
    have u1' : (decide (c ≠ b) && (Q (7 + c) && !X c)) = true := u1
    rw [Bool.and_eq_true, Bool.and_eq_true, decide_eq_true_iff] at u1'
    obtain ⟨cb, cq, cx⟩ := u1'
    have cx' : X c = false := by
      cases hXc : X c with
      | false => rfl
      | true => rw [hXc] at cx; cases cx
    have hdb : d ≠ b := by
      intro e1
      have hca : c ≠ a := fun e2 => u3 ⟨e2, e1⟩
      have : X c = true := (hX c).mpr ⟨p1, p2, hca, cb, Or.inr (Or.inr ⟨cq, by rw [← e1]; exact u2⟩)⟩
      rw [cx'] at this; cases this
    have hq7 : Q (7 + d) = true := by
      by_cases e1 : d = a
      · rw [e1]; exact hS
      · cases hqd : Q d with
        | false =>
          have : X d = true := (hX d).mpr ⟨q1, q2, e1, hdb, Or.inr (Or.inl ⟨hqd, c, p1, p2, cq, u2⟩)⟩
          rw [u4] at this; cases this
        | true =>
          cases hq7 : Q (7 + d) with
          | true => rfl
          | false =>
            have : X d = true := (hX d).mpr ⟨q1, q2, e1, hdb, Or.inl ⟨hqd, hq7⟩⟩
            rw [u4] at this; cases this
    show (decide (d ≠ b) && (Q (7 + d) && !X d)) = true
    rw [decide_eq_true hdb, hq7, u4]; rfl
