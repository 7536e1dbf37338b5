/-! PURE: from here on the functions alone. Updates, ranges, loops, bits -/
def jw_u1 (f : Int → Int) (i v : Int) : Int → Int := fun j => if j = i then v else f j
def jw_pt (M : jw_M) (k : Nat) (g : Int → Int) : jw_M := fun k' => if k' = k then g else M k'
theorem jw_up_pt (M : jw_M) (k : Nat) (i v : Int) : jw_up M k i v = jw_pt M k (jw_u1 (M k) i v) := by
  funext k' j
  unfold jw_up jw_pt jw_u1
  by_cases h : k' = k
  · subst h
    rw [if_pos rfl]
    by_cases h2 : j = i
    · rw [if_pos ⟨rfl, h2⟩, if_pos h2]
    · rw [if_neg (fun z => h2 z.2), if_neg h2]
  · rw [if_neg (fun z => h z.1), if_neg h]
theorem jw_pt_eq (M : jw_M) (k : Nat) (g : Int → Int) : jw_pt M k g k = g := if_pos rfl
theorem jw_pt_ne (M : jw_M) {k k' : Nat} (h : k' ≠ k) (g : Int → Int) : jw_pt M k g k' = M k' := if_neg h
theorem jw_pt_a (M : jw_M) (k k' : Nat) (g : Int → Int) : jw_pt M k g k' = if k' = k then g else M k' := rfl
theorem jw_u1_a (f : Int → Int) (i v j : Int) : jw_u1 f i v j = if j = i then v else f j := by
  by_cases h : j = i
  · rw [if_pos h]; exact if_pos h
  · rw [if_neg h]; exact if_neg h
theorem jw_u1_s (f : Int → Int) (i v : Int) : jw_u1 f i v i = v := if_pos rfl
theorem jw_u1_n (f : Int → Int) {i j : Int} (h : j ≠ i) (v : Int) : jw_u1 f i v j = f j := if_neg h
theorem jw_pt_pt (M : jw_M) (k : Nat) (g g' : Int → Int) : jw_pt (jw_pt M k g) k g' = jw_pt M k g' := by
  funext k'
  unfold jw_pt
  by_cases h : k' = k
  · rw [if_pos h, if_pos h]
  · rw [if_neg h, if_neg h, if_neg h]
theorem jw_pt_id (M : jw_M) (k : Nat) : jw_pt M k (M k) = M := by
  funext k'
  unfold jw_pt
  by_cases h : k' = k
  · rw [if_pos h, h]
  · rw [if_neg h]
def jw_cf (f g : Int → Int) (i j n : Int) : Int → Int := fun x => if j ≤ x ∧ x < j + n then f (i + (x - j)) else g x
theorem jw_cp_pt (M : jw_M) (a : Nat) (i : Int) (b : Nat) (j n : Int) : jw_cp M a i b j n = jw_pt M b (jw_cf (M a) (M b) i j n) := by
  funext k x
  unfold jw_cp jw_pt jw_cf
  by_cases h : k = b
  · subst h
    rw [if_pos rfl]
    by_cases h2 : j ≤ x ∧ x < j + n
    · rw [if_pos ⟨rfl, h2⟩, if_pos h2]
    · rw [if_neg (fun z => h2 z.2), if_neg h2]
  · rw [if_neg (fun z => h z.1), if_neg h]
theorem jw_ws {x : Int} (h1 : -2147483648 ≤ x ∧ x < 2147483648) : jw_w x = x := jw_we h1
theorem jw_vs {x : Int} (h1 : -9223372036854775808 ≤ x ∧ x < 9223372036854775808) : jw_v x = x := jw_ve h1
theorem jw_cmp_lt (a b : Int) : jw_cmp a b < 0 ↔ a < b := by unfold jw_cmp; split <;> (try split) <;> omega
theorem jw_cmp_gt (a b : Int) : 0 < jw_cmp a b ↔ b < a := by unfold jw_cmp; split <;> (try split) <;> omega
theorem jw_cmp_eq (a b : Int) : jw_cmp a b = 0 ↔ a = b := by unfold jw_cmp; split <;> (try split) <;> omega
/-- the one rule of loops -/
theorem jp_wh {A R : Type} (L : Nat → A → Option R) (P : A → Prop) (Φ : Option R → Prop) (μ : A → Nat)
    (hs : ∀ (k : Nat) (a : A), P a → (∀ a' : A, P a' → μ a' < μ a → Φ (L k a')) → Φ (L (k + 1) a)) :
    ∀ (k : Nat) (a : A), μ a < k → P a → Φ (L k a) := by
  intro k
  induction k with
  | zero => intro a h _; omega
  | succ k ih => intro a h hp; exact hs k a hp (fun a' hp' hm => ih a' (by omega) hp')
/-- a loop that counts up from i to n -/
theorem jp_up {A R : Type} (L : Nat → Int → A → Option R) (n : Int) (P : Int → A → Prop) (Φ : Option R → Prop)
    (hs : ∀ (k : Nat) (i : Int) (a : A), P i a → i < n → (∀ a' : A, P (i + 1) a' → Φ (L k (i + 1) a')) → Φ (L (k + 1) i a))
    (he : ∀ (k : Nat) (a : A), P n a → Φ (L (k + 1) n a)) :
    ∀ (k : Nat) (i : Int) (a : A), n - i < k → i ≤ n → P i a → Φ (L k i a) := by
  intro k
  induction k with
  | zero => intro i a h h2; omega
  | succ k ih =>
    intro i a h h2 hp
    by_cases hi : i = n
    · subst hi; exact he k a hp
    · exact hs k i a hp (by omega) (fun a' hp' => ih (i + 1) a' (by omega) (by omega) hp')
/-- a loop that counts down to -1 -/
theorem jp_dn {A R : Type} (L : Nat → Int → A → Option R) (P : Int → A → Prop) (Φ : Option R → Prop)
    (hs : ∀ (k : Nat) (i : Int) (a : A), P i a → 0 ≤ i → (∀ a' : A, P (i - 1) a' → Φ (L k (i - 1) a')) → Φ (L (k + 1) i a))
    (he : ∀ (k : Nat) (a : A), P (-1) a → Φ (L (k + 1) (-1) a)) :
    ∀ (k : Nat) (i : Int) (a : A), i + 1 < k → -1 ≤ i → P i a → Φ (L k i a) := by
  intro k
  induction k with
  | zero => intro i a h h2; omega
  | succ k ih =>
    intro i a h h2 hp
    by_cases hi : i = -1
    · subst hi; exact he k a hp
    · exact hs k i a hp (by omega) (fun a' hp' => ih (i - 1) a' (by omega) (by omega) hp')
theorem jw_fu_n : jw_fu = 99999 + 1 := rfl
/-- arrays filled -/
def jw_ff (f : Int → Int) (i j v : Int) : Int → Int := fun x => if i ≤ x ∧ x < j then v else f x
theorem jw_ff_a (f : Int → Int) (i j v x : Int) : jw_ff f i j v x = if i ≤ x ∧ x < j then v else f x := rfl
theorem jw_cf_a (f g : Int → Int) (i j n x : Int) : jw_cf f g i j n x = if j ≤ x ∧ x < j + n then f (i + (x - j)) else g x := rfl
theorem jw_ff_1 (f : Int → Int) {i j : Int} (h : i ≤ j) (v : Int) : jw_u1 (jw_ff f i j v) j v = jw_ff f i (j + 1) v := by
  funext x
  simp only [jw_u1_a, jw_ff_a]
  by_cases h1 : x = j
  · subst h1; rw [if_pos rfl, if_pos ⟨h, by omega⟩]
  · rw [if_neg h1]
    by_cases h2 : i ≤ x ∧ x < j
    · rw [if_pos h2, if_pos ⟨h2.1, by omega⟩]
    · rw [if_neg h2, if_neg (by omega)]
theorem jw_ff_0 (f : Int → Int) (i v : Int) : jw_ff f i i v = f := by
  funext x
  rw [jw_ff_a, if_neg (by omega)]
theorem gJ7_fill2 (a : Nat) (M : jw_M) (hi v : Int) (h1 : hi ≤ (jw_len a : Int)) (h2 : jw_r (jw_len a : Int)) (lo : Int) (h0 : 0 ≤ lo) :
    ∀ (k : Nat) (i : Int) (N : jw_M), hi - i < k → i ≤ hi → (lo ≤ i ∧ N = jw_pt M a (jw_ff (M a) lo i v)) → fJ7_fill_fda19_10 a k hi v i N = some (jw_pt M a (jw_ff (M a) lo hi v)) := by
  refine jp_up (fun k i N => fJ7_fill_fda19_10 a k hi v i N) hi (fun i N => lo ≤ i ∧ N = jw_pt M a (jw_ff (M a) lo i v)) (fun x => x = some (jw_pt M a (jw_ff (M a) lo hi v))) ?_ ?_
  · intro k i N hp hi ih
    obtain ⟨hl, rfl⟩ := hp
    unfold jw_r at h2
    show fJ7_fill_fda19_10 _ _ _ _ _ _ = _
    rw [fJ7_fill_fda19_10, if_pos hi, if_pos (by omega)]
    simp only [Option.bind_some]
    rw [jw_ws (by omega)]
    refine ih _ ⟨by omega, ?_⟩
    rw [jw_up_pt, jw_pt_eq, jw_pt_pt, jw_ff_1 _ hl]
  · intro k N hp
    show fJ7_fill_fda19_10 _ _ _ _ _ _ = _
    rw [fJ7_fill_fda19_10, if_neg (by omega), hp.2]
theorem gJ7_fill_r (a : Nat) (ht : jw_tag a = 20) (lo hi v : Int) (M : jw_M) (h0 : 0 ≤ lo ∧ lo ≤ hi ∧ hi ≤ (jw_len a : Int)) : fJ7_fill_fda19 a lo hi v M = some (jw_pt M a (jw_ff (M a) lo hi v)) := by
  unfold fJ7_fill_fda19 fJ7_rangeCheck_23922
  have h2 := jw_lr ht
  rw [if_pos ht, if_neg (by omega), if_neg (by omega), if_neg (by omega)]
  simp only [Option.bind_some]
  refine gJ7_fill2 a M hi v h0.2.2 h2 lo h0.1 jw_fu lo M ?_ h0.2.1 ⟨Int.le_refl _, ?_⟩
  · have h3 : jw_len a ≤ 1000 := (by decide +kernel : ∀ t, t < 148 → jw_tag t = 20 → jw_len t ≤ 1000) a (jw_lay_lt ht (by decide)) ht
    unfold jw_fu; omega
  · rw [jw_ff_0, jw_pt_id]
theorem bJ7_fill_r (a : Nat) (ht : jw_tag a = 20) (lo hi v : Int) (M : jw_M) (h0 : 0 ≤ lo ∧ lo ≤ hi ∧ hi ≤ (jw_len a : Int)) {be : Type} (kk : _ → Option be) : Option.bind (fJ7_fill_fda19 a lo hi v M) kk = kk ((jw_pt M a (jw_ff (M a) lo hi v))) := by rw [show fJ7_fill_fda19 a lo hi v M = some (jw_pt M a (jw_ff (M a) lo hi v)) from gJ7_fill_r a ht lo hi v M h0]; rfl
theorem gJ7_fill1 (a : Nat) (M : jw_M) (hi v : Int) (h1 : hi ≤ (jw_len a : Int)) (h2 : jw_r (jw_len a : Int)) (lo : Int) (h0 : 0 ≤ lo) :
    ∀ (k : Nat) (i : Int) (N : jw_M), hi - i < k → i ≤ hi → (lo ≤ i ∧ N = jw_pt M a (jw_ff (M a) lo i v)) → fJ7_fill_53178_5 a k v i hi N = some (jw_pt M a (jw_ff (M a) lo hi v)) := by
  refine jp_up (fun k i N => fJ7_fill_53178_5 a k v i hi N) hi (fun i N => lo ≤ i ∧ N = jw_pt M a (jw_ff (M a) lo i v)) (fun x => x = some (jw_pt M a (jw_ff (M a) lo hi v))) ?_ ?_
  · intro k i N hp hi ih
    obtain ⟨hl, rfl⟩ := hp
    unfold jw_r at h2
    show fJ7_fill_53178_5 _ _ _ _ _ _ = _
    rw [fJ7_fill_53178_5, if_pos hi, if_pos (by omega)]
    simp only [Option.bind_some]
    rw [jw_ws (by omega)]
    refine ih _ ⟨by omega, ?_⟩
    rw [jw_up_pt, jw_pt_eq, jw_pt_pt, jw_ff_1 _ hl]
  · intro k N hp
    show fJ7_fill_53178_5 _ _ _ _ _ _ = _
    rw [fJ7_fill_53178_5, if_neg (by omega), hp.2]
theorem gJ7_fill (a : Nat) (ht : jw_tag a = 20) (v : Int) (M : jw_M) : fJ7_fill_53178 a v M = some (jw_pt M a (jw_ff (M a) 0 (jw_len a : Int) v)) := by
  unfold fJ7_fill_53178
  have h2 := jw_lr ht
  rw [if_pos ht]
  simp only [Option.bind_some]
  refine gJ7_fill1 a M _ v (Int.le_refl _) h2 0 (Int.le_refl _) jw_fu 0 M ?_ (by omega) ⟨Int.le_refl _, ?_⟩
  · have h3 : jw_len a ≤ 1000 := (by decide +kernel : ∀ t, t < 148 → jw_tag t = 20 → jw_len t ≤ 1000) a (jw_lay_lt ht (by decide)) ht
    unfold jw_fu; omega
  · rw [jw_ff_0, jw_pt_id]
theorem bJ7_fill (a : Nat) (ht : jw_tag a = 20) (v : Int) (M : jw_M) {be : Type} (kk : _ → Option be) : Option.bind (fJ7_fill_53178 a v M) kk = kk ((jw_pt M a (jw_ff (M a) 0 (jw_len a : Int) v))) := by rw [show fJ7_fill_53178 a v M = some (jw_pt M a (jw_ff (M a) 0 (jw_len a : Int) v)) from gJ7_fill a ht v M]; rfl
theorem jw_up_a (M : jw_M) (k : Nat) (i v : Int) (k' : Nat) (i' : Int) : jw_up M k i v k' i' = if k' = k ∧ i' = i then v else M k' i' := by
  by_cases h : k' = k ∧ i' = i
  · rw [if_pos h]; exact if_pos h
  · rw [if_neg h]; exact if_neg h
theorem jw_up_ne (M : jw_M) {k k' : Nat} (h : k' ≠ k) (i v : Int) : jw_up M k i v k' = M k' := by rw [jw_up_pt, jw_pt_ne _ h]
theorem jw_up_eq (M : jw_M) (k : Nat) (i v : Int) : jw_up M k i v k = jw_u1 (M k) i v := by rw [jw_up_pt, jw_pt_eq]
theorem jp_bs {α β : Type} (a : α) (f : α → Option β) : Option.bind (some a) f = f a := (fun (x : Option α) (hx : x = some a) => (by subst hx; rfl : Option.bind x f = f a)) (some a) rfl
theorem jp_b2s {α : Type} (v : Int) (M : jw_M) (k : Int → jw_M → Option α) : jw_b2 (some (v, M)) k = k v M := (fun (x : Option (Int × jw_M)) (hx : x = some (v, M)) => (by subst hx; rfl : jw_b2 x k = k v M)) (some (v, M)) rfl
theorem jp_t1 {a b : Int} (h : a ≤ b) : (a ≤ b) = True := eq_true h
theorem jp_t2 {a b : Int} (h : b < a) : (a ≤ b) = False := eq_false (by omega)
theorem jp_t3 {a b : Int} (h : a < b) : (a < b) = True := eq_true h
theorem jp_t4 {a b : Int} (h : b ≤ a) : (a < b) = False := eq_false (by omega)
theorem jp_t5 {a b : Int} (h : a = b) : (a = b) = True := eq_true h
theorem jp_t6 {a b : Int} (h : a ≠ b) : (a = b) = False := eq_false h
theorem jp_n9_1 : (9 + 1 : Nat) = 10 := by decide
theorem jp_n9_8 : (9 + 8 : Nat) = 17 := by decide
theorem jp_n9_15 : (9 + 15 : Nat) = 24 := by decide
theorem jp_n9_21 : (9 + 21 : Nat) = 30 := by decide
theorem jp_n9_24 : (9 + 24 : Nat) = 33 := by decide
theorem jp_n10_1 : (10 + 1 : Nat) = 11 := by decide
theorem jp_n10_2 : (10 + 2 : Nat) = 12 := by decide
theorem jp_n10_3 : (10 + 3 : Nat) = 13 := by decide
theorem jp_n10_4 : (10 + 4 : Nat) = 14 := by decide
theorem jp_n10_5 : (10 + 5 : Nat) = 15 := by decide
theorem jp_n10_6 : (10 + 6 : Nat) = 16 := by decide
theorem jp_n17_1 : (17 + 1 : Nat) = 18 := by decide
theorem jp_n17_2 : (17 + 2 : Nat) = 19 := by decide
theorem jp_n17_3 : (17 + 3 : Nat) = 20 := by decide
theorem jp_n17_4 : (17 + 4 : Nat) = 21 := by decide
theorem jp_n17_5 : (17 + 5 : Nat) = 22 := by decide
theorem jp_n17_6 : (17 + 6 : Nat) = 23 := by decide
theorem jp_n24_1 : (24 + 1 : Nat) = 25 := by decide
theorem jp_n24_2 : (24 + 2 : Nat) = 26 := by decide
theorem jp_n24_3 : (24 + 3 : Nat) = 27 := by decide
theorem jp_n24_4 : (24 + 4 : Nat) = 28 := by decide
theorem jp_n24_5 : (24 + 5 : Nat) = 29 := by decide
theorem jp_n30_1 : (30 + 1 : Nat) = 31 := by decide
theorem jp_n30_2 : (30 + 2 : Nat) = 32 := by decide
theorem jp_n33_1 : (33 + 1 : Nat) = 34 := by decide
theorem jp_n33_2 : (33 + 2 : Nat) = 35 := by decide
theorem jp_ifc {p q : Prop} [Decidable p] [Decidable q] (h : p ↔ q) {a b : Int} : (if p then a else b) = if q then a else b := by
  by_cases hp : p
  · rw [if_pos hp, if_pos (h.mp hp)]
  · rw [if_neg hp, if_neg (fun z => hp (h.mpr z))]
