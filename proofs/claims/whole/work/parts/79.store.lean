/-! goods to cellars: the least, set by set -/
def jp_wv (c d : Int) : Int := if c < 1000000 then c + d else 1000000
def jp_mn (f : Int → Int) (p : Int → Bool) : Nat → Int
  | 0 => 1000000
  | k + 1 => if p (k : Int) = true ∧ f (k : Int) < jp_mn f p k then f (k : Int) else jp_mn f p k
def jp_fr0 (t k : Int) : Bool := decide (jw_iand (jw_ishr t k) 1 = 0)
def jp_dp (c : Int → Int → Int) (C n : Int) : Nat → Int → Int
  | 0, _ => 0
  | m + 1, t => jp_mn (fun k => jp_wv (c (n - 1 - (m : Int)) k) (jp_dp c C n m (jw_ior t (jw_ishl 1 k)))) (jp_fr0 t) C.toNat
theorem jp_mn_s (f : Int → Int) (p : Int → Bool) {i : Int} (h : 0 ≤ i) : jp_mn f p (i + 1).toNat = if p i = true ∧ f i < jp_mn f p i.toNat then f i else jp_mn f p i.toNat := by
  have e : (i + 1).toNat = i.toNat + 1 := by omega
  rw [e, jp_mn, Int.toNat_of_nonneg h]
theorem jp_mn_p (f : Int → Int) (p : Int → Bool) : ∀ n : Nat, jp_mn f p n ≤ 1000000 ∧ (∀ k : Int, 0 ≤ k → k < (n : Int) → p k = true → jp_mn f p n ≤ f k) ∧ (jp_mn f p n = 1000000 ∨ ∃ k : Int, 0 ≤ k ∧ k < (n : Int) ∧ p k = true ∧ f k = jp_mn f p n) := by
  intro n
  induction n with
  | zero => exact ⟨by simp [jp_mn], fun k a b => by omega, Or.inl rfl⟩
  | succ n ih =>
    obtain ⟨i1, i2, i3⟩ := ih
    rw [jp_mn]
    by_cases e : p (n : Int) = true ∧ f (n : Int) < jp_mn f p n
    · rw [if_pos e]
      refine ⟨by omega, fun k a b pk => ?_, Or.inr ⟨n, by omega, by omega, e.1, rfl⟩⟩
      by_cases z : k = (n : Int)
      · rw [z]; exact Int.le_refl _
      · have := i2 k a (by omega) pk; omega
    · rw [if_neg e]
      refine ⟨i1, fun k a b pk => ?_, ?_⟩
      · by_cases z : k = (n : Int)
        · rw [z] at pk ⊢
          by_cases z2 : f (n : Int) < jp_mn f p n
          · exact absurd ⟨pk, z2⟩ e
          · omega
        · exact i2 k a (by omega) pk
      · rcases i3 with z | ⟨k, a, b, d⟩
        · exact Or.inl z
        · exact Or.inr ⟨k, a, by omega, d⟩
theorem jp_mn_c {f g : Int → Int} {p : Int → Bool} : ∀ n : Nat, (∀ k : Int, 0 ≤ k → k < (n : Int) → p k = true → f k = g k) → jp_mn f p n = jp_mn g p n := by
  intro n
  induction n with
  | zero => intro _; rfl
  | succ n ih =>
    intro h
    rw [jp_mn, jp_mn, ih (fun k a b => h k a (by omega))]
    by_cases e : p (n : Int) = true
    · rw [h n (by omega) (by omega) e]
    · rw [if_neg (fun z => e z.1), if_neg (fun z => e z.1)]
/-- the sets of cellars -/
theorem jp_st_f : ∀ (C : Fin 7) (t : Fin 64) (k : Fin 6), (t : Nat) < 2 ^ (C : Nat) → (k : Nat) < (C : Nat) → jw_iand (jw_ishr ((t : Nat) : Int) ((k : Nat) : Int)) 1 = 0 → jp_pc (jw_ior ((t : Nat) : Int) (jw_ishl 1 ((k : Nat) : Int))) = jp_pc ((t : Nat) : Int) + 1 ∧ ((t : Nat) : Int) < jw_ior ((t : Nat) : Int) (jw_ishl 1 ((k : Nat) : Int)) ∧ jw_ior ((t : Nat) : Int) (jw_ishl 1 ((k : Nat) : Int)) < 2 ^ (C : Nat) := by decide +kernel
theorem jp_2p6 {C : Int} (h : 0 ≤ C ∧ C ≤ 6) : 1 ≤ (2 : Int) ^ C.toNat ∧ (2 : Int) ^ C.toNat ≤ 64 := by
  have h1 : C = 0 ∨ C = 1 ∨ C = 2 ∨ C = 3 ∨ C = 4 ∨ C = 5 ∨ C = 6 := by omega
  rcases h1 with rfl | rfl | rfl | rfl | rfl | rfl | rfl <;> decide
theorem jp_st_j {C t k : Int} (hC : 0 ≤ C ∧ C ≤ 6) (ht : 0 ≤ t ∧ t < 2 ^ C.toNat) (hk : 0 ≤ k ∧ k < C) (h : jp_fr0 t k = true) : jp_pc (jw_ior t (jw_ishl 1 k)) = jp_pc t + 1 ∧ t < jw_ior t (jw_ishl 1 k) ∧ jw_ior t (jw_ishl 1 k) < 2 ^ C.toNat := by
  have h6 := jp_2p6 hC
  have h2 := jp_st_f ⟨C.toNat, by omega⟩ ⟨t.toNat, by omega⟩ ⟨k.toNat, by omega⟩
  simp only [Int.toNat_of_nonneg ht.1, Int.toNat_of_nonneg hk.1] at h2
  refine h2 ?_ (by omega) (of_decide_eq_true h)
  have : ((t.toNat : Nat) : Int) < ((2 ^ C.toNat : Nat) : Int) := by
    rw [Int.toNat_of_nonneg ht.1, Int.natCast_pow]
    exact ht.2
  omega
theorem jp_fr0_b {t k : Int} (ht : 0 ≤ t ∧ t < 128) (hk : 0 ≤ k ∧ k < 7) : jp_fr0 t k = true ↔ jp_bit t k = 0 := by
  unfold jp_fr0
  rw [decide_eq_true_iff, jp_sb ht hk]
/-- what costs are -/
def jp_ck (c : Int → Int → Int) (C n : Int) : Prop := (0 ≤ C ∧ C ≤ 6) ∧ (0 ≤ n ∧ n ≤ 5) ∧ ∀ s k : Int, 0 ≤ s → s < n → 0 ≤ k → k < C → 0 ≤ c s k ∧ (c s k ≤ 6200 ∨ c s k = 1000000)
theorem jp_dp_r {c : Int → Int → Int} {C n : Int} (hc : jp_ck c C n) : ∀ (m : Nat), (m : Int) ≤ n → ∀ t : Int, 0 ≤ jp_dp c C n m t ∧ jp_dp c C n m t ≤ 1000000 := by
  intro m
  induction m with
  | zero => intro _ t; simp [jp_dp]
  | succ m ih =>
    intro hm t
    rw [jp_dp]
    obtain ⟨p1, p2, p3⟩ := jp_mn_p (fun k => jp_wv (c (n - 1 - (m : Int)) k) (jp_dp c C n m (jw_ior t (jw_ishl 1 k)))) (jp_fr0 t) C.toNat
    refine ⟨?_, p1⟩
    rcases p3 with z | ⟨k, a, b, d, e⟩
    · omega
    · rw [← e]
      have h1 := hc.2.2 (n - 1 - (m : Int)) k (by omega) (by omega) a (by omega)
      have h2 := ih (by omega) (jw_ior t (jw_ishl 1 k))
      show 0 ≤ jp_wv (c (n - 1 - (m : Int)) k) (jp_dp c C n m (jw_ior t (jw_ishl 1 k)))
      unfold jp_wv
      split <;> omega
/-- the costs of the last m -/
def jp_tl (c : Int → Int → Int) (n : Int) (x : Int → Int) : Nat → Int
  | 0 => 0
  | m + 1 => jp_tl c n x m + c (n - 1 - (m : Int)) (x (n - 1 - (m : Int)))
def jp_xk (C n : Int) (x : Int → Int) : Prop := ∀ j : Int, 0 ≤ j → j < n → 0 ≤ x j ∧ x j < C
def jp_xd (n : Int) (x : Int → Int) : Prop := ∀ i j : Int, 0 ≤ i → i < j → j < n → x i ≠ x j
theorem jp_tl_r {c : Int → Int → Int} {C n : Int} (hc : jp_ck c C n) {x : Int → Int} (hx : jp_xk C n x) : ∀ m : Nat, (m : Int) ≤ n → 0 ≤ jp_tl c n x m ∧ jp_tl c n x m ≤ 1000000 * (m : Int) := by
  intro m
  induction m with
  | zero => intro _; simp [jp_tl]
  | succ m ih =>
    intro hm
    have h1 := ih (by omega)
    have h2 := hx (n - 1 - (m : Int)) (by omega) (by omega)
    have h3 := hc.2.2 (n - 1 - (m : Int)) (x (n - 1 - (m : Int))) (by omega) (by omega) h2.1 h2.2
    rw [jp_tl]
    omega
theorem jp_tl_c {c : Int → Int → Int} {n : Int} {x y : Int → Int} : ∀ m : Nat, (∀ j : Int, n - (m : Int) ≤ j → j < n → x j = y j) → jp_tl c n x m = jp_tl c n y m := by
  intro m
  induction m with
  | zero => intro _; rfl
  | succ m ih => intro h; rw [jp_tl, jp_tl, ih (fun j a b => h j (by omega) b), h (n - 1 - (m : Int)) (by omega) (by omega)]
/-- nothing is below the least -/
theorem jp_dp_le {c : Int → Int → Int} {C n : Int} (hc : jp_ck c C n) {x : Int → Int} (hx : jp_xk C n x) (hd : jp_xd n x) : ∀ (m : Nat), (m : Int) ≤ n → ∀ t : Int, 0 ≤ t → t < 2 ^ C.toNat → (∀ j : Int, n - (m : Int) ≤ j → j < n → jp_fr0 t (x j) = true) → jp_dp c C n m t ≤ jp_tl c n x m := by
  have h6 := jp_2p6 hc.1
  intro m
  induction m with
  | zero => intro _ t _ _ _; simp [jp_dp, jp_tl]
  | succ m ih =>
    intro hm t t0 t1 hf
    have hs := hx (n - 1 - (m : Int)) (by omega) (by omega)
    have hfs := hf (n - 1 - (m : Int)) (by omega) (by omega)
    have h3 := hc.2.2 (n - 1 - (m : Int)) (x (n - 1 - (m : Int))) (by omega) (by omega) hs.1 hs.2
    have hj := jp_st_j hc.1 ⟨t0, t1⟩ hs hfs
    have hC := hc.1
    have hi := ih (by omega) (jw_ior t (jw_ishl 1 (x (n - 1 - (m : Int))))) (by omega) hj.2.2 (fun j a b => by
      have hx2 := hx j (by omega) b
      have hob := (jp_ob (x := t) (c := x (n - 1 - (m : Int))) (by omega) (by omega))
      rw [jp_fr0_b hob.1 (by omega), hob.2 _ (by omega) (by omega), if_neg (fun z => hd (n - 1 - (m : Int)) j (by omega) (by omega) b z.symm)]
      exact (jp_fr0_b (by omega) (by omega)).mp (hf j (by omega) b))
    have ht := jp_tl_r hc hx m (by omega)
    rw [jp_dp, jp_tl]
    have hle := (jp_mn_p (fun k => jp_wv (c (n - 1 - (m : Int)) k) (jp_dp c C n m (jw_ior t (jw_ishl 1 k)))) (jp_fr0 t) C.toNat).2.1 (x (n - 1 - (m : Int))) hs.1 (by omega) hfs
    have hw : jp_wv (c (n - 1 - (m : Int)) (x (n - 1 - (m : Int)))) (jp_dp c C n m (jw_ior t (jw_ishl 1 (x (n - 1 - (m : Int)))))) ≤ jp_tl c n x m + c (n - 1 - (m : Int)) (x (n - 1 - (m : Int))) := by
      unfold jp_wv
      split <;> omega
    exact Int.le_trans hle hw
/-- the first that is so -/
def jp_f1 (f : Int → Bool) : Nat → Int
  | 0 => -1000000
  | n + 1 => if 0 ≤ jp_f1 f n then jp_f1 f n else if f (n : Int) = true then (n : Int) else -1000000
theorem jp_f1_p (f : Int → Bool) : ∀ n : Nat, (jp_f1 f n = -1000000 ∧ ∀ k : Int, 0 ≤ k → k < (n : Int) → f k = false) ∨ (0 ≤ jp_f1 f n ∧ jp_f1 f n < (n : Int) ∧ f (jp_f1 f n) = true ∧ ∀ k : Int, 0 ≤ k → k < jp_f1 f n → f k = false) := by
  intro n
  induction n with
  | zero => exact Or.inl ⟨rfl, fun k a b => by omega⟩
  | succ n ih =>
    rw [jp_f1]
    rcases ih with ⟨e, h⟩ | ⟨a, b, d, h⟩
    · rw [e, if_neg (by decide)]
      cases hn : f (n : Int) with
      | true =>
        rw [if_pos rfl]
        exact Or.inr ⟨by omega, by omega, hn, h⟩
      | false =>
        rw [if_neg (by decide)]
        refine Or.inl ⟨rfl, fun k p q => ?_⟩
        by_cases z : k = (n : Int)
        · rw [z]; exact hn
        · exact h k p (by omega)
    · rw [if_pos a]
      exact Or.inr ⟨a, by omega, d, h⟩
/-- the class's choice -/
def jp_gf (c : Int → Int → Int) (C n s t : Int) : Int → Bool := fun k => jp_fr0 t k && decide (jp_wv (c s k) (jp_dp c C n (n - 1 - s).toNat (jw_ior t (jw_ishl 1 k))) = jp_dp c C n (n - s).toNat t)
def jp_gx (c : Int → Int → Int) (C n s t : Int) : Int := jp_f1 (jp_gf c C n s t) C.toNat
def jp_gt (c : Int → Int → Int) (C n : Int) : Nat → Int
  | 0 => 0
  | s + 1 => jw_ior (jp_gt c C n s) (jw_ishl 1 (jp_gx c C n (s : Int) (jp_gt c C n s)))
def jp_gs2 (c : Int → Int → Int) (C n : Int) : Int → Int := fun s => jp_gx c C n s (jp_gt c C n s.toNat)
theorem jp_g1 {c : Int → Int → Int} {C n : Int} (hc : jp_ck c C n) {s t : Int} (hs : 0 ≤ s ∧ s < n) (ht : 0 ≤ t ∧ t < 2 ^ C.toNat) (hl : jp_dp c C n (n - s).toNat t < 1000000) : 0 ≤ jp_gx c C n s t ∧ jp_gx c C n s t < C ∧ jp_fr0 t (jp_gx c C n s t) = true ∧ c s (jp_gx c C n s t) < 1000000 ∧ jp_dp c C n (n - s).toNat t = c s (jp_gx c C n s t) + jp_dp c C n (n - 1 - s).toNat (jw_ior t (jw_ishl 1 (jp_gx c C n s t))) ∧ ∀ k : Int, 0 ≤ k → k < jp_gx c C n s t → jp_gf c C n s t k = false := by
  have hC := hc.1
  have em : (n - s).toNat = (n - 1 - s).toNat + 1 := by omega
  have es : n - 1 - (((n - 1 - s).toNat : Nat) : Int) = s := by omega
  have hmn : jp_dp c C n (n - s).toNat t = jp_mn (fun k => jp_wv (c s k) (jp_dp c C n (n - 1 - s).toNat (jw_ior t (jw_ishl 1 k)))) (jp_fr0 t) C.toNat := by
    rw [em, jp_dp, es]
  have hex : ∃ k : Int, 0 ≤ k ∧ k < ((C.toNat : Nat) : Int) ∧ jp_gf c C n s t k = true := by
    rcases (jp_mn_p (fun k => jp_wv (c s k) (jp_dp c C n (n - 1 - s).toNat (jw_ior t (jw_ishl 1 k)))) (jp_fr0 t) C.toNat).2.2 with z | ⟨k, a, b, d, e⟩
    · omega
    · refine ⟨k, a, b, ?_⟩
      unfold jp_gf
      rw [d, Bool.true_and, hmn]
      exact decide_eq_true e
  unfold jp_gx
  rcases jp_f1_p (jp_gf c C n s t) C.toNat with ⟨-, z⟩ | ⟨a, b, d, e⟩
  · obtain ⟨k, k0, k1, k2⟩ := hex
    rw [z k k0 k1] at k2
    cases k2
  · generalize jp_f1 (jp_gf c C n s t) C.toNat = g at a b d e ⊢
    have d2 := d
    unfold jp_gf at d2
    rw [Bool.and_eq_true, decide_eq_true_iff] at d2
    have h3 := hc.2.2 s g hs.1 hs.2 a (by omega)
    have h4 := jp_dp_r hc (n - 1 - s).toNat (by omega) (jw_ior t (jw_ishl 1 g))
    have h5 := d2.2
    unfold jp_wv at h5
    have hcl : c s g < 1000000 := by
      by_cases z : c s g < 1000000
      · exact z
      · rw [if_neg z] at h5; omega
    rw [if_pos hcl] at h5
    exact ⟨a, by omega, d2.1, hcl, h5.symm, e⟩
theorem jp_g2 {c : Int → Int → Int} {C n : Int} (hc : jp_ck c C n) (hl : jp_dp c C n n.toNat 0 < 1000000) : ∀ s : Nat, (s : Int) ≤ n → (0 ≤ jp_gt c C n s ∧ jp_gt c C n s < 2 ^ C.toNat) ∧ jp_dp c C n (n - (s : Int)).toNat (jp_gt c C n s) < 1000000 ∧ (∀ k : Int, 0 ≤ k → k < C → (jp_fr0 (jp_gt c C n s) k = true ↔ ∀ j : Int, 0 ≤ j → j < (s : Int) → jp_gs2 c C n j ≠ k)) := by
  have hC := hc.1
  have h6 := jp_2p6 hC
  intro s
  induction s with
  | zero =>
    intro _
    refine ⟨⟨by simp [jp_gt], by simp only [jp_gt]; omega⟩, ?_, fun k a b => ⟨fun _ j p q => by omega, fun _ => ?_⟩⟩
    · rw [show (n - ((0 : Nat) : Int)).toNat = n.toNat by omega]; exact hl
    · rw [jp_fr0_b (by simp [jp_gt]) (by omega)]
      simp [jp_gt, jp_bit]
  | succ s ih =>
    intro hs
    obtain ⟨i1, i2, i3⟩ := ih (by omega)
    obtain ⟨g1, g2, g3, g4, g5, g6⟩ := jp_g1 hc (s := (s : Int)) (by omega) i1 i2
    have hj := jp_st_j hC i1 ⟨g1, g2⟩ g3
    have ex : jp_gs2 c C n (s : Int) = jp_gx c C n (s : Int) (jp_gt c C n s) := by
      unfold jp_gs2
      rw [Int.toNat_natCast]
    have h3 := hc.2.2 (s : Int) _ (by omega) (by omega) g1 g2
    rw [jp_gt]
    refine ⟨⟨by omega, hj.2.2⟩, ?_, fun k a b => ?_⟩
    · rw [show (n - ((s + 1 : Nat) : Int)).toNat = (n - 1 - (s : Int)).toNat by omega]
      omega
    · have hob := jp_ob (x := jp_gt c C n s) (c := jp_gx c C n (s : Int) (jp_gt c C n s)) (by omega) (by omega)
      rw [jp_fr0_b hob.1 (by omega), hob.2 k a (by omega)]
      by_cases z : k = jp_gx c C n (s : Int) (jp_gt c C n s)
      · rw [if_pos z]
        exact ⟨fun w => by omega, fun w => absurd (by rw [ex, z]) (w s (by omega) (by omega))⟩
      · rw [if_neg z, ← jp_fr0_b (by omega) (by omega), i3 k a b]
        refine ⟨fun w j p q => ?_, fun w j p q => w j p (by omega)⟩
        by_cases z2 : j = (s : Int)
        · rw [z2, ex]; exact fun z3 => z z3.symm
        · exact w j p (by omega)
/-- .. is right, and the first of the right ones -/
theorem jp_g3 {c : Int → Int → Int} {C n : Int} (hc : jp_ck c C n) (hl : jp_dp c C n n.toNat 0 < 1000000) : jp_xk C n (jp_gs2 c C n) ∧ jp_xd n (jp_gs2 c C n) ∧ (∀ m : Nat, (m : Int) ≤ n → jp_dp c C n m (jp_gt c C n (n - (m : Int)).toNat) = jp_tl c n (jp_gs2 c C n) m) := by
  have step : ∀ s : Int, 0 ≤ s → s < n → 0 ≤ jp_gs2 c C n s ∧ jp_gs2 c C n s < C ∧ jp_fr0 (jp_gt c C n s.toNat) (jp_gs2 c C n s) = true ∧ jp_dp c C n (n - s).toNat (jp_gt c C n s.toNat) = c s (jp_gs2 c C n s) + jp_dp c C n (n - 1 - s).toNat (jp_gt c C n (s + 1).toNat) := by
    intro s s0 s1
    obtain ⟨i1, i2, i3⟩ := jp_g2 hc hl s.toNat (by omega)
    rw [Int.toNat_of_nonneg s0] at i2
    obtain ⟨g1, g2, g3, g4, g5, g6⟩ := jp_g1 hc (s := s) ⟨s0, s1⟩ i1 i2
    refine ⟨g1, g2, g3, ?_⟩
    rw [show (s + 1).toNat = s.toNat + 1 by omega, jp_gt, Int.toNat_of_nonneg s0]
    exact g5
  refine ⟨fun j a b => ⟨(step j a b).1, (step j a b).2.1⟩, fun i j a b d e => ?_, fun m => ?_⟩
  · have h1 := step j (by omega) d
    have h2 := ((jp_g2 hc hl j.toNat (by omega)).2.2 (jp_gs2 c C n j) h1.1 h1.2.1).mp h1.2.2.1 i a (by omega)
    exact h2 e
  · induction m with
    | zero => intro _; rfl
    | succ m ih =>
      intro hm
      have h1 := step (n - 1 - (m : Int)) (by omega) (by omega)
      have h2 := ih (by omega)
      rw [jp_tl, ← h2, show (n - ((m + 1 : Nat) : Int)).toNat = (n - 1 - (m : Int)).toNat by omega]
      have h3 := h1.2.2.2
      rw [show (n - (n - 1 - (m : Int))).toNat = m + 1 by omega, show (n - 1 - (n - 1 - (m : Int))).toNat = m by omega, show (n - 1 - (m : Int) + 1).toNat = (n - (m : Int)).toNat by omega] at h3
      omega
/-- head and tail -/
theorem jp_tl_h {c : Int → Int → Int} {n : Int} {x y : Int → Int} : ∀ (q m : Nat), (q : Int) + (m : Int) ≤ n → (∀ j : Int, n - (q : Int) - (m : Int) ≤ j → j < n - (m : Int) → x j = y j) → jp_tl c n x (q + m) - jp_tl c n x m = jp_tl c n y (q + m) - jp_tl c n y m := by
  intro q
  induction q with
  | zero => intro m _ _; rw [Nat.zero_add]; omega
  | succ q ih =>
    intro m h hx
    have h1 := ih m (by omega) (fun j a b => hx j (by omega) b)
    rw [show q + 1 + m = (q + m) + 1 by omega, jp_tl, jp_tl, hx (n - 1 - ((q + m : Nat) : Int)) (by omega) (by omega)]
    omega
theorem jp_g4 {c : Int → Int → Int} {C n : Int} (hc : jp_ck c C n) (hl : jp_dp c C n n.toNat 0 < 1000000) {y : Int → Int} (hy : jp_xk C n y) (hd : jp_xd n y) (he : jp_tl c n y n.toNat = jp_dp c C n n.toNat 0) {k : Int} (k0 : 0 ≤ k) (k1 : k < n) (hp : ∀ j : Int, 0 ≤ j → j < k → y j = jp_gs2 c C n j) : ¬ y k < jp_gs2 c C n k := by
  intro hlt
  have hC := hc.1
  have h6 := jp_2p6 hC
  obtain ⟨x1, x2, x3⟩ := jp_g3 hc hl
  obtain ⟨i1, i2, i3⟩ := jp_g2 hc hl k.toNat (by omega)
  rw [Int.toNat_of_nonneg k0] at i2 i3
  obtain ⟨g1, g2, g3, g4, g5, g6⟩ := jp_g1 hc (s := k) ⟨k0, k1⟩ i1 i2
  have hyk := hy k k0 k1
  -- the tails are equal
  have t1 := jp_tl_h (c := c) (n := n) (x := y) (y := jp_gs2 c C n) k.toNat (n - k).toNat (by omega) (fun j a b => hp j (by omega) (by omega))
  rw [show k.toNat + (n - k).toNat = n.toNat by omega] at t1
  have t2 := x3 n.toNat (by omega)
  rw [show (n - ((n.toNat : Nat) : Int)).toNat = 0 by omega] at t2
  have t3 := x3 (n - k).toNat (by omega)
  rw [show (n - (((n - k).toNat : Nat) : Int)).toNat = k.toNat by omega] at t3
  have t0 : jp_dp c C n n.toNat (jp_gt c C n 0) = jp_dp c C n n.toNat 0 := rfl
  have et : jp_tl c n y (n - k).toNat = jp_dp c C n (n - k).toNat (jp_gt c C n k.toNat) := by omega
  -- free
  have hfree : ∀ j : Int, k ≤ j → j < n → jp_fr0 (jp_gt c C n k.toNat) (y j) = true := by
    intro j a b
    have hyj := hy j (by omega) b
    rw [i3 (y j) hyj.1 hyj.2]
    intro i p q
    rw [← hp i p q]
    exact hd i j p (by omega) b
  have em : (n - k).toNat = (n - 1 - k).toNat + 1 := by omega
  have es : n - 1 - (((n - 1 - k).toNat : Nat) : Int) = k := by omega
  have hj := jp_st_j hC i1 hyk (hfree k (Int.le_refl _) k1)
  have hle := jp_dp_le hc hy hd (n - 1 - k).toNat (by omega) (jw_ior (jp_gt c C n k.toNat) (jw_ishl 1 (y k))) (by omega) hj.2.2 (fun j a b => by
    have hyj := hy j (by omega) b
    have hob := jp_ob (x := jp_gt c C n k.toNat) (c := y k) (by omega) (by omega)
    rw [jp_fr0_b hob.1 (by omega), hob.2 _ (by omega) (by omega), if_neg (fun z => hd k j (by omega) (by omega) b z.symm)]
    exact (jp_fr0_b (by omega) (by omega)).mp (hfree j (by omega) b))
  have htl : jp_tl c n y (n - k).toNat = jp_tl c n y (n - 1 - k).toNat + c k (y k) := by rw [em, jp_tl, es]
  have hr := jp_tl_r hc hy (n - 1 - k).toNat (by omega)
  have hck := hc.2.2 k (y k) k0 k1 hyk.1 hyk.2
  have hmin : jp_dp c C n (n - k).toNat (jp_gt c C n k.toNat) ≤ jp_wv (c k (y k)) (jp_dp c C n (n - 1 - k).toNat (jw_ior (jp_gt c C n k.toNat) (jw_ishl 1 (y k)))) := by
    rw [em, jp_dp, es]
    exact (jp_mn_p (fun k' => jp_wv (c k k') (jp_dp c C n (n - 1 - k).toNat (jw_ior (jp_gt c C n k.toNat) (jw_ishl 1 k')))) (jp_fr0 (jp_gt c C n k.toNat)) C.toNat).2.1 (y k) hyk.1 (by omega) (hfree k (Int.le_refl _) k1)
  have hfalse := g6 (y k) hyk.1 hlt
  unfold jp_gf at hfalse
  rw [hfree k (Int.le_refl _) k1, Bool.true_and, decide_eq_false_iff_not] at hfalse
  apply hfalse
  unfold jp_wv at hmin ⊢
  rw [if_pos (by omega)] at hmin ⊢
  omega
