/-! all ways to rest: what is counted; the class at one way -/
def jp_d7 (v j : Int) : Int := v / 7 ^ j.toNat % 7
def jp_Gv (T N : Int → Int) (v : Int) : Bool := jp_all (fun j => decide (jp_d7 v j < T 0)) (T 3).toNat && (jp_all (fun j => jp_lw T (jp_d7 v) (T (90 + j)) j (jp_d7 v j)) (T 3).toNat && jp_rs T N (jp_d7 v))
def jp_gc (G : Int → Bool) : Nat → Int
  | 0 => 0
  | v + 1 => jp_gc G v + jp_01 (G (v : Int))
def jp_gfd (G : Int → Bool) (i : Int) : Nat → Int
  | 0 => -1000000
  | v + 1 => if G (v : Int) = true ∧ jp_gc G v = i then (v : Int) else jp_gfd G i v
theorem jp_gc_s (G : Int → Bool) {v : Int} (h : 0 ≤ v) : jp_gc G (v + 1).toNat = jp_gc G v.toNat + jp_01 (G v) := by
  have e : (v + 1).toNat = v.toNat + 1 := by omega
  rw [e, jp_gc, Int.toNat_of_nonneg h]
theorem jp_gfd_s (G : Int → Bool) (i : Int) {v : Int} (h : 0 ≤ v) : jp_gfd G i (v + 1).toNat = if G v = true ∧ jp_gc G v.toNat = i then v else jp_gfd G i v.toNat := by
  have e : (v + 1).toNat = v.toNat + 1 := by omega
  rw [e, jp_gfd, Int.toNat_of_nonneg h]
theorem jp_gc_r (G : Int → Bool) : ∀ n : Nat, 0 ≤ jp_gc G n ∧ jp_gc G n ≤ (n : Int) := by
  intro n
  induction n with
  | zero => simp [jp_gc]
  | succ n ih =>
    have := jp_01r (G (n : Int))
    rw [jp_gc]
    omega
/-- where the class's search stands, the ways below a being through -/
def jp_St (G : Int → Bool) (i a seen ans : Int) : Prop := (ans = -1000000 ∧ seen = jp_gc G a.toNat ∧ jp_gfd G i a.toNat = -1000000) ∨ (ans ≠ -1000000 ∧ i < jp_gc G a.toNat ∧ 0 ≤ i ∧ jp_gfd G i a.toNat = ans)
theorem jp_St_no {G : Int → Bool} {i seen ans a : Int} (ha : 0 ≤ a) (h : jp_St G i a seen ans) : ∀ n : Nat, (∀ v : Int, a ≤ v → v < a + (n : Int) → G v = false) → jp_St G i (a + (n : Int)) seen ans := by
  intro n
  induction n with
  | zero => intro _; rw [show a + ((0 : Nat) : Int) = a by omega]; exact h
  | succ n ih =>
    intro hv
    have h1 := ih (fun v p q => hv v p (by omega))
    have h2 := hv (a + (n : Int)) (by omega) (by omega)
    have e1 := jp_gc_s G (v := a + (n : Int)) (by omega)
    have e2 := jp_gfd_s G i (v := a + (n : Int)) (by omega)
    rw [h2, jp_01f, Int.add_zero] at e1
    rw [h2, if_neg (fun z => by cases z.1)] at e2
    rw [show a + ((n + 1 : Nat) : Int) = a + (n : Int) + 1 by omega]
    unfold jp_St at h1 ⊢
    rw [e1, e2]
    exact h1
theorem jp_St_b {G : Int → Bool} {i seen ans a b : Int} (ha : 0 ≤ a) (hab : a ≤ b) (h : jp_St G i a seen ans) (hv : ∀ v : Int, a ≤ v → v < b → G v = false) : jp_St G i b seen ans := by
  have := jp_St_no ha h (b - a).toNat (fun v p q => hv v p (by omega))
  rw [show a + (((b - a).toNat : Nat) : Int) = b by omega] at this
  exact this
theorem jp_St_st {G : Int → Bool} {i seen ans a : Int} (ha : 0 ≤ a) (h : jp_St G i a seen ans) (hn : ans ≠ -1000000) : ∀ n : Nat, jp_St G i (a + (n : Int)) seen ans := by
  intro n
  induction n with
  | zero => rw [show a + ((0 : Nat) : Int) = a by omega]; exact h
  | succ n ih =>
    rcases ih with ⟨z, -⟩ | ⟨z1, z2, z3, z4⟩
    · exact absurd z hn
    · have e1 := jp_gc_s G (v := a + (n : Int)) (by omega)
      have e2 := jp_gfd_s G i (v := a + (n : Int)) (by omega)
      have := jp_01r (G (a + (n : Int)))
      rw [if_neg (fun z => by omega)] at e2
      rw [show a + ((n + 1 : Nat) : Int) = a + (n : Int) + 1 by omega]
      exact Or.inr ⟨z1, by omega, z3, by rw [e2]; exact z4⟩
theorem jp_St_c {G : Int → Bool} {i seen ans a b : Int} (ha : 0 ≤ a) (hab : a ≤ b) (h : jp_St G i a seen ans) (hn : ans ≠ -1000000) : jp_St G i b seen ans := by
  have := jp_St_st ha h hn (b - a).toNat
  rw [show a + (((b - a).toNat : Nat) : Int) = b by omega] at this
  exact this
/-- the law among those from f on -/
def jp_cl2 (T P : Int → Int) (s c f : Int) : Prop := ∀ j : Int, f ≤ j → j < T 3 → j ≠ s → T (90 + j) = T (90 + s) → T 87 ≤ jp_wk T c (P j)
theorem jp_cl2_lw (T P : Int → Int) (s c : Int) (h3 : 0 ≤ T 3) : jp_lw T P (T (90 + s)) s c = true ↔ jp_cl2 T P s c 0 := by
  unfold jp_lw
  rw [jp_all_i]
  constructor
  · intro h j a b d e
    have := h j a (by omega)
    unfold jp_lp at this
    rw [Bool.or_eq_true, Bool.or_eq_true, decide_eq_true_iff, decide_eq_true_iff, decide_eq_true_iff] at this
    rcases this with (z | z) | z
    · exact absurd z d
    · exact absurd e z
    · exact z
  · intro h j a b
    unfold jp_lp
    rw [Bool.or_eq_true, Bool.or_eq_true, decide_eq_true_iff, decide_eq_true_iff, decide_eq_true_iff]
    by_cases z1 : j = s
    · exact Or.inl (Or.inl z1)
    · by_cases z2 : T (90 + j) = T (90 + s)
      · exact Or.inr (h j a (by omega) z1 z2)
      · exact Or.inl (Or.inr z2)
theorem gX8_isClear {M : jw_M} (hA : jp_A M) (s c f : Int) (hs : 0 ≤ s ∧ s < M 131 3) (hc : 0 ≤ c ∧ c < M 131 0) (hf : 0 ≤ f ∧ f ≤ M 131 3) (hW : ∀ j : Int, f ≤ j → j < M 131 3 → 0 ≤ M 120 j ∧ M 120 j < M 131 0) : (fX8_isClear s c f M = some 1 ∧ jp_cl2 (M 131) (M 120) s c f) ∨ (fX8_isClear s c f M = some 0 ∧ ¬ jp_cl2 (M 131) (M 120) s c f) := by
  obtain ⟨⟨c0, c5, c8, -⟩, -, g4, g7⟩ := jp_A_c hA
  obtain ⟨⟨r0, r2, r3, r4, r5⟩, -⟩ := jp_A_r hA
  have es : M (17 + 4) s = M 131 (90 + s) := (jp_gof hA hs).1
  unfold fX8_isClear
  rw [jp_bs]
  refine jp_up (fun k i (_ : Unit) => fX8_isClear_3 M k s c i) (M 131 3) (fun i _ => f ≤ i ∧ ∀ j : Int, f ≤ j → j < i → j ≠ s → M 131 (90 + j) = M 131 (90 + s) → M 131 87 ≤ jp_wk (M 131) c (M 120 j)) (fun r => (r = some 1 ∧ jp_cl2 (M 131) (M 120) s c f) ∨ (r = some 0 ∧ ¬ jp_cl2 (M 131) (M 120) s c f)) ?_ ?_ jw_fu f () (by unfold jw_fu; omega) (by omega) ⟨by omega, fun j a b => by omega⟩
  · intro k i _ hp hi ih
    obtain ⟨h0, h1⟩ := hp
    have ei : M (17 + 4) i = M 131 (90 + i) := (jp_gof hA (s := i) (by omega)).1
    have hw := hW i h0 hi
    have next : (i ≠ s → M 131 (90 + i) = M 131 (90 + s) → M 131 87 ≤ jp_wk (M 131) c (M 120 i)) → (fX8_isClear_3 M k s c (i + 1) = some 1 ∧ jp_cl2 (M 131) (M 120) s c f) ∨ (fX8_isClear_3 M k s c (i + 1) = some 0 ∧ ¬ jp_cl2 (M 131) (M 120) s c f) := by
      intro hz
      refine ih () ⟨by omega, fun j a b d e => ?_⟩
      by_cases z : j = i
      · rw [z] at d e ⊢; exact hz d e
      · exact h1 j a (by omega) d e
    show (fX8_isClear_3 M (k + 1) s c i = _ ∧ _) ∨ (fX8_isClear_3 M (k + 1) s c i = _ ∧ _)
    rw [fX8_isClear_3, g4, if_pos hi]
    unfold fX8_isClear_70
    by_cases e1 : i = s
    · rw [if_pos e1, jp_bs, jw_ws (by omega)]
      exact next (fun z => absurd e1 z)
    · rw [if_neg e1, if_pos (by omega), if_pos (by omega), ei, es]
      by_cases e2 : M 131 (90 + i) = M 131 (90 + s)
      · have w4 : fX9_walkTo 10 (M 120 i) c M = some (jp_wk (M 131) (M 120 i) c) := gX9_walkTo hA _ _ (by omega)
        have hsym := (jp_wk_r hA.1 (a := M 120 i) (b := c) (by omega) (by omega) (by omega) (by omega)).2.2
        rw [if_pos e2, if_pos (by omega), w4, jp_bs, c8, hsym]
        by_cases e3 : jp_wk (M 131) c (M 120 i) < M 131 87
        · rw [if_pos e3]
          refine Or.inr ⟨rfl, fun z => ?_⟩
          have := z i h0 hi e1 e2
          omega
        · rw [if_neg e3, jp_bs, jw_ws (by omega)]
          exact next (fun _ _ => by omega)
      · rw [if_neg e2, jp_bs, jw_ws (by omega)]
        exact next (fun _ z => absurd z e2)
  · intro k _ hp
    refine Or.inl ⟨?_, hp.2⟩
    show fX8_isClear_3 M (k + 1) s c (M 131 3) = _
    rw [fX8_isClear_3, g4, if_neg (by omega)]
/-- the crowds of those from m on -/
def jp_cw2 (T P : Int → Int) (m g c : Int) : Int := jp_sum (fun j => if m ≤ j ∧ T (90 + j) = g ∧ P j = c then 1 else 0) (T 3).toNat
def jp_fs (M N : jw_M) : Prop := ∀ s c a : Int, 0 ≤ s → s < M 131 3 → 0 ≤ c → c < M 131 0 → 1 ≤ a → a < 6 → N 122 ((7 * s + c) * 6 + a) = jp_s0 (M 131) (M 133) s c a
theorem jp_sum_1 : ∀ n : Nat, jp_sum (fun _ => 1) n = (n : Int) := by
  intro n
  induction n with
  | zero => rfl
  | succ n ih => rw [jp_sum, ih]; omega
theorem jp_sum_p {f g : Int → Int} {s : Int} (hs : 0 ≤ s) (h1 : f s = g s + 1) : ∀ n : Nat, s < (n : Int) → (∀ j : Int, 0 ≤ j → j < (n : Int) → j ≠ s → f j = g j) → jp_sum f n = jp_sum g n + 1 := by
  intro n
  induction n with
  | zero => intro a; omega
  | succ n ih =>
    intro a h
    rw [jp_sum, jp_sum]
    by_cases e : s = (n : Int)
    · rw [jp_sum_c n (f := f) (g := g) (fun j p q => h j p (by omega) (by omega)), ← e, h1]
      omega
    · rw [ih (by omega) (fun j p q => h j p (by omega)), h n (by omega) (by omega) (fun z => e z.symm)]
      omega
theorem jp_cw2_o {T P : Int → Int} (h3 : 0 ≤ T 3) {s c : Int} (hs : 0 ≤ s ∧ s < T 3) (hc : P s ≠ c) : jp_cw2 T P 0 (T (90 + s)) c = jp_sum (jp_cr T P s c) (T 3).toNat := by
  refine jp_sum_c _ (fun j a b => ?_)
  unfold jp_cr
  refine jp_ifc ⟨fun z => ⟨fun e => ?_, z.2⟩, fun z => ⟨a, z.2⟩⟩
  rw [e] at z
  exact hc z.2.2
theorem jp_cw2_s {T P : Int → Int} (h3 : 0 ≤ T 3) {s : Int} (hs : 0 ≤ s ∧ s < T 3) : jp_cw2 T P 0 (T (90 + s)) (P s) = jp_sum (jp_cr T P s (P s)) (T 3).toNat + 1 := by
  refine jp_sum_p (s := s) hs.1 ?_ _ (by omega) (fun j a b e => ?_)
  · unfold jp_cr
    rw [if_pos ⟨hs.1, rfl, rfl⟩, if_neg (fun z => z.1 rfl), Int.zero_add]
  · unfold jp_cr
    exact jp_ifc ⟨fun z => ⟨e, z.2⟩, fun z => ⟨a, z.2⟩⟩
theorem jp_cr_4 {T P : Int → Int} (h3 : 0 ≤ T 3 ∧ T 3 ≤ 5) {s c : Int} (hs : 0 ≤ s ∧ s < T 3) : 0 ≤ jp_sum (jp_cr T P s c) (T 3).toNat ∧ jp_sum (jp_cr T P s c) (T 3).toNat ≤ 4 := by
  have h1 := jp_cr_b (P := P) h3 s c (T 3) h3.1 (Int.le_refl _)
  have h2 := (jp_sum_lt (f := jp_cr T P s c) (g := fun _ => 1) (T 3).toNat (fun j a b => (jp_cr_r T P s c j).2)).2 ⟨s, hs.1, by omega, by unfold jp_cr; rw [if_neg (fun z => z.1 rfl)]; decide⟩
  rw [jp_sum_1] at h2
  omega
theorem gX8_searchedScore {M N : jw_M} (hA : jp_A N) (e131 : N 131 = M 131) (hfs : jp_fs M N) (s c d a : Int) (hs : 0 ≤ s ∧ s < M 131 3) (hc : 0 ≤ c ∧ c < M 131 0) (hd : 0 ≤ d ∧ d ≤ 1) (ha : 1 ≤ a ∧ a < 6) (hw : N 121 (7 * M 131 (90 + s) + c) + d = a) : fX8_searchedScore s c d N = some (jp_s0 (M 131) (M 133) s c a) := by
  obtain ⟨⟨r0, r2, r3, r4, r5⟩, -⟩ := jp_A_r hA
  rw [e131] at r0 r2 r3
  have es : N (17 + 4) s = M 131 (90 + s) := by
    have := (jp_gof hA (s := s) (by rw [e131]; exact hs)).1
    rw [e131] at this
    exact this
  have hg := hA.1.2.2.2.2.2.2 s hs.1 (by rw [e131]; exact hs.2)
  rw [e131] at hg
  unfold fX8_searchedScore
  rw [if_pos (by omega), es, jw_ws (x := M 131 (90 + s) * 7) (by omega), jw_ws (x := M 131 (90 + s) * 7 + c) (by omega), if_pos (by omega), jp_bs, show M 131 (90 + s) * 7 + c = 7 * M 131 (90 + s) + c by omega, hw, jw_ws (x := a) (by omega), jw_ws (x := s * 7) (by omega), jw_ws (x := s * 7 + c) (by omega), jw_ws (x := (s * 7 + c) * 6) (by omega), jw_ws (x := (s * 7 + c) * 6 + a) (by omega), if_pos (by omega), show (s * 7 + c) * 6 + a = (7 * s + c) * 6 + a by omega, hfs s c a hs.1 hs.2 hc.1 hc.2 ha.1 ha.2]
theorem bX8_searchedScore {M N : jw_M} (hA : jp_A N) (e131 : N 131 = M 131) (hfs : jp_fs M N) (s c d a : Int) (hs : 0 ≤ s ∧ s < M 131 3) (hc : 0 ≤ c ∧ c < M 131 0) (hd : 0 ≤ d ∧ d ≤ 1) (ha : 1 ≤ a ∧ a < 6) (hw : N 121 (7 * M 131 (90 + s) + c) + d = a) {be : Type} (kk : _ → Option be) : Option.bind (fX8_searchedScore s c d N) kk = kk ((jp_s0 (M 131) (M 133) s c a)) := by rw [show fX8_searchedScore s c d N = some (jp_s0 (M 131) (M 133) s c a) from gX8_searchedScore hA e131 hfs s c d a hs hc hd ha hw]; rfl
/-- none does better -/
theorem jp_be_i {T N P : Int → Int} {s : Int} (h0 : 0 ≤ T 0) : jp_be T N P s = P s ↔ ∀ c : Int, 0 ≤ c → c < T 0 → ¬ (jp_sc T N P s (P s) < jp_sc T N P s c ∧ jp_lw T P (T (90 + s)) s c = true) := by
  have inv : ∀ n : Nat, jp_sc T N P s (P s) ≤ jp_sc T N P s (jp_bc T N P s n) ∧ (∀ c : Int, 0 ≤ c → c < (n : Int) → jp_lw T P (T (90 + s)) s c = true → jp_sc T N P s c ≤ jp_sc T N P s (jp_bc T N P s n)) := by
    intro n
    induction n with
    | zero => exact ⟨Int.le_refl _, fun c a b => by omega⟩
    | succ n ih =>
      rw [jp_bc]
      by_cases e : jp_sc T N P s (jp_bc T N P s n) < jp_sc T N P s (n : Int) ∧ jp_lw T P (T (90 + s)) s (n : Int) = true
      · rw [if_pos e]
        refine ⟨by omega, fun c a b hl => ?_⟩
        by_cases z : c = (n : Int)
        · rw [z]; exact Int.le_refl _
        · have := ih.2 c a (by omega) hl; omega
      · rw [if_neg e]
        refine ⟨ih.1, fun c a b hl => ?_⟩
        by_cases z : c = (n : Int)
        · rw [z] at hl ⊢
          by_cases z2 : jp_sc T N P s (jp_bc T N P s n) < jp_sc T N P s (n : Int)
          · exact absurd ⟨z2, hl⟩ e
          · omega
        · exact ih.2 c a (by omega) hl
  constructor
  · intro h c a b ⟨z1, z2⟩
    have := (inv (T 0).toNat).2 c a (by omega) z2
    unfold jp_be at h
    rw [h] at this
    omega
  · intro h
    have : ∀ n : Nat, (n : Int) ≤ T 0 → jp_bc T N P s n = P s := by
      intro n
      induction n with
      | zero => intro _; rfl
      | succ n ih =>
        intro hn
        rw [jp_bc, ih (by omega), if_neg (h n (by omega) (by omega))]
    exact this _ (by omega)
/-- the memory at a way that stands whole -/
def jp_lf (M N : jw_M) : Prop := jp_A N ∧ N 131 = M 131 ∧ jp_fs M N ∧ (∀ j : Int, 0 ≤ j → j < M 131 3 → 0 ≤ N 120 j ∧ N 120 j < M 131 0) ∧ (∀ g c : Int, 0 ≤ g → g < 4 → 0 ≤ c → c < 7 → N 121 (7 * g + c) = jp_cw2 (M 131) (N 120) 0 g c)
theorem gX8_wantsToMove {M N : jw_M} (hN : jp_lf M N) (s : Int) (hs : 0 ≤ s ∧ s < M 131 3) : (fX8_wantsToMove s N = some 0 ∧ jp_be (M 131) (M 133) (N 120) s = N 120 s) ∨ (fX8_wantsToMove s N = some 1 ∧ jp_be (M 131) (M 133) (N 120) s ≠ N 120 s) := by
  obtain ⟨hA, e131, hfs, hW, hC⟩ := hN
  obtain ⟨⟨r0, r2, r3, r4, r5⟩, -⟩ := jp_A_r hA
  obtain ⟨⟨c0, c5, c8, -⟩, -, g4, g7⟩ := jp_A_c hA
  rw [e131] at r0 r2 r3 c0 g4
  have hg := hA.1.2.2.2.2.2.2 s hs.1 (by rw [e131]; exact hs.2)
  rw [e131] at hg
  have hp := hW s hs.1 hs.2
  have hown : fX8_searchedScore s (N 120 s) 0 N = some (jp_sc (M 131) (M 133) (N 120) s (N 120 s)) := by
    have h4 := jp_cr_4 (T := M 131) (P := N 120) (c := N 120 s) r3 hs
    exact gX8_searchedScore hA e131 hfs s _ 0 _ hs hp (by omega) (by omega) (by rw [hC _ _ hg.1 (by omega) hp.1 (by omega), jp_cw2_s r3.1 hs]; omega)
  have hoth : ∀ c : Int, 0 ≤ c → c < M 131 0 → c ≠ N 120 s → fX8_searchedScore s c 1 N = some (jp_sc (M 131) (M 133) (N 120) s c) := by
    intro c a b e
    have h4 := jp_cr_4 (T := M 131) (P := N 120) (c := c) r3 hs
    exact gX8_searchedScore hA e131 hfs s _ 1 _ hs ⟨a, b⟩ (by omega) (by omega) (by rw [hC _ _ hg.1 (by omega) a (by omega), jp_cw2_o r3.1 hs (fun z => e z.symm)]; omega)
  have key : (fX8_wantsToMove s N = some 0 ∧ ∀ c : Int, 0 ≤ c → c < M 131 0 → ¬ (jp_sc (M 131) (M 133) (N 120) s (N 120 s) < jp_sc (M 131) (M 133) (N 120) s c ∧ jp_lw (M 131) (N 120) (M 131 (90 + s)) s c = true)) ∨ (fX8_wantsToMove s N = some 1 ∧ ¬ ∀ c : Int, 0 ≤ c → c < M 131 0 → ¬ (jp_sc (M 131) (M 133) (N 120) s (N 120 s) < jp_sc (M 131) (M 133) (N 120) s c ∧ jp_lw (M 131) (N 120) (M 131 (90 + s)) s c = true)) := by
    unfold fX8_wantsToMove
    rw [if_pos (by omega), jp_bs, hown, jp_bs, jp_bs, jp_bs]
    refine jp_up (fun k i (_ : Unit) => fX8_wantsToMove_18 N k s (N 120 s) (jp_sc (M 131) (M 133) (N 120) s (N 120 s)) i) (M 131 0) (fun i _ => 0 ≤ i ∧ ∀ c : Int, 0 ≤ c → c < i → ¬ (jp_sc (M 131) (M 133) (N 120) s (N 120 s) < jp_sc (M 131) (M 133) (N 120) s c ∧ jp_lw (M 131) (N 120) (M 131 (90 + s)) s c = true)) (fun r => (r = some 0 ∧ ∀ c : Int, 0 ≤ c → c < M 131 0 → ¬ (jp_sc (M 131) (M 133) (N 120) s (N 120 s) < jp_sc (M 131) (M 133) (N 120) s c ∧ jp_lw (M 131) (N 120) (M 131 (90 + s)) s c = true)) ∨ (r = some 1 ∧ ¬ ∀ c : Int, 0 ≤ c → c < M 131 0 → ¬ (jp_sc (M 131) (M 133) (N 120) s (N 120 s) < jp_sc (M 131) (M 133) (N 120) s c ∧ jp_lw (M 131) (N 120) (M 131 (90 + s)) s c = true))) ?_ ?_ jw_fu 0 () (by unfold jw_fu; omega) (by omega) ⟨by omega, fun c a b => by omega⟩
    · intro k i _ hp2 hi ih
      obtain ⟨h0, h1⟩ := hp2
      have next : ¬ (jp_sc (M 131) (M 133) (N 120) s (N 120 s) < jp_sc (M 131) (M 133) (N 120) s i ∧ jp_lw (M 131) (N 120) (M 131 (90 + s)) s i = true) → (fX8_wantsToMove_18 N k s (N 120 s) (jp_sc (M 131) (M 133) (N 120) s (N 120 s)) (i + 1) = some 0 ∧ ∀ c : Int, 0 ≤ c → c < M 131 0 → ¬ (jp_sc (M 131) (M 133) (N 120) s (N 120 s) < jp_sc (M 131) (M 133) (N 120) s c ∧ jp_lw (M 131) (N 120) (M 131 (90 + s)) s c = true)) ∨ (fX8_wantsToMove_18 N k s (N 120 s) (jp_sc (M 131) (M 133) (N 120) s (N 120 s)) (i + 1) = some 1 ∧ ¬ ∀ c : Int, 0 ≤ c → c < M 131 0 → ¬ (jp_sc (M 131) (M 133) (N 120) s (N 120 s) < jp_sc (M 131) (M 133) (N 120) s c ∧ jp_lw (M 131) (N 120) (M 131 (90 + s)) s c = true)) := by
        intro hz
        refine ih () ⟨by omega, fun c a b => ?_⟩
        by_cases z : c = i
        · rw [z]; exact hz
        · exact h1 c a (by omega)
      show (fX8_wantsToMove_18 N (k + 1) s (N 120 s) _ i = _ ∧ _) ∨ (fX8_wantsToMove_18 N (k + 1) s (N 120 s) _ i = _ ∧ _)
      rw [fX8_wantsToMove_18, c0, if_pos hi]
      unfold fX8_wantsToMove_61
      by_cases e1 : i = N 120 s
      · rw [if_pos e1, jp_bs, jw_ws (by omega)]
        refine next (fun z => ?_)
        rw [e1] at z
        exact absurd z.1 (Int.lt_irrefl _)
      · rw [if_neg e1, hoth i h0 hi e1, jp_bs]
        by_cases e2 : jp_sc (M 131) (M 133) (N 120) s (N 120 s) < jp_sc (M 131) (M 133) (N 120) s i
        · rw [if_pos e2]
          have hcl := gX8_isClear hA s i 0 (by rw [e131]; exact hs) (by rw [e131]; exact ⟨h0, hi⟩) (by rw [e131]; omega) (by rw [e131]; exact hW)
          rw [e131] at hcl
          rcases hcl with ⟨q1, q2⟩ | ⟨q1, q2⟩
          · rw [q1, jp_bs, if_neg (by decide)]
            exact Or.inr ⟨rfl, fun z => z i h0 hi ⟨e2, (jp_cl2_lw _ _ _ _ r3.1).mpr q2⟩⟩
          · rw [q1, jp_bs, if_pos rfl, jp_bs, jw_ws (by omega)]
            exact next (fun z => q2 ((jp_cl2_lw _ _ _ _ r3.1).mp z.2))
        · rw [if_neg e2, jp_bs, jw_ws (by omega)]
          exact next (fun z => e2 z.1)
    · intro k _ hp2
      refine Or.inl ⟨?_, hp2.2⟩
      show fX8_wantsToMove_18 N (k + 1) s (N 120 s) _ (M 131 0) = _
      rw [fX8_wantsToMove_18, c0, if_neg (by omega)]
  rcases key with ⟨z1, z2⟩ | ⟨z1, z2⟩
  · exact Or.inl ⟨z1, (jp_be_i r0.1).mpr z2⟩
  · exact Or.inr ⟨z1, fun z => z2 ((jp_be_i r0.1).mp z)⟩
