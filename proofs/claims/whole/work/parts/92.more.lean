/-! ways of escape: one more way -/
def jp_ps (R B : Int → Int) (p q : Int) : Prop := ∀ p' q' : Int, 0 ≤ p' → p' < 14 → 0 ≤ q' → q' < 14 → (p' < p ∨ p' = p ∧ q' < q) → B p' ≠ -1000000 → B q' = -1000000 → R (14 * p' + q') ≤ 0
/-- in a pass -/
def jp_pI (M N0 : jw_M) (S p q x3 : Int) (N : jw_M) : Prop := (∀ k : Nat, k ≠ 142 → N k = M k) ∧ (∃ ρ : Int → Int, jp_bk (M 141) (N 142) S ρ) ∧ ((x3 = 0 ∧ N 142 = N0 142 ∧ jp_ps (M 141) (N0 142) p q) ∨ (x3 = 1 ∧ jp_cn (N0 142) + 1 ≤ jp_cn (N 142)))
theorem gX12_more_61 {M N0 : jw_M} {S : Int} (hS : 0 ≤ S ∧ S < 14) (E : Int) (r31 : Int → Int → Int → jw_M → Option (Int × jw_M)) (r51 : Int → Int → Int → Int → jw_M → Option (Int × jw_M)) (p : Int) (hp : 0 ≤ p ∧ p < 14) (x3 : Int) (N : jw_M) (h : jp_pI M N0 S p 0 x3 N) : ∃ (y : Int) (N' : jw_M), fX12_goesMore_61 r31 r51 jw_fu S E x3 p 0 N = r51 S E y (p + 1) N' ∧ jp_pI M N0 S (p + 1) 0 y N' := by
  refine jp_up (fun k q (a : Int × jw_M) => fX12_goesMore_61 r31 r51 k S E a.1 p q a.2) 14 (fun q a => 0 ≤ q ∧ jp_pI M N0 S p q a.1 a.2) (fun r => ∃ (y : Int) (N' : jw_M), r = r51 S E y (p + 1) N' ∧ jp_pI M N0 S (p + 1) 0 y N') ?_ ?_ jw_fu 0 (x3, N) (by unfold jw_fu; omega) (by omega) ⟨by omega, h⟩
  · intro k q a hp2 hq ih
    obtain ⟨x3, N⟩ := a
    obtain ⟨q0, hI⟩ := hp2
    have hI2 : jp_pI M N0 S p q x3 N := hI
    clear hI
    obtain ⟨hf, hbk, hcs⟩ := id hI2
    have e141 : N 141 = M 141 := hf _ (by decide)
    have same : (N 142 p ≠ -1000000 → N 142 q = -1000000 → M 141 (14 * p + q) ≤ 0) → ∃ (y : Int) (N' : jw_M), fX12_goesMore_119 r31 r51 (fX12_goesMore_61 r31 r51 k) S E x3 p q N = r51 S E y (p + 1) N' ∧ jp_pI M N0 S (p + 1) 0 y N' := by
      intro hz
      unfold fX12_goesMore_119
      rw [jp_bs, jw_ws (by omega)]
      refine ih (x3, N) ⟨by omega, hf, hbk, ?_⟩
      rcases hcs with ⟨u1, u2, u3⟩ | u
      · refine Or.inl ⟨u1, u2, fun p' q' a1 a2 a3 a4 a5 a6 a7 => ?_⟩
        by_cases z : p' = p ∧ q' = q
        · rw [z.1, z.2]
          rw [z.1, ← u2] at a6
          rw [z.2, ← u2] at a7
          exact hz a6 a7
        · exact u3 p' q' a1 a2 a3 a4 (by omega) a6 a7
      · exact Or.inr u
    show ∃ (y : Int) (N' : jw_M), fX12_goesMore_61 r31 r51 (k + 1) S E x3 p q N = r51 S E y (p + 1) N' ∧ _
    rw [fX12_goesMore_61, if_pos hq, if_pos (by omega)]
    by_cases e1 : N 142 p = -1000000
    · rw [if_pos e1]
      exact same (fun w => absurd e1 w)
    · rw [if_neg e1, if_pos (show 0 ≤ q ∧ q < 14 by omega)]
      by_cases e2 : N 142 q = -1000000
      · rw [if_pos e2, jw_ws (x := 14 * p) (by omega), jw_ws (x := 14 * p + q) (by omega), if_pos (show 0 ≤ 14 * p + q ∧ 14 * p + q < 196 by omega), e141]
        by_cases e3 : 0 < M 141 (14 * p + q)
        · rw [if_pos e3, if_pos (show 0 ≤ q ∧ q < 14 by omega), jp_bs, jp_bs]
          unfold fX12_goesMore_119
          rw [jp_bs, jw_ws (by omega)]
          obtain ⟨w1, w2⟩ := jp_bk_u hS hbk hp ⟨q0, hq⟩ e1 e2 e3
          refine ih (1, jw_up N 142 q p) ⟨by omega, fun k hk => ?_, ?_, Or.inr ⟨rfl, ?_⟩⟩
          · show jw_up N 142 q p k = M k
            rw [jw_up_ne _ hk]; exact hf k hk
          · show ∃ ρ : Int → Int, jp_bk (M 141) (jw_up N 142 q p 142) S ρ
            rw [jw_up_eq]; exact w1
          · show jp_cn (N0 142) + 1 ≤ jp_cn (jw_up N 142 q p 142)
            rw [jw_up_eq, w2]
            rcases hcs with ⟨u1, u2, u3⟩ | u
            · rw [u2]; exact Int.le_refl _
            · omega
        · rw [if_neg e3]
          exact same (fun _ _ => by omega)
      · rw [if_neg e2]
        exact same (fun _ w => absurd w e2)
  · intro k a hp2
    obtain ⟨x3, N⟩ := a
    obtain ⟨q0, hI⟩ := hp2
    have hI2 : jp_pI M N0 S p 14 x3 N := hI
    obtain ⟨hf, hbk, hcs⟩ := hI2
    refine ⟨x3, N, ?_, hf, hbk, ?_⟩
    · show fX12_goesMore_61 r31 r51 (k + 1) S E x3 p 14 N = _
      rw [fX12_goesMore_61, if_neg (by decide), jp_bs, jw_ws (by omega)]
    · rcases hcs with ⟨u1, u2, u3⟩ | u
      · exact Or.inl ⟨u1, u2, fun p' q' a1 a2 a3 a4 a5 a6 a7 => u3 p' q' a1 a2 a3 a4 (by omega) a6 a7⟩
      · exact Or.inr u
theorem gX12_more_51 {M N0 : jw_M} {S : Int} (hS : 0 ≤ S ∧ S < 14) (E : Int) (r31 : Int → Int → Int → jw_M → Option (Int × jw_M)) (h : jp_pI M N0 S 0 0 0 N0) : ∃ (y : Int) (N' : jw_M), fX12_goesMore_51 r31 jw_fu S E 0 0 N0 = r31 S E y N' ∧ jp_pI M N0 S 14 0 y N' := by
  refine jp_up (fun k p (a : Int × jw_M) => fX12_goesMore_51 r31 k S E a.1 p a.2) 14 (fun p a => 0 ≤ p ∧ jp_pI M N0 S p 0 a.1 a.2) (fun r => ∃ (y : Int) (N' : jw_M), r = r31 S E y N' ∧ jp_pI M N0 S 14 0 y N') ?_ ?_ jw_fu 0 (0, N0) (by unfold jw_fu; omega) (by omega) ⟨by omega, h⟩
  · intro k p a hp2 hp ih
    obtain ⟨x3, N⟩ := a
    obtain ⟨p0, hI⟩ := hp2
    obtain ⟨y, N', n1, n2⟩ := gX12_more_61 hS E r31 (fX12_goesMore_51 r31 k) p ⟨p0, hp⟩ x3 N hI
    show ∃ (y : Int) (N' : jw_M), fX12_goesMore_51 r31 (k + 1) S E x3 p N = _ ∧ _
    rw [fX12_goesMore_51, if_pos hp, jp_bs, n1]
    exact ih (y, N') ⟨by omega, n2⟩
  · intro k a hp2
    obtain ⟨x3, N⟩ := a
    refine ⟨x3, N, ?_, hp2.2⟩
    show fX12_goesMore_51 r31 (k + 1) S E x3 14 N = _
    rw [fX12_goesMore_51, if_neg (by decide)]
theorem gX12_more_31 {M : jw_M} {S E : Int} (hS : 0 ≤ S ∧ S < 14) (hE : 0 ≤ E ∧ E < 14) : ∀ (m : Nat) (N : jw_M) (k : Nat), 15 - jp_cn (N 142) ≤ (m : Int) → m + 2 < k → (∀ k : Nat, k ≠ 142 → N k = M k) → (∃ ρ : Int → Int, jp_bk (M 141) (N 142) S ρ) → ∃ N' : jw_M, fX12_goesMore_31 k S E 1 N = fX12_goesMore_134 S E N' ∧ (∀ k : Nat, k ≠ 142 → N' k = M k) ∧ (∃ ρ : Int → Int, jp_bk (M 141) (N' 142) S ρ) ∧ (N' 142 E ≠ -1000000 ∨ (N' 142 E = -1000000 ∧ jp_ps (M 141) (N' 142) 14 0)) := by
  intro m
  induction m with
  | zero =>
    intro N k hm hk hf hbk
    have := jp_cn_r (N 142)
    omega
  | succ m ih =>
    intro N k hm hk hf hbk
    obtain ⟨k, rfl⟩ : ∃ j, k = j + 2 := ⟨k - 2, by omega⟩
    by_cases e : N 142 E = -1000000
    · obtain ⟨y, N', n1, n2, n3, n4⟩ := gX12_more_51 (M := M) (N0 := N) hS E (fX12_goesMore_31 (k + 1)) ⟨hf, hbk, Or.inl ⟨rfl, rfl, fun p' q' a1 a2 a3 a4 a5 => by omega⟩⟩
      have go : fX12_goesMore_31 (k + 2) S E 1 N = fX12_goesMore_31 (k + 1) S E y N' := by
        rw [fX12_goesMore_31, if_neg (by decide), if_pos hE, if_pos e, jp_bs, jp_bs, n1]
      rw [go]
      rcases n4 with ⟨u1, u2, u3⟩ | ⟨u1, u2⟩
      · refine ⟨N', ?_, n2, n3, Or.inr ⟨by rw [u2]; exact e, by rw [u2]; exact u3⟩⟩
        rw [u1, fX12_goesMore_31, if_pos rfl]
      · rw [u1]
        exact ih N' (k + 1) (by omega) (by omega) n2 n3
    · refine ⟨N, ?_, hf, hbk, Or.inl e⟩
      rw [fX12_goesMore_31, if_neg (by decide), if_pos hE, if_neg e]
/-- the way back -/
def jp_wI (T : Int → Int) (a b : Int) (B ρ : Int → Int) (n x : Int) (R : Int → Int) : Prop :=
  (∀ p q : Int, 0 ≤ p → p < 14 → 0 ≤ q → q < 14 → 0 ≤ R (14 * p + q)) ∧
  (∀ p q : Int, 0 ≤ p → p < 14 → 0 ≤ q → q < 14 → R (14 * p + q) + R (14 * q + p) = jp_cap T a b p q + jp_cap T a b q p) ∧
  (∀ p : Int, 0 ≤ p → p < 14 → jp_sum (fun q => jp_cap T a b p q - R (14 * p + q)) 14 = (if p = 7 + a then n else 0) - (if p = b then n else 0) + (if p = x then 1 else 0) - (if p = b then 1 else 0)) ∧
  (∀ p : Int, 0 ≤ p → p < 14 → B p ≠ -1000000 → p ≠ 7 + a → ρ p ≤ ρ x → 0 < R (14 * B p + p))
theorem gX12_more_150 {M : jw_M} {T : Int → Int} {a b n : Int} (ha : 0 ≤ a ∧ a < 7) (hb : 0 ≤ b ∧ b < 7) {R0 ρ : Int → Int} (hbk : jp_bk R0 (M 142) (7 + a) ρ) : ∀ (r : Nat) (x : Int) (N : jw_M) (k : Nat), ρ x = (r : Int) → 0 ≤ x → x < 14 → M 142 x ≠ -1000000 → r < k → (∀ k : Nat, k ≠ 141 → N k = M k) → jp_wI T a b (M 142) ρ n x (N 141) → ∃ N' : jw_M, fX12_goesMore_150 k (7 + a) x N = some (1, N') ∧ (∀ k : Nat, k ≠ 141 → N' k = M k) ∧ jp_fl T a b (N' 141) (n + 1) := by
  obtain ⟨b1, b2, b3⟩ := hbk
  intro r
  induction r with
  | zero =>
    intro x N k hr x0 x1 hx hk hf hI
    obtain ⟨k, rfl⟩ : ∃ j, k = j + 1 := ⟨k - 1, by omega⟩
    have exS : x = 7 + a := by
      by_cases z : x = 7 + a
      · exact z
      · obtain ⟨u1, u2⟩ := b3 x x0 x1 hx
        obtain ⟨v1, v2, v3, v4, v5⟩ := u2 z
        have := (b3 (M 142 x) v1 v2 v3).1
        omega
    subst exS
    obtain ⟨i1, i2, i3, i4⟩ := hI
    refine ⟨N, by rw [fX12_goesMore_150, if_pos rfl], hf, i1, i2, fun p p0 p1 => ?_⟩
    rw [i3 p p0 p1]
    split <;> split <;> omega
  | succ r ih =>
    intro x N k hr x0 x1 hx hk hf hI
    obtain ⟨k, rfl⟩ : ∃ j, k = j + 1 := ⟨k - 1, by omega⟩
    have hxS : x ≠ 7 + a := fun z => by rw [z, b2] at hr; omega
    obtain ⟨u1, u2⟩ := b3 x x0 x1 hx
    obtain ⟨v1, v2, v3, v4, v5⟩ := u2 hxS
    obtain ⟨i1, i2, i3, i4⟩ := hI
    have e142 : N 142 = M 142 := hf _ (by decide)
    have hux : M 142 x ≠ x := fun z => by rw [z] at v5; omega
    have hpos := i4 x x0 x1 hx hxS (Int.le_refl _)
    have hc1 := jp_cap_r T a b (M 142 x) x
    have hc2 := jp_cap_r T a b x (M 142 x)
    have hsum := i2 (M 142 x) x v1 v2 x0 x1
    have hnn := i1 x (M 142 x) x0 x1 v1 v2
    generalize hu : M 142 x = u at *
    generalize hN2 : jw_up (jw_up N 141 (14 * u + x) (N 141 (14 * u + x) - 1)) 141 (14 * x + u) (N 141 (14 * x + u) + 1) = N2
    have hne : 14 * x + u ≠ 14 * u + x := by omega
    have go : fX12_goesMore_150 (k + 1) (7 + a) x N = fX12_goesMore_150 k (7 + a) u N2 := by
      have e10 : ∀ v : Int, jw_up N 141 (14 * u + x) v 142 x = u := fun v => by rw [jw_up_ne _ (by decide), e142]; exact hu
      have e11 : ∀ v : Int, jw_up N 141 (14 * u + x) v 141 (14 * x + u) = N 141 (14 * x + u) := fun v => by rw [jw_up_eq, jw_u1_n _ hne]
      have e12 : N2 142 x = u := by rw [← hN2, jw_up_ne _ (by decide), jw_up_ne _ (by decide), e142]; exact hu
      have e13 : N 142 x = u := by rw [e142]; exact hu
      rw [fX12_goesMore_150, if_neg hxS, if_pos (show 0 ≤ x ∧ x < 14 by omega), e13, jw_ws (x := 14 * u) (by omega), jw_ws (x := 14 * u + x) (by omega), if_pos (show 0 ≤ 14 * u + x ∧ 14 * u + x < 196 by omega), if_pos (show 0 ≤ 14 * u + x ∧ 14 * u + x < 196 by omega), jp_bs, if_pos (show 0 ≤ x ∧ x < 14 by omega), e10, jw_ws (x := 14 * x) (by omega), jw_ws (x := 14 * x + u) (by omega), if_pos (show 0 ≤ 14 * x + u ∧ 14 * x + u < 196 by omega), if_pos (show 0 ≤ 14 * x + u ∧ 14 * x + u < 196 by omega), jp_bs, if_pos (show 0 ≤ x ∧ x < 14 by omega), jp_bs, e11, jw_ws (x := N 141 (14 * u + x) - 1) (by omega), jw_ws (x := N 141 (14 * x + u) + 1) (by omega), hN2, e12]
    have g1 : N2 141 (14 * u + x) = N 141 (14 * u + x) - 1 := by rw [← hN2, jw_up_eq, jw_u1_n _ (fun z => hne z.symm), jw_up_eq, jw_u1_s]
    have g2 : N2 141 (14 * x + u) = N 141 (14 * x + u) + 1 := by rw [← hN2, jw_up_eq, jw_u1_s]
    have g3 : ∀ y : Int, y ≠ 14 * u + x → y ≠ 14 * x + u → N2 141 y = N 141 y := fun y h1 h2 => by rw [← hN2, jw_up_eq, jw_u1_n _ h2, jw_up_eq, jw_u1_n _ h1]
    have hf2 : ∀ k : Nat, k ≠ 141 → N2 k = M k := fun k hk => by rw [← hN2, jw_up_ne _ hk, jw_up_ne _ hk]; exact hf k hk
    rw [go]
    refine ih u N2 k (by omega) v1 v2 v3 (by omega) hf2 ⟨fun p q p0 p1 q0 q1 => ?_, fun p q p0 p1 q0 q1 => ?_, fun p p0 p1 => ?_, fun p p0 p1 hp hpS hρ => ?_⟩
    · have w := i1 p q p0 p1 q0 q1
      by_cases z1 : 14 * p + q = 14 * u + x
      · rw [z1, g1]; omega
      · by_cases z2 : 14 * p + q = 14 * x + u
        · rw [z2, g2]; omega
        · rw [g3 _ z1 z2]; exact w
    · have w := i2 p q p0 p1 q0 q1
      by_cases z1 : 14 * p + q = 14 * u + x
      · have ep : p = u := by omega
        have eq : q = x := by omega
        rw [ep, eq] at w ⊢
        rw [g1, g2]; omega
      · by_cases z2 : 14 * p + q = 14 * x + u
        · have ep : p = x := by omega
          have eq : q = u := by omega
          rw [ep, eq] at w ⊢
          rw [g1, g2]; omega
        · rw [g3 _ z1 z2, g3 _ (by omega) (by omega)]; exact w
    · have w := i3 p p0 p1
      by_cases z1 : p = u
      · have q1 : jp_sum (fun q => jp_cap T a b p q - N2 141 (14 * p + q)) 14 = jp_sum (fun q => jp_cap T a b p q - N 141 (14 * p + q)) 14 + 1 := by
          refine jp_sum_p (s := x) x0 ?_ 14 (by omega) (fun j j0 j1 hj => ?_)
          · rw [z1, g1]; omega
          · rw [g3 _ (by omega) (by omega)]
        rw [q1, w, if_pos z1, if_neg (show ¬ p = x by omega)]
        omega
      · by_cases z2 : p = x
        · have q1 : jp_sum (fun q => jp_cap T a b p q - N 141 (14 * p + q)) 14 = jp_sum (fun q => jp_cap T a b p q - N2 141 (14 * p + q)) 14 + 1 := by
            refine jp_sum_p (s := u) v1 ?_ 14 (by omega) (fun j j0 j1 hj => ?_)
            · rw [z2, g2]; omega
            · rw [g3 _ (by omega) (by omega)]
          rw [if_pos z2] at w
          rw [if_neg z1]
          omega
        · have q1 : jp_sum (fun q => jp_cap T a b p q - N2 141 (14 * p + q)) 14 = jp_sum (fun q => jp_cap T a b p q - N 141 (14 * p + q)) 14 := jp_sum_c 14 (fun j j0 j1 => by rw [g3 _ (by omega) (by omega)])
          rw [q1, w, if_neg z1, if_neg z2]
    · have hpx : p ≠ x := fun z => by rw [z] at hρ; omega
      obtain ⟨w1, w2⟩ := b3 p p0 p1 hp
      obtain ⟨y1, y2, y3, y4, y5⟩ := w2 hpS
      have w := i4 p p0 p1 hp hpS (by omega)
      by_cases z2 : 14 * M 142 p + p = 14 * x + u
      · rw [z2, g2]; rw [z2] at w; omega
      · rw [g3 _ (by omega) z2]; exact w
theorem gX12_goesMore {M : jw_M} {T : Int → Int} {a b n : Int} (ha : 0 ≤ a ∧ a < 7) (hb : 0 ≤ b ∧ b < 7) (hfl : jp_fl T a b (M 141) n) : ∃ N : jw_M, (∀ k : Nat, k ≠ 141 → k ≠ 142 → N k = M k) ∧ ((fX12_goesMore (7 + a) b M = some (1, N) ∧ jp_fl T a b (N 141) (n + 1)) ∨ (fX12_goesMore (7 + a) b M = some (0, N) ∧ N 141 = M 141 ∧ ∃ Q : Int → Bool, Q (7 + a) = true ∧ Q b = false ∧ ∀ p q : Int, 0 ≤ p → p < 14 → 0 ≤ q → q < 14 → Q p = true → Q q = false → M 141 (14 * p + q) ≤ 0)) := by
  unfold fX12_goesMore
  rw [jp_bs]
  refine jp_up (fun k i N => fX12_goesMore_2 k (7 + a) b i N) 14 (fun i N => 0 ≤ i ∧ (∀ k : Nat, k ≠ 142 → N k = M k) ∧ ∀ p : Int, 0 ≤ p → p < i → N 142 p = -1000000) (fun r => ∃ N : jw_M, (∀ k : Nat, k ≠ 141 → k ≠ 142 → N k = M k) ∧ ((r = some (1, N) ∧ jp_fl T a b (N 141) (n + 1)) ∨ (r = some (0, N) ∧ N 141 = M 141 ∧ ∃ Q : Int → Bool, Q (7 + a) = true ∧ Q b = false ∧ ∀ p q : Int, 0 ≤ p → p < 14 → 0 ≤ q → q < 14 → Q p = true → Q q = false → M 141 (14 * p + q) ≤ 0))) ?_ ?_ jw_fu 0 M (by unfold jw_fu; omega) (by omega) ⟨by omega, fun _ _ => rfl, fun p q r => by omega⟩
  · intro k i N hp hi ih
    obtain ⟨i0, hf, hx⟩ := hp
    show ∃ N' : jw_M, _ ∧ ((fX12_goesMore_2 (k + 1) (7 + a) b i N = _ ∧ _) ∨ (fX12_goesMore_2 (k + 1) (7 + a) b i N = _ ∧ _))
    rw [fX12_goesMore_2, if_pos hi, if_pos (by omega), jp_bs, jp_bs, jw_ws (by omega)]
    refine ih _ ⟨by omega, fun k hk => by rw [jw_up_ne _ hk]; exact hf k hk, fun p p0 p1 => ?_⟩
    rw [jw_up_eq, jw_u1_a]
    by_cases z : p = i
    · rw [if_pos z]
    · rw [if_neg z]; exact hx p p0 (by omega)
  · intro k N hp
    obtain ⟨i0, hf, hx⟩ := hp
    show ∃ N' : jw_M, _ ∧ ((fX12_goesMore_2 (k + 1) (7 + a) b 14 N = _ ∧ _) ∨ (fX12_goesMore_2 (k + 1) (7 + a) b 14 N = _ ∧ _))
    rw [fX12_goesMore_2, if_neg (by decide), if_pos (by omega), jp_bs, jp_bs]
    have hf1 : ∀ k : Nat, k ≠ 142 → jw_up N 142 (7 + a) (7 + a) k = M k := fun k hk => by rw [jw_up_ne _ hk]; exact hf k hk
    have hB : jw_up N 142 (7 + a) (7 + a) 142 (7 + a) = 7 + a := by rw [jw_up_eq, jw_u1_s]
    have hB2 : ∀ p : Int, 0 ≤ p → p < 14 → p ≠ 7 + a → jw_up N 142 (7 + a) (7 + a) 142 p = -1000000 := fun p p0 p1 hp => by rw [jw_up_eq, jw_u1_n _ hp]; exact hx p p0 p1
    have hcn : 0 < jp_cn (jw_up N 142 (7 + a) (7 + a) 142) := by
      have := (jp_sum_lt (f := fun _ => 0) (g := fun p => jp_01 (jp_met (jw_up N 142 (7 + a) (7 + a) 142) p)) 14 (fun p _ _ => by have := jp_01r (jp_met (jw_up N 142 (7 + a) (7 + a) 142) p); show 0 ≤ jp_01 (jp_met (jw_up N 142 (7 + a) (7 + a) 142) p); omega)).2 ⟨7 + a, by omega, by omega, by
        show 0 < jp_01 (jp_met (jw_up N 142 (7 + a) (7 + a) 142) (7 + a))
        unfold jp_met
        rw [hB, decide_eq_true (by omega)]
        decide⟩
      rw [jp_sum_0] at this
      exact this
    obtain ⟨N1, m1, m2, ⟨ρ, m3⟩, m4⟩ := gX12_more_31 (M := M) (S := 7 + a) (E := b) (by omega) (by omega) 15 (jw_up N 142 (7 + a) (7 + a)) jw_fu (by omega) (by unfold jw_fu; omega) hf1 ⟨fun _ => 0, hB, rfl, fun p p0 p1 hp => by
      by_cases z : p = 7 + a
      · exact ⟨⟨(Int.le_refl 0 : (0 : Int) ≤ 0), hcn⟩, fun w => absurd z w⟩
      · exact absurd (hB2 p p0 p1 z) hp⟩
    rw [m1]
    unfold fX12_goesMore_134
    rw [if_pos (show 0 ≤ b ∧ b < 14 by omega)]
    rcases m4 with z | ⟨z, zc⟩
    · rw [if_neg z, jp_bs]
      have e141 : N1 141 = M 141 := m2 _ (by decide)
      obtain ⟨w1, w2⟩ := m3.2.2 b (by omega) (by omega) z
      have hcr := jp_cn_r (N1 142)
      obtain ⟨N2, p1, p2, p3⟩ := gX12_more_150 (M := N1) (T := T) (n := n) ha hb m3 (ρ b).toNat b N1 jw_fu (by omega) (by omega) (by omega) z (by unfold jw_fu; omega) (fun _ _ => rfl) (by
        rw [e141]
        refine ⟨hfl.1, hfl.2.1, fun p p0 p1 => ?_, fun p p0 p1 hp hpS _ => ((m3.2.2 p p0 p1 hp).2 hpS).2.2.2.1⟩
        rw [hfl.2.2 p p0 p1]
        omega)
      exact ⟨N2, fun k a b => by rw [p2 k a, m2 k b], Or.inl ⟨p1, p3⟩⟩
    · rw [if_pos z]
      refine ⟨N1, fun k a b => m2 k b, Or.inr ⟨rfl, m2 _ (by decide), jp_met (N1 142), ?_, ?_, fun p q p0 p1 q0 q1 hp hq => ?_⟩⟩
      · unfold jp_met
        rw [m3.1, decide_eq_true (by omega)]
      · unfold jp_met
        rw [z]
        rfl
      · exact zc p q p0 p1 q0 q1 (by omega) (of_decide_eq_true hp) (by
          unfold jp_met at hq
          rw [decide_eq_false_iff_not] at hq
          exact Decidable.not_not.mp hq)
