/-! rings of debts: the first of all; lessened -/
theorem gX2_firstRing_9 {n L : Int} (hL : 2 ≤ L ∧ L ≤ 5) (M : jw_M) (hS : jp_Sn (M 34) n) (r2 : Int → Int → jw_M → Option (Int × jw_M)) (N0 : jw_M) (h0 : ∀ k : Nat, k ≠ 35 → N0 k = M k) : ∃ N : jw_M, (∀ k : Nat, k ≠ 35 → N k = M k) ∧ ((fX2_firstRing_9 (9 + 24) r2 jw_fu n L 0 N0 = some (L, N) ∧ jp_d5 L (N 35) ∧ jp_rv (M 34) L (N 35) ∧ ∀ y : Int → Int, jp_d5 L y → jp_rv (M 34) L y → (∀ j : Int, 0 ≤ j → j < L → N 35 j = y j) ∨ ∃ k : Int, 0 ≤ k ∧ k < L ∧ (∀ j : Int, 0 ≤ j → j < k → N 35 j = y j) ∧ N 35 k < y k) ∨ ((∀ y : Int → Int, jp_d5 L y → ¬ jp_rv (M 34) L y) ∧ fX2_firstRing_9 (9 + 24) r2 jw_fu n L 0 N0 = r2 n (L + 1) N)) := by
  obtain ⟨hn, hs⟩ := id hS
  refine jp_up (fun k c N => fX2_firstRing_9 (9 + 24) r2 k n L c N) n (fun c N => 0 ≤ c ∧ (∀ k : Nat, k ≠ 35 → N k = M k) ∧ ∀ y : Int → Int, jp_d5 L y → y 0 < c → ¬ jp_rv (M 34) L y) (fun r => ∃ N : jw_M, (∀ k : Nat, k ≠ 35 → N k = M k) ∧ ((r = some (L, N) ∧ jp_d5 L (N 35) ∧ jp_rv (M 34) L (N 35) ∧ ∀ y : Int → Int, jp_d5 L y → jp_rv (M 34) L y → (∀ j : Int, 0 ≤ j → j < L → N 35 j = y j) ∨ ∃ k : Int, 0 ≤ k ∧ k < L ∧ (∀ j : Int, 0 ≤ j → j < k → N 35 j = y j) ∧ N 35 k < y k) ∨ ((∀ y : Int → Int, jp_d5 L y → ¬ jp_rv (M 34) L y) ∧ r = r2 n (L + 1) N))) ?_ ?_ jw_fu 0 N0 (by unfold jw_fu; omega) (by omega) ⟨by omega, h0, fun y hd hy => by have := hd 0 (by omega) (by omega); omega⟩
  · intro k c N hp hc ih
    obtain ⟨c0, hf, hno⟩ := hp
    have n34 : jw_up N 35 0 c 34 = M 34 := by rw [jw_up_ne _ (by decide)]; exact hf _ (by decide)
    have n35 : jw_up N 35 0 c 35 0 = c := by rw [jw_up_eq, jw_u1_s]
    have hcl := gX2_closes (n := n) hL (L - 1).toNat 1 jw_rn (jw_up N 35 0 c) (by omega) (by omega) (by unfold jw_rn; omega) (by rw [n34]; exact hS) ⟨fun j a b => by rw [show j = 0 by omega, n35]; omega, fun j a b => by rw [show j = 0 by omega]; exact ⟨fun i a b => by omega, Int.le_refl _, fun z => by omega⟩⟩
    rw [n34] at hcl
    obtain ⟨v, N', r1, r2', r3⟩ := hcl
    have hf' : ∀ k : Nat, k ≠ 35 → N' k = M k := fun k hk => by rw [r2'.1 k hk, jw_up_ne _ hk, hf k hk]
    have np : N' 35 0 = c := by rw [r2'.2 0 (by omega), n35]
    show ∃ N2 : jw_M, _ ∧ ((fX2_firstRing_9 (9 + 24) r2 (k + 1) n L c N = _ ∧ _) ∨ (_ ∧ fX2_firstRing_9 (9 + 24) r2 (k + 1) n L c N = _))
    rw [fX2_firstRing_9, if_pos hc, if_pos (by decide), jp_bs]
    have e3 : (9 + 24 + 2 : Nat) = 35 := rfl
    rw [e3, r1, jp_b2s]
    rcases r3 with ⟨rfl, r4, r5, r6⟩ | ⟨rfl, r4⟩
    · rw [if_neg (by decide)]
      refine ⟨N', hf', Or.inl ⟨rfl, r4, r5, fun y hd hv => ?_⟩⟩
      by_cases z : y 0 = c
      · rcases r6 y hd hv (fun j a b => by rw [show j = 0 by omega, n35, z]) with w | ⟨kk, w1, w2, w3, w4⟩
        · exact Or.inl w
        · exact Or.inr ⟨kk, by omega, w2, w3, w4⟩
      · have : ¬ y 0 < c := fun z2 => hno y hd z2 hv
        exact Or.inr ⟨0, by omega, by omega, fun j a b => by omega, by rw [np]; omega⟩
    · rw [if_pos rfl, jp_bs, jw_ws (by omega)]
      refine ih N' ⟨by omega, hf', fun y hd hy => ?_⟩
      by_cases z : y 0 = c
      · exact r4 y hd (fun j a b => by rw [show j = 0 by omega, n35, z])
      · exact hno y hd (by omega)
  · intro k N hp
    obtain ⟨c0, hf, hno⟩ := hp
    refine ⟨N, hf, Or.inr ⟨fun y hd hv => ?_, ?_⟩⟩
    · by_cases z : y 0 < n
      · exact hno y hd z hv
      · have h3 := (hv 0 (by omega) (by omega)).2.2
        have h4 := hd 0 (by omega) (by omega)
        have h5 := hd 1 (by omega) (by omega)
        unfold jp_nx at h3
        rw [if_pos (by omega), Int.zero_add] at h3
        have := (hs (y 0) (y 1) (by omega) (by omega) (by omega) (by omega)).2.2 (Or.inl (by omega))
        omega
    · show fX2_firstRing_9 (9 + 24) r2 (k + 1) n L n N = _
      rw [fX2_firstRing_9, if_neg (by omega), jp_bs, jw_ws (by omega)]
def jp_no (S : Int → Int) (L : Int) : Prop := ∀ y : Int → Int, jp_d5 L y → ¬ jp_rv S L y
theorem gX2_firstRing {n : Int} (M : jw_M) (hS : jp_Sn (M 34) n) : ∃ (v : Int) (N : jw_M), fX2_firstRing (9 + 24) n M = some (v, N) ∧ (∀ k : Nat, k ≠ 35 → N k = M k) ∧ ((2 ≤ v ∧ v ≤ n ∧ jp_d5 v (N 35) ∧ jp_rv (M 34) v (N 35) ∧ (∀ y : Int → Int, jp_d5 v y → jp_rv (M 34) v y → (∀ j : Int, 0 ≤ j → j < v → N 35 j = y j) ∨ ∃ k : Int, 0 ≤ k ∧ k < v ∧ (∀ j : Int, 0 ≤ j → j < k → N 35 j = y j) ∧ N 35 k < y k) ∧ ∀ L : Int, 2 ≤ L → L < v → jp_no (M 34) L) ∨ (v = 0 ∧ ∀ L : Int, 2 ≤ L → L ≤ n → jp_no (M 34) L)) := by
  obtain ⟨hn, hs⟩ := id hS
  unfold fX2_firstRing
  rw [if_pos (by decide), jp_bs]
  by_cases h2 : n < 2
  · refine ⟨0, M, ?_, fun _ _ => rfl, Or.inr ⟨rfl, fun L a b => by omega⟩⟩
    show fX2_firstRing_2 (9 + 24) (99999 + 1) n 2 M = _
    rw [fX2_firstRing_2, if_pos h2]
  · refine jp_up (fun k L N => fX2_firstRing_2 (9 + 24) k n L N) (n + 1) (fun L N => 2 ≤ L ∧ (∀ k : Nat, k ≠ 35 → N k = M k) ∧ ∀ L' : Int, 2 ≤ L' → L' < L → jp_no (M 34) L') (fun r => ∃ (v : Int) (N : jw_M), r = some (v, N) ∧ (∀ k : Nat, k ≠ 35 → N k = M k) ∧ ((2 ≤ v ∧ v ≤ n ∧ jp_d5 v (N 35) ∧ jp_rv (M 34) v (N 35) ∧ (∀ y : Int → Int, jp_d5 v y → jp_rv (M 34) v y → (∀ j : Int, 0 ≤ j → j < v → N 35 j = y j) ∨ ∃ k : Int, 0 ≤ k ∧ k < v ∧ (∀ j : Int, 0 ≤ j → j < k → N 35 j = y j) ∧ N 35 k < y k) ∧ ∀ L : Int, 2 ≤ L → L < v → jp_no (M 34) L) ∨ (v = 0 ∧ ∀ L : Int, 2 ≤ L → L ≤ n → jp_no (M 34) L))) ?_ ?_ jw_fu 2 M (by unfold jw_fu; omega) (by omega) ⟨by omega, fun _ _ => rfl, fun L a b => by omega⟩
    · intro k L N hp hL ih
      obtain ⟨l0, hf, hno⟩ := hp
      obtain ⟨N', f1, f2⟩ := gX2_firstRing_9 (n := n) (L := L) (by omega) M hS (fX2_firstRing_2 (9 + 24) k) N hf
      show ∃ (v : Int) (N2 : jw_M), fX2_firstRing_2 (9 + 24) (k + 1) n L N = some (v, N2) ∧ _
      rw [fX2_firstRing_2, if_neg (by omega), jp_bs]
      rcases f2 with ⟨g1, g2, g3, g4⟩ | ⟨g1, g2⟩
      · exact ⟨L, N', g1, f1, Or.inl ⟨l0, by omega, g2, g3, g4, hno⟩⟩
      · rw [g2]
        refine ih N' ⟨by omega, f1, fun L' a b => ?_⟩
        by_cases z : L' = L
        · rw [z]; exact g1
        · exact hno L' a (by omega)
    · intro k N hp
      obtain ⟨l0, hf, hno⟩ := hp
      refine ⟨0, N, ?_, hf, Or.inr ⟨rfl, fun L a b => hno L a (by omega)⟩⟩
      show fX2_firstRing_2 (9 + 24) (k + 1) n (n + 1) N = _
      rw [fX2_firstRing_2, if_pos (by omega)]
/-- the least of a ring; what is left -/
def jp_lm (S : Int → Int) (L : Int) (x : Int → Int) : Nat → Int
  | 0 => 9999
  | k + 1 => if S (5 * x (k : Int) + x (jp_nx L (k : Int))) < jp_lm S L x k then S (5 * x (k : Int) + x (jp_nx L (k : Int))) else jp_lm S L x k
def jp_ld (S : Int → Int) (L : Int) (x : Int → Int) (v : Int) : Nat → Int → Int
  | 0 => S
  | k + 1 => jw_u1 (jp_ld S L x v k) (5 * x (k : Int) + x (jp_nx L (k : Int))) (jp_ld S L x v k (5 * x (k : Int) + x (jp_nx L (k : Int))) - v)
theorem jp_nx_r {L k : Int} (h : 0 ≤ k ∧ k < L) : 0 ≤ jp_nx L k ∧ jp_nx L k < L := by
  unfold jp_nx
  split <;> omega
theorem jp_lm_s (S : Int → Int) (L : Int) (x : Int → Int) {i : Int} (h : 0 ≤ i) : jp_lm S L x (i + 1).toNat = if S (5 * x i + x (jp_nx L i)) < jp_lm S L x i.toNat then S (5 * x i + x (jp_nx L i)) else jp_lm S L x i.toNat := by
  have e : (i + 1).toNat = i.toNat + 1 := by omega
  rw [e, jp_lm, Int.toNat_of_nonneg h]
theorem jp_ld_s (S : Int → Int) (L : Int) (x : Int → Int) (v : Int) {i : Int} (h : 0 ≤ i) : jp_ld S L x v (i + 1).toNat = jw_u1 (jp_ld S L x v i.toNat) (5 * x i + x (jp_nx L i)) (jp_ld S L x v i.toNat (5 * x i + x (jp_nx L i)) - v) := by
  have e : (i + 1).toNat = i.toNat + 1 := by omega
  rw [e, jp_ld, Int.toNat_of_nonneg h]
theorem jp_lm_c {S S' : Int → Int} {L : Int} {x y : Int → Int} (hd : jp_d5 L y) (hS : ∀ j : Int, 0 ≤ j → j < 25 → S j = S' j) (hx : ∀ j : Int, 0 ≤ j → j < L → x j = y j) : ∀ n : Nat, (n : Int) ≤ L → jp_lm S L x n = jp_lm S' L y n := by
  intro n
  induction n with
  | zero => intro _; rfl
  | succ n ih =>
    intro h
    have h1 := jp_nx_r (L := L) (k := n) (by omega)
    have h2 := hd n (by omega) (by omega)
    have h3 := hd _ h1.1 h1.2
    rw [jp_lm, jp_lm, ih (by omega), hx n (by omega) (by omega), hx _ h1.1 h1.2, hS _ (by omega) (by omega)]
theorem jp_ld_c {S S' : Int → Int} {L : Int} {x y : Int → Int} (v : Int) (hd : jp_d5 L y) (hS : ∀ j : Int, 0 ≤ j → j < 25 → S j = S' j) (hx : ∀ j : Int, 0 ≤ j → j < L → x j = y j) : ∀ n : Nat, (n : Int) ≤ L → ∀ j : Int, 0 ≤ j → j < 25 → jp_ld S L x v n j = jp_ld S' L y v n j := by
  intro n
  induction n with
  | zero => intro _; exact hS
  | succ n ih =>
    intro h j a b
    have h1 := jp_nx_r (L := L) (k := n) (by omega)
    have h2 := hd n (by omega) (by omega)
    have h3 := hd _ h1.1 h1.2
    rw [jp_ld, jp_ld, hx n (by omega) (by omega), hx _ h1.1 h1.2, jw_u1_a, jw_u1_a, ih (by omega) _ (by omega) (by omega), ih (by omega) j a b]
/-- each of a ring is lessened once -/
theorem jp_ld_v {S : Int → Int} {L : Int} {x : Int → Int} (v : Int) (hd : jp_d5 L x) (hv : ∀ k : Int, 0 ≤ k → k < L → ∀ j : Int, 0 ≤ j → j < k → x j ≠ x k) : ∀ n : Nat, (n : Int) ≤ L → (∀ k : Int, 0 ≤ k → k < (n : Int) → jp_ld S L x v n (5 * x k + x (jp_nx L k)) = S (5 * x k + x (jp_nx L k)) - v) ∧ (∀ j : Int, (∀ k : Int, 0 ≤ k → k < (n : Int) → j ≠ 5 * x k + x (jp_nx L k)) → jp_ld S L x v n j = S j) := by
  intro n
  induction n with
  | zero => intro _; exact ⟨fun k a b => by omega, fun j _ => rfl⟩
  | succ n ih =>
    intro h
    obtain ⟨i1, i2⟩ := ih (by omega)
    have hdis : ∀ k : Int, 0 ≤ k → k < (n : Int) → 5 * x k + x (jp_nx L k) ≠ 5 * x (n : Int) + x (jp_nx L (n : Int)) := by
      intro k a b e
      have h1 := jp_nx_r (L := L) (k := n) (by omega)
      have h2 := jp_nx_r (L := L) (k := k) (by omega)
      have h3 := hd _ h1.1 h1.2
      have h4 := hd _ h2.1 h2.2
      have h5 := hv n (by omega) (by omega) k a b
      omega
    refine ⟨fun k a b => ?_, fun j hj => ?_⟩
    · rw [jp_ld, jw_u1_a]
      by_cases e : k = (n : Int)
      · subst e
        rw [if_pos rfl, i2 _ (fun k a b e => hdis k a b e.symm)]
      · rw [if_neg (hdis k a (by omega))]
        exact i1 k a (by omega)
    · rw [jp_ld, jw_u1_n _ (hj n (by omega) (by omega))]
      exact i2 j (fun k a b => hj k a (by omega))
theorem jp_lm_r {S : Int → Int} {n L : Int} {x : Int → Int} (hS : jp_Sn S n) (hd : jp_d5 L x) (hv : jp_rv S L x) : ∀ m : Nat, (m : Int) ≤ L → (0 < jp_lm S L x m ∧ jp_lm S L x m ≤ 9999) ∧ (∀ k : Int, 0 ≤ k → k < (m : Int) → jp_lm S L x m ≤ S (5 * x k + x (jp_nx L k))) ∧ (m = 0 ∨ ∃ k : Int, 0 ≤ k ∧ k < (m : Int) ∧ jp_lm S L x m = S (5 * x k + x (jp_nx L k))) := by
  intro m
  induction m with
  | zero => intro _; exact ⟨by simp [jp_lm], fun k a b => by omega, Or.inl rfl⟩
  | succ m ih =>
    intro h
    obtain ⟨i1, i2, i3⟩ := ih (by omega)
    have h1 := jp_nx_r (L := L) (k := m) (by omega)
    have h2 := hd m (by omega) (by omega)
    have h3 := hd _ h1.1 h1.2
    have h4 := (hv m (by omega) (by omega)).2.2
    have h5 := hS.2 (x m) (x (jp_nx L m)) (by omega) (by omega) (by omega) (by omega)
    rw [jp_lm]
    by_cases e : S (5 * x (m : Int) + x (jp_nx L (m : Int))) < jp_lm S L x m
    · rw [if_pos e]
      refine ⟨by omega, fun k a b => ?_, Or.inr ⟨m, by omega, by omega, rfl⟩⟩
      by_cases z : k = (m : Int)
      · rw [z]; exact Int.le_refl _
      · have := i2 k a (by omega); omega
    · rw [if_neg e]
      refine ⟨i1, fun k a b => ?_, Or.inr ?_⟩
      · by_cases z : k = (m : Int)
        · rw [z]; omega
        · exact i2 k a (by omega)
      · rcases i3 with z | ⟨k, a, b, c⟩
        · subst z
          refine ⟨0, by omega, by omega, ?_⟩
          have e9 : jp_lm S L x 0 = 9999 := rfl
          have e0 : ((0 : Nat) : Int) = 0 := rfl
          rw [e0] at e h5
          rw [e9] at e ⊢
          omega
        · exact ⟨k, a, by omega, c⟩
/-- how many sums there are -/
def jp_cp (S : Int → Int) : Int := jp_sum (fun j => if 0 < S j then 1 else 0) 25
theorem jp_sum_lt {f g : Int → Int} : ∀ n : Nat, (∀ j : Int, 0 ≤ j → j < (n : Int) → f j ≤ g j) → jp_sum f n ≤ jp_sum g n ∧ ((∃ j : Int, 0 ≤ j ∧ j < (n : Int) ∧ f j < g j) → jp_sum f n < jp_sum g n) := by
  intro n
  induction n with
  | zero => intro _; exact ⟨Int.le_refl _, fun ⟨j, a, b, _⟩ => by omega⟩
  | succ n ih =>
    intro h
    obtain ⟨i1, i2⟩ := ih (fun j a b => h j a (by omega))
    have h1 := h n (by omega) (by omega)
    rw [jp_sum, jp_sum]
    refine ⟨by omega, fun ⟨j, a, b, c⟩ => ?_⟩
    by_cases e : j = (n : Int)
    · rw [e] at c; omega
    · have := i2 ⟨j, a, by omega, c⟩
      omega
theorem jp_ld_ok {S : Int → Int} {n L : Int} {x : Int → Int} (hS : jp_Sn S n) (hL : 2 ≤ L ∧ L ≤ 5) (hd : jp_d5 L x) (hv : jp_rv S L x) : jp_Sn (jp_ld S L x (jp_lm S L x L.toNat) L.toNat) n ∧ jp_cp (jp_ld S L x (jp_lm S L x L.toNat) L.toNat) < jp_cp S := by
  obtain ⟨m1, m2, m3⟩ := jp_lm_r hS hd hv L.toNat (by omega)
  obtain ⟨l1, l2⟩ := jp_ld_v (S := S) (jp_lm S L x L.toNat) hd (fun k a b => (hv k a b).1) L.toNat (by omega)
  have hcase : ∀ j : Int, (∃ k : Int, 0 ≤ k ∧ k < L ∧ j = 5 * x k + x (jp_nx L k)) ∨ (∀ k : Int, 0 ≤ k → k < ((L.toNat : Nat) : Int) → j ≠ 5 * x k + x (jp_nx L k)) := by
    intro j
    by_cases e : ∃ k : Int, 0 ≤ k ∧ k < L ∧ j = 5 * x k + x (jp_nx L k)
    · exact Or.inl e
    · exact Or.inr (fun k a b z => e ⟨k, a, by omega, z⟩)
  generalize jp_lm S L x L.toNat = v at m1 m2 m3 l1 l2 ⊢
  have hle : ∀ j : Int, jp_ld S L x v L.toNat j ≤ S j := by
    intro j
    rcases hcase j with ⟨k, a, b, c⟩ | c
    · rw [c, l1 k a (by omega)]; omega
    · rw [l2 j c]; exact Int.le_refl _
  refine ⟨⟨hS.1, fun a b a0 a1 b0 b1 => ?_⟩, ?_⟩
  · have h1 := hS.2 a b a0 a1 b0 b1
    have h2 := hle (5 * a + b)
    rcases hcase (5 * a + b) with ⟨k, p, q, c⟩ | c
    · have h3 := m2 k p (by omega)
      have h4 := (hv k p q).2.2
      rw [c, l1 k p (by omega)]
      rw [c] at h1
      refine ⟨by omega, by omega, fun z => ?_⟩
      have := h1.2.2 z
      omega
    · rw [l2 _ c]; exact h1
  · refine (jp_sum_lt 25 (fun j a b => ?_)).2 ?_
    · have := hle j
      show (if 0 < jp_ld S L x v L.toNat j then (1 : Int) else 0) ≤ (if 0 < S j then 1 else 0)
      split <;> split <;> omega
    · rcases m3 with z | ⟨k, p, q, c⟩
      · omega
      · have h1 := jp_nx_r (L := L) (k := k) (by omega)
        have h2 := hd k p (by omega)
        have h3 := hd _ h1.1 h1.2
        have h4 := (hv k p (by omega)).2.2
        refine ⟨5 * x k + x (jp_nx L k), by omega, by omega, ?_⟩
        show (if 0 < jp_ld S L x v L.toNat (5 * x k + x (jp_nx L k)) then (1 : Int) else 0) < (if 0 < S (5 * x k + x (jp_nx L k)) then 1 else 0)
        rw [l1 k p q, if_neg (by omega), if_pos h4]
        omega
theorem gX2_nextInRing (M : jw_M) (k L : Int) (hk : 0 ≤ k ∧ k < L ∧ L ≤ 5) : fX2_nextInRing (9 + 24) k L M = some (M 35 (jp_nx L k)) := by
  unfold fX2_nextInRing jp_nx
  rw [if_pos (by decide), jw_ws (x := k + 1) (by omega)]
  by_cases e : k + 1 < L
  · rw [if_pos e, if_pos e, if_pos (by omega)]
  · rw [if_neg e, if_neg e, if_pos (by decide)]
theorem bX2_nextInRing (M : jw_M) (k L : Int) (hk : 0 ≤ k ∧ k < L ∧ L ≤ 5) {be : Type} (kk : _ → Option be) : Option.bind (fX2_nextInRing (9 + 24) k L M) kk = kk ((M 35 (jp_nx L k))) := by rw [show fX2_nextInRing (9 + 24) k L M = some (M 35 (jp_nx L k)) from gX2_nextInRing M k L hk]; rfl
theorem gX2_lessen {n L : Int} (M : jw_M) (hS : jp_Sn (M 34) n) (hL : 2 ≤ L ∧ L ≤ 5) (hd : jp_d5 L (M 35)) (hv : jp_rv (M 34) L (M 35)) : fX2_lessen (9 + 24) L M = some (jw_pt M 34 (jp_ld (M 34) L (M 35) (jp_lm (M 34) L (M 35) L.toNat) L.toNat)) := by
  unfold fX2_lessen
  rw [if_pos (by decide), jp_bs, jp_bs]
  have e3 : ∀ j : Int, M (9 + 24 + 2) j = M 35 j := fun _ => rfl
  refine jp_up (fun k i a => fX2_lessen_6 (9 + 24) k L a i M) L (fun i a => 0 ≤ i ∧ a = jp_lm (M 34) L (M 35) i.toNat) (fun r => r = some (jw_pt M 34 (jp_ld (M 34) L (M 35) (jp_lm (M 34) L (M 35) L.toNat) L.toNat))) ?_ ?_ jw_fu 0 9999 (by unfold jw_fu; omega) (by omega) ⟨by omega, rfl⟩
  · intro k i a hp hi ih
    obtain ⟨h0, rfl⟩ := hp
    have h1 := jp_nx_r (L := L) (k := i) (by omega)
    have h2 := hd i h0 hi
    have h3 := hd _ h1.1 h1.2
    have es := jp_lm_s (M 34) L (M 35) h0
    show fX2_lessen_6 _ _ _ _ _ _ = _
    rw [fX2_lessen_6, if_pos hi, if_pos (by omega), gX2_nextInRing M i L (by omega), jp_bs, e3 i, gX2_sumOf _ _ _ (by omega), jp_bs, jp_bs, jp_bs, jw_ws (by omega), jp_min, ← es]
    exact ih _ ⟨by omega, rfl⟩
  · intro k a hp
    obtain ⟨h0, rfl⟩ := hp
    obtain ⟨m1, m2, m3⟩ := jp_lm_r hS hd hv L.toNat (by omega)
    show fX2_lessen_6 _ _ _ _ _ _ = _
    rw [fX2_lessen_6, if_neg (by omega), jp_bs]
    generalize jp_lm (M 34) L (M 35) L.toNat = v at m1 m2 m3 ⊢
    refine jp_up (fun k i N => fX2_lessen_40 (9 + 24) k L v i N) L (fun i N => 0 ≤ i ∧ N = jw_pt M 34 (jp_ld (M 34) L (M 35) v i.toNat)) (fun r => r = some (jw_pt M 34 (jp_ld (M 34) L (M 35) v L.toNat))) ?_ ?_ jw_fu 0 M (by unfold jw_fu; omega) (by omega) ⟨by omega, ?_⟩
    · intro k i N hp hi ih
      obtain ⟨h0, rfl⟩ := hp
      have h1 := jp_nx_r (L := L) (k := i) (by omega)
      have h2 := hd i h0 hi
      have h3 := hd _ h1.1 h1.2
      have es := jp_ld_s (M 34) L (M 35) v h0
      have l2 := (jp_ld_v (S := M 34) v hd (fun k a b => (hv k a b).1) i.toNat (by omega)).2 (5 * M 35 i + M 35 (jp_nx L i)) (fun k a b e => by
        have g1 := jp_nx_r (L := L) (k := k) (by omega)
        have g2 := hd _ g1.1 g1.2
        have g3 := (hv i (by omega) (by omega)).1 k a (by omega)
        omega)
      have h5 := hS.2 (M 35 i) (M 35 (jp_nx L i)) (by omega) (by omega) (by omega) (by omega)
      have x35 : ∀ g : Int → Int, jw_pt M 34 g 35 = M 35 := fun g => jw_pt_ne _ (by decide) _
      have y35 : ∀ (g : Int → Int) (j : Int), jw_pt M 34 g (9 + 24 + 2) j = M 35 j := fun g j => by rw [jw_pt_ne _ (by decide)]
      show fX2_lessen_40 _ _ _ _ _ _ = _
      rw [fX2_lessen_40, if_pos hi, if_pos (by omega), gX2_nextInRing _ i L (by omega), jp_bs, y35, x35, jw_ws (x := -v) (by omega), gX2_change _ _ _ _ (by omega) (by rw [jw_pt_eq, l2]; omega), jp_bs, jp_bs, jw_ws (by omega), jw_pt_eq, jw_pt_up]
      refine ih _ ⟨by omega, ?_⟩
      rw [es, Int.sub_eq_add_neg]
    · intro k N hp
      obtain ⟨h0, rfl⟩ := hp
      show fX2_lessen_40 _ _ _ _ _ _ = _
      rw [fX2_lessen_40, if_neg (by omega)]
    · show M = jw_pt M 34 (M 34)
      rw [jw_pt_id]
theorem bX2_lessen {n L : Int} (M : jw_M) (hS : jp_Sn (M 34) n) (hL : 2 ≤ L ∧ L ≤ 5) (hd : jp_d5 L (M 35)) (hv : jp_rv (M 34) L (M 35)) {be : Type} (kk : _ → Option be) : Option.bind (fX2_lessen (9 + 24) L M) kk = kk ((jw_pt M 34 (jp_ld (M 34) L (M 35) (jp_lm (M 34) L (M 35) L.toNat) L.toNat))) := by rw [show fX2_lessen (9 + 24) L M = some (jw_pt M 34 (jp_ld (M 34) L (M 35) (jp_lm (M 34) L (M 35) L.toNat) L.toNat)) from gX2_lessen M hS hL hd hv]; rfl
