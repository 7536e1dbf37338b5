/-! rings of debts: what a ring is; the class finds the first -/
def jp_nx (L k : Int) : Int := if k + 1 < L then k + 1 else 0
def jp_rk (S : Int → Int) (L : Int) (x : Int → Int) (k : Int) : Prop := (∀ j : Int, 0 ≤ j → j < k → x j ≠ x k) ∧ x 0 ≤ x k ∧ 0 < S (5 * x k + x (jp_nx L k))
def jp_rv (S : Int → Int) (L : Int) (x : Int → Int) : Prop := ∀ k : Int, 0 ≤ k → k < L → jp_rk S L x k
def jp_d5 (L : Int) (x : Int → Int) : Prop := ∀ j : Int, 0 ≤ j → j < L → 0 ≤ x j ∧ x j < 5
/-- sums of sellers that are there -/
def jp_Sn (S : Int → Int) (n : Int) : Prop := (0 ≤ n ∧ n ≤ 5) ∧ ∀ a b : Int, 0 ≤ a → a < 5 → 0 ≤ b → b < 5 → 0 ≤ S (5 * a + b) ∧ S (5 * a + b) ≤ 9999 ∧ (n ≤ a ∨ n ≤ b → S (5 * a + b) = 0)
/-- the beginning of a ring -/
def jp_rp0 (S : Int → Int) (n d : Int) (x : Int → Int) : Prop := (∀ k : Int, 0 ≤ k → k < d → 0 ≤ x k ∧ x k < n) ∧ (∀ k : Int, 0 ≤ k → k < d → (∀ j : Int, 0 ≤ j → j < k → x j ≠ x k) ∧ x 0 ≤ x k ∧ (k + 1 < d → 0 < S (5 * x k + x (k + 1))))
theorem gX2_isInRing (M : jw_M) (c d : Int) (hd : 0 ≤ d ∧ d ≤ 5) : ∃ v : Int, fX2_isInRing (9 + 24) c d M = some v ∧ ((v = 1 ∧ ∃ j : Int, 0 ≤ j ∧ j < d ∧ M 35 j = c) ∨ (v = 0 ∧ ∀ j : Int, 0 ≤ j → j < d → M 35 j ≠ c)) := by
  unfold fX2_isInRing
  rw [if_pos (by decide), jp_bs]
  refine jp_up (fun k i (_ : Unit) => fX2_isInRing_2 (9 + 24) M k c d i) d (fun i _ => 0 ≤ i ∧ ∀ j : Int, 0 ≤ j → j < i → M 35 j ≠ c) (fun y => ∃ v : Int, y = some v ∧ ((v = 1 ∧ ∃ j : Int, 0 ≤ j ∧ j < d ∧ M 35 j = c) ∨ (v = 0 ∧ ∀ j : Int, 0 ≤ j → j < d → M 35 j ≠ c))) ?_ ?_ jw_fu 0 () (by unfold jw_fu; omega) (by omega) ⟨by omega, fun j a b => by omega⟩
  · intro k i _ hp hi ih
    obtain ⟨h0, h1⟩ := hp
    show ∃ v : Int, fX2_isInRing_2 (9 + 24) M (k + 1) c d i = some v ∧ _
    have e35 : M (9 + 24 + 2) i = M 35 i := rfl
    rw [fX2_isInRing_2, if_pos hi, if_pos (by omega), e35]
    by_cases e : M 35 i = c
    · rw [if_pos e]
      exact ⟨1, rfl, Or.inl ⟨rfl, i, h0, hi, e⟩⟩
    · rw [if_neg e, jp_bs, jw_ws (by omega)]
      refine ih () ⟨by omega, fun j a b => ?_⟩
      by_cases z : j = i
      · rw [z]; exact e
      · exact h1 j a (by omega)
  · intro k _ hp
    refine ⟨0, ?_, Or.inr ⟨rfl, hp.2⟩⟩
    show fX2_isInRing_2 (9 + 24) M (k + 1) c d d = _
    rw [fX2_isInRing_2, if_neg (by omega)]
/-- only the ring from d on has changed -/
def jp_rf (d : Int) (M N : jw_M) : Prop := (∀ k : Nat, k ≠ 35 → N k = M k) ∧ (∀ j : Int, j < d → N 35 j = M 35 j)
theorem jp_rf_r (d : Int) (M : jw_M) : jp_rf d M M := ⟨fun _ _ => rfl, fun _ _ => rfl⟩
theorem jp_rf_t {d : Int} {M N L : jw_M} (h : jp_rf d M N) (h2 : jp_rf d N L) : jp_rf d M L := ⟨fun k hk => by rw [h2.1 k hk, h.1 k hk], fun j a => by rw [h2.2 j a, h.2 j a]⟩
theorem jp_rf_w {d e : Int} {M N : jw_M} (h : jp_rf e M N) (hd : d ≤ e) : jp_rf d M N := ⟨h.1, fun j a => h.2 j (by omega)⟩
/-- what a search from d on gives -/
def jp_cl (S : Int → Int) (L d : Int) (M : jw_M) (r : Option (Int × jw_M)) : Prop := ∃ (v : Int) (N : jw_M), r = some (v, N) ∧ jp_rf d M N ∧ ((v = 1 ∧ jp_d5 L (N 35) ∧ jp_rv S L (N 35) ∧ ∀ y : Int → Int, jp_d5 L y → jp_rv S L y → (∀ j : Int, 0 ≤ j → j < d → y j = M 35 j) → (∀ j : Int, 0 ≤ j → j < L → N 35 j = y j) ∨ ∃ k : Int, d ≤ k ∧ k < L ∧ (∀ j : Int, 0 ≤ j → j < k → N 35 j = y j) ∧ N 35 k < y k) ∨ (v = 0 ∧ ∀ y : Int → Int, jp_d5 L y → (∀ j : Int, 0 ≤ j → j < d → y j = M 35 j) → ¬ jp_rv S L y))
theorem gX2_closes {n L : Int} (hL : 2 ≤ L ∧ L ≤ 5) : ∀ (q : Nat) (d : Int) (k : Nat) (M : jw_M), L - d = (q : Int) → 1 ≤ d → q < k → jp_Sn (M 34) n → jp_rp0 (M 34) n d (M 35) → jp_cl (M 34) L d M (fX2_closes k (9 + 24) n L d M) := by
  intro q
  induction q with
  | zero =>
    intro d k M hq h1 hk hS hP
    obtain ⟨k, rfl⟩ : ∃ j, k = j + 1 := ⟨k - 1, by omega⟩
    have ed : d = L := by omega
    subst ed
    obtain ⟨hn, hs⟩ := hS
    obtain ⟨p1, p2⟩ := hP
    have a1 := p1 (d - 1) (by omega) (by omega)
    have a0 := p1 0 (by omega) (by omega)
    have e2 : ∀ j : Int, M (9 + 24 + 2) j = M 35 j := fun _ => rfl
    rw [fX2_closes]
    unfold bX2_closes
    rw [if_pos (by decide), if_neg (by omega), if_neg (by omega), if_neg (by omega), jw_ws (x := d - 1) (by omega), if_pos (by omega), jp_bs, if_pos rfl, if_pos (by decide), e2 (d - 1), e2 0, gX2_sumOf _ _ _ (by omega), jp_bs]
    have en : jp_nx d (d - 1) = 0 := by unfold jp_nx; rw [if_neg (by omega)]
    by_cases e : 0 < M 34 (5 * M 35 (d - 1) + M 35 0)
    · rw [if_pos e]
      refine ⟨1, M, rfl, jp_rf_r _ _, Or.inl ⟨rfl, fun j a b => by have := p1 j a b; omega, fun k a b => ?_, fun y _ _ hy => Or.inl (fun j a b => (hy j a b).symm)⟩⟩
      obtain ⟨q1, q2, q3⟩ := p2 k a b
      refine ⟨q1, q2, ?_⟩
      by_cases z : k + 1 < d
      · unfold jp_nx
        rw [if_pos z]
        exact q3 z
      · have ek : k = d - 1 := by omega
        rw [ek, en]
        exact e
    · rw [if_neg e]
      refine ⟨0, M, rfl, jp_rf_r _ _, Or.inr ⟨rfl, fun y _ hy hv => ?_⟩⟩
      have := (hv (d - 1) (by omega) (by omega)).2.2
      rw [en, hy (d - 1) (by omega) (by omega), hy 0 (by omega) (by omega)] at this
      exact e this
  | succ q ih =>
    intro d k M hq h1 hk hS hP
    obtain ⟨k, rfl⟩ : ∃ j, k = j + 1 := ⟨k - 1, by omega⟩
    obtain ⟨hn, hs⟩ := id hS
    obtain ⟨p1, p2⟩ := id hP
    have a1 := p1 (d - 1) (by omega) (by omega)
    have a0 := p1 0 (by omega) (by omega)
    have e2 : ∀ j : Int, M (9 + 24 + 2) j = M 35 j := fun _ => rfl
    rw [fX2_closes]
    unfold bX2_closes
    rw [if_pos (by decide), if_neg (by omega), if_neg (by omega), if_neg (by omega), jw_ws (x := d - 1) (by omega), if_pos (by omega), jp_bs, if_neg (by omega), if_pos (by decide), jp_bs, e2 (d - 1), e2 0, jw_ws (x := M 35 0 + 1) (by omega)]
    refine jp_up (fun k' c N => fX2_closes_63 (9 + 24) (fX2_closes k) k' n L d (M 35 (d - 1)) c N) n (fun c N => M 35 0 + 1 ≤ c ∧ jp_rf d M N ∧ ∀ y : Int → Int, jp_d5 L y → (∀ j : Int, 0 ≤ j → j < d → y j = M 35 j) → y d < c → ¬ jp_rv (M 34) L y) (fun r => jp_cl (M 34) L d M r) ?_ ?_ jw_fu (M 35 0 + 1) M (by unfold jw_fu; omega) (by omega) ⟨by omega, jp_rf_r _ _, fun y hd hy hc hv => ?_⟩
    · intro k' c N hp hc ihl
      obtain ⟨c0, hf, hno⟩ := hp
      have n34 : N 34 = M 34 := hf.1 _ (by decide)
      have go : (∀ y : Int → Int, jp_d5 L y → (∀ j : Int, 0 ≤ j → j < d → y j = M 35 j) → y d = c → ¬ jp_rv (M 34) L y) → ∀ N' : jw_M, jp_rf d M N' → jp_cl (M 34) L d M (fX2_closes_63 (9 + 24) (fX2_closes k) k' n L d (M 35 (d - 1)) (c + 1) N') := by
        intro hno2 N' hf'
        refine ihl N' ⟨by omega, hf', fun y hd hy hyc => ?_⟩
        by_cases z : y d = c
        · exact hno2 y hd hy z
        · exact hno y hd hy (by omega)
      show jp_cl (M 34) L d M (fX2_closes_63 (9 + 24) (fX2_closes k) (k' + 1) n L d (M 35 (d - 1)) c N)
      rw [fX2_closes_63, if_pos hc, gX2_sumOf _ _ _ (by omega), jp_bs, n34]
      unfold fX2_closes_112
      by_cases e : 0 < M 34 (5 * M 35 (d - 1) + c)
      · rw [if_pos e]
        obtain ⟨v, v1, v2⟩ := gX2_isInRing N c d (by omega)
        rw [v1, jp_bs]
        rcases v2 with ⟨rfl, j, j0, j1, je⟩ | ⟨rfl, hnew⟩
        · rw [if_neg (by decide), jp_bs, jw_ws (by omega)]
          refine go (fun y hd hy hyc hv => ?_) N hf
          have := (hv d (by omega) (by omega)).1 j j0 j1
          rw [hy j j0 j1, hyc, ← hf.2 j j1] at this
          exact this je
        · rw [if_pos rfl, if_pos (by omega), jp_bs, jw_ws (x := d + 1) (by omega)]
          have e3 : (9 + 24 + 2 : Nat) = 35 := rfl
          rw [e3]
          have u35 : ∀ j : Int, j < d → jw_up N 35 d c 35 j = M 35 j := fun j hj => by rw [jw_up_eq, jw_u1_n _ (by omega)]; exact hf.2 j hj
          have ud : jw_up N 35 d c 35 d = c := by rw [jw_up_eq, jw_u1_s]
          have u34 : jw_up N 35 d c 34 = M 34 := by rw [jw_up_ne _ (by decide)]; exact n34
          have hfu : jp_rf d M (jw_up N 35 d c) := ⟨fun k hk => by rw [jw_up_ne _ hk]; exact hf.1 k hk, u35⟩
          have hrec := ih (d + 1) k (jw_up N 35 d c) (by omega) (by omega) (by omega) (by rw [u34]; exact hS) (by
            rw [u34]
            refine ⟨fun j a b => ?_, fun j a b => ?_⟩
            · by_cases z : j = d
              · rw [z, ud]; omega
              · rw [u35 j (by omega)]; exact p1 j a (by omega)
            · by_cases z : j = d
              · rw [z, ud]
                refine ⟨fun i i0 i1 => ?_, ?_, fun z => by omega⟩
                · rw [u35 i i1, ← hf.2 i i1]; exact hnew i i0 i1
                · rw [u35 0 (by omega)]; omega
              · obtain ⟨q1, q2, q3⟩ := p2 j a (by omega)
                rw [u35 j (by omega)]
                refine ⟨fun i i0 i1 => ?_, ?_, fun z2 => ?_⟩
                · rw [u35 i (by omega)]; exact q1 i i0 i1
                · rw [u35 0 (by omega)]; exact q2
                · by_cases z3 : j + 1 = d
                  · rw [z3, ud, show j = d - 1 by omega]; exact e
                  · rw [u35 (j + 1) (by omega)]; exact q3 (by omega))
          rw [u34] at hrec
          obtain ⟨v, N', r1, r2, r3⟩ := hrec
          rw [r1, jp_b2s]
          have hf' : jp_rf d M N' := jp_rf_t hfu (jp_rf_w r2 (by omega))
          rcases r3 with ⟨rfl, r4, r5, r6⟩ | ⟨rfl, r4⟩
          · rw [if_neg (by decide)]
            refine ⟨1, N', rfl, hf', Or.inl ⟨rfl, r4, r5, fun y hd hv hy => ?_⟩⟩
            have nd : N' 35 d = c := by rw [r2.2 d (by omega), ud]
            have npre : ∀ j : Int, 0 ≤ j → j < d → N' 35 j = y j := fun j a b => by rw [hf'.2 j b, hy j a b]
            by_cases z : y d = c
            · rcases r6 y hd hv (fun j a b => by
                by_cases z2 : j = d
                · rw [z2, ud, z]
                · rw [u35 j (by omega)]; exact hy j a (by omega)) with w | ⟨kk, w1, w2, w3, w4⟩
              · exact Or.inl w
              · exact Or.inr ⟨kk, by omega, w2, w3, w4⟩
            · have : ¬ y d < c := fun z2 => hno y hd hy z2 hv
              exact Or.inr ⟨d, by omega, by omega, npre, by rw [nd]; omega⟩
          · rw [if_pos rfl, jp_bs, jw_ws (by omega)]
            refine go (fun y hd hy hyc => r4 y hd (fun j a b => ?_)) N' hf'
            by_cases z2 : j = d
            · rw [z2, ud, hyc]
            · rw [u35 j (by omega)]; exact hy j a (by omega)
      · rw [if_neg e, jp_bs, jw_ws (by omega)]
        refine go (fun y hd hy hyc hv => ?_) N hf
        have := (hv (d - 1) (by omega) (by omega)).2.2
        unfold jp_nx at this
        rw [if_pos (by omega), show d - 1 + 1 = d by omega, hy (d - 1) (by omega) (by omega), hyc] at this
        exact e this
    · intro k' N hp
      obtain ⟨c0, hf, hno⟩ := hp
      show jp_cl (M 34) L d M (fX2_closes_63 (9 + 24) (fX2_closes k) (k' + 1) n L d (M 35 (d - 1)) n N)
      rw [fX2_closes_63, if_neg (by omega)]
      refine ⟨0, N, rfl, hf, Or.inr ⟨rfl, fun y hd hy hv => ?_⟩⟩
      by_cases z : y d < n
      · exact hno y hd hy z hv
      · have h3 := (hv (d - 1) (by omega) (by omega)).2.2
        have h4 := hd d (by omega) (by omega)
        have h5 := hd (d - 1) (by omega) (by omega)
        unfold jp_nx at h3
        rw [if_pos (by omega), show d - 1 + 1 = d by omega] at h3
        have := (hs (y (d - 1)) (y d) (by omega) (by omega) (by omega) (by omega)).2.2 (Or.inr (by omega))
        omega
    · have h3 := hv d (by omega) (by omega)
      have h4 := h3.1 0 (by omega) (by omega)
      have h5 := h3.2.1
      have h6 := hy 0 (by omega) (by omega)
      omega
