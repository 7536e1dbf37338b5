/-! ways of escape: which corners part the two, by the class -/
theorem jp_bit_t (m : Nat) (c : Int) : jp_bit ((m : Nat) : Int) c = jp_01 (m.testBit c.toNat) := by
  have e : jp_bit ((m : Nat) : Int) c = ((m / 2 ^ c.toNat % 2 : Nat) : Int) := rfl
  rw [e, Nat.testBit_eq_decide_div_mod_eq]
  have h := Nat.mod_two_eq_zero_or_one (m / 2 ^ c.toNat)
  rcases h with h | h
  · rw [h]; rfl
  · rw [h]; rfl
theorem jp_01i {p q : Bool} (h : jp_01 p = jp_01 q) : p = q := by
  cases p <;> cases q <;> simp [jp_01] at h ⊢
theorem jp_sh2_o {x y z : Int} {A P X : Int → Bool} (hx : jp_sh2 x A) (hy : jp_sh2 y P) (hz : jp_sh2 z X) : jp_sh2 (jw_ior x (jw_iand y (jw_ixor z (-1)))) (fun c => A c || (P c && !X c)) := by
  obtain ⟨x0, hx⟩ := hx
  obtain ⟨y0, hy⟩ := hy
  obtain ⟨z0, hz⟩ := hz
  have h1 := jp_an_f ⟨y.toNat, by omega⟩ ⟨z.toNat, by omega⟩
  have h2 := jp_sub_f ⟨y.toNat, by omega⟩ ⟨z.toNat, by omega⟩
  simp only [Int.toNat_of_nonneg y0.1, Int.toNat_of_nonneg z0.1] at h1
  simp only at h2
  rw [h1, h2.1]
  have h3 := jp_or2_f ⟨x.toNat, by omega⟩ ⟨y.toNat &&& (127 - z.toNat), h2.2⟩
  simp only [Int.toNat_of_nonneg x0.1] at h3
  rw [h3]
  refine ⟨⟨by omega, ?_⟩, fun c a b => ?_⟩
  · have : x.toNat ||| (y.toNat &&& (127 - z.toNat)) < 2 ^ 7 := Nat.or_lt_two_pow (by omega) h2.2
    omega
  · rw [jp_bit_t, Nat.testBit_or, Nat.testBit_and]
    have ez : (127 - z.toNat).testBit c.toNat = !(z.toNat.testBit c.toNat) := by
      have := Nat.testBit_two_pow_sub_succ (x := z.toNat) (n := 7) (by omega) c.toNat
      rw [show 2 ^ 7 - (z.toNat + 1) = 127 - z.toNat by omega, decide_eq_true (by omega : c.toNat < 7), Bool.true_and] at this
      exact this
    have b1 : A c = x.toNat.testBit c.toNat := by
      have := hx c a b
      rw [← Int.toNat_of_nonneg x0.1, jp_bit_t] at this
      exact (jp_01i this).symm
    have b2 : P c = y.toNat.testBit c.toNat := by
      have := hy c a b
      rw [← Int.toNat_of_nonneg y0.1, jp_bit_t] at this
      exact (jp_01i this).symm
    have b3 : X c = z.toNat.testBit c.toNat := by
      have := hz c a b
      rw [← Int.toNat_of_nonneg z0.1, jp_bit_t] at this
      exact (jp_01i this).symm
    rw [ez, ← b1, ← b2, ← b3]
theorem jp_sh2_1 {x c : Int} {p : Int → Bool} (h : jp_sh2 x p) (hc : 0 ≤ c ∧ c < 7) : jw_iand (jw_ishr x c) 1 = 1 ↔ p c = true := by
  rw [jp_sb h.1 hc, h.2 c hc.1 hc.2]
  cases p c with
  | true => exact ⟨fun _ => rfl, fun _ => rfl⟩
  | false => exact ⟨fun z => (by cases z), fun z => (by cases z)⟩
/-- what lies beside -/
def jp_bsd (T : Int → Int) (a b : Int) (A : Int → Bool) (c dd d : Int) : Prop := 0 ≤ d ∧ d < T 0 ∧ ∃ c' : Int, 0 ≤ c' ∧ c' < T 0 ∧ (c' < c ∨ c' = c ∧ d < dd) ∧ A c' = true ∧ 0 < T (14 + 7 * c' + d) ∧ ¬ (c' = a ∧ d = b)
theorem gX9_beside_18 {M : jw_M} (hA : jp_A M) (a b x : Int) {A : Int → Bool} (hx : jp_sh2 x A) (r6 : Int → Int → Int → Int → Int → Option Int) (c : Int) (hc : 0 ≤ c ∧ c < M 131 0) (y0 : Int) (P0 : Int → Bool) (hy0 : jp_sh2 y0 P0) (hp0 : ∀ d : Int, P0 d = true ↔ jp_bsd (M 131) a b A c 0 d) : ∃ (y : Int) (P : Int → Bool), fX9_beside_18 (9 + 1) M r6 jw_fu a b x y0 c 0 = r6 a b x y (c + 1) ∧ jp_sh2 y P ∧ ∀ d : Int, P d = true ↔ jp_bsd (M 131) a b A (c + 1) 0 d := by
  obtain ⟨⟨r0, r2, r3, r4, r5⟩, -⟩ := jp_A_r hA
  obtain ⟨⟨c0, -⟩, -⟩ := jp_A_c hA
  have c0' : M (9 + 1) 0 = M 131 0 := c0
  refine jp_up (fun k d y => fX9_beside_18 (9 + 1) M r6 k a b x y c d) (M 131 0) (fun dd y => 0 ≤ dd ∧ ∃ P : Int → Bool, jp_sh2 y P ∧ ∀ d : Int, P d = true ↔ jp_bsd (M 131) a b A c dd d) (fun r => ∃ (y : Int) (P : Int → Bool), r = r6 a b x y (c + 1) ∧ jp_sh2 y P ∧ ∀ d : Int, P d = true ↔ jp_bsd (M 131) a b A (c + 1) 0 d) ?_ ?_ jw_fu 0 y0 (by unfold jw_fu; omega) (by omega) ⟨by omega, P0, hy0, hp0⟩
  · intro k dd y hp hd ih
    obtain ⟨d0, P, hy, hP⟩ := hp
    have est := gX9_streetTo hA c dd (by omega)
    have next : ∀ y' : Int, ∀ P' : Int → Bool, jp_sh2 y' P' → (∀ d : Int, P' d = true ↔ jp_bsd (M 131) a b A c (dd + 1) d) → ∃ (y : Int) (P : Int → Bool), fX9_beside_81 (9 + 1) M r6 (fX9_beside_18 (9 + 1) M r6 k) a b x y' c dd = r6 a b x y (c + 1) ∧ jp_sh2 y P ∧ ∀ d : Int, P d = true ↔ jp_bsd (M 131) a b A (c + 1) 0 d := by
      intro y' P' h1 h2
      unfold fX9_beside_81
      rw [jp_bs, jw_ws (by omega)]
      exact ih y' ⟨by omega, P', h1, h2⟩
    have same : ¬ (A c = true ∧ 0 < M 131 (14 + 7 * c + dd) ∧ ¬ (c = a ∧ dd = b)) → ∀ d : Int, P d = true ↔ jp_bsd (M 131) a b A c (dd + 1) d := by
      intro hz d
      rw [hP d]
      constructor
      · rintro ⟨p1, p2, c', q1, q2, q3, q4⟩
        exact ⟨p1, p2, c', q1, q2, by omega, q4⟩
      · rintro ⟨p1, p2, c', q1, q2, q3, q4, q5, q6⟩
        refine ⟨p1, p2, c', q1, q2, ?_, q4, q5, q6⟩
        rcases q3 with q3 | ⟨q3, q7⟩
        · exact Or.inl q3
        · by_cases z : d = dd
          · rw [q3, z] at q5 q6
            rw [q3] at q4
            exact absurd ⟨q4, q5, q6⟩ hz
          · exact Or.inr ⟨q3, by omega⟩
    have more : A c = true → 0 < M 131 (14 + 7 * c + dd) → ¬ (c = a ∧ dd = b) → ∀ d : Int, jp_j1 P dd d = true ↔ jp_bsd (M 131) a b A c (dd + 1) d := by
      intro z1 z2 z3 d
      by_cases e : d = dd
      · rw [e, jp_j1_s]
        exact ⟨fun _ => ⟨d0, hd, c, hc.1, hc.2, Or.inr ⟨rfl, by omega⟩, z1, z2, z3⟩, fun _ => rfl⟩
      · rw [jp_j1_n P e, hP d]
        constructor
        · rintro ⟨p1, p2, c', q1, q2, q3, q4⟩
          exact ⟨p1, p2, c', q1, q2, by omega, q4⟩
        · rintro ⟨p1, p2, c', q1, q2, q3, q4⟩
          exact ⟨p1, p2, c', q1, q2, by omega, q4⟩
    show ∃ (y' : Int) (P : Int → Bool), fX9_beside_18 (9 + 1) M r6 (k + 1) a b x y c dd = r6 a b x y' (c + 1) ∧ _
    rw [fX9_beside_18, c0', if_pos hd]
    have other : ¬ (c = a ∧ dd = b) → ∃ (y' : Int) (P : Int → Bool), fX9_beside_44 (9 + 1) M r6 (fX9_beside_18 (9 + 1) M r6 k) a b x y c dd 0 = r6 a b x y' (c + 1) ∧ jp_sh2 y' P ∧ ∀ d : Int, P d = true ↔ jp_bsd (M 131) a b A (c + 1) 0 d := by
      intro hz
      unfold fX9_beside_44
      rw [jp_bs]
      by_cases e1 : jw_iand (jw_ishr x c) 1 = 1
      · have hac := (jp_sh2_1 hx (by omega)).mp e1
        rw [if_pos e1, if_pos rfl, est, jp_bs]
        by_cases e2 : 0 < M 131 (14 + 7 * c + dd)
        · rw [if_pos e2, jp_bs]
          exact next _ _ (jp_sh2_j hy (by omega)) (more hac e2 hz)
        · rw [if_neg e2]
          exact next y P hy (same (fun w => e2 w.2.1))
      · rw [if_neg e1]
        exact next y P hy (same (fun w => e1 ((jp_sh2_1 hx (by omega)).mpr w.1)))
    unfold fX9_beside_43
    by_cases e1 : c = a
    · rw [if_pos e1]
      by_cases e2 : dd = b
      · rw [if_pos e2]
        unfold fX9_beside_44
        rw [jp_bs]
        have hs := same (fun w => w.2.2 ⟨e1, e2⟩)
        by_cases e3 : jw_iand (jw_ishr x c) 1 = 1
        · rw [if_pos e3, if_neg (by decide)]
          exact next y P hy hs
        · rw [if_neg e3]
          exact next y P hy hs
      · rw [if_neg e2]
        exact other (fun w => e2 w.2)
    · rw [if_neg e1]
      exact other (fun w => e1 w.1)
  · intro k y hp
    obtain ⟨d0, P, hy, hP⟩ := hp
    refine ⟨y, P, ?_, hy, fun d => ?_⟩
    · show fX9_beside_18 (9 + 1) M r6 (k + 1) a b x y c (M 131 0) = _
      rw [fX9_beside_18, c0', if_neg (by omega), jp_bs, jw_ws (by omega)]
    · rw [hP d]
      constructor
      · rintro ⟨p1, p2, c', q1, q2, q3, q4⟩
        exact ⟨p1, p2, c', q1, q2, by omega, q4⟩
      · rintro ⟨p1, p2, c', q1, q2, q3, q4⟩
        exact ⟨p1, p2, c', q1, q2, by omega, q4⟩
theorem gX9_beside {M : jw_M} (hA : jp_A M) (a b x : Int) {A : Int → Bool} (hx : jp_sh2 x A) : ∃ (y : Int) (P : Int → Bool), fX9_beside (9 + 1) a b x M = some y ∧ jp_sh2 y P ∧ ∀ d : Int, P d = true ↔ jp_bsd (M 131) a b A (M 131 0) 0 d := by
  obtain ⟨⟨r0, r2, r3, r4, r5⟩, -⟩ := jp_A_r hA
  obtain ⟨⟨c0, -⟩, -⟩ := jp_A_c hA
  have c0' : M (9 + 1) 0 = M 131 0 := c0
  unfold fX9_beside
  rw [if_pos (by decide), jp_bs, jp_bs]
  refine jp_up (fun k c y => fX9_beside_6 (9 + 1) M k a b x y c) (M 131 0) (fun c y => 0 ≤ c ∧ ∃ P : Int → Bool, jp_sh2 y P ∧ ∀ d : Int, P d = true ↔ jp_bsd (M 131) a b A c 0 d) (fun r => ∃ (y : Int) (P : Int → Bool), r = some y ∧ jp_sh2 y P ∧ ∀ d : Int, P d = true ↔ jp_bsd (M 131) a b A (M 131 0) 0 d) ?_ ?_ jw_fu 0 0 (by unfold jw_fu; omega) (by omega) ⟨by omega, fun _ => false, ⟨by decide, fun c a b => by show jp_bit 0 c = 0; unfold jp_bit; simp⟩, fun d => ⟨fun z => (by cases z), fun ⟨p1, p2, c', q1, q2, q3, q4⟩ => by omega⟩⟩
  · intro k c y hp hc ih
    obtain ⟨h0, P, hy, hP⟩ := hp
    obtain ⟨y', P', h1, h2, h3⟩ := gX9_beside_18 hA a b x hx (fX9_beside_6 (9 + 1) M k) c ⟨h0, hc⟩ y P hy hP
    show ∃ (y' : Int) (P : Int → Bool), fX9_beside_6 (9 + 1) M (k + 1) a b x y c = some y' ∧ _
    rw [fX9_beside_6, c0', if_pos hc, jp_bs, h1]
    exact ih y' ⟨by omega, P', h2, h3⟩
  · intro k y hp
    obtain ⟨h0, P, hy, hP⟩ := hp
    refine ⟨y, P, ?_, hy, hP⟩
    show fX9_beside_6 (9 + 1) M (k + 1) a b x y (M 131 0) = _
    rw [fX9_beside_6, c0', if_neg (by omega)]
theorem jp_cnt_n {A : Int → Bool} {n : Int} (h : ∀ c : Int, A c = true → 0 ≤ c ∧ c < n) (hn : 0 ≤ n ∧ n ≤ 7) : jp_sum (fun c => jp_01 (A c)) n.toNat ≤ n := by
  have := (jp_cnt_a (p := A) n.toNat).1
  omega
/-- all that is reached, and no more -/
theorem gX9_parts {M : jw_M} (hA : jp_A M) (a b z : Int) (ha : 0 ≤ a ∧ a < M 131 0) (hb : 0 ≤ b ∧ b < M 131 0) {X : Int → Bool} (hz : jp_sh2 z X) : ∃ A : Int → Bool, fX9_parts (9 + 1) a b z M = some (jp_01 (!A b)) ∧ A a = true ∧ jp_cls (M 131) a b X A ∧ ∀ W : Int → Bool, W a = true → jp_cls (M 131) a b X W → ∀ c : Int, A c = true → W c = true := by
  obtain ⟨⟨r0, r2, r3, r4, r5⟩, -⟩ := jp_A_r hA
  obtain ⟨⟨c0, -⟩, -⟩ := jp_A_c hA
  have c0' : M (9 + 1) 0 = M 131 0 := c0
  have hb0 : jw_ishl 1 a = jw_ior 0 (jw_ishl 1 a) := by
    have h := jp_or (x := 0) (c := a) (by omega) ⟨by omega, Int.pow_pos (by decide)⟩
    have h2 : jw_ishl 1 a = 2 ^ a.toNat := jp_sh (by omega)
    omega
  have s0 : jp_sh2 (jw_ishl 1 a) (jp_j1 (fun _ => false) a) := by
    rw [hb0]
    exact jp_sh2_j ⟨by decide, fun c a b => by show jp_bit 0 c = 0; unfold jp_bit; simp⟩ (by omega)
  unfold fX9_parts
  rw [if_pos (by decide), jp_bs, jp_bs]
  refine jp_up (fun k i x => fX9_parts_8 (9 + 1) M k a b z x i) (M 131 0) (fun i x => 0 ≤ i ∧ ∃ A : Int → Bool, jp_sh2 x A ∧ A a = true ∧ (∀ c : Int, A c = true → 0 ≤ c ∧ c < M 131 0) ∧ (jp_cls (M 131) a b X A ∨ i + 1 ≤ jp_sum (fun c => jp_01 (A c)) (M 131 0).toNat) ∧ ∀ W : Int → Bool, W a = true → jp_cls (M 131) a b X W → ∀ c : Int, A c = true → W c = true) (fun r => ∃ A : Int → Bool, r = some (jp_01 (!A b)) ∧ A a = true ∧ jp_cls (M 131) a b X A ∧ ∀ W : Int → Bool, W a = true → jp_cls (M 131) a b X W → ∀ c : Int, A c = true → W c = true) ?_ ?_ jw_fu 0 _ (by unfold jw_fu; omega) (by omega) ⟨by omega, _, s0, jp_j1_s _ _, fun c hc => ?_, Or.inr ?_, fun W w1 w2 c hc => ?_⟩
  · intro k i x hp hi ih
    obtain ⟨h0, A, hx, aa, an, hcl, hW⟩ := hp
    obtain ⟨y, P, y1, y2, y3⟩ := gX9_beside hA a b x hx
    show ∃ A : Int → Bool, fX9_parts_8 (9 + 1) M (k + 1) a b z x i = _ ∧ _
    rw [fX9_parts_8, c0', if_pos hi, y1, jp_bs, jp_bs, jp_bs, jw_ws (by omega)]
    refine ih _ ⟨by omega, _, jp_sh2_o hx y2 hz, ?_, fun c hc => ?_, ?_, fun W w1 w2 c hc => ?_⟩
    · show (A a || _) = true
      rw [aa, Bool.true_or]
    · have hc2 : (A c || (P c && !X c)) = true := hc
      rw [Bool.or_eq_true, Bool.and_eq_true] at hc2
      rcases hc2 with w | ⟨w, -⟩
      · exact an c w
      · obtain ⟨p1, p2, -⟩ := (y3 c).mp w
        exact ⟨p1, p2⟩
    · by_cases hclo : jp_cls (M 131) a b X A
      · refine Or.inl (fun c d p1 p2 q1 q2 hc hst hnd hxd => ?_)
        have hc2 : (A c || (P c && !X c)) = true := hc
        have hAc : A c = true := by
          rw [Bool.or_eq_true, Bool.and_eq_true] at hc2
          rcases hc2 with w | ⟨w, wx⟩
          · exact w
          · obtain ⟨-, -, c', u1, u2, -, u4, u5, u6⟩ := (y3 c).mp w
            refine hclo c' c u1 u2 p1 p2 u4 u5 u6 ?_
            cases hXc : X c with
            | false => rfl
            | true => rw [hXc] at wx; cases wx
        show (A d || _) = true
        rw [hclo c d p1 p2 q1 q2 hAc hst hnd hxd, Bool.true_or]
      · refine Or.inr ?_
        have hcnt : i + 1 ≤ jp_sum (fun c => jp_01 (A c)) (M 131 0).toNat := by
          rcases hcl with w | w
          · exact absurd w hclo
          · exact w
        have hex : ∃ c d : Int, 0 ≤ c ∧ c < M 131 0 ∧ 0 ≤ d ∧ d < M 131 0 ∧ A c = true ∧ 0 < M 131 (14 + 7 * c + d) ∧ ¬ (c = a ∧ d = b) ∧ X d = false ∧ A d = false := by
          by_cases w : ∃ c d : Int, 0 ≤ c ∧ c < M 131 0 ∧ 0 ≤ d ∧ d < M 131 0 ∧ A c = true ∧ 0 < M 131 (14 + 7 * c + d) ∧ ¬ (c = a ∧ d = b) ∧ X d = false ∧ A d = false
          · exact w
          · exfalso
            apply hclo
            intro c d p1 p2 q1 q2 hc hst hnd hxd
            cases hAd : A d with
            | true => rfl
            | false => exact absurd ⟨c, d, p1, p2, q1, q2, hc, hst, hnd, hxd, hAd⟩ w
        obtain ⟨c, d, p1, p2, q1, q2, u1, u2, u3, u4, u5⟩ := hex
        have hlt := (jp_sum_lt (f := fun c => jp_01 (A c)) (g := fun c => jp_01 (A c || (P c && !X c))) (M 131 0).toNat (fun j _ _ => by
          show jp_01 (A j) ≤ jp_01 (A j || (P j && !X j))
          cases hAj : A j with
          | true => rw [Bool.true_or]; exact Int.le_refl _
          | false => rw [Bool.false_or, jp_01f]; have := jp_01r (P j && !X j); omega)).2 ⟨d, q1, by omega, by
          show jp_01 (A d) < jp_01 (A d || (P d && !X d))
          have hPd : P d = true := (y3 d).mpr ⟨q1, q2, c, p1, p2, Or.inl p2, u1, u2, u3⟩
          rw [u5, hPd, u4, jp_01f]
          decide⟩
        show i + 1 + 1 ≤ jp_sum (fun c => jp_01 (A c || (P c && !X c))) (M 131 0).toNat
        omega
    · have hc2 : (A c || (P c && !X c)) = true := hc
      rw [Bool.or_eq_true, Bool.and_eq_true] at hc2
      rcases hc2 with w | ⟨w, wx⟩
      · exact hW W w1 w2 c w
      · obtain ⟨p1, p2, c', u1, u2, -, u4, u5, u6⟩ := (y3 c).mp w
        refine w2 c' c u1 u2 p1 p2 (hW W w1 w2 c' u4) u5 u6 ?_
        cases hXc : X c with
        | false => rfl
        | true => rw [hXc] at wx; cases wx
  · intro k x hp
    obtain ⟨h0, A, hx, aa, an, hcl, hW⟩ := hp
    refine ⟨A, ?_, aa, ?_, hW⟩
    · show fX9_parts_8 (9 + 1) M (k + 1) a b z x (M 131 0) = _
      rw [fX9_parts_8, c0', if_neg (by omega)]
      cases hAb : A b with
      | true => rw [if_neg (fun w => by rw [(jp_sh2_0 hx (by omega)).mp w] at hAb; cases hAb)]; rfl
      | false => rw [if_pos ((jp_sh2_0 hx (by omega)).mpr hAb)]; rfl
    · rcases hcl with w | w
      · exact w
      · have := jp_cnt_n an r0
        omega
  · by_cases e : c = a
    · rw [e]; exact ha
    · rw [jp_j1_n _ e] at hc; cases hc
  · have h1 := jp_cnt_j (p := fun _ => false) (c := a) ha.1 rfl (M 131 0).toNat (by omega)
    have h2 : jp_sum (fun d => jp_01 ((fun _ => false) d)) (M 131 0).toNat = 0 := jp_sum_0 _
    rw [h1, h2]
    omega
  · by_cases e : c = a
    · rw [e]; exact w1
    · rw [jp_j1_n _ e] at hc; cases hc
