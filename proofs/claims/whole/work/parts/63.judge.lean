/-! raids: who is warned, who is caught, what is spared -/
def jp_wa (T C V : Int → Int) (p o : Int) : Nat → Int
  | 0 => 1000000
  | n + 1 => if (n : Int) ≠ o ∧ C (V (n : Int)) + jp_hk T (V (n : Int)) p < jp_wa T C V p o n then C (V (n : Int)) + jp_hk T (V (n : Int)) p else jp_wa T C V p o n
theorem jp_wa_s (T C V : Int → Int) (p o : Int) {i : Int} (h : 0 ≤ i) : jp_wa T C V p o (i + 1).toNat = if i ≠ o ∧ C (V i) + jp_hk T (V i) p < jp_wa T C V p o i.toNat then C (V i) + jp_hk T (V i) p else jp_wa T C V p o i.toNat := by
  have e : (i + 1).toNat = i.toNat + 1 := by omega
  rw [e, jp_wa, Int.toNat_of_nonneg h]
def jp_oc (m w f : Int) : Int := if m < 1000000 ∧ (1000000 ≤ w ∨ m < w + f) then 2 else if w < 1000000 then 1 else 0
theorem jp_oc_r (m w f : Int) : 0 ≤ jp_oc m w f ∧ jp_oc m w f ≤ 2 := by
  unfold jp_oc
  split
  · omega
  · split <;> omega
def jp_ls (T : Int → Int) (s : Int) : Int := T (64 + 3 * T (90 + s)) + T (65 + 3 * T (90 + s))
def jp_wd (T C V P : Int → Int) (s : Int) : Int := jp_wa T C V (P s) (-1) (T 4).toNat
def jp_o (T C V P : Int → Int) (s : Int) : Int := jp_oc (C (P s)) (jp_wd T C V P s) (T (63 + 3 * T (90 + s)))
def jp_sp (T C V P : Int → Int) (w s : Int) : Int := (if jp_oc (C (P s)) (jp_wa T C V (P s) w (T 4).toNat) (T (63 + 3 * T (90 + s))) = 2 then jp_ls T s else 0) - (if jp_o T C V P s = 2 then jp_ls T s else 0)
theorem jp_wa_r {T C V : Int → Int} {p o : Int} (hT : jp_T T) (h0 : 1 ≤ T 0) (hC : jp_cok C) (hV : ∀ w : Int, 0 ≤ w → w < T 4 → 0 ≤ V w ∧ V w < T 0) (hp : 0 ≤ p ∧ p < T 0) : ∀ n : Nat, (n : Int) ≤ T 4 → 0 ≤ jp_wa T C V p o n ∧ jp_wa T C V p o n ≤ 1000000 := by
  intro n
  induction n with
  | zero => intro _; simp [jp_wa]
  | succ n ih =>
    intro hn
    have h1 := ih (by omega)
    have t0 := hT.1.1
    have h2 := hV n (by omega) (by omega)
    have h3 := hC (V n) (by omega) (by omega)
    have h4 := jp_hk_r hT h0 (a := V n) (b := p) (by omega) (by omega) (by omega) (by omega)
    rw [jp_wa]
    split <;> omega
theorem jp_wa_e {T C C' V V' : Int → Int} {p : Int} (h0 : T 0 ≤ 7) (hC : ∀ c : Int, 0 ≤ c → c < 7 → C' c = C c) (hV : ∀ w : Int, 0 ≤ w → w < T 4 → V' w = V w ∧ 0 ≤ V w ∧ V w < T 0) {o o' : Int} (ho : ∀ w : Int, 0 ≤ w → w < T 4 → (w ≠ o' ↔ w ≠ o)) : ∀ n : Nat, (n : Int) ≤ T 4 → jp_wa T C' V' p o' n = jp_wa T C V p o n := by
  intro n
  induction n with
  | zero => intro _; rfl
  | succ n ih =>
    intro hn
    have h1 := hV n (by omega) (by omega)
    have h2 := ho n (by omega) (by omega)
    rw [jp_wa, jp_wa, ih (by omega), h1.1, hC _ (by omega) (by omega)]
    exact jp_ifc (by rw [h2])
theorem jp_ls_r {T : Int → Int} (hT : jp_T T) {s : Int} (hs : 0 ≤ s ∧ s < T 3) : 1 ≤ jp_ls T s ∧ jp_ls T s ≤ 198 := by
  obtain ⟨e2, e3⟩ := hT.2.2.2.2.2.2 s hs.1 hs.2
  have e4 := hT.2.2.2.2.1 _ e2 e3
  unfold jp_ls
  omega
theorem jp_sp_r {T C V P : Int → Int} (hT : jp_T T) {s : Int} (hs : 0 ≤ s ∧ s < T 3) (w : Int) : -198 ≤ jp_sp T C V P w s ∧ jp_sp T C V P w s ≤ 198 := by
  have := jp_ls_r hT hs
  unfold jp_sp
  split <;> split <;> omega
/-- the class's picture and the model's are one -/
theorem jp_rd_eq {T C C' V V' P P' : Int → Int} (h0 : T 0 ≤ 7) (h4 : 0 ≤ T 4) (hC : ∀ c : Int, 0 ≤ c → c < 7 → C' c = C c) (hV : ∀ w : Int, 0 ≤ w → w < T 4 → V' w = V w ∧ 0 ≤ V w ∧ V w < T 0) {s : Int} (hP : P' s = P s ∧ 0 ≤ P s ∧ P s < T 0) : jp_wd T C' V' P' s = jp_wd T C V P s ∧ C' (P' s) = C (P s) ∧ jp_o T C' V' P' s = jp_o T C V P s ∧ (∀ w : Int, jp_sp T C' V' P' w s = jp_sp T C V P w s) := by
  have e1 : jp_wd T C' V' P' s = jp_wd T C V P s := by
    unfold jp_wd
    rw [hP.1]
    exact jp_wa_e h0 hC hV (fun w _ _ => Iff.rfl) _ (by omega)
  have e2 : C' (P' s) = C (P s) := by rw [hP.1, hC _ (by omega) (by omega)]
  have e3 : jp_o T C' V' P' s = jp_o T C V P s := by unfold jp_o; rw [e1, e2]
  refine ⟨e1, e2, e3, fun w => ?_⟩
  unfold jp_sp
  rw [e2, e3, hP.1, jp_wa_e h0 hC hV (fun w _ _ => Iff.rfl) _ (by omega)]
/-- what a raid needs of the class's memory, what of the model's -/
def jp_Xc (M : jw_M) : Prop := jp_A M ∧ 1 ≤ M 131 0 ∧ jp_cok (M 25) ∧ (∀ s : Int, 0 ≤ s → s < M 131 3 → 0 ≤ M 22 s ∧ M 22 s < M 131 0) ∧ (∀ w : Int, 0 ≤ w → w < M 131 4 → 0 ≤ M 23 w ∧ M 23 w < M 131 0)
def jp_Xm (M : jw_M) : Prop := jp_A M ∧ 1 ≤ M 131 0 ∧ jp_cok (M 137) ∧ (∀ s : Int, 0 ≤ s → s < M 131 3 → 0 ≤ M 133 s ∧ M 133 s < M 131 0) ∧ (∀ w : Int, 0 ≤ w → w < M 131 4 → 0 ≤ M 133 (5 + w) ∧ M 133 (5 + w) < M 131 0)
theorem jp_Xc_fr {M M' : jw_M} (h : jp_Xc M) (h1 : ∀ k : Nat, 10 ≤ k → k ≤ 25 → M' k = M k) (h2 : M' 131 = M 131) (h3 : M' 135 = M 135) (h4 : M' 136 = M 136) : jp_Xc M' := by
  obtain ⟨a, b, c, d, e⟩ := h
  refine ⟨jp_A_fr a (fun k p q => h1 k p (by omega)) h2 h3 h4, ?_⟩
  rw [h2, h1 25 (by omega) (by omega), h1 22 (by omega) (by omega), h1 23 (by omega) (by omega)]
  exact ⟨b, c, d, e⟩
theorem jp_Xm_fr {M M' : jw_M} (h : jp_Xm M) (h1 : ∀ k : Nat, k ≠ 133 → M' k = M k) (h2 : ∀ j : Int, 0 ≤ j → j < 9 → M' 133 j = M 133 j) : jp_Xm M' := by
  obtain ⟨a, b, c, d, e⟩ := h
  have r := (jp_A_r a).1
  have e131 := h1 131 (by decide)
  refine ⟨jp_A_fr a (fun k p q => h1 k (by omega)) e131 (h1 _ (by decide)) (h1 _ (by decide)), ?_⟩
  rw [e131, h1 137 (by decide)]
  exact ⟨b, c, fun s p q => by rw [h2 s p (by omega)]; exact d s p q, fun w p q => by rw [h2 (5 + w) (by omega) (by omega)]; exact e w p q⟩
theorem jp_min (a b : Int) : jw_min a b = if b < a then b else a := rfl
theorem gX3_warning {M : jw_M} (h : jp_Xc M) (s o : Int) (hs : 0 ≤ s ∧ s < M 131 3) : fX3_warning (9 + 15) (9 + 1) (9 + 8) s o M = some (jp_wa (M 131) (M 25) (M 23) (M 22 s) o (M 131 4).toNat) := by
  obtain ⟨hA, h1, hC, hP, hV⟩ := h
  obtain ⟨⟨c0, c5, c8, -⟩, -, g4, g7⟩ := jp_A_c hA
  obtain ⟨⟨r0, r2, r3, r4, r5⟩, -⟩ := jp_A_r hA
  have g7' : M (9 + 8) 7 = M 131 4 := g7
  have hp := hP s hs.1 hs.2
  unfold fX3_warning
  rw [if_pos (by decide), if_pos (by decide), if_pos (by decide), jp_bs, jp_bs]
  refine jp_up (fun k i a => fX3_warning_7 (9 + 15) (9 + 1) (9 + 8) M k s o a i) (M 131 4) (fun i a => 0 ≤ i ∧ a = jp_wa (M 131) (M 25) (M 23) (M 22 s) o i.toNat) (fun x => x = some (jp_wa (M 131) (M 25) (M 23) (M 22 s) o (M 131 4).toNat)) ?_ ?_ jw_fu 0 1000000 (by unfold jw_fu; omega) (by omega) ⟨by omega, rfl⟩
  · intro k i a hp2 hi ih
    obtain ⟨h0, rfl⟩ := hp2
    have hv := hV i h0 hi
    have hc := hC (M 23 i) (by omega) (by omega)
    have hh := jp_hk_r hA.1 h1 (a := M 23 i) (b := M 22 s) (by omega) (by omega) (by omega) (by omega)
    have es := jp_wa_s (M 131) (M 25) (M 23) (M 22 s) o h0
    have eh : fX9_hearingTo (9 + 1) (M 23 i) (M 22 s) M = some (jp_hk (M 131) (M 23 i) (M 22 s)) := gX9_hearingTo hA _ _ (by omega)
    show fX3_warning_7 _ _ _ _ _ _ _ _ _ = _
    rw [fX3_warning_7, g7', if_pos hi]
    unfold fX3_warning_63
    by_cases ho : i = o
    · rw [if_neg (fun z => z.1 ho)] at es
      rw [if_pos ho, jp_bs, jw_ws (by omega)]
      exact ih _ ⟨by omega, es.symm⟩
    · have e6 : M (9 + 8 + 6) i = M 23 i := rfl
      have e5 : M (9 + 8 + 5) s = M 22 s := rfl
      have e1 : M (9 + 15 + 1) (M 23 i) = M 25 (M 23 i) := rfl
      rw [if_neg ho, if_pos (by omega), jp_bs, e6, if_pos (by omega), if_pos (by omega), e5, eh, jp_bs, jp_bs, jp_bs, jp_bs, e1, jw_ws (by omega), jw_ws (by omega), jp_min]
      refine ih _ ⟨by omega, ?_⟩
      rw [es]
      exact jp_ifc ⟨fun z => ⟨ho, z⟩, fun z => z.2⟩
  · intro k a hp2
    obtain ⟨h0, rfl⟩ := hp2
    show fX3_warning_7 _ _ _ _ _ _ _ _ _ = _
    rw [fX3_warning_7, g7', if_neg (by omega)]
theorem bX3_warning {M : jw_M} (h : jp_Xc M) (s o : Int) (hs : 0 ≤ s ∧ s < M 131 3) {be : Type} (kk : _ → Option be) : Option.bind (fX3_warning (9 + 15) (9 + 1) (9 + 8) s o M) kk = kk ((jp_wa (M 131) (M 25) (M 23) (M 22 s) o (M 131 4).toNat)) := by rw [show fX3_warning (9 + 15) (9 + 1) (9 + 8) s o M = some (jp_wa (M 131) (M 25) (M 23) (M 22 s) o (M 131 4).toNat) from gX3_warning h s o hs]; rfl
theorem gX12_warnedOf {M : jw_M} (h : jp_Xm M) (s o : Int) (hs : 0 ≤ s ∧ s < M 131 3) : fX12_warnedOf s o M = some (jp_wa (M 131) (M 137) (fun w => M 133 (5 + w)) (M 133 s) o (M 131 4).toNat) := by
  obtain ⟨hA, h1, hC, hP, hV⟩ := h
  obtain ⟨⟨r0, r2, r3, r4, r5⟩, -⟩ := jp_A_r hA
  have hp := hP s hs.1 hs.2
  unfold fX12_warnedOf
  simp (disch := omega) only [↓jp_bs, ↓jp_b2s, ↓reduceIte, jw_up_a, Nat.reduceEqDiff, Int.reduceEq, Int.reduceLT, Int.reduceLE, Int.reduceAdd, Int.reduceSub, Int.reduceMul, Int.reduceNeg, jp_n9_1, jp_n9_8, jp_n9_15, jp_n9_21, jp_n9_24, jp_n10_1, jp_n10_2, jp_n10_3, jp_n10_4, jp_n10_5, jp_n10_6, jp_n17_1, jp_n17_2, jp_n17_3, jp_n17_4, jp_n17_5, jp_n17_6, jp_n24_1, jp_n24_2, jp_n24_3, jp_n24_4, jp_n24_5, jp_n30_1, jp_n30_2, jp_n33_1, jp_n33_2, false_and, true_and, and_true, and_false, and_self, ne_eq, not_true_eq_false, not_false_eq_true, jw_ws, jw_vs, jw_cmp_lt, jw_cmp_gt, jw_cmp_eq, jp_t1, jp_t2, jp_t3, jp_t4, jp_t5, jp_t6]
  refine jp_up (fun k i a => fX12_warnedOf_6 M k s o a i) (M 131 4) (fun i a => 0 ≤ i ∧ a = jp_wa (M 131) (M 137) (fun w => M 133 (5 + w)) (M 133 s) o i.toNat) (fun x => x = some (jp_wa (M 131) (M 137) (fun w => M 133 (5 + w)) (M 133 s) o (M 131 4).toNat)) ?_ ?_ jw_fu 0 1000000 (by unfold jw_fu; omega) (by omega) ⟨by omega, rfl⟩
  · intro k i a hp2 hi ih
    obtain ⟨h0, rfl⟩ := hp2
    have hv := hV i h0 hi
    have hc := hC (M 133 (5 + i)) (by omega) (by omega)
    have hh := jp_hk_r hA.1 h1 (a := M 133 (5 + i)) (b := M 133 s) (by omega) (by omega) (by omega) (by omega)
    have es := jp_wa_s (M 131) (M 137) (fun w => M 133 (5 + w)) (M 133 s) o h0
    have eh := (hA.2.2.2.2.2.2.2.2.2 (M 133 (5 + i)) (M 133 s) hv.1 hv.2 hp.1 hp.2).2
    show fX12_warnedOf_6 _ _ _ _ _ _ = _
    rw [fX12_warnedOf_6]
    unfold fX12_warnedOf_74 fX12_warnedOf_75
    by_cases ho : i = o
    · rw [if_neg (fun z => z.1 ho)] at es
      have ho2 : (i = o) = True := eq_true ho
      simp (disch := omega) only [↓jp_bs, ↓reduceIte, jw_ws, Int.zero_add, jp_t1, jp_t3, true_and, Int.reduceLE, Int.reduceLT, and_self, hi, eh, ho2]
      exact ih _ ⟨by omega, es.symm⟩
    · by_cases h5 : M 137 (M 133 (5 + i)) + jp_hk (M 131) (M 133 (5 + i)) (M 133 s) < jp_wa (M 131) (M 137) (fun w => M 133 (5 + w)) (M 133 s) o i.toNat
      · rw [if_pos ⟨ho, h5⟩] at es
        simp (disch := omega) only [↓jp_bs, ↓jp_b2s, ↓reduceIte, jw_up_a, Nat.reduceEqDiff, Int.reduceEq, Int.reduceLT, Int.reduceLE, Int.reduceAdd, Int.reduceSub, Int.reduceMul, Int.reduceNeg, jp_n9_1, jp_n9_8, jp_n9_15, jp_n9_21, jp_n9_24, jp_n10_1, jp_n10_2, jp_n10_3, jp_n10_4, jp_n10_5, jp_n10_6, jp_n17_1, jp_n17_2, jp_n17_3, jp_n17_4, jp_n17_5, jp_n17_6, jp_n24_1, jp_n24_2, jp_n24_3, jp_n24_4, jp_n24_5, jp_n30_1, jp_n30_2, jp_n33_1, jp_n33_2, false_and, true_and, and_true, and_false, and_self, ne_eq, not_true_eq_false, not_false_eq_true, jw_ws, jw_vs, jw_cmp_lt, jw_cmp_gt, jw_cmp_eq, jp_t1, jp_t2, jp_t3, jp_t4, jp_t5, jp_t6, Int.zero_add, eh]
        exact ih _ ⟨by omega, es.symm⟩
      · rw [if_neg (fun z => h5 z.2)] at es
        simp (disch := omega) only [↓jp_bs, ↓jp_b2s, ↓reduceIte, jw_up_a, Nat.reduceEqDiff, Int.reduceEq, Int.reduceLT, Int.reduceLE, Int.reduceAdd, Int.reduceSub, Int.reduceMul, Int.reduceNeg, jp_n9_1, jp_n9_8, jp_n9_15, jp_n9_21, jp_n9_24, jp_n10_1, jp_n10_2, jp_n10_3, jp_n10_4, jp_n10_5, jp_n10_6, jp_n17_1, jp_n17_2, jp_n17_3, jp_n17_4, jp_n17_5, jp_n17_6, jp_n24_1, jp_n24_2, jp_n24_3, jp_n24_4, jp_n24_5, jp_n30_1, jp_n30_2, jp_n33_1, jp_n33_2, false_and, true_and, and_true, and_false, and_self, ne_eq, not_true_eq_false, not_false_eq_true, jw_ws, jw_vs, jw_cmp_lt, jw_cmp_gt, jw_cmp_eq, jp_t1, jp_t2, jp_t3, jp_t4, jp_t5, jp_t6, Int.zero_add, eh]
        exact ih _ ⟨by omega, es.symm⟩
  · intro k a hp2
    obtain ⟨h0, rfl⟩ := hp2
    show fX12_warnedOf_6 _ _ _ _ _ _ = _
    rw [fX12_warnedOf_6]
    simp (disch := omega) only [↓jp_bs, ↓jp_b2s, ↓reduceIte, jw_up_a, Nat.reduceEqDiff, Int.reduceEq, Int.reduceLT, Int.reduceLE, Int.reduceAdd, Int.reduceSub, Int.reduceMul, Int.reduceNeg, jp_n9_1, jp_n9_8, jp_n9_15, jp_n9_21, jp_n9_24, jp_n10_1, jp_n10_2, jp_n10_3, jp_n10_4, jp_n10_5, jp_n10_6, jp_n17_1, jp_n17_2, jp_n17_3, jp_n17_4, jp_n17_5, jp_n17_6, jp_n24_1, jp_n24_2, jp_n24_3, jp_n24_4, jp_n24_5, jp_n30_1, jp_n30_2, jp_n33_1, jp_n33_2, false_and, true_and, and_true, and_false, and_self, ne_eq, not_true_eq_false, not_false_eq_true, jw_ws, jw_vs, jw_cmp_lt, jw_cmp_gt, jw_cmp_eq, jp_t1, jp_t2, jp_t3, jp_t4, jp_t5, jp_t6]
theorem bX12_warnedOf {M : jw_M} (h : jp_Xm M) (s o : Int) (hs : 0 ≤ s ∧ s < M 131 3) {be : Type} (kk : _ → Option be) : Option.bind (fX12_warnedOf s o M) kk = kk ((jp_wa (M 131) (M 137) (fun w => M 133 (5 + w)) (M 133 s) o (M 131 4).toNat)) := by rw [show fX12_warnedOf s o M = some (jp_wa (M 131) (M 137) (fun w => M 133 (5 + w)) (M 133 s) o (M 131 4).toNat) from gX12_warnedOf h s o hs]; rfl
theorem gX3_outcomeOf (m w f : Int) (M : jw_M) (hw : 0 ≤ w ∧ w ≤ 1000000) (hf : 0 ≤ f ∧ f ≤ 9) : fX3_outcomeOf m w f M = some (jp_oc m w f) := by
  unfold fX3_outcomeOf fX3_outcomeOf_11 fX3_outcomeOf_31 jp_oc
  by_cases h1 : w < 1000000
  · by_cases h2 : m < 1000000
    · by_cases h3 : m < w + f
      · simp (disch := omega) only [↓jp_bs, ↓jp_b2s, ↓reduceIte, jw_up_a, Nat.reduceEqDiff, Int.reduceEq, Int.reduceLT, Int.reduceLE, Int.reduceAdd, Int.reduceSub, Int.reduceMul, Int.reduceNeg, jp_n9_1, jp_n9_8, jp_n9_15, jp_n9_21, jp_n9_24, jp_n10_1, jp_n10_2, jp_n10_3, jp_n10_4, jp_n10_5, jp_n10_6, jp_n17_1, jp_n17_2, jp_n17_3, jp_n17_4, jp_n17_5, jp_n17_6, jp_n24_1, jp_n24_2, jp_n24_3, jp_n24_4, jp_n24_5, jp_n30_1, jp_n30_2, jp_n33_1, jp_n33_2, false_and, true_and, and_true, and_false, and_self, ne_eq, not_true_eq_false, not_false_eq_true, jw_ws, jw_vs, jw_cmp_lt, jw_cmp_gt, jw_cmp_eq, jp_t1, jp_t2, jp_t3, jp_t4, jp_t5, jp_t6]
        rw [if_pos (Or.inr trivial)]
      · simp (disch := omega) only [↓jp_bs, ↓jp_b2s, ↓reduceIte, jw_up_a, Nat.reduceEqDiff, Int.reduceEq, Int.reduceLT, Int.reduceLE, Int.reduceAdd, Int.reduceSub, Int.reduceMul, Int.reduceNeg, jp_n9_1, jp_n9_8, jp_n9_15, jp_n9_21, jp_n9_24, jp_n10_1, jp_n10_2, jp_n10_3, jp_n10_4, jp_n10_5, jp_n10_6, jp_n17_1, jp_n17_2, jp_n17_3, jp_n17_4, jp_n17_5, jp_n17_6, jp_n24_1, jp_n24_2, jp_n24_3, jp_n24_4, jp_n24_5, jp_n30_1, jp_n30_2, jp_n33_1, jp_n33_2, false_and, true_and, and_true, and_false, and_self, ne_eq, not_true_eq_false, not_false_eq_true, jw_ws, jw_vs, jw_cmp_lt, jw_cmp_gt, jw_cmp_eq, jp_t1, jp_t2, jp_t3, jp_t4, jp_t5, jp_t6]
        rw [if_neg (by simp)]
    · simp (disch := omega) only [↓jp_bs, ↓jp_b2s, ↓reduceIte, jw_up_a, Nat.reduceEqDiff, Int.reduceEq, Int.reduceLT, Int.reduceLE, Int.reduceAdd, Int.reduceSub, Int.reduceMul, Int.reduceNeg, jp_n9_1, jp_n9_8, jp_n9_15, jp_n9_21, jp_n9_24, jp_n10_1, jp_n10_2, jp_n10_3, jp_n10_4, jp_n10_5, jp_n10_6, jp_n17_1, jp_n17_2, jp_n17_3, jp_n17_4, jp_n17_5, jp_n17_6, jp_n24_1, jp_n24_2, jp_n24_3, jp_n24_4, jp_n24_5, jp_n30_1, jp_n30_2, jp_n33_1, jp_n33_2, false_and, true_and, and_true, and_false, and_self, ne_eq, not_true_eq_false, not_false_eq_true, jw_ws, jw_vs, jw_cmp_lt, jw_cmp_gt, jw_cmp_eq, jp_t1, jp_t2, jp_t3, jp_t4, jp_t5, jp_t6]
  · by_cases h2 : m < 1000000
    · simp (disch := omega) only [↓jp_bs, ↓jp_b2s, ↓reduceIte, jw_up_a, Nat.reduceEqDiff, Int.reduceEq, Int.reduceLT, Int.reduceLE, Int.reduceAdd, Int.reduceSub, Int.reduceMul, Int.reduceNeg, jp_n9_1, jp_n9_8, jp_n9_15, jp_n9_21, jp_n9_24, jp_n10_1, jp_n10_2, jp_n10_3, jp_n10_4, jp_n10_5, jp_n10_6, jp_n17_1, jp_n17_2, jp_n17_3, jp_n17_4, jp_n17_5, jp_n17_6, jp_n24_1, jp_n24_2, jp_n24_3, jp_n24_4, jp_n24_5, jp_n30_1, jp_n30_2, jp_n33_1, jp_n33_2, false_and, true_and, and_true, and_false, and_self, ne_eq, not_true_eq_false, not_false_eq_true, jw_ws, jw_vs, jw_cmp_lt, jw_cmp_gt, jw_cmp_eq, jp_t1, jp_t2, jp_t3, jp_t4, jp_t5, jp_t6]
      rw [if_pos (Or.inl trivial)]
    · simp (disch := omega) only [↓jp_bs, ↓jp_b2s, ↓reduceIte, jw_up_a, Nat.reduceEqDiff, Int.reduceEq, Int.reduceLT, Int.reduceLE, Int.reduceAdd, Int.reduceSub, Int.reduceMul, Int.reduceNeg, jp_n9_1, jp_n9_8, jp_n9_15, jp_n9_21, jp_n9_24, jp_n10_1, jp_n10_2, jp_n10_3, jp_n10_4, jp_n10_5, jp_n10_6, jp_n17_1, jp_n17_2, jp_n17_3, jp_n17_4, jp_n17_5, jp_n17_6, jp_n24_1, jp_n24_2, jp_n24_3, jp_n24_4, jp_n24_5, jp_n30_1, jp_n30_2, jp_n33_1, jp_n33_2, false_and, true_and, and_true, and_false, and_self, ne_eq, not_true_eq_false, not_false_eq_true, jw_ws, jw_vs, jw_cmp_lt, jw_cmp_gt, jw_cmp_eq, jp_t1, jp_t2, jp_t3, jp_t4, jp_t5, jp_t6]
theorem bX3_outcomeOf (m w f : Int) (M : jw_M) (hw : 0 ≤ w ∧ w ≤ 1000000) (hf : 0 ≤ f ∧ f ≤ 9) {be : Type} (kk : _ → Option be) : Option.bind (fX3_outcomeOf m w f M) kk = kk ((jp_oc m w f)) := by rw [show fX3_outcomeOf m w f M = some (jp_oc m w f) from gX3_outcomeOf m w f M hw hf]; rfl
theorem gX12_isCaught {M : jw_M} (h : jp_Xm M) (s w : Int) (hs : 0 ≤ s ∧ s < M 131 3) (hw : 0 ≤ w ∧ w ≤ 1000000) : fX12_isCaught s w M = some (if jp_oc (M 137 (M 133 s)) w (M 131 (63 + 3 * M 131 (90 + s))) = 2 then 1 else 0) := by
  obtain ⟨hA, h1, hC, hP, hV⟩ := h
  obtain ⟨⟨r0, r2, r3, r4, r5⟩, -⟩ := jp_A_r hA
  have hp := hP s hs.1 hs.2
  have hg := jp_gds hA hs
  unfold fX12_isCaught fX12_isCaught_38 jp_oc
  by_cases h2 : M 137 (M 133 s) < 1000000
  · by_cases h3 : w < 1000000
    · by_cases h4 : M 137 (M 133 s) < w + M 131 (63 + 3 * M 131 (90 + s))
      · simp (disch := omega) only [↓jp_bs, ↓jp_b2s, ↓reduceIte, jw_up_a, Nat.reduceEqDiff, Int.reduceEq, Int.reduceLT, Int.reduceLE, Int.reduceAdd, Int.reduceSub, Int.reduceMul, Int.reduceNeg, jp_n9_1, jp_n9_8, jp_n9_15, jp_n9_21, jp_n9_24, jp_n10_1, jp_n10_2, jp_n10_3, jp_n10_4, jp_n10_5, jp_n10_6, jp_n17_1, jp_n17_2, jp_n17_3, jp_n17_4, jp_n17_5, jp_n17_6, jp_n24_1, jp_n24_2, jp_n24_3, jp_n24_4, jp_n24_5, jp_n30_1, jp_n30_2, jp_n33_1, jp_n33_2, false_and, true_and, and_true, and_false, and_self, ne_eq, not_true_eq_false, not_false_eq_true, jw_ws, jw_vs, jw_cmp_lt, jw_cmp_gt, jw_cmp_eq, jp_t1, jp_t2, jp_t3, jp_t4, jp_t5, jp_t6, Int.zero_add, ↓bX12_goodsOf0 hA]
        simp
      · simp (disch := omega) only [↓jp_bs, ↓jp_b2s, ↓reduceIte, jw_up_a, Nat.reduceEqDiff, Int.reduceEq, Int.reduceLT, Int.reduceLE, Int.reduceAdd, Int.reduceSub, Int.reduceMul, Int.reduceNeg, jp_n9_1, jp_n9_8, jp_n9_15, jp_n9_21, jp_n9_24, jp_n10_1, jp_n10_2, jp_n10_3, jp_n10_4, jp_n10_5, jp_n10_6, jp_n17_1, jp_n17_2, jp_n17_3, jp_n17_4, jp_n17_5, jp_n17_6, jp_n24_1, jp_n24_2, jp_n24_3, jp_n24_4, jp_n24_5, jp_n30_1, jp_n30_2, jp_n33_1, jp_n33_2, false_and, true_and, and_true, and_false, and_self, ne_eq, not_true_eq_false, not_false_eq_true, jw_ws, jw_vs, jw_cmp_lt, jw_cmp_gt, jw_cmp_eq, jp_t1, jp_t2, jp_t3, jp_t4, jp_t5, jp_t6, Int.zero_add, ↓bX12_goodsOf0 hA]
        simp
    · simp (disch := omega) only [↓jp_bs, ↓jp_b2s, ↓reduceIte, jw_up_a, Nat.reduceEqDiff, Int.reduceEq, Int.reduceLT, Int.reduceLE, Int.reduceAdd, Int.reduceSub, Int.reduceMul, Int.reduceNeg, jp_n9_1, jp_n9_8, jp_n9_15, jp_n9_21, jp_n9_24, jp_n10_1, jp_n10_2, jp_n10_3, jp_n10_4, jp_n10_5, jp_n10_6, jp_n17_1, jp_n17_2, jp_n17_3, jp_n17_4, jp_n17_5, jp_n17_6, jp_n24_1, jp_n24_2, jp_n24_3, jp_n24_4, jp_n24_5, jp_n30_1, jp_n30_2, jp_n33_1, jp_n33_2, false_and, true_and, and_true, and_false, and_self, ne_eq, not_true_eq_false, not_false_eq_true, jw_ws, jw_vs, jw_cmp_lt, jw_cmp_gt, jw_cmp_eq, jp_t1, jp_t2, jp_t3, jp_t4, jp_t5, jp_t6, Int.zero_add]
      simp
  · simp (disch := omega) only [↓jp_bs, ↓jp_b2s, ↓reduceIte, jw_up_a, Nat.reduceEqDiff, Int.reduceEq, Int.reduceLT, Int.reduceLE, Int.reduceAdd, Int.reduceSub, Int.reduceMul, Int.reduceNeg, jp_n9_1, jp_n9_8, jp_n9_15, jp_n9_21, jp_n9_24, jp_n10_1, jp_n10_2, jp_n10_3, jp_n10_4, jp_n10_5, jp_n10_6, jp_n17_1, jp_n17_2, jp_n17_3, jp_n17_4, jp_n17_5, jp_n17_6, jp_n24_1, jp_n24_2, jp_n24_3, jp_n24_4, jp_n24_5, jp_n30_1, jp_n30_2, jp_n33_1, jp_n33_2, false_and, true_and, and_true, and_false, and_self, ne_eq, not_true_eq_false, not_false_eq_true, jw_ws, jw_vs, jw_cmp_lt, jw_cmp_gt, jw_cmp_eq, jp_t1, jp_t2, jp_t3, jp_t4, jp_t5, jp_t6, Int.zero_add]
theorem bX12_isCaught {M : jw_M} (h : jp_Xm M) (s w : Int) (hs : 0 ≤ s ∧ s < M 131 3) (hw : 0 ≤ w ∧ w ≤ 1000000) {be : Type} (kk : _ → Option be) : Option.bind (fX12_isCaught s w M) kk = kk ((if jp_oc (M 137 (M 133 s)) w (M 131 (63 + 3 * M 131 (90 + s))) = 2 then 1 else 0)) := by rw [show fX12_isCaught s w M = some (if jp_oc (M 137 (M 133 s)) w (M 131 (63 + 3 * M 131 (90 + s))) = 2 then 1 else 0) from gX12_isCaught h s w hs hw]; rfl
theorem gX12_lostBy {M : jw_M} (h : jp_Xm M) (s w : Int) (hs : 0 ≤ s ∧ s < M 131 3) (hw : 0 ≤ w ∧ w ≤ 1000000) : fX12_lostBy s w M = some (if jp_oc (M 137 (M 133 s)) w (M 131 (63 + 3 * M 131 (90 + s))) = 2 then jp_ls (M 131) s else 0) := by
  have hc := gX12_isCaught h s w hs hw
  have hg := jp_gds h.1 hs
  unfold fX12_lostBy jp_ls
  by_cases e : jp_oc (M 137 (M 133 s)) w (M 131 (63 + 3 * M 131 (90 + s))) = 2
  · rw [if_pos e] at hc ⊢
    simp (disch := omega) only [↓jp_bs, ↓jp_b2s, ↓reduceIte, jw_up_a, Nat.reduceEqDiff, Int.reduceEq, Int.reduceLT, Int.reduceLE, Int.reduceAdd, Int.reduceSub, Int.reduceMul, Int.reduceNeg, jp_n9_1, jp_n9_8, jp_n9_15, jp_n9_21, jp_n9_24, jp_n10_1, jp_n10_2, jp_n10_3, jp_n10_4, jp_n10_5, jp_n10_6, jp_n17_1, jp_n17_2, jp_n17_3, jp_n17_4, jp_n17_5, jp_n17_6, jp_n24_1, jp_n24_2, jp_n24_3, jp_n24_4, jp_n24_5, jp_n30_1, jp_n30_2, jp_n33_1, jp_n33_2, false_and, true_and, and_true, and_false, and_self, ne_eq, not_true_eq_false, not_false_eq_true, jw_ws, jw_vs, jw_cmp_lt, jw_cmp_gt, jw_cmp_eq, jp_t1, jp_t2, jp_t3, jp_t4, jp_t5, jp_t6, ↓jp_bnd hc, ↓bX12_goodsOf1 h.1, ↓bX12_goodsOf2 h.1]
  · rw [if_neg e] at hc ⊢
    simp (disch := omega) only [↓jp_bs, ↓jp_b2s, ↓reduceIte, jw_up_a, Nat.reduceEqDiff, Int.reduceEq, Int.reduceLT, Int.reduceLE, Int.reduceAdd, Int.reduceSub, Int.reduceMul, Int.reduceNeg, jp_n9_1, jp_n9_8, jp_n9_15, jp_n9_21, jp_n9_24, jp_n10_1, jp_n10_2, jp_n10_3, jp_n10_4, jp_n10_5, jp_n10_6, jp_n17_1, jp_n17_2, jp_n17_3, jp_n17_4, jp_n17_5, jp_n17_6, jp_n24_1, jp_n24_2, jp_n24_3, jp_n24_4, jp_n24_5, jp_n30_1, jp_n30_2, jp_n33_1, jp_n33_2, false_and, true_and, and_true, and_false, and_self, ne_eq, not_true_eq_false, not_false_eq_true, jw_ws, jw_vs, jw_cmp_lt, jw_cmp_gt, jw_cmp_eq, jp_t1, jp_t2, jp_t3, jp_t4, jp_t5, jp_t6, ↓jp_bnd hc]
theorem bX12_lostBy {M : jw_M} (h : jp_Xm M) (s w : Int) (hs : 0 ≤ s ∧ s < M 131 3) (hw : 0 ≤ w ∧ w ≤ 1000000) {be : Type} (kk : _ → Option be) : Option.bind (fX12_lostBy s w M) kk = kk ((if jp_oc (M 137 (M 133 s)) w (M 131 (63 + 3 * M 131 (90 + s))) = 2 then jp_ls (M 131) s else 0)) := by rw [show fX12_lostBy s w M = some (if jp_oc (M 137 (M 133 s)) w (M 131 (63 + 3 * M 131 (90 + s))) = 2 then jp_ls (M 131) s else 0) from gX12_lostBy h s w hs hw]; rfl
theorem gX3_lostIf {M : jw_M} (hA : jp_A M) (o s : Int) (hs : 0 ≤ s ∧ s < M 131 3) : fX3_lostIf o (9 + 8) s M = some (if o = 2 then jp_ls (M 131) s else 0) := by
  unfold fX3_lostIf jp_ls
  rw [if_pos (by decide)]
  by_cases e : o = 2
  · rw [if_pos e, if_pos e, gX10_lossOf hA s hs]
    rfl
  · rw [if_neg e, if_neg e]
theorem bX3_lostIf {M : jw_M} (hA : jp_A M) (o s : Int) (hs : 0 ≤ s ∧ s < M 131 3) {be : Type} (kk : _ → Option be) : Option.bind (fX3_lostIf o (9 + 8) s M) kk = kk ((if o = 2 then jp_ls (M 131) s else 0)) := by rw [show fX3_lostIf o (9 + 8) s M = some (if o = 2 then jp_ls (M 131) s else 0) from gX3_lostIf hA o s hs]; rfl
theorem gX3_sparedBy {M : jw_M} (h : jp_Xc M) (w s : Int) (hs : 0 ≤ s ∧ s < M 131 3) (e27 : M 27 s = M 25 (M 22 s)) (e28 : M 28 s = jp_o (M 131) (M 25) (M 23) (M 22) s) : fX3_sparedBy (9 + 15) (9 + 1) (9 + 8) w s M = some (jp_sp (M 131) (M 25) (M 23) (M 22) w s) := by
  obtain ⟨hA, h1, hC, hP, hV⟩ := id h
  obtain ⟨⟨r0, r2, r3, r4, r5⟩, -⟩ := jp_A_r hA
  have hp := hP s hs.1 hs.2
  have hg := jp_gds hA hs
  have hl := jp_ls_r hA.1 hs
  have hsp := jp_sp_r (C := M 25) (V := M 23) (P := M 22) hA.1 hs w
  have hwr := jp_wa_r (o := w) hA.1 h1 hC hV hp (M 131 4).toNat (by omega)
  have a1 : M (9 + 15 + 3) s = M 27 s := rfl
  have a2 : M (9 + 15 + 4) s = M 28 s := rfl
  unfold fX3_sparedBy
  rw [if_pos (by decide), if_pos (by decide), if_pos (by decide), gX3_warning h s w hs, jp_bs, jp_bs, if_pos (by omega), gX10_foldOf hA s hs, jp_bs, a1, e27, gX3_outcomeOf _ _ _ _ hwr (by omega), jp_bs, jp_bs, gX3_lostIf hA _ s hs, jp_bs, if_pos (by omega), a2, e28, gX3_lostIf hA _ s hs, jp_bs]
  rw [jw_ws]
  · rfl
  · unfold jp_sp at hsp
    omega
theorem bX3_sparedBy {M : jw_M} (h : jp_Xc M) (w s : Int) (hs : 0 ≤ s ∧ s < M 131 3) (e27 : M 27 s = M 25 (M 22 s)) (e28 : M 28 s = jp_o (M 131) (M 25) (M 23) (M 22) s) {be : Type} (kk : _ → Option be) : Option.bind (fX3_sparedBy (9 + 15) (9 + 1) (9 + 8) w s M) kk = kk ((jp_sp (M 131) (M 25) (M 23) (M 22) w s)) := by rw [show fX3_sparedBy (9 + 15) (9 + 1) (9 + 8) w s M = some (jp_sp (M 131) (M 25) (M 23) (M 22) w s) from gX3_sparedBy h w s hs e27 e28]; rfl
