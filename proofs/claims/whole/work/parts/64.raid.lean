/-! raids: judged by the class, laid by the model -/
def jp_jI (M N : jw_M) (i' i w : Int) : Prop :=
  (∀ k : Nat, k ≠ 26 → k ≠ 27 → k ≠ 28 → k ≠ 29 → N k = M k) ∧
  (∀ j : Int, 0 ≤ j → j < i' → N 26 j = jp_wd (M 131) (M 25) (M 23) (M 22) j ∧ N 27 j = M 25 (M 22 j) ∧ N 28 j = jp_o (M 131) (M 25) (M 23) (M 22) j) ∧
  (∀ a s : Int, 0 ≤ a → a < M 131 4 → 0 ≤ s → s < 5 → (s < i ∨ s = i ∧ a < w) → N 29 (5 * a + s) = jp_sp (M 131) (M 25) (M 23) (M 22) a s) ∧
  (∀ k : Int, 0 ≤ k → k < 20 → (M 131 4 ≤ k / 5 ∨ M 131 3 ≤ k % 5) → N 29 k = M 29 k)
theorem jp_jI_X {M N : jw_M} {i' i w : Int} (h : jp_Xc M) (hN : jp_jI M N i' i w) : jp_Xc N :=
  jp_Xc_fr h (fun k p q => hN.1 k (by omega) (by omega) (by omega) (by omega)) (hN.1 _ (by decide) (by decide) (by decide) (by decide)) (hN.1 _ (by decide) (by decide) (by decide) (by decide)) (hN.1 _ (by decide) (by decide) (by decide) (by decide))
theorem gX3_judge_70 {M : jw_M} (h : jp_Xc M) (r2 : Int → jw_M → Option jw_M) (s : Int) (hs : 0 ≤ s ∧ s < M 131 3) (N : jw_M) (hN : jp_jI M N (s + 1) s 0) : ∃ N' : jw_M, jp_jI M N' (s + 1) (s + 1) 0 ∧ fX3_judge_70 (9 + 15) (9 + 1) (9 + 8) r2 jw_fu s 0 N = r2 (s + 1) N' := by
  obtain ⟨hA, h1, hC, hP, hV⟩ := id h
  obtain ⟨⟨c0, c5, c8, -⟩, -, g4, g7⟩ := jp_A_c hA
  obtain ⟨⟨r0, r2', r3, r4, r5⟩, -⟩ := jp_A_r hA
  refine jp_up (fun k w N => fX3_judge_70 (9 + 15) (9 + 1) (9 + 8) r2 k s w N) (M 131 4) (fun w N => 0 ≤ w ∧ jp_jI M N (s + 1) s w) (fun x => ∃ N' : jw_M, jp_jI M N' (s + 1) (s + 1) 0 ∧ x = r2 (s + 1) N') ?_ ?_ jw_fu 0 N (by unfold jw_fu; omega) (by omega) ⟨by omega, hN⟩
  · intro k w N hp hw ih
    obtain ⟨h0, hN⟩ := hp
    have hX := jp_jI_X h hN
    have e131 : N 131 = M 131 := hN.1 _ (by decide) (by decide) (by decide) (by decide)
    have e25 : N 25 = M 25 := hN.1 _ (by decide) (by decide) (by decide) (by decide)
    have e23 : N 23 = M 23 := hN.1 _ (by decide) (by decide) (by decide) (by decide)
    have e22 : N 22 = M 22 := hN.1 _ (by decide) (by decide) (by decide) (by decide)
    have e17 : N (9 + 8) 7 = M 131 4 := by rw [hN.1 (9 + 8) (by decide) (by decide) (by decide) (by decide)]; exact g7
    obtain ⟨n1, n2, n3, n4⟩ := hN
    have q := n2 s hs.1 (by omega)
    have hsp := gX3_sparedBy hX w s (by rw [e131]; exact hs) (by rw [e25, e22]; exact q.2.1) (by rw [e131, e25, e23, e22]; exact q.2.2)
    rw [e131, e25, e23, e22] at hsp
    show ∃ N' : jw_M, jp_jI M N' (s + 1) (s + 1) 0 ∧ fX3_judge_70 (9 + 15) (9 + 1) (9 + 8) r2 (k + 1) s w N = r2 (s + 1) N'
    rw [fX3_judge_70, e17, if_pos hw, hsp, jp_bs, jw_ws (x := w * 5) (by omega), jw_ws (x := w * 5 + s) (by omega), if_pos (by omega), jp_bs, jp_bs, jw_ws (by omega)]
    refine ih _ ⟨by omega, ?_⟩
    have e29 : (9 + 15 + 5 : Nat) = 29 := rfl
    rw [e29]
    refine ⟨fun k a b c d => by rw [jw_up_ne _ d]; exact n1 k a b c d, fun j a b => ?_, fun a t a1 a2 t1 t2 z => ?_, fun j a b c => ?_⟩
    · rw [jw_up_ne _ (by decide), jw_up_ne _ (by decide), jw_up_ne _ (by decide)]
      exact n2 j a b
    · rw [jw_up_eq, jw_u1_a]
      by_cases e : 5 * a + t = w * 5 + s
      · have ea : a = w := by omega
        have et : t = s := by omega
        rw [if_pos e, ea, et]
      · rw [if_neg e]
        exact n3 a t a1 a2 t1 t2 (by omega)
    · rw [jw_up_eq, jw_u1_n _ (by omega)]
      exact n4 j a b c
  · intro k N hp
    obtain ⟨h0, hN⟩ := hp
    have e17 : N (9 + 8) 7 = M 131 4 := by rw [hN.1 (9 + 8) (by decide) (by decide) (by decide) (by decide)]; exact g7
    refine ⟨N, ⟨hN.1, hN.2.1, fun a t a1 a2 t1 t2 z => hN.2.2.1 a t a1 a2 t1 t2 (by omega), hN.2.2.2⟩, ?_⟩
    show fX3_judge_70 (9 + 15) (9 + 1) (9 + 8) r2 (k + 1) s (M 131 4) N = r2 (s + 1) N
    rw [fX3_judge_70, e17, if_neg (by omega), jp_bs, jw_ws (by omega)]
theorem gX3_judge {M : jw_M} (h : jp_Xc M) : ∃ N : jw_M, fX3_judge (9 + 15) (9 + 1) (9 + 8) M = some N ∧ jp_jI M N (M 131 3) (M 131 3) 0 := by
  obtain ⟨hA, h1, hC, hP, hV⟩ := id h
  obtain ⟨⟨c0, c5, c8, -⟩, -, g4, g7⟩ := jp_A_c hA
  obtain ⟨⟨r0, r2, r3, r4, r5⟩, -⟩ := jp_A_r hA
  unfold fX3_judge
  rw [if_pos (by decide), if_pos (by decide), if_pos (by decide), jp_bs]
  refine jp_up (fun k i N => fX3_judge_2 (9 + 15) (9 + 1) (9 + 8) k i N) (M 131 3) (fun i N => 0 ≤ i ∧ jp_jI M N i i 0) (fun x => ∃ N : jw_M, x = some N ∧ jp_jI M N (M 131 3) (M 131 3) 0) ?_ ?_ jw_fu 0 M (by unfold jw_fu; omega) (by omega) ⟨by omega, fun k _ _ _ _ => rfl, fun j a b => by omega, fun a t a1 a2 t1 t2 z => by omega, fun k _ _ _ => rfl⟩
  · intro k i N hp hi ih
    obtain ⟨h0, hN⟩ := hp
    have hX := jp_jI_X h hN
    have e131 : N 131 = M 131 := hN.1 _ (by decide) (by decide) (by decide) (by decide)
    have e25 : N 25 = M 25 := hN.1 _ (by decide) (by decide) (by decide) (by decide)
    have e23 : N 23 = M 23 := hN.1 _ (by decide) (by decide) (by decide) (by decide)
    have e22 : N 22 = M 22 := hN.1 _ (by decide) (by decide) (by decide) (by decide)
    have e17 : N (9 + 8) 4 = M 131 3 := by rw [hN.1 (9 + 8) (by decide) (by decide) (by decide) (by decide)]; exact g4
    obtain ⟨n1, n2, n3, n4⟩ := hN
    have hp := hP i h0 hi
    have hg := jp_gds hA ⟨h0, hi⟩
    have hw := gX3_warning hX i (-1) (by rw [e131]; exact ⟨h0, hi⟩)
    rw [e131, e25, e23, e22] at hw
    have hwr := jp_wa_r (o := -1) hA.1 h1 hC hV hp (M 131 4).toNat (by omega)
    have hw2 : fX3_warning (9 + 15) (9 + 1) (9 + 8) i (-1) N = some (jp_wd (M 131) (M 25) (M 23) (M 22) i) := hw
    have hwr2 : 0 ≤ jp_wd (M 131) (M 25) (M 23) (M 22) i ∧ jp_wd (M 131) (M 25) (M 23) (M 22) i ≤ 1000000 := hwr
    have hod : jp_o (M 131) (M 25) (M 23) (M 22) i = jp_oc (M 25 (M 22 i)) (jp_wd (M 131) (M 25) (M 23) (M 22) i) (M 131 (63 + 3 * M 131 (90 + i))) := rfl
    show ∃ N' : jw_M, fX3_judge_2 (9 + 15) (9 + 1) (9 + 8) (k + 1) i N = some N' ∧ _
    rw [fX3_judge_2, e17, if_pos hi, hw2, jp_bs, if_pos (by omega), jp_bs, if_pos (by omega)]
    generalize jp_wd (M 131) (M 25) (M 23) (M 22) i = W at hw2 hwr2 hod ⊢
    have a22 : jw_up N (9 + 15 + 2) i W (9 + 8 + 5) i = M 22 i := by rw [jw_up_ne _ (by decide)]; exact congrFun e22 i
    have a25 : jw_up N (9 + 15 + 2) i W (9 + 15 + 1) (M 22 i) = M 25 (M 22 i) := by rw [jw_up_ne _ (by decide)]; exact congrFun e25 _
    rw [a22, if_pos (by omega), if_pos (by omega), a25, jp_bs]
    have b27 : jw_up (jw_up N (9 + 15 + 2) i W) (9 + 15 + 3) i (M 25 (M 22 i)) (9 + 15 + 3) i = M 25 (M 22 i) := by rw [jw_up_eq, jw_u1_s]
    have b26 : jw_up (jw_up N (9 + 15 + 2) i W) (9 + 15 + 3) i (M 25 (M 22 i)) (9 + 15 + 2) i = W := by rw [jw_up_ne _ (by decide), jw_up_eq, jw_u1_s]
    have b131 : jw_up (jw_up N (9 + 15 + 2) i W) (9 + 15 + 3) i (M 25 (M 22 i)) 131 = M 131 := by rw [jw_up_ne _ (by decide), jw_up_ne _ (by decide)]; exact e131
    have hA7 : jp_A (jw_up (jw_up N (9 + 15 + 2) i W) (9 + 15 + 3) i (M 25 (M 22 i))) := jp_A_up (jp_A_up hX.1 _ _ _ (by decide)) _ _ _ (by decide)
    have hf := gX10_foldOf hA7 i (by rw [b131]; exact ⟨h0, hi⟩)
    rw [b131] at hf
    rw [if_pos (by omega), if_pos (by omega), hf, jp_bs, b27, b26, gX3_outcomeOf _ _ _ _ hwr2 (by omega), jp_bs, if_pos (by omega), jp_bs, jp_bs, ← hod]
    obtain ⟨N', j1, j2⟩ := gX3_judge_70 h (fX3_judge_2 (9 + 15) (9 + 1) (9 + 8) k) i ⟨h0, hi⟩ (jw_up (jw_up (jw_up N (9 + 15 + 2) i W) (9 + 15 + 3) i (M 25 (M 22 i))) (9 + 15 + 4) i (jp_o (M 131) (M 25) (M 23) (M 22) i)) (by
      have x2 : (9 + 15 + 2 : Nat) = 26 := rfl
      have x3 : (9 + 15 + 3 : Nat) = 27 := rfl
      have x4 : (9 + 15 + 4 : Nat) = 28 := rfl
      rw [x2, x3, x4]
      refine ⟨fun k a b c d => by rw [jw_up_ne _ c, jw_up_ne _ b, jw_up_ne _ a]; exact n1 k a b c d, fun j a b => ?_, fun a t a1 a2 t1 t2 z => ?_, fun j a b c => ?_⟩
      · rw [jw_up_ne _ (by decide), jw_up_ne _ (by decide), jw_up_eq, jw_up_ne _ (by decide), jw_up_eq, jw_up_ne _ (by decide), jw_up_eq, jw_up_ne _ (by decide), jw_up_ne _ (by decide)]
        by_cases e : j = i
        · subst e
          rw [jw_u1_s, jw_u1_s, jw_u1_s]
          exact ⟨by injection hw2.symm.trans hw with z, rfl, rfl⟩
        · rw [jw_u1_n _ e, jw_u1_n _ e, jw_u1_n _ e]
          exact n2 j a (by omega)
      · rw [jw_up_ne _ (by decide), jw_up_ne _ (by decide), jw_up_ne _ (by decide)]
        exact n3 a t a1 a2 t1 t2 (by omega)
      · rw [jw_up_ne _ (by decide), jw_up_ne _ (by decide), jw_up_ne _ (by decide)]
        exact n4 j a b c)
    rw [j2]
    exact ih N' ⟨by omega, j1⟩
  · intro k N hp
    obtain ⟨h0, hN⟩ := hp
    have e17 : N (9 + 8) 4 = M 131 3 := by rw [hN.1 (9 + 8) (by decide) (by decide) (by decide) (by decide)]; exact g4
    refine ⟨N, ?_, hN⟩
    show fX3_judge_2 (9 + 15) (9 + 1) (9 + 8) (k + 1) (M 131 3) N = _
    rw [fX3_judge_2, e17, if_neg (by omega)]
theorem gX3_caughtBits (M : jw_M) (n : Int) (hn : 0 ≤ n ∧ n ≤ 5) : fX3_caughtBits (9 + 15) n M = some (jp_mask (fun s => decide (M 28 s = 2)) n.toNat) := by
  unfold fX3_caughtBits
  rw [if_pos (by decide), jp_bs, jp_bs]
  refine jp_up (fun k i a => fX3_caughtBits_4 (9 + 15) M k n a i) n (fun i a => 0 ≤ i ∧ a = jp_mask (fun s => decide (M 28 s = 2)) i.toNat) (fun x => x = some (jp_mask (fun s => decide (M 28 s = 2)) n.toNat)) ?_ ?_ jw_fu 0 0 (by unfold jw_fu; omega) (by omega) ⟨by omega, rfl⟩
  · intro k i a hp hi ih
    obtain ⟨h0, rfl⟩ := hp
    have es := jp_mask_s (fun s => decide (M 28 s = 2)) h0
    have hr := jp_mask_r (fun s => decide (M 28 s = 2)) i.toNat
    show fX3_caughtBits_4 _ _ _ _ _ _ = _
    rw [fX3_caughtBits_4, if_pos hi, if_pos (by omega)]
    unfold fX3_caughtBits_25
    have e28 : M (9 + 15 + 4) i = M 28 i := rfl
    rw [e28]
    by_cases e : M 28 i = 2
    · rw [if_pos (decide_eq_true e)] at es
      rw [if_pos e, jp_bs, jp_bs, jw_ws (by omega), jp_or (by omega) hr]
      exact ih _ ⟨by omega, es.symm⟩
    · rw [if_neg (fun z => e (of_decide_eq_true z)), Int.add_zero] at es
      rw [if_neg e, jp_bs, jw_ws (by omega)]
      exact ih _ ⟨by omega, es.symm⟩
  · intro k a hp
    show fX3_caughtBits_4 _ _ _ _ _ _ = _
    rw [fX3_caughtBits_4, if_neg (by omega), hp.2]
theorem bX3_caughtBits (M : jw_M) (n : Int) (hn : 0 ≤ n ∧ n ≤ 5) {be : Type} (kk : _ → Option be) : Option.bind (fX3_caughtBits (9 + 15) n M) kk = kk ((jp_mask (fun s => decide (M 28 s = 2)) n.toNat)) := by rw [show fX3_caughtBits (9 + 15) n M = some (jp_mask (fun s => decide (M 28 s = 2)) n.toNat) from gX3_caughtBits M n hn]; rfl
