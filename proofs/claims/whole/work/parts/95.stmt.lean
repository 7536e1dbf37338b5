/-! reading: a statement's numbers -/
def jp_lo (w k : Int) : Int := jw_x2.getD (w * 3 + k).toNat 0
def jp_hi (D : Int → Int) (w k : Int) : Int := if jw_x3.getD (w * 3 + k).toNat 0 = -1 then D 0 - 1 else if jw_x3.getD (w * 3 + k).toNat 0 = -2 then D 2 - 1 else jw_x3.getD (w * 3 + k).toNat 0
def jp_not (w k a : Int) : Int := if w = 1 ∧ k = 1 then a else -1000000
def jp_nf (t : Int → Int) (L s lo hi no : Int) : Int := if jp_kd t L s = 2 then (if lo ≤ jp_nm t L s ∧ jp_nm t L s ≤ hi ∧ jp_nm t L s ≠ no then 0 else 2) else 1
def jp_sf (t : Int → Int) (L : Int) (D : Int → Int) (w a : Int) : Nat → Int → Int → Int × Int
  | 0, _, s => if jp_kd t L s = 3 then (0, jp_en t L s) else (1, jp_frm t L s)
  | m + 1, k, s => if jp_nf t L s (jp_lo w k) (jp_hi D w k) (jp_not w k a) = 0 then jp_sf t L D w a m (k + 1) (jp_en t L s) else (jp_nf t L s (jp_lo w k) (jp_hi D w k) (jp_not w k a), jp_frm t L s)
def jp_it (t : Int → Int) (L s : Int) : Nat → Int
  | 0 => jp_en t L s
  | k + 1 => jp_en t L (jp_it t L s k)
def jp_nb (w : Int) : Int := jw_x1.getD w.toNat 0
def jp_ro (w : Int) : Int := jw_x0.getD w.toNat 0
def jp_sta (t : Int → Int) (L : Int) (D : Int → Int) (w s : Int) : Int × Int := jp_sf t L D w (jp_nm t L (jp_en t L s)) (jp_nb w).toNat 0 (jp_en t L s)
def jp_vl (t : Int → Int) (L s k : Int) : Int := jp_nm t L (jp_it t L s k.toNat)
theorem jp_nb_r {w : Int} (h : 0 ≤ w ∧ w < 7) : 1 ≤ jp_nb w ∧ jp_nb w ≤ 3 := by
  have h1 : w = 0 ∨ w = 1 ∨ w = 2 ∨ w = 3 ∨ w = 4 ∨ w = 5 ∨ w = 6 := by omega
  rcases h1 with rfl | rfl | rfl | rfl | rfl | rfl | rfl <;> decide
theorem jp_it_r (t : Int → Int) {L s : Int} (h : 0 ≤ s ∧ s ≤ L) : ∀ k : Nat, 0 ≤ jp_it t L s k ∧ jp_it t L s k ≤ L := by
  intro k
  induction k with
  | zero =>
    have h1 := jp_frm_r t h.2
    have h2 := jp_en_r t h.2
    rw [jp_it]
    omega
  | succ k ih =>
    have h1 := jp_frm_r t ih.2
    have h2 := jp_en_r t ih.2
    rw [jp_it]
    omega
theorem jp_nf_v (t : Int → Int) (L s lo hi no : Int) : jp_nf t L s lo hi no = 0 ∨ jp_nf t L s lo hi no = 1 ∨ jp_nf t L s lo hi no = 2 := by
  unfold jp_nf
  split
  · split <;> omega
  · omega
theorem jp_nf_0 {t : Int → Int} {L s lo hi no : Int} (h : jp_nf t L s lo hi no = 0) : jp_kd t L s = 2 ∧ lo ≤ jp_nm t L s ∧ jp_nm t L s ≤ hi ∧ jp_nm t L s ≠ no := by
  unfold jp_nf at h
  by_cases e : jp_kd t L s = 2
  · rw [if_pos e] at h
    by_cases e2 : lo ≤ jp_nm t L s ∧ jp_nm t L s ≤ hi ∧ jp_nm t L s ≠ no
    · exact ⟨e, e2⟩
    · rw [if_neg e2] at h; omega
  · rw [if_neg e] at h; omega
/-- what the result says -/
theorem jp_sf_r (t : Int → Int) {L : Int} (D : Int → Int) (w a : Int) : ∀ (m : Nat) (k s : Int), 0 ≤ s → s ≤ L → (0 ≤ (jp_sf t L D w a m k s).1 ∧ (jp_sf t L D w a m k s).1 ≤ 2) ∧ (0 ≤ (jp_sf t L D w a m k s).2 ∧ (jp_sf t L D w a m k s).2 ≤ L) := by
  intro m
  induction m with
  | zero =>
    intro k s h0 h1
    have h2 := jp_frm_r t h1
    have h3 := jp_en_r t h1
    rw [jp_sf]
    split
    · exact ⟨⟨(by decide : (0 : Int) ≤ 0), (by decide : (0 : Int) ≤ 2)⟩, by show 0 ≤ jp_en t L s ∧ jp_en t L s ≤ L; omega⟩
    · exact ⟨⟨(by decide : (0 : Int) ≤ 1), (by decide : (1 : Int) ≤ 2)⟩, by show 0 ≤ jp_frm t L s ∧ jp_frm t L s ≤ L; omega⟩
  | succ m ih =>
    intro k s h0 h1
    have h2 := jp_frm_r t h1
    have h3 := jp_en_r t h1
    rw [jp_sf]
    split
    · exact ih _ _ (by omega) (by omega)
    · have := jp_nf_v t L s (jp_lo w k) (jp_hi D w k) (jp_not w k a)
      refine ⟨?_, ?_⟩
      · show 0 ≤ jp_nf t L s (jp_lo w k) (jp_hi D w k) (jp_not w k a) ∧ jp_nf t L s (jp_lo w k) (jp_hi D w k) (jp_not w k a) ≤ 2
        omega
      · show 0 ≤ jp_frm t L s ∧ jp_frm t L s ≤ L
        omega
theorem gX4_isAsTold {N : jw_M} {t : Int → Int} {L s a : Int} {D : Int → Int} (hD0 : 0 ≤ D 0 ∧ D 0 ≤ 7) (hD2 : 0 ≤ D 2 ∧ D 2 ≤ 4) (h80 : N 8 0 = D 0) (h82 : N 8 2 = D 2) (hk : jp_kd t L s = 2) (hs : s ≤ L) (h55 : N 5 5 = jp_nm t L s) (w k : Int) (hw : 0 ≤ w ∧ w < 7) (hkk : 0 ≤ k ∧ k < jp_nb w) (h70 : w = 1 → k = 1 → N 7 0 = a) : fX4_isAsTold w k N = some (if jp_nf t L s (jp_lo w k) (jp_hi D w k) (jp_not w k a) = 0 then 1 else 0) := by
  have hnb := jp_nb_r hw
  have hnm := (jp_kd_2 hs hk).2.2.2
  have key : ∀ hi : Int, hi = jp_hi D w k → fX4_isAsTold_42 N w k hi = some (if jp_nf t L s (jp_lo w k) (jp_hi D w k) (jp_not w k a) = 0 then 1 else 0) := by
    intro hi hhi
    have k70 : ∀ v : Int, fX4_isAsTold_70 N w k hi v = some (if jp_lo w k ≤ jp_nm t L s ∧ jp_nm t L s ≤ jp_hi D w k ∧ v = 0 then 1 else 0) := by
      intro v
      unfold fX4_isAsTold_70
      rw [jp_bs, jw_ws (x := w * 3) (by omega), jw_ws (x := w * 3 + k) (by omega), if_pos (show 0 ≤ w * 3 + k ∧ w * 3 + k < 21 by omega), h55, hhi]
      have elo : jw_x2.getD (w * 3 + k).toNat 0 = jp_lo w k := rfl
      rw [elo]
      by_cases e1 : jp_nm t L s < jp_lo w k
      · rw [if_pos e1, if_neg (by omega)]
      · rw [if_neg e1]
        by_cases e2 : jp_hi D w k < jp_nm t L s
        · rw [if_pos e2, if_neg (by omega)]
        · rw [if_neg e2]
          by_cases e3 : v = 0
          · rw [if_pos e3, if_pos (by omega)]
          · rw [if_neg e3, if_neg (by omega)]
    have fin : ∀ v : Int, (v = 0 ↔ jp_nm t L s ≠ jp_not w k a) → some (if jp_lo w k ≤ jp_nm t L s ∧ jp_nm t L s ≤ jp_hi D w k ∧ v = 0 then (1 : Int) else 0) = some (if jp_nf t L s (jp_lo w k) (jp_hi D w k) (jp_not w k a) = 0 then 1 else 0) := by
      intro v hv
      congr 1
      refine jp_ifc ?_
      unfold jp_nf
      rw [if_pos hk, hv]
      by_cases z : jp_lo w k ≤ jp_nm t L s ∧ jp_nm t L s ≤ jp_hi D w k ∧ jp_nm t L s ≠ jp_not w k a
      · rw [if_pos z]; exact ⟨fun _ => rfl, fun _ => z⟩
      · rw [if_neg z]; exact ⟨fun w => absurd w z, fun w => by omega⟩
    unfold fX4_isAsTold_42 fX4_isAsTold_69
    by_cases e1 : w = 1
    · rw [if_pos e1]
      by_cases e2 : k = 1
      · have en : jp_not w k a = a := if_pos ⟨e1, e2⟩
        rw [if_pos e2, if_pos (by decide), h55, h70 e1 e2]
        by_cases e3 : jp_nm t L s = a
        · rw [if_pos e3, k70]
          exact fin 1 ⟨fun w => by omega, fun w => absurd e3 (by rw [en] at w; exact w)⟩
        · rw [if_neg e3, k70]
          exact fin 0 ⟨fun _ => by rw [en]; exact e3, fun _ => rfl⟩
      · have en : jp_not w k a = -1000000 := if_neg (fun w => e2 w.2)
        rw [if_neg e2, k70]
        exact fin 0 ⟨fun _ => by rw [en]; omega, fun _ => rfl⟩
    · have en : jp_not w k a = -1000000 := if_neg (fun w => e1 w.1)
      rw [if_neg e1, k70]
      exact fin 0 ⟨fun _ => by rw [en]; omega, fun _ => rfl⟩
  unfold fX4_isAsTold
  rw [jw_ws (x := w * 3) (by omega), jw_ws (x := w * 3 + k) (by omega), if_pos (show 0 ≤ w * 3 + k ∧ w * 3 + k < 21 by omega), jp_bs]
  have hhi : jp_hi D w k = if jw_x3.getD (w * 3 + k).toNat 0 = -1 then D 0 - 1 else if jw_x3.getD (w * 3 + k).toNat 0 = -2 then D 2 - 1 else jw_x3.getD (w * 3 + k).toNat 0 := rfl
  generalize jw_x3.getD (w * 3 + k).toNat 0 = h at hhi ⊢
  by_cases e1 : h = -1
  · rw [if_pos e1] at hhi
    rw [if_pos e1, if_pos (by decide), jp_bs, h80, jw_ws (by omega)]
    exact key _ hhi.symm
  · rw [if_neg e1] at hhi
    rw [if_neg e1]
    by_cases e2 : h = -2
    · rw [if_pos e2] at hhi
      rw [if_pos e2, if_pos (by decide), jp_bs, h82, jw_ws (by omega)]
      exact key _ hhi.symm
    · rw [if_neg e2] at hhi
      rw [if_neg e2]
      exact key _ hhi.symm
theorem bX4_isAsTold {N : jw_M} {t : Int → Int} {L s a : Int} {D : Int → Int} (hD0 : 0 ≤ D 0 ∧ D 0 ≤ 7) (hD2 : 0 ≤ D 2 ∧ D 2 ≤ 4) (h80 : N 8 0 = D 0) (h82 : N 8 2 = D 2) (hk : jp_kd t L s = 2) (hs : s ≤ L) (h55 : N 5 5 = jp_nm t L s) (w k : Int) (hw : 0 ≤ w ∧ w < 7) (hkk : 0 ≤ k ∧ k < jp_nb w) (h70 : w = 1 → k = 1 → N 7 0 = a) {be : Type} (kk : _ → Option be) : Option.bind (fX4_isAsTold w k N) kk = kk ((if jp_nf t L s (jp_lo w k) (jp_hi D w k) (jp_not w k a) = 0 then 1 else 0)) := by rw [show fX4_isAsTold w k N = some (if jp_nf t L s (jp_lo w k) (jp_hi D w k) (jp_not w k a) = 0 then 1 else 0) from gX4_isAsTold hD0 hD2 h80 h82 hk hs h55 w k hw hkk h70]; rfl
/-- only reader and told have changed -/
def jp_r57 (M N : jw_M) : Prop := (∀ k : Nat, k ≠ 5 → k ≠ 7 → N k = M k) ∧ N 5 1 = M 5 1
theorem jp_r57_t {M N : jw_M} {t : Int → Int} {L : Int} (h : jp_tp M t L) (hr : jp_r57 M N) : jp_tp N t L := ⟨h.1, by rw [hr.2]; exact h.2.1, by rw [hr.1 6 (by decide) (by decide)]; exact h.2.2⟩
theorem gX4_statement_33 {M : jw_M} {t : Int → Int} {L s : Int} {D : Int → Int} (h : jp_tp M t L) (hs : 0 ≤ s ∧ s ≤ L) (hc : jp_tc M t L (jp_en t L s)) (hD0 : 0 ≤ D 0 ∧ D 0 ≤ 7) (hD2 : 0 ≤ D 2 ∧ D 2 ≤ 4) (h80 : M 8 0 = D 0) (h82 : M 8 2 = D 2) (w : Int) (hw : 0 ≤ w ∧ w < 7) : ∃ N : jw_M, jp_r57 M N ∧ (((jp_sta t L D w s).1 ≠ 0 ∧ fX4_statement_33 36 jw_fu w 0 M = some ((jp_sta t L D w s).1, N) ∧ N 5 2 = (jp_sta t L D w s).2) ∨ ((jp_sta t L D w s).1 = 0 ∧ fX4_statement_33 36 jw_fu w 0 M = Option.bind (fX4_take 36 w (jw_up N 8 w (jw_w (N 8 w + 1)))) (fun M15 => some (0, M15)) ∧ jp_tc N t L (jp_sta t L D w s).2 ∧ (∀ k : Int, 0 ≤ k → k < jp_nb w → N 7 k = jp_vl t L s k) ∧ (∀ k : Int, 0 ≤ k → k < jp_nb w → jp_nf t L (jp_it t L s k.toNat) (jp_lo w k) (jp_hi D w k) (jp_not w k (jp_vl t L s 0)) = 0))) := by
  have hnb := jp_nb_r hw
  have hj1 : jw_x1.getD w.toNat 0 = jp_nb w := rfl
  have hst : jp_sta t L D w s = jp_sf t L D w (jp_vl t L s 0) (jp_nb w - 0).toNat 0 (jp_it t L s (0 : Int).toNat) := by rw [Int.sub_zero]; rfl
  refine jp_up (fun k i N => fX4_statement_33 36 k w i N) (jp_nb w) (fun i N => 0 ≤ i ∧ jp_r57 M N ∧ jp_tc N t L (jp_it t L s i.toNat) ∧ (∀ k : Int, 0 ≤ k → k < i → N 7 k = jp_vl t L s k) ∧ (∀ k : Int, 0 ≤ k → k < i → jp_nf t L (jp_it t L s k.toNat) (jp_lo w k) (jp_hi D w k) (jp_not w k (jp_vl t L s 0)) = 0) ∧ jp_sta t L D w s = jp_sf t L D w (jp_vl t L s 0) (jp_nb w - i).toNat i (jp_it t L s i.toNat)) (fun r => ∃ N : jw_M, jp_r57 M N ∧ (((jp_sta t L D w s).1 ≠ 0 ∧ r = some ((jp_sta t L D w s).1, N) ∧ N 5 2 = (jp_sta t L D w s).2) ∨ ((jp_sta t L D w s).1 = 0 ∧ r = Option.bind (fX4_take 36 w (jw_up N 8 w (jw_w (N 8 w + 1)))) (fun M15 => some (0, M15)) ∧ jp_tc N t L (jp_sta t L D w s).2 ∧ (∀ k : Int, 0 ≤ k → k < jp_nb w → N 7 k = jp_vl t L s k) ∧ (∀ k : Int, 0 ≤ k → k < jp_nb w → jp_nf t L (jp_it t L s k.toNat) (jp_lo w k) (jp_hi D w k) (jp_not w k (jp_vl t L s 0)) = 0)))) ?_ ?_ jw_fu 0 M (by unfold jw_fu; omega) (by omega) ⟨by omega, ⟨fun _ _ _ => rfl, rfl⟩, hc, fun k a b => by omega, fun k a b => by omega, hst⟩
  · intro k i N hp hi ih
    obtain ⟨i0, hr, htc, h7, hnf, hsta⟩ := hp
    have hN := jp_r57_t h hr
    have hit := jp_it_r t hs i.toNat
    obtain ⟨q2, q3, q4, q5⟩ := id htc
    rw [show (jp_nb w - i).toNat = (jp_nb w - (i + 1)).toNat + 1 by omega, jp_sf] at hsta
    show ∃ N' : jw_M, jp_r57 M N' ∧ ((_ ∧ fX4_statement_33 36 (k + 1) w i N = _ ∧ _) ∨ (_ ∧ fX4_statement_33 36 (k + 1) w i N = _ ∧ _))
    rw [fX4_statement_33, if_pos hw, hj1, if_pos hi, q4]
    by_cases e1 : jp_kd t L (jp_it t L s i.toNat) = 2
    · rw [if_pos e1, gX4_isAsTold (a := jp_vl t L s 0) (D := D) hD0 hD2 (by rw [hr.1 8 (by decide) (by decide)]; exact h80) (by rw [hr.1 8 (by decide) (by decide)]; exact h82) e1 hit.2 (q5 e1) w i hw ⟨i0, hi⟩ (fun _ z => h7 0 (by omega) (by omega)), jp_bs]
      by_cases e2 : jp_nf t L (jp_it t L s i.toNat) (jp_lo w i) (jp_hi D w i) (jp_not w i (jp_vl t L s 0)) = 0
      · rw [if_pos e2] at hsta
        have hr7 : jp_r57 M (jw_up N 7 i (N 5 5)) := ⟨fun k a b => by rw [jw_up_ne _ b]; exact hr.1 k a b, by rw [jw_up_ne _ (by decide)]; exact hr.2⟩
        have h3 : jw_up N 7 i (N 5 5) 5 3 = jp_en t L (jp_it t L s i.toNat) := by rw [jw_up_ne _ (by decide)]; exact q3
        have h1 := jp_frm_r t hit.2
        have h2 := jp_en_r t hit.2
        obtain ⟨N', n1, n2, n3⟩ := gX4_nextToken (jp_r57_t h hr7) (jp_en t L (jp_it t L s i.toNat)) (by omega) h3
        have eit : jp_it t L s (i + 1).toNat = jp_en t L (jp_it t L s i.toNat) := by rw [show (i + 1).toNat = i.toNat + 1 by omega, jp_it]
        rw [if_pos e2, if_neg (by decide), if_pos (show 0 ≤ i ∧ i < 3 by omega), jp_bs, n1, jp_bs, jp_bs, jw_ws (by omega)]
        refine ih N' ⟨by omega, ⟨fun k a b => by rw [n2.1 k a]; exact hr7.1 k a b, by rw [n2.2]; exact hr7.2⟩, by rw [eit]; exact n3, fun j a b => ?_, fun j a b => ?_, by rw [eit]; exact hsta⟩
        · rw [n2.1 7 (by decide), jw_up_eq, jw_u1_a]
          by_cases z : j = i
          · rw [if_pos z, q5 e1, z]; rfl
          · rw [if_neg z]; exact h7 j a (by omega)
        · by_cases z : j = i
          · rw [z]; exact e2
          · exact hnf j a (by omega)
      · rw [if_neg e2] at hsta
        have hn2 : jp_nf t L (jp_it t L s i.toNat) (jp_lo w i) (jp_hi D w i) (jp_not w i (jp_vl t L s 0)) = 2 := by
          unfold jp_nf at e2 ⊢
          rw [if_pos e1] at e2 ⊢
          split at e2
          · exact absurd rfl e2
          · rename_i z
            rw [if_neg z]
        rw [hn2] at hsta
        rw [if_neg e2, if_pos rfl]
        refine ⟨N, hr, Or.inl ⟨by rw [hsta]; exact (by decide : (2 : Int) ≠ 0), by rw [hsta], by rw [hsta]; exact q2⟩⟩
    · have hn1 : jp_nf t L (jp_it t L s i.toNat) (jp_lo w i) (jp_hi D w i) (jp_not w i (jp_vl t L s 0)) = 1 := by unfold jp_nf; rw [if_neg e1]
      rw [hn1, if_neg (by decide)] at hsta
      rw [if_neg e1]
      exact ⟨N, hr, Or.inl ⟨by rw [hsta]; exact (by decide : (1 : Int) ≠ 0), by rw [hsta], by rw [hsta]; exact q2⟩⟩
  · intro k N hp
    obtain ⟨i0, hr, htc, h7, hnf, hsta⟩ := hp
    have hN := jp_r57_t h hr
    have hit := jp_it_r t hs (jp_nb w).toNat
    obtain ⟨q2, q3, q4, q5⟩ := id htc
    rw [show (jp_nb w - jp_nb w).toNat = 0 by omega, jp_sf] at hsta
    show ∃ N' : jw_M, jp_r57 M N' ∧ ((_ ∧ fX4_statement_33 36 (k + 1) w (jp_nb w) N = _ ∧ _) ∨ (_ ∧ fX4_statement_33 36 (k + 1) w (jp_nb w) N = _ ∧ _))
    rw [fX4_statement_33, if_pos hw, hj1, if_neg (by omega), q4]
    by_cases e1 : jp_kd t L (jp_it t L s (jp_nb w).toNat) = 3
    · rw [if_pos e1] at hsta
      have h1 := jp_frm_r t hit.2
      have h2 := jp_en_r t hit.2
      obtain ⟨N', n1, n2, n3⟩ := gX4_nextToken hN (jp_en t L (jp_it t L s (jp_nb w).toNat)) (by omega) q3
      rw [if_pos e1, n1, jp_bs, if_pos hw, if_pos hw, jp_bs]
      refine ⟨N', ⟨fun k a b => by rw [n2.1 k a]; exact hr.1 k a b, by rw [n2.2]; exact hr.2⟩, Or.inr ⟨by rw [hsta], rfl, by rw [hsta]; exact n3, fun j a b => by rw [n2.1 7 (by decide)]; exact h7 j a b, hnf⟩⟩
    · rw [if_neg e1] at hsta
      rw [if_neg e1]
      exact ⟨N, hr, Or.inl ⟨by rw [hsta]; exact (by decide : (1 : Int) ≠ 0), by rw [hsta], by rw [hsta]; exact q2⟩⟩
