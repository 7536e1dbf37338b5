/-! reading: the next token, by the class and by the model -/
theorem gX4_isLetter (a : Int) (M : jw_M) : fX4_isLetter a M = some (if 97 ≤ a ∧ a ≤ 122 then 1 else 0) := by
  unfold fX4_isLetter
  by_cases h1 : a < 97
  · rw [if_pos h1, if_neg (by omega)]
  · rw [if_neg h1]
    by_cases h2 : 122 < a
    · rw [if_pos h2, if_neg (by omega)]
    · rw [if_neg h2, if_pos (by omega)]
theorem bX4_isLetter (a : Int) (M : jw_M) {be : Type} (kk : _ → Option be) : Option.bind (fX4_isLetter a M) kk = kk ((if 97 ≤ a ∧ a ≤ 122 then 1 else 0)) := by rw [show fX4_isLetter a M = some (if 97 ≤ a ∧ a ≤ 122 then 1 else 0) from gX4_isLetter a M]; rfl
theorem gX4_isFigure (a : Int) (M : jw_M) : fX4_isFigure a M = some (if 48 ≤ a ∧ a ≤ 57 then 1 else 0) := by
  unfold fX4_isFigure
  by_cases h1 : a < 48
  · rw [if_pos h1, if_neg (by omega)]
  · rw [if_neg h1]
    by_cases h2 : 57 < a
    · rw [if_pos h2, if_neg (by omega)]
    · rw [if_neg h2, if_pos (by omega)]
theorem bX4_isFigure (a : Int) (M : jw_M) {be : Type} (kk : _ → Option be) : Option.bind (fX4_isFigure a M) kk = kk ((if 48 ≤ a ∧ a ≤ 57 then 1 else 0)) := by rw [show fX4_isFigure a M = some (if 48 ≤ a ∧ a ≤ 57 then 1 else 0) from gX4_isFigure a M]; rfl
theorem gX4_endOfName {M : jw_M} {t : Int → Int} {L : Int} (h : jp_tp M t L) (f : Int) (hf : 0 ≤ f ∧ f ≤ L) : fX4_endOfName f M = some (jp_run (jp_lt t) L f) := by
  obtain ⟨hL, h51, -⟩ := id h
  unfold fX4_endOfName
  rw [jp_bs]
  refine jp_up (fun k i (_ : Unit) => fX4_endOfName_2 M k i) L (fun i _ => 0 ≤ i ∧ jp_run (jp_lt t) L i = jp_run (jp_lt t) L f) (fun r => r = some (jp_run (jp_lt t) L f)) ?_ ?_ jw_fu f () (by unfold jw_fu; omega) (by omega) ⟨by omega, rfl⟩
  · intro k i _ hp hi ih
    obtain ⟨i0, hr⟩ := hp
    obtain ⟨-, -, -, c4, -⟩ := jp_tp_c h i0 hi
    show fX4_endOfName_2 M (k + 1) i = _
    rw [fX4_endOfName_2, h51, if_pos hi, if_pos (by omega), gX4_isLetter, jp_bs]
    by_cases e : jp_lt t i = true
    · rw [if_pos (c4.mpr e), if_neg (by decide), jp_bs, jw_ws (by omega)]
      exact ih () ⟨by omega, by rw [← hr, jp_run_y hi e]⟩
    · rw [if_neg (fun w => e (c4.mp w)), if_pos rfl, ← hr, jp_run_n (fun w => e w.2)]
  · intro k _ hp
    obtain ⟨i0, hr⟩ := hp
    show fX4_endOfName_2 M (k + 1) L = _
    rw [fX4_endOfName_2, h51, if_neg (by omega), ← hr, jp_run_n (by omega)]
theorem bX4_endOfName {M : jw_M} {t : Int → Int} {L : Int} (h : jp_tp M t L) (f : Int) (hf : 0 ≤ f ∧ f ≤ L) {be : Type} (kk : _ → Option be) : Option.bind (fX4_endOfName f M) kk = kk ((jp_run (jp_lt t) L f)) := by rw [show fX4_endOfName f M = some (jp_run (jp_lt t) L f) from gX4_endOfName h f hf]; rfl
/-- only the reader itself has changed -/
def jp_r5 (M N : jw_M) : Prop := (∀ k : Nat, k ≠ 5 → N k = M k) ∧ N 5 1 = M 5 1
theorem jp_r5_u {M N : jw_M} (h : jp_r5 M N) (j v : Int) (hj : j ≠ 1) : jp_r5 M (jw_up N 5 j v) := ⟨fun k hk => by rw [jw_up_ne _ hk]; exact h.1 k hk, by rw [jw_up_eq, jw_u1_n _ (fun e => hj e.symm)]; exact h.2⟩
theorem jp_r5_t {M N : jw_M} {t : Int → Int} {L : Int} (h : jp_tp M t L) (hr : jp_r5 M N) : jp_tp N t L := ⟨h.1, by rw [hr.2]; exact h.2.1, by rw [hr.1 6 (by decide)]; exact h.2.2⟩
theorem gX4_takeNumber {M : jw_M} {t : Int → Int} {L : Int} (h : jp_tp M t L) (f : Int) (hf : 0 ≤ f ∧ f < L) (hfi : jp_fi t f = true) : ∃ N : jw_M, fX4_takeNumber f M = some N ∧ jp_r5 M N ∧ N 5 2 = M 5 2 ∧ N 5 3 = jp_run (jp_fi t) L f ∧ N 5 4 = (if jp_run (jp_fi t) L f - f ≤ 3 then 2 else 4) ∧ (jp_run (jp_fi t) L f - f ≤ 3 → N 5 5 = jp_nv t f (jp_run (jp_fi t) L f - f).toNat) := by
  obtain ⟨hL, -⟩ := id h
  obtain ⟨q1, q2, q3, q4⟩ := jp_run_r (jp_fi t) L (L - f).toNat f rfl (by omega)
  have fin : ∀ (i : Int) (N : jw_M), 0 ≤ i → i ≤ L → jp_r5 M N → N 5 2 = M 5 2 → i = jp_run (jp_fi t) L f → (i - f ≤ 3 → N 5 5 = jp_nv t f (i - f).toNat) → ∃ N' : jw_M, fX4_takeNumber_61 f i N = some N' ∧ jp_r5 M N' ∧ N' 5 2 = M 5 2 ∧ N' 5 3 = jp_run (jp_fi t) L f ∧ N' 5 4 = (if jp_run (jp_fi t) L f - f ≤ 3 then 2 else 4) ∧ (jp_run (jp_fi t) L f - f ≤ 3 → N' 5 5 = jp_nv t f (jp_run (jp_fi t) L f - f).toNat) := by
    intro i N i0 i1 hr h2 hi h5
    unfold fX4_takeNumber_61 fX4_takeNumber_79
    rw [jp_bs, jw_ws (x := i - f) (by omega), ← hi]
    by_cases e : i - f ≤ 3
    · rw [if_neg (by omega), jp_bs, if_pos e]
      refine ⟨_, rfl, jp_r5_u (jp_r5_u hr _ _ (by decide)) _ _ (by decide), ?_, ?_, ?_, fun _ => ?_⟩
      · rw [jw_up_eq, jw_u1_n _ (by decide), jw_up_eq, jw_u1_n _ (by decide)]; exact h2
      · rw [jw_up_eq, jw_u1_n _ (by decide), jw_up_eq, jw_u1_s]
      · rw [jw_up_eq, jw_u1_s]
      · rw [jw_up_eq, jw_u1_n _ (by decide), jw_up_eq, jw_u1_n _ (by decide)]; exact h5 e
    · rw [if_pos (by omega), jp_bs, if_neg e]
      refine ⟨_, rfl, jp_r5_u (jp_r5_u hr _ _ (by decide)) _ _ (by decide), ?_, ?_, ?_, fun w => absurd w e⟩
      · rw [jw_up_eq, jw_u1_n _ (by decide), jw_up_eq, jw_u1_n _ (by decide)]; exact h2
      · rw [jw_up_eq, jw_u1_n _ (by decide), jw_up_eq, jw_u1_s]
      · rw [jw_up_eq, jw_u1_s]
  unfold fX4_takeNumber
  rw [jp_bs, jp_bs]
  refine jp_up (fun k i N => fX4_takeNumber_7 k f i N) L (fun i N => f ≤ i ∧ jp_r5 M N ∧ N 5 2 = M 5 2 ∧ jp_run (jp_fi t) L i = jp_run (jp_fi t) L f ∧ (i - f ≤ 3 → N 5 5 = jp_nv t f (i - f).toNat) ∧ (∀ j : Int, f ≤ j → j < i → jp_fi t j = true)) (fun r => ∃ N' : jw_M, r = some N' ∧ jp_r5 M N' ∧ N' 5 2 = M 5 2 ∧ N' 5 3 = jp_run (jp_fi t) L f ∧ N' 5 4 = (if jp_run (jp_fi t) L f - f ≤ 3 then 2 else 4) ∧ (jp_run (jp_fi t) L f - f ≤ 3 → N' 5 5 = jp_nv t f (jp_run (jp_fi t) L f - f).toNat)) ?_ ?_ jw_fu f _ (by unfold jw_fu; omega) (by omega) ⟨by omega, jp_r5_u ⟨fun _ _ => rfl, rfl⟩ _ _ (by decide), ?_, rfl, fun _ => ?_, fun j a b => by omega⟩
  · intro k i N hp hi ih
    obtain ⟨i0, hr, h2, hru, h5, hall⟩ := hp
    have hN := jp_r5_t h hr
    obtain ⟨-, -, -, -, c5, c6, -⟩ := jp_tp_c hN (by omega) hi
    show ∃ N' : jw_M, fX4_takeNumber_7 (k + 1) f i N = some N' ∧ _
    rw [fX4_takeNumber_7, hN.2.1, if_pos hi, if_pos (show 0 ≤ i ∧ i < 600 by omega), gX4_isFigure, jp_bs]
    unfold fX4_takeNumber_55
    by_cases e : jp_fi t i = true
    · have c7 := c6 e
      have ht := (jp_fi_i t i).mp e
      have hrun : jp_run (jp_fi t) L (i + 1) = jp_run (jp_fi t) L f := by rw [← hru, jp_run_y hi e]
      have hall' : ∀ j : Int, f ≤ j → j < i + 1 → jp_fi t j = true := fun j a b => by
        by_cases z : j = i
        · rw [z]; exact e
        · exact hall j a (by omega)
      rw [if_pos (c5.mpr e), if_neg (by decide), jw_ws (x := i - f) (by omega)]
      by_cases e3 : i - f < 3
      · have h5' := h5 (by omega)
        have hnr := jp_nv_r (t := t) (f := f) (i - f).toNat (by omega) (fun j a b => hall j a (by omega))
        rw [if_pos e3, if_pos (show 0 ≤ i ∧ i < 600 by omega), jp_bs, jp_bs, jw_ws (x := i + 1) (by omega), h5', c7, jw_ws (x := 10 * jp_nv t f (i - f).toNat) (by omega), jw_ws (x := 10 * jp_nv t f (i - f).toNat + t i) (by omega), jw_ws (by omega)]
        refine ih _ ⟨by omega, jp_r5_u hr _ _ (by decide), ?_, hrun, fun _ => ?_, hall'⟩
        · rw [jw_up_eq, jw_u1_n _ (by decide)]; exact h2
        · rw [jw_up_eq, jw_u1_s, show i + 1 - f = i - f + 1 by omega, jp_nv_s t f (by omega), show f + (i - f) = i by omega]
      · rw [if_neg e3, jp_bs, jw_ws (by omega)]
        exact ih N ⟨by omega, hr, h2, hrun, fun w => by omega, hall'⟩
    · rw [if_neg (fun w => e (c5.mp w)), if_pos rfl]
      exact fin i N (by omega) (by omega) hr h2 (by rw [← hru, jp_run_n (fun w => e w.2)]) h5
  · intro k N hp
    obtain ⟨i0, hr, h2, hru, h5, hall⟩ := hp
    have hN := jp_r5_t h hr
    show ∃ N' : jw_M, fX4_takeNumber_7 (k + 1) f L N = some N' ∧ _
    rw [fX4_takeNumber_7, hN.2.1, if_neg (by omega)]
    exact fin L N (by omega) (by omega) hr h2 (by rw [← hru, jp_run_n (by omega)]) h5
  · rw [jw_up_eq, jw_u1_n _ (by decide)]
  · rw [jw_up_eq, jw_u1_s, show (f - f).toNat = 0 by omega]
    rfl
/-- the class has read the token from s on -/
def jp_tc (N : jw_M) (t : Int → Int) (L s : Int) : Prop := N 5 2 = jp_frm t L s ∧ N 5 3 = jp_en t L s ∧ N 5 4 = jp_kd t L s ∧ (jp_kd t L s = 2 → N 5 5 = jp_nm t L s)
theorem gX4_nextToken {M : jw_M} {t : Int → Int} {L : Int} (h : jp_tp M t L) (s : Int) (hs : 0 ≤ s ∧ s ≤ L) (h53 : M 5 3 = s) : ∃ N : jw_M, fX4_nextToken M = some N ∧ jp_r5 M N ∧ jp_tc N t L s := by
  obtain ⟨hL, h51, -⟩ := id h
  have hfr := jp_frm_r t hs.2
  have fin : ∀ f : Int, f = jp_frm t L s → ∃ N : jw_M, fX4_nextToken_41 f M = some N ∧ jp_r5 M N ∧ jp_tc N t L s := by
    intro f hf
    rw [← hf] at hfr
    unfold jp_tc jp_nm jp_kd jp_en
    rw [← hf]
    unfold fX4_nextToken_41 fX4_nextToken_140
    rw [jp_bs, jp_bs, jw_ws (x := f + 1) (by omega)]
    have hr : jp_r5 M (jw_up (jw_up M 5 2 f) 5 3 (f + 1)) := jp_r5_u (jp_r5_u ⟨fun _ _ => rfl, rfl⟩ _ _ (by decide)) _ _ (by decide)
    have a2 : jw_up (jw_up M 5 2 f) 5 3 (f + 1) 5 2 = f := by rw [jw_up_eq, jw_u1_n _ (by decide), jw_up_eq, jw_u1_s]
    have a3 : jw_up (jw_up M 5 2 f) 5 3 (f + 1) 5 3 = f + 1 := by rw [jw_up_eq, jw_u1_s]
    generalize jw_up (jw_up M 5 2 f) 5 3 (f + 1) = M8 at hr a2 a3 ⊢
    have hN := jp_r5_t h hr
    rw [hN.2.1]
    unfold jp_kd0 jp_en0
    by_cases e0 : L ≤ f
    · rw [if_neg (by omega), jp_bs, jp_bs, if_pos e0, if_pos e0]
      refine ⟨_, rfl, jp_r5_u (jp_r5_u hr _ _ (by decide)) _ _ (by decide), ?_, ?_, ?_, fun w => by omega⟩
      · rw [jw_up_eq, jw_u1_n _ (by decide), jw_up_eq, jw_u1_n _ (by decide)]; exact a2
      · rw [jw_up_eq, jw_u1_n _ (by decide), jw_up_eq, jw_u1_s]
      · rw [jw_up_eq, jw_u1_s]
    · obtain ⟨c1, c2, c3, c4, c5, c6, c7⟩ := jp_tp_c hN (i := f) (by omega) (by omega)
      rw [if_pos (show f < L by omega), if_pos (show 0 ≤ f ∧ f < 600 by omega), gX4_isLetter, jp_bs, if_neg e0, if_neg e0]
      by_cases e1 : jp_lt t f = true
      · have hr2 := jp_r5_u hr 4 1 (by decide)
        rw [if_pos (c4.mpr e1), if_neg (by decide), jp_bs, gX4_endOfName (jp_r5_t h hr2) f (by omega), jp_bs, jp_bs, if_pos e1, if_pos e1]
        refine ⟨_, rfl, jp_r5_u hr2 _ _ (by decide), ?_, ?_, ?_, fun w => by omega⟩
        · rw [jw_up_eq, jw_u1_n _ (by decide), jw_up_eq, jw_u1_n _ (by decide)]; exact a2
        · rw [jw_up_eq, jw_u1_s]
        · rw [jw_up_eq, jw_u1_n _ (by decide), jw_up_eq, jw_u1_s]
      · rw [if_neg (fun w => e1 (c4.mp w)), if_pos rfl, if_pos (show 0 ≤ f ∧ f < 600 by omega), gX4_isFigure, jp_bs, if_neg e1, if_neg e1]
        by_cases e2 : jp_fi t f = true
        · obtain ⟨N, n1, n2, n3, n4, n5, n6⟩ := gX4_takeNumber hN f (by omega) e2
          rw [if_pos (c5.mpr e2), if_neg (by decide), n1, jp_bs, if_pos e2, if_pos e2]
          refine ⟨N, rfl, ⟨fun k hk => by rw [n2.1 k hk]; exact hr.1 k hk, by rw [n2.2]; exact hr.2⟩, by rw [n3]; exact a2, n4, n5, fun w => n6 ?_⟩
          by_cases z : jp_run (jp_fi t) L f - f ≤ 3
          · exact z
          · rw [if_neg z] at w; omega
        · rw [if_neg (fun w => e2 (c5.mp w)), if_pos rfl, if_pos (show 0 ≤ f ∧ f < 600 by omega), if_neg e2, if_neg e2]
          by_cases e3 : t f = 59
          · rw [if_pos (c3.mpr e3), jp_bs, if_pos e3]
            refine ⟨_, rfl, jp_r5_u hr _ _ (by decide), ?_, ?_, ?_, fun w => by omega⟩
            · rw [jw_up_eq, jw_u1_n _ (by decide)]; exact a2
            · rw [jw_up_eq, jw_u1_n _ (by decide)]; exact a3
            · rw [jw_up_eq, jw_u1_s]
          · rw [if_neg (fun w => e3 (c3.mp w)), jp_bs, if_neg e3]
            refine ⟨_, rfl, jp_r5_u hr _ _ (by decide), ?_, ?_, ?_, fun w => by omega⟩
            · rw [jw_up_eq, jw_u1_n _ (by decide)]; exact a2
            · rw [jw_up_eq, jw_u1_n _ (by decide)]; exact a3
            · rw [jw_up_eq, jw_u1_s]
  unfold fX4_nextToken
  rw [jp_bs, h53]
  refine jp_up (fun k i (_ : Unit) => fX4_nextToken_5 k i M) L (fun i _ => 0 ≤ i ∧ jp_run (jp_bl t) L i = jp_frm t L s) (fun r => ∃ N : jw_M, r = some N ∧ jp_r5 M N ∧ jp_tc N t L s) ?_ ?_ jw_fu s () (by unfold jw_fu; omega) (by omega) ⟨by omega, rfl⟩
  · intro k i _ hp hi ih
    obtain ⟨i0, hru⟩ := hp
    obtain ⟨c1, c2, -⟩ := jp_tp_c h i0 hi
    show ∃ N : jw_M, fX4_nextToken_5 (k + 1) i M = some N ∧ _
    rw [fX4_nextToken_5, h51, if_pos hi, if_pos (show 0 ≤ i ∧ i < 600 by omega)]
    unfold fX4_nextToken_35
    by_cases e1 : t i = 32
    · rw [if_pos (c1.mpr e1), jp_bs, jw_ws (by omega)]
      exact ih () ⟨by omega, by rw [← hru, jp_run_y hi ((jp_bl_i t i).mpr (Or.inl e1))]⟩
    · rw [if_neg (fun w => e1 (c1.mp w)), if_pos (show 0 ≤ i ∧ i < 600 by omega)]
      by_cases e2 : t i = 10
      · rw [if_pos (c2.mpr e2), jp_bs, jw_ws (by omega)]
        exact ih () ⟨by omega, by rw [← hru, jp_run_y hi ((jp_bl_i t i).mpr (Or.inr e2))]⟩
      · rw [if_neg (fun w => e2 (c2.mp w))]
        exact fin i (by rw [← hru, jp_run_n (fun w => by have := (jp_bl_i t i).mp w.2; omega)])
  · intro k _ hp
    obtain ⟨i0, hru⟩ := hp
    show ∃ N : jw_M, fX4_nextToken_5 (k + 1) L M = some N ∧ _
    rw [fX4_nextToken_5, h51, if_neg (by omega)]
    exact fin L (by rw [← hru, jp_run_n (by omega)])
