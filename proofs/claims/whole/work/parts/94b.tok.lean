/-! reading: the next token, by the model -/
def jp_mp (N : jw_M) (t : Int → Int) (L : Int) : Prop := (0 ≤ L ∧ L ≤ 600) ∧ N 127 12 = L ∧ N 134 = t ∧ ∀ i : Int, 0 ≤ i → i < L → 0 ≤ t i ∧ t i ≤ 255
def jp_tkm (k : Int) : Int := if k = 0 then 1 else if k = 1 then 2 else if k = 2 then 3 else if k = 3 then 4 else 0
def jp_tmm (N : jw_M) (t : Int → Int) (L s : Int) : Prop := N 127 13 = jp_en t L s ∧ N 127 14 = jp_tkm (jp_kd t L s) ∧ N 127 15 = jp_frm t L s ∧ N 127 16 = jp_en t L s
def jp_r4 (M N : jw_M) : Prop := (∀ k : Nat, k ≠ 127 → N k = M k) ∧ (∀ j : Int, j < 13 ∨ 16 < j → N 127 j = M 127 j)
theorem jp_r4_r (M : jw_M) : jp_r4 M M := ⟨fun _ _ => rfl, fun _ _ => rfl⟩
theorem jp_r4_u {M N : jw_M} (h : jp_r4 M N) (j v : Int) (hj : 13 ≤ j ∧ j ≤ 16) : jp_r4 M (jw_up N 127 j v) := ⟨fun k hk => by rw [jw_up_ne _ hk]; exact h.1 k hk, fun i hi => by rw [jw_up_eq, jw_u1_n _ (by omega)]; exact h.2 i hi⟩
theorem jp_r4_t {M N O : jw_M} (h : jp_r4 M N) (h2 : jp_r4 N O) : jp_r4 M O := ⟨fun k hk => by rw [h2.1 k hk, h.1 k hk], fun j hj => by rw [h2.2 j hj, h.2 j hj]⟩
theorem jp_r4_m {M N : jw_M} {t : Int → Int} {L : Int} (h : jp_mp M t L) (hr : jp_r4 M N) : jp_mp N t L := ⟨h.1, by rw [hr.2 12 (by omega)]; exact h.2.1, by rw [hr.1 134 (by decide)]; exact h.2.2.1, h.2.2.2⟩
theorem gX12_byteAt {N : jw_M} {t : Int → Int} {L : Int} (h : jp_mp N t L) (i : Int) (hi : 0 ≤ i) : fX12_byteAt i N = some (if i < L then t i else -1000000) := by
  obtain ⟨hL, h12, h134, -⟩ := h
  unfold fX12_byteAt
  rw [h12]
  by_cases e : i < L
  · rw [if_pos e, if_pos e, if_pos (by omega), h134]
  · rw [if_neg e, if_neg e]
theorem bX12_byteAt {N : jw_M} {t : Int → Int} {L : Int} (h : jp_mp N t L) (i : Int) (hi : 0 ≤ i) {be : Type} (kk : _ → Option be) : Option.bind (fX12_byteAt i N) kk = kk ((if i < L then t i else -1000000)) := by rw [show fX12_byteAt i N = some (if i < L then t i else -1000000) from gX12_byteAt h i hi]; rfl
theorem gX12_isLetter (a : Int) (M : jw_M) : fX12_isLetter a M = some (if 97 ≤ a ∧ a ≤ 122 then 1 else 0) := by
  unfold fX12_isLetter
  by_cases h1 : a < 97
  · rw [if_pos h1, if_neg (by omega)]
  · rw [if_neg h1]
    by_cases h2 : 122 < a
    · rw [if_pos h2, if_neg (by omega)]
    · rw [if_neg h2, if_pos (by omega)]
theorem bX12_isLetter (a : Int) (M : jw_M) {be : Type} (kk : _ → Option be) : Option.bind (fX12_isLetter a M) kk = kk ((if 97 ≤ a ∧ a ≤ 122 then 1 else 0)) := by rw [show fX12_isLetter a M = some (if 97 ≤ a ∧ a ≤ 122 then 1 else 0) from gX12_isLetter a M]; rfl
theorem gX12_isFigure (a : Int) (M : jw_M) : fX12_isFigure a M = some (if 48 ≤ a ∧ a ≤ 57 then 1 else 0) := by
  unfold fX12_isFigure
  by_cases h1 : a < 48
  · rw [if_pos h1, if_neg (by omega)]
  · rw [if_neg h1]
    by_cases h2 : 57 < a
    · rw [if_pos h2, if_neg (by omega)]
    · rw [if_neg h2, if_pos (by omega)]
theorem bX12_isFigure (a : Int) (M : jw_M) {be : Type} (kk : _ → Option be) : Option.bind (fX12_isFigure a M) kk = kk ((if 48 ≤ a ∧ a ≤ 57 then 1 else 0)) := by rw [show fX12_isFigure a M = some (if 48 ≤ a ∧ a ≤ 57 then 1 else 0) from gX12_isFigure a M]; rfl
theorem gX12_next_77 {M : jw_M} {t : Int → Int} {L : Int} (h : jp_mp M t L) (f : Int) (hf : 0 ≤ f ∧ f ≤ L) (h13 : M 127 13 = f) : ∃ N : jw_M, fX12_next_77 jw_fu M = some N ∧ jp_r4 M N ∧ N 127 13 = jp_run (jp_lt t) L f ∧ N 127 14 = 2 ∧ N 127 15 = M 127 15 ∧ N 127 16 = jp_run (jp_lt t) L f := by
  have hL := h.1
  have fin : ∀ (i : Int) (N : jw_M), jp_r4 M N → N 127 15 = M 127 15 → N 127 13 = i → i = jp_run (jp_lt t) L f → ∃ N' : jw_M, Option.bind (some (jw_up N 127 14 2)) (fun M31 => fX12_next_196 M31) = some N' ∧ jp_r4 M N' ∧ N' 127 13 = jp_run (jp_lt t) L f ∧ N' 127 14 = 2 ∧ N' 127 15 = M 127 15 ∧ N' 127 16 = jp_run (jp_lt t) L f := by
    intro i N hr h15 hi he
    unfold fX12_next_196
    rw [jp_bs, jp_bs]
    have e13 : jw_up N 127 14 2 127 13 = jp_run (jp_lt t) L f := by rw [jw_up_eq, jw_u1_n _ (by decide), hi, he]
    refine ⟨_, rfl, jp_r4_u (jp_r4_u hr _ _ (by decide)) _ _ (by decide), ?_, ?_, ?_, ?_⟩
    · rw [jw_up_eq, jw_u1_n _ (by decide)]; exact e13
    · rw [jw_up_eq, jw_u1_n _ (by decide), jw_up_eq, jw_u1_s]
    · rw [jw_up_eq, jw_u1_n _ (by decide), jw_up_eq, jw_u1_n _ (by decide)]; exact h15
    · rw [jw_up_eq, jw_u1_s]; exact e13
  refine jp_up (fun k i N => fX12_next_77 k N) L (fun i N => 0 ≤ i ∧ jp_r4 M N ∧ N 127 15 = M 127 15 ∧ N 127 13 = i ∧ jp_run (jp_lt t) L i = jp_run (jp_lt t) L f) (fun r => ∃ N : jw_M, r = some N ∧ jp_r4 M N ∧ N 127 13 = jp_run (jp_lt t) L f ∧ N 127 14 = 2 ∧ N 127 15 = M 127 15 ∧ N 127 16 = jp_run (jp_lt t) L f) ?_ ?_ jw_fu f M (by unfold jw_fu; omega) (by omega) ⟨by omega, jp_r4_r M, rfl, h13, rfl⟩
  · intro k i N hp hi ih
    obtain ⟨i0, hr, h15, hi13, hru⟩ := hp
    show ∃ N' : jw_M, fX12_next_77 (k + 1) N = some N' ∧ _
    rw [fX12_next_77, hi13, gX12_byteAt (jp_r4_m h hr) i i0, jp_bs, if_pos hi, gX12_isLetter, jp_bs]
    by_cases e : jp_lt t i = true
    · rw [if_pos ((jp_lt_i t i).mp e), if_neg (by decide), jp_bs, jw_ws (by omega)]
      refine ih _ ⟨by omega, jp_r4_u hr _ _ (by decide), ?_, ?_, ?_⟩
      · rw [jw_up_eq, jw_u1_n _ (by decide)]; exact h15
      · rw [jw_up_eq, jw_u1_s]
      · rw [← hru, jp_run_y hi e]
    · rw [if_neg (fun w => e ((jp_lt_i t i).mpr w)), if_pos rfl]
      exact fin i N hr h15 hi13 (by rw [← hru, jp_run_n (fun w => e w.2)])
  · intro k N hp
    obtain ⟨i0, hr, h15, hi13, hru⟩ := hp
    show ∃ N' : jw_M, fX12_next_77 (k + 1) N = some N' ∧ _
    rw [fX12_next_77, hi13, gX12_byteAt (jp_r4_m h hr) L i0, jp_bs, if_neg (by omega), gX12_isLetter, jp_bs, if_pos (by decide)]
    exact fin L N hr h15 hi13 (by rw [← hru, jp_run_n (by omega)])
theorem gX12_next_119 {M : jw_M} {t : Int → Int} {L : Int} (h : jp_mp M t L) (f : Int) (hf : 0 ≤ f ∧ f ≤ L) (h13 : M 127 13 = f) (h15 : M 127 15 = f) : ∃ N : jw_M, fX12_next_119 jw_fu M = some N ∧ jp_r4 M N ∧ N 127 13 = jp_run (jp_fi t) L f ∧ N 127 14 = (if jp_run (jp_fi t) L f - f ≤ 3 then 3 else 0) ∧ N 127 15 = f ∧ N 127 16 = jp_run (jp_fi t) L f := by
  have hL := h.1
  have fin : ∀ (i : Int) (N : jw_M), f ≤ i → i ≤ L → jp_r4 M N → N 127 15 = f → N 127 13 = i → i = jp_run (jp_fi t) L f → ∃ N' : jw_M, (if 3 < jw_w (N 127 13 - N 127 15) then fX12_next_165 0 N else fX12_next_165 3 N) = some N' ∧ jp_r4 M N' ∧ N' 127 13 = jp_run (jp_fi t) L f ∧ N' 127 14 = (if jp_run (jp_fi t) L f - f ≤ 3 then 3 else 0) ∧ N' 127 15 = f ∧ N' 127 16 = jp_run (jp_fi t) L f := by
    intro i N i0 i1 hr h15 hi he
    have go : ∀ v : Int, v = (if jp_run (jp_fi t) L f - f ≤ 3 then 3 else 0) → ∃ N' : jw_M, fX12_next_165 v N = some N' ∧ jp_r4 M N' ∧ N' 127 13 = jp_run (jp_fi t) L f ∧ N' 127 14 = (if jp_run (jp_fi t) L f - f ≤ 3 then 3 else 0) ∧ N' 127 15 = f ∧ N' 127 16 = jp_run (jp_fi t) L f := by
      intro v hv
      unfold fX12_next_165 fX12_next_196
      rw [jp_bs, jp_bs]
      have e13 : jw_up N 127 14 v 127 13 = jp_run (jp_fi t) L f := by rw [jw_up_eq, jw_u1_n _ (by decide), hi, he]
      refine ⟨_, rfl, jp_r4_u (jp_r4_u hr _ _ (by decide)) _ _ (by decide), ?_, ?_, ?_, ?_⟩
      · rw [jw_up_eq, jw_u1_n _ (by decide)]; exact e13
      · rw [jw_up_eq, jw_u1_n _ (by decide), jw_up_eq, jw_u1_s]; exact hv
      · rw [jw_up_eq, jw_u1_n _ (by decide), jw_up_eq, jw_u1_n _ (by decide)]; exact h15
      · rw [jw_up_eq, jw_u1_s]; exact e13
    rw [hi, h15, jw_ws (by omega)]
    by_cases e : i - f ≤ 3
    · rw [if_neg (by omega)]
      exact go 3 (by rw [← he, if_pos e])
    · rw [if_pos (by omega)]
      exact go 0 (by rw [← he, if_neg e])
  refine jp_up (fun k i N => fX12_next_119 k N) L (fun i N => f ≤ i ∧ jp_r4 M N ∧ N 127 15 = f ∧ N 127 13 = i ∧ jp_run (jp_fi t) L i = jp_run (jp_fi t) L f) (fun r => ∃ N : jw_M, r = some N ∧ jp_r4 M N ∧ N 127 13 = jp_run (jp_fi t) L f ∧ N 127 14 = (if jp_run (jp_fi t) L f - f ≤ 3 then 3 else 0) ∧ N 127 15 = f ∧ N 127 16 = jp_run (jp_fi t) L f) ?_ ?_ jw_fu f M (by unfold jw_fu; omega) (by omega) ⟨by omega, jp_r4_r M, h15, h13, rfl⟩
  · intro k i N hp hi ih
    obtain ⟨i0, hr, h15, hi13, hru⟩ := hp
    show ∃ N' : jw_M, fX12_next_119 (k + 1) N = some N' ∧ _
    rw [fX12_next_119]
    rw [show fX12_byteAt (N 127 13) N = some (t i) by rw [hi13, gX12_byteAt (jp_r4_m h hr) i (by omega), if_pos hi], jp_bs, gX12_isFigure, jp_bs]
    by_cases e : jp_fi t i = true
    · rw [if_pos ((jp_fi_i t i).mp e), if_neg (by decide), jp_bs, hi13, jw_ws (by omega)]
      refine ih _ ⟨by omega, jp_r4_u hr _ _ (by decide), ?_, ?_, ?_⟩
      · rw [jw_up_eq, jw_u1_n _ (by decide)]; exact h15
      · rw [jw_up_eq, jw_u1_s]
      · rw [← hru, jp_run_y hi e]
    · rw [if_neg (fun w => e ((jp_fi_i t i).mpr w)), if_pos rfl]
      exact fin i N i0 (by omega) hr h15 hi13 (by rw [← hru, jp_run_n (fun w => e w.2)])
  · intro k N hp
    obtain ⟨i0, hr, h15, hi13, hru⟩ := hp
    show ∃ N' : jw_M, fX12_next_119 (k + 1) N = some N' ∧ _
    rw [fX12_next_119]
    rw [show fX12_byteAt (N 127 13) N = some (-1000000) by rw [hi13, gX12_byteAt (jp_r4_m h hr) L (by omega), if_neg (by omega)], jp_bs, gX12_isFigure, jp_bs, if_pos (by decide)]
    exact fin L N i0 (by omega) hr h15 hi13 (by rw [← hru, jp_run_n (by omega)])
theorem gX12_next {M : jw_M} {t : Int → Int} {L : Int} (h : jp_mp M t L) (s : Int) (hs : 0 ≤ s ∧ s ≤ L) (h13 : M 127 13 = s) : ∃ N : jw_M, fX12_next M = some N ∧ jp_r4 M N ∧ jp_tmm N t L s := by
  have hL := h.1
  have hfr := jp_frm_r t hs.2
  have fin : ∀ (k : Nat) (f : Int) (N : jw_M), jp_r4 M N → N 127 13 = f → f = jp_frm t L s → ∃ N' : jw_M, fX12_next_0 (k + 1) N = some N' ∧ jp_r4 M N' ∧ jp_tmm N' t L s := by
    intro k f N hr hf he
    rw [← he] at hfr
    have hN := jp_r4_m h hr
    have hnb : ¬ (f < L ∧ jp_bl t f = true) := by rw [he]; exact (jp_run_r (jp_bl t) L (L - s).toNat s rfl hs.2).2.2.2
    unfold jp_tmm jp_kd jp_en
    rw [← he]
    have hb : fX12_byteAt (N 127 13) N = some (if f < L then t f else -1000000) := by rw [hf]; exact gX12_byteAt hN f (by omega)
    have hr8 := jp_r4_u hr 15 (N 127 13) (by decide)
    have hb8 : fX12_byteAt (jw_up N 127 15 (N 127 13) 127 13) (jw_up N 127 15 (N 127 13)) = some (if f < L then t f else -1000000) := by
      rw [jw_up_eq, jw_u1_n _ (by decide), hf, ← hf]
      exact gX12_byteAt (jp_r4_m h hr8) (N 127 13) (by omega) |>.trans (by rw [hf])
    have a13 : jw_up N 127 15 (N 127 13) 127 13 = f := by rw [jw_up_eq, jw_u1_n _ (by decide)]; exact hf
    have a15 : jw_up N 127 15 (N 127 13) 127 15 = f := by rw [jw_up_eq, jw_u1_s]; exact hf
    rw [fX12_next_0, hb, jp_bs]
    have n32 : ¬ (if f < L then t f else -1000000) = 32 := by
      split
      · intro w
        exact hnb ⟨by omega, (jp_bl_i t f).mpr (Or.inl w)⟩
      · decide
    have n10 : ¬ (if f < L then t f else -1000000) = 10 := by
      split
      · intro w
        exact hnb ⟨by omega, (jp_bl_i t f).mpr (Or.inr w)⟩
      · decide
    rw [if_neg n32, jp_bs, if_neg n10, jp_bs, hb8, jp_bs, jp_bs]
    generalize jw_up N 127 15 (N 127 13) = M8 at hr8 hb8 a13 a15 ⊢
    have hm8 := jp_r4_m h hr8
    unfold fX12_next_196 fX12_next_193 fX12_next_196 jp_kd0 jp_en0
    by_cases e0 : L ≤ f
    · have ev : (if f < L then t f else -1000000) = -1000000 := if_neg (by omega)
      rw [ev, if_pos rfl, jp_bs, jp_bs, if_pos e0, if_pos e0]
      have e13 : jw_up M8 127 14 1 127 13 = f := by rw [jw_up_eq, jw_u1_n _ (by decide)]; exact a13
      refine ⟨_, rfl, jp_r4_u (jp_r4_u hr8 _ _ (by decide)) _ _ (by decide), ?_, ?_, ?_, ?_⟩
      · rw [jw_up_eq, jw_u1_n _ (by decide)]; exact e13
      · rw [jw_up_eq, jw_u1_n _ (by decide), jw_up_eq, jw_u1_s]; rfl
      · rw [jw_up_eq, jw_u1_n _ (by decide), jw_up_eq, jw_u1_n _ (by decide)]; exact a15
      · rw [jw_up_eq, jw_u1_s]; exact e13
    · have ev : (if f < L then t f else -1000000) = t f := if_pos (by omega)
      have hbt := h.2.2.2 f (by omega) (by omega)
      rw [ev, if_neg (by omega), gX12_isLetter, jp_bs, if_neg e0, if_neg e0]
      by_cases e1 : jp_lt t f = true
      · obtain ⟨N', n1, n2, n3, n4, n5, n6⟩ := gX12_next_77 hm8 f (by omega) a13
        rw [if_pos ((jp_lt_i t f).mp e1), if_neg (by decide), if_pos e1, if_pos e1]
        exact ⟨N', n1, jp_r4_t hr8 n2, n3, n4, by rw [n5]; exact a15, n6⟩
      · rw [if_neg (fun w => e1 ((jp_lt_i t f).mpr w)), if_pos rfl, gX12_isFigure, jp_bs, if_neg e1, if_neg e1]
        by_cases e2 : jp_fi t f = true
        · obtain ⟨N', n1, n2, n3, n4, n5, n6⟩ := gX12_next_119 hm8 f (by omega) a13 a15
          rw [if_pos ((jp_fi_i t f).mp e2), if_neg (by decide), if_pos e2, if_pos e2]
          refine ⟨N', n1, jp_r4_t hr8 n2, n3, ?_, n5, n6⟩
          rw [n4]
          by_cases e3 : jp_run (jp_fi t) L f - f ≤ 3
          · rw [if_pos e3, if_pos e3]; rfl
          · rw [if_neg e3, if_neg e3]; rfl
        · rw [if_neg (fun w => e2 ((jp_fi_i t f).mpr w)), if_pos rfl, jp_bs, if_neg e2, if_neg e2, a13, jw_ws (by omega)]
          have go : ∀ v : Int, v = jp_tkm (if t f = 59 then 3 else 4) → ∃ N' : jw_M, Option.bind (some (jw_up (jw_up M8 127 13 (f + 1)) 127 14 v)) (fun M19 => Option.bind (some (jw_up M19 127 16 (M19 127 13))) (fun M14 => some M14)) = some N' ∧ jp_r4 M N' ∧ N' 127 13 = f + 1 ∧ N' 127 14 = jp_tkm (if t f = 59 then 3 else 4) ∧ N' 127 15 = f ∧ N' 127 16 = f + 1 := by
            intro v hv
            rw [jp_bs, jp_bs]
            have e13 : jw_up (jw_up M8 127 13 (f + 1)) 127 14 v 127 13 = f + 1 := by rw [jw_up_eq, jw_u1_n _ (by decide), jw_up_eq, jw_u1_s]
            refine ⟨_, rfl, jp_r4_u (jp_r4_u (jp_r4_u hr8 _ _ (by decide)) _ _ (by decide)) _ _ (by decide), ?_, ?_, ?_, ?_⟩
            · rw [jw_up_eq, jw_u1_n _ (by decide)]; exact e13
            · rw [jw_up_eq, jw_u1_n _ (by decide), jw_up_eq, jw_u1_s]; exact hv
            · rw [jw_up_eq, jw_u1_n _ (by decide), jw_up_eq, jw_u1_n _ (by decide), jw_up_eq, jw_u1_n _ (by decide)]; exact a15
            · rw [jw_up_eq, jw_u1_s]; exact e13
          by_cases e3 : t f = 59
          · rw [if_pos e3]
            exact go 4 (by rw [if_pos e3]; rfl)
          · rw [if_neg e3]
            exact go 0 (by rw [if_neg e3]; rfl)
  unfold fX12_next
  refine jp_up (fun k i N => fX12_next_0 k N) L (fun i N => 0 ≤ i ∧ jp_r4 M N ∧ N 127 13 = i ∧ jp_run (jp_bl t) L i = jp_frm t L s) (fun r => ∃ N : jw_M, r = some N ∧ jp_r4 M N ∧ jp_tmm N t L s) ?_ ?_ jw_fu s M (by unfold jw_fu; omega) (by omega) ⟨by omega, jp_r4_r M, h13, rfl⟩
  · intro k i N hp hi ih
    obtain ⟨i0, hr, hi13, hru⟩ := hp
    show ∃ N' : jw_M, fX12_next_0 (k + 1) N = some N' ∧ _
    by_cases e : jp_bl t i = true
    · have hb : fX12_byteAt (N 127 13) N = some (t i) := by rw [hi13, gX12_byteAt (jp_r4_m h hr) i i0, if_pos hi]
      have nx := ih (jw_up N 127 13 (i + 1)) ⟨by omega, jp_r4_u hr _ _ (by decide), by rw [jw_up_eq, jw_u1_s], by rw [← hru, jp_run_y hi e]⟩
      rw [fX12_next_0, hb, jp_bs]
      unfold fX12_next_26
      rcases (jp_bl_i t i).mp e with w | w
      · rw [if_pos w, jp_bs, hi13, jw_ws (by omega)]
        exact nx
      · rw [if_neg (by omega), jp_bs, if_pos w, jp_bs, hi13, jw_ws (by omega)]
        exact nx
    · exact fin k i N hr hi13 (by rw [← hru, jp_run_n (fun w => e w.2)])
  · intro k N hp
    obtain ⟨i0, hr, hi13, hru⟩ := hp
    show ∃ N' : jw_M, fX12_next_0 (k + 1) N = some N' ∧ _
    exact fin k L N hr hi13 (by rw [← hru, jp_run_n (by omega)])
