/-! reading: words -/
theorem jp_l8 {x b : Int} (hx : 0 ≤ x ∧ x < 18014398509481984) (hb : 0 ≤ b ∧ b < 256) : jw_lor (jw_lshl x 8) b = 256 * x + b := by
  obtain ⟨n, rfl⟩ := Int.eq_ofNat_of_zero_le hx.1
  obtain ⟨m, rfl⟩ := Int.eq_ofNat_of_zero_le hb.1
  have hn : n < 18014398509481984 := by omega
  have hm : m < 256 := by omega
  unfold jw_lor jw_lshl
  rw [Int64.ofInt_toInt]
  have e1 : ((Int64.ofInt ((n : Nat) : Int) <<< ((Int32.ofInt 8).toInt64 &&& 63)) ||| Int64.ofInt ((m : Nat) : Int)).toBitVec = (BitVec.ofInt 64 ((n : Nat) : Int) <<< (((Int32.ofInt 8).toInt64 &&& 63).toBitVec.smod 64)) ||| BitVec.ofInt 64 ((m : Nat) : Int) := rfl
  have e2 : (((Int32.ofInt 8).toInt64 &&& 63).toBitVec.smod 64) = 8#64 := by decide
  have e3 : (BitVec.ofInt 64 ((n : Nat) : Int) <<< 8#64 ||| BitVec.ofInt 64 ((m : Nat) : Int)).toNat = n * 256 + m := by
    rw [BitVec.ofInt_natCast, BitVec.ofInt_natCast, BitVec.toNat_or, BitVec.shiftLeft_eq', BitVec.toNat_shiftLeft, BitVec.toNat_ofNat, BitVec.toNat_ofNat]
    have h8 : 8 % 2 ^ 64 = 8 := by decide
    rw [BitVec.toNat_ofNat, h8, Nat.mod_eq_of_lt (show n < 2 ^ 64 by omega), Nat.mod_eq_of_lt (show m < 2 ^ 64 by omega), Nat.shiftLeft_eq, Nat.mod_eq_of_lt (show n * 2 ^ 8 < 2 ^ 64 by omega)]
    have := Nat.shiftLeft_add_eq_or_of_lt (i := 8) (b := m) (by omega) n
    rw [Nat.shiftLeft_eq] at this
    rw [← this]
  rw [← Int64.toInt_toBitVec, e1, e2, BitVec.toInt_eq_toNat_of_lt (by rw [e3]; omega), e3]
  omega
def jp_wl : List Int := [109330312357234, 126943972648308, 444251202675, 126879447934322, 33602674740454770, 109287261888882, 7102839]
def jp_wco (w : Int) : Int := jp_wl.getD w.toNat 0
def jp_wc (t : Int → Int) (L s : Int) : Int := if jp_kd t L s = 1 ∧ jp_en t L s - jp_frm t L s < 8 then jp_cb 256 (fun j => t (jp_frm t L s + j)) (jp_en t L s - jp_frm t L s).toNat else 0
def jp_wod (t : Int → Int) (L s : Int) : Int := if jp_wc t L s = 109330312357234 then 0 else if jp_wc t L s = 126943972648308 then 1 else if jp_wc t L s = 444251202675 then 2 else if jp_wc t L s = 126879447934322 then 3 else if jp_wc t L s = 33602674740454770 then 4 else if jp_wc t L s = 109287261888882 then 5 else if jp_wc t L s = 7102839 then 6 else -1
theorem jp_wod_i (t : Int → Int) (L s : Int) : (jp_wc t L s = 109330312357234 ↔ jp_wod t L s = 0) ∧ (jp_wc t L s = 126943972648308 ↔ jp_wod t L s = 1) ∧ (jp_wc t L s = 444251202675 ↔ jp_wod t L s = 2) ∧ (jp_wc t L s = 126879447934322 ↔ jp_wod t L s = 3) ∧ (jp_wc t L s = 33602674740454770 ↔ jp_wod t L s = 4) ∧ (jp_wc t L s = 109287261888882 ↔ jp_wod t L s = 5) ∧ (jp_wc t L s = 7102839 ↔ jp_wod t L s = 6) ∧ (-1 ≤ jp_wod t L s ∧ jp_wod t L s ≤ 6) := by
  unfold jp_wod
  generalize jp_wc t L s = v
  by_cases h0 : v = 109330312357234
  · rw [if_pos h0]; omega
  · rw [if_neg h0]
    by_cases h1 : v = 126943972648308
    · rw [if_pos h1]; omega
    · rw [if_neg h1]
      by_cases h2 : v = 444251202675
      · rw [if_pos h2]; omega
      · rw [if_neg h2]
        by_cases h3 : v = 126879447934322
        · rw [if_pos h3]; omega
        · rw [if_neg h3]
          by_cases h4 : v = 33602674740454770
          · rw [if_pos h4]; omega
          · rw [if_neg h4]
            by_cases h5 : v = 109287261888882
            · rw [if_pos h5]; omega
            · rw [if_neg h5]
              by_cases h6 : v = 7102839
              · rw [if_pos h6]; omega
              · rw [if_neg h6]; omega
theorem jp_wod_k {t : Int → Int} {L s : Int} (h : jp_wod t L s ≠ -1) : jp_kd t L s = 1 := by
  by_cases e : jp_kd t L s = 1
  · exact e
  · exfalso
    apply h
    have hz : jp_wc t L s = 0 := by
      unfold jp_wc
      rw [if_neg (fun w => e w.1)]
    unfold jp_wod
    rw [hz]
    decide
theorem jp_cb_97 {x : Int → Int} : ∀ n : Nat, 1 ≤ n → (∀ j : Int, 0 ≤ j → j < (n : Int) → 97 ≤ x j) → 97 * 256 ^ (n - 1) ≤ jp_cb 256 x n := by
  intro n
  induction n with
  | zero => intro h; omega
  | succ n ih =>
    intro _ h
    rw [jp_cb]
    by_cases e : n = 0
    · subst e
      have h1 := h 0 (by omega) (by omega)
      have h2 : jp_cb 256 x 0 = 0 := rfl
      have h3 : (256 : Int) ^ (0 + 1 - 1) = 1 := by decide
      rw [h2, h3]
      show 97 * 1 ≤ 256 * 0 + x 0
      omega
    · have h1 := ih (by omega) (fun j a b => h j a (by omega))
      have h2 := h n (by omega) (by omega)
      rw [show n + 1 - 1 = (n - 1) + 1 by omega, Int.pow_succ]
      omega
theorem jp_wn : ∀ (w : Fin 7) (n : Fin 8), 1 ≤ (n : Nat) → 97 * 256 ^ ((n : Nat) - 1) ≤ jp_wco ((w : Nat) : Int) → jp_wco ((w : Nat) : Int) < 256 ^ (n : Nat) → ((n : Nat) : Int) = jw_sl ((w : Nat) : Int) := by decide +kernel
theorem jp_ws : ∀ (w : Fin 7), jp_cb 256 (jw_sc ((w : Nat) : Int)) (jw_sl ((w : Nat) : Int)).toNat = jp_wco ((w : Nat) : Int) ∧ 3 ≤ jw_sl ((w : Nat) : Int) ∧ jw_sl ((w : Nat) : Int) ≤ 7 ∧ jp_wco ((w : Nat) : Int) ≠ 0 ∧ ∀ k : Fin 7, ((k : Nat) : Int) < jw_sl ((w : Nat) : Int) → 97 ≤ jw_sc ((w : Nat) : Int) ((k : Nat) : Int) ∧ jw_sc ((w : Nat) : Int) ((k : Nat) : Int) ≤ 122 := by decide +kernel
/-- spelt so, or of that number: the same -/
theorem jp_sp2 {t : Int → Int} {L s : Int} (hs : s ≤ L) (hk : jp_kd t L s = 1) {w : Int} (hw : 0 ≤ w ∧ w < 7) : (jp_en t L s - jp_frm t L s = jw_sl w ∧ ∀ k : Int, 0 ≤ k → k < jw_sl w → t (jp_frm t L s + k) = jw_sc w k) ↔ jp_wc t L s = jp_wco w := by
  obtain ⟨k1, k2⟩ := jp_kd_1 hs hk
  have a := jp_ws ⟨w.toNat, by omega⟩
  simp only [Int.toNat_of_nonneg hw.1] at a
  obtain ⟨a1, a2, a3, a4, a5⟩ := a
  have a5' : ∀ k : Int, 0 ≤ k → k < jw_sl w → 97 ≤ jw_sc w k ∧ jw_sc w k ≤ 122 := by
    intro k p q
    have := a5 ⟨k.toNat, by omega⟩
    simp only [Int.toNat_of_nonneg p] at this
    exact this q
  unfold jp_wc
  constructor
  · rintro ⟨h1, h2⟩
    rw [if_pos ⟨hk, by omega⟩, h1, ← a1]
    exact jp_cb_c _ (fun j p q => h2 j p (by omega))
  · intro h
    by_cases e : jp_en t L s - jp_frm t L s < 8
    · rw [if_pos ⟨hk, e⟩] at h
      have hl : ∀ j : Int, 0 ≤ j → j < (((jp_en t L s - jp_frm t L s).toNat : Nat) : Int) → 97 ≤ t (jp_frm t L s + j) ∧ t (jp_frm t L s + j) ≤ 122 := fun j p q => (jp_lt_i _ _).mp (k2 _ (by omega) (by omega))
      have b1 := jp_cb_97 (x := fun j => t (jp_frm t L s + j)) (jp_en t L s - jp_frm t L s).toNat (by omega) (fun j p q => (hl j p q).1)
      have b2 := (jp_cb_r (B := 256) (by omega) (x := fun j => t (jp_frm t L s + j)) (jp_en t L s - jp_frm t L s).toNat (fun j p q => by have := hl j p q; exact ⟨by omega, by omega⟩)).2
      rw [h] at b1 b2
      have c := jp_wn ⟨w.toNat, by omega⟩ ⟨(jp_en t L s - jp_frm t L s).toNat, by omega⟩
      simp only [Int.toNat_of_nonneg hw.1] at c
      have c2 := c (by omega) b1 b2
      have hlen : jp_en t L s - jp_frm t L s = jw_sl w := by omega
      refine ⟨hlen, fun k p q => ?_⟩
      have := jp_cb_eq (B := 256) (by omega) (x := fun j => t (jp_frm t L s + j)) (y := jw_sc w) (n := (jp_en t L s - jp_frm t L s).toNat) (fun j p q => by have := hl j p q; exact ⟨by omega, by omega⟩) (fun j p q => by have := a5' j p (by omega); omega) (by rw [h, hlen, a1])
      exact this k p (by omega)
    · rw [if_neg (fun w => e w.2)] at h
      exact absurd h.symm a4
theorem gX4_spells {M : jw_M} {t : Int → Int} {L s : Int} (h : jp_tp M t L) (hs : 0 ≤ s ∧ s ≤ L) (hc : jp_tc M t L s) (hk : jp_kd t L s = 1) (w : Int) (hw : 0 ≤ w ∧ w < 7) : fX4_spells w M = some (if jp_wc t L s = jp_wco w then 1 else 0, M) := by
  obtain ⟨hL, h51, -⟩ := id h
  obtain ⟨c2, c3, -⟩ := hc
  have hf := jp_frm_r t hs.2
  have he := jp_en_r t hs.2
  obtain ⟨k1, k2⟩ := jp_kd_1 hs.2 hk
  have hsp := jp_sp2 hs.2 hk hw
  have a := jp_ws ⟨w.toNat, by omega⟩
  simp only [Int.toNat_of_nonneg hw.1] at a
  obtain ⟨-, a2, a3, -, -⟩ := a
  have e6 : ∀ k : Int, jp_frm t L s ≤ k → k < jp_en t L s → M 6 k = t k := fun k p q => (jp_tp_c h (i := k) (by omega) (by omega)).2.2.2.2.2.2 (k2 k p q)
  unfold fX4_spells
  rw [c2, c3, jw_ws (x := jp_en t L s - jp_frm t L s) (by omega)]
  by_cases e : jp_en t L s - jp_frm t L s = jw_sl w
  · rw [if_pos e, jp_bs]
    refine jp_up (fun k i (_ : Unit) => fX4_spells_20 w k i M) (jw_sl w) (fun i _ => 0 ≤ i ∧ ∀ k : Int, 0 ≤ k → k < i → t (jp_frm t L s + k) = jw_sc w k) (fun r => r = some (if jp_wc t L s = jp_wco w then 1 else 0, M)) ?_ ?_ jw_fu 0 () (by unfold jw_fu; omega) (by omega) ⟨by omega, fun k p q => by omega⟩
    · intro k i _ hp hi ih
      obtain ⟨i0, hall⟩ := hp
      show fX4_spells_20 w (k + 1) i M = _
      rw [fX4_spells_20, if_pos hi, c2, jw_ws (x := jp_frm t L s + i) (by omega), if_pos (by omega), if_pos (by omega), e6 _ (by omega) (by omega)]
      by_cases e2 : t (jp_frm t L s + i) = jw_sc w i
      · rw [if_pos e2, jp_bs, jw_ws (by omega)]
        refine ih () ⟨by omega, fun k p q => ?_⟩
        by_cases z : k = i
        · rw [z]; exact e2
        · exact hall k p (by omega)
      · rw [if_neg e2, if_neg (fun w2 => e2 ((hsp.mpr w2).2 i i0 hi))]
    · intro k _ hp
      obtain ⟨i0, hall⟩ := hp
      show fX4_spells_20 w (k + 1) (jw_sl w) M = _
      rw [fX4_spells_20, if_neg (by omega), if_pos (hsp.mp ⟨e, hall⟩)]
  · rw [if_neg e, if_neg (fun w2 => e (hsp.mpr w2).1)]
theorem bX4_spells {M : jw_M} {t : Int → Int} {L s : Int} (h : jp_tp M t L) (hs : 0 ≤ s ∧ s ≤ L) (hc : jp_tc M t L s) (hk : jp_kd t L s = 1) (w : Int) (hw : 0 ≤ w ∧ w < 7) {be : Type} (kk : Int → jw_M → Option be) : jw_b2 (fX4_spells w M) kk = kk (if jp_wc t L s = jp_wco w then 1 else 0) (M) := by rw [show fX4_spells w M = some (if jp_wc t L s = jp_wco w then 1 else 0, M) from gX4_spells h hs hc hk w hw]; rfl
theorem gX4_wordHere {M : jw_M} {t : Int → Int} {L s : Int} (h : jp_tp M t L) (hs : 0 ≤ s ∧ s ≤ L) (hc : jp_tc M t L s) (hk : jp_kd t L s = 1) : fX4_wordHere M = some (jp_wod t L s, M) := by
  obtain ⟨i0, i1, i2, i3, i4, i5, i6, i7⟩ := jp_wod_i t L s
  unfold fX4_wordHere
  rw [jp_bs]
  refine jp_up (fun k i (_ : Unit) => fX4_wordHere_2 k i M) 7 (fun i _ => 0 ≤ i ∧ ¬ (0 ≤ jp_wod t L s ∧ jp_wod t L s < i)) (fun r => r = some (jp_wod t L s, M)) ?_ ?_ jw_fu 0 () (by unfold jw_fu; omega) (by omega) ⟨by omega, by omega⟩
  · intro k i _ hp hi ih
    obtain ⟨h0, hn⟩ := hp
    have hsp := gX4_spells h hs hc hk i ⟨h0, hi⟩
    have hcode : jp_wc t L s = jp_wco i ↔ jp_wod t L s = i := by
      have hi7 : i = 0 ∨ i = 1 ∨ i = 2 ∨ i = 3 ∨ i = 4 ∨ i = 5 ∨ i = 6 := by omega
      rcases hi7 with rfl | rfl | rfl | rfl | rfl | rfl | rfl
      · exact i0
      · exact i1
      · exact i2
      · exact i3
      · exact i4
      · exact i5
      · exact i6
    have hsl : fX4_spelling i M = some i := by
      unfold fX4_spelling
      have hi7 : i = 0 ∨ i = 1 ∨ i = 2 ∨ i = 3 ∨ i = 4 ∨ i = 5 ∨ i = 6 := by omega
      rcases hi7 with rfl | rfl | rfl | rfl | rfl | rfl | rfl <;> rfl
    show fX4_wordHere_2 (k + 1) i M = _
    rw [fX4_wordHere_2, if_pos hi, hsl, jp_bs, hsp, jp_b2s]
    by_cases e : jp_wod t L s = i
    · rw [if_pos (hcode.mpr e), if_neg (by decide), e]
    · rw [if_neg (fun w => e (hcode.mp w)), if_pos rfl, jp_bs, jw_ws (by omega)]
      exact ih () ⟨by omega, by omega⟩
  · intro k _ hp
    show fX4_wordHere_2 (k + 1) 7 M = _
    rw [fX4_wordHere_2, if_neg (by decide), show jp_wod t L s = -1 by omega]
theorem bX4_wordHere {M : jw_M} {t : Int → Int} {L s : Int} (h : jp_tp M t L) (hs : 0 ≤ s ∧ s ≤ L) (hc : jp_tc M t L s) (hk : jp_kd t L s = 1) {be : Type} (kk : Int → jw_M → Option be) : jw_b2 (fX4_wordHere M) kk = kk (jp_wod t L s) (M) := by rw [show fX4_wordHere M = some (jp_wod t L s, M) from gX4_wordHere h hs hc hk]; rfl
theorem gX12_word {N : jw_M} {t : Int → Int} {L s : Int} (h : jp_mp N t L) (hs : 0 ≤ s ∧ s ≤ L) (hc : jp_tmm N t L s) : fX12_word N = some (if N 127 17 = 0 then jp_wc t L s else 0) := by
  obtain ⟨hL, h12, h134, hbt⟩ := id h
  obtain ⟨c13, c14, c15, c16⟩ := hc
  have hf := jp_frm_r t hs.2
  have he := jp_en_r t hs.2
  have hkv := jp_kd_v t L s
  have fin : ∀ x : Int, x = jp_wc t L s → fX12_word_56 N x = some (if N 127 17 = 0 then jp_wc t L s else 0) := by
    intro x hx
    unfold fX12_word_56
    by_cases e : N 127 17 = 0
    · rw [if_pos e, if_pos e, hx]
    · rw [if_neg e, if_neg e]
  unfold fX12_word
  rw [jp_bs, jp_bs, c15]
  by_cases hg : jp_kd t L s = 1 ∧ jp_en t L s - jp_frm t L s < 8
  · have c14' : N 127 14 = 2 := by rw [c14, hg.1]; rfl
    refine jp_up (fun k i x => fX12_word_7 N k x i) (jp_en t L s) (fun i x => jp_frm t L s ≤ i ∧ x = jp_cb 256 (fun j => t (jp_frm t L s + j)) (i - jp_frm t L s).toNat) (fun r => r = some (if N 127 17 = 0 then jp_wc t L s else 0)) ?_ ?_ jw_fu (jp_frm t L s) 0 (by unfold jw_fu; omega) (by omega) ⟨by omega, by rw [show (jp_frm t L s - jp_frm t L s).toNat = 0 by omega]; rfl⟩
    · intro k i x hp hi ih
      obtain ⟨i0, hx⟩ := hp
      have hti := hbt i (by omega) (by omega)
      have hr := jp_cb_r (B := 256) (by omega) (x := fun j => t (jp_frm t L s + j)) (i - jp_frm t L s).toNat (fun j p q => by have := hbt (jp_frm t L s + j) (by omega) (by omega); exact ⟨by omega, by omega⟩)
      have hp6 : (256 : Int) ^ (i - jp_frm t L s).toNat ≤ 281474976710656 := by
        have h6 : (i - jp_frm t L s).toNat ≤ 6 := by omega
        have := (by decide +kernel : ∀ n : Fin 7, (256 : Int) ^ (n : Nat) ≤ 281474976710656) ⟨(i - jp_frm t L s).toNat, by omega⟩
        exact this
      show fX12_word_7 N (k + 1) x i = _
      rw [fX12_word_7, c16, if_pos hi, c14', if_pos rfl, c15, jw_ws (x := jp_en t L s - jp_frm t L s) (by omega), if_pos hg.2, if_pos (by omega), jp_bs, jp_bs, jw_ws (by omega), h134, hx, jp_l8 (by omega) (by omega)]
      refine ih _ ⟨by omega, ?_⟩
      rw [show (i + 1 - jp_frm t L s).toNat = (i - jp_frm t L s).toNat + 1 by omega, jp_cb, show jp_frm t L s + (((i - jp_frm t L s).toNat : Nat) : Int) = i by omega]
    · intro k x hp
      obtain ⟨i0, hx⟩ := hp
      show fX12_word_7 N (k + 1) x (jp_en t L s) = _
      rw [fX12_word_7, c16, if_neg (by omega)]
      refine fin x ?_
      rw [hx]
      unfold jp_wc
      rw [if_pos hg]
  · have hz : jp_wc t L s = 0 := by unfold jp_wc; rw [if_neg hg]
    show fX12_word_7 N (99999 + 1) 0 (jp_frm t L s) = _
    rw [fX12_word_7, c16]
    by_cases e1 : jp_frm t L s < jp_en t L s
    · rw [if_pos e1]
      by_cases e2 : N 127 14 = 2
      · have hk1 : jp_kd t L s = 1 := by
          rw [c14] at e2
          unfold jp_tkm at e2
          rcases hkv with w | w | w | w | w <;> rw [w] at e2 <;> first | exact w | exact absurd e2 (by decide)
        rw [if_pos e2, c15, jw_ws (by omega), if_neg (fun w => hg ⟨hk1, w⟩)]
        exact fin 0 hz.symm
      · rw [if_neg e2]
        exact fin 0 hz.symm
    · rw [if_neg e1]
      exact fin 0 hz.symm
theorem bX12_word {N : jw_M} {t : Int → Int} {L s : Int} (h : jp_mp N t L) (hs : 0 ≤ s ∧ s ≤ L) (hc : jp_tmm N t L s) {be : Type} (kk : _ → Option be) : Option.bind (fX12_word N) kk = kk ((if N 127 17 = 0 then jp_wc t L s else 0)) := by rw [show fX12_word N = some (if N 127 17 = 0 then jp_wc t L s else 0) from gX12_word h hs hc]; rfl
