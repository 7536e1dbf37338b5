/-! reading: the whole text, by the model -/
theorem jp_sf_0 {t : Int → Int} {L s : Int} {D : Int → Int} {w a : Int} : ∀ (m : Nat) (k : Int), 0 ≤ k → (jp_sf t L D w a m k (jp_it t L s k.toNat)).1 = 0 → ∀ i : Int, k ≤ i → i < k + m → jp_nf t L (jp_it t L s i.toNat) (jp_lo w i) (jp_hi D w i) (jp_not w i a) = 0 := by
  intro m
  induction m with
  | zero => intro k _ _ i a b; omega
  | succ m ih =>
    intro k hk h i h1 h2
    rw [jp_sf] at h
    by_cases e : jp_nf t L (jp_it t L s k.toNat) (jp_lo w k) (jp_hi D w k) (jp_not w k a) = 0
    · rw [if_pos e] at h
      by_cases e2 : i = k
      · rw [e2]; exact e
      · have eit : jp_it t L s (k + 1).toNat = jp_en t L (jp_it t L s k.toNat) := by rw [show (k + 1).toNat = k.toNat + 1 by omega, jp_it]
        exact ih (k + 1) (by omega) (by rw [eit]; exact h) i (by omega) (by omega)
    · rw [if_neg e] at h
      exact absurd h e
theorem jp_vk_s {t : Int → Int} {L s : Int} {D : Int → Int} {w : Int} (hw : 0 ≤ w ∧ w < 7) (h : (jp_sta t L D w s).1 = 0) : jp_vk D w (jp_vl t L s 0) (jp_vl t L s 1) (jp_vl t L s 2) := by
  have hnb := jp_nb_r hw
  refine jp_vk_o hw (fun k a b => ?_)
  exact jp_sf_0 (t := t) (L := L) (s := s) (D := D) (w := w) (a := jp_vl t L s 0) (jp_nb w).toNat 0 (by omega) h k (by omega) (by omega)
theorem gX12_word_f {M N : jw_M} {f p : Int} (h : jp_ft M N f p) : fX12_word N = some 0 := by
  obtain ⟨⟨h1, h2, h3⟩, h4, h5, h6⟩ := h
  have fin : ∀ x : Int, fX12_word_56 N x = some 0 := by
    intro x
    unfold fX12_word_56
    rw [if_neg (by omega)]
  unfold fX12_word
  rw [jp_bs, jp_bs]
  by_cases e : N 127 15 < N 127 16
  · refine jp_up (fun k i x => fX12_word_7 N k x i) (N 127 16) (fun i _ => N 127 15 ≤ i) (fun r => r = some 0) ?_ ?_ jw_fu (N 127 15) 0 (by unfold jw_fu; omega) (by omega) (by omega)
    · intro k i x hp hi ih
      show fX12_word_7 N (k + 1) x i = _
      rw [fX12_word_7, if_pos hi, fin]
      by_cases e2 : N 127 14 = 2
      · rw [if_pos e2]
        by_cases e3 : jw_w (N 127 16 - N 127 15) < 8
        · rw [if_pos e3, if_pos (by omega), jp_bs, jp_bs, jw_ws (by omega)]
          exact ih _ (by omega)
        · rw [if_neg e3]
      · rw [if_neg e2]
    · intro k x hp
      show fX12_word_7 N (k + 1) x (N 127 16) = _
      rw [fX12_word_7, if_neg (by omega), fin]
  · show fX12_word_7 N (99999 + 1) 0 (N 127 15) = _
    rw [fX12_word_7, if_neg e, fin]
theorem bX12_word_f {M N : jw_M} {f p : Int} (h : jp_ft M N f p) {be : Type} (kk : _ → Option be) : Option.bind (fX12_word N) kk = kk (0) := by rw [show fX12_word N = some 0 from gX12_word_f h]; rfl
/-- the end of reading -/
def jp_tail (N : jw_M) : Option (Int × jw_M) := if (0 : Int) < N 127 17 then Option.bind (some (jw_up N 127 11 (N 127 17))) (fun M24 => some (jw_v (-9000000000000000100 - M24 127 18), M24)) else Option.bind (some (jw_up N 127 7 1)) (fun M26 => Option.bind (some 0) (fun v27 => fX12_pavement_192 jw_fu v27 M26))
def jp_lab (p : Int) (k : Nat) (N : jw_M) : Option (Int × jw_M) := if p = 0 then fX12_pavement_86 k N else if p = 1 then fX12_pavement_104 k N else if p = 2 then fX12_pavement_138 k N else if p = 3 then Option.bind (fX12_readPeople_0 k N) jp_tail else if p = 4 then Option.bind (fX12_readPeople_18 k N) jp_tail else if p = 5 then Option.bind (fX12_readPeople_36 k N) jp_tail else Option.bind (fX12_readPeople_69 N) jp_tail
def jp_rdw (w : Int) (N : jw_M) : Option jw_M := if w = 0 then fX12_readCorner N else if w = 1 then fX12_readStreet N else if w = 2 then fX12_readGoods N else if w = 3 then fX12_readSeller N else if w = 4 then fX12_readWatcher N else if w = 5 then fX12_readCellar N else fX12_readLaw N
theorem jp_lab_0 {N : jw_M} {c : Int} (hc : fX12_word N = some c) (k : Nat) : jp_lab 0 (k + 1) N = if c = 109330312357234 then Option.bind (jp_rdw 0 N) (jp_lab 0 k) else jp_lab 1 jw_fu N := by
  show fX12_pavement_86 (k + 1) N = _
  rw [fX12_pavement_86, hc, jp_bs]
  simp only [jw_cmp_eq]
  rfl
theorem jp_lab_1 {N : jw_M} {c : Int} (hc : fX12_word N = some c) (k : Nat) : jp_lab 1 (k + 1) N = if c = 126943972648308 then Option.bind (jp_rdw 1 N) (jp_lab 1 k) else if c = 444251202675 then jp_lab 2 jw_fu N else Option.bind (fX12_bad 1 N) (jp_lab 2 jw_fu) := by
  show fX12_pavement_104 (k + 1) N = _
  rw [fX12_pavement_104, hc, jp_bs, jp_bs]
  simp only [jw_cmp_eq]
  rfl
theorem jp_lab_2 {N : jw_M} {c : Int} (hc : fX12_word N = some c) (k : Nat) : jp_lab 2 (k + 1) N = if c = 444251202675 then Option.bind (jp_rdw 2 N) (jp_lab 2 k) else jp_lab 3 jw_fu N := by
  show fX12_pavement_138 (k + 1) N = _
  rw [fX12_pavement_138, hc, jp_bs]
  simp only [jw_cmp_eq]
  rfl
theorem jp_ba {α β γ : Type} (a : Option α) (f : α → Option β) (g : β → Option γ) : Option.bind (Option.bind a f) g = Option.bind a (fun x => Option.bind (f x) g) := by cases a <;> rfl
theorem jp_bif {α β : Type} (c : Prop) [Decidable c] (a b : Option α) (g : α → Option β) : Option.bind (if c then a else b) g = if c then Option.bind a g else Option.bind b g := by split <;> rfl
theorem jp_lab_3 {N : jw_M} {c : Int} (hc : fX12_word N = some c) (k : Nat) : jp_lab 3 (k + 1) N = if c = 126879447934322 then Option.bind (jp_rdw 3 N) (jp_lab 3 k) else jp_lab 4 jw_fu N := by
  show Option.bind (fX12_readPeople_0 (k + 1) N) jp_tail = _
  rw [fX12_readPeople_0, hc, jp_bs, jp_bif, jp_ba]
  simp only [jw_cmp_eq]
  rfl
theorem jp_lab_4 {N : jw_M} {c : Int} (hc : fX12_word N = some c) (k : Nat) : jp_lab 4 (k + 1) N = if c = 33602674740454770 then Option.bind (jp_rdw 4 N) (jp_lab 4 k) else jp_lab 5 jw_fu N := by
  show Option.bind (fX12_readPeople_18 (k + 1) N) jp_tail = _
  rw [fX12_readPeople_18, hc, jp_bs, jp_bif, jp_ba]
  simp only [jw_cmp_eq]
  rfl
theorem jp_lab_5 {N : jw_M} {c : Int} (hc : fX12_word N = some c) (k : Nat) : jp_lab 5 (k + 1) N = if c = 109287261888882 then Option.bind (jp_rdw 5 N) (jp_lab 5 k) else if c = 7102839 then Option.bind (jp_rdw 6 N) (jp_lab 6 k) else jp_lab 6 k N := by
  show Option.bind (fX12_readPeople_36 (k + 1) N) jp_tail = _
  rw [fX12_readPeople_36, hc, jp_bs, jp_bs, jp_bif, jp_ba, jp_bif, jp_ba]
  simp only [jw_cmp_eq]
  rfl
theorem jp_lab_f {M N : jw_M} {f p : Int} (h : jp_ft M N f p) (w : Int) (hw : 0 ≤ w ∧ w < 7) (k : Nat) : jp_lab w (k + 1) N = jp_tail N := by
  have hwd := gX12_word_f h
  have hfu : jw_fu = 99999 + 1 := rfl
  have l6 : ∀ k : Nat, jp_lab 6 k N = jp_tail N := by
    intro k
    show Option.bind (fX12_readPeople_69 N) jp_tail = _
    unfold fX12_readPeople_69
    have := h.2.2.2
    rw [h.2.1, if_neg (by omega), jp_bs]
  have l5 : ∀ k : Nat, jp_lab 5 (k + 1) N = jp_tail N := fun k => by rw [jp_lab_5 hwd, if_neg (by decide), if_neg (by decide), l6]
  have l4 : ∀ k : Nat, jp_lab 4 (k + 1) N = jp_tail N := fun k => by rw [jp_lab_4 hwd, if_neg (by decide), hfu, l5]
  have l3 : ∀ k : Nat, jp_lab 3 (k + 1) N = jp_tail N := fun k => by rw [jp_lab_3 hwd, if_neg (by decide), hfu, l4]
  have l2 : ∀ k : Nat, jp_lab 2 (k + 1) N = jp_tail N := fun k => by rw [jp_lab_2 hwd, if_neg (by decide), hfu, l3]
  have l1 : ∀ k : Nat, jp_lab 1 (k + 1) N = jp_tail N := fun k => by rw [jp_lab_1 hwd, if_neg (by decide), if_neg (by decide), gX12_bad_f h, jp_bs, hfu, l2]
  have l0 : ∀ k : Nat, jp_lab 0 (k + 1) N = jp_tail N := fun k => by rw [jp_lab_0 hwd, if_neg (by decide), hfu, l1]
  have h1 : w = 0 ∨ w = 1 ∨ w = 2 ∨ w = 3 ∨ w = 4 ∨ w = 5 ∨ w = 6 := by omega
  rcases h1 with rfl | rfl | rfl | rfl | rfl | rfl | rfl
  · exact l0 k
  · exact l1 k
  · exact l2 k
  · exact l3 k
  · exact l4 k
  · exact l5 k
  · exact l6 _
/-- to the statement's label -/
theorem jp_lab_g {M N : jw_M} {t : Int → Int} {L s : Int} {D : Int → Int} (h : jp_okm M N t L D s) (hs : 0 ≤ s ∧ s ≤ L) {last : Int} (hl : 0 ≤ last) (hm : jp_mf last (jp_wod t L s) = true) {m k : Nat} (hk : m < k) (hm2 : m < 1000) : ∃ k' : Nat, m < k' + 1 ∧ jp_lab last k N = Option.bind (jp_rdw (jp_wod t L s) N) (jp_lab (jp_wod t L s) k') := by
  obtain ⟨i0, i1, i2, i3, i4, i5, i6, i7⟩ := jp_wod_i t L s
  obtain ⟨m0, m1, m2, m3⟩ := jp_mf_i hm
  have hwd : fX12_word N = some (jp_wc t L s) := by rw [gX12_word h.2.1 hs h.2.2.1, h.2.2.2.1, if_pos rfl]
  have hfu : jw_fu = 99999 + 1 := rfl
  generalize jp_wod t L s = w at *
  have l5 : ∀ k : Nat, m < k → 5 ≤ w → ∃ k' : Nat, m < k' + 1 ∧ jp_lab 5 k N = Option.bind (jp_rdw w N) (jp_lab w k') := by
    intro k hk hw
    obtain ⟨k, rfl⟩ : ∃ j, k = j + 1 := ⟨k - 1, by omega⟩
    refine ⟨k, hk, ?_⟩
    rw [jp_lab_5 hwd]
    by_cases e : w = 5
    · rw [if_pos (i5.mpr e), e]
    · have e6 : w = 6 := by omega
      rw [if_neg (fun z => e (i5.mp z)), if_pos (i6.mpr e6), e6]
  have l4 : ∀ k : Nat, m < k → 4 ≤ w → ∃ k' : Nat, m < k' + 1 ∧ jp_lab 4 k N = Option.bind (jp_rdw w N) (jp_lab w k') := by
    intro k hk hw
    obtain ⟨k, rfl⟩ : ∃ j, k = j + 1 := ⟨k - 1, by omega⟩
    rw [jp_lab_4 hwd]
    by_cases e : w = 4
    · refine ⟨k, hk, ?_⟩
      rw [if_pos (i4.mpr e), e]
    · rw [if_neg (fun z => e (i4.mp z))]
      exact l5 _ (by omega) (by omega)
  have l3 : ∀ k : Nat, m < k → 3 ≤ w → ∃ k' : Nat, m < k' + 1 ∧ jp_lab 3 k N = Option.bind (jp_rdw w N) (jp_lab w k') := by
    intro k hk hw
    obtain ⟨k, rfl⟩ : ∃ j, k = j + 1 := ⟨k - 1, by omega⟩
    rw [jp_lab_3 hwd]
    by_cases e : w = 3
    · refine ⟨k, hk, ?_⟩
      rw [if_pos (i3.mpr e), e]
    · rw [if_neg (fun z => e (i3.mp z))]
      exact l4 _ (by omega) (by omega)
  have l2 : ∀ k : Nat, m < k → 2 ≤ w → ∃ k' : Nat, m < k' + 1 ∧ jp_lab 2 k N = Option.bind (jp_rdw w N) (jp_lab w k') := by
    intro k hk hw
    obtain ⟨k, rfl⟩ : ∃ j, k = j + 1 := ⟨k - 1, by omega⟩
    rw [jp_lab_2 hwd]
    by_cases e : w = 2
    · refine ⟨k, hk, ?_⟩
      rw [if_pos (i2.mpr e), e]
    · rw [if_neg (fun z => e (i2.mp z))]
      exact l3 _ (by omega) (by omega)
  have l1 : ∀ k : Nat, m < k → 1 ≤ w → w ≤ 2 → ∃ k' : Nat, m < k' + 1 ∧ jp_lab 1 k N = Option.bind (jp_rdw w N) (jp_lab w k') := by
    intro k hk hw hw2
    obtain ⟨k, rfl⟩ : ∃ j, k = j + 1 := ⟨k - 1, by omega⟩
    rw [jp_lab_1 hwd]
    by_cases e : w = 1
    · refine ⟨k, hk, ?_⟩
      rw [if_pos (i1.mpr e), e]
    · rw [if_neg (fun z => e (i1.mp z)), if_pos (i2.mpr (by omega))]
      exact l2 _ (by omega) (by omega)
  have m3' := m3 (by omega)
  have h1 : last = 0 ∨ last = 1 ∨ last = 2 ∨ last = 3 ∨ last = 4 ∨ last = 5 := by omega
  rcases h1 with rfl | rfl | rfl | rfl | rfl | rfl
  · obtain ⟨k, rfl⟩ : ∃ j, k = j + 1 := ⟨k - 1, by omega⟩
    rw [jp_lab_0 hwd]
    by_cases e : w = 0
    · refine ⟨k, hk, ?_⟩
      rw [if_pos (i0.mpr e), e]
    · rw [if_neg (fun z => e (i0.mp z))]
      exact l1 _ (by omega) (by omega) (by omega)
  · exact l1 k hk (by omega) (by omega)
  · exact l2 k hk (by omega)
  · exact l3 k hk (by omega)
  · exact l4 k hk (by omega)
  · exact l5 k hk (by omega)
/-- no such statement may stand here -/
theorem jp_lab_b {M N : jw_M} {t : Int → Int} {L s : Int} {D : Int → Int} (h : jp_okm M N t L D s) (hs : 0 ≤ s ∧ s ≤ L) {last : Int} (hl : 0 ≤ last ∧ last ≤ 6) (hm : jp_mf last (jp_wod t L s) = false) (k : Nat) : ∃ N' : jw_M, jp_lab last (k + 1) N = jp_tail N' ∧ ((jp_kd t L s = 0 ∧ 2 ≤ last ∧ N' = N) ∨ (¬ (jp_kd t L s = 0 ∧ 2 ≤ last) ∧ jp_ft M N' 1 (jp_frm t L s))) := by
  obtain ⟨i0, i1, i2, i3, i4, i5, i6, i7⟩ := jp_wod_i t L s
  have hwd : fX12_word N = some (jp_wc t L s) := by rw [gX12_word h.2.1 hs h.2.2.1, h.2.2.2.1, if_pos rfl]
  have hfu : jw_fu = 99999 + 1 := rfl
  obtain ⟨B, b1, b2, b3⟩ := gX12_bad_o h hs 1 (by decide)
  have hkv := jp_kd_v t L s
  have hnot : ∀ v : Int, jp_mf last v = true → jp_wod t L s ≠ v := fun v hv e => by rw [e, hv] at hm; exact Bool.noConfusion hm
  have hmt : ∀ v : Int, 0 ≤ v → v ≤ 6 → last ≤ v → last ≠ 6 → (2 ≤ last ∨ v ≤ 2) → jp_mf last v = true := by
    intro v a b c d e
    unfold jp_mf
    rw [decide_eq_true (show v ≠ -1 by omega), decide_eq_true d, if_neg (by omega), decide_eq_true c, Bool.true_and, Bool.true_and, Bool.true_and, Bool.or_eq_true, decide_eq_true_iff, decide_eq_true_iff]
    exact e
  have l6 : ∀ k : Nat, 2 ≤ last → ∃ N' : jw_M, jp_lab 6 k N = jp_tail N' ∧ ((jp_kd t L s = 0 ∧ 2 ≤ last ∧ N' = N) ∨ (¬ (jp_kd t L s = 0 ∧ 2 ≤ last) ∧ jp_ft M N' 1 (jp_frm t L s))) := by
    intro k h2
    show ∃ N' : jw_M, Option.bind (fX12_readPeople_69 N) jp_tail = jp_tail N' ∧ _
    unfold fX12_readPeople_69
    rw [h.2.2.2.1, if_pos rfl, h.2.2.1.2.1]
    by_cases e : jp_kd t L s = 0
    · rw [e, if_pos (by decide), jp_bs]
      exact ⟨N, rfl, Or.inl ⟨rfl, h2, rfl⟩⟩
    · have : ¬ jp_tkm (jp_kd t L s) = 1 := by
        unfold jp_tkm
        rcases hkv with w | w | w | w | w <;> rw [w] <;> first | exact absurd w e | decide
      rw [if_neg this, b1, jp_bs, jp_bs]
      exact ⟨B, rfl, Or.inr ⟨fun z => e z.1, b2⟩⟩
  have l5 : ∀ k : Nat, 2 ≤ last → last ≤ 5 → ∃ N' : jw_M, jp_lab 5 (k + 1) N = jp_tail N' ∧ ((jp_kd t L s = 0 ∧ 2 ≤ last ∧ N' = N) ∨ (¬ (jp_kd t L s = 0 ∧ 2 ≤ last) ∧ jp_ft M N' 1 (jp_frm t L s))) := by
    intro k h2 h5
    rw [jp_lab_5 hwd, if_neg (fun z => hnot 5 (hmt 5 (by omega) (by omega) (by omega) (by omega) (by omega)) (i5.mp z)), if_neg (fun z => hnot 6 (hmt 6 (by omega) (by omega) (by omega) (by omega) (by omega)) (i6.mp z))]
    exact l6 k h2
  have l4 : ∀ k : Nat, 2 ≤ last → last ≤ 4 → ∃ N' : jw_M, jp_lab 4 (k + 1) N = jp_tail N' ∧ ((jp_kd t L s = 0 ∧ 2 ≤ last ∧ N' = N) ∨ (¬ (jp_kd t L s = 0 ∧ 2 ≤ last) ∧ jp_ft M N' 1 (jp_frm t L s))) := by
    intro k h2 h5
    rw [jp_lab_4 hwd, if_neg (fun z => hnot 4 (hmt 4 (by omega) (by omega) (by omega) (by omega) (by omega)) (i4.mp z))]
    exact l5 99999 h2 (by omega)
  have l3 : ∀ k : Nat, 2 ≤ last → last ≤ 3 → ∃ N' : jw_M, jp_lab 3 (k + 1) N = jp_tail N' ∧ ((jp_kd t L s = 0 ∧ 2 ≤ last ∧ N' = N) ∨ (¬ (jp_kd t L s = 0 ∧ 2 ≤ last) ∧ jp_ft M N' 1 (jp_frm t L s))) := by
    intro k h2 h5
    rw [jp_lab_3 hwd, if_neg (fun z => hnot 3 (hmt 3 (by omega) (by omega) (by omega) (by omega) (by omega)) (i3.mp z))]
    exact l4 99999 h2 (by omega)
  have l2 : ∀ k : Nat, 2 ≤ last → last ≤ 2 → ∃ N' : jw_M, jp_lab 2 (k + 1) N = jp_tail N' ∧ ((jp_kd t L s = 0 ∧ 2 ≤ last ∧ N' = N) ∨ (¬ (jp_kd t L s = 0 ∧ 2 ≤ last) ∧ jp_ft M N' 1 (jp_frm t L s))) := by
    intro k h2 h5
    rw [jp_lab_2 hwd, if_neg (fun z => hnot 2 (hmt 2 (by omega) (by omega) (by omega) (by omega) (by omega)) (i2.mp z))]
    exact l3 99999 h2 (by omega)
  have l1 : ∀ k : Nat, last ≤ 1 → ∃ N' : jw_M, jp_lab 1 (k + 1) N = jp_tail N' ∧ ((jp_kd t L s = 0 ∧ 2 ≤ last ∧ N' = N) ∨ (¬ (jp_kd t L s = 0 ∧ 2 ≤ last) ∧ jp_ft M N' 1 (jp_frm t L s))) := by
    intro k h5
    rw [jp_lab_1 hwd, if_neg (fun z => hnot 1 (hmt 1 (by omega) (by omega) (by omega) (by omega) (by omega)) (i1.mp z)), if_neg (fun z => hnot 2 (hmt 2 (by omega) (by omega) (by omega) (by omega) (by omega)) (i2.mp z)), b1, jp_bs, hfu, jp_lab_f b2 2 (by decide)]
    exact ⟨B, rfl, Or.inr ⟨fun z => by omega, b2⟩⟩
  have h1 : last = 0 ∨ last = 1 ∨ last = 2 ∨ last = 3 ∨ last = 4 ∨ last = 5 ∨ last = 6 := by omega
  rcases h1 with rfl | rfl | rfl | rfl | rfl | rfl | rfl
  · rw [jp_lab_0 hwd, if_neg (fun z => hnot 0 (hmt 0 (by omega) (by omega) (by omega) (by omega) (by omega)) (i0.mp z))]
    exact l1 99999 (by omega)
  · exact l1 k (by omega)
  · exact l2 k (by omega) (by omega)
  · exact l3 k (by omega) (by omega)
  · exact l4 k (by omega) (by omega)
  · exact l5 k (by omega) (by omega)
  · exact l6 _ (by omega)
theorem jp_rdw_q {M N : jw_M} {t : Int → Int} {L s : Int} {D : Int → Int} (h : jp_okm M N t L D s) (hs : 0 ≤ s ∧ s ≤ L) (hD : jp_Dk D) {w : Int} (hw : 0 ≤ w ∧ w < 7) (h6 : w = 6 → D 6 = 0) : jp_rd2 M t L D w s (jp_rdw w N) := by
  have h1 : w = 0 ∨ w = 1 ∨ w = 2 ∨ w = 3 ∨ w = 4 ∨ w = 5 ∨ w = 6 := by omega
  rcases h1 with rfl | rfl | rfl | rfl | rfl | rfl | rfl
  · exact gX12_read_0 h hs hD
  · exact gX12_read_1 h hs hD
  · exact gX12_read_2 h hs hD
  · exact gX12_read_3 h hs hD
  · exact gX12_read_4 h hs hD
  · exact gX12_read_5 h hs hD
  · exact gX12_read_6 h hs hD (h6 rfl)
/-- what reading leaves -/
def jp_redd (M : jw_M) (P : Int × Int × (Int → Int)) (r : Option (Int × jw_M)) : Prop := ∃ N' : jw_M, r = jp_tail N' ∧ ((P.1 ≠ 0 ∧ jp_ft M N' P.1 P.2.1) ∨ (P.1 = 0 ∧ jp_mfr M N' ∧ N' 127 17 = 0 ∧ ∀ j : Int, 0 ≤ j → j < 104 → N' 132 j = P.2.2 j))
def jp_lwk (D : Int → Int) (last : Int) : Prop := (-1 ≤ last ∧ last ≤ 6) ∧ (last ≤ 5 → D 6 = 0)
theorem jp_lwk_t {D : Int → Int} (h : jp_Dk D) {last w a b c : Int} (hl : jp_lwk D last) (hw : 0 ≤ w ∧ w < 7) (hm : jp_mf last w = true) (hv : jp_vk D w a b c) : jp_lwk (jp_tko w D a b c) w := by
  have k := jp_tko_c h hw hv
  obtain ⟨m0, m1, m2, m3⟩ := jp_mf_i hm
  obtain ⟨l0, l3⟩ := hl
  unfold jp_lwk
  rw [k 6 (by decide) (by decide)]
  refine ⟨by omega, fun _ => ?_⟩
  rw [if_neg (by omega)]
  exact l3 (by omega)
theorem gX12_reads {M : jw_M} {t : Int → Int} {L : Int} : ∀ (m : Nat) (last s : Int) (D : Int → Int) (k : Nat) (N : jw_M), jp_mu D < (m : Int) → m < k → m < 1000 → (0 ≤ s ∧ s ≤ L) → jp_okm M N t L D s → jp_Dk D → jp_lwk D last → 0 ≤ last → jp_redd M (jp_prs t L m last s D) (jp_lab last k N) := by
  intro m
  induction m with
  | zero =>
    intro last s D k N hmu _ _ _ _ hD _ _
    have := hD.1
    unfold jp_mu at hmu
    omega
  | succ m ih =>
    intro last s D k N hmu hk hm2 hs hok hD hla hl
    obtain ⟨i0, i1, i2, i3, i4, i5, i6, i7⟩ := jp_wod_i t L s
    have h5' := jp_frm_r t hs.2
    have h6' := jp_en_r t hs.2
    cases hmf : jp_mf last (jp_wod t L s) with
    | false =>
      obtain ⟨k, rfl⟩ : ∃ j, k = j + 1 := ⟨k - 1, by omega⟩
      obtain ⟨N', n1, n2⟩ := jp_lab_b hok hs ⟨hl, hla.1.2⟩ hmf k
      refine ⟨N', n1, ?_⟩
      rcases n2 with ⟨z1, z2, z3⟩ | ⟨z1, z2⟩
      · rw [jp_prs, if_pos ⟨z1, z2⟩, z3]
        exact Or.inr ⟨rfl, hok.1, hok.2.2.2.1, hok.2.2.2.2⟩
      · rw [jp_prs, if_neg z1, if_pos hmf]
        exact Or.inl ⟨(by decide : (1 : Int) ≠ 0), z2⟩
    | true =>
      obtain ⟨m0, m1, m2, m3⟩ := jp_mf_i hmf
      obtain ⟨k', k1, k2⟩ := jp_lab_g hok hs hl hmf hk hm2
      have hkd := jp_wod_k m0
      have hw7 : 0 ≤ jp_wod t L s ∧ jp_wod t L s < 7 := by omega
      obtain ⟨N', n1, n2⟩ := jp_rdw_q hok hs hD hw7 (fun _ => hla.2 (by have := hla.1; omega))
      rw [k2, n1, jp_bs, jp_prs, if_neg (by omega), if_neg (by rw [hmf]; decide)]
      generalize jp_wod t L s = w at *
      unfold jp_sto at n2
      obtain ⟨k', rfl⟩ : ∃ j, k' = j + 1 := ⟨k' - 1, by omega⟩
      by_cases hro : jp_ro w ≤ D w
      · rw [if_pos hro] at n2
        rcases n2 with n2 | n2
        · rw [if_pos hro, jp_lab_f n2 w hw7]
          exact ⟨N', rfl, Or.inl ⟨(by decide : (3 : Int) ≠ 0), n2⟩⟩
        · exact absurd n2.1 (by decide : (3 : Int) ≠ 0)
      · rw [if_neg hro] at n2
        rw [if_neg hro]
        rcases n2 with n2 | ⟨n2, n3⟩
        · have hne : (jp_sta t L D w s).1 ≠ 0 := by have := n2.2.2.2; omega
          rw [if_pos hne, jp_lab_f n2 w hw7]
          exact ⟨N', rfl, Or.inl ⟨hne, n2⟩⟩
        · rw [if_neg (fun z => z n2)]
          have hvk := jp_vk_s hw7 n2
          have hsr := (jp_sf_r t (L := L) D w (jp_nm t L (jp_en t L s)) (jp_nb w).toNat 0 (jp_en t L s) (by omega) (by omega)).2
          exact ih w (jp_sta t L D w s).2 _ (k' + 1) N' (by rw [jp_mu_t hD hw7 hvk]; omega) (by omega) (by omega) hsr n3 (jp_Dk_t hD hw7 (by omega) hvk) (jp_lwk_t hD hla hw7 hmf hvk) hw7.1
