/-! reading: the model's statements -/
def jp_sto (t : Int → Int) (L : Int) (D : Int → Int) (w s : Int) : Int × Int := if jp_ro w ≤ D w then (3, jp_frm t L s) else jp_sta t L D w s
theorem jp_Q_ok {M N : jw_M} {t : Int → Int} {L s w k : Int} {D : Int → Int} {S : Int × Int} (h : jp_Q M t L D S w s k N) (h0 : N 127 17 = 0) : jp_okm M N t L D (jp_it t L s k.toNat) := by
  rcases h with h | h
  · have := h.2.2.2
    rw [h.2.1] at h0
    omega
  · exact h.1
theorem jp_okm_u {M N : jw_M} {t : Int → Int} {L s : Int} {D : Int → Int} (h : jp_okm M N t L D s) (j v : Int) : jp_okm M (jw_up N 132 j v) t L (jw_u1 D j v) s := by
  obtain ⟨h1, h2, h3, h4, h5⟩ := h
  refine ⟨jp_mfr_2 h1 _ _, jp_mfr_m h2 (jp_mfr_2 (jp_mfr_r _) _ _), ?_, by rw [jw_up_ne _ (by decide)]; exact h4, fun i a b => ?_⟩
  · unfold jp_tmm at h3 ⊢
    rw [jw_up_ne _ (by decide)]
    exact h3
  · rw [jw_up_eq, jw_u1_a, jw_u1_a]
    by_cases z : i = j
    · rw [if_pos z, if_pos z]
    · rw [if_neg z, if_neg z]; exact h5 i a b
theorem jp_Q_0 {M N : jw_M} {t : Int → Int} {L s w : Int} {D : Int → Int} (h : jp_okm M N t L D (jp_en t L s)) (hro : ¬ jp_ro w ≤ D w) : jp_Q M t L D (jp_sto t L D w s) w s 0 N := by
  refine Or.inr ⟨h, ?_⟩
  unfold jp_sto
  rw [if_neg hro, Int.sub_zero]
  rfl
theorem gX12_begins_q {M N : jw_M} {t : Int → Int} {L s w : Int} {D : Int → Int} (h : jp_okm M N t L D s) (hs : 0 ≤ s ∧ s ≤ L) (hw : 0 ≤ w ∧ w < 7) (hDw : D w ≤ jp_ro w) : ∃ N1 : jw_M, fX12_begins w (jp_ro w) N = some N1 ∧ jp_Q M t L D (jp_sto t L D w s) w s 0 N1 := by
  unfold fX12_begins fX12_begins_15
  rw [if_pos (by omega), h.2.2.2.2 w (by omega) (by omega)]
  by_cases e : D w = jp_ro w
  · obtain ⟨N', n1, n2, n3⟩ := gX12_bad_o h hs 3 (by decide)
    rw [if_pos e, n1, jp_bs, gX12_must_f n2, jp_bs]
    refine ⟨N', rfl, Or.inl ?_⟩
    unfold jp_sto
    rw [if_pos (by omega)]
    exact n2
  · obtain ⟨N', n1, n2⟩ := gX12_must_1 h hs 1 (by decide)
    rw [if_neg e, n1, jp_bs]
    exact ⟨N', rfl, jp_Q_0 n2 (by omega)⟩
theorem gX12_number_q {M N : jw_M} {t : Int → Int} {L s w k : Int} {D : Int → Int} {S : Int × Int} (hs : 0 ≤ s ∧ s ≤ L) (hk : 0 ≤ k ∧ k < jp_nb w) (h : jp_Q M t L D S w s k N) (lo hi : Int) (hn : ¬ (w = 1 ∧ k = 1)) (ha : N 127 17 = 0 → lo = jp_lo w k ∧ hi = jp_hi D w k) : ∃ (v : Int) (N' : jw_M), fX12_number lo hi N = some (v, N') ∧ jp_Q M t L D S w s (k + 1) N' ∧ (N' 127 17 = 0 → N 127 17 = 0 ∧ v = jp_vl t L s k ∧ jp_nf t L (jp_it t L s k.toNat) (jp_lo w k) (jp_hi D w k) (jp_not w k (jp_vl t L s 0)) = 0) := by
  obtain ⟨v, N', n1, n2, n3⟩ := gX12_nq hs hk h lo hi (-1000000) (fun z => ⟨(ha z).1, (ha z).2, by unfold jp_not; rw [if_neg hn]⟩)
  refine ⟨v, N', ?_, n2, n3⟩
  unfold fX12_number
  rw [n1, jp_b2s]
theorem gX12_corner_q {M N : jw_M} {t : Int → Int} {L s w k : Int} {D : Int → Int} {S : Int × Int} (hs : 0 ≤ s ∧ s ≤ L) (hk : 0 ≤ k ∧ k < jp_nb w) (hD0 : 0 ≤ D 0 ∧ D 0 ≤ 7) (h : jp_Q M t L D S w s k N) (hn : ¬ (w = 1 ∧ k = 1)) (ha : jp_lo w k = 0 ∧ jp_hi D w k = D 0 - 1) : ∃ (v : Int) (N' : jw_M), fX12_corner N = some (v, N') ∧ jp_Q M t L D S w s (k + 1) N' ∧ (N' 127 17 = 0 → N 127 17 = 0 ∧ v = jp_vl t L s k ∧ jp_nf t L (jp_it t L s k.toNat) (jp_lo w k) (jp_hi D w k) (jp_not w k (jp_vl t L s 0)) = 0) := by
  obtain ⟨v, N', n1, n2, n3⟩ := gX12_number_q hs hk h 0 (jw_w (N 132 0 - 1)) hn (fun z => by
    have h0 := (jp_Q_ok h z).2.2.2.2 0 (by decide) (by decide)
    rw [h0, jw_ws (by omega)]
    exact ⟨ha.1.symm, ha.2.symm⟩)
  refine ⟨v, N', ?_, n2, n3⟩
  unfold fX12_corner
  rw [if_pos (by decide), n1, jp_b2s]
/-- a statement, read -/
def jp_rd2 (M : jw_M) (t : Int → Int) (L : Int) (D : Int → Int) (w s : Int) (r : Option jw_M) : Prop := ∃ N' : jw_M, r = some N' ∧ (jp_ft M N' (jp_sto t L D w s).1 (jp_sto t L D w s).2 ∨ ((jp_sto t L D w s).1 = 0 ∧ jp_okm M N' t L (jp_tko w D (jp_vl t L s 0) (jp_vl t L s 1) (jp_vl t L s 2)) (jp_sto t L D w s).2))
theorem gX12_read_0 {M N : jw_M} {t : Int → Int} {L s : Int} {D : Int → Int} (h : jp_okm M N t L D s) (hs : 0 ≤ s ∧ s ≤ L) (hD : jp_Dk D) : jp_rd2 M t L D 0 s (fX12_readCorner N) := by
  obtain ⟨d0, d1, d2, d3, d4, d5, d6⟩ := hD.1
  obtain ⟨N1, a1, a2⟩ := gX12_begins_q (w := 0) h hs (by decide) d0.2
  obtain ⟨v, N2, b1, b2, b3⟩ := gX12_number_q hs (show 0 ≤ (0 : Int) ∧ (0 : Int) < jp_nb 0 by decide) a2 0 99 (by decide) (fun _ => ⟨rfl, rfl⟩)
  have a1' : fX12_begins 0 7 N = some N1 := a1
  unfold fX12_readCorner
  rw [a1', jp_bs, b1, jp_b2s, jp_bs, if_pos (by decide), jp_bs]
  rcases gX12_ends_q hs (by decide) (by omega) b2 with ⟨N', e1, e2⟩ | ⟨N', e1, e2, e3, e4⟩
  · rw [e1, jp_b2s, if_pos rfl]
    exact ⟨N', rfl, Or.inl e2⟩
  · obtain ⟨c1, c2, c3⟩ := b3 e4
    have h0 := (jp_Q_ok b2 e4).2.2.2.2 0 (by decide) (by decide)
    rw [e1, jp_b2s, if_neg (by decide), h0, jw_ws (x := 7 + D 0) (by omega), if_pos (by omega), jp_bs, c2]
    exact ⟨_, rfl, Or.inr ⟨e2, jp_okm_u e3 _ _⟩⟩
theorem gX12_read_1 {M N : jw_M} {t : Int → Int} {L s : Int} {D : Int → Int} (h : jp_okm M N t L D s) (hs : 0 ≤ s ∧ s ≤ L) (hD : jp_Dk D) : jp_rd2 M t L D 1 s (fX12_readStreet N) := by
  obtain ⟨d0, d1, d2, d3, d4, d5, d6⟩ := hD.1
  obtain ⟨N1, a1, a2⟩ := gX12_begins_q (w := 1) h hs (by decide) d1.2
  obtain ⟨v0, N2, b1, b2, b3⟩ := gX12_corner_q hs (show 0 ≤ (0 : Int) ∧ (0 : Int) < jp_nb 1 by decide) d0 a2 (by decide) ⟨rfl, rfl⟩
  obtain ⟨v1, N3, c1, c2, c3⟩ := gX12_nq hs (show 0 ≤ (0 + 1 : Int) ∧ (0 + 1 : Int) < jp_nb 1 by decide) b2 0 (jw_w (N2 132 0 - 1)) v0 (fun z => by
    have h0 := (jp_Q_ok b2 z).2.2.2.2 0 (by decide) (by decide)
    rw [h0, jw_ws (by omega), (b3 z).2.1]
    exact ⟨rfl, rfl, rfl⟩)
  obtain ⟨v2, N4, f1, f2, f3⟩ := gX12_number_q hs (show 0 ≤ (0 + 1 + 1 : Int) ∧ (0 + 1 + 1 : Int) < jp_nb 1 by decide) c2 1 20 (by decide) (fun _ => ⟨rfl, rfl⟩)
  have a1' : fX12_begins 1 16 N = some N1 := a1
  unfold fX12_readStreet
  rw [a1', jp_bs, b1, jp_b2s, jp_bs, if_pos (by decide), c1, jp_b2s, jp_bs, f1, jp_b2s, jp_bs]
  rcases gX12_ends_q hs (by decide) (by omega) f2 with ⟨N', e1, e2⟩ | ⟨N', e1, e2, e3, e4⟩
  · rw [e1, jp_b2s, if_pos rfl]
    exact ⟨N', rfl, Or.inl e2⟩
  · obtain ⟨q1, q2, q3⟩ := f3 e4
    obtain ⟨q4, q5, q6⟩ := c3 q1
    obtain ⟨q7, q8, q9⟩ := b3 q4
    have w0 := (jp_nf_0 q9).2
    have w1 := (jp_nf_0 q6).2
    have u0 : 0 ≤ v0 ∧ v0 < D 0 := by
      have x1 : jp_lo 1 0 ≤ jp_vl t L s 0 := w0.1
      have x2 : jp_vl t L s 0 ≤ jp_hi D 1 0 := w0.2.1
      have l0 : jp_lo 1 0 = 0 := rfl
      have l1 : jp_hi D 1 0 = D 0 - 1 := rfl
      omega
    have u1 : 0 ≤ v1 ∧ v1 < D 0 := by
      have x1 : jp_lo 1 1 ≤ jp_vl t L s 1 := w1.1
      have x2 : jp_vl t L s 1 ≤ jp_hi D 1 1 := w1.2.1
      have q5' : v1 = jp_vl t L s 1 := q5
      have l0 : jp_lo 1 1 = 0 := rfl
      have l1 : jp_hi D 1 1 = D 0 - 1 := rfl
      omega
    have hwas : N' 132 (14 + 7 * v0 + v1) = D (14 + 7 * v0 + v1) := by
      rw [e3.2.2.2.2 _ (by omega) (by omega), jw_u1_n _ (by omega)]
    have h76 : ∀ x : Int, fX12_readStreet_76 v0 v1 x N' = some (jw_up (jw_up N' 132 (14 + 7 * v0 + v1) x) 132 (14 + 7 * v1 + v0) x) := by
      intro x
      unfold fX12_readStreet_76
      rw [jp_bs, jw_ws (x := 7 * v0) (by omega), jw_ws (x := 14 + 7 * v0) (by omega), jw_ws (x := 14 + 7 * v0 + v1) (by omega), if_pos (by omega), jp_bs, jw_ws (x := 7 * v1) (by omega), jw_ws (x := 14 + 7 * v1) (by omega), jw_ws (x := 14 + 7 * v1 + v0) (by omega), if_pos (by omega), jp_bs]
    rw [e1, jp_b2s, if_neg (by decide), jw_ws (x := 7 * v0) (by omega), jw_ws (x := 14 + 7 * v0) (by omega), jw_ws (x := 14 + 7 * v0 + v1) (by omega), if_pos (show 0 ≤ 14 + 7 * v0 + v1 ∧ 14 + 7 * v0 + v1 < 104 by omega), jp_bs, hwas]
    have hfin : (if D (14 + 7 * v0 + v1) = 0 then fX12_readStreet_70 v0 v1 v2 N' else if v2 < D (14 + 7 * v0 + v1) then fX12_readStreet_70 v0 v1 v2 N' else fX12_readStreet_76 v0 v1 (D (14 + 7 * v0 + v1)) N') = some (jw_up (jw_up N' 132 (14 + 7 * v0 + v1) (jp_isq D v0 v1 v2)) 132 (14 + 7 * v1 + v0) (jp_isq D v0 v1 v2)) := by
      unfold fX12_readStreet_70 jp_isq
      by_cases z1 : D (14 + 7 * v0 + v1) = 0
      · rw [if_pos z1, h76, if_pos (Or.inl z1)]
      · rw [if_neg z1]
        by_cases z2 : v2 < D (14 + 7 * v0 + v1)
        · rw [if_pos z2, h76, if_pos (Or.inr z2)]
        · rw [if_neg z2, h76, if_neg (fun w => w.elim z1 z2)]
    rw [hfin]
    refine ⟨_, rfl, Or.inr ⟨e2, ?_⟩⟩
    have q2' : v2 = jp_vl t L s 2 := q2
    have q5' : v1 = jp_vl t L s 1 := q5
    have q8' : v0 = jp_vl t L s 0 := q8
    rw [← q2', ← q5', ← q8']
    exact jp_okm_u (jp_okm_u e3 _ _) _ _
theorem gX12_read_2 {M N : jw_M} {t : Int → Int} {L s : Int} {D : Int → Int} (h : jp_okm M N t L D s) (hs : 0 ≤ s ∧ s ≤ L) (hD : jp_Dk D) : jp_rd2 M t L D 2 s (fX12_readGoods N) := by
  obtain ⟨d0, d1, d2, d3, d4, d5, d6⟩ := hD.1
  obtain ⟨N1, a1, a2⟩ := gX12_begins_q (w := 2) h hs (by decide) d2.2
  obtain ⟨v0, N2, b1, b2, b3⟩ := gX12_number_q hs (show 0 ≤ (0 : Int) ∧ (0 : Int) < jp_nb 2 by decide) a2 1 9 (by decide) (fun _ => ⟨rfl, rfl⟩)
  obtain ⟨v1, N3, c1, c2, c3⟩ := gX12_number_q hs (show 0 ≤ (0 + 1 : Int) ∧ (0 + 1 : Int) < jp_nb 2 by decide) b2 1 99 (by decide) (fun _ => ⟨rfl, rfl⟩)
  obtain ⟨v2, N4, f1, f2, f3⟩ := gX12_number_q hs (show 0 ≤ (0 + 1 + 1 : Int) ∧ (0 + 1 + 1 : Int) < jp_nb 2 by decide) c2 0 99 (by decide) (fun _ => ⟨rfl, rfl⟩)
  have a1' : fX12_begins 2 4 N = some N1 := a1
  unfold fX12_readGoods
  rw [a1', jp_bs, if_pos (by decide), jp_bs, b1, jp_b2s, jp_bs, c1, jp_b2s, jp_bs, f1, jp_b2s, jp_bs]
  rcases gX12_ends_q hs (by decide) (by omega) f2 with ⟨N', e1, e2⟩ | ⟨N', e1, e2, e3, e4⟩
  · rw [e1, jp_b2s, if_pos rfl]
    exact ⟨N', rfl, Or.inl e2⟩
  · obtain ⟨q1, q2, q3⟩ := f3 e4
    obtain ⟨q4, q5, q6⟩ := c3 q1
    obtain ⟨q7, q8, q9⟩ := b3 q4
    have h0 := (jp_Q_ok a2 q7).2.2.2.2 2 (by decide) (by decide)
    rw [e1, jp_b2s, if_neg (by decide), h0, jw_ws (x := 3 * D 2) (by omega), jw_ws (x := 63 + 3 * D 2) (by omega), Int.add_zero, jw_ws (x := 63 + 3 * D 2) (by omega), jw_ws (x := 63 + 3 * D 2 + 1) (by omega), jw_ws (x := 63 + 3 * D 2 + 2) (by omega), if_pos (by omega), jp_bs, if_pos (by omega), jp_bs, if_pos (by omega), jp_bs, q2, q5, q8, show 63 + 3 * D 2 + 1 = 64 + 3 * D 2 by omega, show 63 + 3 * D 2 + 2 = 65 + 3 * D 2 by omega]
    exact ⟨_, rfl, Or.inr ⟨e2, jp_okm_u (jp_okm_u (jp_okm_u e3 _ _) _ _) _ _⟩⟩
theorem gX12_read_3 {M N : jw_M} {t : Int → Int} {L s : Int} {D : Int → Int} (h : jp_okm M N t L D s) (hs : 0 ≤ s ∧ s ≤ L) (hD : jp_Dk D) : jp_rd2 M t L D 3 s (fX12_readSeller N) := by
  obtain ⟨d0, d1, d2, d3, d4, d5, d6⟩ := hD.1
  obtain ⟨N1, a1, a2⟩ := gX12_begins_q (w := 3) h hs (by decide) d3.2
  obtain ⟨v0, N2, b1, b2, b3⟩ := gX12_number_q hs (show 0 ≤ (0 : Int) ∧ (0 : Int) < jp_nb 3 by decide) a2 0 (jw_w (N1 132 2 - 1)) (by decide) (fun z => by
    have h0 := (jp_Q_ok a2 z).2.2.2.2 2 (by decide) (by decide)
    rw [h0, jw_ws (by omega)]
    exact ⟨rfl, rfl⟩)
  obtain ⟨v1, N3, c1, c2, c3⟩ := gX12_corner_q hs (show 0 ≤ (0 + 1 : Int) ∧ (0 + 1 : Int) < jp_nb 3 by decide) d0 b2 (by decide) ⟨rfl, rfl⟩
  have a1' : fX12_begins 3 5 N = some N1 := a1
  unfold fX12_readSeller
  rw [a1', jp_bs, if_pos (by decide), jp_bs, if_pos (by decide), b1, jp_b2s, jp_bs, c1, jp_b2s, jp_bs]
  rcases gX12_ends_q hs (by decide) (by omega) c2 with ⟨N', e1, e2⟩ | ⟨N', e1, e2, e3, e4⟩
  · rw [e1, jp_b2s, if_pos rfl]
    exact ⟨N', rfl, Or.inl e2⟩
  · obtain ⟨q4, q5, q6⟩ := c3 e4
    obtain ⟨q7, q8, q9⟩ := b3 q4
    have h0 := (jp_Q_ok a2 q7).2.2.2.2 3 (by decide) (by decide)
    rw [e1, jp_b2s, if_neg (by decide), h0, jw_ws (x := 90 + D 3) (by omega), if_pos (by omega), jp_bs, jw_ws (x := 95 + D 3) (by omega), if_pos (by omega), jp_bs, q5, q8]
    exact ⟨_, rfl, Or.inr ⟨e2, jp_okm_u (jp_okm_u e3 _ _) _ _⟩⟩
theorem gX12_read_4 {M N : jw_M} {t : Int → Int} {L s : Int} {D : Int → Int} (h : jp_okm M N t L D s) (hs : 0 ≤ s ∧ s ≤ L) (hD : jp_Dk D) : jp_rd2 M t L D 4 s (fX12_readWatcher N) := by
  obtain ⟨d0, d1, d2, d3, d4, d5, d6⟩ := hD.1
  obtain ⟨N1, a1, a2⟩ := gX12_begins_q (w := 4) h hs (by decide) d4.2
  obtain ⟨v0, N2, b1, b2, b3⟩ := gX12_corner_q hs (show 0 ≤ (0 : Int) ∧ (0 : Int) < jp_nb 4 by decide) d0 a2 (by decide) ⟨rfl, rfl⟩
  have a1' : fX12_begins 4 4 N = some N1 := a1
  unfold fX12_readWatcher
  rw [a1', jp_bs, if_pos (by decide), jp_bs, b1, jp_b2s, jp_bs]
  rcases gX12_ends_q hs (by decide) (by omega) b2 with ⟨N', e1, e2⟩ | ⟨N', e1, e2, e3, e4⟩
  · rw [e1, jp_b2s, if_pos rfl]
    exact ⟨N', rfl, Or.inl e2⟩
  · obtain ⟨q7, q8, q9⟩ := b3 e4
    have h0 := (jp_Q_ok a2 q7).2.2.2.2 4 (by decide) (by decide)
    have lt4 : D 4 < 4 := by
      by_cases z : jp_ro 4 ≤ D 4
      · unfold jp_sto at e2
        rw [if_pos z] at e2
        exact absurd e2 (by decide : (3 : Int) ≠ 0)
      · have : jp_ro 4 = 4 := rfl
        omega
    rw [e1, jp_b2s, if_neg (by decide), h0, jw_ws (x := 100 + D 4) (by omega), if_pos (by omega), jp_bs, q8]
    exact ⟨_, rfl, Or.inr ⟨e2, jp_okm_u e3 _ _⟩⟩
theorem gX12_read_5 {M N : jw_M} {t : Int → Int} {L s : Int} {D : Int → Int} (h : jp_okm M N t L D s) (hs : 0 ≤ s ∧ s ≤ L) (hD : jp_Dk D) : jp_rd2 M t L D 5 s (fX12_readCellar N) := by
  obtain ⟨d0, d1, d2, d3, d4, d5, d6⟩ := hD.1
  obtain ⟨N1, a1, a2⟩ := gX12_begins_q (w := 5) h hs (by decide) d5.2
  obtain ⟨v0, N2, b1, b2, b3⟩ := gX12_corner_q hs (show 0 ≤ (0 : Int) ∧ (0 : Int) < jp_nb 5 by decide) d0 a2 (by decide) ⟨rfl, rfl⟩
  obtain ⟨v1, N3, c1, c2, c3⟩ := gX12_number_q hs (show 0 ≤ (0 + 1 : Int) ∧ (0 + 1 : Int) < jp_nb 5 by decide) b2 0 99 (by decide) (fun _ => ⟨rfl, rfl⟩)
  have a1' : fX12_begins 5 6 N = some N1 := a1
  unfold fX12_readCellar
  rw [a1', jp_bs, if_pos (by decide), jp_bs, b1, jp_b2s, jp_bs, c1, jp_b2s, jp_bs]
  rcases gX12_ends_q hs (by decide) (by omega) c2 with ⟨N', e1, e2⟩ | ⟨N', e1, e2, e3, e4⟩
  · rw [e1, jp_b2s, if_pos rfl]
    exact ⟨N', rfl, Or.inl e2⟩
  · obtain ⟨q4, q5, q6⟩ := c3 e4
    obtain ⟨q7, q8, q9⟩ := b3 q4
    have h0 := (jp_Q_ok a2 q7).2.2.2.2 5 (by decide) (by decide)
    rw [e1, jp_b2s, if_neg (by decide), h0, jw_ws (x := 2 * D 5) (by omega), jw_ws (x := 75 + 2 * D 5) (by omega), if_pos (by omega), jp_bs, jw_ws (x := 75 + 2 * D 5 + 1) (by omega), if_pos (by omega), jp_bs, q5, q8, show 75 + 2 * D 5 + 1 = 76 + 2 * D 5 by omega]
    exact ⟨_, rfl, Or.inr ⟨e2, jp_okm_u (jp_okm_u e3 _ _) _ _⟩⟩
theorem gX12_read_6 {M N : jw_M} {t : Int → Int} {L s : Int} {D : Int → Int} (h : jp_okm M N t L D s) (hs : 0 ≤ s ∧ s ≤ L) (hD : jp_Dk D) (h6 : D 6 = 0) : jp_rd2 M t L D 6 s (fX12_readLaw N) := by
  obtain ⟨d0, d1, d2, d3, d4, d5, d6⟩ := hD.1
  obtain ⟨N1, a1, a2'⟩ := gX12_must_1 h hs 1 (by decide)
  have a2 := jp_Q_0 (w := 6) a2' (by rw [h6]; decide)
  obtain ⟨v0, N2, b1, b2, b3⟩ := gX12_number_q hs (show 0 ≤ (0 : Int) ∧ (0 : Int) < jp_nb 6 by decide) a2 0 20 (by decide) (fun _ => ⟨rfl, rfl⟩)
  obtain ⟨v1, N3, c1, c2, c3⟩ := gX12_number_q hs (show 0 ≤ (0 + 1 : Int) ∧ (0 + 1 : Int) < jp_nb 6 by decide) b2 0 30 (by decide) (fun _ => ⟨rfl, rfl⟩)
  obtain ⟨v2, N4, f1, f2, f3⟩ := gX12_number_q hs (show 0 ≤ (0 + 1 + 1 : Int) ∧ (0 + 1 + 1 : Int) < jp_nb 6 by decide) c2 1 9 (by decide) (fun _ => ⟨rfl, rfl⟩)
  unfold fX12_readLaw
  rw [a1, jp_bs, b1, jp_b2s, jp_bs, c1, jp_b2s, jp_bs, f1, jp_b2s, jp_bs]
  rcases gX12_ends_q hs (by decide) (by omega) f2 with ⟨N', e1, e2⟩ | ⟨N', e1, e2, e3, e4⟩
  · rw [e1, jp_b2s, if_pos rfl]
    exact ⟨N', rfl, Or.inl e2⟩
  · obtain ⟨q1, q2, q3⟩ := f3 e4
    obtain ⟨q4, q5, q6⟩ := c3 q1
    obtain ⟨q7, q8, q9⟩ := b3 q4
    rw [e1, jp_b2s, if_neg (by decide), if_pos (by decide), jp_bs, if_pos (by decide), jp_bs, if_pos (by decide), jp_bs, q2, q5, q8]
    exact ⟨_, rfl, Or.inr ⟨e2, jp_okm_u (jp_okm_u (jp_okm_u e3 _ _) _ _) _ _⟩⟩
