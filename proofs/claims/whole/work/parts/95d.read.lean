/-! reading: the whole text, by the class -/
def jp_mf (last w : Int) : Bool := decide (w ≠ -1) && (decide (last ≠ 6) && (if last = -1 then decide (w = 0) else (decide (last ≤ w) && (decide (2 ≤ last) || decide (w ≤ 2)))))
def jp_prs (t : Int → Int) (L : Int) : Nat → Int → Int → (Int → Int) → Int × Int × (Int → Int)
  | 0, _, _, D => (1, 0, D)
  | k + 1, last, s, D => if jp_kd t L s = 0 ∧ 2 ≤ last then (0, 0, D) else if jp_mf last (jp_wod t L s) = false then (1, jp_frm t L s, D) else if jp_ro (jp_wod t L s) ≤ D (jp_wod t L s) then (3, jp_frm t L s, D) else if (jp_sta t L D (jp_wod t L s) s).1 ≠ 0 then ((jp_sta t L D (jp_wod t L s) s).1, (jp_sta t L D (jp_wod t L s) s).2, D) else jp_prs t L k (jp_wod t L s) (jp_sta t L D (jp_wod t L s) s).2 (jp_tko (jp_wod t L s) D (jp_vl t L s 0) (jp_vl t L s 1) (jp_vl t L s 2))
def jp_mu (D : Int → Int) : Int := 43 - (D 0 + D 1 + D 2 + D 3 + D 4 + D 5 + D 6)
def jp_la (D : Int → Int) (last : Int) : Prop := (-1 ≤ last ∧ last ≤ 6) ∧ (0 ≤ last → 1 ≤ D 0) ∧ (2 ≤ last → 1 ≤ D 2) ∧ (last ≤ 5 → D 6 = 0)
theorem jp_mf_i {last w : Int} (h : jp_mf last w = true) : w ≠ -1 ∧ last ≠ 6 ∧ (last = -1 → w = 0) ∧ (last ≠ -1 → last ≤ w ∧ (2 ≤ last ∨ w ≤ 2)) := by
  unfold jp_mf at h
  rw [Bool.and_eq_true, Bool.and_eq_true, decide_eq_true_iff, decide_eq_true_iff] at h
  obtain ⟨a, b, c⟩ := h
  refine ⟨a, b, fun e => ?_, fun e => ?_⟩
  · rw [if_pos e, decide_eq_true_iff] at c; exact c
  · rw [if_neg e, Bool.and_eq_true, Bool.or_eq_true, decide_eq_true_iff, decide_eq_true_iff, decide_eq_true_iff] at c; exact c
theorem gX4_mayFollow (last w : Int) (M : jw_M) : fX4_mayFollow last w M = some (jp_01 (jp_mf last w)) := by
  unfold fX4_mayFollow fX4_mayFollow_43 jp_mf
  by_cases e1 : w = -1
  · rw [if_pos e1, decide_eq_false (fun z => z e1)]; rfl
  · rw [if_neg e1, decide_eq_true e1, Bool.true_and]
    by_cases e2 : last = 6
    · rw [if_pos e2, decide_eq_false (fun z => z e2)]; rfl
    · rw [if_neg e2, decide_eq_true e2, Bool.true_and]
      by_cases e3 : last = -1
      · rw [if_pos e3, if_pos e3]
        by_cases e4 : w = 0
        · rw [if_pos e4, decide_eq_true e4]; rfl
        · rw [if_neg e4, decide_eq_false e4]; rfl
      · rw [if_neg e3, if_neg e3]
        by_cases e4 : w < last
        · rw [if_pos e4, decide_eq_false (by omega)]; rfl
        · rw [if_neg e4, decide_eq_true (by omega), Bool.true_and]
          by_cases e5 : last < 2
          · rw [if_pos e5, decide_eq_false (by omega), Bool.false_or]
            by_cases e6 : 2 < w
            · rw [if_pos e6, decide_eq_false (by omega)]; rfl
            · rw [if_neg e6, decide_eq_true (by omega)]; rfl
          · rw [if_neg e5, decide_eq_true (by omega), Bool.true_or]; rfl
theorem bX4_mayFollow (last w : Int) (M : jw_M) {be : Type} (kk : _ → Option be) : Option.bind (fX4_mayFollow last w M) kk = kk ((jp_01 (jp_mf last w))) := by rw [show fX4_mayFollow last w M = some (jp_01 (jp_mf last w)) from gX4_mayFollow last w M]; rfl
theorem jp_ro_v {w : Int} (hw : 0 ≤ w ∧ w < 7) : (w = 0 → jp_ro w = 7) ∧ (w = 1 → jp_ro w = 16) ∧ (w = 2 → jp_ro w = 4) ∧ (w = 3 → jp_ro w = 5) ∧ (w = 4 → jp_ro w = 4) ∧ (w = 5 → jp_ro w = 6) ∧ (w = 6 → jp_ro w = 1) := by
  refine ⟨fun e => ?_, fun e => ?_, fun e => ?_, fun e => ?_, fun e => ?_, fun e => ?_, fun e => ?_⟩ <;> subst e <;> rfl
theorem jp_mu_t {D : Int → Int} (h : jp_Dk D) {w a b c : Int} (hw : 0 ≤ w ∧ w < 7) (hv : jp_vk D w a b c) : jp_mu (jp_tko w D a b c) = jp_mu D - 1 := by
  have k := jp_tko_c h hw hv
  unfold jp_mu
  rw [k 0 (by decide) (by decide), k 1 (by decide) (by decide), k 2 (by decide) (by decide), k 3 (by decide) (by decide), k 4 (by decide) (by decide), k 5 (by decide) (by decide), k 6 (by decide) (by decide)]
  have h1 : w = 0 ∨ w = 1 ∨ w = 2 ∨ w = 3 ∨ w = 4 ∨ w = 5 ∨ w = 6 := by omega
  rcases h1 with rfl | rfl | rfl | rfl | rfl | rfl | rfl <;> simp only [Int.reduceEq, ↓reduceIte] <;> omega
theorem jp_la_t {D : Int → Int} (h : jp_Dk D) {last w a b c : Int} (hl : jp_la D last) (hw : 0 ≤ w ∧ w < 7) (hm : jp_mf last w = true) (hv : jp_vk D w a b c) : jp_la (jp_tko w D a b c) w := by
  have k := jp_tko_c h hw hv
  obtain ⟨l0, l1, l2, l3⟩ := hl
  obtain ⟨m0, m1, m2, m3⟩ := jp_mf_i hm
  have d := h.1
  unfold jp_la
  rw [k 0 (by decide) (by decide), k 2 (by decide) (by decide), k 6 (by decide) (by decide)]
  refine ⟨by omega, fun _ => ?_, fun _ => ?_, fun _ => ?_⟩
  · split
    · rename_i e; rw [← e]; omega
    · exact l1 (by omega)
  · split
    · rename_i e; rw [← e]; omega
    · exact l2 (by omega)
  · rw [if_neg (by omega)]
    exact l3 (by omega)
theorem jp_u1_id (f : Int → Int) (i : Int) : jw_u1 f i (f i) = f := by
  funext j
  rw [jw_u1_a]
  by_cases e : j = i
  · rw [if_pos e, e]
  · rw [if_neg e]
/-- in the loop only the reader and the draft's town and trade change -/
def jp_lfr (M N : jw_M) : Prop := (∀ k : Nat, k ≠ 5 → k ≠ 7 → k ≠ 8 → ¬ (37 ≤ k ∧ k ≤ 50) → N k = M k) ∧ N 5 1 = M 5 1
theorem jp_lfr_t {M N O : jw_M} (h : jp_lfr M N) (h2 : jp_lfr N O) : jp_lfr M O := ⟨fun k a b c d => by rw [h2.1 k a b c d, h.1 k a b c d], by rw [h2.2, h.2]⟩
theorem jp_lfr_tp {M N : jw_M} {t : Int → Int} {L : Int} (h : jp_tp M t L) (hr : jp_lfr M N) : jp_tp N t L := ⟨h.1, by rw [hr.2]; exact h.2.1, by rw [hr.1 6 (by decide) (by decide) (by decide) (by decide)]; exact h.2.2⟩
theorem gX4_take_all {N : jw_M} {D : Int → Int} (hD : jp_Dk D) {w : Int} (hw : 0 ≤ w ∧ w < 7) (hr : D w < jp_ro w) (a b c : Int) (hv : jp_vk D w a b c) (ha : N 7 0 = a) (hb : jp_nb w ≥ 2 → N 7 1 = b) (hc : jp_nb w ≥ 3 → N 7 2 = c) (h : jp_cR N D) : ∃ N' : jw_M, fX4_take 36 w (jw_up N 8 w (N 8 w + 1)) = some N' ∧ jp_cR N' (jp_tko w D a b c) ∧ (∀ k : Nat, k ≠ 8 → ¬ (37 ≤ k ∧ k ≤ 50) → N' k = N k) := by
  have hid : jp_cR (jw_up (jw_up N 8 w (N 8 w + 1)) 8 w (jw_up N 8 w (N 8 w + 1) 8 w - 1)) D := by
    have e : jw_up N 8 w (N 8 w + 1) 8 w - 1 = N 8 w := by rw [jw_up_eq, jw_u1_s]; omega
    rw [e, jw_up_up]
    refine jp_cR_fr h ?_ (fun k a b => jw_up_ne _ (by omega) _ _)
    rw [jw_up_eq, jp_u1_id]
  have a7 : ∀ (x v : Int), jw_up N 8 w x 7 v = N 7 v := fun x v => by rw [jw_up_ne _ (by decide)]
  have h1 : w = 0 ∨ w = 1 ∨ w = 2 ∨ w = 3 ∨ w = 4 ∨ w = 5 ∨ w = 6 := by omega
  rcases h1 with rfl | rfl | rfl | rfl | rfl | rfl | rfl
  · have hv' : jp_vk D 0 a (N 7 1) (N 7 2) := ⟨hv.1, fun e => by omega, fun e => by omega, fun e => by omega, fun e => by omega, fun e => by omega, fun e => by omega⟩
    have hx := gX4_take_0 hD hr a (N 7 1) (N 7 2) hv' (by rw [a7]; exact ha) (a7 _ _) (a7 _ _) hid
    refine ⟨_, hx, ?_, fun k p q => ?_⟩
    · have := jp_cR_0 hD hr a (N 7 1) (N 7 2) hv' h
      exact this
    · rw [jw_up_ne _ (by omega), jw_up_ne _ (by omega), jw_up_ne _ p]
  · have hx := gX4_take_1 hD hr a b c hv (by rw [a7]; exact ha) (by rw [a7]; exact hb (by decide)) (by rw [a7]; exact hc (by decide)) hid
    refine ⟨_, hx, jp_cR_1 hD hr a b c hv h, fun k p q => ?_⟩
    rw [jw_up_ne _ (by omega), jw_up_ne _ (by omega), jw_up_ne _ p]
  · have hx := gX4_take_2 hD hr a b c hv (by rw [a7]; exact ha) (by rw [a7]; exact hb (by decide)) (by rw [a7]; exact hc (by decide)) hid
    refine ⟨_, hx, jp_cR_2 hD hr a b c hv h, fun k p q => ?_⟩
    rw [jw_up_ne _ (by omega), jw_up_ne _ (by omega), jw_up_ne _ (by omega), jw_up_ne _ (by omega), jw_up_ne _ p]
  · have hv' : jp_vk D 3 a b (N 7 2) := ⟨fun e => by omega, fun e => by omega, fun e => by omega, hv.2.2.2.1, fun e => by omega, fun e => by omega, fun e => by omega⟩
    have hx := gX4_take_3 hD hr a b (N 7 2) hv' (by rw [a7]; exact ha) (by rw [a7]; exact hb (by decide)) (a7 _ _) hid
    refine ⟨_, hx, jp_cR_3 hD hr a b (N 7 2) hv' h, fun k p q => ?_⟩
    rw [jw_up_ne _ (by omega), jw_up_ne _ (by omega), jw_up_ne _ (by omega), jw_up_ne _ p]
  · have hv' : jp_vk D 4 a (N 7 1) (N 7 2) := ⟨fun e => by omega, fun e => by omega, fun e => by omega, fun e => by omega, hv.2.2.2.2.1, fun e => by omega, fun e => by omega⟩
    have hx := gX4_take_4 hD hr a (N 7 1) (N 7 2) hv' (by rw [a7]; exact ha) (a7 _ _) (a7 _ _) hid
    refine ⟨_, hx, jp_cR_4 hD hr a (N 7 1) (N 7 2) hv' h, fun k p q => ?_⟩
    rw [jw_up_ne _ (by omega), jw_up_ne _ (by omega), jw_up_ne _ p]
  · have hv' : jp_vk D 5 a b (N 7 2) := ⟨fun e => by omega, fun e => by omega, fun e => by omega, fun e => by omega, fun e => by omega, hv.2.2.2.2.2.1, fun e => by omega⟩
    have hx := gX4_take_5 hD hr a b (N 7 2) hv' (by rw [a7]; exact ha) (by rw [a7]; exact hb (by decide)) (a7 _ _) hid
    refine ⟨_, hx, jp_cR_5 hD hr a b (N 7 2) hv' h, fun k p q => ?_⟩
    rw [jw_up_ne _ (by omega), jw_up_ne _ (by omega), jw_up_ne _ (by omega), jw_up_ne _ p]
  · have hx := gX4_take_6 hD hr a b c hv (by rw [a7]; exact ha) (by rw [a7]; exact hb (by decide)) (by rw [a7]; exact hc (by decide)) hid
    refine ⟨_, hx, jp_cR_6 hD hr a b c hv h, fun k p q => ?_⟩
    rw [jw_up_ne _ (by omega), jw_up_ne _ (by omega), jw_up_ne _ (by omega), jw_up_ne _ p]
theorem gX4_read_25 {t : Int → Int} {L : Int} : ∀ (m : Nat) (last s : Int) (D : Int → Int) (g : Int) (k : Nat) (N : jw_M), jp_mu D < (m : Int) → 0 ≤ g → g + (m : Int) ≤ 600 → m < k → jp_tp N t L → (0 ≤ s ∧ s ≤ L) → jp_tc N t L s → jp_cR N D → jp_Dk D → jp_la D last → ∃ N' : jw_M, jp_lfr N N' ∧ (((jp_prs t L m last s D).1 ≠ 0 ∧ fX4_readInto_25 36 k last g N = some ((jp_prs t L m last s D).1, N') ∧ N' 5 2 = (jp_prs t L m last s D).2.1) ∨ ((jp_prs t L m last s D).1 = 0 ∧ fX4_readInto_25 36 k last g N = Option.bind (fX9_measure (36 + 1) N') (fun M17 => some (0, jw_up M17 36 0 1)) ∧ jp_cR N' (jp_prs t L m last s D).2.2 ∧ jp_Dk (jp_prs t L m last s D).2.2 ∧ 1 ≤ (jp_prs t L m last s D).2.2 0 ∧ 1 ≤ (jp_prs t L m last s D).2.2 2)) := by
  intro m
  induction m with
  | zero =>
    intro last s D g k N hmu _ _ _ _ _ _ _ hD _
    have := hD.1
    unfold jp_mu at hmu
    omega
  | succ m ih =>
    intro last s D g k N hmu hg hgm hk htp hs htc hcR hD hla
    obtain ⟨k, rfl⟩ : ∃ j, k = j + 1 := ⟨k - 1, by omega⟩
    obtain ⟨q2, q3, q4, q5⟩ := id htc
    obtain ⟨i0, i1, i2, i3, i4, i5, i6, i7⟩ := jp_wod_i t L s
    have h5' := jp_frm_r t hs.2
    have h6' := jp_en_r t hs.2
    by_cases hend : jp_kd t L s = 0 ∧ 2 ≤ last
    · have hpr : jp_prs t L (m + 1) last s D = (0, 0, D) := by rw [jp_prs, if_pos hend]
      rw [hpr]
      refine ⟨N, ⟨fun _ _ _ _ _ => rfl, rfl⟩, Or.inr ⟨rfl, ?_, hcR, hD, hla.2.1 (by omega), hla.2.2.1 hend.2⟩⟩
      rw [fX4_readInto_25, if_neg (by omega), q4, if_pos hend.1, if_neg (by omega)]
      rfl
    · have hpr : jp_prs t L (m + 1) last s D = if jp_mf last (jp_wod t L s) = false then (1, jp_frm t L s, D) else if jp_ro (jp_wod t L s) ≤ D (jp_wod t L s) then (3, jp_frm t L s, D) else if (jp_sta t L D (jp_wod t L s) s).1 ≠ 0 then ((jp_sta t L D (jp_wod t L s) s).1, (jp_sta t L D (jp_wod t L s) s).2, D) else jp_prs t L m (jp_wod t L s) (jp_sta t L D (jp_wod t L s) s).2 (jp_tko (jp_wod t L s) D (jp_vl t L s 0) (jp_vl t L s 1) (jp_vl t L s 2)) := by rw [jp_prs, if_neg hend]
      have hgo : fX4_readInto_25 36 (k + 1) last g N = fX4_readInto_74 36 (fX4_readInto_25 36 k) last g (jp_wod t L s) N := by
        have h58 : fX4_readInto_58 36 (fX4_readInto_25 36 k) last g N = fX4_readInto_74 36 (fX4_readInto_25 36 k) last g (jp_wod t L s) N := by
          unfold fX4_readInto_58
          rw [q4]
          by_cases e : jp_kd t L s = 1
          · rw [if_pos e, gX4_wordHere htp hs htc e, jp_b2s]
          · have ew : jp_wod t L s = -1 := by
              by_cases z : jp_wod t L s = -1
              · exact z
              · exact absurd (jp_wod_k z) e
            rw [if_neg e, ew]
        rw [fX4_readInto_25, if_neg (by omega), q4]
        by_cases e : jp_kd t L s = 0
        · rw [if_pos e, if_pos (show last < 2 by omega), h58]
        · rw [if_neg e, h58]
      rw [hgo]
      unfold fX4_readInto_74 fX4_statement
      rw [jp_bs, if_pos (by decide), gX4_mayFollow, jp_bs]
      rw [hpr]
      cases hmf : jp_mf last (jp_wod t L s) with
      | false =>
        rw [if_pos (show jp_01 false = 0 from rfl), jp_b2s, jp_bs, if_pos (show false = false from rfl), if_neg (show ¬ (1 : Int) = 0 by decide)]
        exact ⟨N, ⟨fun _ _ _ _ _ => rfl, rfl⟩, Or.inl ⟨(by decide : (1 : Int) ≠ 0), rfl, q2⟩⟩
      | true =>
        obtain ⟨m0, m1, m2, m3⟩ := jp_mf_i hmf
        generalize hw : jp_wod t L s = w at *
        have hw7 : 0 ≤ w ∧ w < 7 := by omega
        have er : jw_x0.getD w.toNat 0 = jp_ro w := rfl
        rw [if_neg (show ¬ jp_01 true = 0 by decide), if_pos hw7, if_pos hw7, hcR.1 w hw7.1 hw7.2, er, if_neg (by decide)]
        by_cases hro : jp_ro w ≤ D w
        · rw [if_neg (show ¬ D w < jp_ro w by omega), jp_b2s, jp_bs, if_neg (show ¬ (3 : Int) = 0 by decide), if_pos hro]
          exact ⟨N, ⟨fun _ _ _ _ _ => rfl, rfl⟩, Or.inl ⟨(by decide : (3 : Int) ≠ 0), rfl, q2⟩⟩
        · rw [if_pos (show D w < jp_ro w by omega), if_neg hro]
          obtain ⟨N1, n1, n2, n3⟩ := gX4_nextToken htp (jp_en t L s) (by omega) q3
          rw [n1, jp_bs, jp_bs]
          have d := hD.1
          obtain ⟨N2, p1, p2⟩ := gX4_statement_33 (D := D) (jp_r5_t htp n2) hs n3 d.1 d.2.2.1 (by rw [n2.1 8 (by decide)]; exact hcR.1 0 (by decide) (by decide)) (by rw [n2.1 8 (by decide)]; exact hcR.1 2 (by decide) (by decide)) w hw7
          have hlf : ∀ k : Nat, k ≠ 5 → k ≠ 7 → N2 k = N k := fun k a b => by rw [p1.1 k a b, n2.1 k a]
          have h51 : N2 5 1 = N 5 1 := by rw [p1.2, n2.2]
          rcases p2 with ⟨z1, z2, z3⟩ | ⟨z1, z2, z3, z4, z5⟩
          · rw [z2, jp_b2s, jp_bs, if_neg z1, if_pos z1]
            exact ⟨N2, ⟨fun k a b _ _ => hlf k a b, h51⟩, Or.inl ⟨z1, rfl, z3⟩⟩
          · have hvk := jp_vk_o hw7 z5
            have hnb := jp_nb_r hw7
            have hcR2 : jp_cR N2 D := jp_cR_fr hcR (hlf 8 (by decide) (by decide)) (fun k a b => hlf k (by omega) (by omega))
            have hdw := hcR2.1 w hw7.1 hw7.2
            obtain ⟨N3, t1, t2, t3⟩ := gX4_take_all (N := N2) hD hw7 (by omega) (jp_vl t L s 0) (jp_vl t L s 1) (jp_vl t L s 2) hvk (z4 0 (by omega) (by omega)) (fun _ => z4 1 (by omega) (by omega)) (fun _ => z4 2 (by omega) (by omega)) hcR2
            have hroB : D w ≤ 16 := by
              have h1 : w = 0 ∨ w = 1 ∨ w = 2 ∨ w = 3 ∨ w = 4 ∨ w = 5 ∨ w = 6 := by omega
              rcases h1 with e | e | e | e | e | e | e <;> rw [e] <;> omega
            have hdw0 : 0 ≤ D w := by
              have h1 : w = 0 ∨ w = 1 ∨ w = 2 ∨ w = 3 ∨ w = 4 ∨ w = 5 ∨ w = 6 := by omega
              rcases h1 with e | e | e | e | e | e | e <;> rw [e] <;> omega
            rw [z2, jw_ws (x := N2 8 w + 1) (by omega), t1, jp_bs, jp_b2s, jp_bs, if_pos (show (0 : Int) = 0 from rfl), jp_bs, jp_bs, jw_ws (x := g + 1) (by omega), if_neg (show ¬ (jp_sta t L D w s).1 ≠ 0 from fun y => y z1)]
            have hl3 : jp_lfr N N3 := ⟨fun k a b c d => by rw [t3 k c d, hlf k a b], by rw [t3 5 (by decide) (by decide), h51]⟩
            have hsr := (jp_sf_r t (L := L) D w (jp_nm t L (jp_en t L s)) (jp_nb w).toNat 0 (jp_en t L s) (by omega) (by omega)).2
            have htc3 : jp_tc N3 t L (jp_sta t L D w s).2 := by
              unfold jp_tc at z3 ⊢
              rw [t3 5 (by decide) (by decide)]
              exact z3
            obtain ⟨N4, f1, f2⟩ := ih w (jp_sta t L D w s).2 (jp_tko w D (jp_vl t L s 0) (jp_vl t L s 1) (jp_vl t L s 2)) (g + 1) k N3 (by rw [jp_mu_t hD hw7 hvk]; omega) (by omega) (by omega) (by omega) (jp_lfr_tp htp hl3) hsr htc3 t2 (jp_Dk_t hD hw7 (by omega) hvk) (jp_la_t hD hla hw7 hmf hvk)
            exact ⟨N4, jp_lfr_t hl3 f1, f2⟩
