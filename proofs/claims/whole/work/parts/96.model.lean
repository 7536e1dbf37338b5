/-! reading: the model's numbers -/
def jp_mfr (M N : jw_M) : Prop := (∀ k : Nat, k ≠ 127 → k ≠ 132 → N k = M k) ∧ (∀ j : Int, j < 13 ∨ 18 < j → N 127 j = M 127 j)
theorem jp_mfr_r (M : jw_M) : jp_mfr M M := ⟨fun _ _ _ => rfl, fun _ _ => rfl⟩
theorem jp_mfr_4 {M N O : jw_M} (h : jp_mfr M N) (h2 : jp_r4 N O) : jp_mfr M O := ⟨fun k a b => by rw [h2.1 k a, h.1 k a b], fun j hj => by rw [h2.2 j (by omega), h.2 j hj]⟩
theorem jp_mfr_7 {M N : jw_M} (h : jp_mfr M N) (j v : Int) (hj : 13 ≤ j ∧ j ≤ 18) : jp_mfr M (jw_up N 127 j v) := ⟨fun k a b => by rw [jw_up_ne _ a]; exact h.1 k a b, fun i hi => by rw [jw_up_eq, jw_u1_n _ (by omega)]; exact h.2 i hi⟩
theorem jp_mfr_2 {M N : jw_M} (h : jp_mfr M N) (j v : Int) : jp_mfr M (jw_up N 132 j v) := ⟨fun k a b => by rw [jw_up_ne _ b]; exact h.1 k a b, fun i hi => by rw [jw_up_ne _ (by decide)]; exact h.2 i hi⟩
theorem jp_mfr_m {M N : jw_M} {t : Int → Int} {L : Int} (h : jp_mp M t L) (hr : jp_mfr M N) : jp_mp N t L := ⟨h.1, by rw [hr.2 12 (by omega)]; exact h.2.1, by rw [hr.1 134 (by decide) (by decide)]; exact h.2.2.1, h.2.2.2⟩
/-- a fault stands -/
def jp_ft (M N : jw_M) (f p : Int) : Prop := (jp_mfr M N ∧ 0 ≤ N 127 15 ∧ N 127 16 ≤ 600) ∧ N 127 17 = f ∧ N 127 18 = p ∧ 0 < f
/-- all is well, the token from s on is read -/
def jp_okm (M N : jw_M) (t : Int → Int) (L : Int) (D : Int → Int) (s : Int) : Prop := jp_mfr M N ∧ jp_mp N t L ∧ jp_tmm N t L s ∧ N 127 17 = 0 ∧ ∀ j : Int, 0 ≤ j → j < 104 → N 132 j = D j
theorem gX12_bad_f {M N : jw_M} {f p : Int} (h : jp_ft M N f p) (q : Int) : fX12_bad q N = some N := by
  unfold fX12_bad
  rw [h.2.1, if_neg (by have := h.2.2.2; omega)]
theorem bX12_bad_f {M N : jw_M} {f p : Int} (h : jp_ft M N f p) (q : Int) {be : Type} (kk : _ → Option be) : Option.bind (fX12_bad q N) kk = kk (N) := by rw [show fX12_bad q N = some N from gX12_bad_f h q]; rfl
theorem gX12_bad_o {M N : jw_M} {t : Int → Int} {L s : Int} {D : Int → Int} (h : jp_okm M N t L D s) (hs : 0 ≤ s ∧ s ≤ L) (q : Int) (hq : 0 < q) : ∃ N' : jw_M, fX12_bad q N = some N' ∧ jp_ft M N' q (jp_frm t L s) ∧ N' 132 = N 132 := by
  obtain ⟨h1, h2, h3, h4, h5⟩ := h
  unfold fX12_bad
  rw [h4, if_pos rfl, jp_bs, jp_bs]
  have e15 : jw_up N 127 17 q 127 15 = jp_frm t L s := by rw [jw_up_eq, jw_u1_n _ (by decide)]; exact h3.2.2.1
  have hf := jp_frm_r t hs.2
  have he := jp_en_r t hs.2
  have h600 := h2.1
  refine ⟨_, rfl, ⟨⟨jp_mfr_7 (jp_mfr_7 h1 _ _ (by decide)) _ _ (by decide), ?_, ?_⟩, ?_, ?_, hq⟩, ?_⟩
  · rw [jw_up_eq, jw_u1_n _ (by decide), jw_up_eq, jw_u1_n _ (by decide), h3.2.2.1]; omega
  · rw [jw_up_eq, jw_u1_n _ (by decide), jw_up_eq, jw_u1_n _ (by decide), h3.2.2.2]; omega
  · rw [jw_up_eq, jw_u1_n _ (by decide), jw_up_eq, jw_u1_s]
  · rw [jw_up_eq, jw_u1_s]; exact e15
  · rw [jw_up_ne _ (by decide), jw_up_ne _ (by decide)]
theorem gX12_must_f {M N : jw_M} {f p : Int} (h : jp_ft M N f p) (q : Int) : fX12_must q N = some N := by
  have h9 : fX12_must_9 N = some N := by
    unfold fX12_must_9
    rw [h.2.1, if_neg (by have := h.2.2.2; omega)]
  unfold fX12_must
  by_cases e : q = 0
  · rw [if_pos e, gX12_bad_f h, jp_bs, h9]
  · rw [if_neg e, h9]
theorem bX12_must_f {M N : jw_M} {f p : Int} (h : jp_ft M N f p) (q : Int) {be : Type} (kk : _ → Option be) : Option.bind (fX12_must q N) kk = kk (N) := by rw [show fX12_must q N = some N from gX12_must_f h q]; rfl
theorem gX12_must_1 {M N : jw_M} {t : Int → Int} {L s : Int} {D : Int → Int} (h : jp_okm M N t L D s) (hs : 0 ≤ s ∧ s ≤ L) (q : Int) (hq : q ≠ 0) : ∃ N' : jw_M, fX12_must q N = some N' ∧ jp_okm M N' t L D (jp_en t L s) := by
  obtain ⟨h1, h2, h3, h4, h5⟩ := h
  have hf := jp_frm_r t hs.2
  have he := jp_en_r t hs.2
  obtain ⟨N', n1, n2, n3⟩ := gX12_next h2 (jp_en t L s) (by omega) h3.1
  unfold fX12_must fX12_must_9
  rw [if_neg hq, h4, if_pos rfl, n1, jp_bs]
  exact ⟨N', rfl, jp_mfr_4 h1 n2, jp_r4_m h2 n2, n3, by rw [n2.2 17 (by omega)]; exact h4, by rw [n2.1 132 (by decide)]; exact h5⟩
theorem gX12_must_0 {M N : jw_M} {t : Int → Int} {L s : Int} {D : Int → Int} (h : jp_okm M N t L D s) (hs : 0 ≤ s ∧ s ≤ L) : ∃ N' : jw_M, fX12_must 0 N = some N' ∧ jp_ft M N' 1 (jp_frm t L s) ∧ N' 132 = N 132 := by
  obtain ⟨N', n1, n2, n3⟩ := gX12_bad_o h hs 1 (by decide)
  have h9 : fX12_must_9 N' = some N' := by
    unfold fX12_must_9
    rw [n2.2.1, if_neg (by decide)]
  unfold fX12_must
  rw [if_pos rfl, n1, jp_bs, h9]
  exact ⟨N', rfl, n2, n3⟩
theorem gX12_nb_f {M N : jw_M} {f p : Int} (h : jp_ft M N f p) (a b c : Int) : fX12_numberBut a b c N = some (0, N) := by
  unfold fX12_numberBut
  rw [h.2.1, if_pos h.2.2.2]
theorem bX12_nb_f {M N : jw_M} {f p : Int} (h : jp_ft M N f p) (a b c : Int) {be : Type} (kk : Int → jw_M → Option be) : jw_b2 (fX12_numberBut a b c N) kk = kk (0) (N) := by rw [show fX12_numberBut a b c N = some (0, N) from gX12_nb_f h a b c]; rfl
theorem gX12_nb_o {M N : jw_M} {t : Int → Int} {L s : Int} {D : Int → Int} (h : jp_okm M N t L D s) (hs : 0 ≤ s ∧ s ≤ L) (lo hi no : Int) : ∃ (v : Int) (N' : jw_M), fX12_numberBut lo hi no N = some (v, N') ∧ ((jp_nf t L s lo hi no = 0 ∧ v = jp_nm t L s ∧ jp_okm M N' t L D (jp_en t L s)) ∨ (jp_nf t L s lo hi no ≠ 0 ∧ jp_ft M N' (jp_nf t L s lo hi no) (jp_frm t L s))) := by
  obtain ⟨h1, h2, h3, h4, h5⟩ := id h
  obtain ⟨c13, c14, c15, c16⟩ := id h3
  obtain ⟨hL, h12, h134, hbt⟩ := id h2
  have hf := jp_frm_r t hs.2
  have he := jp_en_r t hs.2
  have hkv := jp_kd_v t L s
  unfold fX12_numberBut
  rw [h4, if_neg (by decide), jp_bs, jp_bs, c15]
  by_cases e2 : jp_kd t L s = 2
  · have c14' : N 127 14 = 3 := by rw [c14, e2]; rfl
    obtain ⟨k1, k2, k3, k4⟩ := jp_kd_2 hs.2 e2
    have fin : fX12_numberBut_59 lo hi no (jp_nm t L s) N = fX12_numberBut_59 lo hi no (jp_nm t L s) N := rfl
    have h59 : ∃ (v : Int) (N' : jw_M), fX12_numberBut_59 lo hi no (jp_nm t L s) N = some (v, N') ∧ ((jp_nf t L s lo hi no = 0 ∧ v = jp_nm t L s ∧ jp_okm M N' t L D (jp_en t L s)) ∨ (jp_nf t L s lo hi no ≠ 0 ∧ jp_ft M N' (jp_nf t L s lo hi no) (jp_frm t L s))) := by
      have good : lo ≤ jp_nm t L s ∧ jp_nm t L s ≤ hi ∧ jp_nm t L s ≠ no → ∃ (v : Int) (N' : jw_M), fX12_numberBut_91 (jp_nm t L s) N = some (v, N') ∧ ((jp_nf t L s lo hi no = 0 ∧ v = jp_nm t L s ∧ jp_okm M N' t L D (jp_en t L s)) ∨ (jp_nf t L s lo hi no ≠ 0 ∧ jp_ft M N' (jp_nf t L s lo hi no) (jp_frm t L s))) := by
        intro hz
        obtain ⟨N', n1, n2⟩ := gX12_must_1 h hs 1 (by decide)
        unfold fX12_numberBut_91 fX12_numberBut_105
        rw [c14', if_pos rfl, n1, jp_bs]
        exact ⟨_, N', rfl, Or.inl ⟨by unfold jp_nf; rw [if_pos e2, if_pos hz], rfl, n2⟩⟩
      have bad : ¬ (lo ≤ jp_nm t L s ∧ jp_nm t L s ≤ hi ∧ jp_nm t L s ≠ no) → ∃ (v : Int) (N' : jw_M), fX12_numberBut_86 (jp_nm t L s) N = some (v, N') ∧ ((jp_nf t L s lo hi no = 0 ∧ v = jp_nm t L s ∧ jp_okm M N' t L D (jp_en t L s)) ∨ (jp_nf t L s lo hi no ≠ 0 ∧ jp_ft M N' (jp_nf t L s lo hi no) (jp_frm t L s))) := by
        intro hz
        have hn : jp_nf t L s lo hi no = 2 := by unfold jp_nf; rw [if_pos e2, if_neg hz]
        obtain ⟨N', n1, n2, n3⟩ := gX12_bad_o h hs 2 (by decide)
        unfold fX12_numberBut_86 fX12_numberBut_91 fX12_numberBut_105
        rw [n1, jp_bs]
        refine ⟨jp_nm t L s, N', ?_, Or.inr ⟨by rw [hn]; decide, by rw [hn]; exact n2⟩⟩
        split
        · rw [gX12_must_f n2, jp_bs]
        · rw [gX12_must_f n2, jp_bs]
      unfold fX12_numberBut_59
      rw [c14', if_pos rfl, gX12_in, jp_bs]
      by_cases z1 : lo ≤ jp_nm t L s ∧ jp_nm t L s ≤ hi
      · rw [if_pos z1, if_neg (by decide)]
        by_cases z2 : jp_nm t L s = no
        · rw [if_pos z2]
          exact bad (fun w => w.2.2 z2)
        · rw [if_neg z2]
          exact good ⟨z1.1, z1.2, z2⟩
      · rw [if_neg z1, if_pos rfl]
        exact bad (fun w => z1 ⟨w.1, w.2.1⟩)
    refine jp_up (fun k i v => fX12_numberBut_18 k lo hi no v i N) (jp_en t L s) (fun i v => jp_frm t L s ≤ i ∧ v = jp_nv t (jp_frm t L s) (i - jp_frm t L s).toNat) (fun r => ∃ (v : Int) (N' : jw_M), r = some (v, N') ∧ ((jp_nf t L s lo hi no = 0 ∧ v = jp_nm t L s ∧ jp_okm M N' t L D (jp_en t L s)) ∨ (jp_nf t L s lo hi no ≠ 0 ∧ jp_ft M N' (jp_nf t L s lo hi no) (jp_frm t L s)))) ?_ ?_ jw_fu (jp_frm t L s) 0 (by unfold jw_fu; omega) (by omega) ⟨by omega, by rw [show (jp_frm t L s - jp_frm t L s).toNat = 0 by omega]; rfl⟩
    · intro k i v hp hi2 ih
      obtain ⟨i0, hv⟩ := hp
      have hr := jp_nv_r (t := t) (f := jp_frm t L s) (i - jp_frm t L s).toNat (by omega) (fun j a b => k3 j a (by omega))
      have hti := (jp_fi_i t i).mp (k3 i i0 hi2)
      show ∃ (v' : Int) (N' : jw_M), fX12_numberBut_18 (k + 1) lo hi no v i N = some (v', N') ∧ _
      rw [fX12_numberBut_18, c16, if_pos hi2, c14', if_pos rfl, if_pos (show 0 ≤ i ∧ i < 600 by omega), jp_bs, jp_bs, h134, hv, jw_ws (x := i + 1) (by omega), jw_ws (x := 10 * jp_nv t (jp_frm t L s) (i - jp_frm t L s).toNat) (by omega), jw_ws (x := 10 * jp_nv t (jp_frm t L s) (i - jp_frm t L s).toNat + t i) (by omega), jw_ws (by omega)]
      refine ih _ ⟨by omega, ?_⟩
      rw [show i + 1 - jp_frm t L s = i - jp_frm t L s + 1 by omega, jp_nv_s _ _ (by omega), show jp_frm t L s + (i - jp_frm t L s) = i by omega]
    · intro k v hp
      obtain ⟨i0, hv⟩ := hp
      show ∃ (v' : Int) (N' : jw_M), fX12_numberBut_18 (k + 1) lo hi no v (jp_en t L s) N = some (v', N') ∧ _
      have hv2 : v = jp_nm t L s := hv
      rw [fX12_numberBut_18, c16, if_neg (by omega), hv2]
      exact h59
  · have c14' : ¬ N 127 14 = 3 := by
      rw [c14]
      unfold jp_tkm
      rcases hkv with w | w | w | w | w <;> rw [w] <;> first | exact absurd w e2 | decide
    have hn : jp_nf t L s lo hi no = 1 := by unfold jp_nf; rw [if_neg e2]
    obtain ⟨N', n1, n2, n3⟩ := gX12_must_0 h hs
    have h59 : fX12_numberBut_59 lo hi no 0 N = some (0, N') := by
      unfold fX12_numberBut_59 fX12_numberBut_91 fX12_numberBut_105
      rw [if_neg c14', if_neg c14', n1, jp_bs]
    refine ⟨0, N', ?_, Or.inr ⟨by rw [hn]; decide, by rw [hn]; exact n2⟩⟩
    show fX12_numberBut_18 (99999 + 1) lo hi no 0 (jp_frm t L s) N = _
    rw [fX12_numberBut_18, c16]
    by_cases e : jp_frm t L s < jp_en t L s
    · rw [if_pos e, if_neg c14', h59]
    · rw [if_neg e, h59]
/-- within a statement whose end is S -/
def jp_Q (M : jw_M) (t : Int → Int) (L : Int) (D : Int → Int) (S : Int × Int) (w s k : Int) (N : jw_M) : Prop := jp_ft M N S.1 S.2 ∨ (jp_okm M N t L D (jp_it t L s k.toNat) ∧ S = jp_sf t L D w (jp_vl t L s 0) (jp_nb w - k).toNat k (jp_it t L s k.toNat))
theorem gX12_nq {M N : jw_M} {t : Int → Int} {L s w k : Int} {D : Int → Int} {S : Int × Int} (hs : 0 ≤ s ∧ s ≤ L) (hk : 0 ≤ k ∧ k < jp_nb w) (h : jp_Q M t L D S w s k N) (lo hi no : Int) (ha : N 127 17 = 0 → lo = jp_lo w k ∧ hi = jp_hi D w k ∧ no = jp_not w k (jp_vl t L s 0)) : ∃ (v : Int) (N' : jw_M), fX12_numberBut lo hi no N = some (v, N') ∧ jp_Q M t L D S w s (k + 1) N' ∧ (N' 127 17 = 0 → N 127 17 = 0 ∧ v = jp_vl t L s k ∧ jp_nf t L (jp_it t L s k.toNat) (jp_lo w k) (jp_hi D w k) (jp_not w k (jp_vl t L s 0)) = 0) := by
  rcases h with h | ⟨h, hS⟩
  · refine ⟨0, N, gX12_nb_f h _ _ _, Or.inl h, fun z => ?_⟩
    have := h.2.2.2
    rw [h.2.1] at z
    omega
  · obtain ⟨a1, a2, a3⟩ := ha h.2.2.2.1
    subst a1; subst a2; subst a3
    have hit := jp_it_r t hs k.toNat
    obtain ⟨v, N', n1, n2⟩ := gX12_nb_o h hit (jp_lo w k) (jp_hi D w k) (jp_not w k (jp_vl t L s 0))
    rw [show (jp_nb w - k).toNat = (jp_nb w - (k + 1)).toNat + 1 by omega, jp_sf] at hS
    rcases n2 with ⟨z1, z2, z3⟩ | ⟨z1, z2⟩
    · rw [if_pos z1] at hS
      have eit : jp_it t L s (k + 1).toNat = jp_en t L (jp_it t L s k.toNat) := by rw [show (k + 1).toNat = k.toNat + 1 by omega, jp_it]
      exact ⟨v, N', n1, Or.inr ⟨by rw [eit]; exact z3, by rw [eit]; exact hS⟩, fun _ => ⟨h.2.2.2.1, z2, z1⟩⟩
    · rw [if_neg z1] at hS
      refine ⟨v, N', n1, Or.inl (by rw [hS]; exact z2), fun z => ?_⟩
      have := z2.2.2.2
      rw [z2.2.1] at z
      omega
theorem gX12_ends_q {M N : jw_M} {t : Int → Int} {L s w : Int} {D : Int → Int} {S : Int × Int} (hs : 0 ≤ s ∧ s ≤ L) (hw : 0 ≤ w ∧ w < 7) (hDw : 0 ≤ D w ∧ D w ≤ 16) (h : jp_Q M t L D S w s (jp_nb w) N) : (∃ N' : jw_M, fX12_ends w N = some (0, N') ∧ jp_ft M N' S.1 S.2) ∨ (∃ N' : jw_M, fX12_ends w N = some (1, N') ∧ S.1 = 0 ∧ jp_okm M N' t L (jw_u1 D w (D w + 1)) S.2 ∧ N 127 17 = 0) := by
  have ftc : ∀ (O : jw_M) (f p : Int), jp_ft M O f p → ∃ N' : jw_M, fX12_ends_24 w O = some (0, N') ∧ jp_ft M N' f p := by
    intro O f p ho
    unfold fX12_ends_24 fX12_ends_43
    have e17 : jw_up O 132 w (jw_w (O 132 w + 0)) 127 17 = f := by rw [jw_up_ne _ (by decide)]; exact ho.2.1
    rw [if_pos (by omega), ho.2.1, if_neg (by have := ho.2.2.2; omega), if_pos (by omega), jp_bs, e17, if_neg (by have := ho.2.2.2; omega)]
    exact ⟨_, rfl, ⟨jp_mfr_2 ho.1.1 _ _, by rw [jw_up_ne _ (by decide)]; exact ho.1.2⟩, e17, by rw [jw_up_ne _ (by decide)]; exact ho.2.2.1, ho.2.2.2⟩
  rcases h with h | ⟨h, hS⟩
  · obtain ⟨N', n1, n2⟩ := ftc N S.1 S.2 h
    refine Or.inl ⟨N', ?_, n2⟩
    unfold fX12_ends
    rw [h.2.1, if_neg (by have := h.2.2.2; omega), n1]
  · obtain ⟨h1, h2, h3, h4, h5⟩ := id h
    have hit := jp_it_r t hs (jp_nb w).toNat
    have hkv := jp_kd_v t L (jp_it t L s (jp_nb w).toNat)
    rw [show (jp_nb w - jp_nb w).toNat = 0 by omega, jp_sf] at hS
    unfold fX12_ends fX12_ends_21
    rw [h4, if_pos rfl, h3.2.1]
    by_cases e : jp_kd t L (jp_it t L s (jp_nb w).toNat) = 3
    · rw [if_pos e] at hS
      obtain ⟨N', n1, n2⟩ := gX12_must_1 h hit 1 (by decide)
      obtain ⟨g1, g2, g3, g4, g5⟩ := id n2
      refine Or.inr ?_
      rw [e, if_pos (by decide), n1, jp_bs]
      unfold fX12_ends_24 fX12_ends_43
      have e17 : jw_up N' 132 w (D w + 1) 127 17 = 0 := by rw [jw_up_ne _ (by decide)]; exact g4
      rw [if_pos (by omega), g4, if_pos rfl, if_pos (by omega), jp_bs, g5 w (by omega) (by omega), jw_ws (x := D w + 1) (by omega), e17, if_pos rfl]
      refine ⟨_, rfl, by rw [hS], ⟨jp_mfr_2 g1 _ _, jp_mfr_m g2 (jp_mfr_2 (jp_mfr_r _) _ _), ?_, e17, fun j a b => ?_⟩, rfl⟩
      · rw [hS]
        unfold jp_tmm at g3 ⊢
        rw [jw_up_ne _ (by decide)]
        exact g3
      · rw [jw_up_eq, jw_u1_a, jw_u1_a]
        by_cases z : j = w
        · rw [if_pos z, if_pos z]
        · rw [if_neg z, if_neg z]; exact g5 j a b
    · rw [if_neg e] at hS
      have c14' : ¬ jp_tkm (jp_kd t L (jp_it t L s (jp_nb w).toNat)) = 4 := by
        unfold jp_tkm
        rcases hkv with w | w | w | w | w <;> rw [w] <;> first | exact absurd w e | decide
      obtain ⟨N', n1, n2, n3⟩ := gX12_must_0 h hit
      obtain ⟨N2, m1, m2⟩ := ftc N' _ _ n2
      refine Or.inl ⟨N2, ?_, by rw [hS]; exact m2⟩
      rw [if_neg c14', n1, jp_bs, m1]
