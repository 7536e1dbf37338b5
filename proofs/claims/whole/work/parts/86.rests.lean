/-! all ways to rest: the model -/
def jp_mI (M N : jw_M) : Prop := (∀ k : Nat, k ≠ 133 → k ≠ 138 → N k = M k) ∧ (∀ j : Int, j < 0 ∨ M 131 3 ≤ j → N 133 j = M 133 j) ∧ (∀ j : Int, 0 ≤ j → j < M 131 3 → N 138 j = M 133 j)
theorem jp_mI_A {M N : jw_M} (hA : jp_A M) (h : jp_mI M N) : jp_A N := jp_A_fr hA (fun k _ _ => h.1 k (by omega) (by omega)) (h.1 _ (by decide) (by decide)) (h.1 _ (by decide) (by decide)) (h.1 _ (by decide) (by decide))
theorem jp_mI_D {M N : jw_M} (hA : jp_A M) (hD : jp_D M) (h : jp_mI M N) : jp_D N := jp_D_9 hD (fun k _ _ => h.1 k (by omega) (by omega)) (h.1 _ (by decide) (by decide)) (fun j hj => h.2.1 j (by have := (jp_A_r hA).1.2.2.1; omega))
theorem gX12_rests_207 {M N : jw_M} (hA : jp_A M) (hD : jp_D M) (hN : jp_mI M N) (r73 : Int → Int → Int → Int → Int → jw_M → Option (Int × jw_M)) (i x2 cnt fnd v : Int) (hv : 0 ≤ v ∧ v < 16807) (hc : 0 ≤ cnt ∧ cnt ≤ 16807) (hd : ∀ j : Int, 0 ≤ j → j < M 131 3 → N 133 j = jp_d7 v j) (x7 : Int) (h7 : (x7 = 1 ∧ (∀ j : Int, 0 ≤ j → j < M 131 3 → jp_d7 v j < M 131 0) ∧ ∀ j : Int, 0 ≤ j → j < M 131 3 → jp_lw (M 131) (jp_d7 v) (M 131 (90 + j)) j (jp_d7 v j) = true) ∨ (x7 = 0 ∧ jp_Gv (M 131) (M 133) v = false)) : fX12_rests_207 r73 i x2 cnt fnd v x7 N = r73 i x2 (cnt + jp_01 (jp_Gv (M 131) (M 133) v)) (if jp_Gv (M 131) (M 133) v = true ∧ cnt = i then v else fnd) (v + 1) N := by
  obtain ⟨⟨r0, r2', r3, r4, r5⟩, -⟩ := jp_A_r hA
  have e131 : N 131 = M 131 := hN.1 _ (by decide) (by decide)
  unfold fX12_rests_207 fX12_rests_236 fX12_rests_231 fX12_rests_236
  rcases h7 with ⟨rfl, hcr, hlw⟩ | ⟨rfl, hG⟩
  · have har := gX12_areAtRest (jp_mI_A hA hN) (jp_mI_D hA hD hN) (by rw [e131]; exact fun q a b => by rw [hd q a b]; exact ⟨(jp_d7_r v q).1, hcr q a b⟩)
    have ers : jp_rs (N 131) (N 133) (N 133) = jp_rs (M 131) (M 133) (jp_d7 v) := by
      rw [e131]
      exact jp_rs_e r3.1 (fun j a b => hN.2.1 j (by omega)) hD.1.1 (fun q a b => hd q a b)
    rw [ers] at har
    rw [if_neg (by decide), har, jp_bs]
    cases hr : jp_rs (M 131) (M 133) (jp_d7 v) with
    | true =>
      have hG : jp_Gv (M 131) (M 133) v = true := (jp_Gv_i r3.1 v).mpr ⟨hcr, hlw, hr⟩
      rw [hG, jp_01t, if_neg (by decide)]
      by_cases e : cnt = i
      · rw [if_pos e, if_pos ⟨rfl, e⟩, jp_bs, jp_bs, jp_bs, jw_ws (by omega), jw_ws (by omega)]
      · rw [if_neg e, if_neg (fun z => e z.2), jp_bs, jp_bs, jp_bs, jw_ws (by omega), jw_ws (by omega)]
    | false =>
      have hG : jp_Gv (M 131) (M 133) v = false := jp_Bf (fun z => by have := ((jp_Gv_i r3.1 v).mp z).2.2; rw [hr] at this; cases this)
      rw [hG, jp_01f, if_pos rfl, if_neg (fun z => by cases z.1), Int.add_zero, jp_bs, jw_ws (by omega)]
  · rw [hG, jp_01f, if_pos rfl, if_neg (fun z => by cases z.1), Int.add_zero, jp_bs, jw_ws (by omega)]
theorem gX12_rests_158 {M N : jw_M} (hA : jp_A M) (hD : jp_D M) (hN : jp_mI M N) (r73 : Int → Int → Int → Int → Int → jw_M → Option (Int × jw_M)) (i x2 cnt fnd v : Int) (hv : 0 ≤ v ∧ v < 16807) (hc : 0 ≤ cnt ∧ cnt ≤ 16807) (hd : ∀ j : Int, 0 ≤ j → j < M 131 3 → N 133 j = jp_d7 v j) (x7 : Int) (h7 : (x7 = 1 ∧ ∀ j : Int, 0 ≤ j → j < M 131 3 → jp_d7 v j < M 131 0) ∨ (x7 = 0 ∧ jp_Gv (M 131) (M 133) v = false)) : fX12_rests_158 r73 jw_fu i x2 cnt fnd v x7 0 N = r73 i x2 (cnt + jp_01 (jp_Gv (M 131) (M 133) v)) (if jp_Gv (M 131) (M 133) v = true ∧ cnt = i then v else fnd) (v + 1) N := by
  obtain ⟨⟨r0, r2', r3, r4, r5⟩, -⟩ := jp_A_r hA
  have e131 : N 131 = M 131 := hN.1 _ (by decide) (by decide)
  refine jp_up (fun k s a => fX12_rests_158 r73 k i x2 cnt fnd v a s N) (M 131 3) (fun s a => 0 ≤ s ∧ ((a = 1 ∧ (∀ j : Int, 0 ≤ j → j < M 131 3 → jp_d7 v j < M 131 0) ∧ ∀ j : Int, 0 ≤ j → j < s → jp_lw (M 131) (jp_d7 v) (M 131 (90 + j)) j (jp_d7 v j) = true) ∨ (a = 0 ∧ jp_Gv (M 131) (M 133) v = false))) (fun r => r = r73 i x2 (cnt + jp_01 (jp_Gv (M 131) (M 133) v)) (if jp_Gv (M 131) (M 133) v = true ∧ cnt = i then v else fnd) (v + 1) N) ?_ ?_ jw_fu 0 x7 (by unfold jw_fu; omega) (by omega) ⟨by omega, ?_⟩
  · intro k s a hp hs ih
    obtain ⟨h0, ha⟩ := hp
    show fX12_rests_158 r73 (k + 1) i x2 cnt fnd v a s N = _
    rw [fX12_rests_158, if_pos (by decide), e131, if_pos hs]
    rcases ha with ⟨rfl, hcr, hlw⟩ | ⟨rfl, hG⟩
    · have hpos : ∀ q : Int, 0 ≤ q → q < M 131 3 → 0 ≤ N 133 q ∧ N 133 q < M 131 0 := fun q a b => by rw [hd q a b]; exact ⟨(jp_d7_r v q).1, hcr q a b⟩
      have hms := gX12_mayStand (jp_mI_A hA hN) (M 131 (90 + s)) s (N 133 s) (by rw [e131]; exact hpos s h0 hs) (by rw [e131]; exact hpos)
      rw [e131, hd s h0 hs, jp_lw_e r3.1 (P := jp_d7 v) hd] at hms
      rw [if_neg (by decide), jw_ws (x := 90 + s) (by omega), if_pos (by omega), Int.zero_add, jw_ws (x := s) (by omega), if_pos (by omega), hd s h0 hs, hms, jp_bs, jp_bs, jp_bs, jw_ws (by omega)]
      cases hl : jp_lw (M 131) (jp_d7 v) (M 131 (90 + s)) s (jp_d7 v s) with
      | true =>
        rw [jp_01t]
        refine ih 1 ⟨by omega, Or.inl ⟨rfl, hcr, fun j a b => ?_⟩⟩
        by_cases z : j = s
        · rw [z]; exact hl
        · exact hlw j a (by omega)
      | false =>
        rw [jp_01f]
        refine ih 0 ⟨by omega, Or.inr ⟨rfl, jp_Bf (fun z => ?_)⟩⟩
        have := ((jp_Gv_i r3.1 v).mp z).2.1 s h0 hs
        rw [hl] at this; cases this
    · rw [if_pos rfl]
      exact gX12_rests_207 hA hD hN r73 i x2 cnt fnd v hv hc hd 0 (Or.inr ⟨rfl, hG⟩)
  · intro k a hp
    obtain ⟨h0, ha⟩ := hp
    show fX12_rests_158 r73 (k + 1) i x2 cnt fnd v a (M 131 3) N = _
    rw [fX12_rests_158, if_pos (by decide), e131, if_neg (by omega)]
    exact gX12_rests_207 hA hD hN r73 i x2 cnt fnd v hv hc hd a ha
  · rcases h7 with ⟨a, b⟩ | ⟨a, b⟩
    · exact Or.inl ⟨a, b, fun j p q => by omega⟩
    · exact Or.inr ⟨a, b⟩
theorem gX12_rests_89 {M N : jw_M} (hA : jp_A M) (hD : jp_D M) (hN : jp_mI M N) (r73 : Int → Int → Int → Int → Int → jw_M → Option (Int × jw_M)) (i x2 cnt fnd v : Int) (hv : 0 ≤ v ∧ v < 16807) (hc : 0 ≤ cnt ∧ cnt ≤ 16807) : ∃ N' : jw_M, jp_mI M N' ∧ fX12_rests_89 r73 jw_fu i x2 cnt fnd v v 1 0 N = r73 i x2 (cnt + jp_01 (jp_Gv (M 131) (M 133) v)) (if jp_Gv (M 131) (M 133) v = true ∧ cnt = i then v else fnd) (v + 1) N' := by
  obtain ⟨⟨r0, r2', r3, r4, r5⟩, -⟩ := jp_A_r hA
  refine jp_up (fun k s (a : (Int × Int) × jw_M) => fX12_rests_89 r73 k i x2 cnt fnd v a.1.1 a.1.2 s a.2) (M 131 3) (fun s a => 0 ≤ s ∧ a.1.1 = v / 7 ^ s.toNat ∧ jp_mI M a.2 ∧ (∀ j : Int, 0 ≤ j → j < s → a.2 133 j = jp_d7 v j) ∧ ((a.1.2 = 1 ∧ ∀ j : Int, 0 ≤ j → j < s → jp_d7 v j < M 131 0) ∨ (a.1.2 = 0 ∧ jp_Gv (M 131) (M 133) v = false))) (fun r => ∃ N' : jw_M, jp_mI M N' ∧ r = r73 i x2 (cnt + jp_01 (jp_Gv (M 131) (M 133) v)) (if jp_Gv (M 131) (M 133) v = true ∧ cnt = i then v else fnd) (v + 1) N') ?_ ?_ jw_fu 0 ((v, 1), N) (by unfold jw_fu; omega) (by omega) ⟨by omega, ?_, hN, fun j a b => by omega, Or.inl ⟨rfl, fun j a b => by omega⟩⟩
  · intro k s a hp hs ih
    obtain ⟨⟨left, good⟩, N⟩ := a
    obtain ⟨h0, hl, hN, hj, hg⟩ := hp
    simp only at hl hN hj hg
    have e131 : N 131 = M 131 := hN.1 _ (by decide) (by decide)
    have hq : 0 ≤ left ∧ left ≤ v := by
      rw [hl]
      exact ⟨Int.ediv_nonneg hv.1 (Int.le_of_lt (jp_7p0 _)), Int.ediv_le_self _ hv.1⟩
    have hm : left.tmod 7 = jp_d7 v s := by rw [Int.tmod_eq_emod_of_nonneg hq.1, hl]; rfl
    have hl2 : left.tdiv 7 = v / 7 ^ (s + 1).toNat := by rw [Int.tdiv_eq_ediv_of_nonneg hq.1, hl, jp_dq (by decide), show (s + 1).toNat = s.toNat + 1 by omega]
    have hdr := jp_d7_r v s
    have hdq : 0 ≤ left.tdiv 7 ∧ left.tdiv 7 ≤ left := jp_tdb hq.1 (by decide)
    have hN2 : jp_mI M (jw_up N 133 s (jp_d7 v s)) := ⟨fun k a b => by rw [jw_up_ne _ a]; exact hN.1 k a b, fun j hj => by rw [jw_up_eq, jw_u1_n _ (by omega)]; exact hN.2.1 j hj, fun j a b => by rw [jw_up_ne _ (by decide)]; exact hN.2.2 j a b⟩
    have e131' : jw_up N 133 s (jp_d7 v s) 131 = M 131 := hN2.1 _ (by decide) (by decide)
    have hus : jw_up N 133 s (jp_d7 v s) 133 s = jp_d7 v s := by rw [jw_up_eq, jw_u1_s]
    have next : ∀ g' : Int, ((g' = 1 ∧ ∀ j : Int, 0 ≤ j → j < s + 1 → jp_d7 v j < M 131 0) ∨ (g' = 0 ∧ jp_Gv (M 131) (M 133) v = false)) → ∃ N' : jw_M, jp_mI M N' ∧ fX12_rests_147 r73 (fX12_rests_89 r73 k) i x2 cnt fnd v (left.tdiv 7) s g' (jw_up N 133 s (jp_d7 v s)) = r73 i x2 (cnt + jp_01 (jp_Gv (M 131) (M 133) v)) (if jp_Gv (M 131) (M 133) v = true ∧ cnt = i then v else fnd) (v + 1) N' := by
      intro g' hg'
      unfold fX12_rests_147
      rw [jp_bs, jp_bs, jw_ws (by omega)]
      refine ih ((left.tdiv 7, g'), jw_up N 133 s (jp_d7 v s)) ⟨by omega, hl2, hN2, fun j a b => ?_, hg'⟩
      show jw_up N 133 s (jp_d7 v s) 133 j = jp_d7 v j
      by_cases z : j = s
      · rw [z]; exact hus
      · rw [jw_up_eq, jw_u1_n _ z]; exact hj j a (by omega)
    show ∃ N' : jw_M, jp_mI M N' ∧ fX12_rests_89 r73 (k + 1) i x2 cnt fnd v left good s N = _
    rw [fX12_rests_89, if_pos (by decide), e131, if_pos hs, if_pos (by decide), Int.zero_add, jw_ws (x := s) (by omega), if_pos (by omega), jp_bs, if_pos (by decide), jp_bs, hm, jw_ws (x := jp_d7 v s) (by omega), jw_ws (x := left.tdiv 7) (by omega)]
    unfold fX12_rests_146
    rcases hg with ⟨rfl, hg⟩ | ⟨rfl, hg⟩
    · have hic := gX12_isCorner (jp_mI_A hA hN2) (jp_d7 v s)
      rw [e131'] at hic
      by_cases z : jp_d7 v s < M 131 0
      · rw [if_pos (And.intro hdr.1 z)] at hic
        rw [if_neg (by decide), if_pos (by omega), hus, hic, jp_bs, if_neg (by decide : ¬ (1 : Int) = 0)]
        refine next 1 (Or.inl ⟨rfl, fun j a b => ?_⟩)
        by_cases z2 : j = s
        · rw [z2]; exact z
        · exact hg j a (by omega)
      · rw [if_neg (fun w => z w.2)] at hic
        rw [if_neg (by decide), if_pos (by omega), hus, hic, jp_bs, if_pos (rfl : (0 : Int) = 0)]
        exact next 0 (Or.inr ⟨rfl, jp_Bf (fun w => z (((jp_Gv_i r3.1 v).mp w).1 s h0 hs))⟩)
    · rw [if_pos rfl]
      exact next 0 (Or.inr ⟨rfl, hg⟩)
  · intro k a hp
    obtain ⟨⟨left, good⟩, N⟩ := a
    obtain ⟨h0, hl, hN, hj, hg⟩ := hp
    simp only at hl hN hj hg
    have e131 : N 131 = M 131 := hN.1 _ (by decide) (by decide)
    refine ⟨N, hN, ?_⟩
    show fX12_rests_89 r73 (k + 1) i x2 cnt fnd v left good (M 131 3) N = _
    rw [fX12_rests_89, if_pos (by decide), e131, if_neg (by omega), jp_bs]
    exact gX12_rests_158 hA hD hN r73 i x2 cnt fnd v hv hc hj good hg
  · show v = v / 7 ^ (0 : Int).toNat
    rw [show (0 : Int).toNat = 0 by decide, Int.pow_zero, Int.ediv_one]
theorem gX12_rests_29 {M : jw_M} (hA : jp_A M) (hD : jp_D M) (i : Int) : ∃ N : jw_M, fX12_rests_29 jw_fu i 1 0 M = some (jp_ra (M 131) (M 133) i, N) ∧ (∀ k : Nat, k ≠ 138 → N k = M k) := by
  obtain ⟨⟨r0, r2', r3, r4, r5⟩, -⟩ := jp_A_r hA
  have h7 := jp_7p5 r3
  refine jp_up (fun k s (a : Int × jw_M) => fX12_rests_29 k i a.1 s a.2) (M 131 3) (fun s a => 0 ≤ s ∧ a.1 = 7 ^ s.toNat ∧ (∀ k : Nat, k ≠ 138 → a.2 k = M k) ∧ (∀ j : Int, 0 ≤ j → j < s → a.2 138 j = M 133 j)) (fun r => ∃ N : jw_M, r = some (jp_ra (M 131) (M 133) i, N) ∧ (∀ k : Nat, k ≠ 138 → N k = M k)) ?_ ?_ jw_fu 0 (1, M) (by unfold jw_fu; omega) (by omega) ⟨by omega, rfl, fun _ _ => rfl, fun j a b => by omega⟩
  · intro k s a hp hs ih
    obtain ⟨al, N⟩ := a
    obtain ⟨h0, hal, hf, hj⟩ := hp
    simp only at hal hf hj
    have h7s := jp_7p5 (n := s + 1) (by omega)
    have e7 : (7 : Int) ^ (s + 1).toNat = 7 ^ s.toNat * 7 := by rw [show (s + 1).toNat = s.toNat + 1 by omega, Int.pow_succ]
    have e3 : N 133 s = M 133 s := by rw [hf _ (by decide)]
    show ∃ N' : jw_M, fX12_rests_29 (k + 1) i al s N = _ ∧ _
    rw [fX12_rests_29, if_pos (by decide), hf 131 (by decide), if_pos hs, Int.zero_add, jw_ws (x := s) (by omega), if_pos (by omega), if_pos (by omega), jp_bs, jp_bs, jp_bs, jw_ws (x := s + 1) (by omega), hal, ← e7, jw_ws (by omega), e3]
    refine ih (_, _) ⟨by omega, rfl, fun k hk => ?_, fun j a b => ?_⟩
    · show jw_up N 138 s (M 133 s) k = M k
      rw [jw_up_ne _ hk]; exact hf k hk
    · show jw_up N 138 s (M 133 s) 138 j = M 133 j
      rw [jw_up_eq, jw_u1_a]
      by_cases z : j = s
      · rw [if_pos z, z]
      · rw [if_neg z]; exact hj j a (by omega)
  · intro k a hp
    obtain ⟨al, N⟩ := a
    obtain ⟨h0, hal, hf, hj⟩ := hp
    simp only at hal hf hj
    have hN : jp_mI M N := ⟨fun k a b => hf k b, fun j _ => by rw [hf _ (by decide)], hj⟩
    show ∃ N' : jw_M, fX12_rests_29 (k + 1) i al (M 131 3) N = _ ∧ _
    rw [fX12_rests_29, if_pos (by decide), hf 131 (by decide), if_neg (by omega), jp_bs, jp_bs, jp_bs, hal]
    clear hf hj
    refine jp_up (fun k v (a : (Int × Int) × jw_M) => fX12_rests_73 k i (7 ^ (M 131 3).toNat) a.1.1 a.1.2 v a.2) (7 ^ (M 131 3).toNat) (fun v a => 0 ≤ v ∧ a.1.1 = jp_gc (jp_Gv (M 131) (M 133)) v.toNat ∧ a.1.2 = jp_gfd (jp_Gv (M 131) (M 133)) i v.toNat ∧ jp_mI M a.2) (fun r => ∃ N : jw_M, r = some (jp_ra (M 131) (M 133) i, N) ∧ (∀ k : Nat, k ≠ 138 → N k = M k)) ?_ ?_ jw_fu 0 ((0, -1000000), N) (by unfold jw_fu; omega) (by omega) ⟨by omega, rfl, rfl, hN⟩
    · intro k v a hp hv ih
      obtain ⟨⟨cnt, fnd⟩, N⟩ := a
      obtain ⟨h0, hc, hfd, hN⟩ := hp
      simp only at hc hfd hN
      have hgc := jp_gc_r (jp_Gv (M 131) (M 133)) v.toNat
      obtain ⟨N', n1, n2⟩ := gX12_rests_89 hA hD hN (fX12_rests_73 k) i (7 ^ (M 131 3).toNat) cnt fnd v (by omega) (by omega)
      show ∃ N' : jw_M, fX12_rests_73 (k + 1) i (7 ^ (M 131 3).toNat) cnt fnd v N = _ ∧ _
      rw [fX12_rests_73, if_pos hv, jp_bs, jp_bs, jp_bs, n2]
      refine ih ((_, _), N') ⟨by omega, ?_, ?_, n1⟩
      · show cnt + _ = _
        rw [hc, jp_gc_s _ h0]
      · show (if _ then v else fnd) = _
        rw [hfd, jp_gfd_s _ _ h0, hc]
    · intro k a hp
      obtain ⟨⟨cnt, fnd⟩, N⟩ := a
      obtain ⟨h0, hc, hfd, hN⟩ := hp
      simp only at hc hfd hN
      show ∃ N' : jw_M, fX12_rests_73 (k + 1) i (7 ^ (M 131 3).toNat) cnt fnd (7 ^ (M 131 3).toNat) N = _ ∧ _
      rw [fX12_rests_73, if_neg (by omega), jp_bs]
      refine jp_up (fun k s N => fX12_rests_245 k i cnt fnd s N) (M 131 3) (fun s N => 0 ≤ s ∧ jp_mI M N ∧ ∀ j : Int, 0 ≤ j → j < s → N 133 j = M 133 j) (fun r => ∃ N : jw_M, r = some (jp_ra (M 131) (M 133) i, N) ∧ (∀ k : Nat, k ≠ 138 → N k = M k)) ?_ ?_ jw_fu 0 N (by unfold jw_fu; omega) (by omega) ⟨by omega, hN, fun j a b => by omega⟩
      · intro k s N hp hs ih
        obtain ⟨s0, hN, hj⟩ := hp
        have e131 : N 131 = M 131 := hN.1 _ (by decide) (by decide)
        show ∃ N' : jw_M, fX12_rests_245 (k + 1) i cnt fnd s N = _ ∧ _
        rw [fX12_rests_245, if_pos (by decide), e131, if_pos hs, if_pos (by omega), Int.zero_add, jw_ws (x := s) (by omega), if_pos (by omega), jp_bs, jp_bs, jw_ws (by omega), hN.2.2 s s0 hs]
        refine ih _ ⟨by omega, ⟨fun k a b => by rw [jw_up_ne _ a]; exact hN.1 k a b, fun j hj => by rw [jw_up_eq, jw_u1_n _ (by omega)]; exact hN.2.1 j hj, fun j a b => by rw [jw_up_ne _ (by decide)]; exact hN.2.2 j a b⟩, fun j a b => ?_⟩
        rw [jw_up_eq, jw_u1_a]
        by_cases z : j = s
        · rw [if_pos z, z]
        · rw [if_neg z]; exact hj j a (by omega)
      · intro k N hp
        obtain ⟨s0, hN, hj⟩ := hp
        have e131 : N 131 = M 131 := hN.1 _ (by decide) (by decide)
        refine ⟨N, ?_, fun k hk => ?_⟩
        · show fX12_rests_245 (k + 1) i cnt fnd (M 131 3) N = _
          rw [fX12_rests_245, if_pos (by decide), e131, if_neg (by omega)]
          unfold jp_ra
          rw [jp_7n] at hc hfd
          by_cases e : i = -1
          · rw [if_pos e, if_pos e, hc]
          · rw [if_neg e, if_neg e, hfd]
        · by_cases z : k = 133
          · subst z
            funext j
            by_cases z2 : 0 ≤ j ∧ j < M 131 3
            · exact hj j z2.1 z2.2
            · exact hN.2.1 j (by omega)
          · exact hN.1 k z hk
theorem jp_rests {M : jw_M} (h : jp_inv M) (i : Int) : jp_ok (fX11_rests i M) (fX12_rests i) := by
  have hA := jp_inv_A h
  have hD := jp_inv_D h
  obtain ⟨p1, p2⟩ := h.2.2.2.2.1.1
  by_cases ha : i < -1
  · have hx : fX11_rests i M = some (-9000000000000000001, M) := by
      unfold fX11_rests
      simp (disch := omega) only [↓jp_bs, ↓jp_b2s, ↓reduceIte, jw_up_a, Nat.reduceEqDiff, Int.reduceEq, Int.reduceLT, Int.reduceLE, Int.reduceAdd, Int.reduceSub, Int.reduceMul, Int.reduceNeg, jp_n9_1, jp_n9_8, jp_n9_15, jp_n9_21, jp_n9_24, jp_n10_1, jp_n10_2, jp_n10_3, jp_n10_4, jp_n10_5, jp_n10_6, jp_n17_1, jp_n17_2, jp_n17_3, jp_n17_4, jp_n17_5, jp_n17_6, jp_n24_1, jp_n24_2, jp_n24_3, jp_n24_4, jp_n24_5, jp_n30_1, jp_n30_2, jp_n33_1, jp_n33_2, false_and, true_and, and_true, and_false, and_self, ne_eq, not_true_eq_false, not_false_eq_true, jw_ws, jw_vs, jw_cmp_lt, jw_cmp_gt, jw_cmp_eq, jp_t1, jp_t2, jp_t3, jp_t4, jp_t5, jp_t6]
    refine ⟨_, _, _, hx, ?_, jp_th h 0⟩
    unfold fX12_rests
    simp (disch := omega) only [↓jp_bs, ↓jp_b2s, ↓reduceIte, jw_up_a, Nat.reduceEqDiff, Int.reduceEq, Int.reduceLT, Int.reduceLE, Int.reduceAdd, Int.reduceSub, Int.reduceMul, Int.reduceNeg, jp_n9_1, jp_n9_8, jp_n9_15, jp_n9_21, jp_n9_24, jp_n10_1, jp_n10_2, jp_n10_3, jp_n10_4, jp_n10_5, jp_n10_6, jp_n17_1, jp_n17_2, jp_n17_3, jp_n17_4, jp_n17_5, jp_n17_6, jp_n24_1, jp_n24_2, jp_n24_3, jp_n24_4, jp_n24_5, jp_n30_1, jp_n30_2, jp_n33_1, jp_n33_2, false_and, true_and, and_true, and_false, and_self, ne_eq, not_true_eq_false, not_false_eq_true, jw_ws, jw_vs, jw_cmp_lt, jw_cmp_gt, jw_cmp_eq, jp_t1, jp_t2, jp_t3, jp_t4, jp_t5, jp_t6]
  · by_cases hp : M 127 7 = 0
    · have hx : fX11_rests i M = some (-9000000000000000002, M) := by
        unfold fX11_rests
        simp (disch := omega) only [↓jp_bs, ↓jp_b2s, ↓reduceIte, jw_up_a, Nat.reduceEqDiff, Int.reduceEq, Int.reduceLT, Int.reduceLE, Int.reduceAdd, Int.reduceSub, Int.reduceMul, Int.reduceNeg, jp_n9_1, jp_n9_8, jp_n9_15, jp_n9_21, jp_n9_24, jp_n10_1, jp_n10_2, jp_n10_3, jp_n10_4, jp_n10_5, jp_n10_6, jp_n17_1, jp_n17_2, jp_n17_3, jp_n17_4, jp_n17_5, jp_n17_6, jp_n24_1, jp_n24_2, jp_n24_3, jp_n24_4, jp_n24_5, jp_n30_1, jp_n30_2, jp_n33_1, jp_n33_2, false_and, true_and, and_true, and_false, and_self, ne_eq, not_true_eq_false, not_false_eq_true, jw_ws, jw_vs, jw_cmp_lt, jw_cmp_gt, jw_cmp_eq, jp_t1, jp_t2, jp_t3, jp_t4, jp_t5, jp_t6]
      refine ⟨_, _, _, hx, ?_, jp_th h 0⟩
      unfold fX12_rests
      simp (disch := omega) only [↓jp_bs, ↓jp_b2s, ↓reduceIte, jw_up_a, Nat.reduceEqDiff, Int.reduceEq, Int.reduceLT, Int.reduceLE, Int.reduceAdd, Int.reduceSub, Int.reduceMul, Int.reduceNeg, jp_n9_1, jp_n9_8, jp_n9_15, jp_n9_21, jp_n9_24, jp_n10_1, jp_n10_2, jp_n10_3, jp_n10_4, jp_n10_5, jp_n10_6, jp_n17_1, jp_n17_2, jp_n17_3, jp_n17_4, jp_n17_5, jp_n17_6, jp_n24_1, jp_n24_2, jp_n24_3, jp_n24_4, jp_n24_5, jp_n30_1, jp_n30_2, jp_n33_1, jp_n33_2, false_and, true_and, and_true, and_false, and_self, ne_eq, not_true_eq_false, not_false_eq_true, jw_ws, jw_vs, jw_cmp_lt, jw_cmp_gt, jw_cmp_eq, jp_t1, jp_t2, jp_t3, jp_t4, jp_t5, jp_t6]
    · obtain ⟨N, n1, n2⟩ := gX8_findRest hA hD i (by omega)
      have hIN : jp_inv N := by
        refine jp_inv_fr h (fun k hk => n2 k (fun e => ?_) (fun e => ?_) (fun e => ?_) (fun e => ?_)) (by rw [n2 _ (by decide) (by decide) (by decide) (by decide)]) (by rw [n2 _ (by decide) (by decide) (by decide) (by decide)]) (by rw [n2 _ (by decide) (by decide) (by decide) (by decide)]) (by rw [n2 _ (by decide) (by decide) (by decide) (by decide)]) (by rw [n2 _ (by decide) (by decide) (by decide) (by decide)]) (by rw [n2 _ (by decide) (by decide) (by decide) (by decide)]) (by rw [n2 _ (by decide) (by decide) (by decide) (by decide)]) (by rw [n2 _ (by decide) (by decide) (by decide) (by decide)]) (by rw [n2 _ (by decide) (by decide) (by decide) (by decide)]) <;> (subst e; revert hk; decide)
      have hx : fX11_rests i M = some (jp_ra (M 131) (M 133) i, N) := by
        unfold fX11_rests
        rw [if_neg ha, if_neg (by omega), n1, jp_b2s]
      have e131 : jw_up N 127 0 0 131 = M 131 := by rw [jw_up_ne _ (by decide), n2 _ (by decide) (by decide) (by decide) (by decide)]
      have e133 : jw_up N 127 0 0 133 = M 133 := by rw [jw_up_ne _ (by decide), n2 _ (by decide) (by decide) (by decide) (by decide)]
      obtain ⟨Z, z1, z2⟩ := gX12_rests_29 (jp_A_th (jp_inv_A hIN) 0 0) (jp_D_th (jp_inv_D hIN) 0 0) i
      rw [e131, e133] at z1
      have hy : fX12_rests i N = some (jp_ra (M 131) (M 133) i, Z) := by
        have e7 : jw_up N 127 0 0 127 7 = M 127 7 := by rw [jw_up_eq, jw_u1_n _ (by decide), n2 _ (by decide) (by decide) (by decide) (by decide)]
        unfold fX12_rests
        rw [jp_bs, if_neg ha, e7, if_neg hp, jp_bs, jp_bs]
        exact z1
      refine ⟨_, _, _, hx, hy, ?_⟩
      refine jp_inv_fr (jp_th hIN 0) (fun k hk => z2 k (fun e => ?_)) (by rw [z2 _ (by decide)]) (by rw [z2 _ (by decide)]) (by rw [z2 _ (by decide)]) (by rw [z2 _ (by decide)]) (by rw [z2 _ (by decide)]) (by rw [z2 _ (by decide)]) (by rw [z2 _ (by decide)]) (by rw [z2 _ (by decide)]) (by rw [z2 _ (by decide)])
      subst e
      revert hk
      decide
