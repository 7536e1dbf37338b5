/-! goods to cellars: the model -/
theorem gX12_storeCost {M : jw_M} (hA : jp_A M) {P : Int → Int} (hP : ∀ s : Int, 0 ≤ s → s < M 131 3 → M 133 s = P s ∧ 0 ≤ P s ∧ P s < M 131 0) (s k : Int) (hs : 0 ≤ s ∧ s < M 131 3) (hk : 0 ≤ k ∧ k < M 131 5) : fX12_storeCost s k M = some (jp_co (M 131) P s k) := by
  obtain ⟨⟨r0, r2, r3, r4, r5⟩, -⟩ := jp_A_r hA
  have hp := hP s hs.1 hs.2
  have hc := jp_co_r hA.1 hs hp.2 hk
  have e5 := hA.1.2.2.2.2.2.1 k hk.1 hk.2
  have ew := (hA.2.2.2.2.2.2.2.2.2 (P s) (M 131 (75 + 2 * k)) hp.2.1 hp.2.2 e5.1 e5.2.1).1
  unfold fX12_storeCost
  rw [Int.zero_add, jw_ws (x := s) (by omega), if_pos (by omega), jw_ws (x := 2 * k) (by omega), jw_ws (x := 75 + 2 * k) (by omega), if_pos (by omega), hp.1, jw_ws (x := 7 * P s) (by omega), jw_ws (x := 7 * P s + M 131 (75 + 2 * k)) (by omega), if_pos (by omega), jp_bs, ew]
  unfold jp_co
  by_cases e : jp_wk (M 131) (P s) (M 131 (75 + 2 * k)) < 1000000
  · rw [if_pos e, if_pos e, jw_ws (x := 75 + 2 * k + 1) (by omega), if_pos (by omega), gX12_goodsOf1 hA s hs, jp_bs, if_pos (by decide), show 75 + 2 * k + 1 = 76 + 2 * k by omega, jw_ws (x := M 131 (76 + 2 * k) * M 131 (64 + 3 * M 131 (90 + s))) (by omega), jw_ws (x := (M 131 (76 + 2 * k) * M 131 (64 + 3 * M 131 (90 + s))).tdiv 10) (by omega), jw_ws (x := 2 * jp_wk (M 131) (P s) (M 131 (75 + 2 * k))) (by omega), jw_ws (by omega)]
  · rw [if_neg e, if_neg e]
theorem bX12_storeCost {M : jw_M} (hA : jp_A M) {P : Int → Int} (hP : ∀ s : Int, 0 ≤ s → s < M 131 3 → M 133 s = P s ∧ 0 ≤ P s ∧ P s < M 131 0) (s k : Int) (hs : 0 ≤ s ∧ s < M 131 3) (hk : 0 ≤ k ∧ k < M 131 5) {be : Type} (kk : _ → Option be) : Option.bind (fX12_storeCost s k M) kk = kk ((jp_co (M 131) P s k)) := by rw [show fX12_storeCost s k M = some (jp_co (M 131) P s k) from gX12_storeCost hA hP s k hs hk]; rfl
theorem jp_pw76 {C n : Int} (hC : 0 ≤ C ∧ C ≤ 6) (hn : 0 ≤ n ∧ n ≤ 5) : 0 ≤ C ^ n.toNat ∧ C ^ n.toNat ≤ 7776 := by
  have h := (by decide +kernel : ∀ (C : Fin 7) (n : Fin 6), 0 ≤ (((C : Nat) : Int)) ^ (n : Nat) ∧ (((C : Nat) : Int)) ^ (n : Nat) ≤ 7776) ⟨C.toNat, by omega⟩ ⟨n.toNat, by omega⟩
  simp only [Int.toNat_of_nonneg hC.1] at h
  exact h
/-- memories in which only the two rows differ -/
def jp_s9 (M N : jw_M) : Prop := ∀ k : Nat, k ≠ 139 → k ≠ 140 → N k = M k
theorem gX12_stored_194 {n : Int} (hn : 0 ≤ n ∧ n ≤ 5) (r65 : Int → Int → Int → Int → Int → jw_M → Option (Int × jw_M)) (x1 x3 x4 x5 : Int) (h5 : 0 ≤ x5 ∧ x5 < 7776) (M : jw_M) : ∃ N : jw_M, fX12_stored_194 r65 jw_fu x1 n x3 x4 x5 0 M = r65 x1 n x3 x4 (x5 + 1) N ∧ (∀ k : Nat, k ≠ 140 → N k = M k) ∧ ∀ j : Int, 0 ≤ j → j < n → N 140 j = M 139 j := by
  refine jp_up (fun k i N => fX12_stored_194 r65 k x1 n x3 x4 x5 i N) n (fun i N => 0 ≤ i ∧ (∀ k : Nat, k ≠ 140 → N k = M k) ∧ ∀ j : Int, 0 ≤ j → j < i → N 140 j = M 139 j) (fun r => ∃ N : jw_M, r = r65 x1 n x3 x4 (x5 + 1) N ∧ (∀ k : Nat, k ≠ 140 → N k = M k) ∧ ∀ j : Int, 0 ≤ j → j < n → N 140 j = M 139 j) ?_ ?_ jw_fu 0 M (by unfold jw_fu; omega) (by omega) ⟨by omega, fun _ _ => rfl, fun j a b => by omega⟩
  · intro k i N hp hi ih
    obtain ⟨h0, hf, hj⟩ := hp
    have e9 : N 139 i = M 139 i := by rw [hf _ (by decide)]
    show ∃ N' : jw_M, fX12_stored_194 r65 (k + 1) x1 n x3 x4 x5 i N = _ ∧ _
    rw [fX12_stored_194, if_pos hi, if_pos (by omega), if_pos (by omega), jp_bs, jp_bs, jw_ws (by omega), e9]
    refine ih _ ⟨by omega, fun k hk => by rw [jw_up_ne _ hk]; exact hf k hk, fun j a b => ?_⟩
    rw [jw_up_eq, jw_u1_a]
    by_cases z : j = i
    · rw [if_pos z, z]
    · rw [if_neg z]; exact hj j a (by omega)
  · intro k N hp
    obtain ⟨h0, hf, hj⟩ := hp
    refine ⟨N, ?_, hf, hj⟩
    show fX12_stored_194 r65 (k + 1) x1 n x3 x4 x5 n N = _
    rw [fX12_stored_194, if_neg (by omega)]
    unfold fX12_stored_220
    rw [jp_bs, jw_ws (by omega)]
/-- one row of cellars is looked at -/
theorem gX12_stored_89 {M : jw_M} (hA : jp_A M) {P : Int → Int} (hP : ∀ s : Int, 0 ≤ s → s < M 131 3 → M 133 s = P s ∧ 0 ≤ P s ∧ P s < M 131 0) (r65 : Int → Int → Int → Int → Int → jw_M → Option (Int × jw_M)) (x1 x3 best row : Int) (hr : 0 ≤ row ∧ row < M 131 5 ^ (M 131 3).toNat) (M0 : jw_M) (hM0 : jp_s9 M M0) : ∃ (N : jw_M), jp_s9 M N ∧ ((jp_xd (M 131 3) (jp_dg (M 131 5) row (M 131 3)) ∧ jp_tl (jp_co (M 131) P) (M 131 3) (jp_dg (M 131 5) row (M 131 3)) (M 131 3).toNat < best ∧ fX12_stored_89 r65 jw_fu x1 (M 131 3) x3 best row row 0 0 1 (M 131 3 - 1) M0 = r65 x1 (M 131 3) x3 (jp_tl (jp_co (M 131) P) (M 131 3) (jp_dg (M 131 5) row (M 131 3)) (M 131 3).toNat) (row + 1) N ∧ ∀ j : Int, 0 ≤ j → j < M 131 3 → N 140 j = jp_dg (M 131 5) row (M 131 3) j) ∨ (¬ (jp_xd (M 131 3) (jp_dg (M 131 5) row (M 131 3)) ∧ jp_tl (jp_co (M 131) P) (M 131 3) (jp_dg (M 131 5) row (M 131 3)) (M 131 3).toNat < best) ∧ fX12_stored_89 r65 jw_fu x1 (M 131 3) x3 best row row 0 0 1 (M 131 3 - 1) M0 = r65 x1 (M 131 3) x3 best (row + 1) N ∧ N 140 = M0 140)) := by
  obtain ⟨⟨r0, r2, r3, r4, r5⟩, -⟩ := jp_A_r hA
  have h76 := jp_pw76 r5 r3
  have hck := jp_co_k (P := P) hA.1 (fun s a b => (hP s a b).2)
  have hC : 1 ≤ M 131 3 → 1 ≤ M 131 5 := by
    intro z
    by_cases z2 : M 131 5 = 0
    · rw [z2, Int.zero_pow (by omega)] at hr; omega
    · omega
  generalize hx : jp_dg (M 131 5) row (M 131 3) = x
  have hxk : 1 ≤ M 131 3 → jp_xk (M 131 5) (M 131 3) x := fun z j a b => by rw [← hx]; exact jp_dg_r (hC z) _ _ _
  refine jp_dn (fun k i (a : (Int × Int × Int × Int) × jw_M) => fX12_stored_89 r65 k x1 (M 131 3) x3 best row a.1.1 a.1.2.1 a.1.2.2.1 a.1.2.2.2 i a.2) (fun i a => i < M 131 3 ∧ a.1.1 = row / M 131 5 ^ (M 131 3 - 1 - i).toNat ∧ (∃ p : Int → Bool, jp_sh2 a.1.2.1 p ∧ ∀ c : Int, p c = true ↔ ∃ j : Int, i < j ∧ j < M 131 3 ∧ x j = c) ∧ a.1.2.2.1 = jp_tl (jp_co (M 131) P) (M 131 3) x (M 131 3 - 1 - i).toNat ∧ ((a.1.2.2.2 = 1 ∧ ∀ j l : Int, i < j → j < l → l < M 131 3 → x j ≠ x l) ∨ (a.1.2.2.2 = 0 ∧ ¬ jp_xd (M 131 3) x)) ∧ jp_s9 M a.2 ∧ a.2 140 = M0 140 ∧ ∀ j : Int, i < j → j < M 131 3 → a.2 139 j = x j) (fun r => ∃ (N : jw_M), jp_s9 M N ∧ ((jp_xd (M 131 3) x ∧ jp_tl (jp_co (M 131) P) (M 131 3) x (M 131 3).toNat < best ∧ r = r65 x1 (M 131 3) x3 (jp_tl (jp_co (M 131) P) (M 131 3) x (M 131 3).toNat) (row + 1) N ∧ ∀ j : Int, 0 ≤ j → j < M 131 3 → N 140 j = x j) ∨ (¬ (jp_xd (M 131 3) x ∧ jp_tl (jp_co (M 131) P) (M 131 3) x (M 131 3).toNat < best) ∧ r = r65 x1 (M 131 3) x3 best (row + 1) N ∧ N 140 = M0 140))) ?_ ?_ jw_fu (M 131 3 - 1) ((row, 0, 0, 1), M0) (by unfold jw_fu; omega) (by omega) ⟨by omega, ?_, ⟨fun _ => false, ⟨(by decide : (0 : Int) ≤ 0 ∧ (0 : Int) < 128), fun c a b => by show jp_bit 0 c = 0; unfold jp_bit; simp⟩, fun c => ⟨fun z => (by cases z), fun ⟨j, a, b, _⟩ => by omega⟩⟩, ?_, Or.inl ⟨rfl, fun j l a b c => by omega⟩, hM0, rfl, fun j a b => by omega⟩
  · intro k i a hp hi ih
    obtain ⟨⟨left, met, sum, good⟩, N⟩ := a
    obtain ⟨i1, hl, ⟨p, hp1, hp2⟩, hs, hg, hf, h140, hj⟩ := hp
    simp only at hl hp1 hs hg hf h140 hj
    have hC1 := hC (by omega)
    have hxi := hxk (by omega) i hi i1
    have n131 : N 131 = M 131 := hf _ (by decide) (by decide)
    have hq : 0 ≤ left ∧ left ≤ row := by
      rw [hl]
      exact ⟨Int.ediv_nonneg hr.1 (Int.pow_nonneg (by omega)), Int.ediv_le_self _ hr.1⟩
    have hl2 : left.tdiv (M 131 5) = row / M 131 5 ^ (M 131 3 - 1 - (i - 1)).toNat := by
      rw [Int.tdiv_eq_ediv_of_nonneg hq.1, hl, jp_dq hC1, show (M 131 3 - 1 - (i - 1)).toNat = (M 131 3 - 1 - i).toNat + 1 by omega]
    have hm : left.tmod (M 131 5) = x i := by
      rw [Int.tmod_eq_emod_of_nonneg hq.1, hl, ← hx]
      rfl
    have hdq : 0 ≤ left.tdiv (M 131 5) ∧ left.tdiv (M 131 5) ≤ left := jp_tdb hq.1 hC1
    have htl := jp_tl_r hck (hxk (by omega)) (M 131 3 - 1 - i).toNat (by omega)
    have hci := hck.2.2 i (x i) hi i1 hxi.1 hxi.2
    have htl2 : jp_tl (jp_co (M 131) P) (M 131 3) x (M 131 3 - 1 - (i - 1)).toNat = jp_tl (jp_co (M 131) P) (M 131 3) x (M 131 3 - 1 - i).toNat + jp_co (M 131) P i (x i) := by
      rw [show (M 131 3 - 1 - (i - 1)).toNat = (M 131 3 - 1 - i).toNat + 1 by omega, jp_tl, show M 131 3 - 1 - (((M 131 3 - 1 - i).toNat : Nat) : Int) = i by omega]
    have hf2 : jp_s9 M (jw_up N 139 i (x i)) := fun k a b => by rw [jw_up_ne _ a]; exact hf k a b
    have hcost : fX12_storeCost i (x i) (jw_up N 139 i (x i)) = some (jp_co (M 131) P i (x i)) := by
      have hA2 : jp_A (jw_up N 139 i (x i)) := jp_A_fr hA (fun k _ _ => hf2 k (by omega) (by omega)) (hf2 _ (by decide) (by decide)) (hf2 _ (by decide) (by decide)) (hf2 _ (by decide) (by decide))
      have e131 := hf2 131 (by decide) (by decide)
      have := gX12_storeCost hA2 (P := P) (by rw [e131, hf2 133 (by decide) (by decide)]; exact hP) i (x i) (by rw [e131]; omega) (by rw [e131]; exact hxi)
      rw [e131] at this
      exact this
    have next : ∀ g' : Int, ((g' = 1 ∧ ∀ j l : Int, i - 1 < j → j < l → l < M 131 3 → x j ≠ x l) ∨ (g' = 0 ∧ ¬ jp_xd (M 131 3) x)) → ∃ (N' : jw_M), jp_s9 M N' ∧ ((jp_xd (M 131 3) x ∧ jp_tl (jp_co (M 131) P) (M 131 3) x (M 131 3).toNat < best ∧ fX12_stored_145 r65 (fX12_stored_89 r65 k) x1 (M 131 3) x3 best row (left.tdiv (M 131 5)) met sum i (x i) g' (jw_up N 139 i (x i)) = r65 x1 (M 131 3) x3 (jp_tl (jp_co (M 131) P) (M 131 3) x (M 131 3).toNat) (row + 1) N' ∧ ∀ j : Int, 0 ≤ j → j < M 131 3 → N' 140 j = x j) ∨ (¬ (jp_xd (M 131 3) x ∧ jp_tl (jp_co (M 131) P) (M 131 3) x (M 131 3).toNat < best) ∧ fX12_stored_145 r65 (fX12_stored_89 r65 k) x1 (M 131 3) x3 best row (left.tdiv (M 131 5)) met sum i (x i) g' (jw_up N 139 i (x i)) = r65 x1 (M 131 3) x3 best (row + 1) N' ∧ N' 140 = M0 140)) := by
      intro g' hg'
      unfold fX12_stored_145
      rw [jp_bs, jp_bs, hcost, jp_bs, jp_bs, jp_bs, jw_ws (x := i + -1) (by omega), hs, jw_ws (by omega), ← htl2]
      refine ih ((left.tdiv (M 131 5), jw_ior met (jw_ishl 1 (x i)), jp_tl (jp_co (M 131) P) (M 131 3) x (M 131 3 - 1 - (i - 1)).toNat, g'), jw_up N 139 i (x i)) ⟨by omega, hl2, ⟨jp_j1 p (x i), jp_sh2_j hp1 (by omega), fun c => ?_⟩, rfl, hg', hf2, ?_, fun j a b => ?_⟩
      · by_cases e : c = x i
        · rw [e, jp_j1_s]
          exact ⟨fun _ => ⟨i, by omega, i1, rfl⟩, fun _ => rfl⟩
        · rw [jp_j1_n p e, hp2 c]
          refine ⟨fun ⟨j, a, b, c⟩ => ⟨j, by omega, b, c⟩, fun ⟨j, a, b, c'⟩ => ⟨j, ?_, b, c'⟩⟩
          by_cases z : j = i
          · rw [z] at c'; exact absurd c'.symm e
          · omega
      · show jw_up N 139 i (x i) 140 = _
        rw [jw_up_ne _ (by decide)]; exact h140
      · show jw_up N 139 i (x i) 139 j = x j
        rw [jw_up_eq, jw_u1_a]
        by_cases z : j = i
        · rw [if_pos z, z]
        · rw [if_neg z]; exact hj j (by omega) b
    show ∃ (N' : jw_M), jp_s9 M N' ∧ ((_ ∧ _ ∧ fX12_stored_89 r65 (k + 1) x1 (M 131 3) x3 best row left met sum good i N = _ ∧ _) ∨ (_ ∧ fX12_stored_89 r65 (k + 1) x1 (M 131 3) x3 best row left met sum good i N = _ ∧ _))
    rw [fX12_stored_89, if_neg (by omega), if_pos (by decide), n131, if_pos (by omega), jp_bs, if_pos (by decide), if_pos (by omega), jp_bs, if_pos (by omega), jp_bs, hm, jw_ws (x := x i) (by omega), jw_ws (x := left.tdiv (M 131 5)) (by omega)]
    unfold fX12_stored_144
    rcases hg with ⟨rfl, hg⟩ | ⟨rfl, hg⟩
    · rw [if_neg (by decide)]
      by_cases e1 : jw_iand (jw_ishr met (x i)) 1 = 0
      · rw [if_pos e1]
        refine next 1 (Or.inl ⟨rfl, fun j l a b d => ?_⟩)
        by_cases z : j = i
        · rw [z]
          intro e
          have q := (jp_sh2_0 hp1 (c := x i) (by omega)).mp e1
          have := (hp2 (x i)).mpr ⟨l, by omega, d, e.symm⟩
          rw [q] at this; cases this
        · exact hg j l (by omega) b d
      · rw [if_neg e1]
        refine next 0 (Or.inr ⟨rfl, fun z => e1 ((jp_sh2_0 hp1 (by omega)).mpr ?_)⟩)
        cases q : p (x i) with
        | false => rfl
        | true =>
          obtain ⟨j, a, b, c⟩ := (hp2 _).mp q
          exact absurd c.symm (z i j hi a b)
    · rw [if_pos rfl]
      exact next 0 (Or.inr ⟨rfl, hg⟩)
  · intro k a hp
    obtain ⟨⟨left, met, sum, good⟩, N⟩ := a
    obtain ⟨i1, hl, -, hs, hg, hf, h140, hj⟩ := hp
    simp only at hs hg hf h140 hj
    rw [show (M 131 3 - 1 - -1).toNat = (M 131 3).toNat by omega] at hs
    show ∃ (N' : jw_M), jp_s9 M N' ∧ ((_ ∧ _ ∧ fX12_stored_89 r65 (k + 1) x1 (M 131 3) x3 best row left met sum good (-1) N = _ ∧ _) ∨ (_ ∧ fX12_stored_89 r65 (k + 1) x1 (M 131 3) x3 best row left met sum good (-1) N = _ ∧ _))
    rw [fX12_stored_89, if_pos (by decide)]
    unfold fX12_stored_220
    rcases hg with ⟨rfl, hg⟩ | ⟨rfl, hg⟩
    · have hxd : jp_xd (M 131 3) x := fun i j a b c => hg i j (by omega) b c
      rw [if_neg (by decide)]
      by_cases e : sum < best
      · obtain ⟨N', m1, m2, m3⟩ := gX12_stored_194 r3 r65 x1 x3 sum row (by omega) N
        refine ⟨N', fun k a b => by rw [m2 k b]; exact hf k a b, Or.inl ⟨hxd, by omega, ?_, fun j a b => by rw [m3 j a b]; exact hj j (by omega) b⟩⟩
        rw [if_pos e, jp_bs, jp_bs, m1, hs]
      · refine ⟨N, hf, Or.inr ⟨fun z => by omega, ?_, h140⟩⟩
        rw [if_neg e, jp_bs, jw_ws (by omega)]
    · refine ⟨N, hf, Or.inr ⟨fun z => hg z.1, ?_, h140⟩⟩
      rw [if_pos rfl, jp_bs, jw_ws (by omega)]
  · show row = row / M 131 5 ^ (M 131 3 - 1 - (M 131 3 - 1)).toNat
    rw [show (M 131 3 - 1 - (M 131 3 - 1)).toNat = 0 by omega, Int.pow_zero, Int.ediv_one]
  · show (0 : Int) = jp_tl (jp_co (M 131) P) (M 131 3) x (M 131 3 - 1 - (M 131 3 - 1)).toNat
    rw [show (M 131 3 - 1 - (M 131 3 - 1)).toNat = 0 by omega]
    rfl
