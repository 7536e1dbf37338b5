/-! goods to cellars: the class -/
def jp_co (T P : Int → Int) (s k : Int) : Int := if jp_wk T (P s) (T (75 + 2 * k)) < 1000000 then 2 * jp_wk T (P s) (T (75 + 2 * k)) + (T (76 + 2 * k) * T (64 + 3 * T (90 + s))).tdiv 10 else 1000000
theorem jp_co_r {T P : Int → Int} (hT : jp_T T) {s k : Int} (hs : 0 ≤ s ∧ s < T 3) (hP : 0 ≤ P s ∧ P s < T 0) (hk : 0 ≤ k ∧ k < T 5) : (0 ≤ jp_wk T (P s) (T (75 + 2 * k)) ∧ (jp_wk T (P s) (T (75 + 2 * k)) = 1000000 ∨ jp_wk T (P s) (T (75 + 2 * k)) ≤ 2560)) ∧ (0 ≤ T (76 + 2 * k) * T (64 + 3 * T (90 + s)) ∧ T (76 + 2 * k) * T (64 + 3 * T (90 + s)) ≤ 9801) ∧ (0 ≤ (T (76 + 2 * k) * T (64 + 3 * T (90 + s))).tdiv 10 ∧ (T (76 + 2 * k) * T (64 + 3 * T (90 + s))).tdiv 10 ≤ 980) := by
  have t0 := hT.1.1
  obtain ⟨e2, e3⟩ := hT.2.2.2.2.2.2 s hs.1 hs.2
  have e4 := hT.2.2.2.2.1 _ e2 e3
  have e5 := hT.2.2.2.2.2.1 k hk.1 hk.2
  have e6 := jp_wk_r hT (a := P s) (b := T (75 + 2 * k)) hP.1 (by omega) e5.1 (by omega)
  have e7 : 0 ≤ T (76 + 2 * k) * T (64 + 3 * T (90 + s)) ∧ T (76 + 2 * k) * T (64 + 3 * T (90 + s)) ≤ 99 * 99 := jp_mb ⟨e5.2.2.1, e5.2.2.2⟩ (by omega)
  refine ⟨⟨e6.1, e6.2.1⟩, by omega, ?_⟩
  rw [Int.tdiv_eq_ediv_of_nonneg e7.1]
  omega
theorem jp_co_k {T P : Int → Int} (hT : jp_T T) (hP : ∀ s : Int, 0 ≤ s → s < T 3 → 0 ≤ P s ∧ P s < T 0) : jp_ck (jp_co T P) (T 5) (T 3) := by
  refine ⟨hT.1.2.2.2.2, hT.1.2.2.1, fun s k a b c d => ?_⟩
  have h := jp_co_r hT ⟨a, b⟩ (hP s a b) ⟨c, d⟩
  unfold jp_co
  split <;> omega
theorem gX5_costWith {M : jw_M} (hA : jp_A M) (hP : ∀ s : Int, 0 ≤ s → s < M 131 3 → 0 ≤ M 22 s ∧ M 22 s < M 131 0) (s k t : Int) (hs : 0 ≤ s ∧ s < M 131 3) (hk : 0 ≤ k ∧ k < M 131 5) (ht : 0 ≤ jw_ior t (jw_ishl 1 k) ∧ jw_ior t (jw_ishl 1 k) < 64) (hL : 0 ≤ M 124 (jw_ior t (jw_ishl 1 k)) ∧ M 124 (jw_ior t (jw_ishl 1 k)) ≤ 1000000) : fX5_costWith s k t M = some (jp_wv (jp_co (M 131) (M 22) s k) (M 124 (jw_ior t (jw_ishl 1 k)))) := by
  obtain ⟨⟨r0, r2, r3, r4, r5⟩, -⟩ := jp_A_r hA
  have hc := jp_co_r hA.1 hs (hP s hs.1 hs.2) hk
  have hp := hP s hs.1 hs.2
  obtain ⟨c1, c2⟩ := hA.2.2.2.2.2.1 k hk.1 hk.2
  have e5 := hA.1.2.2.2.2.2.1 k hk.1 hk.2
  have w1 : M (17 + 5) s = M 22 s := rfl
  have w2 : M (10 + 5) k = M 131 (75 + 2 * k) := c1
  have w3 : M (10 + 6) k = M 131 (76 + 2 * k) := c2
  have w4 : fX9_walkTo 10 (M 22 s) (M 131 (75 + 2 * k)) M = some (jp_wk (M 131) (M 22 s) (M 131 (75 + 2 * k))) := gX9_walkTo hA _ _ (by omega)
  have w5 : fX10_worthOf 17 s M = some (M 131 (64 + 3 * M 131 (90 + s))) := gX10_worthOf hA s hs
  unfold fX5_costWith
  rw [if_pos (by omega), if_pos (by omega), w1, w2, w4, jp_bs, jp_bs]
  by_cases e : jp_wk (M 131) (M 22 s) (M 131 (75 + 2 * k)) < 1000000
  · rw [if_pos e, if_pos (by omega), w5, jp_bs, if_pos (by decide), jp_bs, if_pos ht, w3, jw_ws (x := M 131 (76 + 2 * k) * M 131 (64 + 3 * M 131 (90 + s))) (by omega), jw_ws (x := (M 131 (76 + 2 * k) * M 131 (64 + 3 * M 131 (90 + s))).tdiv 10) (by omega), jw_ws (x := 2 * jp_wk (M 131) (M 22 s) (M 131 (75 + 2 * k))) (by omega), jw_ws (x := 2 * jp_wk (M 131) (M 22 s) (M 131 (75 + 2 * k)) + (M 131 (76 + 2 * k) * M 131 (64 + 3 * M 131 (90 + s))).tdiv 10) (by omega), jw_ws (by omega)]
    unfold jp_wv jp_co
    rw [if_pos e, if_pos (by omega)]
  · rw [if_neg e]
    unfold jp_wv jp_co
    rw [if_neg e, if_neg (by omega)]
theorem bX5_costWith {M : jw_M} (hA : jp_A M) (hP : ∀ s : Int, 0 ≤ s → s < M 131 3 → 0 ≤ M 22 s ∧ M 22 s < M 131 0) (s k t : Int) (hs : 0 ≤ s ∧ s < M 131 3) (hk : 0 ≤ k ∧ k < M 131 5) (ht : 0 ≤ jw_ior t (jw_ishl 1 k) ∧ jw_ior t (jw_ishl 1 k) < 64) (hL : 0 ≤ M 124 (jw_ior t (jw_ishl 1 k)) ∧ M 124 (jw_ior t (jw_ishl 1 k)) ≤ 1000000) {be : Type} (kk : _ → Option be) : Option.bind (fX5_costWith s k t M) kk = kk ((jp_wv (jp_co (M 131) (M 22) s k) (M 124 (jw_ior t (jw_ishl 1 k))))) := by rw [show fX5_costWith s k t M = some (jp_wv (jp_co (M 131) (M 22) s k) (M 124 (jw_ior t (jw_ishl 1 k)))) from gX5_costWith hA hP s k t hs hk ht hL]; rfl
/-- the row of the least is right from i on -/
def jp_lr (M : jw_M) (i : Int) : Prop := ∀ t : Int, i ≤ t → t < 2 ^ (M 131 5).toNat → M 124 t = jp_dp (jp_co (M 131) (M 22)) (M 131 5) (M 131 3) (M 131 3 - jp_pc t).toNat t
theorem jp_pc0 {t : Int} (h : 0 ≤ t) : 0 ≤ jp_pc t := (jp_pc_r h).1
theorem gX5_leastFrom {M : jw_M} (hA : jp_A M) (hP : ∀ s : Int, 0 ≤ s → s < M 131 3 → 0 ≤ M 22 s ∧ M 22 s < M 131 0) (t : Int) (ht : 0 ≤ t ∧ t < 2 ^ (M 131 5).toNat) (hl : jp_lr M (t + 1)) : fX5_leastFrom t M = some (jp_dp (jp_co (M 131) (M 22)) (M 131 5) (M 131 3) (M 131 3 - jp_pc t).toNat t) := by
  obtain ⟨⟨r0, r2, r3, r4, r5⟩, -⟩ := jp_A_r hA
  obtain ⟨⟨c0, c5, -⟩, -, g4, g7⟩ := jp_A_c hA
  have hck := jp_co_k hA.1 hP
  have h6 := jp_2p6 r5
  have hpc := jp_pc_r ht.1
  unfold fX5_leastFrom
  rw [gJ6_bitCount t M (by omega), jp_bs, jp_bs, g4]
  by_cases e : jp_pc t < M 131 3
  · rw [if_pos e, jp_bs, jp_bs]
    have em : (M 131 3 - jp_pc t).toNat = (M 131 3 - 1 - jp_pc t).toNat + 1 := by omega
    have es : M 131 3 - 1 - (((M 131 3 - 1 - jp_pc t).toNat : Nat) : Int) = jp_pc t := by omega
    rw [em, jp_dp, es]
    generalize hf : (fun k => jp_wv (jp_co (M 131) (M 22) (jp_pc t) k) (jp_dp (jp_co (M 131) (M 22)) (M 131 5) (M 131 3) (M 131 3 - 1 - jp_pc t).toNat (jw_ior t (jw_ishl 1 k)))) = f
    refine jp_up (fun k i a => fX5_leastFrom_24 M k t (jp_pc t) a i) (M 131 5) (fun i a => 0 ≤ i ∧ a = jp_mn f (jp_fr0 t) i.toNat) (fun r => r = some (jp_mn f (jp_fr0 t) (M 131 5).toNat)) ?_ ?_ jw_fu 0 1000000 (by unfold jw_fu; omega) (by omega) ⟨by omega, rfl⟩
    · intro k i a hp hi ih
      obtain ⟨h0, rfl⟩ := hp
      have es2 := jp_mn_s f (jp_fr0 t) h0
      show fX5_leastFrom_24 _ _ _ _ _ _ = _
      rw [fX5_leastFrom_24, c5, if_pos hi]
      unfold fX5_leastFrom_58
      by_cases e2 : jw_iand (jw_ishr t i) 1 = 0
      · have hfr : jp_fr0 t i = true := decide_eq_true e2
        have hj := jp_st_j r5 ht ⟨h0, hi⟩ hfr
        have hv := hl (jw_ior t (jw_ishl 1 i)) (by omega) hj.2.2
        have hr := jp_dp_r hck (M 131 3 - jp_pc (jw_ior t (jw_ishl 1 i))).toNat (by omega) (jw_ior t (jw_ishl 1 i))
        have efi : jp_wv (jp_co (M 131) (M 22) (jp_pc t) i) (M 124 (jw_ior t (jw_ishl 1 i))) = f i := by
          rw [← hf, hv, hj.1, show M 131 3 - (jp_pc t + 1) = M 131 3 - 1 - jp_pc t by omega]
        rw [if_pos e2, gX5_costWith hA hP (jp_pc t) i t (by omega) ⟨h0, hi⟩ (by omega) (by rw [hv]; exact hr), jp_bs, jp_bs, efi, jp_bs, jw_ws (by omega), jp_min]
        refine ih _ ⟨by omega, ?_⟩
        rw [es2]
        exact jp_ifc ⟨fun z => ⟨hfr, z⟩, fun z => z.2⟩
      · have hfr : ¬ jp_fr0 t i = true := fun z => e2 (of_decide_eq_true z)
        rw [if_neg (fun z => hfr z.1)] at es2
        rw [if_neg e2, jp_bs, jw_ws (by omega)]
        exact ih _ ⟨by omega, es2.symm⟩
    · intro k a hp
      obtain ⟨h0, rfl⟩ := hp
      show fX5_leastFrom_24 _ _ _ _ _ _ = _
      rw [fX5_leastFrom_24, c5, if_neg (by omega)]
  · rw [if_neg e, show (M 131 3 - jp_pc t).toNat = 0 by omega]
    rfl
theorem bX5_leastFrom {M : jw_M} (hA : jp_A M) (hP : ∀ s : Int, 0 ≤ s → s < M 131 3 → 0 ≤ M 22 s ∧ M 22 s < M 131 0) (t : Int) (ht : 0 ≤ t ∧ t < 2 ^ (M 131 5).toNat) (hl : jp_lr M (t + 1)) {be : Type} (kk : _ → Option be) : Option.bind (fX5_leastFrom t M) kk = kk ((jp_dp (jp_co (M 131) (M 22)) (M 131 5) (M 131 3) (M 131 3 - jp_pc t).toNat t)) := by rw [show fX5_leastFrom t M = some (jp_dp (jp_co (M 131) (M 22)) (M 131 5) (M 131 3) (M 131 3 - jp_pc t).toNat t) from gX5_leastFrom hA hP t ht hl]; rfl
theorem jp_lr_fr {M N : jw_M} (h : ∀ k : Nat, k ≠ 124 → N k = M k) {i : Int} : jp_lr N i ↔ ∀ t : Int, i ≤ t → t < 2 ^ (M 131 5).toNat → N 124 t = jp_dp (jp_co (M 131) (M 22)) (M 131 5) (M 131 3) (M 131 3 - jp_pc t).toNat t := by
  unfold jp_lr
  rw [h 131 (by decide), h 22 (by decide)]
theorem gX5_leastStorage {M : jw_M} (hA : jp_A M) (hP : ∀ s : Int, 0 ≤ s → s < M 131 3 → 0 ≤ M 22 s ∧ M 22 s < M 131 0) : ∃ N : jw_M, fX5_leastStorage M = some (jp_dp (jp_co (M 131) (M 22)) (M 131 5) (M 131 3) (M 131 3).toNat 0, N) ∧ (∀ k : Nat, k ≠ 124 → N k = M k) ∧ jp_lr N 0 := by
  obtain ⟨⟨r0, r2, r3, r4, r5⟩, -⟩ := jp_A_r hA
  obtain ⟨⟨c0, c5, -⟩, -, g4, g7⟩ := jp_A_c hA
  have h6 := jp_2p6 r5
  unfold fX5_leastStorage
  rw [jp_bs, c5, jp_sh (by omega), jw_ws (by omega)]
  refine jp_dn (fun k i N => fX5_leastStorage_12 k i N) (fun i N => i < 2 ^ (M 131 5).toNat ∧ (∀ k : Nat, k ≠ 124 → N k = M k) ∧ jp_lr N (i + 1)) (fun r => ∃ N : jw_M, r = some (jp_dp (jp_co (M 131) (M 22)) (M 131 5) (M 131 3) (M 131 3).toNat 0, N) ∧ (∀ k : Nat, k ≠ 124 → N k = M k) ∧ jp_lr N 0) ?_ ?_ jw_fu _ M (by unfold jw_fu; omega) (by omega) ⟨by omega, fun _ _ => rfl, fun t a b => by omega⟩
  · intro k i N hp hi ih
    obtain ⟨i1, hf, hl⟩ := hp
    have hAN : jp_A N := jp_A_fr hA (fun k _ _ => hf k (by omega)) (hf _ (by decide)) (hf _ (by decide)) (hf _ (by decide))
    have n131 : N 131 = M 131 := hf _ (by decide)
    have n22 : N 22 = M 22 := hf _ (by decide)
    have hlf := gX5_leastFrom hAN (by rw [n131, n22]; exact hP) i (by rw [n131]; exact ⟨hi, i1⟩) hl
    rw [n131, n22] at hlf
    show ∃ N' : jw_M, fX5_leastStorage_12 (k + 1) i N = _ ∧ _
    rw [fX5_leastStorage_12, if_neg (by omega), hlf, jp_bs, if_pos (by omega), jp_bs, jp_bs, jw_ws (by omega)]
    have hf' : ∀ (v : Int) (k : Nat), k ≠ 124 → jw_up N 124 i v k = M k := fun v k hk => by rw [jw_up_ne _ hk]; exact hf k hk
    refine ih _ ⟨by omega, hf' _, ?_⟩
    rw [jp_lr_fr (hf' _)]
    rw [jp_lr_fr hf] at hl
    intro t a b
    rw [jw_up_eq, jw_u1_a]
    by_cases z : t = i
    · rw [if_pos z, z]
    · rw [if_neg z]; exact hl t (by omega) b
  · intro k N hp
    obtain ⟨i1, hf, hl⟩ := hp
    have e0 : N 124 0 = jp_dp (jp_co (M 131) (M 22)) (M 131 5) (M 131 3) (M 131 3).toNat 0 := by
      rw [jp_lr_fr hf] at hl
      have := hl 0 (by omega) (by omega)
      rw [show jp_pc 0 = 0 by decide, Int.sub_zero] at this
      exact this
    refine ⟨N, ?_, hf, hl⟩
    show fX5_leastStorage_12 (k + 1) (-1) N = _
    rw [fX5_leastStorage_12, if_pos (by decide), if_pos (by decide), e0]
theorem jp_g5 {c : Int → Int → Int} {C n : Int} (hc : jp_ck c C n) (hl : jp_dp c C n n.toNat 0 < 1000000) : ∀ s : Nat, (s : Int) ≤ n → jp_pc (jp_gt c C n s) = (s : Int) := by
  intro s
  induction s with
  | zero => intro _; rfl
  | succ s ih =>
    intro hs
    obtain ⟨i1, i2, i3⟩ := jp_g2 hc hl s (by omega)
    obtain ⟨g1, g2, g3, g4, g5, g6⟩ := jp_g1 hc (s := (s : Int)) (by omega) i1 i2
    have hj := jp_st_j hc.1 i1 ⟨g1, g2⟩ g3
    rw [jp_gt, hj.1, ih (by omega)]
    omega
theorem gX5_firstOfLeast {M : jw_M} (hA : jp_A M) (hP : ∀ s : Int, 0 ≤ s → s < M 131 3 → 0 ≤ M 22 s ∧ M 22 s < M 131 0) (hl : jp_lr M 0) (s t : Int) (hs : 0 ≤ s ∧ s < M 131 3) (ht : 0 ≤ t ∧ t < 2 ^ (M 131 5).toNat) (hpc : jp_pc t = s) : fX5_firstOfLeast s t M = some (jp_gx (jp_co (M 131) (M 22)) (M 131 5) (M 131 3) s t) := by
  obtain ⟨⟨r0, r2, r3, r4, r5⟩, -⟩ := jp_A_r hA
  obtain ⟨⟨c0, c5, -⟩, -, g4, g7⟩ := jp_A_c hA
  have hck := jp_co_k hA.1 hP
  have h6 := jp_2p6 r5
  have het := hl t ht.1 ht.2
  rw [hpc] at het
  unfold fX5_firstOfLeast jp_gx
  rw [jp_bs]
  generalize hf : jp_gf (jp_co (M 131) (M 22)) (M 131 5) (M 131 3) s t = f
  have hfp := jp_f1_p f (M 131 5).toNat
  refine jp_up (fun k i (_ : Unit) => fX5_firstOfLeast_2 M k s t i) (M 131 5) (fun i _ => 0 ≤ i ∧ ∀ k : Int, 0 ≤ k → k < i → f k = false) (fun r => r = some (jp_f1 f (M 131 5).toNat)) ?_ ?_ jw_fu 0 () (by unfold jw_fu; omega) (by omega) ⟨by omega, fun k a b => by omega⟩
  · intro k i _ hp hi ih
    obtain ⟨h0, hno⟩ := hp
    have next : f i = false → fX5_firstOfLeast_2 M k s t (i + 1) = some (jp_f1 f (M 131 5).toNat) := by
      intro hfi
      refine ih () ⟨by omega, fun k a b => ?_⟩
      by_cases z : k = i
      · rw [z]; exact hfi
      · exact hno k a (by omega)
    show fX5_firstOfLeast_2 _ _ _ _ _ = _
    rw [fX5_firstOfLeast_2, c5, if_pos hi]
    unfold fX5_firstOfLeast_39
    by_cases e2 : jw_iand (jw_ishr t i) 1 = 0
    · have hfr : jp_fr0 t i = true := decide_eq_true e2
      have hj := jp_st_j r5 ht ⟨h0, hi⟩ hfr
      have hv := hl (jw_ior t (jw_ishl 1 i)) (by omega) hj.2.2
      have hr := jp_dp_r hck (M 131 3 - jp_pc (jw_ior t (jw_ishl 1 i))).toNat (by omega) (jw_ior t (jw_ishl 1 i))
      have efi : f i = decide (jp_wv (jp_co (M 131) (M 22) s i) (M 124 (jw_ior t (jw_ishl 1 i))) = M 124 t) := by
        rw [← hf]
        unfold jp_gf
        rw [hfr, Bool.true_and, hv, het, hj.1, hpc, show M 131 3 - (s + 1) = M 131 3 - 1 - s by omega]
      rw [if_pos e2, gX5_costWith hA hP s i t hs ⟨h0, hi⟩ (by omega) (by rw [hv]; exact hr), jp_bs, if_pos (by omega)]
      by_cases e3 : jp_wv (jp_co (M 131) (M 22) s i) (M 124 (jw_ior t (jw_ishl 1 i))) = M 124 t
      · rw [if_pos e3]
        rw [decide_eq_true e3] at efi
        rcases hfp with ⟨-, z⟩ | ⟨a, b, d, z⟩
        · rw [z i h0 (by omega)] at efi; cases efi
        · by_cases z1 : jp_f1 f (M 131 5).toNat < i
          · rw [hno _ a z1] at d; cases d
          · by_cases z2 : i < jp_f1 f (M 131 5).toNat
            · rw [z i h0 z2] at efi; cases efi
            · rw [show jp_f1 f (M 131 5).toNat = i by omega]
      · rw [if_neg e3, jp_bs, jw_ws (by omega)]
        rw [decide_eq_false e3] at efi
        exact next efi
    · have hfr : jp_fr0 t i = false := decide_eq_false e2
      rw [if_neg e2, jp_bs, jw_ws (by omega)]
      refine next ?_
      rw [← hf]
      unfold jp_gf
      rw [hfr, Bool.false_and]
  · intro k _ hp
    obtain ⟨h0, hno⟩ := hp
    show fX5_firstOfLeast_2 _ _ _ _ _ = _
    rw [fX5_firstOfLeast_2, c5, if_neg (by omega)]
    rcases hfp with ⟨z, -⟩ | ⟨a, b, d, -⟩
    · rw [z]
    · rw [hno _ a (by omega)] at d; cases d
theorem bX5_firstOfLeast {M : jw_M} (hA : jp_A M) (hP : ∀ s : Int, 0 ≤ s → s < M 131 3 → 0 ≤ M 22 s ∧ M 22 s < M 131 0) (hl : jp_lr M 0) (s t : Int) (hs : 0 ≤ s ∧ s < M 131 3) (ht : 0 ≤ t ∧ t < 2 ^ (M 131 5).toNat) (hpc : jp_pc t = s) {be : Type} (kk : _ → Option be) : Option.bind (fX5_firstOfLeast s t M) kk = kk ((jp_gx (jp_co (M 131) (M 22)) (M 131 5) (M 131 3) s t)) := by rw [show fX5_firstOfLeast s t M = some (jp_gx (jp_co (M 131) (M 22)) (M 131 5) (M 131 3) s t) from gX5_firstOfLeast hA hP hl s t hs ht hpc]; rfl
theorem gX5_cellarFor {M : jw_M} (hA : jp_A M) (hP : ∀ s : Int, 0 ≤ s → s < M 131 3 → 0 ≤ M 22 s ∧ M 22 s < M 131 0) (hl : jp_lr M 0) (hd : jp_dp (jp_co (M 131) (M 22)) (M 131 5) (M 131 3) (M 131 3).toNat 0 < 1000000) (a : Int) (ha : 0 ≤ a ∧ a < M 131 3) : fX5_cellarFor a M = some (jp_gs2 (jp_co (M 131) (M 22)) (M 131 5) (M 131 3) a) := by
  obtain ⟨⟨r0, r2, r3, r4, r5⟩, -⟩ := jp_A_r hA
  have hck := jp_co_k hA.1 hP
  unfold fX5_cellarFor
  rw [jp_bs, jp_bs, jp_bs]
  refine jp_up (fun k i (q : Int × Int) => fX5_cellarFor_8 M k a q.1 q.2 i) (a + 1) (fun i q => 0 ≤ i ∧ q.1 = jp_gt (jp_co (M 131) (M 22)) (M 131 5) (M 131 3) i.toNat ∧ (1 ≤ i → q.2 = jp_gs2 (jp_co (M 131) (M 22)) (M 131 5) (M 131 3) (i - 1))) (fun r => r = some (jp_gs2 (jp_co (M 131) (M 22)) (M 131 5) (M 131 3) a)) ?_ ?_ jw_fu 0 (0, -1000000) (by unfold jw_fu; omega) (by omega) ⟨by omega, rfl, fun z => by omega⟩
  · intro k i q hp hi ih
    obtain ⟨t, ch⟩ := q
    obtain ⟨h0, ht, -⟩ := hp
    have ht2 : t = jp_gt (jp_co (M 131) (M 22)) (M 131 5) (M 131 3) i.toNat := ht
    obtain ⟨i1, i2, i3⟩ := jp_g2 hck hd i.toNat (by omega)
    have i5 := jp_g5 hck hd i.toNat (by omega)
    rw [Int.toNat_of_nonneg h0] at i2 i5
    obtain ⟨g1, g2, g3, g4, g5, g6⟩ := jp_g1 hck (s := i) (by omega) i1 i2
    show fX5_cellarFor_8 M (k + 1) a t ch i = _
    rw [fX5_cellarFor_8, if_neg (by omega), ht2, gX5_firstOfLeast hA hP hl i _ (by omega) i1 i5, jp_bs, jp_bs, if_neg (by omega), jp_bs, jp_bs, jw_ws (by omega)]
    refine ih (_, _) ⟨by omega, ?_, fun _ => ?_⟩
    · show jw_ior _ _ = jp_gt (jp_co (M 131) (M 22)) (M 131 5) (M 131 3) (i + 1).toNat
      rw [show (i + 1).toNat = i.toNat + 1 by omega, jp_gt, Int.toNat_of_nonneg h0]
    · show jp_gx _ _ _ i _ = jp_gs2 _ _ _ (i + 1 - 1)
      rw [show i + 1 - 1 = i by omega]
      rfl
  · intro k q hp
    obtain ⟨t, ch⟩ := q
    obtain ⟨h0, ht, hc⟩ := hp
    have hc2 : ch = jp_gs2 (jp_co (M 131) (M 22)) (M 131 5) (M 131 3) (a + 1 - 1) := hc (by omega)
    show fX5_cellarFor_8 M (k + 1) a t ch (a + 1) = _
    rw [fX5_cellarFor_8, if_pos (by omega), hc2, show a + 1 - 1 = a by omega]
theorem bX5_cellarFor {M : jw_M} (hA : jp_A M) (hP : ∀ s : Int, 0 ≤ s → s < M 131 3 → 0 ≤ M 22 s ∧ M 22 s < M 131 0) (hl : jp_lr M 0) (hd : jp_dp (jp_co (M 131) (M 22)) (M 131 5) (M 131 3) (M 131 3).toNat 0 < 1000000) (a : Int) (ha : 0 ≤ a ∧ a < M 131 3) {be : Type} (kk : _ → Option be) : Option.bind (fX5_cellarFor a M) kk = kk ((jp_gs2 (jp_co (M 131) (M 22)) (M 131 5) (M 131 3) a)) := by rw [show fX5_cellarFor a M = some (jp_gs2 (jp_co (M 131) (M 22)) (M 131 5) (M 131 3) a) from gX5_cellarFor hA hP hl hd a ha]; rfl
