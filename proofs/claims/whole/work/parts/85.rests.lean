/-! all ways to rest: scores laid out, the class's answer -/
theorem gX8_fill_28 {M : jw_M} (hA : jp_A M) (hD : jp_D M) (r2 : Int → jw_M → Option jw_M) (r15 : Int → Int → jw_M → Option jw_M) (s c : Int) (hs : 0 ≤ s ∧ s < M 131 3) (hc : 0 ≤ c ∧ c < M 131 0) (N0 : jw_M) (hf0 : ∀ k : Nat, k ≠ 122 → N0 k = M k) : ∃ N : jw_M, fX8_fillScores_28 r2 r15 jw_fu s c 1 N0 = r15 s (c + 1) N ∧ (∀ k : Nat, k ≠ 122 → N k = M k) ∧ (∀ a : Int, 1 ≤ a → a < 6 → N 122 ((7 * s + c) * 6 + a) = jp_s0 (M 131) (M 133) s c a) ∧ (∀ x : Int, x < (7 * s + c) * 6 + 1 ∨ (7 * s + c) * 6 + 6 ≤ x → N 122 x = N0 122 x) := by
  obtain ⟨⟨r0, r2', r3, r4, r5⟩, -⟩ := jp_A_r hA
  refine jp_up (fun k i N => fX8_fillScores_28 r2 r15 k s c i N) 6 (fun i N => 1 ≤ i ∧ (∀ k : Nat, k ≠ 122 → N k = M k) ∧ (∀ a : Int, 1 ≤ a → a < i → N 122 ((7 * s + c) * 6 + a) = jp_s0 (M 131) (M 133) s c a) ∧ (∀ x : Int, x < (7 * s + c) * 6 + 1 ∨ (7 * s + c) * 6 + 6 ≤ x → N 122 x = N0 122 x)) (fun r => ∃ N : jw_M, r = r15 s (c + 1) N ∧ (∀ k : Nat, k ≠ 122 → N k = M k) ∧ (∀ a : Int, 1 ≤ a → a < 6 → N 122 ((7 * s + c) * 6 + a) = jp_s0 (M 131) (M 133) s c a) ∧ (∀ x : Int, x < (7 * s + c) * 6 + 1 ∨ (7 * s + c) * 6 + 6 ≤ x → N 122 x = N0 122 x)) ?_ ?_ jw_fu 1 N0 (by unfold jw_fu; omega) (by omega) ⟨by omega, hf0, fun a p q => by omega, fun _ _ => rfl⟩
  · intro k i N hp hi ih
    obtain ⟨i1, hf, ha, hx⟩ := hp
    have e131 : N 131 = M 131 := hf _ (by decide)
    have e133 : N 133 = M 133 := hf _ (by decide)
    have hAN : jp_A N := jp_A_fr hA (fun k _ _ => hf k (by omega)) e131 (hf _ (by decide)) (hf _ (by decide))
    have hDN : jp_D N := jp_D_fr hD (fun k _ _ => hf k (by omega)) e131 e133
    have hsc := gX8_scoreAmong hAN hDN s c i (by rw [e131]; exact hs) (by rw [e131]; exact hc) i1
    rw [e131, e133] at hsc
    show ∃ N' : jw_M, fX8_fillScores_28 r2 r15 (k + 1) s c i N = _ ∧ _
    rw [fX8_fillScores_28, if_pos hi, hsc, jp_bs, jw_ws (x := s * 7) (by omega), jw_ws (x := s * 7 + c) (by omega), jw_ws (x := (s * 7 + c) * 6) (by omega), jw_ws (x := (s * 7 + c) * 6 + i) (by omega), if_pos (by omega), jp_bs, jp_bs, jw_ws (x := i + 1) (by omega), show (s * 7 + c) * 6 + i = (7 * s + c) * 6 + i by omega]
    refine ih _ ⟨by omega, fun k hk => by rw [jw_up_ne _ hk]; exact hf k hk, fun a p q => ?_, fun x hx' => ?_⟩
    · rw [jw_up_eq, jw_u1_a]
      by_cases z : a = i
      · rw [if_pos (by omega), z]
      · rw [if_neg (by omega)]; exact ha a p (by omega)
    · rw [jw_up_eq, jw_u1_n _ (by omega)]; exact hx x hx'
  · intro k N hp
    obtain ⟨i1, hf, ha, hx⟩ := hp
    refine ⟨N, ?_, hf, ha, hx⟩
    show fX8_fillScores_28 r2 r15 (k + 1) s c 6 N = _
    rw [fX8_fillScores_28, if_neg (by decide), jp_bs, jw_ws (by omega)]
theorem gX8_fill_15 {M : jw_M} (hA : jp_A M) (hD : jp_D M) (r2 : Int → jw_M → Option jw_M) (s : Int) (hs : 0 ≤ s ∧ s < M 131 3) (N0 : jw_M) (hf0 : ∀ k : Nat, k ≠ 122 → N0 k = M k) : ∃ N : jw_M, fX8_fillScores_15 r2 jw_fu s 0 N0 = r2 (s + 1) N ∧ (∀ k : Nat, k ≠ 122 → N k = M k) ∧ (∀ c a : Int, 0 ≤ c → c < M 131 0 → 1 ≤ a → a < 6 → N 122 ((7 * s + c) * 6 + a) = jp_s0 (M 131) (M 133) s c a) ∧ (∀ x : Int, x < 42 * s → N 122 x = N0 122 x) := by
  obtain ⟨⟨r0, r2', r3, r4, r5⟩, -⟩ := jp_A_r hA
  obtain ⟨⟨c0, -⟩, -⟩ := jp_A_c hA
  refine jp_up (fun k i N => fX8_fillScores_15 r2 k s i N) (M 131 0) (fun i N => 0 ≤ i ∧ (∀ k : Nat, k ≠ 122 → N k = M k) ∧ (∀ c a : Int, 0 ≤ c → c < i → 1 ≤ a → a < 6 → N 122 ((7 * s + c) * 6 + a) = jp_s0 (M 131) (M 133) s c a) ∧ (∀ x : Int, x < 42 * s → N 122 x = N0 122 x)) (fun r => ∃ N : jw_M, r = r2 (s + 1) N ∧ (∀ k : Nat, k ≠ 122 → N k = M k) ∧ (∀ c a : Int, 0 ≤ c → c < M 131 0 → 1 ≤ a → a < 6 → N 122 ((7 * s + c) * 6 + a) = jp_s0 (M 131) (M 133) s c a) ∧ (∀ x : Int, x < 42 * s → N 122 x = N0 122 x)) ?_ ?_ jw_fu 0 N0 (by unfold jw_fu; omega) (by omega) ⟨by omega, hf0, fun c a p q => by omega, fun _ _ => rfl⟩
  · intro k i N hp hi ih
    obtain ⟨i0, hf, ha, hx⟩ := hp
    have n10 : N 10 0 = M 131 0 := by rw [hf _ (by decide)]; exact c0
    obtain ⟨N', n1, n2, n3, n4⟩ := gX8_fill_28 hA hD r2 (fX8_fillScores_15 r2 k) s i hs ⟨i0, hi⟩ N hf
    show ∃ N' : jw_M, fX8_fillScores_15 r2 (k + 1) s i N = _ ∧ _
    rw [fX8_fillScores_15, n10, if_pos hi, jp_bs, n1]
    refine ih N' ⟨by omega, n2, fun c a p q u v => ?_, fun x hx' => ?_⟩
    · by_cases z : c = i
      · rw [z]; exact n3 a u v
      · rw [n4 _ (by omega)]; exact ha c a p (by omega) u v
    · rw [n4 x (by omega)]; exact hx x hx'
  · intro k N hp
    obtain ⟨i0, hf, ha, hx⟩ := hp
    have n10 : N 10 0 = M 131 0 := by rw [hf _ (by decide)]; exact c0
    refine ⟨N, ?_, hf, ha, hx⟩
    show fX8_fillScores_15 r2 (k + 1) s (M 131 0) N = _
    rw [fX8_fillScores_15, n10, if_neg (by omega), jp_bs, jw_ws (by omega)]
theorem gX8_fillScores {M : jw_M} (hA : jp_A M) (hD : jp_D M) : ∃ N : jw_M, fX8_fillScores M = some N ∧ (∀ k : Nat, k ≠ 122 → N k = M k) ∧ jp_fs M N := by
  obtain ⟨⟨r0, r2', r3, r4, r5⟩, -⟩ := jp_A_r hA
  obtain ⟨-, -, g4, -⟩ := jp_A_c hA
  unfold fX8_fillScores
  rw [jp_bs]
  refine jp_up (fun k i N => fX8_fillScores_2 k i N) (M 131 3) (fun i N => 0 ≤ i ∧ (∀ k : Nat, k ≠ 122 → N k = M k) ∧ (∀ s c a : Int, 0 ≤ s → s < i → 0 ≤ c → c < M 131 0 → 1 ≤ a → a < 6 → N 122 ((7 * s + c) * 6 + a) = jp_s0 (M 131) (M 133) s c a)) (fun r => ∃ N : jw_M, r = some N ∧ (∀ k : Nat, k ≠ 122 → N k = M k) ∧ jp_fs M N) ?_ ?_ jw_fu 0 M (by unfold jw_fu; omega) (by omega) ⟨by omega, fun _ _ => rfl, fun s c a p q => by omega⟩
  · intro k i N hp hi ih
    obtain ⟨i0, hf, ha⟩ := hp
    have n17 : N 17 4 = M 131 3 := by rw [hf _ (by decide)]; exact g4
    obtain ⟨N', n1, n2, n3, n4⟩ := gX8_fill_15 hA hD (fX8_fillScores_2 k) i ⟨i0, hi⟩ N hf
    show ∃ N' : jw_M, fX8_fillScores_2 (k + 1) i N = _ ∧ _
    rw [fX8_fillScores_2, n17, if_pos hi, jp_bs, n1]
    refine ih N' ⟨by omega, n2, fun s c a p q u v w x => ?_⟩
    by_cases z : s = i
    · rw [z]; exact n3 c a u v w x
    · rw [n4 _ (by omega)]; exact ha s c a p (by omega) u v w x
  · intro k N hp
    obtain ⟨i0, hf, ha⟩ := hp
    have n17 : N 17 4 = M 131 3 := by rw [hf _ (by decide)]; exact g4
    refine ⟨N, ?_, hf, ha⟩
    show fX8_fillScores_2 (k + 1) (M 131 3) N = _
    rw [fX8_fillScores_2, n17, if_neg (by omega)]
/-- the answer -/
def jp_ra (T N : Int → Int) (i : Int) : Int := if i = -1 then jp_gc (jp_Gv T N) (7 ^ (T 3).toNat) else jp_gfd (jp_Gv T N) i (7 ^ (T 3).toNat)
theorem jp_7n (n : Nat) : ((7 : Int) ^ n).toNat = 7 ^ n := by
  have : ((7 : Int) ^ n) = ((7 ^ n : Nat) : Int) := by rw [Int.natCast_pow]; rfl
  rw [this, Int.toNat_natCast]
theorem gX8_findRest {M : jw_M} (hA : jp_A M) (hD : jp_D M) (i : Int) (hi : -1 ≤ i) : ∃ N : jw_M, fX8_findRest i M = some (jp_ra (M 131) (M 133) i, N) ∧ (∀ k : Nat, k ≠ 119 → k ≠ 120 → k ≠ 121 → k ≠ 122 → N k = M k) := by
  obtain ⟨⟨r0, r2', r3, r4, r5⟩, -⟩ := jp_A_r hA
  obtain ⟨-, -, g4, -⟩ := jp_A_c hA
  generalize hM4 : jw_pt (jw_up (jw_up (jw_up M 119 6 i) 119 7 0) 119 8 (-1000000)) 121 (jw_ff (jw_up (jw_up (jw_up M 119 6 i) 119 7 0) 119 8 (-1000000) 121) 0 (jw_len 121 : Int) 0) = M4
  have f4 : ∀ k : Nat, k ≠ 119 → k ≠ 121 → M4 k = M k := fun k a b => by rw [← hM4, jw_pt_ne _ b, jw_up_ne _ a, jw_up_ne _ a, jw_up_ne _ a]
  have a6 : M4 119 6 = i := by rw [← hM4, jw_pt_ne _ (by decide), jw_up_eq, jw_u1_n _ (by decide), jw_up_eq, jw_u1_n _ (by decide), jw_up_eq, jw_u1_s]
  have a7 : M4 119 7 = 0 := by rw [← hM4, jw_pt_ne _ (by decide), jw_up_eq, jw_u1_n _ (by decide), jw_up_eq, jw_u1_s]
  have a8 : M4 119 8 = -1000000 := by rw [← hM4, jw_pt_ne _ (by decide), jw_up_eq, jw_u1_s]
  have a121 : ∀ x : Int, 0 ≤ x → x < 28 → M4 121 x = 0 := fun x p q => by
    rw [← hM4, jw_pt_eq, jw_ff_a, if_pos]
    exact ⟨p, by have e : (jw_len 121 : Int) = 28 := by decide
                 rw [e]; exact q⟩
  have e131 : M4 131 = M 131 := f4 _ (by decide) (by decide)
  have e133 : M4 133 = M 133 := f4 _ (by decide) (by decide)
  have hA4 : jp_A M4 := jp_A_fr hA (fun k _ _ => f4 k (by omega) (by omega)) e131 (f4 _ (by decide) (by decide)) (f4 _ (by decide) (by decide))
  have hD4 : jp_D M4 := jp_D_fr hD (fun k _ _ => f4 k (by omega) (by omega)) e131 e133
  obtain ⟨M5, m1, m2, m3⟩ := gX8_fillScores hA4 hD4
  have e131' : M5 131 = M 131 := by rw [m2 _ (by decide), e131]
  have e133' : M5 133 = M 133 := by rw [m2 _ (by decide), e133]
  have hA5 : jp_A M5 := jp_A_fr hA4 (fun k _ _ => m2 k (by omega)) (m2 _ (by decide)) (m2 _ (by decide)) (m2 _ (by decide))
  have hfs5 : jp_fs M5 M5 := by
    unfold jp_fs
    rw [e131', e133', ← e131, ← e133]
    exact m3
  have n17 : M5 17 4 = M 131 3 := by rw [m2 _ (by decide), f4 _ (by decide) (by decide)]; exact g4
  obtain ⟨N, n1, n2, n3⟩ := gX8_place hA5 (by rw [e133']; exact hD.1.1) hfs5 i (M5 131 3).toNat (by rw [e131']; omega) 0 jw_rn M5 (by rw [e131']; unfold jw_rn; omega) (by omega) (by rw [Int.zero_add, Int.one_mul]; exact Int.le_refl _) (by
    refine ⟨fun _ _ _ _ => rfl, by rw [m2 _ (by decide)]; exact a6, fun j a b => by rw [e131'] at a b; omega, fun j l a b => by rw [e131'] at a b; omega, fun g c p q u v => ?_⟩
    rw [m2 121 (by decide), a121 _ (by omega) (by omega)]
    unfold jp_cw2
    rw [jp_sum_c (g := fun _ => 0) _ (fun j a b => if_neg (fun z => by rw [e131'] at b z; omega))]
    have : ∀ n : Nat, jp_sum (fun _ => (0 : Int)) n = 0 := by
      intro n
      induction n with
      | zero => rfl
      | succ n ih => rw [jp_sum, ih]; rfl
    exact (this _).symm) (by rw [m2 _ (by decide)]; exact a8) (by
    rw [m2 119 (by decide), a7, a8, Int.zero_mul]
    exact Or.inl ⟨rfl, rfl, rfl⟩)
  rw [e131', e133', Int.zero_add, Int.one_mul] at n3
  have hfN : ∀ k : Nat, k ≠ 119 → k ≠ 120 → k ≠ 121 → k ≠ 122 → N k = M k := fun k a b c d => by rw [n2.1 k a b c, m2 k d, f4 k a c]
  refine ⟨N, ?_, hfN⟩
  unfold fX8_findRest
  rw [jp_bs, jp_bs, jp_bs, gJ7_fill 121 (by decide), jp_bs, hM4, m1, jp_bs, n17, jw_ws (by omega)]
  rw [show (((M5 131 3).toNat : Nat) : Int) - 1 = M 131 3 - 1 by rw [e131']; omega] at n1
  rw [n1, jp_bs]
  unfold jp_ra
  unfold jp_St at n3
  rw [jp_7n] at n3
  by_cases e : i = -1
  · rw [if_pos e, if_pos e]
    rcases n3 with ⟨z1, z2, z3⟩ | ⟨z1, z2, z3, z4⟩
    · rw [z2]
    · omega
  · rw [if_neg e, if_neg e]
    rcases n3 with ⟨z1, z2, z3⟩ | ⟨z1, z2, z3, z4⟩
    · rw [z1, z3]
    · rw [z4]
