/-! all ways to rest: the class's search -/
theorem jp_7p5 {n : Int} (h : 0 ≤ n ∧ n ≤ 5) : 1 ≤ (7 : Int) ^ n.toNat ∧ (7 : Int) ^ n.toNat ≤ 16807 := by
  have h1 : n = 0 ∨ n = 1 ∨ n = 2 ∨ n = 3 ∨ n = 4 ∨ n = 5 := by omega
  rcases h1 with rfl | rfl | rfl | rfl | rfl | rfl <;> decide
theorem jp_7p0 (n : Nat) : (0 : Int) < 7 ^ n := Int.pow_pos (by decide)
theorem gX8_numberOfWay {N : jw_M} {n v : Int} (hn : 0 ≤ n ∧ n ≤ 5) (h17 : N 17 4 = n) (hv : 0 ≤ v ∧ v < 7 ^ n.toNat) (hd : ∀ j : Int, 0 ≤ j → j < n → N 120 j = jp_d7 v j) : fX8_numberOfWay N = some v := by
  have h7 := jp_7p5 hn
  unfold fX8_numberOfWay
  rw [jp_bs, jp_bs, h17, jw_ws (by omega)]
  refine jp_dn (fun k i a => fX8_numberOfWay_12 N k a i) (fun i a => i < n ∧ a = v / 7 ^ (i + 1).toNat) (fun r => r = some v) ?_ ?_ jw_fu (n - 1) 0 (by unfold jw_fu; omega) (by omega) ⟨by omega, ?_⟩
  · intro k i a hp hi ih
    obtain ⟨i1, rfl⟩ := hp
    have hq : 0 ≤ v / 7 ^ (i + 1).toNat ∧ v / 7 ^ (i + 1).toNat ≤ v := ⟨Int.ediv_nonneg hv.1 (Int.le_of_lt (jp_7p0 _)), Int.ediv_le_self _ hv.1⟩
    have hq2 : 0 ≤ v / 7 ^ i.toNat ∧ v / 7 ^ i.toNat ≤ v := ⟨Int.ediv_nonneg hv.1 (Int.le_of_lt (jp_7p0 _)), Int.ediv_le_self _ hv.1⟩
    have e1 : v / 7 ^ (i + 1).toNat = v / 7 ^ i.toNat / 7 := by rw [jp_dq (by decide), show (i + 1).toNat = i.toNat + 1 by omega]
    have e2 : N 120 i = v / 7 ^ i.toNat % 7 := hd i hi i1
    show fX8_numberOfWay_12 _ _ _ _ = _
    rw [fX8_numberOfWay_12, if_neg (by omega), if_pos (by omega), jp_bs, jp_bs, jw_ws (x := i + -1) (by omega), jw_ws (x := 7 * (v / 7 ^ (i + 1).toNat)) (by omega), e2, e1, show 7 * (v / 7 ^ i.toNat / 7) + v / 7 ^ i.toNat % 7 = v / 7 ^ i.toNat by omega, jw_ws (by omega)]
    refine ih _ ⟨by omega, ?_⟩
    rw [show i - 1 + 1 = i by omega]
  · intro k a hp
    obtain ⟨i1, rfl⟩ := hp
    show fX8_numberOfWay_12 _ _ _ _ = _
    rw [fX8_numberOfWay_12, if_pos (by decide), show ((-1 : Int) + 1).toNat = 0 by decide, Int.pow_zero, Int.ediv_one]
  · rw [show n - 1 + 1 = n by omega, Int.ediv_eq_zero_of_lt hv.1 hv.2]
theorem bX8_numberOfWay {N : jw_M} {n v : Int} (hn : 0 ≤ n ∧ n ≤ 5) (h17 : N 17 4 = n) (hv : 0 ≤ v ∧ v < 7 ^ n.toNat) (hd : ∀ j : Int, 0 ≤ j → j < n → N 120 j = jp_d7 v j) {be : Type} (kk : _ → Option be) : Option.bind (fX8_numberOfWay N) kk = kk (v) := by rw [show fX8_numberOfWay N = some v from gX8_numberOfWay hn h17 hv hd]; rfl
theorem jp_Gv_i {T N : Int → Int} (h3 : 0 ≤ T 3) (v : Int) : jp_Gv T N v = true ↔ (∀ j : Int, 0 ≤ j → j < T 3 → jp_d7 v j < T 0) ∧ (∀ j : Int, 0 ≤ j → j < T 3 → jp_lw T (jp_d7 v) (T (90 + j)) j (jp_d7 v j) = true) ∧ jp_rs T N (jp_d7 v) = true := by
  unfold jp_Gv
  rw [Bool.and_eq_true, Bool.and_eq_true, jp_all_i, jp_all_i]
  refine ⟨fun ⟨a, b, c⟩ => ⟨fun j p q => of_decide_eq_true (a j p (by omega)), fun j p q => b j p (by omega), c⟩, fun ⟨a, b, c⟩ => ⟨fun j p q => decide_eq_true (a j p (by omega)), fun j p q => b j p (by omega), c⟩⟩
theorem jp_Bf {b : Bool} (h : ¬ b = true) : b = false := by cases b <;> simp_all
/-- at one way -/
theorem gX8_note {M N : jw_M} (hN : jp_lf M N) (hDM : 0 ≤ M 133 9 ∧ M 133 9 ≤ 12) (v i : Int) (hv : 0 ≤ v ∧ v < 7 ^ (M 131 3).toNat) (hd : ∀ j : Int, 0 ≤ j → j < M 131 3 → N 120 j = jp_d7 v j) (hl : ∀ j : Int, 0 ≤ j → j < M 131 3 → jp_lw (M 131) (N 120) (M 131 (90 + j)) j (N 120 j) = true) (h6 : N 119 6 = i) (h8 : N 119 8 = -1000000) (hSt : jp_St (jp_Gv (M 131) (M 133)) i v (N 119 7) (N 119 8)) : ∃ N' : jw_M, fX8_noteIfAtRest N = some N' ∧ (∀ k : Nat, k ≠ 119 → N' k = N k) ∧ N' 119 6 = i ∧ jp_St (jp_Gv (M 131) (M 133)) i (v + 1) (N' 119 7) (N' 119 8) := by
  obtain ⟨hA, e131, hfs, hW, hC⟩ := id hN
  obtain ⟨⟨r0, r2, r3, r4, r5⟩, -⟩ := jp_A_r hA
  obtain ⟨-, -, g4, g7⟩ := jp_A_c hA
  rw [e131] at r0 r3 g4
  have h7 := jp_7p5 r3
  have hgc := jp_gc_r (jp_Gv (M 131) (M 133)) v.toNat
  have ers : jp_rs (M 131) (M 133) (jp_d7 v) = jp_rs (M 131) (M 133) (N 120) := (jp_rs_e r3.1 (fun _ _ _ => rfl) hDM (fun q a b => (hd q a b))).symm
  have hGi := jp_Gv_i (T := M 131) (N := M 133) r3.1 v
  have elw : ∀ j : Int, 0 ≤ j → j < M 131 3 → jp_lw (M 131) (jp_d7 v) (M 131 (90 + j)) j (jp_d7 v j) = true := by
    intro j a b
    rw [← hd j a b, jp_lw_e r3.1 (P := N 120) (fun q p r => (hd q p r).symm)]
    exact hl j a b
  have hG1 : jp_rs (M 131) (M 133) (N 120) = true → jp_Gv (M 131) (M 133) v = true := fun z => hGi.mpr ⟨fun j a b => by rw [← hd j a b]; exact (hW j a b).2, elw, by rw [ers]; exact z⟩
  have hG0 : ¬ jp_rs (M 131) (M 133) (N 120) = true → jp_Gv (M 131) (M 133) v = false := fun z => jp_Bf (fun w => z (by rw [← ers]; exact (hGi.mp w).2.2))
  have ec := jp_gc_s (jp_Gv (M 131) (M 133)) hv.1
  have ed := jp_gfd_s (jp_Gv (M 131) (M 133)) i hv.1
  obtain ⟨s7, s8⟩ : N 119 7 = jp_gc (jp_Gv (M 131) (M 133)) v.toNat ∧ jp_gfd (jp_Gv (M 131) (M 133)) i v.toNat = -1000000 := by
    rcases hSt with ⟨-, a, b⟩ | ⟨a, -⟩
    · exact ⟨a, b⟩
    · exact absurd h8 a
  unfold fX8_noteIfAtRest
  rw [jp_bs]
  refine jp_up (fun k s (_ : Unit) => fX8_noteIfAtRest_2 k s N) (M 131 3) (fun s _ => 0 ≤ s ∧ ∀ j : Int, 0 ≤ j → j < s → jp_be (M 131) (M 133) (N 120) j = N 120 j) (fun r => ∃ N' : jw_M, r = some N' ∧ (∀ k : Nat, k ≠ 119 → N' k = N k) ∧ N' 119 6 = i ∧ jp_St (jp_Gv (M 131) (M 133)) i (v + 1) (N' 119 7) (N' 119 8)) ?_ ?_ jw_fu 0 () (by unfold jw_fu; omega) (by omega) ⟨by omega, fun j a b => by omega⟩
  · intro k s _ hp hs ih
    obtain ⟨h0, h1⟩ := hp
    show ∃ N' : jw_M, fX8_noteIfAtRest_2 (k + 1) s N = some N' ∧ _
    rw [fX8_noteIfAtRest_2, g4, if_pos hs]
    rcases gX8_wantsToMove hN s ⟨h0, hs⟩ with ⟨q1, q2⟩ | ⟨q1, q2⟩
    · rw [q1, jp_bs, if_pos rfl, jp_bs, jw_ws (by omega)]
      refine ih () ⟨by omega, fun j a b => ?_⟩
      by_cases z : j = s
      · rw [z]; exact q2
      · exact h1 j a (by omega)
    · rw [q1, jp_bs, if_neg (by decide)]
      have hG := hG0 (fun z => by
        unfold jp_rs at z
        exact q2 (of_decide_eq_true ((jp_all_i _ _).mp z s h0 (by omega))))
      rw [hG, jp_01f, Int.add_zero] at ec
      rw [hG, if_neg (fun z => by cases z.1)] at ed
      exact ⟨N, rfl, fun _ _ => rfl, h6, Or.inl ⟨h8, by rw [ec]; exact s7, by rw [ed]; exact s8⟩⟩
  · intro k _ hp
    obtain ⟨h0, h1⟩ := hp
    have hG := hG1 (by
      unfold jp_rs
      exact (jp_all_i _ _).mpr (fun s a b => decide_eq_true (h1 s a (by omega))))
    rw [hG, jp_01t] at ec
    rw [hG] at ed
    have hnw := gX8_numberOfWay (N := N) (n := M 131 3) r3 g4 hv hd
    show ∃ N' : jw_M, fX8_noteIfAtRest_2 (k + 1) (M 131 3) N = some N' ∧ _
    rw [fX8_noteIfAtRest_2, g4, if_neg (by omega)]
    unfold fX8_noteIfAtRest_47
    by_cases e : N 119 7 = N 119 6
    · rw [if_pos ⟨rfl, by omega⟩] at ed
      have e7 : jw_up N 119 8 v 119 7 = N 119 7 := by rw [jw_up_eq, jw_u1_n _ (by decide)]
      rw [if_pos e, hnw, jp_bs, jp_bs, jp_bs, e7, jw_ws (by omega)]
      refine ⟨_, rfl, fun k hk => by rw [jw_up_ne _ hk, jw_up_ne _ hk], ?_, Or.inr ⟨?_, by omega, by omega, ?_⟩⟩
      · rw [jw_up_eq, jw_u1_n _ (by decide), jw_up_eq, jw_u1_n _ (by decide)]; exact h6
      · rw [jw_up_eq, jw_u1_n _ (by decide), jw_up_eq, jw_u1_s]; omega
      · rw [jw_up_eq, jw_u1_n _ (by decide), jw_up_eq, jw_u1_s]; exact ed
    · rw [if_neg (fun z => by omega)] at ed
      rw [if_neg e, jp_bs, jw_ws (by omega)]
      refine ⟨_, rfl, fun k hk => by rw [jw_up_ne _ hk], ?_, Or.inl ⟨?_, ?_, by rw [ed]; exact s8⟩⟩
      · rw [jw_up_eq, jw_u1_n _ (by decide)]; exact h6
      · rw [jw_up_eq, jw_u1_n _ (by decide)]; exact h8
      · rw [jw_up_eq, jw_u1_s]; omega
/-- figures of blocks -/
theorem jp_d7_0 {q c : Int} (hc : 0 ≤ c ∧ c < 7) : jp_d7 (7 * q + c) 0 = c := by
  unfold jp_d7
  rw [show (0 : Int).toNat = 0 by decide, Int.pow_zero, Int.ediv_one]
  omega
theorem jp_d7_s {q c e : Int} (hc : 0 ≤ c ∧ c < 7) (he : 1 ≤ e) : jp_d7 (7 * q + c) e = jp_d7 q (e - 1) := by
  unfold jp_d7
  have e1 : (7 * q + c) / 7 ^ e.toNat = q / 7 ^ (e - 1).toNat := by
    rw [show e.toNat = (e - 1).toNat + 1 by omega, Int.pow_succ, Int.mul_comm (7 ^ (e - 1).toNat) 7, ← Int.ediv_ediv_of_nonneg (by decide : (0 : Int) ≤ 7), show (7 * q + c) / 7 = q by omega]
  rw [e1]
theorem jp_d7_b {a v : Int} {m : Nat} (h1 : a * 7 ^ m ≤ v) (h2 : v < (a + 1) * 7 ^ m) {j : Int} (hj : (m : Int) ≤ j) : jp_d7 v j = jp_d7 a (j - (m : Int)) := by
  have e : v / 7 ^ m = a := by
    have h3 := Int.le_ediv_of_mul_le (jp_7p0 m) h1
    have h4 := Int.ediv_lt_of_lt_mul (jp_7p0 m) h2
    omega
  unfold jp_d7
  rw [show j.toNat = m + (j - (m : Int)).toNat by omega, Int.pow_add, ← Int.ediv_ediv_of_nonneg (Int.le_of_lt (jp_7p0 m)), e]
theorem jp_cw2_n {T P : Int → Int} {m : Int} (h0 : 0 ≤ m ∧ m < T 3) (g c : Int) : jp_cw2 T P m g c = jp_cw2 T P (m + 1) g c + (if T (90 + m) = g ∧ P m = c then 1 else 0) := by
  unfold jp_cw2
  by_cases e : T (90 + m) = g ∧ P m = c
  · rw [if_pos e]
    refine jp_sum_p (s := m) h0.1 ?_ _ (by omega) (fun j a b z => ?_)
    · rw [if_pos ⟨Int.le_refl _, e⟩, if_neg (fun z => by omega), Int.zero_add]
    · exact jp_ifc ⟨fun w => ⟨by omega, w.2⟩, fun w => ⟨by omega, w.2⟩⟩
  · rw [if_neg e, Int.add_zero]
    refine jp_sum_c _ (fun j a b => jp_ifc ⟨fun w => ⟨?_, w.2⟩, fun w => ⟨by omega, w.2⟩⟩)
    by_cases z : j = m
    · rw [z] at w; exact absurd w.2 e
    · omega
theorem jp_cw2_c {T P Q : Int → Int} {m : Int} (g c : Int) (h : ∀ j : Int, m ≤ j → j < T 3 → P j = Q j) (h3 : 0 ≤ T 3) : jp_cw2 T P m g c = jp_cw2 T Q m g c := by
  unfold jp_cw2
  refine jp_sum_c _ (fun j a b => jp_ifc ⟨fun w => ⟨w.1, w.2.1, ?_⟩, fun w => ⟨w.1, w.2.1, ?_⟩⟩)
  · rw [← h j w.1 (by omega)]; exact w.2.2
  · rw [h j w.1 (by omega)]; exact w.2.2
theorem jp_cw2_r {T P : Int → Int} (h3 : 0 ≤ T 3 ∧ T 3 ≤ 5) (m g c : Int) : 0 ≤ jp_cw2 T P m g c ∧ jp_cw2 T P m g c ≤ 5 := by
  have := jp_sum_b (fun j => if m ≤ j ∧ T (90 + j) = g ∧ P j = c then 1 else 0) 0 1 (T 3).toNat (fun j a b => by
    show 0 ≤ (if m ≤ j ∧ T (90 + j) = g ∧ P j = c then (1 : Int) else 0) ∧ (if m ≤ j ∧ T (90 + j) = g ∧ P j = c then (1 : Int) else 0) ≤ 1
    split <;> omega)
  unfold jp_cw2
  omega
/-- the memory while those from m on have their places: q -/
def jp_pl (M N : jw_M) (i m q : Int) : Prop :=
  (∀ k : Nat, k ≠ 119 → k ≠ 120 → k ≠ 121 → N k = M k) ∧ N 119 6 = i ∧
  (∀ j : Int, m ≤ j → j < M 131 3 → N 120 j = jp_d7 q (j - m) ∧ N 120 j < M 131 0) ∧
  (∀ j l : Int, m ≤ j → j < M 131 3 → m ≤ l → l < M 131 3 → l ≠ j → M 131 (90 + l) = M 131 (90 + j) → M 131 87 ≤ jp_wk (M 131) (N 120 j) (N 120 l)) ∧
  (∀ g c : Int, 0 ≤ g → g < 4 → 0 ≤ c → c < 7 → N 121 (7 * g + c) = jp_cw2 (M 131) (N 120) m g c)
theorem jp_d7_r (v j : Int) : 0 ≤ jp_d7 v j ∧ jp_d7 v j < 7 := ⟨Int.emod_nonneg _ (by decide), Int.emod_lt_of_pos _ (by decide)⟩
theorem gX8_place {M : jw_M} (hA : jp_A M) (hD9 : 0 ≤ M 133 9 ∧ M 133 9 ≤ 12) (hfs : jp_fs M M) (i : Int) : ∀ (m : Nat), (m : Int) ≤ M 131 3 → ∀ (q : Int) (k : Nat) (N : jw_M), m < k → 0 ≤ q → (q + 1) * 7 ^ m ≤ 7 ^ (M 131 3).toNat → jp_pl M N i (m : Int) q → N 119 8 = -1000000 → jp_St (jp_Gv (M 131) (M 133)) i (q * 7 ^ m) (N 119 7) (N 119 8) → ∃ N' : jw_M, fX8_place k ((m : Int) - 1) N = some N' ∧ jp_pl M N' i (m : Int) q ∧ jp_St (jp_Gv (M 131) (M 133)) i ((q + 1) * 7 ^ m) (N' 119 7) (N' 119 8) := by
  obtain ⟨⟨r0, r2, r3, r4, r5⟩, -⟩ := jp_A_r hA
  obtain ⟨⟨c0, c5, c8, -⟩, -, g4, g7⟩ := jp_A_c hA
  intro m
  induction m with
  | zero =>
    intro hm q k N hk hq hb hpl h8 hSt
    obtain ⟨k, rfl⟩ : ∃ j, k = j + 1 := ⟨k - 1, by omega⟩
    obtain ⟨f1, f2, f3, f4, f5⟩ := hpl
    have e0 : ((0 : Nat) : Int) = 0 := rfl
    rw [e0] at f3 f4 f5
    rw [Int.pow_zero, Int.mul_one] at hSt hb ⊢
    have e131 : N 131 = M 131 := f1 _ (by decide) (by decide) (by decide)
    have hAN : jp_A N := jp_A_fr hA (fun k _ _ => f1 k (by omega) (by omega) (by omega)) e131 (f1 _ (by decide) (by decide) (by decide)) (f1 _ (by decide) (by decide) (by decide))
    have hd : ∀ j : Int, 0 ≤ j → j < M 131 3 → N 120 j = jp_d7 q j := fun j a b => by have := (f3 j a b).1; rw [Int.sub_zero] at this; exact this
    have hlf : jp_lf M N := ⟨hAN, e131, fun s c a p1 p2 p3 p4 p5 p6 => by rw [f1 122 (by decide) (by decide) (by decide)]; exact hfs s c a p1 p2 p3 p4 p5 p6, fun j a b => ⟨by rw [hd j a b]; exact (jp_d7_r q j).1, (f3 j a b).2⟩, f5⟩
    obtain ⟨N', n1, n2, n3, n4⟩ := gX8_note hlf hD9 q i (by omega) hd (fun j a b => (jp_cl2_lw _ _ _ _ r3.1).mpr (fun l p1 p2 p3 p4 => f4 j l a b p1 p2 p3 p4)) f2 h8 hSt
    refine ⟨N', ?_, ⟨fun k a b c => by rw [n2 k a]; exact f1 k a b c, n3, ?_, ?_, ?_⟩, n4⟩
    · rw [fX8_place]
      unfold bX8_place
      rw [if_pos (by omega), n1, jp_bs]
    · rw [n2 120 (by decide)]; exact f3
    · rw [n2 120 (by decide)]; exact f4
    · rw [n2 120 (by decide), n2 121 (by decide)]; exact f5
  | succ m ih =>
    intro hm q k N hk hq hb hpl h8 hSt
    obtain ⟨k, rfl⟩ : ∃ j, k = j + 1 := ⟨k - 1, by omega⟩
    have em : ((m + 1 : Nat) : Int) = (m : Int) + 1 := by omega
    have e7 : (7 : Int) ^ (m + 1) = 7 * 7 ^ m := by rw [Int.pow_succ, Int.mul_comm]
    have p7 := jp_7p0 m
    have eb1 : q * 7 ^ (m + 1) = (7 * q + 0) * 7 ^ m := by rw [e7]; grind
    have eb2 : (q + 1) * 7 ^ (m + 1) = (7 * q + 7) * 7 ^ m := by rw [e7]; grind
    rw [eb1] at hSt
    rw [eb2] at hb ⊢
    rw [em] at hpl ⊢
    have hgm := hA.1.2.2.2.2.2.2 (m : Int) (by omega) (by omega)
    have e21 : M (17 + 4) (m : Int) = M 131 (90 + (m : Int)) := (jp_gof hA (s := (m : Int)) (by omega)).1
    rw [fX8_place]
    unfold bX8_place
    rw [if_neg (by omega), if_pos (by omega), jp_bs, show (m : Int) + 1 - 1 = (m : Int) by omega]
    refine jp_up (fun k' c N => fX8_place_17 (fX8_place k) k' (m : Int) c N) (M 131 0) (fun c N => 0 ≤ c ∧ jp_pl M N i ((m : Int) + 1) q ∧ jp_St (jp_Gv (M 131) (M 133)) i ((7 * q + c) * 7 ^ m) (N 119 7) (N 119 8)) (fun r => ∃ N' : jw_M, r = some N' ∧ jp_pl M N' i ((m : Int) + 1) q ∧ jp_St (jp_Gv (M 131) (M 133)) i ((7 * q + 7) * 7 ^ m) (N' 119 7) (N' 119 8)) ?_ ?_ jw_fu 0 N (by unfold jw_fu; omega) (by omega) ⟨by omega, hpl, hSt⟩
    · intro k' c N hp hc ihl
      obtain ⟨hc0, hpl, hSt⟩ := hp
      obtain ⟨f1, f2, f3, f4, f5⟩ := id hpl
      have n10 : N 10 0 = M 131 0 := by rw [f1 _ (by decide) (by decide) (by decide)]; exact c0
      have e131 : N 131 = M 131 := f1 _ (by decide) (by decide) (by decide)
      have hAN : jp_A N := jp_A_fr hA (fun k _ _ => f1 k (by omega) (by omega) (by omega)) e131 (f1 _ (by decide) (by decide) (by decide)) (f1 _ (by decide) (by decide) (by decide))
      have hpos : 0 ≤ (7 * q + c) * 7 ^ m := Int.mul_nonneg (by omega) (by omega)
      have hle7 : (7 * q + c) * 7 ^ m ≤ (7 * q + 7) * 7 ^ m := Int.mul_le_mul_of_nonneg_right (by omega) (by omega)
      have hle1 : (7 * q + c) * 7 ^ m ≤ (7 * q + (c + 1)) * 7 ^ m := Int.mul_le_mul_of_nonneg_right (by omega) (by omega)
      have hle2 : (7 * q + c + 1) * 7 ^ m ≤ (7 * q + 7) * 7 ^ m := Int.mul_le_mul_of_nonneg_right (by omega) (by omega)
      have hW : ∀ j : Int, (m : Int) + 1 ≤ j → j < M 131 3 → 0 ≤ N 120 j ∧ N 120 j < M 131 0 := fun j a b => ⟨by rw [(f3 j a b).1]; exact (jp_d7_r _ _).1, (f3 j a b).2⟩
      show ∃ N' : jw_M, fX8_place_17 (fX8_place k) (k' + 1) (m : Int) c N = some N' ∧ _
      rw [fX8_place_17, n10, if_pos hc]
      by_cases hn8 : N 119 8 = -1000000
      · rw [if_pos hn8, jw_ws (x := (m : Int) + 1) (by omega)]
        have hcl := gX8_isClear hAN (m : Int) c ((m : Int) + 1) (by rw [e131]; omega) (by rw [e131]; omega) (by rw [e131]; omega) (by rw [e131]; exact hW)
        rw [e131] at hcl
        unfold fX8_place_98
        rcases hcl with ⟨q1, q2⟩ | ⟨q1, q2⟩
        · have e21' : N (17 + 4) (m : Int) = M 131 (90 + (m : Int)) := by rw [f1 (17 + 4) (by decide) (by decide) (by decide)]; exact e21
          rw [q1, jp_bs, if_neg (by decide), if_pos (by omega), jp_bs, if_pos (by omega), jp_bs, e21', jw_ws (x := M 131 (90 + (m : Int)) * 7) (by omega), jw_ws (x := M 131 (90 + (m : Int)) * 7 + c) (by omega), if_pos (by omega), if_pos (by omega), jp_bs, show M 131 (90 + (m : Int)) * 7 + c = 7 * M 131 (90 + (m : Int)) + c by omega]
          have hcr := jp_cw2_r (T := M 131) (P := N 120) r3 ((m : Int) + 1) (M 131 (90 + (m : Int))) c
          have hcv := f5 (M 131 (90 + (m : Int))) c hgm.1 (by omega) hc0 (by omega)
          have a121 : jw_up N 120 (m : Int) c 121 (7 * M 131 (90 + (m : Int)) + c) = N 121 (7 * M 131 (90 + (m : Int)) + c) := by rw [jw_up_ne _ (by decide)]
          rw [a121, jw_ws (x := N 121 (7 * M 131 (90 + (m : Int)) + c) + 1) (by omega), jw_ws (x := (m : Int) - 1) (by omega)]
          generalize hM11 : jw_up (jw_up N 120 (m : Int) c) 121 (7 * M 131 (90 + (m : Int)) + c) (N 121 (7 * M 131 (90 + (m : Int)) + c) + 1) = M11
          have b120 : M11 120 = jw_u1 (N 120) (m : Int) c := by rw [← hM11, jw_up_ne _ (by decide), jw_up_eq]
          have b121 : M11 121 = jw_u1 (N 121) (7 * M 131 (90 + (m : Int)) + c) (N 121 (7 * M 131 (90 + (m : Int)) + c) + 1) := by rw [← hM11, jw_up_eq, jw_up_ne _ (by decide)]
          have bfr : ∀ k : Nat, k ≠ 120 → k ≠ 121 → M11 k = N k := fun k a b => by rw [← hM11, jw_up_ne _ b, jw_up_ne _ a]
          have bo : ∀ j : Int, (m : Int) + 1 ≤ j → M11 120 j = N 120 j := fun j a => by rw [b120, jw_u1_n _ (by omega)]
          have bm : M11 120 (m : Int) = c := by rw [b120, jw_u1_s]
          have hpl1 : jp_pl M M11 i (m : Int) (7 * q + c) := by
            refine ⟨fun k a b d => by rw [bfr k b d]; exact f1 k a b d, by rw [bfr 119 (by decide) (by decide)]; exact f2, fun j a b => ?_, fun j l a b a' b' hne hgo => ?_, fun g c' g0 g1 c0' c1' => ?_⟩
            · by_cases z : j = (m : Int)
              · rw [z, bm, show (m : Int) - (m : Int) = 0 by omega, jp_d7_0 (by omega)]
                exact ⟨rfl, hc⟩
              · rw [bo j (by omega), jp_d7_s (by omega) (by omega), show j - (m : Int) - 1 = j - ((m : Int) + 1) by omega]
                exact f3 j (by omega) b
            · by_cases z : j = (m : Int)
              · by_cases z2 : l = (m : Int)
                · omega
                · rw [z, bm, bo l (by omega)]
                  rw [z] at hgo
                  exact q2 l (by omega) b' (by omega) hgo
              · rw [bo j (by omega)]
                by_cases z2 : l = (m : Int)
                · rw [z2, bm]
                  rw [z2] at hgo
                  have hw1 := hW j (by omega) b
                  have hsym := (jp_wk_r hA.1 (a := N 120 j) (b := c) (by omega) (by omega) (by omega) (by omega)).2.2
                  rw [hsym]
                  exact q2 j (by omega) b z hgo.symm
                · rw [bo l (by omega)]
                  exact f4 j l (by omega) b (by omega) b' hne hgo
            · rw [jp_cw2_n (by omega), jp_cw2_c (Q := N 120) _ _ (fun j a b => bo j a) r3.1, bm, b121, jw_u1_a, ← f5 g c' g0 g1 c0' c1']
              by_cases z : M 131 (90 + (m : Int)) = g ∧ c = c'
              · rw [if_pos (by omega), if_pos z, z.1, z.2]
              · rw [if_neg (by omega), if_neg z, Int.add_zero]
          obtain ⟨N', n1, n2, n3⟩ := ih (by omega) (7 * q + c) k M11 (by omega) (by omega) (by omega) hpl1 (by rw [bfr 119 (by decide) (by decide)]; exact hn8) (by rw [bfr 119 (by decide) (by decide)]; exact hSt)
          obtain ⟨u1, u2, u3, u4, u5⟩ := n2
          have u3m : N' 120 (m : Int) = c := by
            have := (u3 (m : Int) (Int.le_refl _) (by omega)).1
            rw [show (m : Int) - (m : Int) = 0 by omega, jp_d7_0 (by omega)] at this
            exact this
          have hcr2 := jp_cw2_r (T := M 131) (P := N' 120) r3 (m : Int) (M 131 (90 + (m : Int))) c
          have hcv2 := u5 (M 131 (90 + (m : Int))) c hgm.1 (by omega) hc0 (by omega)
          rw [n1, jp_bs, if_pos (by omega), if_pos (by omega), jp_bs, jp_bs, jw_ws (x := c + 1) (by omega), jw_ws (x := N' 121 (7 * M 131 (90 + (m : Int)) + c) - 1) (by omega)]
          have g120 : ∀ v : Int, jw_up N' 121 (7 * M 131 (90 + (m : Int)) + c) v 120 = N' 120 := fun v => jw_up_ne _ (by decide) _ _
          have g119 : ∀ v : Int, jw_up N' 121 (7 * M 131 (90 + (m : Int)) + c) v 119 = N' 119 := fun v => jw_up_ne _ (by decide) _ _
          refine ihl _ ⟨by omega, ⟨fun k a b d => by rw [jw_up_ne _ d]; exact u1 k a b d, by rw [g119]; exact u2, fun j a b => ?_, fun j l a b a' b' hne hgo => ?_, fun g c' g0 g1 c0' c1' => ?_⟩, ?_⟩
          · rw [g120]
            have := u3 j (by omega) b
            rw [jp_d7_s (by omega) (by omega), show j - (m : Int) - 1 = j - ((m : Int) + 1) by omega] at this
            exact this
          · rw [g120]
            exact u4 j l (by omega) b (by omega) b' hne hgo
          · have w := u5 g c' g0 g1 c0' c1'
            rw [jp_cw2_n (by omega), u3m] at w
            rw [g120, jw_up_eq, jw_u1_a]
            by_cases z : M 131 (90 + (m : Int)) = g ∧ c = c'
            · rw [if_pos z, ← z.1, ← z.2] at w
              rw [if_pos (by omega), ← z.1, ← z.2]
              omega
            · rw [if_neg z] at w
              rw [if_neg (by omega)]
              omega
          · rw [g119, show 7 * q + (c + 1) = 7 * q + c + 1 by omega]; exact n3
        · rw [q1, jp_bs, if_pos rfl, jp_bs, jw_ws (by omega)]
          refine ihl N ⟨by omega, hpl, jp_St_b hpos hle1 hSt (fun v v1 v2 => jp_Bf (fun hG => q2 ?_))⟩
          rw [show 7 * q + (c + 1) = 7 * q + c + 1 by omega] at v2
          have hGi := (jp_Gv_i r3.1 v).mp hG
          have hlw := (jp_cl2_lw _ _ _ _ r3.1).mp (hGi.2.1 (m : Int) (by omega) (by omega))
          have dm : jp_d7 v (m : Int) = c := by rw [jp_d7_b v1 v2 (Int.le_refl _), show (m : Int) - (m : Int) = 0 by omega, jp_d7_0 (by omega)]
          have dj : ∀ j : Int, (m : Int) + 1 ≤ j → j < M 131 3 → jp_d7 v j = N 120 j := fun j a b => by
            rw [jp_d7_b v1 v2 (by omega), jp_d7_s (by omega) (by omega), show j - (m : Int) - 1 = j - ((m : Int) + 1) by omega]
            exact (f3 j a b).1.symm
          intro j a b d e
          have := hlw j (by omega) b d e
          rw [dm, dj j a b] at this
          exact this
      · rw [if_neg hn8]
        exact ⟨N, rfl, hpl, jp_St_c hpos hle7 hSt hn8⟩
    · intro k' N hp
      obtain ⟨hc0, hpl, hSt⟩ := hp
      have n10 : N 10 0 = M 131 0 := by rw [hpl.1 _ (by decide) (by decide) (by decide)]; exact c0
      have hpos : 0 ≤ (7 * q + M 131 0) * 7 ^ m := Int.mul_nonneg (by omega) (by omega)
      have hle7 : (7 * q + M 131 0) * 7 ^ m ≤ (7 * q + 7) * 7 ^ m := Int.mul_le_mul_of_nonneg_right (by omega) (by omega)
      refine ⟨N, ?_, hpl, jp_St_b hpos hle7 hSt (fun v v1 v2 => jp_Bf (fun hG => ?_))⟩
      · show fX8_place_17 (fX8_place k) (k' + 1) (m : Int) (M 131 0) N = _
        rw [fX8_place_17, n10, if_neg (by omega)]
      · have hGi := ((jp_Gv_i r3.1 v).mp hG).1 (m : Int) (by omega) (by omega)
        have h3 := Int.le_ediv_of_mul_le (jp_7p0 m) v1
        have h4 := Int.ediv_lt_of_lt_mul (jp_7p0 m) v2
        unfold jp_d7 at hGi
        rw [Int.toNat_natCast] at hGi
        omega
