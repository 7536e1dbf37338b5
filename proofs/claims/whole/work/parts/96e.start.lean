/-! reading: before and after -/
def jp_D0 : Int → Int := jw_u1 (jw_u1 (fun _ => 0) 88 11) 89 3
theorem jp_D0_z {j : Int} (h : j < 88 ∨ 89 < j) : jp_D0 j = 0 := by
  unfold jp_D0
  rw [jw_u1_n _ (by omega), jw_u1_n _ (by omega)]
theorem jp_D0_k : jp_Dk jp_D0 := by
  have z : ∀ j : Int, j < 88 ∨ 89 < j → jp_D0 j = 0 := fun j h => jp_D0_z h
  have e88 : jp_D0 88 = 11 := rfl
  have e89 : jp_D0 89 = 3 := rfl
  unfold jp_Dk
  rw [z 0 (by omega), z 1 (by omega), z 2 (by omega), z 3 (by omega), z 4 (by omega), z 5 (by omega), z 6 (by omega), z 87 (by omega), e88, e89]
  refine ⟨by omega, by omega, fun c a b => ?_, fun x y a b c d => ?_, fun g a b => by omega, fun g a b => by omega, fun g a b => by omega, fun g a b => by omega⟩
  · rw [z _ (by omega)]; omega
  · rw [z _ (by omega), z _ (by omega)]; omega
theorem jp_D0_l : jp_la jp_D0 (-1) := by
  unfold jp_la
  rw [jp_D0_z (j := 6) (by omega)]
  omega
theorem jp_D0_m : jp_mu jp_D0 = 43 := by
  have z : ∀ j : Int, j < 88 ∨ 89 < j → jp_D0 j = 0 := fun j h => jp_D0_z h
  unfold jp_mu
  rw [z 0 (by omega), z 1 (by omega), z 2 (by omega), z 3 (by omega), z 4 (by omega), z 5 (by omega), z 6 (by omega)]
  rfl
theorem jp_Dk_T {D : Int → Int} (h : jp_Dk D) : jp_T D := by
  obtain ⟨⟨d0, d1, d2, d3, d4, d5, d6⟩, ⟨e1, e2, e3⟩, a, b, c, d, e, f⟩ := h
  exact ⟨⟨d0, d2, d3, d4, d5⟩, ⟨e1, e2, ⟨by omega, e3.2⟩, fun _ => e3.1⟩, a, b, c, d, fun s p q => ⟨(e s p q).1, (e s p q).2.1⟩⟩
/-- a new day's standing -/
def jp_R0 (D : Int → Int) : Int → Int := fun j => if 0 ≤ j ∧ j < 9 then D (95 + j) else 0
theorem jp_R0_z (D : Int → Int) {j : Int} (h : 9 ≤ j) : jp_R0 D j = 0 := by
  unfold jp_R0
  rw [if_neg (by omega)]
theorem jp_R0_a (D : Int → Int) {j : Int} (h : 0 ≤ j ∧ j < 9) : jp_R0 D j = D (95 + j) := by
  unfold jp_R0
  rw [if_pos h]
theorem jp_R0_N {D : Int → Int} (h : jp_Dk D) : jp_N D (jp_R0 D) := by
  obtain ⟨⟨d0, d1, d2, d3, d4, d5, d6⟩, ⟨e1, e2, e3⟩, a, b, c, d, e, f⟩ := h
  have z : ∀ j : Int, 9 ≤ j → jp_R0 D j = 0 := fun j h => jp_R0_z D h
  unfold jp_N
  rw [z 9 (by omega), z 42 (by omega), z 58 (by omega)]
  refine ⟨fun s p q => ?_, fun s p q => ?_, by omega, fun s p q => ?_, fun s p q => ?_, fun s p q => ?_, fun s p q => ?_, fun x y p q r s => ?_⟩
  · rw [jp_R0_a D (by omega)]; exact ⟨(e s p q).2.2.1, (e s p q).2.2.2⟩
  · rw [jp_R0_a D (by omega), show 95 + (5 + s) = 100 + s by omega]; exact f s p q
  · rw [z _ (by omega)]; omega
  · rw [z _ (by omega)]; omega
  · rw [z _ (by omega)]; omega
  · rw [z _ (by omega)]; omega
  · rw [z _ (by omega)]; omega
theorem jp_R0_S {N : jw_M} {D : Int → Int} (hD : jp_Dk D) (hc : jp_cR N D) (hw : ∀ a b : Int, 0 ≤ a → a < D 0 → 0 ≤ b → b < D 0 → N 40 (7 * a + b) = jp_wk D a b ∧ N 41 (7 * a + b) = jp_hk D a b) (h51 : N 51 0 = 0 ∧ N 51 1 = 0) (h56 : ∀ j : Int, 0 ≤ j → j < 20 → N 56 j = 0) (h57 : N 57 0 = 0) (h58 : ∀ j : Int, 0 ≤ j → j < 7 → N 58 j = 0) (h59 : ∀ j : Int, 0 ≤ j → j < 20 → N 59 j = 0) (h61 : ∀ j : Int, 0 ≤ j → j < 25 → N 61 j = 0) : jp_S 36 N D (jp_R0 D) := by
  obtain ⟨c8, c37, c38, c39, c42, c44, c45, c48, c50⟩ := hc
  obtain ⟨d0, d1, d2, d3, d4, d5, d6⟩ := hD.1
  have z : ∀ j : Int, 9 ≤ j → jp_R0 D j = 0 := fun j h => jp_R0_z D h
  unfold jp_S
  rw [z 9 (by omega), z 42 (by omega), z 58 (by omega)]
  refine ⟨c37, c38, c39, hw, c42, c44, c45, fun i p q => (c48 i p q).1, fun i p q => ?_, fun w p q => ?_, Or.inl ⟨rfl, h51.1, h51.2⟩, fun e => absurd rfl e, fun e => absurd rfl e, fun k p q => ?_, h57, fun c p q => h58 c p q, fun k p q => ?_, fun a b p q r s => ?_⟩
  · rw [jp_R0_a D (by omega)]; exact (c48 i p q).2
  · rw [jp_R0_a D (by omega), show 95 + (5 + w) = 100 + w by omega]; exact c50 w p q
  · rw [z _ (by omega)]; exact h56 k p q
  · rw [z _ (by omega)]; exact h59 k p q
  · rw [z _ (by omega)]; exact h61 _ (by omega) (by omega)
theorem jp_prs_1 {t : Int → Int} {L s : Int} {D : Int → Int} (e : jp_wod t L s = 0) (hk : jp_kd t L s = 1) (m : Nat) : jp_prs t L (m + 1) (-1) s D = jp_prs t L (m + 1) 0 s D := by
  rw [jp_prs, jp_prs, e, if_neg (show ¬ (jp_kd t L s = 0 ∧ (2 : Int) ≤ -1) by omega), if_neg (show ¬ (jp_kd t L s = 0 ∧ (2 : Int) ≤ 0) by omega)]
  rfl
/-- the model begins -/
theorem gX12_begin {M : jw_M} {t : Int → Int} {L : Int} (hL : 0 ≤ L ∧ L ≤ 600) (h10 : M 127 10 = L) (ht : M 134 = t) (hb : ∀ i : Int, 0 ≤ i → i < L → 0 ≤ t i ∧ t i ≤ 255) : ∃ B : jw_M, (∀ k : Nat, k ≠ 127 → B k = M k) ∧ (∀ j : Int, j ≠ 0 → j ≠ 10 → j ≠ 12 → j ≠ 13 → j ≠ 17 → B 127 j = M 127 j) ∧ B 127 10 = 0 ∧ jp_redd B (jp_prs t L 44 (-1) 0 jp_D0) (fX12_pavement M) := by
  unfold fX12_pavement
  simp only [jp_bs]
  have e10 : jw_up M 127 0 0 127 10 = L := by rw [jw_up_eq, jw_u1_n _ (by decide)]; exact h10
  rw [e10]
  generalize hB : jw_up (jw_up (jw_up (jw_up (jw_up M 127 0 0) 127 12 L) 127 10 0) 127 13 0) 127 17 0 = B
  have b1 : ∀ k : Nat, k ≠ 127 → B k = M k := fun k hk => by rw [← hB]; simp only [jw_up_ne _ hk]
  have b2 : ∀ j : Int, j ≠ 0 → j ≠ 10 → j ≠ 12 → j ≠ 13 → j ≠ 17 → B 127 j = M 127 j := fun j p q r s u => by rw [← hB]; simp only [jw_up_eq, jw_u1_n _ p, jw_u1_n _ q, jw_u1_n _ r, jw_u1_n _ s, jw_u1_n _ u]
  have b10 : B 127 10 = 0 := by rw [← hB]; rfl
  have b12 : B 127 12 = L := by rw [← hB]; rfl
  have b13 : B 127 13 = 0 := by rw [← hB]; rfl
  have b17 : B 127 17 = 0 := by rw [← hB]; rfl
  refine ⟨B, b1, b2, b10, ?_⟩
  refine jp_up (fun k i N => fX12_pavement_30 k i N) 104 (fun i N => 0 ≤ i ∧ (∀ k : Nat, k ≠ 132 → N k = B k) ∧ ∀ j : Int, 0 ≤ j → j < i → N 132 j = 0) (fun r => jp_redd B (jp_prs t L 44 (-1) 0 jp_D0) r) ?_ ?_ jw_fu 0 B (by unfold jw_fu; omega) (by omega) ⟨by omega, fun _ _ => rfl, fun j p q => by omega⟩
  · intro k i N hp hi ih
    obtain ⟨i0, p1, p2⟩ := hp
    show jp_redd B _ (fX12_pavement_30 (k + 1) i N)
    rw [fX12_pavement_30, if_pos hi, if_pos ⟨i0, hi⟩, jp_bs, jp_bs, jw_ws (x := i + 1) (by omega)]
    refine ih _ ⟨by omega, fun x hx => by rw [jw_up_ne _ hx]; exact p1 x hx, fun j p q => ?_⟩
    rw [jw_up_eq, jw_u1_a]
    split
    · rfl
    · exact p2 j p (by omega)
  · intro k N hp
    obtain ⟨i0, p1, p2⟩ := hp
    show jp_redd B _ (fX12_pavement_30 (k + 1) 104 N)
    rw [fX12_pavement_30, if_neg (by decide), if_pos (by decide), jp_bs, if_pos (by decide), jp_bs]
    generalize hN2 : jw_up (jw_up N 132 88 11) 132 89 3 = N2
    have n1 : ∀ k : Nat, k ≠ 132 → N2 k = B k := fun k hk => by rw [← hN2, jw_up_ne _ hk, jw_up_ne _ hk, p1 k hk]
    have n2 : ∀ j : Int, 0 ≤ j → j < 104 → N2 132 j = jp_D0 j := by
      intro j p q
      rw [← hN2, jw_up_eq, jw_up_eq]
      unfold jp_D0
      simp only [jw_u1_a]
      split
      · rfl
      · split
        · rfl
        · exact p2 j p q
    have n127 := n1 127 (by decide)
    have hmp : jp_mp N2 t L := ⟨hL, by rw [n127]; exact b12, by rw [n1 134 (by decide), b1 134 (by decide)]; exact ht, hb⟩
    obtain ⟨N3, q1, q2, q3⟩ := gX12_next hmp 0 (by omega) (by rw [n127]; exact b13)
    have q17 : N3 127 17 = 0 := by rw [q2.2 17 (by omega), n127]; exact b17
    have hmf : jp_mfr B N2 := ⟨fun k _ b => n1 k b, fun j _ => by rw [n127]⟩
    have hok : jp_okm B N3 t L jp_D0 0 := ⟨jp_mfr_4 hmf q2, jp_r4_m hmp q2, q3, q17, by rw [q2.1 132 (by decide)]; exact n2⟩
    have hs : (0 : Int) ≤ 0 ∧ (0 : Int) ≤ L := by omega
    have hwd : fX12_word N3 = some (jp_wc t L 0) := by rw [gX12_word hok.2.1 hs hok.2.2.1, q17, if_pos rfl]
    obtain ⟨w0, w1, w2, w3, w4, w5, w6, w7⟩ := jp_wod_i t L 0
    rw [q1, jp_bs, hwd, jp_bs]
    simp only [jw_cmp_eq]
    by_cases e : jp_wod t L 0 = 0
    · rw [if_pos (w0.mpr e)]
      have hk1 := jp_wod_k (t := t) (L := L) (s := 0) (by omega)
      have hpp : jp_prs t L 44 (-1) 0 jp_D0 = jp_prs t L 44 0 0 jp_D0 := by
        exact jp_prs_1 e hk1 43
      rw [hpp]
      exact gX12_reads 44 0 0 jp_D0 jw_fu N3 (by rw [jp_D0_m]; omega) (by unfold jw_fu; omega) (by omega) hs hok jp_D0_k ⟨by omega, fun _ => jp_D0_z (by omega)⟩ (by omega)
    · rw [if_neg (fun z => e (w0.mp z))]
      obtain ⟨C, c1, c2, c3⟩ := gX12_bad_o hok hs 1 (by decide)
      have hfu : jw_fu = 99999 + 1 := rfl
      have hmf0 : jp_mf (-1) (jp_wod t L 0) = false := by
        cases hm : jp_mf (-1) (jp_wod t L 0) with
        | false => rfl
        | true => exact absurd ((jp_mf_i hm).2.2.1 rfl) e
      have hlab := jp_lab_f c2 0 (by decide) 99999
      have hlab' : fX12_pavement_86 jw_fu C = jp_tail C := hlab
      rw [c1, jp_bs, hlab', jp_prs, if_neg (by omega), if_pos hmf0]
      exact ⟨C, rfl, Or.inl ⟨(by decide : (1 : Int) ≠ 0), c2⟩⟩
/-- the model takes what was read -/
theorem jp_tail_o {B N : jw_M} {D : Int → Int} (hf : jp_mfr B N) (h17 : N 127 17 = 0) (hd : ∀ j : Int, 0 ≤ j → j < 104 → N 132 j = D j) (hT : jp_T D) (h0 : 1 ≤ D 0) : ∃ O : jw_M, jp_tail N = some (D 0, O) ∧ (∀ k : Nat, k ≠ 127 → k ≠ 131 → k ≠ 132 → k ≠ 133 → k ≠ 135 → k ≠ 136 → O k = B k) ∧ (∀ j : Int, j ≠ 7 → (j < 13 ∨ 18 < j) → O 127 j = B 127 j) ∧ O 127 7 = 1 ∧ jp_e D (O 131) ∧ jp_e (jp_R0 D) (O 133) ∧ (∀ a b : Int, 0 ≤ a → a < 7 → 0 ≤ b → b < 7 → O 135 (7 * a + b) = jp_wk (O 131) a b ∧ O 136 (7 * a + b) = jp_hk (O 131) a b) := by
  have h89 := hT.2.1.2.2.2 h0
  unfold jp_tail
  rw [h17, if_neg (by decide), jp_bs, jp_bs]
  generalize hA : jw_up N 127 7 1 = A
  have a1 : ∀ k : Nat, k ≠ 127 → k ≠ 132 → A k = B k := fun k p q => by rw [← hA, jw_up_ne _ p]; exact hf.1 k p q
  have a2 : ∀ j : Int, j ≠ 7 → (j < 13 ∨ 18 < j) → A 127 j = B 127 j := fun j p q => by rw [← hA, jw_up_eq, jw_u1_n _ p]; exact hf.2 j q
  have a3 : A 127 7 = 1 := by rw [← hA]; rfl
  have a4 : ∀ j : Int, 0 ≤ j → j < 104 → A 132 j = D j := fun j p q => by rw [← hA, jw_up_ne _ (by decide)]; exact hd j p q
  refine jp_up (fun k i N => fX12_pavement_192 k i N) 104 (fun i N => 0 ≤ i ∧ (∀ k : Nat, k ≠ 131 → N k = A k) ∧ ∀ j : Int, 0 ≤ j → j < i → N 131 j = D j) (fun r => ∃ O : jw_M, r = some (D 0, O) ∧ (∀ k : Nat, k ≠ 127 → k ≠ 131 → k ≠ 132 → k ≠ 133 → k ≠ 135 → k ≠ 136 → O k = B k) ∧ (∀ j : Int, j ≠ 7 → (j < 13 ∨ 18 < j) → O 127 j = B 127 j) ∧ O 127 7 = 1 ∧ jp_e D (O 131) ∧ jp_e (jp_R0 D) (O 133) ∧ (∀ a b : Int, 0 ≤ a → a < 7 → 0 ≤ b → b < 7 → O 135 (7 * a + b) = jp_wk (O 131) a b ∧ O 136 (7 * a + b) = jp_hk (O 131) a b)) ?_ ?_ jw_fu 0 A (by unfold jw_fu; omega) (by omega) ⟨by omega, fun _ _ => rfl, fun j p q => by omega⟩
  · intro k i N hp hi ih
    obtain ⟨i0, p1, p2⟩ := hp
    show ∃ O : jw_M, fX12_pavement_192 (k + 1) i N = some (D 0, O) ∧ _
    rw [fX12_pavement_192, if_pos hi, if_pos ⟨i0, hi⟩, if_pos ⟨i0, hi⟩, jp_bs, jp_bs, jw_ws (x := i + 1) (by omega)]
    refine ih _ ⟨by omega, fun x hx => by rw [jw_up_ne _ hx]; exact p1 x hx, fun j p q => ?_⟩
    rw [jw_up_eq, jw_u1_a]
    split
    · rename_i e
      rw [p1 132 (by decide), e]
      exact a4 i i0 hi
    · exact p2 j p (by omega)
  · intro k N1 hp1
    obtain ⟨-, n1, n2⟩ := hp1
    show ∃ O : jw_M, fX12_pavement_192 (k + 1) 104 N1 = some (D 0, O) ∧ _
    rw [fX12_pavement_192, if_neg (by decide), jp_bs]
    refine jp_up (fun k i N => fX12_pavement_218 k i N) 104 (fun i N => 0 ≤ i ∧ (∀ k : Nat, k ≠ 133 → N k = N1 k) ∧ ∀ j : Int, 0 ≤ j → j < i → N 133 j = 0) (fun r => ∃ O : jw_M, r = some (D 0, O) ∧ (∀ k : Nat, k ≠ 127 → k ≠ 131 → k ≠ 132 → k ≠ 133 → k ≠ 135 → k ≠ 136 → O k = B k) ∧ (∀ j : Int, j ≠ 7 → (j < 13 ∨ 18 < j) → O 127 j = B 127 j) ∧ O 127 7 = 1 ∧ jp_e D (O 131) ∧ jp_e (jp_R0 D) (O 133) ∧ (∀ a b : Int, 0 ≤ a → a < 7 → 0 ≤ b → b < 7 → O 135 (7 * a + b) = jp_wk (O 131) a b ∧ O 136 (7 * a + b) = jp_hk (O 131) a b)) ?_ ?_ jw_fu 0 N1 (by unfold jw_fu; omega) (by omega) ⟨by omega, fun _ _ => rfl, fun j p q => by omega⟩
    · intro k i N hp hi ih
      obtain ⟨i0, p1, p2⟩ := hp
      show ∃ O : jw_M, fX12_pavement_218 (k + 1) i N = some (D 0, O) ∧ _
      rw [fX12_pavement_218, if_pos hi, if_pos ⟨i0, hi⟩, jp_bs, jp_bs, jw_ws (x := i + 1) (by omega)]
      refine ih _ ⟨by omega, fun x hx => by rw [jw_up_ne _ hx]; exact p1 x hx, fun j p q => ?_⟩
      rw [jw_up_eq, jw_u1_a]
      split
      · rfl
      · exact p2 j p (by omega)
    · intro k N2 hp2
      obtain ⟨-, m1, m2⟩ := hp2
      show ∃ O : jw_M, fX12_pavement_218 (k + 1) 104 N2 = some (D 0, O) ∧ _
      rw [fX12_pavement_218, if_neg (by decide), jp_bs]
      refine jp_up (fun k i N => fX12_pavement_239 k i N) 5 (fun i N => 0 ≤ i ∧ (∀ k : Nat, k ≠ 133 → N k = N1 k) ∧ (∀ j : Int, 0 ≤ j → j < i → N 133 j = D (95 + j)) ∧ (∀ j : Int, 5 ≤ j → j < 104 → N 133 j = 0)) (fun r => ∃ O : jw_M, r = some (D 0, O) ∧ (∀ k : Nat, k ≠ 127 → k ≠ 131 → k ≠ 132 → k ≠ 133 → k ≠ 135 → k ≠ 136 → O k = B k) ∧ (∀ j : Int, j ≠ 7 → (j < 13 ∨ 18 < j) → O 127 j = B 127 j) ∧ O 127 7 = 1 ∧ jp_e D (O 131) ∧ jp_e (jp_R0 D) (O 133) ∧ (∀ a b : Int, 0 ≤ a → a < 7 → 0 ≤ b → b < 7 → O 135 (7 * a + b) = jp_wk (O 131) a b ∧ O 136 (7 * a + b) = jp_hk (O 131) a b)) ?_ ?_ jw_fu 0 N2 (by unfold jw_fu; omega) (by omega) ⟨by omega, m1, fun j p q => by omega, fun j p q => m2 j (by omega) q⟩
      · intro k i N hp hi ih
        obtain ⟨i0, p1, p2, p3⟩ := hp
        show ∃ O : jw_M, fX12_pavement_239 (k + 1) i N = some (D 0, O) ∧ _
        rw [fX12_pavement_239, if_pos hi, jw_ws (x := 95 + i) (by omega), jw_ws (x := 0 + i) (by omega), if_pos (show 0 ≤ 95 + i ∧ 95 + i < 104 by omega), if_pos (show 0 ≤ 0 + i ∧ 0 + i < 104 by omega), jp_bs, jp_bs, jw_ws (x := i + 1) (by omega), Int.zero_add]
        refine ih _ ⟨by omega, fun x hx => by rw [jw_up_ne _ hx]; exact p1 x hx, fun j p q => ?_, fun j p q => ?_⟩
        · rw [jw_up_eq, jw_u1_a]
          split
          · rename_i e
            rw [p1 131 (by decide), e]
            exact n2 _ (by omega) (by omega)
          · exact p2 j p (by omega)
        · rw [jw_up_eq, jw_u1_n _ (by omega)]
          exact p3 j p q
      · intro k N3 hp3
        obtain ⟨-, o1, o2, o3⟩ := hp3
        show ∃ O : jw_M, fX12_pavement_239 (k + 1) 5 N3 = some (D 0, O) ∧ _
        rw [fX12_pavement_239, if_neg (by decide), jp_bs]
        refine jp_up (fun k i N => fX12_pavement_269 k i N) 4 (fun i N => 0 ≤ i ∧ (∀ k : Nat, k ≠ 133 → N k = N1 k) ∧ (∀ j : Int, 0 ≤ j → j < 5 + i → N 133 j = D (95 + j)) ∧ (∀ j : Int, 9 ≤ j → j < 104 → N 133 j = 0)) (fun r => ∃ O : jw_M, r = some (D 0, O) ∧ (∀ k : Nat, k ≠ 127 → k ≠ 131 → k ≠ 132 → k ≠ 133 → k ≠ 135 → k ≠ 136 → O k = B k) ∧ (∀ j : Int, j ≠ 7 → (j < 13 ∨ 18 < j) → O 127 j = B 127 j) ∧ O 127 7 = 1 ∧ jp_e D (O 131) ∧ jp_e (jp_R0 D) (O 133) ∧ (∀ a b : Int, 0 ≤ a → a < 7 → 0 ≤ b → b < 7 → O 135 (7 * a + b) = jp_wk (O 131) a b ∧ O 136 (7 * a + b) = jp_hk (O 131) a b)) ?_ ?_ jw_fu 0 N3 (by unfold jw_fu; omega) (by omega) ⟨by omega, o1, fun j p q => o2 j p (by omega), fun j p q => o3 j (by omega) q⟩
        · intro k i N hp hi ih
          obtain ⟨i0, p1, p2, p3⟩ := hp
          show ∃ O : jw_M, fX12_pavement_269 (k + 1) i N = some (D 0, O) ∧ _
          rw [fX12_pavement_269, if_pos hi, jw_ws (x := 100 + i) (by omega), jw_ws (x := 5 + i) (by omega), if_pos (show 0 ≤ 100 + i ∧ 100 + i < 104 by omega), if_pos (show 0 ≤ 5 + i ∧ 5 + i < 104 by omega), jp_bs, jp_bs, jw_ws (x := i + 1) (by omega)]
          refine ih _ ⟨by omega, fun x hx => by rw [jw_up_ne _ hx]; exact p1 x hx, fun j p q => ?_, fun j p q => ?_⟩
          · rw [jw_up_eq, jw_u1_a]
            split
            · rename_i e
              rw [p1 131 (by decide), e, show 95 + (5 + i) = 100 + i by omega]
              exact n2 _ (by omega) (by omega)
            · exact p2 j p (by omega)
          · rw [jw_up_eq, jw_u1_n _ (by omega)]
            exact p3 j p q
        · intro k N4 hp4
          obtain ⟨-, q1, q2, q3⟩ := hp4
          have q131 : jp_e D (N4 131) := fun j p q => by rw [q1 131 (by decide)]; exact n2 j p q
          have q133 : jp_e (jp_R0 D) (N4 133) := by
            intro j p q
            by_cases z : j < 9
            · rw [jp_R0_a D ⟨p, z⟩]; exact q2 j p (by omega)
            · rw [jp_R0_z D (by omega)]; exact q3 j (by omega) q
          obtain ⟨O, r1, r2, r3⟩ := gX12_layWays (M := N4) (jp_T_e q131 hT) (by rw [q131 89 (by decide) (by decide)]; exact h89)
          show ∃ O : jw_M, fX12_pavement_269 (k + 1) 4 N4 = some (D 0, O) ∧ _
          rw [fX12_pavement_269, if_neg (by decide), r1, jp_bs, if_pos (by decide), r3 131 (by decide) (by decide), q131 0 (by decide) (by decide)]
          refine ⟨O, rfl, fun k u1 u2 u3 u4 u5 u6 => by rw [r3 k u5 u6, q1 k u4, n1 k u2, a1 k u1 u3], fun j u v => by rw [r3 127 (by decide) (by decide), q1 127 (by decide), n1 127 (by decide)]; exact a2 j u v, by rw [r3 127 (by decide) (by decide), q1 127 (by decide), n1 127 (by decide)]; exact a3, by rw [r3 131 (by decide) (by decide)]; exact q131, by rw [r3 133 (by decide) (by decide)]; exact q133, by rw [r3 131 (by decide) (by decide)]; exact r2⟩
