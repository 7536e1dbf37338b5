/-! the call pavement -/
theorem jp_ft_t {B N : jw_M} {f p : Int} (h : jp_ft B N f p) : jp_tail N = some (jw_v (-9000000000000000100 - p), jw_up N 127 11 f) := by
  obtain ⟨h1, h2, h3, h4⟩ := h
  unfold jp_tail
  have e : jw_up N 127 11 f 127 18 = p := by rw [jw_up_eq, jw_u1_n _ (by decide)]; exact h3
  rw [h2, if_pos h4, jp_bs, e]
theorem gX4_readInto {M : jw_M} {t : Int → Int} {L : Int} (ht : jp_tp M t L) : ∃ N : jw_M, (∀ k : Nat, k ≠ 5 → k ≠ 7 → k ≠ 8 → (k < 36 ∨ 61 < k) → N k = M k) ∧ (((jp_prs t L 44 (-1) 0 jp_D0).1 ≠ 0 ∧ fX4_readInto 36 M = some ((jp_prs t L 44 (-1) 0 jp_D0).1, N) ∧ N 5 2 = (jp_prs t L 44 (-1) 0 jp_D0).2.1) ∨ ((jp_prs t L 44 (-1) 0 jp_D0).1 = 0 ∧ fX4_readInto 36 M = some (0, N) ∧ N 36 0 = 1 ∧ jp_Dk (jp_prs t L 44 (-1) 0 jp_D0).2.2 ∧ 1 ≤ (jp_prs t L 44 (-1) 0 jp_D0).2.2 0 ∧ 1 ≤ (jp_prs t L 44 (-1) 0 jp_D0).2.2 2 ∧ N 51 1 = 0 ∧ jp_S 36 N (jp_prs t L 44 (-1) 0 jp_D0).2.2 (jp_R0 (jp_prs t L 44 (-1) 0 jp_D0).2.2))) := by
  obtain ⟨N1, a0, a1, a2, a3, a4, a5, a6, a7, a8, a9, a10, a11⟩ := gX7_clear M
  unfold fX4_readInto
  rw [if_pos (by decide), a0, jp_bs, gJ7_fill 8 (by decide), jp_bs, jp_bs]
  have l8 : jw_len 8 = 7 := rfl
  rw [l8]
  generalize hN3 : jw_up (jw_pt N1 8 (jw_ff (N1 8) 0 ((7 : Nat) : Int) 0)) 5 3 0 = N3
  have b1 : ∀ k : Nat, k ≠ 5 → k ≠ 8 → N3 k = N1 k := fun k p q => by rw [← hN3, jw_up_ne _ p, jw_pt_ne _ q]
  have b8 : ∀ w : Int, 0 ≤ w → w < 7 → N3 8 w = 0 := by
    intro w p q
    rw [← hN3, jw_up_ne _ (by decide), jw_pt_eq, jw_ff_a, if_pos (by omega)]
  have b51 : N3 5 1 = M 5 1 := by rw [← hN3, jw_up_eq, jw_u1_n _ (by decide), jw_pt_ne _ (by decide), a11 5 (by omega)]
  have b53 : N3 5 3 = 0 := by rw [← hN3, jw_up_eq, jw_u1_s]
  have htp3 : jp_tp N3 t L := ⟨ht.1, by rw [b51]; exact ht.2.1, by rw [b1 6 (by decide) (by decide), a11 6 (by omega)]; exact ht.2.2⟩
  have hL := ht.1
  obtain ⟨N4, c1, c2, c3⟩ := gX4_nextToken htp3 0 (by omega) b53
  rw [c1, jp_bs, jp_bs, jp_bs]
  have d1 : ∀ k : Nat, k ≠ 5 → k ≠ 8 → N4 k = N1 k := fun k p q => by rw [c2.1 k p, b1 k p q]
  have z : ∀ j : Int, j < 88 ∨ 89 < j → jp_D0 j = 0 := fun j h => jp_D0_z h
  have hcR : jp_cR N4 jp_D0 := by
    unfold jp_cR
    rw [c2.1 8 (by decide), d1 37 (by decide) (by decide), d1 39 (by decide) (by decide), d1 44 (by decide) (by decide), z 0 (by omega), z 2 (by omega), z 3 (by omega), z 4 (by omega), z 5 (by omega), z 87 (by omega)]
    refine ⟨fun w p q => by rw [z _ (by omega)]; exact b8 w p q, a2, fun c p q => by omega, fun a b p q r s => by rw [z _ (by omega)]; exact a3 _ (by omega) (by omega), fun c p q => by omega, a4, fun c p q => by omega, fun c p q => by omega, fun c p q => by omega⟩
  obtain ⟨N5, e1, e2⟩ := gX4_read_25 (t := t) (L := L) 44 (-1) 0 jp_D0 0 jw_fu N4 (by rw [jp_D0_m]; decide) (by decide) (by decide) (by unfold jw_fu; decide) (jp_r5_t htp3 c2) (by omega) c3 hcR jp_D0_k jp_D0_l
  generalize jp_prs t L 44 (-1) 0 jp_D0 = P at *
  have g1 : ∀ k : Nat, k ≠ 5 → k ≠ 7 → k ≠ 8 → ¬ (37 ≤ k ∧ k ≤ 50) → N5 k = N1 k := fun k p q r s => by rw [e1.1 k p q r s, d1 k p r]
  rcases e2 with ⟨y1, y2, y3⟩ | ⟨y1, y2, y3, y4, y5, y6⟩
  · exact ⟨N5, fun k p q r s => by rw [g1 k p q r (by omega), a11 k s], Or.inl ⟨y1, y2, y3⟩⟩
  · obtain ⟨N6, m1, m2, m3⟩ := gX9_measure y3 y4 (jp_Dk_T y4) y5
    rw [y2, m1, jp_bs]
    have u1 : ∀ k : Nat, k ≠ 36 → k ≠ 40 → k ≠ 41 → jw_up N6 36 0 1 k = N5 k := fun k p q r => by rw [jw_up_ne _ p, m2 k q r]
    have u2 : ∀ k : Nat, 51 ≤ k → jw_up N6 36 0 1 k = N1 k := fun k p => by rw [u1 k (by omega) (by omega) (by omega), g1 k (by omega) (by omega) (by omega) (by omega)]
    refine ⟨jw_up N6 36 0 1, fun k p q r s => by rw [u1 k (by omega) (by omega) (by omega), g1 k p q r (by omega), a11 k s], Or.inr ⟨y1, rfl, by rw [jw_up_eq, jw_u1_s], y4, y5, y6, by rw [u2 51 (by omega)]; exact a5.2, ?_⟩⟩
    refine jp_R0_S y4 ?_ (fun a b p q r s => by rw [jw_up_ne _ (by decide), jw_up_ne _ (by decide)]; exact m3 a b p q r s) (by rw [u2 51 (by omega)]; exact a5) (by rw [u2 56 (by omega)]; exact a6) (by rw [u2 57 (by omega)]; exact a7) (by rw [u2 58 (by omega)]; exact a8) (by rw [u2 59 (by omega)]; exact a9) (by rw [u2 61 (by omega)]; exact a10)
    unfold jp_cR at y3 ⊢
    rw [u1 8 (by decide) (by decide) (by decide), u1 37 (by decide) (by decide) (by decide), u1 38 (by decide) (by decide) (by decide), u1 39 (by decide) (by decide) (by decide), u1 42 (by decide) (by decide) (by decide), u1 43 (by decide) (by decide) (by decide), u1 44 (by decide) (by decide) (by decide), u1 45 (by decide) (by decide) (by decide), u1 46 (by decide) (by decide) (by decide), u1 47 (by decide) (by decide) (by decide), u1 48 (by decide) (by decide) (by decide), u1 49 (by decide) (by decide) (by decide), u1 50 (by decide) (by decide) (by decide)]
    exact y3
theorem jp_pavement {M : jw_M} (h : jp_inv M) : jp_ok (fX11_pavement M) fX12_pavement := by
  obtain ⟨hr, hta, ho, ha, hc, hi0, hi1⟩ := h
  obtain ⟨t1, t2, t3, t4⟩ := id hta
  have htp : jp_tp M (M 134) (M 127 10) := ⟨⟨t2, t3⟩, t1, t4⟩
  have hb : ∀ i : Int, 0 ≤ i → i < M 127 10 → 0 ≤ M 134 i ∧ M 134 i ≤ 255 := fun i p q => by have := (t4 i p q).1; omega
  obtain ⟨N, n1, n2⟩ := gX4_readInto htp
  unfold fX11_pavement fX4_place fX4_empty
  rcases n2 with ⟨y1, y2, y3⟩ | ⟨y1, y2, y3, y4, y5, y6, y7, y8⟩
  · rw [y2, jp_b2s, jp_bs, jp_bs, jp_bs, jp_bs, jp_bs, if_neg y1, jp_bs, y3]
    generalize hC : jw_up (jw_up N 5 1 0) 0 9 (jp_prs (M 134) (M 127 10) 44 (-1) 0 jp_D0).1 = C
    have c1 : ∀ k : Nat, k ≠ 0 → k ≠ 5 → k ≠ 7 → k ≠ 8 → (k < 36 ∨ 61 < k) → C k = M k := fun k p q r s u => by rw [← hC, jw_up_ne _ p, jw_up_ne _ q, n1 k q r s u]
    have c2 : C 5 1 = 0 := by rw [← hC, jw_up_ne _ (by decide), jw_up_eq, jw_u1_s]
    have c3 : C 0 9 = (jp_prs (M 134) (M 127 10) 44 (-1) 0 jp_D0).1 := by rw [← hC, jw_up_eq, jw_u1_s]
    have c4 : C 0 10 = M 0 10 := by rw [← hC, jw_up_eq, jw_u1_n _ (by decide), jw_up_ne _ (by decide), n1 0 (by decide) (by decide) (by decide) (by decide)]
    have c127 := c1 127 (by decide) (by decide) (by decide) (by decide) (by decide)
    obtain ⟨B, b1, b2, b3, O, o1, o2⟩ := gX12_begin (M := C) (t := M 134) (L := M 127 10) ⟨t2, t3⟩ (by rw [c127]) (c1 134 (by decide) (by decide) (by decide) (by decide) (by decide)) hb
    generalize jp_prs (M 134) (M 127 10) 44 (-1) 0 jp_D0 = P at *
    rcases o2 with ⟨z1, z2⟩ | ⟨z1, z2⟩
    · rw [jp_ft_t z2] at o1
      refine ⟨_, C, _, rfl, o1, ?_⟩
      have hm := z2.1.1
      have f1 : ∀ k : Nat, k ≠ 127 → k ≠ 132 → jw_up O 127 11 P.1 k = C k := fun k p q => by rw [jw_up_ne _ p, hm.1 k p q, b1 k p]
      have f2 : ∀ k : Nat, k ≠ 0 → k ≠ 5 → k ≠ 7 → k ≠ 8 → (k < 36 ∨ 61 < k) → k ≠ 127 → k ≠ 132 → jw_up O 127 11 P.1 k = M k := fun k p q r s u v w => by rw [f1 k v w, c1 k p q r s u]
      have f3 : ∀ j : Int, j ≠ 0 → j ≠ 10 → j ≠ 11 → j ≠ 12 → (j < 13 ∨ 18 < j) → jw_up O 127 11 P.1 127 j = M 127 j := fun j p q r s u => by rw [jw_up_eq, jw_u1_n _ r, hm.2 j u, b2 j p q s (by omega) (by omega), c127]
      have g : ∀ k : Nat, k ≠ 0 → k ≠ 5 → k ≠ 7 → k ≠ 8 → (k < 36 ∨ 61 < k) → k ≠ 127 → k ≠ 132 → jw_up O 127 11 P.1 k = M k := f2
      generalize hZ : jw_up O 127 11 P.1 = Z at *
      have z10 : Z 127 10 = 0 := by rw [← hZ, jw_up_eq, jw_u1_n _ (by decide), hm.2 10 (by omega)]; exact b3
      have z11 : Z 127 11 = P.1 := by rw [← hZ, jw_up_eq, jw_u1_s]
      refine ⟨jp_rows_fr hr (g 2 (by decide) (by decide) (by decide) (by decide) (by decide) (by decide) (by decide)) (g 3 (by decide) (by decide) (by decide) (by decide) (by decide) (by decide) (by decide)) (g 4 (by decide) (by decide) (by decide) (by decide) (by decide) (by decide) (by decide)) (g 128 (by decide) (by decide) (by decide) (by decide) (by decide) (by decide) (by decide)) (g 129 (by decide) (by decide) (by decide) (by decide) (by decide) (by decide) (by decide)) (g 130 (by decide) (by decide) (by decide) (by decide) (by decide) (by decide) (by decide)), ?_, ?_, ?_, ?_, ?_, ?_⟩
      · refine ⟨?_, by rw [z10]; decide, by rw [z10]; decide, fun i p q => ?_⟩
        · rw [f1 5 (by decide) (by decide), c2, z10]
        · rw [z10] at q; omega
      · refine ⟨?_, ?_⟩
        · rw [f1 0 (by decide) (by decide), c3, z11]
        · rw [f1 0 (by decide) (by decide), c4, f3 1 (by decide) (by decide) (by decide) (by decide) (by decide)]; exact ho.2
      · exact jp_ask_fr ha (by rw [g 125 (by decide) (by decide) (by decide) (by decide) (by decide) (by decide) (by decide)]) (g 126 (by decide) (by decide) (by decide) (by decide) (by decide) (by decide) (by decide)) (f3 34 (by decide) (by decide) (by decide) (by decide) (by decide)) (g 147 (by decide) (by decide) (by decide) (by decide) (by decide) (by decide) (by decide))
      · exact jp_cur_fr hc (fun k p q => g k (by omega) (by omega) (by omega) (by omega) (by omega) (by omega) (by omega)) (f3 7 (by decide) (by decide) (by decide) (by decide) (by decide)) (g 131 (by decide) (by decide) (by decide) (by decide) (by decide) (by decide) (by decide)) (g 133 (by decide) (by decide) (by decide) (by decide) (by decide) (by decide) (by decide)) (g 135 (by decide) (by decide) (by decide) (by decide) (by decide) (by decide) (by decide)) (g 136 (by decide) (by decide) (by decide) (by decide) (by decide) (by decide) (by decide))
      · exact jp_img_fr hi0 (fun k p q => g k (by omega) (by omega) (by omega) (by omega) (by omega) (by omega) (by omega)) (g 118 (by decide) (by decide) (by decide) (by decide) (by decide) (by decide) (by decide)) (g 144 (by decide) (by decide) (by decide) (by decide) (by decide) (by decide) (by decide)) (g 145 (by decide) (by decide) (by decide) (by decide) (by decide) (by decide) (by decide)) (g 146 (by decide) (by decide) (by decide) (by decide) (by decide) (by decide) (by decide)) (fun e => by rw [f3 7 (by decide) (by decide) (by decide) (by decide) (by decide)]; exact e)
      · exact jp_img_fr hi1 (fun k p q => g k (by omega) (by omega) (by omega) (by omega) (by omega) (by omega) (by omega)) (g 118 (by decide) (by decide) (by decide) (by decide) (by decide) (by decide) (by decide)) (g 144 (by decide) (by decide) (by decide) (by decide) (by decide) (by decide) (by decide)) (g 145 (by decide) (by decide) (by decide) (by decide) (by decide) (by decide) (by decide)) (g 146 (by decide) (by decide) (by decide) (by decide) (by decide) (by decide) (by decide)) (fun e => by rw [f3 7 (by decide) (by decide) (by decide) (by decide) (by decide)]; exact e)
    · exact absurd z1 y1
  · rw [y2, jp_b2s, jp_bs, jp_bs, jp_bs, jp_bs, jp_bs, if_pos rfl]
    generalize hE : jw_up N 5 1 0 = E
    have e1 : ∀ k : Nat, k ≠ 5 → E k = N k := fun k p => by rw [← hE, jw_up_ne _ p]
    have e51 : E 5 1 = 0 := by rw [← hE, jw_up_eq, jw_u1_s]
    obtain ⟨C, c0, c1⟩ := gX7_takeFrom 9 36 (by decide) (by decide) (by decide) E (by rw [e1 36 (by decide)]; exact Or.inr y3) (by rw [e1 (36 + 15) (by decide)]; exact Or.inl y7)
    have hSE : jp_S 36 E _ _ := jp_S_fr y8 (fun k p q => e1 k (by omega))
    have hSC := jp_S_cp (jp_Dk_T y4) hSE c1
    have cfr : ∀ k : Nat, (k < 9 ∨ 34 < k) → C k = E k := c1.2.2.2.2.2.2.2.2.2.2.2.2.2.2.2.2.2
    have c90 : C 9 0 = 1 := by rw [c1.1, e1 36 (by decide)]; exact y3
    have c100 : C (9 + 1) 0 = (jp_prs (M 134) (M 127 10) 44 (-1) 0 jp_D0).2.2 0 := hSC.1.1
    rw [c0, jp_bs, c100]
    have k1 : ∀ k : Nat, k ≠ 5 → k ≠ 7 → k ≠ 8 → (k < 9 ∨ 34 < k) → (k < 36 ∨ 61 < k) → C k = M k := fun k p q r s u => by rw [cfr k s, e1 k p, n1 k p q r u]
    have c127 := k1 127 (by decide) (by decide) (by decide) (by decide) (by decide)
    obtain ⟨B, b1, b2, b3, O, o1, o2⟩ := gX12_begin (M := C) (t := M 134) (L := M 127 10) ⟨t2, t3⟩ (by rw [c127]) (k1 134 (by decide) (by decide) (by decide) (by decide) (by decide)) hb
    generalize jp_prs (M 134) (M 127 10) 44 (-1) 0 jp_D0 = P at *
    rcases o2 with ⟨z1, z2⟩ | ⟨z1, z2, z3, z4⟩
    · exact absurd y1 z1
    · obtain ⟨Z, w1, w2, w3, w4, w5, w6, w7⟩ := jp_tail_o z2 z3 z4 (jp_Dk_T y4) y5
      rw [w1] at o1
      refine ⟨_, C, Z, rfl, o1, ?_⟩
      have f1 : ∀ k : Nat, k ≠ 127 → k ≠ 131 → k ≠ 132 → k ≠ 133 → k ≠ 135 → k ≠ 136 → Z k = C k := fun k p q r s u v => by rw [w2 k p q r s u v, b1 k p]
      have g : ∀ k : Nat, (¬ (5 ≤ k ∧ k ≤ 61) ∨ k = 6) → ¬ (131 ≤ k ∧ k ≤ 136) → k ≠ 127 → Z k = M k := fun k p q r => by rw [f1 k r (by omega) (by omega) (by omega) (by omega) (by omega), k1 k (by omega) (by omega) (by omega) (by omega) (by omega)]
      have f3 : ∀ j : Int, j ≠ 0 → j ≠ 7 → j ≠ 10 → j ≠ 12 → (j < 13 ∨ 18 < j) → Z 127 j = M 127 j := fun j p q r s u => by rw [w3 j q u, b2 j p r s (by omega) (by omega), c127]
      have z10 : Z 127 10 = 0 := by rw [w3 10 (by decide) (by decide)]; exact b3
      refine ⟨jp_rows_fr hr (g 2 (by decide) (by decide) (by decide)) (g 3 (by decide) (by decide) (by decide)) (g 4 (by decide) (by decide) (by decide)) (g 128 (by decide) (by decide) (by decide)) (g 129 (by decide) (by decide) (by decide)) (g 130 (by decide) (by decide) (by decide)), ?_, ?_, ?_, ?_, ?_, ?_⟩
      · refine ⟨?_, by rw [z10]; decide, by rw [z10]; decide, fun i p q => ?_⟩
        · rw [f1 5 (by decide) (by decide) (by decide) (by decide) (by decide) (by decide), cfr 5 (by decide), e51, z10]
        · rw [z10] at q; omega
      · refine ⟨?_, ?_⟩
        · rw [g 0 (by decide) (by decide) (by decide), f3 11 (by decide) (by decide) (by decide) (by decide) (by decide)]; exact ho.1
        · rw [g 0 (by decide) (by decide) (by decide), f3 1 (by decide) (by decide) (by decide) (by decide) (by decide)]; exact ho.2
      · exact jp_ask_fr ha (by rw [g 125 (by decide) (by decide) (by decide)]) (g 126 (by decide) (by decide) (by decide)) (f3 34 (by decide) (by decide) (by decide) (by decide) (by decide)) (g 147 (by decide) (by decide) (by decide))
      · have hT := jp_Dk_T y4
        have hN := jp_R0_N y4
        refine ⟨⟨?_, Or.inr ⟨w4, ?_, ?_⟩⟩, jp_T_e w5 hT, jp_N_e hT w5 w6 hN, jp_S_e hT hN.2.2.1.1 w5 w6 (jp_S_fr hSC (fun k p q => f1 k (by omega) (by omega) (by omega) (by omega) (by omega) (by omega))), fun a b p q r s => ?_⟩
        · rw [f1 9 (by decide) (by decide) (by decide) (by decide) (by decide) (by decide), c90, w4]
        · rw [w5 0 (by decide) (by decide)]; exact y5
        · rw [w5 2 (by decide) (by decide)]; exact y6
        · have h7 := (jp_T_e w5 hT).1.1
          exact w7 a b p (by omega) r (by omega)
      · exact jp_img_fr hi0 (fun k p q => g k (by omega) (by omega) (by omega)) (g 118 (by decide) (by decide) (by decide)) (g 144 (by decide) (by decide) (by decide)) (g 145 (by decide) (by decide) (by decide)) (g 146 (by decide) (by decide) (by decide)) (fun _ => w4)
      · exact jp_img_fr hi1 (fun k p q => g k (by omega) (by omega) (by omega)) (g 118 (by decide) (by decide) (by decide)) (g 144 (by decide) (by decide) (by decide)) (g 145 (by decide) (by decide) (by decide)) (g 146 (by decide) (by decide) (by decide)) (fun _ => w4)
