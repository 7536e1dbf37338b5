/-! every script: the class and the model answer alike -/
theorem jw_xq_i (G : jw_G) (i : Int) : -2147483648 ≤ jw_xq G i ∧ jw_xq G i < 2147483648 := by have h : jw_r (jw_xq G i) := jw_rI _; unfold jw_r at h; omega
/-- one call of the script is kept -/
def jp_stp (G : jw_G) (x : Int) (r18 : Int → jw_M → Option (Int × jw_M)) (r : Option (Int × jw_M)) : Prop := ∃ M2 : jw_M, jp_inv M2 ∧ r = r18 (x + 6) M2
theorem jp_s_row {G : jw_G} {x3 : Int} {M : jw_M} (h : jp_inv M) (h0 : 0 ≤ x3 ∧ x3 + 5 < jw_Ln G) (hL : jw_Ln G ≤ 384) (r18 : Int → jw_M → Option (Int × jw_M)) : jp_stp G x3 r18 (fL_law_208 G r18 x3 M) := by
  obtain ⟨v, M1, M2, e1, e2, e3⟩ := (jp_row h _ _ _ : jp_ok (fX11_row (jw_xq G (x3 + 1)) (jw_xq G (x3 + 2)) (jw_xq G (x3 + 3)) M) (fX12_row (jw_xq G (x3 + 1)) (jw_xq G (x3 + 2)) (jw_xq G (x3 + 3))))
  refine ⟨M2, e3, ?_⟩
  have c1 : jw_w (x3 + 1) = x3 + 1 := jw_ws (by omega)
  have c2 : jw_w (x3 + 2) = x3 + 2 := jw_ws (by omega)
  have c3 : jw_w (x3 + 3) = x3 + 3 := jw_ws (by omega)
  have c4 : jw_w (x3 + 4) = x3 + 4 := jw_ws (by omega)
  have c5 : jw_w (x3 + 5) = x3 + 5 := jw_ws (by omega)
  have c6 : jw_w (x3 + 6) = x3 + 6 := jw_ws (by omega)
  have b1 : 0 ≤ x3 + 1 ∧ x3 + 1 < jw_Ln G := by omega
  have b2 : 0 ≤ x3 + 2 ∧ x3 + 2 < jw_Ln G := by omega
  have b3 : 0 ≤ x3 + 3 ∧ x3 + 3 < jw_Ln G := by omega
  have b4 : 0 ≤ x3 + 4 ∧ x3 + 4 < jw_Ln G := by omega
  have b5 : 0 ≤ x3 + 5 ∧ x3 + 5 < jw_Ln G := by omega
  unfold fL_law_208 fL_law_1475
  simp only [c1, c2, c3, c4, c5, c6, if_pos b1, if_pos b2, if_pos b3, if_pos b4, if_pos b5, e1, e2, jp_bs, jp_b2s, jw_cmp_eq, ↓reduceIte]
theorem jp_s_set {G : jw_G} {x3 : Int} {M : jw_M} (h : jp_inv M) (h0 : 0 ≤ x3 ∧ x3 + 5 < jw_Ln G) (hL : jw_Ln G ≤ 384) (r18 : Int → jw_M → Option (Int × jw_M)) : jp_stp G x3 r18 (fL_law_252 G r18 x3 M) := by
  obtain ⟨v, M1, M2, e1, e2, e3⟩ := (jp_set h _ _ _ (jw_xq_i G _) : jp_ok (fX11_set (jw_xq G (x3 + 1)) (jw_xq G (x3 + 2)) (jw_xq G (x3 + 3)) M) (fX12_set (jw_xq G (x3 + 1)) (jw_xq G (x3 + 2)) (jw_xq G (x3 + 3))))
  refine ⟨M2, e3, ?_⟩
  have c1 : jw_w (x3 + 1) = x3 + 1 := jw_ws (by omega)
  have c2 : jw_w (x3 + 2) = x3 + 2 := jw_ws (by omega)
  have c3 : jw_w (x3 + 3) = x3 + 3 := jw_ws (by omega)
  have c4 : jw_w (x3 + 4) = x3 + 4 := jw_ws (by omega)
  have c5 : jw_w (x3 + 5) = x3 + 5 := jw_ws (by omega)
  have c6 : jw_w (x3 + 6) = x3 + 6 := jw_ws (by omega)
  have b1 : 0 ≤ x3 + 1 ∧ x3 + 1 < jw_Ln G := by omega
  have b2 : 0 ≤ x3 + 2 ∧ x3 + 2 < jw_Ln G := by omega
  have b3 : 0 ≤ x3 + 3 ∧ x3 + 3 < jw_Ln G := by omega
  have b4 : 0 ≤ x3 + 4 ∧ x3 + 4 < jw_Ln G := by omega
  have b5 : 0 ≤ x3 + 5 ∧ x3 + 5 < jw_Ln G := by omega
  unfold fL_law_252 fL_law_1475
  simp only [c1, c2, c3, c4, c5, c6, if_pos b1, if_pos b2, if_pos b3, if_pos b4, if_pos b5, e1, e2, jp_bs, jp_b2s, jw_cmp_eq, ↓reduceIte]
theorem jp_s_copy {G : jw_G} {x3 : Int} {M : jw_M} (h : jp_inv M) (h0 : 0 ≤ x3 ∧ x3 + 5 < jw_Ln G) (hL : jw_Ln G ≤ 384) (r18 : Int → jw_M → Option (Int × jw_M)) : jp_stp G x3 r18 (fL_law_296 G r18 x3 M) := by
  obtain ⟨v, M1, M2, e1, e2, e3⟩ := (jp_copy h _ _ _ _ _ (jw_xq_i G _) (jw_xq_i G _) (jw_xq_i G _) : jp_ok (fX11_copy (jw_xq G (x3 + 1)) (jw_xq G (x3 + 2)) (jw_xq G (x3 + 3)) (jw_xq G (x3 + 4)) (jw_xq G (x3 + 5)) M) (fX12_copy (jw_xq G (x3 + 1)) (jw_xq G (x3 + 2)) (jw_xq G (x3 + 3)) (jw_xq G (x3 + 4)) (jw_xq G (x3 + 5))))
  refine ⟨M2, e3, ?_⟩
  have c1 : jw_w (x3 + 1) = x3 + 1 := jw_ws (by omega)
  have c2 : jw_w (x3 + 2) = x3 + 2 := jw_ws (by omega)
  have c3 : jw_w (x3 + 3) = x3 + 3 := jw_ws (by omega)
  have c4 : jw_w (x3 + 4) = x3 + 4 := jw_ws (by omega)
  have c5 : jw_w (x3 + 5) = x3 + 5 := jw_ws (by omega)
  have c6 : jw_w (x3 + 6) = x3 + 6 := jw_ws (by omega)
  have b1 : 0 ≤ x3 + 1 ∧ x3 + 1 < jw_Ln G := by omega
  have b2 : 0 ≤ x3 + 2 ∧ x3 + 2 < jw_Ln G := by omega
  have b3 : 0 ≤ x3 + 3 ∧ x3 + 3 < jw_Ln G := by omega
  have b4 : 0 ≤ x3 + 4 ∧ x3 + 4 < jw_Ln G := by omega
  have b5 : 0 ≤ x3 + 5 ∧ x3 + 5 < jw_Ln G := by omega
  unfold fL_law_296 fL_law_1475
  simp only [c1, c2, c3, c4, c5, c6, if_pos b1, if_pos b2, if_pos b3, if_pos b4, if_pos b5, e1, e2, jp_bs, jp_b2s, jw_cmp_eq, ↓reduceIte]
theorem jp_s_drop {G : jw_G} {x3 : Int} {M : jw_M} (h : jp_inv M) (h0 : 0 ≤ x3 ∧ x3 + 5 < jw_Ln G) (hL : jw_Ln G ≤ 384) (r18 : Int → jw_M → Option (Int × jw_M)) : jp_stp G x3 r18 (fL_law_360 G r18 x3 M) := by
  obtain ⟨v, M1, M2, e1, e2, e3⟩ := (jp_drop h _ : jp_ok (fX11_drop (jw_xq G (x3 + 1)) M) (fX12_drop (jw_xq G (x3 + 1))))
  refine ⟨M2, e3, ?_⟩
  have c1 : jw_w (x3 + 1) = x3 + 1 := jw_ws (by omega)
  have c2 : jw_w (x3 + 2) = x3 + 2 := jw_ws (by omega)
  have c3 : jw_w (x3 + 3) = x3 + 3 := jw_ws (by omega)
  have c4 : jw_w (x3 + 4) = x3 + 4 := jw_ws (by omega)
  have c5 : jw_w (x3 + 5) = x3 + 5 := jw_ws (by omega)
  have c6 : jw_w (x3 + 6) = x3 + 6 := jw_ws (by omega)
  have b1 : 0 ≤ x3 + 1 ∧ x3 + 1 < jw_Ln G := by omega
  have b2 : 0 ≤ x3 + 2 ∧ x3 + 2 < jw_Ln G := by omega
  have b3 : 0 ≤ x3 + 3 ∧ x3 + 3 < jw_Ln G := by omega
  have b4 : 0 ≤ x3 + 4 ∧ x3 + 4 < jw_Ln G := by omega
  have b5 : 0 ≤ x3 + 5 ∧ x3 + 5 < jw_Ln G := by omega
  unfold fL_law_360 fL_law_1475
  simp only [c1, c2, c3, c4, c5, c6, if_pos b1, if_pos b2, if_pos b3, if_pos b4, if_pos b5, e1, e2, jp_bs, jp_b2s, jw_cmp_eq, ↓reduceIte]
theorem jp_s_feed {G : jw_G} {x3 : Int} {M : jw_M} (h : jp_inv M) (h0 : 0 ≤ x3 ∧ x3 + 5 < jw_Ln G) (hL : jw_Ln G ≤ 384) (r18 : Int → jw_M → Option (Int × jw_M)) : jp_stp G x3 r18 (fL_law_384 G r18 x3 M) := by
  obtain ⟨v, M1, M2, e1, e2, e3⟩ := (jp_feed h _ _ (jw_xq_i G _) : jp_ok (fX11_feed (jw_lor (jw_lshl (jw_xq G (x3 + 1)) 32) (jw_land (jw_xq G (x3 + 2)) 4294967295)) (jw_xq G (x3 + 3)) M) (fX12_feed (jw_lor (jw_lshl (jw_xq G (x3 + 1)) 32) (jw_land (jw_xq G (x3 + 2)) 4294967295)) (jw_xq G (x3 + 3))))
  refine ⟨M2, e3, ?_⟩
  have c1 : jw_w (x3 + 1) = x3 + 1 := jw_ws (by omega)
  have c2 : jw_w (x3 + 2) = x3 + 2 := jw_ws (by omega)
  have c3 : jw_w (x3 + 3) = x3 + 3 := jw_ws (by omega)
  have c4 : jw_w (x3 + 4) = x3 + 4 := jw_ws (by omega)
  have c5 : jw_w (x3 + 5) = x3 + 5 := jw_ws (by omega)
  have c6 : jw_w (x3 + 6) = x3 + 6 := jw_ws (by omega)
  have b1 : 0 ≤ x3 + 1 ∧ x3 + 1 < jw_Ln G := by omega
  have b2 : 0 ≤ x3 + 2 ∧ x3 + 2 < jw_Ln G := by omega
  have b3 : 0 ≤ x3 + 3 ∧ x3 + 3 < jw_Ln G := by omega
  have b4 : 0 ≤ x3 + 4 ∧ x3 + 4 < jw_Ln G := by omega
  have b5 : 0 ≤ x3 + 5 ∧ x3 + 5 < jw_Ln G := by omega
  unfold fL_law_384 fL_law_1475
  simp only [c1, c2, c3, c4, c5, c6, if_pos b1, if_pos b2, if_pos b3, if_pos b4, if_pos b5, e1, e2, jp_bs, jp_b2s, jw_cmp_eq, ↓reduceIte]
theorem jp_s_pavement {G : jw_G} {x3 : Int} {M : jw_M} (h : jp_inv M) (h0 : 0 ≤ x3 ∧ x3 + 5 < jw_Ln G) (hL : jw_Ln G ≤ 384) (r18 : Int → jw_M → Option (Int × jw_M)) : jp_stp G x3 r18 (fL_law_448 G r18 x3 M) := by
  obtain ⟨v, M1, M2, e1, e2, e3⟩ := (jp_pavement h  : jp_ok (fX11_pavement M) (fX12_pavement))
  refine ⟨M2, e3, ?_⟩
  have c1 : jw_w (x3 + 1) = x3 + 1 := jw_ws (by omega)
  have c2 : jw_w (x3 + 2) = x3 + 2 := jw_ws (by omega)
  have c3 : jw_w (x3 + 3) = x3 + 3 := jw_ws (by omega)
  have c4 : jw_w (x3 + 4) = x3 + 4 := jw_ws (by omega)
  have c5 : jw_w (x3 + 5) = x3 + 5 := jw_ws (by omega)
  have c6 : jw_w (x3 + 6) = x3 + 6 := jw_ws (by omega)
  have b1 : 0 ≤ x3 + 1 ∧ x3 + 1 < jw_Ln G := by omega
  have b2 : 0 ≤ x3 + 2 ∧ x3 + 2 < jw_Ln G := by omega
  have b3 : 0 ≤ x3 + 3 ∧ x3 + 3 < jw_Ln G := by omega
  have b4 : 0 ≤ x3 + 4 ∧ x3 + 4 < jw_Ln G := by omega
  have b5 : 0 ≤ x3 + 5 ∧ x3 + 5 < jw_Ln G := by omega
  unfold fL_law_448 fL_law_1475
  simp only [c1, c2, c3, c4, c5, c6, if_pos b1, if_pos b2, if_pos b3, if_pos b4, if_pos b5, e1, e2, jp_bs, jp_b2s, jw_cmp_eq, ↓reduceIte]
theorem jp_s_fault {G : jw_G} {x3 : Int} {M : jw_M} (h : jp_inv M) (h0 : 0 ≤ x3 ∧ x3 + 5 < jw_Ln G) (hL : jw_Ln G ≤ 384) (r18 : Int → jw_M → Option (Int × jw_M)) : jp_stp G x3 r18 (fL_law_462 G r18 x3 M) := by
  obtain ⟨v, M2, e1, e2, e3⟩ := (jp_fault h  : jp_ok1 (fX11_fault M) M (fX12_fault))
  refine ⟨M2, e3, ?_⟩
  have c1 : jw_w (x3 + 1) = x3 + 1 := jw_ws (by omega)
  have c2 : jw_w (x3 + 2) = x3 + 2 := jw_ws (by omega)
  have c3 : jw_w (x3 + 3) = x3 + 3 := jw_ws (by omega)
  have c4 : jw_w (x3 + 4) = x3 + 4 := jw_ws (by omega)
  have c5 : jw_w (x3 + 5) = x3 + 5 := jw_ws (by omega)
  have c6 : jw_w (x3 + 6) = x3 + 6 := jw_ws (by omega)
  have b1 : 0 ≤ x3 + 1 ∧ x3 + 1 < jw_Ln G := by omega
  have b2 : 0 ≤ x3 + 2 ∧ x3 + 2 < jw_Ln G := by omega
  have b3 : 0 ≤ x3 + 3 ∧ x3 + 3 < jw_Ln G := by omega
  have b4 : 0 ≤ x3 + 4 ∧ x3 + 4 < jw_Ln G := by omega
  have b5 : 0 ≤ x3 + 5 ∧ x3 + 5 < jw_Ln G := by omega
  unfold fL_law_462 fL_law_1475
  simp only [c1, c2, c3, c4, c5, c6, if_pos b1, if_pos b2, if_pos b3, if_pos b4, if_pos b5, e1, e2, jp_bs, jp_b2s, jw_cmp_eq, ↓reduceIte]
theorem jp_s_walk {G : jw_G} {x3 : Int} {M : jw_M} (h : jp_inv M) (h0 : 0 ≤ x3 ∧ x3 + 5 < jw_Ln G) (hL : jw_Ln G ≤ 384) (r18 : Int → jw_M → Option (Int × jw_M)) : jp_stp G x3 r18 (fL_law_475 G r18 x3 M) := by
  obtain ⟨v, M2, e1, e2, e3⟩ := (jp_walk h _ _ _ : jp_ok1 (fX11_walk (jw_xq G (x3 + 1)) (jw_xq G (x3 + 2)) (jw_xq G (x3 + 3)) M) M (fX12_walk (jw_xq G (x3 + 1)) (jw_xq G (x3 + 2)) (jw_xq G (x3 + 3))))
  refine ⟨M2, e3, ?_⟩
  have c1 : jw_w (x3 + 1) = x3 + 1 := jw_ws (by omega)
  have c2 : jw_w (x3 + 2) = x3 + 2 := jw_ws (by omega)
  have c3 : jw_w (x3 + 3) = x3 + 3 := jw_ws (by omega)
  have c4 : jw_w (x3 + 4) = x3 + 4 := jw_ws (by omega)
  have c5 : jw_w (x3 + 5) = x3 + 5 := jw_ws (by omega)
  have c6 : jw_w (x3 + 6) = x3 + 6 := jw_ws (by omega)
  have b1 : 0 ≤ x3 + 1 ∧ x3 + 1 < jw_Ln G := by omega
  have b2 : 0 ≤ x3 + 2 ∧ x3 + 2 < jw_Ln G := by omega
  have b3 : 0 ≤ x3 + 3 ∧ x3 + 3 < jw_Ln G := by omega
  have b4 : 0 ≤ x3 + 4 ∧ x3 + 4 < jw_Ln G := by omega
  have b5 : 0 ≤ x3 + 5 ∧ x3 + 5 < jw_Ln G := by omega
  unfold fL_law_475 fL_law_1475
  simp only [c1, c2, c3, c4, c5, c6, if_pos b1, if_pos b2, if_pos b3, if_pos b4, if_pos b5, e1, e2, jp_bs, jp_b2s, jw_cmp_eq, ↓reduceIte]
theorem jp_s_goes {G : jw_G} {x3 : Int} {M : jw_M} (h : jp_inv M) (h0 : 0 ≤ x3 ∧ x3 + 5 < jw_Ln G) (hL : jw_Ln G ≤ 384) (r18 : Int → jw_M → Option (Int × jw_M)) : jp_stp G x3 r18 (fL_law_519 G r18 x3 M) := by
  obtain ⟨v, M1, M2, e1, e2, e3⟩ := (jp_goes h _ _ : jp_ok (fX11_goes (jw_xq G (x3 + 1)) (jw_xq G (x3 + 2)) M) (fX12_goes (jw_xq G (x3 + 1)) (jw_xq G (x3 + 2))))
  refine ⟨M2, e3, ?_⟩
  have c1 : jw_w (x3 + 1) = x3 + 1 := jw_ws (by omega)
  have c2 : jw_w (x3 + 2) = x3 + 2 := jw_ws (by omega)
  have c3 : jw_w (x3 + 3) = x3 + 3 := jw_ws (by omega)
  have c4 : jw_w (x3 + 4) = x3 + 4 := jw_ws (by omega)
  have c5 : jw_w (x3 + 5) = x3 + 5 := jw_ws (by omega)
  have c6 : jw_w (x3 + 6) = x3 + 6 := jw_ws (by omega)
  have b1 : 0 ≤ x3 + 1 ∧ x3 + 1 < jw_Ln G := by omega
  have b2 : 0 ≤ x3 + 2 ∧ x3 + 2 < jw_Ln G := by omega
  have b3 : 0 ≤ x3 + 3 ∧ x3 + 3 < jw_Ln G := by omega
  have b4 : 0 ≤ x3 + 4 ∧ x3 + 4 < jw_Ln G := by omega
  have b5 : 0 ≤ x3 + 5 ∧ x3 + 5 < jw_Ln G := by omega
  unfold fL_law_519 fL_law_1475
  simp only [c1, c2, c3, c4, c5, c6, if_pos b1, if_pos b2, if_pos b3, if_pos b4, if_pos b5, e1, e2, jp_bs, jp_b2s, jw_cmp_eq, ↓reduceIte]
theorem jp_s_seller {G : jw_G} {x3 : Int} {M : jw_M} (h : jp_inv M) (h0 : 0 ≤ x3 ∧ x3 + 5 < jw_Ln G) (hL : jw_Ln G ≤ 384) (r18 : Int → jw_M → Option (Int × jw_M)) : jp_stp G x3 r18 (fL_law_553 G r18 x3 M) := by
  obtain ⟨v, M2, e1, e2, e3⟩ := (jp_seller h _ _ : jp_ok1 (fX11_seller (jw_xq G (x3 + 1)) (jw_xq G (x3 + 2)) M) M (fX12_seller (jw_xq G (x3 + 1)) (jw_xq G (x3 + 2))))
  refine ⟨M2, e3, ?_⟩
  have c1 : jw_w (x3 + 1) = x3 + 1 := jw_ws (by omega)
  have c2 : jw_w (x3 + 2) = x3 + 2 := jw_ws (by omega)
  have c3 : jw_w (x3 + 3) = x3 + 3 := jw_ws (by omega)
  have c4 : jw_w (x3 + 4) = x3 + 4 := jw_ws (by omega)
  have c5 : jw_w (x3 + 5) = x3 + 5 := jw_ws (by omega)
  have c6 : jw_w (x3 + 6) = x3 + 6 := jw_ws (by omega)
  have b1 : 0 ≤ x3 + 1 ∧ x3 + 1 < jw_Ln G := by omega
  have b2 : 0 ≤ x3 + 2 ∧ x3 + 2 < jw_Ln G := by omega
  have b3 : 0 ≤ x3 + 3 ∧ x3 + 3 < jw_Ln G := by omega
  have b4 : 0 ≤ x3 + 4 ∧ x3 + 4 < jw_Ln G := by omega
  have b5 : 0 ≤ x3 + 5 ∧ x3 + 5 < jw_Ln G := by omega
  unfold fL_law_553 fL_law_1475
  simp only [c1, c2, c3, c4, c5, c6, if_pos b1, if_pos b2, if_pos b3, if_pos b4, if_pos b5, e1, e2, jp_bs, jp_b2s, jw_cmp_eq, ↓reduceIte]
theorem jp_s_watch {G : jw_G} {x3 : Int} {M : jw_M} (h : jp_inv M) (h0 : 0 ≤ x3 ∧ x3 + 5 < jw_Ln G) (hL : jw_Ln G ≤ 384) (r18 : Int → jw_M → Option (Int × jw_M)) : jp_stp G x3 r18 (fL_law_587 G r18 x3 M) := by
  obtain ⟨v, M1, M2, e1, e2, e3⟩ := (jp_watch h _ _ : jp_ok (fX11_watch (jw_xq G (x3 + 1)) (jw_xq G (x3 + 2)) M) (fX12_watch (jw_xq G (x3 + 1)) (jw_xq G (x3 + 2))))
  refine ⟨M2, e3, ?_⟩
  have c1 : jw_w (x3 + 1) = x3 + 1 := jw_ws (by omega)
  have c2 : jw_w (x3 + 2) = x3 + 2 := jw_ws (by omega)
  have c3 : jw_w (x3 + 3) = x3 + 3 := jw_ws (by omega)
  have c4 : jw_w (x3 + 4) = x3 + 4 := jw_ws (by omega)
  have c5 : jw_w (x3 + 5) = x3 + 5 := jw_ws (by omega)
  have c6 : jw_w (x3 + 6) = x3 + 6 := jw_ws (by omega)
  have b1 : 0 ≤ x3 + 1 ∧ x3 + 1 < jw_Ln G := by omega
  have b2 : 0 ≤ x3 + 2 ∧ x3 + 2 < jw_Ln G := by omega
  have b3 : 0 ≤ x3 + 3 ∧ x3 + 3 < jw_Ln G := by omega
  have b4 : 0 ≤ x3 + 4 ∧ x3 + 4 < jw_Ln G := by omega
  have b5 : 0 ≤ x3 + 5 ∧ x3 + 5 < jw_Ln G := by omega
  unfold fL_law_587 fL_law_1475
  simp only [c1, c2, c3, c4, c5, c6, if_pos b1, if_pos b2, if_pos b3, if_pos b4, if_pos b5, e1, e2, jp_bs, jp_b2s, jw_cmp_eq, ↓reduceIte]
theorem jp_s_raid {G : jw_G} {x3 : Int} {M : jw_M} (h : jp_inv M) (h0 : 0 ≤ x3 ∧ x3 + 5 < jw_Ln G) (hL : jw_Ln G ≤ 384) (r18 : Int → jw_M → Option (Int × jw_M)) : jp_stp G x3 r18 (fL_law_621 G r18 x3 M) := by
  obtain ⟨v, M1, M2, e1, e2, e3⟩ := (jp_raid h _ _ _ (jw_xq_i G _) (jw_xq_i G _) : jp_ok (fX11_raid (jw_xq G (x3 + 1)) (jw_xq G (x3 + 2)) (jw_xq G (x3 + 3)) M) (fX12_raid (jw_xq G (x3 + 1)) (jw_xq G (x3 + 2)) (jw_xq G (x3 + 3))))
  refine ⟨M2, e3, ?_⟩
  have c1 : jw_w (x3 + 1) = x3 + 1 := jw_ws (by omega)
  have c2 : jw_w (x3 + 2) = x3 + 2 := jw_ws (by omega)
  have c3 : jw_w (x3 + 3) = x3 + 3 := jw_ws (by omega)
  have c4 : jw_w (x3 + 4) = x3 + 4 := jw_ws (by omega)
  have c5 : jw_w (x3 + 5) = x3 + 5 := jw_ws (by omega)
  have c6 : jw_w (x3 + 6) = x3 + 6 := jw_ws (by omega)
  have b1 : 0 ≤ x3 + 1 ∧ x3 + 1 < jw_Ln G := by omega
  have b2 : 0 ≤ x3 + 2 ∧ x3 + 2 < jw_Ln G := by omega
  have b3 : 0 ≤ x3 + 3 ∧ x3 + 3 < jw_Ln G := by omega
  have b4 : 0 ≤ x3 + 4 ∧ x3 + 4 < jw_Ln G := by omega
  have b5 : 0 ≤ x3 + 5 ∧ x3 + 5 < jw_Ln G := by omega
  unfold fL_law_621 fL_law_1475
  simp only [c1, c2, c3, c4, c5, c6, if_pos b1, if_pos b2, if_pos b3, if_pos b4, if_pos b5, e1, e2, jp_bs, jp_b2s, jw_cmp_eq, ↓reduceIte]
theorem jp_s_two {G : jw_G} {x3 : Int} {M : jw_M} (h : jp_inv M) (h0 : 0 ≤ x3 ∧ x3 + 5 < jw_Ln G) (hL : jw_Ln G ≤ 384) (r18 : Int → jw_M → Option (Int × jw_M)) : jp_stp G x3 r18 (fL_law_665 G r18 x3 M) := by
  obtain ⟨v, M1, M2, e1, e2, e3⟩ := (jp_two h _ _ _ _ (jw_xq_i G _) (jw_xq_i G _) (jw_xq_i G _) : jp_ok (fX11_two (jw_xq G (x3 + 1)) (jw_xq G (x3 + 2)) (jw_xq G (x3 + 3)) (jw_xq G (x3 + 4)) M) (fX12_two (jw_xq G (x3 + 1)) (jw_xq G (x3 + 2)) (jw_xq G (x3 + 3)) (jw_xq G (x3 + 4))))
  refine ⟨M2, e3, ?_⟩
  have c1 : jw_w (x3 + 1) = x3 + 1 := jw_ws (by omega)
  have c2 : jw_w (x3 + 2) = x3 + 2 := jw_ws (by omega)
  have c3 : jw_w (x3 + 3) = x3 + 3 := jw_ws (by omega)
  have c4 : jw_w (x3 + 4) = x3 + 4 := jw_ws (by omega)
  have c5 : jw_w (x3 + 5) = x3 + 5 := jw_ws (by omega)
  have c6 : jw_w (x3 + 6) = x3 + 6 := jw_ws (by omega)
  have b1 : 0 ≤ x3 + 1 ∧ x3 + 1 < jw_Ln G := by omega
  have b2 : 0 ≤ x3 + 2 ∧ x3 + 2 < jw_Ln G := by omega
  have b3 : 0 ≤ x3 + 3 ∧ x3 + 3 < jw_Ln G := by omega
  have b4 : 0 ≤ x3 + 4 ∧ x3 + 4 < jw_Ln G := by omega
  have b5 : 0 ≤ x3 + 5 ∧ x3 + 5 < jw_Ln G := by omega
  unfold fL_law_665 fL_law_1475
  simp only [c1, c2, c3, c4, c5, c6, if_pos b1, if_pos b2, if_pos b3, if_pos b4, if_pos b5, e1, e2, jp_bs, jp_b2s, jw_cmp_eq, ↓reduceIte]
theorem jp_s_after {G : jw_G} {x3 : Int} {M : jw_M} (h : jp_inv M) (h0 : 0 ≤ x3 ∧ x3 + 5 < jw_Ln G) (hL : jw_Ln G ≤ 384) (r18 : Int → jw_M → Option (Int × jw_M)) : jp_stp G x3 r18 (fL_law_719 G r18 x3 M) := by
  obtain ⟨v, M2, e1, e2, e3⟩ := (jp_after h _ _ : jp_ok1 (fX11_after (jw_xq G (x3 + 1)) (jw_xq G (x3 + 2)) M) M (fX12_after (jw_xq G (x3 + 1)) (jw_xq G (x3 + 2))))
  refine ⟨M2, e3, ?_⟩
  have c1 : jw_w (x3 + 1) = x3 + 1 := jw_ws (by omega)
  have c2 : jw_w (x3 + 2) = x3 + 2 := jw_ws (by omega)
  have c3 : jw_w (x3 + 3) = x3 + 3 := jw_ws (by omega)
  have c4 : jw_w (x3 + 4) = x3 + 4 := jw_ws (by omega)
  have c5 : jw_w (x3 + 5) = x3 + 5 := jw_ws (by omega)
  have c6 : jw_w (x3 + 6) = x3 + 6 := jw_ws (by omega)
  have b1 : 0 ≤ x3 + 1 ∧ x3 + 1 < jw_Ln G := by omega
  have b2 : 0 ≤ x3 + 2 ∧ x3 + 2 < jw_Ln G := by omega
  have b3 : 0 ≤ x3 + 3 ∧ x3 + 3 < jw_Ln G := by omega
  have b4 : 0 ≤ x3 + 4 ∧ x3 + 4 < jw_Ln G := by omega
  have b5 : 0 ≤ x3 + 5 ∧ x3 + 5 < jw_Ln G := by omega
  unfold fL_law_719 fL_law_1475
  simp only [c1, c2, c3, c4, c5, c6, if_pos b1, if_pos b2, if_pos b3, if_pos b4, if_pos b5, e1, e2, jp_bs, jp_b2s, jw_cmp_eq, ↓reduceIte]
theorem jp_s_nothing {G : jw_G} {x3 : Int} {M : jw_M} (h : jp_inv M) (h0 : 0 ≤ x3 ∧ x3 + 5 < jw_Ln G) (hL : jw_Ln G ≤ 384) (r18 : Int → jw_M → Option (Int × jw_M)) : jp_stp G x3 r18 (fL_law_753 G r18 x3 M) := by
  obtain ⟨v, M2, e1, e2, e3⟩ := (jp_nothing h _ : jp_ok1 (fX11_nothing (jw_xq G (x3 + 1)) M) M (fX12_nothing (jw_xq G (x3 + 1))))
  refine ⟨M2, e3, ?_⟩
  have c1 : jw_w (x3 + 1) = x3 + 1 := jw_ws (by omega)
  have c2 : jw_w (x3 + 2) = x3 + 2 := jw_ws (by omega)
  have c3 : jw_w (x3 + 3) = x3 + 3 := jw_ws (by omega)
  have c4 : jw_w (x3 + 4) = x3 + 4 := jw_ws (by omega)
  have c5 : jw_w (x3 + 5) = x3 + 5 := jw_ws (by omega)
  have c6 : jw_w (x3 + 6) = x3 + 6 := jw_ws (by omega)
  have b1 : 0 ≤ x3 + 1 ∧ x3 + 1 < jw_Ln G := by omega
  have b2 : 0 ≤ x3 + 2 ∧ x3 + 2 < jw_Ln G := by omega
  have b3 : 0 ≤ x3 + 3 ∧ x3 + 3 < jw_Ln G := by omega
  have b4 : 0 ≤ x3 + 4 ∧ x3 + 4 < jw_Ln G := by omega
  have b5 : 0 ≤ x3 + 5 ∧ x3 + 5 < jw_Ln G := by omega
  unfold fL_law_753 fL_law_1475
  simp only [c1, c2, c3, c4, c5, c6, if_pos b1, if_pos b2, if_pos b3, if_pos b4, if_pos b5, e1, e2, jp_bs, jp_b2s, jw_cmp_eq, ↓reduceIte]
theorem jp_s_keep {G : jw_G} {x3 : Int} {M : jw_M} (h : jp_inv M) (h0 : 0 ≤ x3 ∧ x3 + 5 < jw_Ln G) (hL : jw_Ln G ≤ 384) (r18 : Int → jw_M → Option (Int × jw_M)) : jp_stp G x3 r18 (fL_law_777 G r18 x3 M) := by
  obtain ⟨v, M1, M2, e1, e2, e3⟩ := (jp_keep h  : jp_ok (fX11_keep M) (fX12_keep))
  refine ⟨M2, e3, ?_⟩
  have c1 : jw_w (x3 + 1) = x3 + 1 := jw_ws (by omega)
  have c2 : jw_w (x3 + 2) = x3 + 2 := jw_ws (by omega)
  have c3 : jw_w (x3 + 3) = x3 + 3 := jw_ws (by omega)
  have c4 : jw_w (x3 + 4) = x3 + 4 := jw_ws (by omega)
  have c5 : jw_w (x3 + 5) = x3 + 5 := jw_ws (by omega)
  have c6 : jw_w (x3 + 6) = x3 + 6 := jw_ws (by omega)
  have b1 : 0 ≤ x3 + 1 ∧ x3 + 1 < jw_Ln G := by omega
  have b2 : 0 ≤ x3 + 2 ∧ x3 + 2 < jw_Ln G := by omega
  have b3 : 0 ≤ x3 + 3 ∧ x3 + 3 < jw_Ln G := by omega
  have b4 : 0 ≤ x3 + 4 ∧ x3 + 4 < jw_Ln G := by omega
  have b5 : 0 ≤ x3 + 5 ∧ x3 + 5 < jw_Ln G := by omega
  unfold fL_law_777 fL_law_1475
  simp only [c1, c2, c3, c4, c5, c6, if_pos b1, if_pos b2, if_pos b3, if_pos b4, if_pos b5, e1, e2, jp_bs, jp_b2s, jw_cmp_eq, ↓reduceIte]
theorem jp_s_feared {G : jw_G} {x3 : Int} {M : jw_M} (h : jp_inv M) (h0 : 0 ≤ x3 ∧ x3 + 5 < jw_Ln G) (hL : jw_Ln G ≤ 384) (r18 : Int → jw_M → Option (Int × jw_M)) : jp_stp G x3 r18 (fL_law_791 G r18 x3 M) := by
  obtain ⟨v, M2, e1, e2, e3⟩ := (jp_feared h _ _ : jp_ok1 (fX11_feared (jw_xq G (x3 + 1)) (jw_xq G (x3 + 2)) M) M (fX12_feared (jw_xq G (x3 + 1)) (jw_xq G (x3 + 2))))
  refine ⟨M2, e3, ?_⟩
  have c1 : jw_w (x3 + 1) = x3 + 1 := jw_ws (by omega)
  have c2 : jw_w (x3 + 2) = x3 + 2 := jw_ws (by omega)
  have c3 : jw_w (x3 + 3) = x3 + 3 := jw_ws (by omega)
  have c4 : jw_w (x3 + 4) = x3 + 4 := jw_ws (by omega)
  have c5 : jw_w (x3 + 5) = x3 + 5 := jw_ws (by omega)
  have c6 : jw_w (x3 + 6) = x3 + 6 := jw_ws (by omega)
  have b1 : 0 ≤ x3 + 1 ∧ x3 + 1 < jw_Ln G := by omega
  have b2 : 0 ≤ x3 + 2 ∧ x3 + 2 < jw_Ln G := by omega
  have b3 : 0 ≤ x3 + 3 ∧ x3 + 3 < jw_Ln G := by omega
  have b4 : 0 ≤ x3 + 4 ∧ x3 + 4 < jw_Ln G := by omega
  have b5 : 0 ≤ x3 + 5 ∧ x3 + 5 < jw_Ln G := by omega
  unfold fL_law_791 fL_law_1475
  simp only [c1, c2, c3, c4, c5, c6, if_pos b1, if_pos b2, if_pos b3, if_pos b4, if_pos b5, e1, e2, jp_bs, jp_b2s, jw_cmp_eq, ↓reduceIte]
theorem jp_s_score {G : jw_G} {x3 : Int} {M : jw_M} (h : jp_inv M) (h0 : 0 ≤ x3 ∧ x3 + 5 < jw_Ln G) (hL : jw_Ln G ≤ 384) (r18 : Int → jw_M → Option (Int × jw_M)) : jp_stp G x3 r18 (fL_law_825 G r18 x3 M) := by
  obtain ⟨v, M2, e1, e2, e3⟩ := (jp_score h _ _ : jp_ok1 (fX11_score (jw_xq G (x3 + 1)) (jw_xq G (x3 + 2)) M) M (fX12_score (jw_xq G (x3 + 1)) (jw_xq G (x3 + 2))))
  refine ⟨M2, e3, ?_⟩
  have c1 : jw_w (x3 + 1) = x3 + 1 := jw_ws (by omega)
  have c2 : jw_w (x3 + 2) = x3 + 2 := jw_ws (by omega)
  have c3 : jw_w (x3 + 3) = x3 + 3 := jw_ws (by omega)
  have c4 : jw_w (x3 + 4) = x3 + 4 := jw_ws (by omega)
  have c5 : jw_w (x3 + 5) = x3 + 5 := jw_ws (by omega)
  have c6 : jw_w (x3 + 6) = x3 + 6 := jw_ws (by omega)
  have b1 : 0 ≤ x3 + 1 ∧ x3 + 1 < jw_Ln G := by omega
  have b2 : 0 ≤ x3 + 2 ∧ x3 + 2 < jw_Ln G := by omega
  have b3 : 0 ≤ x3 + 3 ∧ x3 + 3 < jw_Ln G := by omega
  have b4 : 0 ≤ x3 + 4 ∧ x3 + 4 < jw_Ln G := by omega
  have b5 : 0 ≤ x3 + 5 ∧ x3 + 5 < jw_Ln G := by omega
  unfold fL_law_825 fL_law_1475
  simp only [c1, c2, c3, c4, c5, c6, if_pos b1, if_pos b2, if_pos b3, if_pos b4, if_pos b5, e1, e2, jp_bs, jp_b2s, jw_cmp_eq, ↓reduceIte]
theorem jp_s_may {G : jw_G} {x3 : Int} {M : jw_M} (h : jp_inv M) (h0 : 0 ≤ x3 ∧ x3 + 5 < jw_Ln G) (hL : jw_Ln G ≤ 384) (r18 : Int → jw_M → Option (Int × jw_M)) : jp_stp G x3 r18 (fL_law_859 G r18 x3 M) := by
  obtain ⟨v, M2, e1, e2, e3⟩ := (jp_may h _ : jp_ok1 (fX11_may (jw_xq G (x3 + 1)) M) M (fX12_may (jw_xq G (x3 + 1))))
  refine ⟨M2, e3, ?_⟩
  have c1 : jw_w (x3 + 1) = x3 + 1 := jw_ws (by omega)
  have c2 : jw_w (x3 + 2) = x3 + 2 := jw_ws (by omega)
  have c3 : jw_w (x3 + 3) = x3 + 3 := jw_ws (by omega)
  have c4 : jw_w (x3 + 4) = x3 + 4 := jw_ws (by omega)
  have c5 : jw_w (x3 + 5) = x3 + 5 := jw_ws (by omega)
  have c6 : jw_w (x3 + 6) = x3 + 6 := jw_ws (by omega)
  have b1 : 0 ≤ x3 + 1 ∧ x3 + 1 < jw_Ln G := by omega
  have b2 : 0 ≤ x3 + 2 ∧ x3 + 2 < jw_Ln G := by omega
  have b3 : 0 ≤ x3 + 3 ∧ x3 + 3 < jw_Ln G := by omega
  have b4 : 0 ≤ x3 + 4 ∧ x3 + 4 < jw_Ln G := by omega
  have b5 : 0 ≤ x3 + 5 ∧ x3 + 5 < jw_Ln G := by omega
  unfold fL_law_859 fL_law_1475
  simp only [c1, c2, c3, c4, c5, c6, if_pos b1, if_pos b2, if_pos b3, if_pos b4, if_pos b5, e1, e2, jp_bs, jp_b2s, jw_cmp_eq, ↓reduceIte]
theorem jp_s_newcomer {G : jw_G} {x3 : Int} {M : jw_M} (h : jp_inv M) (h0 : 0 ≤ x3 ∧ x3 + 5 < jw_Ln G) (hL : jw_Ln G ≤ 384) (r18 : Int → jw_M → Option (Int × jw_M)) : jp_stp G x3 r18 (fL_law_883 G r18 x3 M) := by
  obtain ⟨v, M2, e1, e2, e3⟩ := (jp_newcomer h _ : jp_ok1 (fX11_newcomer (jw_xq G (x3 + 1)) M) M (fX12_newcomer (jw_xq G (x3 + 1))))
  refine ⟨M2, e3, ?_⟩
  have c1 : jw_w (x3 + 1) = x3 + 1 := jw_ws (by omega)
  have c2 : jw_w (x3 + 2) = x3 + 2 := jw_ws (by omega)
  have c3 : jw_w (x3 + 3) = x3 + 3 := jw_ws (by omega)
  have c4 : jw_w (x3 + 4) = x3 + 4 := jw_ws (by omega)
  have c5 : jw_w (x3 + 5) = x3 + 5 := jw_ws (by omega)
  have c6 : jw_w (x3 + 6) = x3 + 6 := jw_ws (by omega)
  have b1 : 0 ≤ x3 + 1 ∧ x3 + 1 < jw_Ln G := by omega
  have b2 : 0 ≤ x3 + 2 ∧ x3 + 2 < jw_Ln G := by omega
  have b3 : 0 ≤ x3 + 3 ∧ x3 + 3 < jw_Ln G := by omega
  have b4 : 0 ≤ x3 + 4 ∧ x3 + 4 < jw_Ln G := by omega
  have b5 : 0 ≤ x3 + 5 ∧ x3 + 5 < jw_Ln G := by omega
  unfold fL_law_883 fL_law_1475
  simp only [c1, c2, c3, c4, c5, c6, if_pos b1, if_pos b2, if_pos b3, if_pos b4, if_pos b5, e1, e2, jp_bs, jp_b2s, jw_cmp_eq, ↓reduceIte]
theorem jp_s_rest {G : jw_G} {x3 : Int} {M : jw_M} (h : jp_inv M) (h0 : 0 ≤ x3 ∧ x3 + 5 < jw_Ln G) (hL : jw_Ln G ≤ 384) (r18 : Int → jw_M → Option (Int × jw_M)) : jp_stp G x3 r18 (fL_law_907 G r18 x3 M) := by
  obtain ⟨v, M2, e1, e2, e3⟩ := (jp_rest h  : jp_ok1 (fX11_rest M) M (fX12_rest))
  refine ⟨M2, e3, ?_⟩
  have c1 : jw_w (x3 + 1) = x3 + 1 := jw_ws (by omega)
  have c2 : jw_w (x3 + 2) = x3 + 2 := jw_ws (by omega)
  have c3 : jw_w (x3 + 3) = x3 + 3 := jw_ws (by omega)
  have c4 : jw_w (x3 + 4) = x3 + 4 := jw_ws (by omega)
  have c5 : jw_w (x3 + 5) = x3 + 5 := jw_ws (by omega)
  have c6 : jw_w (x3 + 6) = x3 + 6 := jw_ws (by omega)
  have b1 : 0 ≤ x3 + 1 ∧ x3 + 1 < jw_Ln G := by omega
  have b2 : 0 ≤ x3 + 2 ∧ x3 + 2 < jw_Ln G := by omega
  have b3 : 0 ≤ x3 + 3 ∧ x3 + 3 < jw_Ln G := by omega
  have b4 : 0 ≤ x3 + 4 ∧ x3 + 4 < jw_Ln G := by omega
  have b5 : 0 ≤ x3 + 5 ∧ x3 + 5 < jw_Ln G := by omega
  unfold fL_law_907 fL_law_1475
  simp only [c1, c2, c3, c4, c5, c6, if_pos b1, if_pos b2, if_pos b3, if_pos b4, if_pos b5, e1, e2, jp_bs, jp_b2s, jw_cmp_eq, ↓reduceIte]
theorem jp_s_settle {G : jw_G} {x3 : Int} {M : jw_M} (h : jp_inv M) (h0 : 0 ≤ x3 ∧ x3 + 5 < jw_Ln G) (hL : jw_Ln G ≤ 384) (r18 : Int → jw_M → Option (Int × jw_M)) : jp_stp G x3 r18 (fL_law_921 G r18 x3 M) := by
  obtain ⟨v, M1, M2, e1, e2, e3⟩ := (jp_settle h  : jp_ok (fX11_settle M) (fX12_settle))
  refine ⟨M2, e3, ?_⟩
  have c1 : jw_w (x3 + 1) = x3 + 1 := jw_ws (by omega)
  have c2 : jw_w (x3 + 2) = x3 + 2 := jw_ws (by omega)
  have c3 : jw_w (x3 + 3) = x3 + 3 := jw_ws (by omega)
  have c4 : jw_w (x3 + 4) = x3 + 4 := jw_ws (by omega)
  have c5 : jw_w (x3 + 5) = x3 + 5 := jw_ws (by omega)
  have c6 : jw_w (x3 + 6) = x3 + 6 := jw_ws (by omega)
  have b1 : 0 ≤ x3 + 1 ∧ x3 + 1 < jw_Ln G := by omega
  have b2 : 0 ≤ x3 + 2 ∧ x3 + 2 < jw_Ln G := by omega
  have b3 : 0 ≤ x3 + 3 ∧ x3 + 3 < jw_Ln G := by omega
  have b4 : 0 ≤ x3 + 4 ∧ x3 + 4 < jw_Ln G := by omega
  have b5 : 0 ≤ x3 + 5 ∧ x3 + 5 < jw_Ln G := by omega
  unfold fL_law_921 fL_law_1475
  simp only [c1, c2, c3, c4, c5, c6, if_pos b1, if_pos b2, if_pos b3, if_pos b4, if_pos b5, e1, e2, jp_bs, jp_b2s, jw_cmp_eq, ↓reduceIte]
theorem jp_s_rests {G : jw_G} {x3 : Int} {M : jw_M} (h : jp_inv M) (h0 : 0 ≤ x3 ∧ x3 + 5 < jw_Ln G) (hL : jw_Ln G ≤ 384) (r18 : Int → jw_M → Option (Int × jw_M)) : jp_stp G x3 r18 (fL_law_935 G r18 x3 M) := by
  obtain ⟨v, M1, M2, e1, e2, e3⟩ := (jp_rests h _ : jp_ok (fX11_rests (jw_xq G (x3 + 1)) M) (fX12_rests (jw_xq G (x3 + 1))))
  refine ⟨M2, e3, ?_⟩
  have c1 : jw_w (x3 + 1) = x3 + 1 := jw_ws (by omega)
  have c2 : jw_w (x3 + 2) = x3 + 2 := jw_ws (by omega)
  have c3 : jw_w (x3 + 3) = x3 + 3 := jw_ws (by omega)
  have c4 : jw_w (x3 + 4) = x3 + 4 := jw_ws (by omega)
  have c5 : jw_w (x3 + 5) = x3 + 5 := jw_ws (by omega)
  have c6 : jw_w (x3 + 6) = x3 + 6 := jw_ws (by omega)
  have b1 : 0 ≤ x3 + 1 ∧ x3 + 1 < jw_Ln G := by omega
  have b2 : 0 ≤ x3 + 2 ∧ x3 + 2 < jw_Ln G := by omega
  have b3 : 0 ≤ x3 + 3 ∧ x3 + 3 < jw_Ln G := by omega
  have b4 : 0 ≤ x3 + 4 ∧ x3 + 4 < jw_Ln G := by omega
  have b5 : 0 ≤ x3 + 5 ∧ x3 + 5 < jw_Ln G := by omega
  unfold fL_law_935 fL_law_1475
  simp only [c1, c2, c3, c4, c5, c6, if_pos b1, if_pos b2, if_pos b3, if_pos b4, if_pos b5, e1, e2, jp_bs, jp_b2s, jw_cmp_eq, ↓reduceIte]
theorem jp_s_saved {G : jw_G} {x3 : Int} {M : jw_M} (h : jp_inv M) (h0 : 0 ≤ x3 ∧ x3 + 5 < jw_Ln G) (hL : jw_Ln G ≤ 384) (r18 : Int → jw_M → Option (Int × jw_M)) : jp_stp G x3 r18 (fL_law_959 G r18 x3 M) := by
  obtain ⟨v, M2, e1, e2, e3⟩ := (jp_saved h _ _ : jp_ok1 (fX11_saved (jw_xq G (x3 + 1)) (jw_xq G (x3 + 2)) M) M (fX12_saved (jw_xq G (x3 + 1)) (jw_xq G (x3 + 2))))
  refine ⟨M2, e3, ?_⟩
  have c1 : jw_w (x3 + 1) = x3 + 1 := jw_ws (by omega)
  have c2 : jw_w (x3 + 2) = x3 + 2 := jw_ws (by omega)
  have c3 : jw_w (x3 + 3) = x3 + 3 := jw_ws (by omega)
  have c4 : jw_w (x3 + 4) = x3 + 4 := jw_ws (by omega)
  have c5 : jw_w (x3 + 5) = x3 + 5 := jw_ws (by omega)
  have c6 : jw_w (x3 + 6) = x3 + 6 := jw_ws (by omega)
  have b1 : 0 ≤ x3 + 1 ∧ x3 + 1 < jw_Ln G := by omega
  have b2 : 0 ≤ x3 + 2 ∧ x3 + 2 < jw_Ln G := by omega
  have b3 : 0 ≤ x3 + 3 ∧ x3 + 3 < jw_Ln G := by omega
  have b4 : 0 ≤ x3 + 4 ∧ x3 + 4 < jw_Ln G := by omega
  have b5 : 0 ≤ x3 + 5 ∧ x3 + 5 < jw_Ln G := by omega
  unfold fL_law_959 fL_law_1475
  simp only [c1, c2, c3, c4, c5, c6, if_pos b1, if_pos b2, if_pos b3, if_pos b4, if_pos b5, e1, e2, jp_bs, jp_b2s, jw_cmp_eq, ↓reduceIte]
theorem jp_s_pays {G : jw_G} {x3 : Int} {M : jw_M} (h : jp_inv M) (h0 : 0 ≤ x3 ∧ x3 + 5 < jw_Ln G) (hL : jw_Ln G ≤ 384) (r18 : Int → jw_M → Option (Int × jw_M)) : jp_stp G x3 r18 (fL_law_993 G r18 x3 M) := by
  obtain ⟨v, M1, M2, e1, e2, e3⟩ := (jp_pays h _ _ _ _ : jp_ok (fX11_pays (jw_xq G (x3 + 1)) (jw_xq G (x3 + 2)) (jw_xq G (x3 + 3)) (jw_xq G (x3 + 4)) M) (fX12_pays (jw_xq G (x3 + 1)) (jw_xq G (x3 + 2)) (jw_xq G (x3 + 3)) (jw_xq G (x3 + 4))))
  refine ⟨M2, e3, ?_⟩
  have c1 : jw_w (x3 + 1) = x3 + 1 := jw_ws (by omega)
  have c2 : jw_w (x3 + 2) = x3 + 2 := jw_ws (by omega)
  have c3 : jw_w (x3 + 3) = x3 + 3 := jw_ws (by omega)
  have c4 : jw_w (x3 + 4) = x3 + 4 := jw_ws (by omega)
  have c5 : jw_w (x3 + 5) = x3 + 5 := jw_ws (by omega)
  have c6 : jw_w (x3 + 6) = x3 + 6 := jw_ws (by omega)
  have b1 : 0 ≤ x3 + 1 ∧ x3 + 1 < jw_Ln G := by omega
  have b2 : 0 ≤ x3 + 2 ∧ x3 + 2 < jw_Ln G := by omega
  have b3 : 0 ≤ x3 + 3 ∧ x3 + 3 < jw_Ln G := by omega
  have b4 : 0 ≤ x3 + 4 ∧ x3 + 4 < jw_Ln G := by omega
  have b5 : 0 ≤ x3 + 5 ∧ x3 + 5 < jw_Ln G := by omega
  unfold fL_law_993 fL_law_1475
  simp only [c1, c2, c3, c4, c5, c6, if_pos b1, if_pos b2, if_pos b3, if_pos b4, if_pos b5, e1, e2, jp_bs, jp_b2s, jw_cmp_eq, ↓reduceIte]
theorem jp_s_stored {G : jw_G} {x3 : Int} {M : jw_M} (h : jp_inv M) (h0 : 0 ≤ x3 ∧ x3 + 5 < jw_Ln G) (hL : jw_Ln G ≤ 384) (r18 : Int → jw_M → Option (Int × jw_M)) : jp_stp G x3 r18 (fL_law_1047 G r18 x3 M) := by
  obtain ⟨v, M1, M2, e1, e2, e3⟩ := (jp_stored h _ : jp_ok (fX11_stored (jw_xq G (x3 + 1)) M) (fX12_stored (jw_xq G (x3 + 1))))
  refine ⟨M2, e3, ?_⟩
  have c1 : jw_w (x3 + 1) = x3 + 1 := jw_ws (by omega)
  have c2 : jw_w (x3 + 2) = x3 + 2 := jw_ws (by omega)
  have c3 : jw_w (x3 + 3) = x3 + 3 := jw_ws (by omega)
  have c4 : jw_w (x3 + 4) = x3 + 4 := jw_ws (by omega)
  have c5 : jw_w (x3 + 5) = x3 + 5 := jw_ws (by omega)
  have c6 : jw_w (x3 + 6) = x3 + 6 := jw_ws (by omega)
  have b1 : 0 ≤ x3 + 1 ∧ x3 + 1 < jw_Ln G := by omega
  have b2 : 0 ≤ x3 + 2 ∧ x3 + 2 < jw_Ln G := by omega
  have b3 : 0 ≤ x3 + 3 ∧ x3 + 3 < jw_Ln G := by omega
  have b4 : 0 ≤ x3 + 4 ∧ x3 + 4 < jw_Ln G := by omega
  have b5 : 0 ≤ x3 + 5 ∧ x3 + 5 < jw_Ln G := by omega
  unfold fL_law_1047 fL_law_1475
  simp only [c1, c2, c3, c4, c5, c6, if_pos b1, if_pos b2, if_pos b3, if_pos b4, if_pos b5, e1, e2, jp_bs, jp_b2s, jw_cmp_eq, ↓reduceIte]
theorem jp_s_escapes {G : jw_G} {x3 : Int} {M : jw_M} (h : jp_inv M) (h0 : 0 ≤ x3 ∧ x3 + 5 < jw_Ln G) (hL : jw_Ln G ≤ 384) (r18 : Int → jw_M → Option (Int × jw_M)) : jp_stp G x3 r18 (fL_law_1071 G r18 x3 M) := by
  obtain ⟨v, M2, e1, e2, e3⟩ := (jp_escapes h _ _ : jp_ok1 (fX11_escapes (jw_xq G (x3 + 1)) (jw_xq G (x3 + 2)) M) M (fX12_escapes (jw_xq G (x3 + 1)) (jw_xq G (x3 + 2))))
  refine ⟨M2, e3, ?_⟩
  have c1 : jw_w (x3 + 1) = x3 + 1 := jw_ws (by omega)
  have c2 : jw_w (x3 + 2) = x3 + 2 := jw_ws (by omega)
  have c3 : jw_w (x3 + 3) = x3 + 3 := jw_ws (by omega)
  have c4 : jw_w (x3 + 4) = x3 + 4 := jw_ws (by omega)
  have c5 : jw_w (x3 + 5) = x3 + 5 := jw_ws (by omega)
  have c6 : jw_w (x3 + 6) = x3 + 6 := jw_ws (by omega)
  have b1 : 0 ≤ x3 + 1 ∧ x3 + 1 < jw_Ln G := by omega
  have b2 : 0 ≤ x3 + 2 ∧ x3 + 2 < jw_Ln G := by omega
  have b3 : 0 ≤ x3 + 3 ∧ x3 + 3 < jw_Ln G := by omega
  have b4 : 0 ≤ x3 + 4 ∧ x3 + 4 < jw_Ln G := by omega
  have b5 : 0 ≤ x3 + 5 ∧ x3 + 5 < jw_Ln G := by omega
  unfold fL_law_1071 fL_law_1475
  simp only [c1, c2, c3, c4, c5, c6, if_pos b1, if_pos b2, if_pos b3, if_pos b4, if_pos b5, e1, e2, jp_bs, jp_b2s, jw_cmp_eq, ↓reduceIte]
theorem jp_s_value {G : jw_G} {x3 : Int} {M : jw_M} (h : jp_inv M) (h0 : 0 ≤ x3 ∧ x3 + 5 < jw_Ln G) (hL : jw_Ln G ≤ 384) (r18 : Int → jw_M → Option (Int × jw_M)) : jp_stp G x3 r18 (fL_law_1105 G r18 x3 M) := by
  obtain ⟨v, M1, M2, e1, e2, e3⟩ := (jp_value h _ _ : jp_ok (fX11_value (jw_xq G (x3 + 1)) (jw_xq G (x3 + 2)) M) (fX12_value (jw_xq G (x3 + 1)) (jw_xq G (x3 + 2))))
  refine ⟨M2, e3, ?_⟩
  have c1 : jw_w (x3 + 1) = x3 + 1 := jw_ws (by omega)
  have c2 : jw_w (x3 + 2) = x3 + 2 := jw_ws (by omega)
  have c3 : jw_w (x3 + 3) = x3 + 3 := jw_ws (by omega)
  have c4 : jw_w (x3 + 4) = x3 + 4 := jw_ws (by omega)
  have c5 : jw_w (x3 + 5) = x3 + 5 := jw_ws (by omega)
  have c6 : jw_w (x3 + 6) = x3 + 6 := jw_ws (by omega)
  have b1 : 0 ≤ x3 + 1 ∧ x3 + 1 < jw_Ln G := by omega
  have b2 : 0 ≤ x3 + 2 ∧ x3 + 2 < jw_Ln G := by omega
  have b3 : 0 ≤ x3 + 3 ∧ x3 + 3 < jw_Ln G := by omega
  have b4 : 0 ≤ x3 + 4 ∧ x3 + 4 < jw_Ln G := by omega
  have b5 : 0 ≤ x3 + 5 ∧ x3 + 5 < jw_Ln G := by omega
  unfold fL_law_1105 fL_law_1475
  simp only [c1, c2, c3, c4, c5, c6, if_pos b1, if_pos b2, if_pos b3, if_pos b4, if_pos b5, e1, e2, jp_bs, jp_b2s, jw_cmp_eq, ↓reduceIte]
theorem jp_s_odds {G : jw_G} {x3 : Int} {M : jw_M} (h : jp_inv M) (h0 : 0 ≤ x3 ∧ x3 + 5 < jw_Ln G) (hL : jw_Ln G ≤ 384) (r18 : Int → jw_M → Option (Int × jw_M)) : jp_stp G x3 r18 (fL_law_1139 G r18 x3 M) := by
  obtain ⟨v, M1, M2, e1, e2, e3⟩ := (jp_odds h _ _ _ : jp_ok (fX11_odds (jw_xq G (x3 + 1)) (jw_xq G (x3 + 2)) (jw_xq G (x3 + 3)) M) (fX12_odds (jw_xq G (x3 + 1)) (jw_xq G (x3 + 2)) (jw_xq G (x3 + 3))))
  refine ⟨M2, e3, ?_⟩
  have c1 : jw_w (x3 + 1) = x3 + 1 := jw_ws (by omega)
  have c2 : jw_w (x3 + 2) = x3 + 2 := jw_ws (by omega)
  have c3 : jw_w (x3 + 3) = x3 + 3 := jw_ws (by omega)
  have c4 : jw_w (x3 + 4) = x3 + 4 := jw_ws (by omega)
  have c5 : jw_w (x3 + 5) = x3 + 5 := jw_ws (by omega)
  have c6 : jw_w (x3 + 6) = x3 + 6 := jw_ws (by omega)
  have b1 : 0 ≤ x3 + 1 ∧ x3 + 1 < jw_Ln G := by omega
  have b2 : 0 ≤ x3 + 2 ∧ x3 + 2 < jw_Ln G := by omega
  have b3 : 0 ≤ x3 + 3 ∧ x3 + 3 < jw_Ln G := by omega
  have b4 : 0 ≤ x3 + 4 ∧ x3 + 4 < jw_Ln G := by omega
  have b5 : 0 ≤ x3 + 5 ∧ x3 + 5 < jw_Ln G := by omega
  unfold fL_law_1139 fL_law_1475
  simp only [c1, c2, c3, c4, c5, c6, if_pos b1, if_pos b2, if_pos b3, if_pos b4, if_pos b5, e1, e2, jp_bs, jp_b2s, jw_cmp_eq, ↓reduceIte]
theorem jp_s_owe {G : jw_G} {x3 : Int} {M : jw_M} (h : jp_inv M) (h0 : 0 ≤ x3 ∧ x3 + 5 < jw_Ln G) (hL : jw_Ln G ≤ 384) (r18 : Int → jw_M → Option (Int × jw_M)) : jp_stp G x3 r18 (fL_law_1183 G r18 x3 M) := by
  obtain ⟨v, M1, M2, e1, e2, e3⟩ := (jp_owe h _ _ _ : jp_ok (fX11_owe (jw_xq G (x3 + 1)) (jw_xq G (x3 + 2)) (jw_xq G (x3 + 3)) M) (fX12_owe (jw_xq G (x3 + 1)) (jw_xq G (x3 + 2)) (jw_xq G (x3 + 3))))
  refine ⟨M2, e3, ?_⟩
  have c1 : jw_w (x3 + 1) = x3 + 1 := jw_ws (by omega)
  have c2 : jw_w (x3 + 2) = x3 + 2 := jw_ws (by omega)
  have c3 : jw_w (x3 + 3) = x3 + 3 := jw_ws (by omega)
  have c4 : jw_w (x3 + 4) = x3 + 4 := jw_ws (by omega)
  have c5 : jw_w (x3 + 5) = x3 + 5 := jw_ws (by omega)
  have c6 : jw_w (x3 + 6) = x3 + 6 := jw_ws (by omega)
  have b1 : 0 ≤ x3 + 1 ∧ x3 + 1 < jw_Ln G := by omega
  have b2 : 0 ≤ x3 + 2 ∧ x3 + 2 < jw_Ln G := by omega
  have b3 : 0 ≤ x3 + 3 ∧ x3 + 3 < jw_Ln G := by omega
  have b4 : 0 ≤ x3 + 4 ∧ x3 + 4 < jw_Ln G := by omega
  have b5 : 0 ≤ x3 + 5 ∧ x3 + 5 < jw_Ln G := by omega
  unfold fL_law_1183 fL_law_1475
  simp only [c1, c2, c3, c4, c5, c6, if_pos b1, if_pos b2, if_pos b3, if_pos b4, if_pos b5, e1, e2, jp_bs, jp_b2s, jw_cmp_eq, ↓reduceIte]
theorem jp_s_owed {G : jw_G} {x3 : Int} {M : jw_M} (h : jp_inv M) (h0 : 0 ≤ x3 ∧ x3 + 5 < jw_Ln G) (hL : jw_Ln G ≤ 384) (r18 : Int → jw_M → Option (Int × jw_M)) : jp_stp G x3 r18 (fL_law_1227 G r18 x3 M) := by
  obtain ⟨v, M2, e1, e2, e3⟩ := (jp_owed h _ _ : jp_ok1 (fX11_owed (jw_xq G (x3 + 1)) (jw_xq G (x3 + 2)) M) M (fX12_owed (jw_xq G (x3 + 1)) (jw_xq G (x3 + 2))))
  refine ⟨M2, e3, ?_⟩
  have c1 : jw_w (x3 + 1) = x3 + 1 := jw_ws (by omega)
  have c2 : jw_w (x3 + 2) = x3 + 2 := jw_ws (by omega)
  have c3 : jw_w (x3 + 3) = x3 + 3 := jw_ws (by omega)
  have c4 : jw_w (x3 + 4) = x3 + 4 := jw_ws (by omega)
  have c5 : jw_w (x3 + 5) = x3 + 5 := jw_ws (by omega)
  have c6 : jw_w (x3 + 6) = x3 + 6 := jw_ws (by omega)
  have b1 : 0 ≤ x3 + 1 ∧ x3 + 1 < jw_Ln G := by omega
  have b2 : 0 ≤ x3 + 2 ∧ x3 + 2 < jw_Ln G := by omega
  have b3 : 0 ≤ x3 + 3 ∧ x3 + 3 < jw_Ln G := by omega
  have b4 : 0 ≤ x3 + 4 ∧ x3 + 4 < jw_Ln G := by omega
  have b5 : 0 ≤ x3 + 5 ∧ x3 + 5 < jw_Ln G := by omega
  unfold fL_law_1227 fL_law_1475
  simp only [c1, c2, c3, c4, c5, c6, if_pos b1, if_pos b2, if_pos b3, if_pos b4, if_pos b5, e1, e2, jp_bs, jp_b2s, jw_cmp_eq, ↓reduceIte]
theorem jp_s_passed {G : jw_G} {x3 : Int} {M : jw_M} (h : jp_inv M) (h0 : 0 ≤ x3 ∧ x3 + 5 < jw_Ln G) (hL : jw_Ln G ≤ 384) (r18 : Int → jw_M → Option (Int × jw_M)) : jp_stp G x3 r18 (fL_law_1261 G r18 x3 M) := by
  obtain ⟨v, M1, M2, e1, e2, e3⟩ := (jp_passed h  : jp_ok (fX11_passed M) (fX12_passed))
  refine ⟨M2, e3, ?_⟩
  have c1 : jw_w (x3 + 1) = x3 + 1 := jw_ws (by omega)
  have c2 : jw_w (x3 + 2) = x3 + 2 := jw_ws (by omega)
  have c3 : jw_w (x3 + 3) = x3 + 3 := jw_ws (by omega)
  have c4 : jw_w (x3 + 4) = x3 + 4 := jw_ws (by omega)
  have c5 : jw_w (x3 + 5) = x3 + 5 := jw_ws (by omega)
  have c6 : jw_w (x3 + 6) = x3 + 6 := jw_ws (by omega)
  have b1 : 0 ≤ x3 + 1 ∧ x3 + 1 < jw_Ln G := by omega
  have b2 : 0 ≤ x3 + 2 ∧ x3 + 2 < jw_Ln G := by omega
  have b3 : 0 ≤ x3 + 3 ∧ x3 + 3 < jw_Ln G := by omega
  have b4 : 0 ≤ x3 + 4 ∧ x3 + 4 < jw_Ln G := by omega
  have b5 : 0 ≤ x3 + 5 ∧ x3 + 5 < jw_Ln G := by omega
  unfold fL_law_1261 fL_law_1475
  simp only [c1, c2, c3, c4, c5, c6, if_pos b1, if_pos b2, if_pos b3, if_pos b4, if_pos b5, e1, e2, jp_bs, jp_b2s, jw_cmp_eq, ↓reduceIte]
theorem jp_s_image {G : jw_G} {x3 : Int} {M : jw_M} (h : jp_inv M) (h0 : 0 ≤ x3 ∧ x3 + 5 < jw_Ln G) (hL : jw_Ln G ≤ 384) (r18 : Int → jw_M → Option (Int × jw_M)) : jp_stp G x3 r18 (fL_law_1275 G r18 x3 M) := by
  obtain ⟨v, M1, M2, e1, e2, e3⟩ := (jp_image h _ : jp_ok (fX11_image (jw_xq G (x3 + 1)) M) (fX12_image (jw_xq G (x3 + 1))))
  refine ⟨M2, e3, ?_⟩
  have c1 : jw_w (x3 + 1) = x3 + 1 := jw_ws (by omega)
  have c2 : jw_w (x3 + 2) = x3 + 2 := jw_ws (by omega)
  have c3 : jw_w (x3 + 3) = x3 + 3 := jw_ws (by omega)
  have c4 : jw_w (x3 + 4) = x3 + 4 := jw_ws (by omega)
  have c5 : jw_w (x3 + 5) = x3 + 5 := jw_ws (by omega)
  have c6 : jw_w (x3 + 6) = x3 + 6 := jw_ws (by omega)
  have b1 : 0 ≤ x3 + 1 ∧ x3 + 1 < jw_Ln G := by omega
  have b2 : 0 ≤ x3 + 2 ∧ x3 + 2 < jw_Ln G := by omega
  have b3 : 0 ≤ x3 + 3 ∧ x3 + 3 < jw_Ln G := by omega
  have b4 : 0 ≤ x3 + 4 ∧ x3 + 4 < jw_Ln G := by omega
  have b5 : 0 ≤ x3 + 5 ∧ x3 + 5 < jw_Ln G := by omega
  unfold fL_law_1275 fL_law_1475
  simp only [c1, c2, c3, c4, c5, c6, if_pos b1, if_pos b2, if_pos b3, if_pos b4, if_pos b5, e1, e2, jp_bs, jp_b2s, jw_cmp_eq, ↓reduceIte]
theorem jp_s_restore {G : jw_G} {x3 : Int} {M : jw_M} (h : jp_inv M) (h0 : 0 ≤ x3 ∧ x3 + 5 < jw_Ln G) (hL : jw_Ln G ≤ 384) (r18 : Int → jw_M → Option (Int × jw_M)) : jp_stp G x3 r18 (fL_law_1299 G r18 x3 M) := by
  obtain ⟨v, M1, M2, e1, e2, e3⟩ := (jp_restore h _ : jp_ok (fX11_restore (jw_xq G (x3 + 1)) M) (fX12_restore (jw_xq G (x3 + 1))))
  refine ⟨M2, e3, ?_⟩
  have c1 : jw_w (x3 + 1) = x3 + 1 := jw_ws (by omega)
  have c2 : jw_w (x3 + 2) = x3 + 2 := jw_ws (by omega)
  have c3 : jw_w (x3 + 3) = x3 + 3 := jw_ws (by omega)
  have c4 : jw_w (x3 + 4) = x3 + 4 := jw_ws (by omega)
  have c5 : jw_w (x3 + 5) = x3 + 5 := jw_ws (by omega)
  have c6 : jw_w (x3 + 6) = x3 + 6 := jw_ws (by omega)
  have b1 : 0 ≤ x3 + 1 ∧ x3 + 1 < jw_Ln G := by omega
  have b2 : 0 ≤ x3 + 2 ∧ x3 + 2 < jw_Ln G := by omega
  have b3 : 0 ≤ x3 + 3 ∧ x3 + 3 < jw_Ln G := by omega
  have b4 : 0 ≤ x3 + 4 ∧ x3 + 4 < jw_Ln G := by omega
  have b5 : 0 ≤ x3 + 5 ∧ x3 + 5 < jw_Ln G := by omega
  unfold fL_law_1299 fL_law_1475
  simp only [c1, c2, c3, c4, c5, c6, if_pos b1, if_pos b2, if_pos b3, if_pos b4, if_pos b5, e1, e2, jp_bs, jp_b2s, jw_cmp_eq, ↓reduceIte]
theorem jp_s_kind {G : jw_G} {x3 : Int} {M : jw_M} (h : jp_inv M) (h0 : 0 ≤ x3 ∧ x3 + 5 < jw_Ln G) (hL : jw_Ln G ≤ 384) (r18 : Int → jw_M → Option (Int × jw_M)) : jp_stp G x3 r18 (fL_law_1323 G r18 x3 M) := by
  obtain ⟨v, M2, e1, e2, e3⟩ := (jp_kind1 h _ : jp_ok1 (fX11_kind (jw_xq G (x3 + 1)) M) M (fX12_kind (jw_xq G (x3 + 1))))
  refine ⟨M2, e3, ?_⟩
  have c1 : jw_w (x3 + 1) = x3 + 1 := jw_ws (by omega)
  have c2 : jw_w (x3 + 2) = x3 + 2 := jw_ws (by omega)
  have c3 : jw_w (x3 + 3) = x3 + 3 := jw_ws (by omega)
  have c4 : jw_w (x3 + 4) = x3 + 4 := jw_ws (by omega)
  have c5 : jw_w (x3 + 5) = x3 + 5 := jw_ws (by omega)
  have c6 : jw_w (x3 + 6) = x3 + 6 := jw_ws (by omega)
  have b1 : 0 ≤ x3 + 1 ∧ x3 + 1 < jw_Ln G := by omega
  have b2 : 0 ≤ x3 + 2 ∧ x3 + 2 < jw_Ln G := by omega
  have b3 : 0 ≤ x3 + 3 ∧ x3 + 3 < jw_Ln G := by omega
  have b4 : 0 ≤ x3 + 4 ∧ x3 + 4 < jw_Ln G := by omega
  have b5 : 0 ≤ x3 + 5 ∧ x3 + 5 < jw_Ln G := by omega
  unfold fL_law_1323 fL_law_1475
  simp only [c1, c2, c3, c4, c5, c6, if_pos b1, if_pos b2, if_pos b3, if_pos b4, if_pos b5, e1, e2, jp_bs, jp_b2s, jw_cmp_eq, ↓reduceIte]
theorem jp_s_as {G : jw_G} {x3 : Int} {M : jw_M} (h : jp_inv M) (h0 : 0 ≤ x3 ∧ x3 + 5 < jw_Ln G) (hL : jw_Ln G ≤ 384) (r18 : Int → jw_M → Option (Int × jw_M)) : jp_stp G x3 r18 (fL_law_1347 G r18 x3 M) := by
  obtain ⟨v, M1, M2, e1, e2, e3⟩ := (jp_as h _ _ : jp_ok (fX11_as (jw_xq G (x3 + 1)) (jw_xq G (x3 + 2)) M) (fX12_as (jw_xq G (x3 + 1)) (jw_xq G (x3 + 2))))
  refine ⟨M2, e3, ?_⟩
  have c1 : jw_w (x3 + 1) = x3 + 1 := jw_ws (by omega)
  have c2 : jw_w (x3 + 2) = x3 + 2 := jw_ws (by omega)
  have c3 : jw_w (x3 + 3) = x3 + 3 := jw_ws (by omega)
  have c4 : jw_w (x3 + 4) = x3 + 4 := jw_ws (by omega)
  have c5 : jw_w (x3 + 5) = x3 + 5 := jw_ws (by omega)
  have c6 : jw_w (x3 + 6) = x3 + 6 := jw_ws (by omega)
  have b1 : 0 ≤ x3 + 1 ∧ x3 + 1 < jw_Ln G := by omega
  have b2 : 0 ≤ x3 + 2 ∧ x3 + 2 < jw_Ln G := by omega
  have b3 : 0 ≤ x3 + 3 ∧ x3 + 3 < jw_Ln G := by omega
  have b4 : 0 ≤ x3 + 4 ∧ x3 + 4 < jw_Ln G := by omega
  have b5 : 0 ≤ x3 + 5 ∧ x3 + 5 < jw_Ln G := by omega
  unfold fL_law_1347 fL_law_1475
  simp only [c1, c2, c3, c4, c5, c6, if_pos b1, if_pos b2, if_pos b3, if_pos b4, if_pos b5, e1, e2, jp_bs, jp_b2s, jw_cmp_eq, ↓reduceIte]
theorem jp_s_ask {G : jw_G} {x3 : Int} {M : jw_M} (h : jp_inv M) (h0 : 0 ≤ x3 ∧ x3 + 5 < jw_Ln G) (hL : jw_Ln G ≤ 384) (r18 : Int → jw_M → Option (Int × jw_M)) : jp_stp G x3 r18 (fL_law_1381 G r18 x3 M) := by
  obtain ⟨v, M1, M2, e1, e2, e3⟩ := (jp_ask h _ _ : jp_ok (fX11_ask (jw_xq G (x3 + 1)) (jw_xq G (x3 + 2)) M) (fX12_ask (jw_xq G (x3 + 1)) (jw_xq G (x3 + 2))))
  refine ⟨M2, e3, ?_⟩
  have c1 : jw_w (x3 + 1) = x3 + 1 := jw_ws (by omega)
  have c2 : jw_w (x3 + 2) = x3 + 2 := jw_ws (by omega)
  have c3 : jw_w (x3 + 3) = x3 + 3 := jw_ws (by omega)
  have c4 : jw_w (x3 + 4) = x3 + 4 := jw_ws (by omega)
  have c5 : jw_w (x3 + 5) = x3 + 5 := jw_ws (by omega)
  have c6 : jw_w (x3 + 6) = x3 + 6 := jw_ws (by omega)
  have b1 : 0 ≤ x3 + 1 ∧ x3 + 1 < jw_Ln G := by omega
  have b2 : 0 ≤ x3 + 2 ∧ x3 + 2 < jw_Ln G := by omega
  have b3 : 0 ≤ x3 + 3 ∧ x3 + 3 < jw_Ln G := by omega
  have b4 : 0 ≤ x3 + 4 ∧ x3 + 4 < jw_Ln G := by omega
  have b5 : 0 ≤ x3 + 5 ∧ x3 + 5 < jw_Ln G := by omega
  unfold fL_law_1381 fL_law_1475
  simp only [c1, c2, c3, c4, c5, c6, if_pos b1, if_pos b2, if_pos b3, if_pos b4, if_pos b5, e1, e2, jp_bs, jp_b2s, jw_cmp_eq, ↓reduceIte]
theorem jp_s_trace {G : jw_G} {x3 : Int} {M : jw_M} (h : jp_inv M) (h0 : 0 ≤ x3 ∧ x3 + 5 < jw_Ln G) (hL : jw_Ln G ≤ 384) (r18 : Int → jw_M → Option (Int × jw_M)) : jp_stp G x3 r18 (fL_law_1415 G r18 x3 M) := by
  obtain ⟨v, M2, e1, e2, e3⟩ := (jp_trace h _ : jp_ok1 (fX11_trace (jw_xq G (x3 + 1)) M) M (fX12_trace (jw_xq G (x3 + 1))))
  refine ⟨M2, e3, ?_⟩
  have c1 : jw_w (x3 + 1) = x3 + 1 := jw_ws (by omega)
  have c2 : jw_w (x3 + 2) = x3 + 2 := jw_ws (by omega)
  have c3 : jw_w (x3 + 3) = x3 + 3 := jw_ws (by omega)
  have c4 : jw_w (x3 + 4) = x3 + 4 := jw_ws (by omega)
  have c5 : jw_w (x3 + 5) = x3 + 5 := jw_ws (by omega)
  have c6 : jw_w (x3 + 6) = x3 + 6 := jw_ws (by omega)
  have b1 : 0 ≤ x3 + 1 ∧ x3 + 1 < jw_Ln G := by omega
  have b2 : 0 ≤ x3 + 2 ∧ x3 + 2 < jw_Ln G := by omega
  have b3 : 0 ≤ x3 + 3 ∧ x3 + 3 < jw_Ln G := by omega
  have b4 : 0 ≤ x3 + 4 ∧ x3 + 4 < jw_Ln G := by omega
  have b5 : 0 ≤ x3 + 5 ∧ x3 + 5 < jw_Ln G := by omega
  unfold fL_law_1415 fL_law_1475
  simp only [c1, c2, c3, c4, c5, c6, if_pos b1, if_pos b2, if_pos b3, if_pos b4, if_pos b5, e1, e2, jp_bs, jp_b2s, jw_cmp_eq, ↓reduceIte]
theorem jp_s_count {G : jw_G} {x3 : Int} {M : jw_M} (h : jp_inv M) (h0 : 0 ≤ x3 ∧ x3 + 5 < jw_Ln G) (hL : jw_Ln G ≤ 384) (r18 : Int → jw_M → Option (Int × jw_M)) : jp_stp G x3 r18 (fL_law_1438 G r18 x3 M) := by
  obtain ⟨v, M2, e1, e2, e3⟩ := (jp_count h _ : jp_ok1 (fX11_count (jw_xq G (x3 + 1)) M) M (fX12_count (jw_xq G (x3 + 1))))
  refine ⟨M2, e3, ?_⟩
  have c1 : jw_w (x3 + 1) = x3 + 1 := jw_ws (by omega)
  have c2 : jw_w (x3 + 2) = x3 + 2 := jw_ws (by omega)
  have c3 : jw_w (x3 + 3) = x3 + 3 := jw_ws (by omega)
  have c4 : jw_w (x3 + 4) = x3 + 4 := jw_ws (by omega)
  have c5 : jw_w (x3 + 5) = x3 + 5 := jw_ws (by omega)
  have c6 : jw_w (x3 + 6) = x3 + 6 := jw_ws (by omega)
  have b1 : 0 ≤ x3 + 1 ∧ x3 + 1 < jw_Ln G := by omega
  have b2 : 0 ≤ x3 + 2 ∧ x3 + 2 < jw_Ln G := by omega
  have b3 : 0 ≤ x3 + 3 ∧ x3 + 3 < jw_Ln G := by omega
  have b4 : 0 ≤ x3 + 4 ∧ x3 + 4 < jw_Ln G := by omega
  have b5 : 0 ≤ x3 + 5 ∧ x3 + 5 < jw_Ln G := by omega
  unfold fL_law_1438 fL_law_1475
  simp only [c1, c2, c3, c4, c5, c6, if_pos b1, if_pos b2, if_pos b3, if_pos b4, if_pos b5, e1, e2, jp_bs, jp_b2s, jw_cmp_eq, ↓reduceIte]
theorem jp_s_status {G : jw_G} {x3 : Int} {M : jw_M} (h : jp_inv M) (h0 : 0 ≤ x3 ∧ x3 + 5 < jw_Ln G) (hL : jw_Ln G ≤ 384) (r18 : Int → jw_M → Option (Int × jw_M)) : jp_stp G x3 r18 (fL_law_1462 G r18 x3 M) := by
  obtain ⟨v, M2, e1, e2, e3⟩ := (jp_status h  : jp_ok1 (fX11_status M) M (fX12_status))
  refine ⟨M2, e3, ?_⟩
  have c1 : jw_w (x3 + 1) = x3 + 1 := jw_ws (by omega)
  have c2 : jw_w (x3 + 2) = x3 + 2 := jw_ws (by omega)
  have c3 : jw_w (x3 + 3) = x3 + 3 := jw_ws (by omega)
  have c4 : jw_w (x3 + 4) = x3 + 4 := jw_ws (by omega)
  have c5 : jw_w (x3 + 5) = x3 + 5 := jw_ws (by omega)
  have c6 : jw_w (x3 + 6) = x3 + 6 := jw_ws (by omega)
  have b1 : 0 ≤ x3 + 1 ∧ x3 + 1 < jw_Ln G := by omega
  have b2 : 0 ≤ x3 + 2 ∧ x3 + 2 < jw_Ln G := by omega
  have b3 : 0 ≤ x3 + 3 ∧ x3 + 3 < jw_Ln G := by omega
  have b4 : 0 ≤ x3 + 4 ∧ x3 + 4 < jw_Ln G := by omega
  have b5 : 0 ≤ x3 + 5 ∧ x3 + 5 < jw_Ln G := by omega
  unfold fL_law_1462 fL_law_1475
  simp only [c1, c2, c3, c4, c5, c6, if_pos b1, if_pos b2, if_pos b3, if_pos b4, if_pos b5, e1, e2, jp_bs, jp_b2s, jw_cmp_eq, ↓reduceIte]
theorem jp_scripts {G : jw_G} (hL : jw_Ln G ≤ 384) : ∀ (k : Nat) (x3 : Int) (M : jw_M), jp_inv M → 0 ≤ x3 → jw_Ln G - x3 < (k : Int) → 1 ≤ k → x3 ≤ 1000 → ∃ M' : jw_M, fL_law_18 G k x3 M = some (1, M') := by
  intro k
  induction k with
  | zero => intro x3 M _ _ _ h; omega
  | succ k ih =>
    intro x3 M h h0 hk _ hx
    have hL0 : 0 ≤ jw_Ln G := by unfold jw_Ln; omega
    rw [fL_law_18, jw_ws (x := jw_Ln G - 6) (by omega)]
    by_cases e : jw_Ln G - 6 < x3
    · rw [if_pos e]
      exact ⟨M, rfl⟩
    · rw [if_neg e, if_pos (show 0 ≤ x3 ∧ x3 < jw_Ln G by omega)]
      have hb : 0 ≤ x3 ∧ x3 + 5 < jw_Ln G := by omega
      have fin : ∀ r : Option (Int × jw_M), jp_stp G x3 (fL_law_18 G k) r → ∃ M' : jw_M, r = some (1, M') := by
        intro r hr
        obtain ⟨M2, q1, q2⟩ := hr
        rw [q2]
        exact ih (x3 + 6) M2 q1 (by omega) (by omega) (by omega) (by omega)
      by_cases z0 : jw_iand (jw_xq G x3) 63 = 0
      · rw [if_pos z0]
        exact fin _ (jp_s_row h hb hL _)
      rw [if_neg z0]
      by_cases z1 : jw_iand (jw_xq G x3) 63 = 1
      · rw [if_pos z1]
        exact fin _ (jp_s_set h hb hL _)
      rw [if_neg z1]
      by_cases z2 : jw_iand (jw_xq G x3) 63 = 2
      · rw [if_pos z2]
        exact fin _ (jp_s_copy h hb hL _)
      rw [if_neg z2]
      by_cases z3 : jw_iand (jw_xq G x3) 63 = 3
      · rw [if_pos z3]
        exact fin _ (jp_s_drop h hb hL _)
      rw [if_neg z3]
      by_cases z4 : jw_iand (jw_xq G x3) 63 = 4
      · rw [if_pos z4]
        exact fin _ (jp_s_feed h hb hL _)
      rw [if_neg z4]
      by_cases z5 : jw_iand (jw_xq G x3) 63 = 5
      · rw [if_pos z5]
        exact fin _ (jp_s_pavement h hb hL _)
      rw [if_neg z5]
      by_cases z6 : jw_iand (jw_xq G x3) 63 = 6
      · rw [if_pos z6]
        exact fin _ (jp_s_fault h hb hL _)
      rw [if_neg z6]
      by_cases z7 : jw_iand (jw_xq G x3) 63 = 7
      · rw [if_pos z7]
        exact fin _ (jp_s_walk h hb hL _)
      rw [if_neg z7]
      by_cases z8 : jw_iand (jw_xq G x3) 63 = 8
      · rw [if_pos z8]
        exact fin _ (jp_s_goes h hb hL _)
      rw [if_neg z8]
      by_cases z9 : jw_iand (jw_xq G x3) 63 = 9
      · rw [if_pos z9]
        exact fin _ (jp_s_seller h hb hL _)
      rw [if_neg z9]
      by_cases z10 : jw_iand (jw_xq G x3) 63 = 10
      · rw [if_pos z10]
        exact fin _ (jp_s_watch h hb hL _)
      rw [if_neg z10]
      by_cases z11 : jw_iand (jw_xq G x3) 63 = 11
      · rw [if_pos z11]
        exact fin _ (jp_s_raid h hb hL _)
      rw [if_neg z11]
      by_cases z12 : jw_iand (jw_xq G x3) 63 = 12
      · rw [if_pos z12]
        exact fin _ (jp_s_two h hb hL _)
      rw [if_neg z12]
      by_cases z13 : jw_iand (jw_xq G x3) 63 = 13
      · rw [if_pos z13]
        exact fin _ (jp_s_after h hb hL _)
      rw [if_neg z13]
      by_cases z14 : jw_iand (jw_xq G x3) 63 = 14
      · rw [if_pos z14]
        exact fin _ (jp_s_nothing h hb hL _)
      rw [if_neg z14]
      by_cases z15 : jw_iand (jw_xq G x3) 63 = 15
      · rw [if_pos z15]
        exact fin _ (jp_s_keep h hb hL _)
      rw [if_neg z15]
      by_cases z16 : jw_iand (jw_xq G x3) 63 = 16
      · rw [if_pos z16]
        exact fin _ (jp_s_feared h hb hL _)
      rw [if_neg z16]
      by_cases z17 : jw_iand (jw_xq G x3) 63 = 17
      · rw [if_pos z17]
        exact fin _ (jp_s_score h hb hL _)
      rw [if_neg z17]
      by_cases z18 : jw_iand (jw_xq G x3) 63 = 18
      · rw [if_pos z18]
        exact fin _ (jp_s_may h hb hL _)
      rw [if_neg z18]
      by_cases z19 : jw_iand (jw_xq G x3) 63 = 19
      · rw [if_pos z19]
        exact fin _ (jp_s_newcomer h hb hL _)
      rw [if_neg z19]
      by_cases z20 : jw_iand (jw_xq G x3) 63 = 20
      · rw [if_pos z20]
        exact fin _ (jp_s_rest h hb hL _)
      rw [if_neg z20]
      by_cases z21 : jw_iand (jw_xq G x3) 63 = 21
      · rw [if_pos z21]
        exact fin _ (jp_s_settle h hb hL _)
      rw [if_neg z21]
      by_cases z22 : jw_iand (jw_xq G x3) 63 = 22
      · rw [if_pos z22]
        exact fin _ (jp_s_rests h hb hL _)
      rw [if_neg z22]
      by_cases z23 : jw_iand (jw_xq G x3) 63 = 23
      · rw [if_pos z23]
        exact fin _ (jp_s_saved h hb hL _)
      rw [if_neg z23]
      by_cases z24 : jw_iand (jw_xq G x3) 63 = 24
      · rw [if_pos z24]
        exact fin _ (jp_s_pays h hb hL _)
      rw [if_neg z24]
      by_cases z25 : jw_iand (jw_xq G x3) 63 = 25
      · rw [if_pos z25]
        exact fin _ (jp_s_stored h hb hL _)
      rw [if_neg z25]
      by_cases z26 : jw_iand (jw_xq G x3) 63 = 26
      · rw [if_pos z26]
        exact fin _ (jp_s_escapes h hb hL _)
      rw [if_neg z26]
      by_cases z27 : jw_iand (jw_xq G x3) 63 = 27
      · rw [if_pos z27]
        exact fin _ (jp_s_value h hb hL _)
      rw [if_neg z27]
      by_cases z28 : jw_iand (jw_xq G x3) 63 = 28
      · rw [if_pos z28]
        exact fin _ (jp_s_odds h hb hL _)
      rw [if_neg z28]
      by_cases z29 : jw_iand (jw_xq G x3) 63 = 29
      · rw [if_pos z29]
        exact fin _ (jp_s_owe h hb hL _)
      rw [if_neg z29]
      by_cases z30 : jw_iand (jw_xq G x3) 63 = 30
      · rw [if_pos z30]
        exact fin _ (jp_s_owed h hb hL _)
      rw [if_neg z30]
      by_cases z31 : jw_iand (jw_xq G x3) 63 = 31
      · rw [if_pos z31]
        exact fin _ (jp_s_passed h hb hL _)
      rw [if_neg z31]
      by_cases z32 : jw_iand (jw_xq G x3) 63 = 32
      · rw [if_pos z32]
        exact fin _ (jp_s_image h hb hL _)
      rw [if_neg z32]
      by_cases z33 : jw_iand (jw_xq G x3) 63 = 33
      · rw [if_pos z33]
        exact fin _ (jp_s_restore h hb hL _)
      rw [if_neg z33]
      by_cases z34 : jw_iand (jw_xq G x3) 63 = 34
      · rw [if_pos z34]
        exact fin _ (jp_s_kind h hb hL _)
      rw [if_neg z34]
      by_cases z35 : jw_iand (jw_xq G x3) 63 = 35
      · rw [if_pos z35]
        exact fin _ (jp_s_as h hb hL _)
      rw [if_neg z35]
      by_cases z36 : jw_iand (jw_xq G x3) 63 = 36
      · rw [if_pos z36]
        exact fin _ (jp_s_ask h hb hL _)
      rw [if_neg z36]
      by_cases z37 : jw_iand (jw_xq G x3) 63 = 37
      · rw [if_pos z37]
        exact fin _ (jp_s_trace h hb hL _)
      rw [if_neg z37]
      by_cases z38 : jw_iand (jw_xq G x3) 63 = 38
      · rw [if_pos z38]
        exact fin _ (jp_s_count h hb hL _)
      rw [if_neg z38]
      by_cases z39 : jw_iand (jw_xq G x3) 63 = 39
      · rw [if_pos z39]
        exact fin _ (jp_s_status h hb hL _)
      rw [if_neg z39]
      refine fin _ ⟨M, h, ?_⟩
      unfold fL_law_1475
      rw [jp_bs, jw_ws (x := x3 + 6) (by omega)]
