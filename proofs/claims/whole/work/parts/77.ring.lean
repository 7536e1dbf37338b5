/-! rings of debts: the model -/
theorem jp_tmx {k L : Int} (h : 0 ≤ k ∧ k < L) : Int.tmod (k + 1) L = jp_nx L k := by
  unfold jp_nx
  rw [Int.tmod_eq_emod_of_nonneg (by omega)]
  by_cases e : k + 1 < L
  · rw [if_pos e, Int.emod_eq_of_lt (by omega) e]
  · rw [if_neg e, show k + 1 = L by omega, Int.emod_self]
theorem jp_5p {L : Int} (h : 2 ≤ L ∧ L ≤ 5) : 25 ≤ (5 : Int) ^ L.toNat ∧ (5 : Int) ^ L.toNat ≤ 3125 := by
  have h1 : L = 2 ∨ L = 3 ∨ L = 4 ∨ L = 5 := by omega
  rcases h1 with rfl | rfl | rfl | rfl <;> decide
theorem gX12_layRing_41 {S : Int → Int} {L : Int} (hL : 2 ≤ L ∧ L ≤ 5) (M : jw_M) (hD : ∀ j : Int, 0 ≤ j → j < 25 → M 133 (79 + j) = S j) (hd : jp_d5 L (M 143)) : ∃ v : Int, fX12_layRing_41 jw_fu L 0 1 0 M = some (v, M) ∧ ((v = 1 ∧ jp_rv S L (M 143)) ∨ (v = 0 ∧ ¬ jp_rv S L (M 143))) := by
  refine jp_up (fun k i (a : Int × Int) => fX12_layRing_41 k L a.1 a.2 i M) L (fun i a => 0 ≤ i ∧ (∃ p : Int → Bool, jp_sh2 a.1 p ∧ ∀ c : Int, p c = true ↔ ∃ j : Int, 0 ≤ j ∧ j < i ∧ M 143 j = c) ∧ ((a.2 = 1 ∧ ∀ k : Int, 0 ≤ k → k < i → jp_rk S L (M 143) k) ∨ (a.2 = 0 ∧ ¬ jp_rv S L (M 143)))) (fun r => ∃ v : Int, r = some (v, M) ∧ ((v = 1 ∧ jp_rv S L (M 143)) ∨ (v = 0 ∧ ¬ jp_rv S L (M 143)))) ?_ ?_ jw_fu 0 (0, 1) (by unfold jw_fu; omega) (by omega) ⟨by omega, ⟨fun _ => false, ⟨(by decide : (0 : Int) ≤ 0 ∧ (0 : Int) < 128), fun c a b => by show jp_bit 0 c = 0; unfold jp_bit; simp⟩, fun c => ⟨fun z => (by cases z), fun ⟨j, a, b, _⟩ => by omega⟩⟩, Or.inl ⟨rfl, fun k a b => by omega⟩⟩
  · intro k i a hp hi ih
    obtain ⟨met, is⟩ := a
    obtain ⟨h0, ⟨p, hp1, hp2⟩, hv⟩ := hp
    simp only at hp1 hv
    show ∃ v : Int, fX12_layRing_41 (k + 1) L met is i M = some (v, M) ∧ _
    rw [fX12_layRing_41, if_pos hi]
    unfold fX12_layRing_112 fX12_layRing_113
    rcases hv with ⟨rfl, hv⟩ | ⟨rfl, hv⟩
    · have h2 := hd i h0 hi
      have g1 := jp_nx_r (L := L) (k := i) (by omega)
      have g2 := hd _ g1.1 g1.2
      have next : ∀ is' : Int, ((is' = 1 ∧ jp_rk S L (M 143) i) ∨ (is' = 0 ∧ ¬ jp_rk S L (M 143) i)) → ∃ v : Int, fX12_layRing_41 k L (jw_ior met (jw_ishl 1 (M 143 i))) is' (i + 1) M = some (v, M) ∧ ((v = 1 ∧ jp_rv S L (M 143)) ∨ (v = 0 ∧ ¬ jp_rv S L (M 143))) := by
        intro is' his
        refine ih (_, is') ⟨by omega, ⟨jp_j1 p (M 143 i), jp_sh2_j hp1 (by omega), fun c => ?_⟩, ?_⟩
        · by_cases e : c = M 143 i
          · rw [e, jp_j1_s]
            exact ⟨fun _ => ⟨i, h0, by omega, rfl⟩, fun _ => rfl⟩
          · rw [jp_j1_n p e, hp2 c]
            refine ⟨fun ⟨j, a, b, c⟩ => ⟨j, a, by omega, c⟩, fun ⟨j, a, b, c'⟩ => ⟨j, a, ?_, c'⟩⟩
            by_cases z : j = i
            · rw [z] at c'; exact absurd c'.symm e
            · omega
        · rcases his with ⟨e1, e2⟩ | ⟨e1, e2⟩
          · refine Or.inl ⟨e1, fun k' a b => ?_⟩
            by_cases z : k' = i
            · rw [z]; exact e2
            · exact hv k' a (by omega)
          · exact Or.inr ⟨e1, fun z => e2 (z i h0 hi)⟩
      rw [if_neg (by decide), if_pos (by omega)]
      by_cases e1 : jw_iand (jw_ishr met (M 143 i)) 1 = 0
      · have hnew : ∀ j : Int, 0 ≤ j → j < i → M 143 j ≠ M 143 i := by
          intro j a b z
          have q := (jp_sh2_0 hp1 (c := M 143 i) (by omega)).mp e1
          have := (hp2 (M 143 i)).mpr ⟨j, a, b, z⟩
          rw [q] at this; cases this
        rw [if_pos e1, if_pos (by omega), if_pos (by decide)]
        by_cases e2 : M 143 i < M 143 0
        · rw [if_pos e2, jp_bs, if_pos (by omega), jp_bs, jp_bs, jw_ws (by omega)]
          refine next 0 (Or.inr ⟨rfl, fun z => ?_⟩)
          have := z.2.1
          omega
        · rw [if_neg e2, if_pos (by omega), if_pos (by omega), jw_ws (x := i + 1) (by omega), jp_tmx (by omega), jw_ws (x := jp_nx L i) (by omega), if_pos (by omega), gX12_owes _ _ _ (by omega), jp_bs, show 79 + 5 * M 143 i + M 143 (jp_nx L i) = 79 + (5 * M 143 i + M 143 (jp_nx L i)) by omega, hD _ (by omega) (by omega)]
          by_cases e3 : 0 < S (5 * M 143 i + M 143 (jp_nx L i))
          · rw [if_pos e3, jp_bs, if_pos (by omega), jp_bs, jp_bs]
            exact next 1 (Or.inl ⟨rfl, hnew, by omega, e3⟩)
          · rw [if_neg e3, jp_bs, if_pos (by omega), jp_bs, jp_bs]
            exact next 0 (Or.inr ⟨rfl, fun z => e3 z.2.2⟩)
      · rw [if_neg e1, jp_bs, if_pos (by omega), jp_bs, jp_bs, jw_ws (by omega)]
        refine next 0 (Or.inr ⟨rfl, fun z => e1 ((jp_sh2_0 hp1 (by omega)).mpr ?_)⟩)
        cases q : p (M 143 i) with
        | false => rfl
        | true =>
          obtain ⟨j, a, b, c⟩ := (hp2 _).mp q
          exact absurd c (z.1 j a b)
    · rw [if_pos rfl, if_pos (Or.inl rfl)]
      exact ⟨0, rfl, Or.inr ⟨rfl, hv⟩⟩
  · intro k a hp
    obtain ⟨met, is⟩ := a
    obtain ⟨h0, -, hv⟩ := hp
    simp only at hv
    show ∃ v : Int, fX12_layRing_41 (k + 1) L met is L M = some (v, M) ∧ _
    rw [fX12_layRing_41, if_neg (by omega)]
    rcases hv with ⟨rfl, hv⟩ | ⟨rfl, hv⟩
    · rw [if_pos (Or.inr rfl)]
      exact ⟨1, rfl, Or.inl ⟨rfl, hv⟩⟩
    · rw [if_pos (Or.inl rfl)]
      exact ⟨0, rfl, Or.inr ⟨rfl, hv⟩⟩
theorem gX12_layRing {S : Int → Int} {L : Int} (hL : 2 ≤ L ∧ L ≤ 5) (M : jw_M) (hD : ∀ j : Int, 0 ≤ j → j < 25 → M 133 (79 + j) = S j) (row : Int) (hr : 0 ≤ row ∧ row < 5 ^ L.toNat) : ∃ (v : Int) (N : jw_M), fX12_layRing row L M = some (v, N) ∧ (∀ k : Nat, k ≠ 143 → N k = M k) ∧ (∀ j : Int, 0 ≤ j → j < L → N 143 j = jp_dg 5 row L j) ∧ ((v = 1 ∧ jp_rv S L (N 143)) ∨ (v = 0 ∧ ¬ jp_rv S L (N 143))) := by
  have h5 := jp_5p hL
  unfold fX12_layRing
  rw [jp_bs, jp_bs, jw_ws (by omega)]
  refine jp_dn (fun k i (a : Int × jw_M) => fX12_layRing_7 k L a.1 i a.2) (fun i a => i < L ∧ a.1 = row / 5 ^ (L - 1 - i).toNat ∧ (∀ k : Nat, k ≠ 143 → a.2 k = M k) ∧ ∀ j : Int, i < j → j < L → a.2 143 j = jp_dg 5 row L j) (fun r => ∃ (v : Int) (N : jw_M), r = some (v, N) ∧ (∀ k : Nat, k ≠ 143 → N k = M k) ∧ (∀ j : Int, 0 ≤ j → j < L → N 143 j = jp_dg 5 row L j) ∧ ((v = 1 ∧ jp_rv S L (N 143)) ∨ (v = 0 ∧ ¬ jp_rv S L (N 143)))) ?_ ?_ jw_fu (L - 1) (row, M) (by unfold jw_fu; omega) (by omega) ⟨by omega, ?_, fun _ _ => rfl, fun j a b => by omega⟩
  · intro k i a hp hi ih
    obtain ⟨left, N⟩ := a
    obtain ⟨hi2, hl, hf, hj⟩ := hp
    simp only at hl hf hj
    have hq : 0 ≤ left ∧ left ≤ row := by
      rw [hl]
      exact ⟨Int.ediv_nonneg hr.1 (Int.pow_nonneg (by omega)), Int.ediv_le_self _ hr.1⟩
    have hl2 : left.tdiv 5 = row / 5 ^ (L - 1 - (i - 1)).toNat := by
      rw [Int.tdiv_eq_ediv_of_nonneg hq.1, hl, jp_dq (by omega), show (L - 1 - (i - 1)).toNat = (L - 1 - i).toNat + 1 by omega]
    have hm : left.tmod 5 = jp_dg 5 row L i := by
      rw [Int.tmod_eq_emod_of_nonneg hq.1, hl]
      rfl
    have hdr := jp_dg_r (B := 5) (by omega) row L i
    have hdq : 0 ≤ left.tdiv 5 ∧ left.tdiv 5 ≤ left := by
      rw [Int.tdiv_eq_ediv_of_nonneg hq.1]
      omega
    show ∃ (v : Int) (N' : jw_M), fX12_layRing_7 (k + 1) L left i N = some (v, N') ∧ _
    rw [fX12_layRing_7, if_neg (by omega), if_pos (by decide), if_pos (by omega), jp_bs, if_pos (by decide), jp_bs, jp_bs, hm, jw_ws (x := jp_dg 5 row L i) (by omega), jw_ws (x := left.tdiv 5) (by omega), jw_ws (x := i + -1) (by omega)]
    refine ih (left.tdiv 5, jw_up N 143 i (jp_dg 5 row L i)) ⟨by omega, hl2, fun k hk => ?_, fun j a b => ?_⟩
    · show jw_up N 143 i (jp_dg 5 row L i) k = M k
      rw [jw_up_ne _ hk]; exact hf k hk
    · show jw_up N 143 i (jp_dg 5 row L i) 143 j = _
      rw [jw_up_eq, jw_u1_a]
      by_cases e : j = i
      · rw [if_pos e, e]
      · rw [if_neg e]; exact hj j (by omega) b
  · intro k a hp
    obtain ⟨left, N⟩ := a
    obtain ⟨hi2, hl, hf, hj⟩ := hp
    simp only at hl hf hj
    have hd : jp_d5 L (N 143) := fun j a b => by rw [hj j (by omega) b]; exact jp_dg_r (by omega) row L j
    obtain ⟨v, v1, v2⟩ := gX12_layRing_41 (S := S) hL N (fun j a b => by rw [hf _ (by decide)]; exact hD j a b) hd
    show ∃ (v : Int) (N' : jw_M), fX12_layRing_7 (k + 1) L left (-1) N = some (v, N') ∧ _
    rw [fX12_layRing_7, if_pos (by omega), jp_bs, jp_bs, jp_bs, v1]
    exact ⟨v, N, rfl, hf, fun j a b => hj j (by omega) b, v2⟩
  · show row = row / 5 ^ (L - 1 - (L - 1)).toNat
    rw [show (L - 1 - (L - 1)).toNat = 0 by omega, Int.pow_zero, Int.ediv_one]
/-- the model lessens -/
theorem gX12_take_42 {S : Int → Int} {n L : Int} (hS : jp_Sn S n) (hL : 2 ≤ L ∧ L ≤ 5) (M : jw_M) (hD : ∀ j : Int, 0 ≤ j → j < 25 → M 133 (79 + j) = S j) (hd : jp_d5 L (M 143)) (hv : jp_rv S L (M 143)) : ∃ N : jw_M, fX12_takesRing_42 jw_fu L 9999 0 M = some (1, N) ∧ (∀ k : Nat, k ≠ 133 → N k = M k) ∧ (∀ j : Int, j < 79 → N 133 j = M 133 j) ∧ (∀ j : Int, 0 ≤ j → j < 25 → N 133 (79 + j) = jp_ld S L (M 143) (jp_lm S L (M 143) L.toNat) L.toNat j) := by
  refine jp_up (fun k i a => fX12_takesRing_42 k L a i M) L (fun i a => 0 ≤ i ∧ a = jp_lm S L (M 143) i.toNat) (fun r => ∃ N : jw_M, r = some (1, N) ∧ (∀ k : Nat, k ≠ 133 → N k = M k) ∧ (∀ j : Int, j < 79 → N 133 j = M 133 j) ∧ (∀ j : Int, 0 ≤ j → j < 25 → N 133 (79 + j) = jp_ld S L (M 143) (jp_lm S L (M 143) L.toNat) L.toNat j)) ?_ ?_ jw_fu 0 9999 (by unfold jw_fu; omega) (by omega) ⟨by omega, rfl⟩
  · intro k i a hp hi ih
    obtain ⟨h0, rfl⟩ := hp
    have h1 := jp_nx_r (L := L) (k := i) (by omega)
    have h2 := hd i h0 hi
    have h3 := hd _ h1.1 h1.2
    have es := jp_lm_s S L (M 143) h0
    show ∃ N : jw_M, fX12_takesRing_42 (k + 1) L (jp_lm S L (M 143) i.toNat) i M = some (1, N) ∧ _
    rw [fX12_takesRing_42, if_pos hi, if_pos (by omega), if_pos (by omega), jw_ws (x := i + 1) (by omega), jp_tmx (by omega), jw_ws (x := jp_nx L i) (by omega), if_pos (by omega), gX12_owes _ _ _ (by omega), jp_bs, jp_bs, show 79 + 5 * M 143 i + M 143 (jp_nx L i) = 79 + (5 * M 143 i + M 143 (jp_nx L i)) by omega, hD _ (by omega) (by omega)]
    unfold fX12_takesRing_86
    by_cases e : S (5 * M 143 i + M 143 (jp_nx L i)) < jp_lm S L (M 143) i.toNat
    · rw [if_pos e] at es
      rw [if_pos e, jp_bs, jp_bs, jw_ws (by omega)]
      exact ih _ ⟨by omega, es.symm⟩
    · rw [if_neg e] at es
      rw [if_neg e, jp_bs, jp_bs, jw_ws (by omega)]
      exact ih _ ⟨by omega, es.symm⟩
  · intro k a hp
    obtain ⟨h0, rfl⟩ := hp
    obtain ⟨m1, m2, m3⟩ := jp_lm_r hS hd hv L.toNat (by omega)
    show ∃ N : jw_M, fX12_takesRing_42 (k + 1) L (jp_lm S L (M 143) L.toNat) L M = some (1, N) ∧ _
    rw [fX12_takesRing_42, if_neg (by omega), jp_bs]
    generalize jp_lm S L (M 143) L.toNat = v at m1 m2 m3 ⊢
    refine jp_up (fun k i N => fX12_takesRing_97 k L v i N) L (fun i N => 0 ≤ i ∧ (∀ k : Nat, k ≠ 133 → N k = M k) ∧ (∀ j : Int, j < 79 → N 133 j = M 133 j) ∧ (∀ j : Int, 0 ≤ j → j < 25 → N 133 (79 + j) = jp_ld S L (M 143) v i.toNat j)) (fun r => ∃ N : jw_M, r = some (1, N) ∧ (∀ k : Nat, k ≠ 133 → N k = M k) ∧ (∀ j : Int, j < 79 → N 133 j = M 133 j) ∧ (∀ j : Int, 0 ≤ j → j < 25 → N 133 (79 + j) = jp_ld S L (M 143) v L.toNat j)) ?_ ?_ jw_fu 0 M (by unfold jw_fu; omega) (by omega) ⟨by omega, fun _ _ => rfl, fun _ _ => rfl, hD⟩
    · intro k i N hp hi ih
      obtain ⟨h0, f1, f2, f3⟩ := hp
      have h1 := jp_nx_r (L := L) (k := i) (by omega)
      have h2 := hd i h0 hi
      have h3 := hd _ h1.1 h1.2
      have es := jp_ld_s S L (M 143) v h0
      have l2 := (jp_ld_v (S := S) v hd (fun k a b => (hv k a b).1) i.toNat (by omega)).2 (5 * M 143 i + M 143 (jp_nx L i)) (fun k a b e => by
        have g1 := jp_nx_r (L := L) (k := k) (by omega)
        have g2 := hd _ g1.1 g1.2
        have g3 := (hv i (by omega) (by omega)).1 k a (by omega)
        omega)
      have h5 := hS.2 (M 143 i) (M 143 (jp_nx L i)) (by omega) (by omega) (by omega) (by omega)
      have x143 : N 143 = M 143 := f1 _ (by decide)
      have fi := f3 (5 * M 143 i + M 143 (jp_nx L i)) (by omega) (by omega)
      show ∃ N' : jw_M, fX12_takesRing_97 (k + 1) L v i N = some (1, N') ∧ _
      rw [fX12_takesRing_97, if_pos hi, if_pos (by omega), if_pos (by omega), jw_ws (x := i + 1) (by omega), jp_tmx (by omega), jw_ws (x := jp_nx L i) (by omega), if_pos (by omega), x143, jw_ws (x := 5 * M 143 i) (by omega), jw_ws (x := 79 + 5 * M 143 i) (by omega), jw_ws (x := 79 + 5 * M 143 i + M 143 (jp_nx L i)) (by omega), if_pos (by omega), if_pos (by omega), jp_bs, jp_bs, show 79 + 5 * M 143 i + M 143 (jp_nx L i) = 79 + (5 * M 143 i + M 143 (jp_nx L i)) by omega, fi, jw_ws (by rw [l2]; omega)]
      refine ih _ ⟨by omega, fun k hk => by rw [jw_up_ne _ hk]; exact f1 k hk, fun j hj => by rw [jw_up_eq, jw_u1_n _ (by omega)]; exact f2 j hj, fun j a b => ?_⟩
      rw [jw_up_eq, es, jw_u1_a, jw_u1_a]
      by_cases e : j = 5 * M 143 i + M 143 (jp_nx L i)
      · rw [if_pos (by omega), if_pos e]
      · rw [if_neg (by omega), if_neg e]
        exact f3 j a b
    · intro k N hp
      obtain ⟨h0, f1, f2, f3⟩ := hp
      refine ⟨N, ?_, f1, f2, f3⟩
      show fX12_takesRing_97 (k + 1) L v L N = _
      rw [fX12_takesRing_97, if_neg (by omega)]
theorem jp_rv_c {S : Int → Int} {L : Int} {x y : Int → Int} (hx : ∀ j : Int, 0 ≤ j → j < L → x j = y j) (hL : 0 < L) (h : jp_rv S L y) : jp_rv S L x := by
  intro k a b
  obtain ⟨q1, q2, q3⟩ := h k a b
  have h1 := jp_nx_r (L := L) (k := k) (by omega)
  refine ⟨fun j j0 j1 => ?_, ?_, ?_⟩
  · rw [hx j j0 (by omega), hx k a b]; exact q1 j j0 j1
  · rw [hx 0 (by omega) (by omega), hx k a b]; exact q2
  · rw [hx k a b, hx _ h1.1 h1.2]; exact q3
/-- what the model's search gives: the ring of the least number -/
def jp_tk (S : Int → Int) (L : Int) (M N : jw_M) : Prop := ∃ x : Int → Int, jp_d5 L x ∧ jp_rv S L x ∧ (∀ y : Int → Int, jp_d5 L y → jp_rv S L y → jp_cb 5 x L.toNat ≤ jp_cb 5 y L.toNat) ∧ (∀ k : Nat, k ≠ 133 → k ≠ 143 → N k = M k) ∧ (∀ j : Int, j < 79 → N 133 j = M 133 j) ∧ (∀ j : Int, 0 ≤ j → j < 25 → N 133 (79 + j) = jp_ld S L x (jp_lm S L x L.toNat) L.toNat j)
theorem gX12_take_20 {S : Int → Int} {n L : Int} (hS : jp_Sn S n) (hL : 2 ≤ L ∧ L ≤ 5) (M : jw_M) (hD : ∀ j : Int, 0 ≤ j → j < 25 → M 133 (79 + j) = S j) (r4 : Int → Int → jw_M → Option (Int × jw_M)) (N0 : jw_M) (h0 : ∀ k : Nat, k ≠ 143 → N0 k = M k) : ∃ N : jw_M, (fX12_takesRing_20 r4 jw_fu (5 ^ L.toNat) L 0 N0 = some (1, N) ∧ jp_tk S L M N) ∨ (jp_no S L ∧ (∀ k : Nat, k ≠ 143 → N k = M k) ∧ fX12_takesRing_20 r4 jw_fu (5 ^ L.toNat) L 0 N0 = r4 (5 ^ L.toNat) (L + 1) N) := by
  have h5 := jp_5p hL
  refine jp_up (fun k i N => fX12_takesRing_20 r4 k (5 ^ L.toNat) L i N) (5 ^ L.toNat) (fun i N => 0 ≤ i ∧ (∀ k : Nat, k ≠ 143 → N k = M k) ∧ ∀ row : Int, 0 ≤ row → row < i → ¬ jp_rv S L (jp_dg 5 row L)) (fun r => ∃ N : jw_M, (r = some (1, N) ∧ jp_tk S L M N) ∨ (jp_no S L ∧ (∀ k : Nat, k ≠ 143 → N k = M k) ∧ r = r4 (5 ^ L.toNat) (L + 1) N)) ?_ ?_ jw_fu 0 N0 (by unfold jw_fu; omega) (by omega) ⟨by omega, h0, fun row a b => by omega⟩
  · intro k i N hp hi ih
    obtain ⟨i0, hf, hno⟩ := hp
    obtain ⟨v, N', r1, r2, r3, r5⟩ := gX12_layRing (S := S) hL N (fun j a b => by rw [hf _ (by decide)]; exact hD j a b) i ⟨i0, hi⟩
    have hf' : ∀ k : Nat, k ≠ 143 → N' k = M k := fun k hk => by rw [r2 k hk, hf k hk]
    have hd : jp_d5 L (N' 143) := fun j a b => by rw [r3 j a b]; exact jp_dg_r (by omega) i L j
    show ∃ N2 : jw_M, (fX12_takesRing_20 r4 (k + 1) (5 ^ L.toNat) L i N = _ ∧ _) ∨ (_ ∧ _ ∧ fX12_takesRing_20 r4 (k + 1) (5 ^ L.toNat) L i N = _)
    rw [fX12_takesRing_20, if_pos hi, r1, jp_b2s]
    rcases r5 with ⟨rfl, hv⟩ | ⟨rfl, hv⟩
    · rw [if_neg (by decide), jp_bs, jp_bs]
      obtain ⟨N2, m1, m2, m3, m4⟩ := gX12_take_42 hS hL N' (fun j a b => by rw [hf' _ (by decide)]; exact hD j a b) hd hv
      refine ⟨N2, Or.inl ⟨m1, N' 143, hd, hv, fun y hdy hvy => ?_, fun k a b => by rw [m2 k a, hf' k b], fun j hj => by rw [m3 j hj, hf' _ (by decide)], m4⟩⟩
      have ec : jp_cb 5 (N' 143) L.toNat = i := by
        rw [jp_cb_c (y := jp_dg 5 i L) L.toNat (fun j a b => r3 j a (by omega))]
        have := jp_cb_dgn (B := 5) (by omega) (row := i) (n := L.toNat) ⟨i0, hi⟩
        rw [Int.toNat_of_nonneg (by omega)] at this
        exact this
      rw [ec]
      have hyr := jp_cb_r (B := 5) (by omega) (x := y) L.toNat (fun j a b => hdy j a (by omega))
      by_cases z : i ≤ jp_cb 5 y L.toNat
      · exact z
      · exfalso
        refine hno (jp_cb 5 y L.toNat) hyr.1 (by omega) (jp_rv_c (y := y) (fun j a b => ?_) (by omega) hvy)
        have e1 := jp_cb_dgn (B := 5) (by omega) (row := jp_cb 5 y L.toNat) (n := L.toNat) hyr
        rw [Int.toNat_of_nonneg (by omega)] at e1
        exact jp_cb_eq (B := 5) (by omega) (x := jp_dg 5 (jp_cb 5 y L.toNat) L) (y := y) (n := L.toNat) (fun j a b => jp_dg_r (by omega) _ _ _) (fun j a b => hdy j a (by omega)) e1 j a (by omega)
    · rw [if_pos rfl, jp_bs, jw_ws (by omega)]
      refine ih N' ⟨by omega, hf', fun row a b => ?_⟩
      by_cases z : row = i
      · rw [z]
        exact fun hz => hv (jp_rv_c r3 (by omega) hz)
      · exact hno row a (by omega)
  · intro k N hp
    obtain ⟨i0, hf, hno⟩ := hp
    refine ⟨N, Or.inr ⟨fun y hdy hvy => ?_, hf, ?_⟩⟩
    · have hyr := jp_cb_r (B := 5) (by omega) (x := y) L.toNat (fun j a b => hdy j a (by omega))
      refine hno (jp_cb 5 y L.toNat) hyr.1 hyr.2 (jp_rv_c (y := y) (fun j a b => ?_) (by omega) hvy)
      have e1 := jp_cb_dgn (B := 5) (by omega) (row := jp_cb 5 y L.toNat) (n := L.toNat) hyr
      rw [Int.toNat_of_nonneg (by omega)] at e1
      exact jp_cb_eq (B := 5) (by omega) (x := jp_dg 5 (jp_cb 5 y L.toNat) L) (y := y) (n := L.toNat) (fun j a b => jp_dg_r (by omega) _ _ _) (fun j a b => hdy j a (by omega)) e1 j a (by omega)
    · show fX12_takesRing_20 r4 (k + 1) (5 ^ L.toNat) L (5 ^ L.toNat) N = _
      rw [fX12_takesRing_20, if_neg (by omega), jp_bs, jw_ws (by omega)]
theorem gX12_takesRing {S : Int → Int} {n : Int} (hS : jp_Sn S n) (M : jw_M) (hn : M 131 3 = n) (hD : ∀ j : Int, 0 ≤ j → j < 25 → M 133 (79 + j) = S j) : ∃ N : jw_M, (fX12_takesRing M = some (0, N) ∧ (∀ k : Nat, k ≠ 143 → N k = M k) ∧ ∀ L : Int, 2 ≤ L → L ≤ n → jp_no S L) ∨ (fX12_takesRing M = some (1, N) ∧ ∃ L : Int, 2 ≤ L ∧ L ≤ n ∧ (∀ L' : Int, 2 ≤ L' → L' < L → jp_no S L') ∧ jp_tk S L M N) := by
  have hn5 := hS.1
  unfold fX12_takesRing
  rw [jp_bs, jp_bs]
  by_cases h2 : n < 2
  · refine ⟨M, Or.inl ⟨?_, fun _ _ => rfl, fun L a b => by omega⟩⟩
    show fX12_takesRing_4 (99999 + 1) 5 2 M = _
    rw [fX12_takesRing_4, if_pos (by decide), hn, if_pos h2]
  · refine jp_up (fun k L (a : Int × jw_M) => fX12_takesRing_4 k a.1 L a.2) (n + 1) (fun L a => 2 ≤ L ∧ a.1 * 5 = 5 ^ L.toNat ∧ (∀ k : Nat, k ≠ 143 → a.2 k = M k) ∧ ∀ L' : Int, 2 ≤ L' → L' < L → jp_no S L') (fun r => ∃ N : jw_M, (r = some (0, N) ∧ (∀ k : Nat, k ≠ 143 → N k = M k) ∧ ∀ L : Int, 2 ≤ L → L ≤ n → jp_no S L) ∨ (r = some (1, N) ∧ ∃ L : Int, 2 ≤ L ∧ L ≤ n ∧ (∀ L' : Int, 2 ≤ L' → L' < L → jp_no S L') ∧ jp_tk S L M N)) ?_ ?_ jw_fu 2 (5, M) (by unfold jw_fu; omega) (by omega) ⟨by omega, (by decide : (5 : Int) * 5 = 5 ^ (2 : Int).toNat), fun _ _ => rfl, fun L a b => by omega⟩
    · intro k L a hp hL ih
      obtain ⟨rr, N⟩ := a
      obtain ⟨l0, lr, hf, hno⟩ := hp
      simp only at lr hf
      have h5 := jp_5p (L := L) (by omega)
      show ∃ N' : jw_M, (fX12_takesRing_4 (k + 1) rr L N = _ ∧ _) ∨ (fX12_takesRing_4 (k + 1) rr L N = _ ∧ _)
      rw [fX12_takesRing_4, if_pos (by decide), hf 131 (by decide), hn, if_neg (by omega), jp_bs, jp_bs, lr, jw_ws (by omega)]
      obtain ⟨N', hN⟩ := gX12_take_20 hS (L := L) (by omega) M hD (fX12_takesRing_4 k) N hf
      rcases hN with ⟨g1, g2⟩ | ⟨g1, g2, g3⟩
      · exact ⟨N', Or.inr ⟨g1, L, l0, by omega, hno, g2⟩⟩
      · rw [g3]
        refine ih (5 ^ L.toNat, N') ⟨by omega, ?_, g2, fun L' a b => ?_⟩
        · show 5 ^ L.toNat * 5 = 5 ^ (L + 1).toNat
          rw [show (L + 1).toNat = L.toNat + 1 by omega, Int.pow_succ]
        · by_cases z : L' = L
          · rw [z]; exact g1
          · exact hno L' a (by omega)
    · intro k a hp
      obtain ⟨rr, N⟩ := a
      obtain ⟨l0, lr, hf, hno⟩ := hp
      simp only at lr hf
      refine ⟨N, Or.inl ⟨?_, hf, fun L a b => hno L a (by omega)⟩⟩
      show fX12_takesRing_4 (k + 1) rr (n + 1) N = _
      rw [fX12_takesRing_4, if_pos (by decide), hf 131 (by decide), hn, if_pos (by omega)]
