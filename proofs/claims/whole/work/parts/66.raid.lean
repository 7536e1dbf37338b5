/-! raids: class and model -/
def jp_bg (M : jw_M) (q : Int) : jw_M := jw_pt (jw_pt (jw_up (jw_up M 24 0 q) 24 1 0) 25 (jw_ff (M 25) 0 7 1000000)) 29 (jw_ff (M 29) 0 20 0)
theorem gX3_begin (M : jw_M) (q : Int) : fX3_begin (9 + 15) q M = some (jp_bg M q) := by
  unfold fX3_begin jp_bg
  rw [if_pos (by decide), jp_bs, jp_bs, gJ7_fill (9 + 15 + 1) (by decide), jp_bs, gJ7_fill (9 + 15 + 5) (by decide), jp_bs]
  rfl
theorem bX3_begin (M : jw_M) (q : Int) {be : Type} (kk : _ → Option be) : Option.bind (fX3_begin (9 + 15) q M) kk = kk ((jp_bg M q)) := by rw [show fX3_begin (9 + 15) q M = some (jp_bg M q) from gX3_begin M q]; rfl
theorem jp_bg_f (M : jw_M) (q : Int) : (∀ k : Nat, k ≠ 24 → k ≠ 25 → k ≠ 29 → jp_bg M q k = M k) ∧ jp_bg M q 24 0 = q ∧ jp_bg M q 24 1 = 0 ∧ jp_bg M q 25 = jw_ff (M 25) 0 7 1000000 ∧ (∀ k : Int, 0 ≤ k → k < 20 → jp_bg M q 29 k = 0) := by
  unfold jp_bg
  refine ⟨fun k a b c => by rw [jw_pt_ne _ c, jw_pt_ne _ b, jw_up_ne _ a, jw_up_ne _ a], ?_, ?_, ?_, fun k a b => ?_⟩
  · rw [jw_pt_ne _ (by decide), jw_pt_ne _ (by decide), jw_up_eq, jw_u1_n _ (by decide), jw_up_eq, jw_u1_s]
  · rw [jw_pt_ne _ (by decide), jw_pt_ne _ (by decide), jw_up_eq, jw_u1_s]
  · rw [jw_pt_ne _ (by decide), jw_pt_eq]
  · rw [jw_pt_eq, jw_ff_a, if_pos ⟨a, b⟩]
theorem jp_ff_cok (f : Int → Int) : jp_cok (jw_ff f 0 7 1000000) := fun c a b => by rw [jw_ff_a, if_pos ⟨a, b⟩]; omega
theorem gX11_raid_153 {M : jw_M} (h : jp_Xc M) : ∃ N : jw_M, fX11_raidFrom_153 M = some (jp_mask (fun s => decide (jp_o (M 131) (M 25) (M 23) (M 22) s = 2)) (M 131 3).toNat, jw_up N 0 10 0) ∧ jp_jI M N (M 131 3) (M 131 3) 0 := by
  obtain ⟨⟨r0, r2, r3, r4, r5⟩, -⟩ := jp_A_r h.1
  obtain ⟨-, -, g4, g7⟩ := jp_A_c h.1
  obtain ⟨N, n1, n2⟩ := gX3_judge h
  refine ⟨N, ?_, n2⟩
  have e17 : N (9 + 8) 4 = M 131 3 := by rw [n2.1 (9 + 8) (by decide) (by decide) (by decide) (by decide)]; exact g4
  unfold fX11_raidFrom_153 fX11_foundNothing
  rw [n1, jp_bs, e17, gX3_caughtBits _ _ r3, jp_bs, jp_bs, jp_b2s]
  have e : jp_mask (fun s => decide (N 28 s = 2)) (M 131 3).toNat = jp_mask (fun s => decide (jp_o (M 131) (M 25) (M 23) (M 22) s = 2)) (M 131 3).toNat := jp_mask_c _ (fun s a b => by
    show decide (N 28 s = 2) = decide (jp_o (M 131) (M 25) (M 23) (M 22) s = 2)
    rw [(n2.2.1 s a (by omega)).2.2])
  rw [e]
theorem jp_raid_fin {M : jw_M} (h : jp_inv M) (q : Int) (hq : q = 1 ∨ q = 2) (hp : 1 ≤ M 131 0) {B N Y : jw_M} (b1 : ∀ k : Nat, k ≠ 24 → k ≠ 25 → k ≠ 29 → B k = M k) (b2 : B 24 0 = q) (b2' : B 24 1 = 0) (b3 : jp_cok (B 25)) (b4 : ∀ k : Int, 0 ≤ k → k < 20 → B 29 k = 0) (hN : jp_jI B N (M 131 3) (M 131 3) 0) (y1 : ∀ k : Nat, k ≠ 0 → k ≠ 127 → k ≠ 137 → Y k = N k) (y2 : ∀ j : Int, j ≠ 0 → j ≠ 1 → Y 127 j = M 127 j) (y3 : Y 127 1 = 0) (y0 : Y 0 9 = M 0 9) (y0' : Y 0 10 = 0) (y4 : ∀ c : Int, 0 ≤ c → c < 7 → Y 137 c = B 25 c) : ∃ Z : jw_M, fX12_layRaid q Y = some (jp_mask (fun s => decide (jp_o (M 131) (B 25) (M 23) (M 22) s = 2)) (M 131 3).toNat, Z) ∧ jp_inv Z := by
  have hA := jp_inv_A h
  have hB := jp_inv_B h
  have hD := jp_inv_D h
  obtain ⟨⟨r0, r2, r3, r4, r5⟩, -⟩ := jp_A_r hA
  have fY : ∀ k : Nat, k ≠ 0 → k ≠ 127 → k ≠ 137 → ¬ (24 ≤ k ∧ k ≤ 29) → Y k = M k := fun k a b c d => by rw [y1 k a b c, hN.1 k (by omega) (by omega) (by omega) (by omega), b1 k (by omega) (by omega) (by omega)]
  have e131 : Y 131 = M 131 := fY _ (by decide) (by decide) (by decide) (by decide)
  have e133 : Y 133 = M 133 := fY _ (by decide) (by decide) (by decide) (by decide)
  have B131 : B 131 = M 131 := b1 _ (by decide) (by decide) (by decide)
  have B23 : B 23 = M 23 := b1 _ (by decide) (by decide) (by decide)
  have B22 : B 22 = M 22 := b1 _ (by decide) (by decide) (by decide)
  have hX : jp_Xm Y := by
    refine ⟨jp_A_fr hA (fun k a b => fY k (by omega) (by omega) (by omega) (by omega)) e131 (fY _ (by decide) (by decide) (by decide) (by decide)) (fY _ (by decide) (by decide) (by decide) (by decide)), by rw [e131]; exact hp, fun c a b => by rw [y4 c a b]; exact b3 c a b, ?_, ?_⟩
    · rw [e131, e133]; exact fun s a b => (hB.1 s a b).2
    · rw [e131, e133]; exact fun s a b => (hB.2 s a b).2
  obtain ⟨Z, z1, zF, z42, z58, z2, z3, z4⟩ := gX12_layRaid hX q
  rw [e131] at z1 z2 z3 z4
  have hE : ∀ s : Int, 0 ≤ s → s < M 131 3 → jp_wd (M 131) (Y 137) (jp_mV Y) (Y 133) s = jp_wd (M 131) (B 25) (M 23) (M 22) s ∧ Y 137 (Y 133 s) = B 25 (M 22 s) ∧ jp_o (M 131) (Y 137) (jp_mV Y) (Y 133) s = jp_o (M 131) (B 25) (M 23) (M 22) s ∧ (∀ w : Int, jp_sp (M 131) (Y 137) (jp_mV Y) (Y 133) w s = jp_sp (M 131) (B 25) (M 23) (M 22) w s) := by
    intro s a b
    have p1 := hB.1 s a b
    refine jp_rd_eq r0.2 r4.1 y4 (fun w c d => ?_) ?_
    · have p2 := hB.2 w c d
      unfold jp_mV
      rw [e133]
      omega
    · rw [e133]
      omega
  obtain ⟨n1, n2, n3, n4⟩ := hN
  rw [B131, B23, B22] at n2 n3
  rw [B131] at n4
  have hm : jp_mask (fun s => decide (jp_o (M 131) (Y 137) (jp_mV Y) (Y 133) s = 2)) (M 131 3).toNat = jp_mask (fun s => decide (jp_o (M 131) (B 25) (M 23) (M 22) s = 2)) (M 131 3).toNat := jp_mask_c _ (fun s a b => by
    show decide (jp_o (M 131) (Y 137) (jp_mV Y) (Y 133) s = 2) = decide (jp_o (M 131) (B 25) (M 23) (M 22) s = 2)
    rw [(hE s a (by omega)).2.2.1])
  rw [hm] at z1
  refine ⟨Z, z1, ?_⟩
  have zY : ∀ k : Nat, k ≠ 133 → Z k = Y k := zF.1
  have f133 : ∀ j : Int, j < 42 ∨ 79 ≤ j → Z 133 j = M 133 j := fun j hj => by rw [zF.2 j hj, e133]
  have zN : ∀ k : Nat, k ≠ 133 → k ≠ 0 → k ≠ 127 → k ≠ 137 → Z k = N k := fun k a b c d => by rw [zY k a, y1 k b c d]
  have fr : ∀ k : Nat, k ≠ 133 → k ≠ 0 → k ≠ 127 → k ≠ 137 → ¬ (24 ≤ k ∧ k ≤ 29) → Z k = M k := fun k a b c d e => by rw [zY k a, fY k b c d e]
  have Z24 : Z 24 = B 24 := by rw [zN _ (by decide) (by decide) (by decide) (by decide), n1 _ (by decide) (by decide) (by decide) (by decide)]
  have Z25 : Z 25 = B 25 := by rw [zN _ (by decide) (by decide) (by decide) (by decide), n1 _ (by decide) (by decide) (by decide) (by decide)]
  have Z26 : Z 26 = N 26 := zN _ (by decide) (by decide) (by decide) (by decide)
  have Z27 : Z 27 = N 27 := zN _ (by decide) (by decide) (by decide) (by decide)
  have Z28 : Z 28 = N 28 := zN _ (by decide) (by decide) (by decide) (by decide)
  have Z29 : Z 29 = N 29 := zN _ (by decide) (by decide) (by decide) (by decide)
  have Z131 : Z 131 = M 131 := fr _ (by decide) (by decide) (by decide) (by decide) (by decide)
  have Z127 : ∀ j : Int, j ≠ 0 → j ≠ 1 → Z 127 j = M 127 j := fun j a b => by rw [zY _ (by decide)]; exact y2 j a b
  obtain ⟨d1, d2, d3, d4, d5, d6, d7, d8, d9, d10, d11, d12, d13, d14⟩ := hD
  have sav : ∀ k : Int, 0 ≤ k → k < 20 → N 29 k = Z 133 (59 + k) ∧ -198 ≤ Z 133 (59 + k) ∧ Z 133 (59 + k) ≤ 198 ∧ (M 131 4 ≤ k / 5 ∨ M 131 3 ≤ k % 5 → Z 133 (59 + k) = 0) := by
    intro k a b
    by_cases e : M 131 4 ≤ k / 5 ∨ M 131 3 ≤ k % 5
    · have q1 := d4 k a b
      rw [n4 k a b e, b4 k a b, z4 k a b e, e133, q1.2.2 e]
      omega
    · have q1 := n3 (k / 5) (k % 5) (by omega) (by omega) (by omega) (by omega) (by omega)
      have q2 := z3 (k / 5) (k % 5) (by omega) (by omega) (by omega) (by omega) (by omega)
      rw [show 5 * (k / 5) + k % 5 = k by omega] at q1 q2
      rw [(hE (k % 5) (by omega) (by omega)).2.2.2] at q2
      have q3 := jp_sp_r (C := B 25) (V := M 23) (P := M 22) hA.1 (s := k % 5) (by omega) (k / 5)
      rw [q1, q2]
      refine ⟨rfl, by omega, by omega, fun z => absurd z e⟩
  refine jp_inv_dyn h ?_ (fun k u a b => fr k b (by intro e; subst e; revert u; decide) (by intro e; subst e; revert u; decide) (by intro e; subst e; revert u; decide) (by omega)) (fun j a b => f133 j (by omega)) (by rw [zY _ (by decide)]; exact y0) (by rw [zY 0 (by decide), zY 127 (by decide), y0', y3]) (by rw [fr 5 (by decide) (by decide) (by decide) (by decide) (by decide)]) (by rw [fr 125 (by decide) (by decide) (by decide) (by decide) (by decide)]) (Z127 _ (by decide) (by decide)) (Z127 _ (by decide) (by decide)) (Z127 _ (by decide) (by decide)) (Z127 _ (by decide) (by decide))
  have hk7 := jp_mask_r (fun c => decide (Y 137 c < 1000000)) 7
  unfold jp_D
  rw [Z131, Z24, Z25, Z26, Z27, Z28, Z29, z42, z58, b2, b2', f133 9 (by omega), fr 30 (by decide) (by decide) (by decide) (by decide) (by decide), fr 31 (by decide) (by decide) (by decide) (by decide) (by decide), fr 32 (by decide) (by decide) (by decide) (by decide) (by decide), fr 34 (by decide) (by decide) (by decide) (by decide) (by decide)]
  refine ⟨⟨d1.1, by omega, hk7⟩, fun d a b => ?_, fun k a b => ?_, fun k a b => (sav k a b).2, fun s a b => ?_, fun x y a b c d => ?_, by omega, fun _ c a b => ?_, fun _ i a b => ?_, fun k a b => (sav k a b).1, d11, fun c a b => ?_, fun k a b => ?_, fun x y a b c d => ?_⟩
  · rw [f133 _ (by omega)]; exact d2 d a b
  · rw [f133 _ (by omega)]; exact d3 k a b
  · rw [(z2 s a b).2.2]; exact jp_oc_r _ _ _
  · rw [f133 _ (by omega)]; exact d6 x y a b c d
  · rw [jp_mask_bit _ 7 (by decide) c a b, y4 c a b]
    by_cases e : B 25 c < 1000000
    · rw [decide_eq_true e]; exact ⟨fun _ => rfl, fun _ => e⟩
    · rw [decide_eq_false e]; exact ⟨fun z => absurd z e, fun z => by cases z⟩
  · have q1 := z2 i a b
    have q2 := hE i a b
    have q3 := n2 i a b
    rw [q1.1, q1.2.1, q1.2.2, q2.1, q2.2.1, q2.2.2.1, q3.1, q3.2.1, q3.2.2]
    exact ⟨rfl, rfl, rfl⟩
  · rw [d12 c a b]
    exact (jp_ct_c (fun j _ d => f133 _ (by omega)) c _ (by omega)).symm
  · rw [f133 _ (by omega)]; exact d13 k a b
  · rw [f133 _ (by omega)]; exact d14 x y a b c d
