/-! reading: the ways of the draft -/
theorem gX9_shorten_23 {M : jw_M} {a1 : Nat} (ha : a1 ≠ 37) (hl : jw_len a1 = 49) {w : Int → Int → Int} (hw : jp_wok w) {n : Int} (hn : 0 ≤ n ∧ n ≤ 7) (h0 : M 37 0 = n) (r2 : Int → jw_M → Option jw_M) (r12 : Int → Int → jw_M → Option jw_M) {k : Nat} (hk : (k : Int) < n) {i : Int} (hi : 0 ≤ i ∧ i < n) (N0 : jw_M) (f0 : ∀ j : Nat, j ≠ a1 → N0 j = M j) (g0 : ∀ a b : Int, 0 ≤ a → a < n → 0 ≤ b → b < n → N0 a1 (7 * a + b) = if a < i then jp_fw w (k + 1) a b else jp_fw w k a b) : ∃ N : jw_M, fX9_shorten_23 (36 + 1) a1 r2 r12 jw_fu (k : Int) i 0 N0 = r12 (k : Int) (i + 1) N ∧ (∀ j : Nat, j ≠ a1 → N j = M j) ∧ (∀ a b : Int, 0 ≤ a → a < n → 0 ≤ b → b < n → N a1 (7 * a + b) = if a < i + 1 then jp_fw w (k + 1) a b else jp_fw w k a b) := by
  refine jp_up (fun q j N => fX9_shorten_23 (36 + 1) a1 r2 r12 q (k : Int) i j N) n (fun j N => 0 ≤ j ∧ (∀ j : Nat, j ≠ a1 → N j = M j) ∧ (∀ a b : Int, 0 ≤ a → a < n → 0 ≤ b → b < n → N a1 (7 * a + b) = if a < i ∨ (a = i ∧ b < j) then jp_fw w (k + 1) a b else jp_fw w k a b)) (fun r => ∃ N : jw_M, r = r12 (k : Int) (i + 1) N ∧ (∀ j : Nat, j ≠ a1 → N j = M j) ∧ (∀ a b : Int, 0 ≤ a → a < n → 0 ≤ b → b < n → N a1 (7 * a + b) = if a < i + 1 then jp_fw w (k + 1) a b else jp_fw w k a b)) ?_ ?_ jw_fu 0 N0 (by unfold jw_fu; omega) (by omega) ⟨by omega, f0, fun a b p q r s => ?_⟩
  · intro q j N hp hj ih
    obtain ⟨j0, p1, p2⟩ := hp
    have e37 : N (36 + 1) 0 = n := by show N 37 0 = n; rw [p1 37 (fun e => ha e.symm), h0]
    have r1 := jp_fw_row hw (k := k) (by omega) (a := i) hi.1 (by omega)
    have r2' := jp_fw_row hw (k := k) (by omega) (a := j) j0 (by omega)
    have b1 := jp_fw_b hw k (by omega) i (k : Int) hi.1 (by omega) (by omega) (by omega)
    have b2 := jp_fw_b hw k (by omega) (k : Int) j (by omega) (by omega) j0 (by omega)
    have v1 : N a1 (7 * i + (k : Int)) = jp_fw w k i (k : Int) := by
      rw [p2 i (k : Int) hi.1 hi.2 (by omega) hk]
      split
      · exact r1.1
      · rfl
    have v2 : N a1 (7 * (k : Int) + j) = jp_fw w k (k : Int) j := by
      rw [p2 (k : Int) j (by omega) hk j0 hj]
      split
      · exact r2'.2
      · rfl
    have v3 : N a1 (7 * i + j) = jp_fw w k i j := by
      rw [p2 i j hi.1 hi.2 j0 hj, if_neg (by omega)]
    show ∃ N' : jw_M, fX9_shorten_23 (36 + 1) a1 r2 r12 (q + 1) (k : Int) i j N = r12 (k : Int) (i + 1) N' ∧ _
    rw [fX9_shorten_23, e37, if_pos hj, jw_ws (x := i * 7) (by omega), jw_ws (x := (k : Int) * 7) (by omega), jw_ws (x := i * 7 + (k : Int)) (by omega), jw_ws (x := (k : Int) * 7 + j) (by omega), jw_ws (x := i * 7 + j) (by omega), hl, if_pos (show 0 ≤ i * 7 + (k : Int) ∧ i * 7 + (k : Int) < ((49 : Nat) : Int) by omega), if_pos (show 0 ≤ (k : Int) * 7 + j ∧ (k : Int) * 7 + j < ((49 : Nat) : Int) by omega), jp_bs, if_pos (show 0 ≤ i * 7 + j ∧ i * 7 + j < ((49 : Nat) : Int) by omega), Int.mul_comm i 7, Int.mul_comm (k : Int) 7, v1, v2, v3, jw_ws (x := jp_fw w k i (k : Int) + jp_fw w k (k : Int) j) (by omega)]
    unfold fX9_shorten_77
    rw [jw_ws (x := j + 1) (by omega)]
    by_cases z : jp_fw w k i (k : Int) + jp_fw w k (k : Int) j < jp_fw w k i j
    · rw [if_pos z, if_pos (show 0 ≤ 7 * i + j ∧ 7 * i + j < ((49 : Nat) : Int) by omega), jp_bs, jp_bs]
      refine ih _ ⟨by omega, fun x hx => by rw [jw_up_ne _ hx]; exact p1 x hx, fun a b a3 a4 b3 b4 => ?_⟩
      rw [jw_up_eq, jw_u1_a]
      by_cases y : 7 * a + b = 7 * i + j
      · have ea : a = i := by omega
        have eb : b = j := by omega
        rw [if_pos y, if_pos (by omega), ea, eb, jp_fw, if_pos z]
      · rw [if_neg y, p2 a b a3 a4 b3 b4]
        by_cases u : a < i ∨ (a = i ∧ b < j)
        · rw [if_pos u, if_pos (by omega)]
        · rw [if_neg u, if_neg (by omega)]
    · rw [if_neg z, jp_bs]
      refine ih _ ⟨by omega, p1, fun a b a3 a4 b3 b4 => ?_⟩
      rw [p2 a b a3 a4 b3 b4]
      by_cases y : a = i ∧ b = j
      · rw [if_neg (by omega), if_pos (by omega), y.1, y.2, jp_fw, if_neg z]
      · by_cases u : a < i ∨ (a = i ∧ b < j)
        · rw [if_pos u, if_pos (by omega)]
        · rw [if_neg u, if_neg (by omega)]
  · intro q N hp
    obtain ⟨j0, p1, p2⟩ := hp
    have e37 : N (36 + 1) 0 = n := by show N 37 0 = n; rw [p1 37 (fun e => ha e.symm), h0]
    show ∃ N' : jw_M, fX9_shorten_23 (36 + 1) a1 r2 r12 (q + 1) (k : Int) i n N = r12 (k : Int) (i + 1) N' ∧ _
    rw [fX9_shorten_23, e37, if_neg (by omega), jp_bs, jw_ws (x := i + 1) (by omega)]
    refine ⟨N, rfl, p1, fun a b a3 a4 b3 b4 => ?_⟩
    rw [p2 a b a3 a4 b3 b4]
    by_cases u : a < i + 1
    · rw [if_pos u, if_pos (by omega)]
    · rw [if_neg u, if_neg (by omega)]
  · rw [g0 a b p q r s]
    by_cases u : a < i
    · rw [if_pos u, if_pos (by omega)]
    · rw [if_neg u, if_neg (by omega)]
theorem gX9_shorten {M : jw_M} {a1 : Nat} (ha : a1 ≠ 37) (ht : jw_tag a1 = 20) (hl : jw_len a1 = 49) {w : Int → Int → Int} (hw : jp_wok w) {n : Int} (hn : 0 ≤ n ∧ n ≤ 7) (h0 : M 37 0 = n) (g0 : ∀ a b : Int, 0 ≤ a → a < n → 0 ≤ b → b < n → M a1 (7 * a + b) = w a b) : ∃ N : jw_M, fX9_shorten (36 + 1) a1 M = some N ∧ (∀ j : Nat, j ≠ a1 → N j = M j) ∧ (∀ a b : Int, 0 ≤ a → a < n → 0 ≤ b → b < n → N a1 (7 * a + b) = jp_fw w n.toNat a b) := by
  unfold fX9_shorten
  rw [if_pos (by decide), if_pos ht, jp_bs]
  refine jp_up (fun q x N => fX9_shorten_2 (36 + 1) a1 q x N) n (fun x N => 0 ≤ x ∧ (∀ j : Nat, j ≠ a1 → N j = M j) ∧ (∀ a b : Int, 0 ≤ a → a < n → 0 ≤ b → b < n → N a1 (7 * a + b) = jp_fw w x.toNat a b)) (fun r => ∃ N : jw_M, r = some N ∧ (∀ j : Nat, j ≠ a1 → N j = M j) ∧ (∀ a b : Int, 0 ≤ a → a < n → 0 ≤ b → b < n → N a1 (7 * a + b) = jp_fw w n.toNat a b)) ?_ ?_ jw_fu 0 M (by unfold jw_fu; omega) (by omega) ⟨by omega, fun _ _ => rfl, g0⟩
  · intro q x N hp hx ih
    obtain ⟨x0, p1, p2⟩ := hp
    have e37 : N (36 + 1) 0 = n := by show N 37 0 = n; rw [p1 37 (fun e => ha e.symm), h0]
    obtain ⟨k, rfl⟩ : ∃ k : Nat, x = (k : Int) := ⟨x.toNat, by omega⟩
    have ek : ((k : Int)).toNat = k := by omega
    rw [ek] at p2
    show ∃ N' : jw_M, fX9_shorten_2 (36 + 1) a1 (q + 1) (k : Int) N = some N' ∧ _
    rw [fX9_shorten_2, e37, if_pos hx, jp_bs]
    refine jp_up (fun q' i N => fX9_shorten_12 (36 + 1) a1 (fX9_shorten_2 (36 + 1) a1 q) q' (k : Int) i N) n (fun i N => 0 ≤ i ∧ (∀ j : Nat, j ≠ a1 → N j = M j) ∧ (∀ a b : Int, 0 ≤ a → a < n → 0 ≤ b → b < n → N a1 (7 * a + b) = if a < i then jp_fw w (k + 1) a b else jp_fw w k a b)) (fun r => ∃ N : jw_M, r = some N ∧ (∀ j : Nat, j ≠ a1 → N j = M j) ∧ (∀ a b : Int, 0 ≤ a → a < n → 0 ≤ b → b < n → N a1 (7 * a + b) = jp_fw w n.toNat a b)) ?_ ?_ jw_fu 0 N (by unfold jw_fu; omega) (by omega) ⟨by omega, p1, fun a b a3 a4 b3 b4 => by rw [if_neg (by omega)]; exact p2 a b a3 a4 b3 b4⟩
    · intro q' i O hp' hi ih'
      obtain ⟨i0, o1, o2⟩ := hp'
      have e37' : O (36 + 1) 0 = n := by show O 37 0 = n; rw [o1 37 (fun e => ha e.symm), h0]
      show ∃ N' : jw_M, fX9_shorten_12 (36 + 1) a1 (fX9_shorten_2 (36 + 1) a1 q) (q' + 1) (k : Int) i O = some N' ∧ _
      rw [fX9_shorten_12, e37', if_pos hi, jp_bs]
      obtain ⟨P, s1, s2, s3⟩ := gX9_shorten_23 ha hl hw hn h0 (fX9_shorten_2 (36 + 1) a1 q) (fX9_shorten_12 (36 + 1) a1 (fX9_shorten_2 (36 + 1) a1 q) q') hx ⟨i0, hi⟩ O o1 o2
      rw [s1]
      exact ih' P ⟨by omega, s2, s3⟩
    · intro q' O hp'
      obtain ⟨i0, o1, o2⟩ := hp'
      have e37' : O (36 + 1) 0 = n := by show O 37 0 = n; rw [o1 37 (fun e => ha e.symm), h0]
      show ∃ N' : jw_M, fX9_shorten_12 (36 + 1) a1 (fX9_shorten_2 (36 + 1) a1 q) (q' + 1) (k : Int) n O = some N' ∧ _
      rw [fX9_shorten_12, e37', if_neg (by omega), jp_bs, jw_ws (x := (k : Int) + 1) (by omega)]
      refine ih O ⟨by omega, o1, fun a b a3 a4 b3 b4 => ?_⟩
      rw [o2 a b a3 a4 b3 b4, if_pos a4, show ((k : Int) + 1).toNat = k + 1 by omega]
  · intro q N hp
    obtain ⟨x0, p1, p2⟩ := hp
    have e37 : N (36 + 1) 0 = n := by show N 37 0 = n; rw [p1 37 (fun e => ha e.symm), h0]
    show ∃ N' : jw_M, fX9_shorten_2 (36 + 1) a1 (q + 1) n N = some N' ∧ _
    rw [fX9_shorten_2, e37, if_neg (by omega)]
    exact ⟨N, rfl, p1, p2⟩
/-- the ways of the draft are measured -/
theorem gX9_measure {M : jw_M} {D : Int → Int} (hc : jp_cR M D) (hD : jp_Dk D) (hT : jp_T D) (h0 : 1 ≤ D 0) : ∃ N : jw_M, fX9_measure (36 + 1) M = some N ∧ (∀ j : Nat, j ≠ 40 → j ≠ 41 → N j = M j) ∧ (∀ a b : Int, 0 ≤ a → a < D 0 → 0 ≤ b → b < D 0 → N 40 (7 * a + b) = jp_wk D a b ∧ N 41 (7 * a + b) = jp_hk D a b) := by
  obtain ⟨d0, -⟩ := hD.1
  obtain ⟨-, -, d89⟩ := hD.2.1
  obtain ⟨-, ⟨c0, -, -, -, c10⟩, -, c39, -⟩ := hc
  have hw := jp_w0_ok hT
  have hh := jp_h0_ok hT (hT.2.1.2.2.2 h0)
  have fin : ∀ O : jw_M, (∀ j : Nat, j ≠ 40 → j ≠ 41 → O j = M j) → (∀ a b : Int, 0 ≤ a → a < D 0 → 0 ≤ b → b < D 0 → O 40 (7 * a + b) = jp_w0 D a b ∧ O 41 (7 * a + b) = jp_h0 D a b) → ∃ N : jw_M, Option.bind (fX9_shorten (36 + 1) (36 + 1 + 3) O) (fun M15 => Option.bind (fX9_shorten (36 + 1) (36 + 1 + 4) M15) (fun M16 => some M16)) = some N ∧ (∀ j : Nat, j ≠ 40 → j ≠ 41 → N j = M j) ∧ (∀ a b : Int, 0 ≤ a → a < D 0 → 0 ≤ b → b < D 0 → N 40 (7 * a + b) = jp_wk D a b ∧ N 41 (7 * a + b) = jp_hk D a b) := by
    intro O o1 o2
    obtain ⟨P, p1, p2, p3⟩ := gX9_shorten (a1 := 40) (M := O) (by decide) (by decide) (by decide) hw d0 (by rw [o1 37 (by decide) (by decide)]; exact c0) (fun a b a1 a2 b1 b2 => (o2 a b a1 a2 b1 b2).1)
    obtain ⟨Q, q1, q2, q3⟩ := gX9_shorten (a1 := 41) (M := P) (by decide) (by decide) (by decide) hh d0 (by rw [p2 37 (by decide), o1 37 (by decide) (by decide)]; exact c0) (fun a b a1 a2 b1 b2 => by rw [p2 41 (by decide)]; exact (o2 a b a1 a2 b1 b2).2)
    have p1' : fX9_shorten (36 + 1) (36 + 1 + 3) O = some P := p1
    have q1' : fX9_shorten (36 + 1) (36 + 1 + 4) P = some Q := q1
    rw [p1', jp_bs, q1', jp_bs]
    refine ⟨Q, rfl, fun j x y => by rw [q2 j y, p2 j x, o1 j x y], fun a b a1 a2 b1 b2 => ?_⟩
    have nn : ((D 0).toNat : Int) = D 0 := by omega
    have e1 := jp_fw_n hw (n := (D 0).toNat) (fun a b p q r s => (jp_w0_far hT a b p (by omega) (by omega) s).1) 7 (by omega) (by omega) a b a1 (by omega) b1 (by omega)
    have e2 := jp_fw_n hh (n := (D 0).toNat) (fun a b p q r s => (jp_w0_far hT a b p (by omega) (by omega) s).2) 7 (by omega) (by omega) a b a1 (by omega) b1 (by omega)
    unfold jp_wk jp_hk
    rw [e1, e2, q2 40 (by decide)]
    exact ⟨p3 a b a1 a2 b1 b2, q3 a b a1 a2 b1 b2⟩
  unfold fX9_measure
  rw [if_pos (by decide), jp_bs]
  refine jp_up (fun q x N => fX9_measure_2 (36 + 1) q x N) (D 0) (fun x N => 0 ≤ x ∧ (∀ j : Nat, j ≠ 40 → j ≠ 41 → N j = M j) ∧ (∀ a b : Int, 0 ≤ a → a < x → 0 ≤ b → b < D 0 → N 40 (7 * a + b) = jp_w0 D a b ∧ N 41 (7 * a + b) = jp_h0 D a b)) (fun r => ∃ N : jw_M, r = some N ∧ (∀ j : Nat, j ≠ 40 → j ≠ 41 → N j = M j) ∧ (∀ a b : Int, 0 ≤ a → a < D 0 → 0 ≤ b → b < D 0 → N 40 (7 * a + b) = jp_wk D a b ∧ N 41 (7 * a + b) = jp_hk D a b)) ?_ ?_ jw_fu 0 M (by unfold jw_fu; omega) (by omega) ⟨by omega, fun _ _ _ => rfl, fun a b p q => by omega⟩
  · intro q x N hp hx ih
    obtain ⟨x0, p1, p2⟩ := hp
    have e37 : N (36 + 1) 0 = D 0 := by show N 37 0 = D 0; rw [p1 37 (by decide) (by decide), c0]
    show ∃ N' : jw_M, fX9_measure_2 (36 + 1) (q + 1) x N = some N' ∧ _
    rw [fX9_measure_2, e37, if_pos hx, jp_bs]
    refine jp_up (fun q' i N => fX9_measure_12 (36 + 1) (fX9_measure_2 (36 + 1) q) q' x i N) (D 0) (fun i N => 0 ≤ i ∧ (∀ j : Nat, j ≠ 40 → j ≠ 41 → N j = M j) ∧ (∀ a b : Int, 0 ≤ a → 0 ≤ b → b < D 0 → (a < x ∨ a = x ∧ b < i) → N 40 (7 * a + b) = jp_w0 D a b ∧ N 41 (7 * a + b) = jp_h0 D a b)) (fun r => ∃ N : jw_M, r = some N ∧ (∀ j : Nat, j ≠ 40 → j ≠ 41 → N j = M j) ∧ (∀ a b : Int, 0 ≤ a → a < D 0 → 0 ≤ b → b < D 0 → N 40 (7 * a + b) = jp_wk D a b ∧ N 41 (7 * a + b) = jp_hk D a b)) ?_ ?_ jw_fu 0 N (by unfold jw_fu; omega) (by omega) ⟨by omega, p1, fun a b a3 b3 b4 h => p2 a b a3 (by omega) b3 b4⟩
    · intro q' i O hp' hi ih'
      obtain ⟨i0, o1, o2⟩ := hp'
      have e37' : O (36 + 1) 0 = D 0 := by show O 37 0 = D 0; rw [o1 37 (by decide) (by decide), c0]
      have e39 : O (36 + 1 + 2) (7 * x + i) = D (14 + 7 * x + i) := by show O 39 (7 * x + i) = _; rw [o1 39 (by decide) (by decide)]; exact c39 x i x0 (by omega) i0 (by omega)
      have hs := hT.2.2.2.1 x i x0 (by omega) i0 (by omega)
      have hq := jp_hq (x := D (14 + 7 * x + i)) ⟨hs.1, hs.2.1⟩ ⟨d89.1, d89.2⟩
      have step : ∀ u v : Int, u = jp_w0 D x i → v = jp_h0 D x i → ∃ N' : jw_M, fX9_measure_12 (36 + 1) (fX9_measure_2 (36 + 1) q) q' x (i + 1) (jw_up (jw_up O 40 (7 * x + i) u) 41 (7 * x + i) v) = some N' ∧ (∀ j : Nat, j ≠ 40 → j ≠ 41 → N' j = M j) ∧ (∀ a b : Int, 0 ≤ a → a < D 0 → 0 ≤ b → b < D 0 → N' 40 (7 * a + b) = jp_wk D a b ∧ N' 41 (7 * a + b) = jp_hk D a b) := by
        intro u v hu hv
        refine ih' _ ⟨by omega, fun j y z => by rw [jw_up_ne _ z, jw_up_ne _ y]; exact o1 j y z, fun a b a3 b3 b4 h => ?_⟩
        rw [jw_up_ne _ (show 40 ≠ 41 by decide), jw_up_eq, jw_up_eq, jw_up_ne _ (show 41 ≠ 40 by decide), jw_u1_a, jw_u1_a]
        by_cases z : 7 * a + b = 7 * x + i
        · have ea : a = x := by omega
          have eb : b = i := by omega
          rw [if_pos z, if_pos z, ea, eb]
          exact ⟨hu, hv⟩
        · rw [if_neg z, if_neg z]
          exact o2 a b a3 b3 b4 (by omega)
      unfold jp_w0 jp_h0 at step
      show ∃ N' : jw_M, fX9_measure_12 (36 + 1) (fX9_measure_2 (36 + 1) q) (q' + 1) x i O = some N' ∧ _
      rw [fX9_measure_12, e37', if_pos hi, jw_ws (x := x * 7) (by omega), Int.mul_comm x 7, jw_ws (x := 7 * x + i) (by omega), jp_bs, if_pos (show 0 ≤ 7 * x + i ∧ 7 * x + i < 49 by omega), jp_bs, e39]
      unfold fX9_measure_74 fX9_measure_96 fX9_measure_97 fX9_minutesToPass
      rw [if_pos (show 0 ≤ 7 * x + i ∧ 7 * x + i < 49 by omega), if_pos (show 0 ≤ 7 * x + i ∧ 7 * x + i < 49 by omega), if_pos (show 0 ≤ 7 * x + i ∧ 7 * x + i < 49 by omega), jw_ws (x := i + 1) (by omega)]
      by_cases h1 : x = i
      · rw [if_pos h1, if_pos h1] at step
        rw [if_pos h1, jp_bs, jp_bs, jp_bs]
        rw [if_pos (show 0 ≤ 7 * x + i ∧ 7 * x + i < 49 by omega)]
        exact step _ _ rfl rfl
      · rw [if_neg h1, if_neg h1] at step
        rw [if_neg h1]
        by_cases h2 : D (14 + 7 * x + i) = 0
        · rw [if_pos h2, if_pos h2] at step
          rw [if_pos h2, jp_bs, if_pos h2, jp_bs, jp_bs]
          rw [if_pos (show 0 ≤ 7 * x + i ∧ 7 * x + i < 49 by omega)]
          exact step _ _ rfl rfl
        · rw [if_neg h2, if_neg h2] at step
          have e10 : ∀ u : Int, jw_up O (36 + 1 + 3) (7 * x + i) u (36 + 1) 10 = D 89 := by
            intro u
            rw [jw_up_ne _ (by decide)]
            show O 37 10 = _
            rw [o1 37 (by decide) (by decide), c10]
          rw [if_neg h2, jp_bs, if_neg h2, if_pos (by decide), e10, if_neg (by omega), if_pos (by omega), jp_bs, jp_bs, jp_bs, jw_ws (x := D (14 + 7 * x + i) + D 89) (by omega), jw_ws (x := D (14 + 7 * x + i) + D 89 - 1) (by omega), jw_ws (by omega)]
          rw [if_pos (show 0 ≤ 7 * x + i ∧ 7 * x + i < 49 by omega)]
          exact step _ _ rfl rfl
    · intro q' O hp'
      obtain ⟨i0, o1, o2⟩ := hp'
      have e37' : O (36 + 1) 0 = D 0 := by show O 37 0 = D 0; rw [o1 37 (by decide) (by decide), c0]
      show ∃ N' : jw_M, fX9_measure_12 (36 + 1) (fX9_measure_2 (36 + 1) q) (q' + 1) x (D 0) O = some N' ∧ _
      rw [fX9_measure_12, e37', if_neg (by omega), jp_bs, jw_ws (x := x + 1) (by omega)]
      exact ih O ⟨by omega, o1, fun a b a3 a4 b3 b4 => o2 a b a3 b3 b4 (by omega)⟩
  · intro q N hp
    obtain ⟨x0, p1, p2⟩ := hp
    have e37 : N (36 + 1) 0 = D 0 := by show N 37 0 = D 0; rw [p1 37 (by decide) (by decide), c0]
    show ∃ N' : jw_M, fX9_measure_2 (36 + 1) (q + 1) (D 0) N = some N' ∧ _
    rw [fX9_measure_2, e37, if_neg (by omega)]
    exact fin N p1 p2
