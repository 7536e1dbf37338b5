/-! ways of escape: the model's rooms and its search -/
theorem gX12_layRoom_67 {M : jw_M} (hA : jp_A M) (a b c : Int) (hc : 0 ≤ c ∧ c < M 131 0) (r24 : Int → Int → Int → jw_M → Option jw_M) (N0 : jw_M) (hf0 : ∀ k : Nat, k ≠ 141 → N0 k = M k) : ∃ N : jw_M, fX12_layRoom_67 r24 jw_fu a b c 0 N0 = r24 a b (c + 1) N ∧ (∀ k : Nat, k ≠ 141 → N k = M k) ∧ (∀ x : Int, N 141 x = if 14 * (7 + c) ≤ x ∧ x < 14 * (7 + c) + M 131 0 then (if 0 < M 131 (14 + 7 * c + (x - 14 * (7 + c))) then 1 else 0) else N0 141 x) := by
  obtain ⟨⟨r0, r2, r3, r4, r5⟩, -⟩ := jp_A_r hA
  refine jp_up (fun k d N => fX12_layRoom_67 r24 k a b c d N) (M 131 0) (fun d N => 0 ≤ d ∧ (∀ k : Nat, k ≠ 141 → N k = M k) ∧ (∀ x : Int, N 141 x = if 14 * (7 + c) ≤ x ∧ x < 14 * (7 + c) + d then (if 0 < M 131 (14 + 7 * c + (x - 14 * (7 + c))) then 1 else 0) else N0 141 x)) (fun r => ∃ N : jw_M, r = r24 a b (c + 1) N ∧ (∀ k : Nat, k ≠ 141 → N k = M k) ∧ (∀ x : Int, N 141 x = if 14 * (7 + c) ≤ x ∧ x < 14 * (7 + c) + M 131 0 then (if 0 < M 131 (14 + 7 * c + (x - 14 * (7 + c))) then 1 else 0) else N0 141 x)) ?_ ?_ jw_fu 0 N0 (by unfold jw_fu; omega) (by omega) ⟨by omega, hf0, fun x => by rw [if_neg (by omega)]⟩
  · intro k d N hp hd ih
    obtain ⟨d0, hf, hx⟩ := hp
    have go : fX12_layRoom_67 r24 (k + 1) a b c d N = fX12_layRoom_67 r24 k a b c (d + 1) (jw_up N 141 (14 * (7 + c) + d) (if 0 < M 131 (14 + 7 * c + d) then 1 else 0)) := by
      rw [fX12_layRoom_67, if_pos (by decide), hf 131 (by decide), if_pos hd, jw_ws (x := 7 * c) (by omega), jw_ws (x := 14 + 7 * c) (by omega), jw_ws (x := 14 + 7 * c + d) (by omega), if_pos (by omega), jw_ws (x := 7 + c) (by omega), jw_ws (x := 14 * (7 + c)) (by omega), jw_ws (x := 14 * (7 + c) + d) (by omega)]
      unfold fX12_layRoom_115
      by_cases e : 0 < M 131 (14 + 7 * c + d)
      · rw [if_pos e, if_pos e, if_pos (show 0 ≤ 14 * (7 + c) + d ∧ 14 * (7 + c) + d < 196 by omega), jp_bs, jp_bs, jw_ws (by omega)]
      · rw [if_neg e, if_neg e, if_pos (show 0 ≤ 14 * (7 + c) + d ∧ 14 * (7 + c) + d < 196 by omega), jp_bs, jp_bs, jw_ws (by omega)]
    show ∃ N' : jw_M, fX12_layRoom_67 r24 (k + 1) a b c d N = _ ∧ _
    rw [go]
    refine ih _ ⟨by omega, fun k hk => by rw [jw_up_ne _ hk]; exact hf k hk, fun x => ?_⟩
    rw [jw_up_eq, jw_u1_a]
    by_cases e : x = 14 * (7 + c) + d
    · rw [if_pos e, if_pos (show 14 * (7 + c) ≤ x ∧ x < 14 * (7 + c) + (d + 1) by omega), e, show 14 * (7 + c) + d - 14 * (7 + c) = d by omega]
    · rw [if_neg e, hx x]
      exact jp_ifc ⟨fun w => by omega, fun w => by omega⟩
  · intro k N hp
    obtain ⟨d0, hf, hx⟩ := hp
    refine ⟨N, ?_, hf, hx⟩
    show fX12_layRoom_67 r24 (k + 1) a b c (M 131 0) N = _
    rw [fX12_layRoom_67, if_pos (by decide), hf 131 (by decide), if_neg (by omega), jp_bs, jw_ws (by omega)]
theorem gX12_layRoom {M : jw_M} (hA : jp_A M) (a b : Int) : ∃ N : jw_M, fX12_layRoom a b M = some N ∧ (∀ k : Nat, k ≠ 141 → N k = M k) ∧ ∀ p q : Int, 0 ≤ p → p < 14 → 0 ≤ q → q < 14 → N 141 (14 * p + q) = jp_cap (M 131) a b p q := by
  obtain ⟨⟨r0, r2, r3, r4, r5⟩, -⟩ := jp_A_r hA
  unfold fX12_layRoom
  rw [jp_bs]
  refine jp_up (fun k i N => fX12_layRoom_2 k a b i N) 196 (fun i N => 0 ≤ i ∧ (∀ k : Nat, k ≠ 141 → N k = M k) ∧ ∀ x : Int, 0 ≤ x → x < i → N 141 x = 0) (fun r => ∃ N : jw_M, r = some N ∧ (∀ k : Nat, k ≠ 141 → N k = M k) ∧ ∀ p q : Int, 0 ≤ p → p < 14 → 0 ≤ q → q < 14 → N 141 (14 * p + q) = jp_cap (M 131) a b p q) ?_ ?_ jw_fu 0 M (by unfold jw_fu; omega) (by omega) ⟨by omega, fun _ _ => rfl, fun x p q => by omega⟩
  · intro k i N hp hi ih
    obtain ⟨i0, hf, hx⟩ := hp
    show ∃ N' : jw_M, fX12_layRoom_2 (k + 1) a b i N = _ ∧ _
    rw [fX12_layRoom_2, if_pos hi, if_pos (by omega), jp_bs, jp_bs, jw_ws (by omega)]
    refine ih _ ⟨by omega, fun k hk => by rw [jw_up_ne _ hk]; exact hf k hk, fun x p q => ?_⟩
    rw [jw_up_eq, jw_u1_a]
    by_cases e : x = i
    · rw [if_pos e]
    · rw [if_neg e]; exact hx x p (by omega)
  · intro k N hp
    obtain ⟨i0, hf, hx⟩ := hp
    show ∃ N' : jw_M, fX12_layRoom_2 (k + 1) a b 196 N = _ ∧ _
    rw [fX12_layRoom_2, if_neg (by decide), jp_bs]
    refine jp_up (fun k c N => fX12_layRoom_24 k a b c N) (M 131 0) (fun c N => 0 ≤ c ∧ (∀ k : Nat, k ≠ 141 → N k = M k) ∧ ∀ p q : Int, 0 ≤ p → p < 14 → 0 ≤ q → q < 14 → N 141 (14 * p + q) = if (p < 7 ∧ p < c) ∨ (7 ≤ p ∧ p - 7 < c) then jp_cap (M 131) a b p q else 0) (fun r => ∃ N : jw_M, r = some N ∧ (∀ k : Nat, k ≠ 141 → N k = M k) ∧ ∀ p q : Int, 0 ≤ p → p < 14 → 0 ≤ q → q < 14 → N 141 (14 * p + q) = jp_cap (M 131) a b p q) ?_ ?_ jw_fu 0 N (by unfold jw_fu; omega) (by omega) ⟨by omega, hf, fun p q p0 p1 q0 q1 => by rw [if_neg (by omega)]; exact hx _ (by omega) (by omega)⟩
    · intro k c N hp hc ih
      obtain ⟨c0, hf, hpq⟩ := hp
      have go : fX12_layRoom_24 (k + 1) a b c N = fX12_layRoom_67 (fX12_layRoom_24 k) jw_fu a b c 0 (jw_up N 141 (14 * c + 7 + c) (if c = a ∨ c = b then 99 else 1)) := by
        rw [fX12_layRoom_24, if_pos (by decide), hf 131 (by decide), if_pos hc, jw_ws (x := 14 * c) (by omega), jw_ws (x := 14 * c + 7) (by omega), jw_ws (x := 14 * c + 7 + c) (by omega)]
        unfold fX12_layRoom_57 fX12_layRoom_63
        by_cases e1 : c = a
        · rw [if_pos e1, if_pos (by omega), jp_bs, jp_bs, if_pos (Or.inl e1)]
        · rw [if_neg e1]
          by_cases e2 : c = b
          · rw [if_pos e2, if_pos (by omega), jp_bs, jp_bs, if_pos (Or.inr e2)]
          · rw [if_neg e2, if_pos (by omega), jp_bs, jp_bs, if_neg (show ¬ (c = a ∨ c = b) by omega)]
      obtain ⟨N', n1, n2, n3⟩ := gX12_layRoom_67 hA a b c ⟨c0, hc⟩ (fX12_layRoom_24 k) (jw_up N 141 (14 * c + 7 + c) (if c = a ∨ c = b then 99 else 1)) (fun k hk => by rw [jw_up_ne _ hk]; exact hf k hk)
      show ∃ N' : jw_M, fX12_layRoom_24 (k + 1) a b c N = _ ∧ _
      rw [go, n1]
      refine ih N' ⟨by omega, n2, fun p q p0 p1 q0 q1 => ?_⟩
      rw [n3]
      by_cases e7 : p = 7 + c
      · rw [if_pos (show (p < 7 ∧ p < c + 1) ∨ (7 ≤ p ∧ p - 7 < c + 1) by omega), e7, jp_cap_3 _ _ _ _ c0]
        by_cases eq : q < M 131 0
        · rw [if_pos (by omega), show 14 * (7 + c) + q - 14 * (7 + c) = q by omega]
          exact jp_ifc ⟨fun w => ⟨hc, eq, w⟩, fun w => w.2.2⟩
        · rw [if_neg (show ¬ (14 * (7 + c) ≤ 14 * (7 + c) + q ∧ 14 * (7 + c) + q < 14 * (7 + c) + M 131 0) by omega), if_neg (show ¬ (c < M 131 0 ∧ q < M 131 0 ∧ 0 < M 131 (14 + 7 * c + q)) from fun w => eq w.2.1), jw_up_eq, jw_u1_n _ (by omega), hpq (7 + c) q (by omega) (by omega) q0 q1, if_neg (show ¬ ((7 + c < 7 ∧ 7 + c < c) ∨ (7 ≤ 7 + c ∧ 7 + c - 7 < c)) by omega)]
      · rw [if_neg (by omega), jw_up_eq, jw_u1_a]
        by_cases e1 : p = c
        · rw [if_pos (show (p < 7 ∧ p < c + 1) ∨ (7 ≤ p ∧ p - 7 < c + 1) by omega)]
          by_cases eq : q = 7 + c
          · rw [if_pos (by omega), e1, eq, jp_cap_1 _ _ _ (by omega), if_pos hc]
          · rw [if_neg (by omega), hpq p q p0 p1 q0 q1, if_neg (by omega), jp_cap_2 _ _ _ (by omega) (by omega)]
        · rw [if_neg (by omega), hpq p q p0 p1 q0 q1]
          exact jp_ifc ⟨fun w => by omega, fun w => by omega⟩
    · intro k N hp
      obtain ⟨c0, hf, hpq⟩ := hp
      refine ⟨N, ?_, hf, fun p q p0 p1 q0 q1 => ?_⟩
      · show fX12_layRoom_24 (k + 1) a b (M 131 0) N = _
        rw [fX12_layRoom_24, if_pos (by decide), hf 131 (by decide), if_neg (by omega)]
      · rw [hpq p q p0 p1 q0 q1]
        by_cases z : (p < 7 ∧ p < M 131 0) ∨ (7 ≤ p ∧ p - 7 < M 131 0)
        · rw [if_pos z]
        · rw [if_neg z]
          unfold jp_cap
          by_cases z2 : p < 7
          · rw [if_pos z2, if_neg (fun w => by omega)]
          · rw [if_neg z2, if_neg (fun w => by omega)]
/-- who was met, from where -/
def jp_met (B : Int → Int) : Int → Bool := fun p => decide (B p ≠ -1000000)
def jp_cn (B : Int → Int) : Int := jp_sum (fun p => jp_01 (jp_met B p)) 14
def jp_bk (R B : Int → Int) (S : Int) (ρ : Int → Int) : Prop := B S = S ∧ ρ S = 0 ∧ ∀ p : Int, 0 ≤ p → p < 14 → B p ≠ -1000000 → (0 ≤ ρ p ∧ ρ p < jp_cn B) ∧ (p ≠ S → 0 ≤ B p ∧ B p < 14 ∧ B (B p) ≠ -1000000 ∧ 0 < R (14 * B p + p) ∧ ρ p = ρ (B p) + 1)
theorem jp_cn_r (B : Int → Int) : 0 ≤ jp_cn B ∧ jp_cn B ≤ 14 := by
  have := jp_sum_b (fun p => jp_01 (jp_met B p)) 0 1 14 (fun p _ _ => by have := jp_01r (jp_met B p); show 0 ≤ jp_01 (jp_met B p) ∧ jp_01 (jp_met B p) ≤ 1; omega)
  unfold jp_cn
  omega
theorem jp_bk_u {R B : Int → Int} {S : Int} (hS : 0 ≤ S ∧ S < 14) (h : ∃ ρ : Int → Int, jp_bk R B S ρ) {p q : Int} (hp : 0 ≤ p ∧ p < 14) (hq : 0 ≤ q ∧ q < 14) (bp : B p ≠ -1000000) (bq : B q = -1000000) (hr : 0 < R (14 * p + q)) : (∃ ρ : Int → Int, jp_bk R (jw_u1 B q p) S ρ) ∧ jp_cn (jw_u1 B q p) = jp_cn B + 1 := by
  obtain ⟨ρ, b1, b2, b3⟩ := h
  have hqS : q ≠ S := fun e => by rw [e, b1] at bq; omega
  have hpq : p ≠ q := fun e => by rw [e] at bp; exact bp bq
  have hcn : jp_cn (jw_u1 B q p) = jp_cn B + 1 := by
    unfold jp_cn
    refine jp_sum_p (s := q) hq.1 ?_ 14 (by omega) (fun j _ _ hj => ?_)
    · unfold jp_met
      rw [jw_u1_s, bq, decide_eq_true (by omega), decide_eq_false (fun w => w rfl)]
      rfl
    · unfold jp_met
      rw [jw_u1_n _ hj]
  refine ⟨⟨jw_u1 ρ q (ρ p + 1), ?_, ?_, fun x x0 x1 hx => ?_⟩, hcn⟩
  · rw [jw_u1_n _ (fun e => hqS e.symm)]; exact b1
  · rw [jw_u1_n _ (fun e => hqS e.symm)]; exact b2
  · rw [hcn]
    obtain ⟨u1, u2⟩ := b3 p hp.1 hp.2 bp
    by_cases e : x = q
    · rw [e, jw_u1_s, jw_u1_s]
      refine ⟨by omega, fun _ => ⟨hp.1, hp.2, ?_, hr, ?_⟩⟩
      · rw [jw_u1_n _ hpq]; exact bp
      · rw [jw_u1_n _ hpq]
    · rw [jw_u1_n _ e] at hx ⊢
      rw [jw_u1_n _ e]
      obtain ⟨w1, w2⟩ := b3 x x0 x1 hx
      refine ⟨by omega, fun hxS => ?_⟩
      obtain ⟨v1, v2, v3, v4, v5⟩ := w2 hxS
      have hbq : B x ≠ q := fun z => by rw [z] at v3; exact v3 bq
      rw [jw_u1_n _ hbq, jw_u1_n _ hbq]
      exact ⟨v1, v2, v3, v4, v5⟩
