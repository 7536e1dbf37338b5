/-! mixed rounds: the model -/
theorem jp_vp_s (E : Int → Int) (f : Int) (p : Int → Bool) {i : Int} (h : 0 ≤ i) : jp_vp E f p (i + 1).toNat = if p i = true then jp_vp E f p i.toNat * (E i + f) else jp_vp E f p i.toNat := by
  have e : (i + 1).toNat = i.toNat + 1 := by omega
  rw [e, jp_vp, Int.toNat_of_nonneg h]
/-- the two numbers alone have changed -/
def jp_vf (M N : jw_M) : Prop := (∀ k : Nat, k ≠ 127 → N k = M k) ∧ (∀ j : Int, j ≠ 27 → j ≠ 28 → N 127 j = M 127 j)
theorem jp_vf_r (M : jw_M) : jp_vf M M := ⟨fun _ _ => rfl, fun _ _ _ => rfl⟩
theorem jp_vf_t {M N L : jw_M} (h : jp_vf M N) (h2 : jp_vf N L) : jp_vf M L := ⟨fun k hk => by rw [h2.1 k hk, h.1 k hk], fun j a b => by rw [h2.2 j a b, h.2 j a b]⟩
theorem jp_vf_u {M N : jw_M} (h : jp_vf M N) (j v : Int) (hj : j = 27 ∨ j = 28) : jp_vf M (jw_up N 127 j v) := ⟨fun k hk => by rw [jw_up_ne _ hk]; exact h.1 k hk, fun i a b => by rw [jw_up_eq, jw_u1_n _ (by omega)]; exact h.2 i a b⟩
theorem jp_vf_A {M N : jw_M} (h : jp_vf M N) (hA : jp_A M) : jp_A N := jp_A_fr hA (fun k _ _ => h.1 k (by omega)) (h.1 _ (by decide)) (h.1 _ (by decide)) (h.1 _ (by decide))
theorem jp_vf_i {M N : jw_M} (h : jp_vf M N) (hI : jp_inv M) : jp_inv N :=
  jp_inv_fr hI (fun k hk => h.1 k (fun e => by subst e; revert hk; decide)) (by rw [h.1 _ (by decide)]) (by rw [h.1 _ (by decide)]) (by rw [h.1 _ (by decide)]) (by rw [h.1 _ (by decide)]) (h.2 _ (by decide) (by decide)) (h.2 _ (by decide) (by decide)) (h.2 _ (by decide) (by decide)) (h.2 _ (by decide) (by decide)) (h.2 _ (by decide) (by decide))
theorem jp_tdb2 {a b K : Int} (ha : 0 ≤ a ∧ a ≤ K) (hb : 1 ≤ b) : 0 ≤ a.tdiv b ∧ a.tdiv b ≤ K := by
  have := jp_tdb ha.1 hb
  omega
theorem gX12_layValue_69 {M : jw_M} (hA : jp_A M) (f t : Int) (hf : 1 ≤ f ∧ f ≤ 99) (L : jw_M) (hL : jp_vf M L) (l27 : L 127 27 = 0) (l28 : L 127 28 = 0) : ∃ N : jw_M, fX12_layValue_69 jw_fu f t (jp_vp (jp_E M) f (jp_ut (jp_E M) t) (M 131 0).toNat) 0 L = some N ∧ jp_vf M N ∧ N 127 27 = jp_up1 (jp_E M) f (jp_ut (jp_E M) t) (M 131 0) ∧ N 127 28 = jp_vb (jp_E M) f (jp_ut (jp_E M) t) (M 131 0).toNat := by
  obtain ⟨⟨r0, r2, r3, r4, r5⟩, -⟩ := jp_A_r hA
  have hE := jp_E_k hA hf
  have hv := jp_v_7 hE (jp_ut (jp_E M) t)
  obtain ⟨s1, s2⟩ := jp_v_sum hE (jp_ut (jp_E M) t) (M 131 0).toNat 1 (by omega) (by omega)
  rw [Int.mul_one, Int.mul_one] at s1 s2
  have hu : jp_up1 (jp_E M) f (jp_ut (jp_E M) t) (M 131 0) = jp_ve (jp_E M) f (jp_ut (jp_E M) t) (M 131 0).toNat - jp_vp (jp_E M) f (jp_ut (jp_E M) t) (M 131 0).toNat := rfl
  generalize jp_vp (jp_E M) f (jp_ut (jp_E M) t) (M 131 0).toNat = P at hv s1 s2 hu ⊢
  have hg1 : ∀ i : Int, 0 ≤ i → i ≤ M 131 0 → 0 ≤ jp_sum (fun c => if jp_ut (jp_E M) t c = true then P.tdiv (jp_E M c + f) else 0) i.toNat ∧ jp_sum (fun c => if jp_ut (jp_E M) t c = true then P.tdiv (jp_E M c + f) else 0) i.toNat ≤ 83513055172466304 := by
    intro i a b
    have h := jp_sum_b (fun c => if jp_ut (jp_E M) t c = true then P.tdiv (jp_E M c + f) else 0) 0 11930436453209472 i.toNat (fun c c0 c1 => by
      have he := hE.2.2 c c0 (by omega)
      have h2 := jp_tdb2 (a := P) (b := jp_E M c + f) (K := 11930436453209472) (by omega) (by omega)
      show 0 ≤ (if jp_ut (jp_E M) t c = true then P.tdiv (jp_E M c + f) else 0) ∧ (if jp_ut (jp_E M) t c = true then P.tdiv (jp_E M c + f) else 0) ≤ 11930436453209472
      split <;> omega)
    omega
  have hg2 : ∀ i : Int, 0 ≤ i → i ≤ M 131 0 → 0 ≤ jp_sum (fun c => if jp_ut (jp_E M) t c = true then P.tdiv (jp_E M c + f) * jp_E M c else 0) i.toNat ∧ jp_sum (fun c => if jp_ut (jp_E M) t c = true then P.tdiv (jp_E M c + f) * jp_E M c else 0) i.toNat ≤ 8267792462074164096 := by
    intro i a b
    have h := jp_sum_b (fun c => if jp_ut (jp_E M) t c = true then P.tdiv (jp_E M c + f) * jp_E M c else 0) 0 1181113208867737728 i.toNat (fun c c0 c1 => by
      have he := hE.2.2 c c0 (by omega)
      have h2 := jp_tdb2 (a := P) (b := jp_E M c + f) (K := 11930436453209472) (by omega) (by omega)
      have h3 : 0 ≤ P.tdiv (jp_E M c + f) * jp_E M c ∧ P.tdiv (jp_E M c + f) * jp_E M c ≤ 11930436453209472 * 99 := jp_mb h2 he
      show 0 ≤ (if jp_ut (jp_E M) t c = true then P.tdiv (jp_E M c + f) * jp_E M c else 0) ∧ (if jp_ut (jp_E M) t c = true then P.tdiv (jp_E M c + f) * jp_E M c else 0) ≤ 1181113208867737728
      split <;> omega)
    omega
  refine jp_up (fun k i N => fX12_layValue_69 k f t P i N) (M 131 0) (fun i N => 0 ≤ i ∧ jp_vf M N ∧ N 127 27 = jp_sum (fun c => if jp_ut (jp_E M) t c = true then P.tdiv (jp_E M c + f) * jp_E M c else 0) i.toNat ∧ N 127 28 = jp_sum (fun c => if jp_ut (jp_E M) t c = true then P.tdiv (jp_E M c + f) else 0) i.toNat) (fun y => ∃ N : jw_M, y = some N ∧ jp_vf M N ∧ N 127 27 = jp_up1 (jp_E M) f (jp_ut (jp_E M) t) (M 131 0) ∧ N 127 28 = jp_vb (jp_E M) f (jp_ut (jp_E M) t) (M 131 0).toNat) ?_ ?_ jw_fu 0 L (by unfold jw_fu; omega) (by omega) ⟨by omega, hL, l27, l28⟩
  · intro k i N hp hi ih
    obtain ⟨h0, hN, n27, n28⟩ := hp
    have n131 : N 131 = M 131 := hN.1 _ (by decide)
    have he := hE.2.2 i h0 hi
    have ei : M 131 (7 + i) = jp_E M i := rfl
    have es1 := jp_sum_s (fun c => if jp_ut (jp_E M) t c = true then P.tdiv (jp_E M c + f) else 0) h0
    have es2 := jp_sum_s (fun c => if jp_ut (jp_E M) t c = true then P.tdiv (jp_E M c + f) * jp_E M c else 0) h0
    have b1 := hg1 i h0 (by omega)
    have b2 := hg2 i h0 (by omega)
    have b3 := hg1 (i + 1) (by omega) (by omega)
    have b4 := hg2 (i + 1) (by omega) (by omega)
    show ∃ N' : jw_M, fX12_layValue_69 (k + 1) f t P i N = some N' ∧ _
    rw [fX12_layValue_69, if_pos (by decide), n131, if_pos hi, jw_ws (x := 7 + i) (by omega), if_pos (by omega), ei]
    unfold fX12_layValue_145
    by_cases e : jp_E M i < t
    · have eu : jp_ut (jp_E M) t i = false := decide_eq_false (by omega)
      simp only [eu, Bool.false_eq_true, ↓reduceIte, Int.add_zero] at es1 es2
      rw [if_pos e, jp_bs, jw_ws (by omega)]
      exact ih N ⟨by omega, hN, by rw [n27, es2], by rw [n28, es1]⟩
    · have eu : jp_ut (jp_E M) t i = true := decide_eq_true (by omega)
      simp only [eu, ↓reduceIte] at es1 es2
      have h2 := jp_tdb2 (a := P) (b := jp_E M i + f) (K := 11930436453209472) (by omega) (by omega)
      have h3 : 0 ≤ P.tdiv (jp_E M i + f) * jp_E M i ∧ P.tdiv (jp_E M i + f) * jp_E M i ≤ 11930436453209472 * 99 := jp_mb h2 he
      rw [if_neg e, if_pos (by omega), jw_ws (x := jp_E M i + f) (by omega), if_pos (by omega), jp_bs, if_pos (by omega), jp_bs, jp_bs, jp_bs, jw_ws (x := i + 1) (by omega), jw_vs (x := P.tdiv (jp_E M i + f)) (by omega), jw_vs (x := P.tdiv (jp_E M i + f) * jp_E M i) (by omega), n27, jw_vs (x := _ + P.tdiv (jp_E M i + f) * jp_E M i) (by omega), ← es2]
      have e28 : ∀ v : Int, jw_up N 127 27 v 127 28 = N 127 28 := fun v => by rw [jw_up_eq, jw_u1_n _ (by decide)]
      rw [e28, n28, jw_vs (by omega), ← es1]
      refine ih _ ⟨by omega, jp_vf_u (jp_vf_u hN _ _ (by decide)) _ _ (by decide), ?_, ?_⟩
      · rw [jw_up_eq, jw_u1_n _ (by decide), jw_up_eq, jw_u1_s]
      · rw [jw_up_eq, jw_u1_s]
  · intro k N hp
    obtain ⟨h0, hN, n27, n28⟩ := hp
    have n131 : N 131 = M 131 := hN.1 _ (by decide)
    rw [s2] at n27
    rw [s1] at n28
    refine ⟨jw_up N 127 27 (jp_up1 (jp_E M) f (jp_ut (jp_E M) t) (M 131 0)), ?_, jp_vf_u hN _ _ (by decide), ?_, ?_⟩
    · show fX12_layValue_69 (k + 1) f t P (M 131 0) N = _
      rw [fX12_layValue_69, if_pos (by decide), n131, if_neg (by omega), jp_bs, n27, ← hu, jw_vs (by omega)]
    · rw [jw_up_eq, jw_u1_s]
    · rw [jw_up_eq, jw_u1_n _ (by decide)]; exact n28
theorem gX12_layValue {M : jw_M} (hA : jp_A M) (f t : Int) (hf : 1 ≤ f ∧ f ≤ 99) : ∃ N : jw_M, fX12_layValue f t M = some N ∧ jp_vf M N ∧ N 127 27 = jp_up1 (jp_E M) f (jp_ut (jp_E M) t) (M 131 0) ∧ N 127 28 = jp_vb (jp_E M) f (jp_ut (jp_E M) t) (M 131 0).toNat := by
  obtain ⟨⟨r0, r2, r3, r4, r5⟩, -⟩ := jp_A_r hA
  have hE := jp_E_k hA hf
  have e0 : fX12_layValue f t M = fX12_layValue_15 jw_fu f t 1 0 (jw_up (jw_up M 127 27 0) 127 28 0) := by
    unfold fX12_layValue
    rw [jp_bs, jp_bs, jp_bs, jp_bs]
  have hL : jp_vf M (jw_up (jw_up M 127 27 0) 127 28 0) := jp_vf_u (jp_vf_u (jp_vf_r M) _ _ (by decide)) _ _ (by decide)
  have l27 : jw_up (jw_up M 127 27 0) 127 28 0 127 27 = 0 := by rw [jw_up_eq, jw_u1_n _ (by decide), jw_up_eq, jw_u1_s]
  have l28 : jw_up (jw_up M 127 27 0) 127 28 0 127 28 = 0 := by rw [jw_up_eq, jw_u1_s]
  rw [e0]
  generalize jw_up (jw_up M 127 27 0) 127 28 0 = L at hL l27 l28 ⊢
  have n131 : L 131 = M 131 := hL.1 _ (by decide)
  refine jp_up (fun k i a => fX12_layValue_15 k f t a i L) (M 131 0) (fun i a => 0 ≤ i ∧ a = jp_vp (jp_E M) f (jp_ut (jp_E M) t) i.toNat) (fun y => ∃ N : jw_M, y = some N ∧ jp_vf M N ∧ N 127 27 = jp_up1 (jp_E M) f (jp_ut (jp_E M) t) (M 131 0) ∧ N 127 28 = jp_vb (jp_E M) f (jp_ut (jp_E M) t) (M 131 0).toNat) ?_ ?_ jw_fu 0 1 (by unfold jw_fu; omega) (by omega) ⟨by omega, rfl⟩
  · intro k i a hp hi ih
    obtain ⟨h0, rfl⟩ := hp
    have he := hE.2.2 i h0 hi
    have ei : M 131 (7 + i) = jp_E M i := rfl
    have es := jp_vp_s (jp_E M) f (jp_ut (jp_E M) t) h0
    have v1 := jp_vp_7 hE (jp_ut (jp_E M) t) h0 (by omega)
    have v2 := jp_vp_7 hE (jp_ut (jp_E M) t) (i := i + 1) (by omega) (by omega)
    show ∃ N' : jw_M, fX12_layValue_15 (k + 1) f t (jp_vp (jp_E M) f (jp_ut (jp_E M) t) i.toNat) i L = some N' ∧ _
    rw [fX12_layValue_15, if_pos (by decide), n131, if_pos hi, jw_ws (x := 7 + i) (by omega), if_pos (by omega), ei]
    unfold fX12_layValue_58
    by_cases e : jp_E M i < t
    · have eu : jp_ut (jp_E M) t i = false := decide_eq_false (by omega)
      simp only [eu, Bool.false_eq_true, ↓reduceIte] at es
      rw [if_pos e, jp_bs, jp_bs, jw_ws (by omega), Int.mul_one, jw_vs (by omega), ← es]
      exact ih _ ⟨by omega, rfl⟩
    · have eu : jp_ut (jp_E M) t i = true := decide_eq_true (by omega)
      simp only [eu, ↓reduceIte] at es
      rw [if_neg e, if_pos (by omega), jp_bs, jp_bs, jw_ws (x := i + 1) (by omega), jw_ws (x := jp_E M i + f) (by omega), ← es, jw_vs (by omega)]
      exact ih _ ⟨by omega, rfl⟩
  · intro k a hp
    obtain ⟨h0, rfl⟩ := hp
    have h := gX12_layValue_69 hA f t hf L hL l27 l28
    show ∃ N' : jw_M, fX12_layValue_15 (k + 1) f t (jp_vp (jp_E M) f (jp_ut (jp_E M) t) (M 131 0).toNat) (M 131 0) L = some N' ∧ _
    rw [fX12_layValue_15, if_pos (by decide), n131, if_neg (by omega), jp_bs]
    exact h
theorem gX12_seek_37 {M : jw_M} (hA : jp_A M) (f t : Int) (ht : 0 ≤ t ∧ t ≤ 99) (r5 : Int → Int → Int → jw_M → Option jw_M) (B U : Int) (hB : 0 ≤ B ∧ B ≤ 421783106931648) (m27 : M 127 27 = U) (m28 : M 127 28 = B) : ∀ x2 : Int, (x2 = 0 ∨ x2 = 1) → ((x2 = 1 ∧ ∀ c : Int, 0 ≤ c → c < M 131 0 → t ≤ jp_E M c ∨ jp_E M c * B ≤ U) ∧ fX12_seekValue_37 r5 jw_fu f x2 t 0 M = r5 f 1 (t - 1) M) ∨ (¬ (x2 = 1 ∧ ∀ c : Int, 0 ≤ c → c < M 131 0 → t ≤ jp_E M c ∨ jp_E M c * B ≤ U) ∧ fX12_seekValue_37 r5 jw_fu f x2 t 0 M = r5 f 0 (t - 1) M) := by
  obtain ⟨⟨r0, r2, r3, r4, r5'⟩, -⟩ := jp_A_r hA
  intro x2 hx2
  refine jp_up (fun k i a => fX12_seekValue_37 r5 k f a t i M) (M 131 0) (fun i a => 0 ≤ i ∧ (a = 0 ∨ a = 1) ∧ (a = 1 → x2 = 1 ∧ ∀ c : Int, 0 ≤ c → c < i → t ≤ jp_E M c ∨ jp_E M c * B ≤ U) ∧ (a = 0 → ¬ (x2 = 1 ∧ ∀ c : Int, 0 ≤ c → c < M 131 0 → t ≤ jp_E M c ∨ jp_E M c * B ≤ U))) (fun y => ((x2 = 1 ∧ ∀ c : Int, 0 ≤ c → c < M 131 0 → t ≤ jp_E M c ∨ jp_E M c * B ≤ U) ∧ y = r5 f 1 (t - 1) M) ∨ (¬ (x2 = 1 ∧ ∀ c : Int, 0 ≤ c → c < M 131 0 → t ≤ jp_E M c ∨ jp_E M c * B ≤ U) ∧ y = r5 f 0 (t - 1) M)) ?_ ?_ jw_fu 0 x2 (by unfold jw_fu; omega) (by omega) ⟨by omega, hx2, fun e => ⟨e, fun c a b => by omega⟩, fun e z => by omega⟩
  · intro k i a hp hi ih
    obtain ⟨h0, ha, h1, h2⟩ := hp
    have he : 0 ≤ jp_E M i ∧ jp_E M i ≤ 99 := hA.1.2.2.1 i h0 (by omega)
    have ei : M 131 (7 + i) = jp_E M i := rfl
    have hm : 0 ≤ jp_E M i * B ∧ jp_E M i * B ≤ 99 * 421783106931648 := jp_mb he hB
    show (_ ∧ fX12_seekValue_37 r5 (k + 1) f a t i M = _) ∨ (_ ∧ fX12_seekValue_37 r5 (k + 1) f a t i M = _)
    rw [fX12_seekValue_37, if_pos (by decide), if_pos hi, jw_ws (x := 7 + i) (by omega), ei]
    unfold fX12_seekValue_95 fX12_seekValue_83 fX12_seekValue_88 fX12_isAbove
    rcases ha with rfl | rfl
    · refine Or.inr ⟨h2 rfl, ?_⟩
      rw [if_pos rfl, jp_bs, jw_ws (by omega)]
      rfl
    · obtain ⟨g1, g2⟩ := h1 rfl
      have next : (t ≤ jp_E M i ∨ jp_E M i * B ≤ U) → ((x2 = 1 ∧ ∀ c : Int, 0 ≤ c → c < M 131 0 → t ≤ jp_E M c ∨ jp_E M c * B ≤ U) ∧ fX12_seekValue_37 r5 k f 1 t (i + 1) M = r5 f 1 (t - 1) M) ∨ (¬ (x2 = 1 ∧ ∀ c : Int, 0 ≤ c → c < M 131 0 → t ≤ jp_E M c ∨ jp_E M c * B ≤ U) ∧ fX12_seekValue_37 r5 k f 1 t (i + 1) M = r5 f 0 (t - 1) M) := by
        intro hz
        refine ih 1 ⟨by omega, Or.inr rfl, fun _ => ⟨g1, fun c c0 c1 => ?_⟩, fun z => by omega⟩
        by_cases e : c = i
        · rw [e]; exact hz
        · exact g2 c c0 (by omega)
      rw [if_neg (by decide), if_pos (by omega)]
      by_cases e : jp_E M i < t
      · rw [if_pos e, if_pos (by omega), m27, m28, jw_vs (by omega)]
        by_cases e2 : U < jp_E M i * B
        · rw [if_pos ((jw_cmp_gt _ _).mpr e2), jp_bs, if_neg (by decide), jp_bs, jp_bs, jw_ws (x := i + 1) (by omega)]
          refine ih 0 ⟨by omega, Or.inl rfl, fun z => by omega, fun _ z => ?_⟩
          have := z.2 i h0 hi
          omega
        · rw [if_neg (fun z => e2 ((jw_cmp_gt _ _).mp z)), jp_bs, if_pos rfl, jp_bs, jp_bs, jw_ws (x := i + 1) (by omega)]
          exact next (Or.inr (by omega))
      · rw [if_neg e, jp_bs, jp_bs, jw_ws (x := i + 1) (by omega)]
        exact next (Or.inl (by omega))
  · intro k a hp
    obtain ⟨h0, ha, h1, h2⟩ := hp
    have e0 : fX12_seekValue_37 r5 (k + 1) f a t (M 131 0) M = r5 f a (t - 1) M := by
      rw [fX12_seekValue_37, if_pos (by decide), if_neg (by omega)]
      unfold fX12_seekValue_95
      rw [jp_bs, jw_ws (by omega)]
      rfl
    show (_ ∧ fX12_seekValue_37 r5 (k + 1) f a t (M 131 0) M = _) ∨ (_ ∧ fX12_seekValue_37 r5 (k + 1) f a t (M 131 0) M = _)
    rw [e0]
    rcases ha with rfl | rfl
    · exact Or.inr ⟨h2 rfl, rfl⟩
    · exact Or.inl ⟨h1 rfl, rfl⟩
theorem gX12_seek_5 {M : jw_M} (hA : jp_A M) (f : Int) (hf : 1 ≤ f ∧ f ≤ 99) {p : Int → Bool} (hp : jp_fin (jp_E M) f (M 131 0) p) : ∀ (n : Nat) (t : Int) (k : Nat) (L : jw_M), (n : Int) = t → t ≤ 99 → n + 2 < k → jp_vf M L → (∃ c : Int, 0 ≤ c ∧ c < M 131 0 ∧ p c = true ∧ jp_E M c ≤ t) → ∃ N : jw_M, fX12_seekValue_5 k f 0 t L = fX12_seekValue_101 N ∧ jp_vf M N ∧ N 127 27 = jp_up1 (jp_E M) f p (M 131 0) ∧ N 127 28 = jp_vb (jp_E M) f p (M 131 0).toNat := by
  have hE := jp_E_k hA hf
  intro n
  induction n with
  | zero =>
    intro t k L ht h99 hk hL hc
    obtain ⟨k, rfl⟩ : ∃ j, k = j + 2 := ⟨k - 2, by omega⟩
    have eL : L 131 = M 131 := hL.1 _ (by decide)
    have eE : jp_E L = jp_E M := by unfold jp_E; rw [eL]
    obtain ⟨N, n1, n2, n3, n4⟩ := gX12_layValue (jp_vf_A hL hA) f t hf
    rw [eL, eE] at n3 n4
    have hv := jp_v_7 hE (jp_ut (jp_E M) t)
    have hMN := jp_vf_t hL n2
    have eN : N 131 = M 131 := hMN.1 _ (by decide)
    have eEN : jp_E N = jp_E M := by unfold jp_E; rw [eN]
    rcases jp_fin_t hp hc hE with ⟨-, z, -⟩ | ⟨hcd, e1, e2⟩
    · omega
    · refine ⟨N, ?_, hMN, by rw [n3, e2], by rw [n4, e1]⟩
      rw [fX12_seekValue_5, if_neg (by omega), if_pos rfl, n1, jp_bs, n4, if_pos ((jw_cmp_gt _ _).mpr hcd.1)]
      unfold fX12_seekValue_33
      rw [jp_bs, jp_bs]
      rcases gX12_seek_37 (jp_vf_A hMN hA) f t (by omega) (fX12_seekValue_5 (k + 1)) _ _ hv.2.1 n3 n4 1 (Or.inr rfl) with ⟨-, z⟩ | ⟨z, -⟩
      · rw [z, fX12_seekValue_5, if_pos (by omega)]
      · rw [eN, eEN] at z
        exact absurd ⟨rfl, hcd.2⟩ z
  | succ n ih =>
    intro t k L ht h99 hk hL hc
    obtain ⟨k, rfl⟩ : ∃ j, k = j + 2 := ⟨k - 2, by omega⟩
    have eL : L 131 = M 131 := hL.1 _ (by decide)
    have eE : jp_E L = jp_E M := by unfold jp_E; rw [eL]
    obtain ⟨N, n1, n2, n3, n4⟩ := gX12_layValue (jp_vf_A hL hA) f t hf
    rw [eL, eE] at n3 n4
    have hv := jp_v_7 hE (jp_ut (jp_E M) t)
    have hMN := jp_vf_t hL n2
    have eN : N 131 = M 131 := hMN.1 _ (by decide)
    have eEN : jp_E N = jp_E M := by unfold jp_E; rw [eN]
    rcases jp_fin_t hp hc hE with ⟨hcd, z1, hc2⟩ | ⟨hcd, e1, e2⟩
    · obtain ⟨N2, m1, m2⟩ := ih (t - 1) (k + 1) N (by omega) (by omega) (by omega) hMN hc2
      refine ⟨N2, ?_, m2⟩
      rw [← m1, fX12_seekValue_5, if_neg (by omega), if_pos rfl, n1, jp_bs, n4]
      unfold fX12_seekValue_33
      by_cases e : 0 < jp_vb (jp_E M) f (jp_ut (jp_E M) t) (M 131 0).toNat
      · rw [if_pos ((jw_cmp_gt _ _).mpr e), jp_bs, jp_bs]
        rcases gX12_seek_37 (jp_vf_A hMN hA) f t (by omega) (fX12_seekValue_5 (k + 1)) _ _ hv.2.1 n3 n4 1 (Or.inr rfl) with ⟨z, -⟩ | ⟨-, z⟩
        · rw [eN, eEN] at z
          exact absurd ⟨e, z.2⟩ hcd
        · exact z
      · rw [if_neg (fun z => e ((jw_cmp_gt _ _).mp z)), jp_bs, jp_bs]
        rcases gX12_seek_37 (jp_vf_A hMN hA) f t (by omega) (fX12_seekValue_5 (k + 1)) _ _ hv.2.1 n3 n4 0 (Or.inl rfl) with ⟨z, -⟩ | ⟨-, z⟩
        · exact absurd z.1 (by decide)
        · exact z
    · refine ⟨N, ?_, hMN, by rw [n3, e2], by rw [n4, e1]⟩
      rw [fX12_seekValue_5, if_neg (by omega), if_pos rfl, n1, jp_bs, n4, if_pos ((jw_cmp_gt _ _).mpr hcd.1)]
      unfold fX12_seekValue_33
      rw [jp_bs, jp_bs]
      rcases gX12_seek_37 (jp_vf_A hMN hA) f t (by omega) (fX12_seekValue_5 (k + 1)) _ _ hv.2.1 n3 n4 1 (Or.inr rfl) with ⟨-, z⟩ | ⟨z, -⟩
      · rw [z, fX12_seekValue_5, if_neg (by omega), if_neg (by decide)]
      · rw [eN, eEN] at z
        exact absurd ⟨rfl, hcd.2⟩ z
theorem gX12_seekValue {M : jw_M} (hA : jp_A M) (f : Int) (hf : 1 ≤ f ∧ f ≤ 99) {p : Int → Bool} (hp : jp_fin (jp_E M) f (M 131 0) p) : ∃ N : jw_M, fX12_seekValue f M = some N ∧ jp_vf M N ∧ N 127 27 = jp_red (jp_up1 (jp_E M) f p (M 131 0)) (jp_vb (jp_E M) f p (M 131 0).toNat) 0 ∧ N 127 28 = jp_red (jp_up1 (jp_E M) f p (M 131 0)) (jp_vb (jp_E M) f p (M 131 0).toNat) 1 := by
  have hE := jp_E_k hA hf
  have hv := jp_v_7 hE p
  have hb := hp.2.1
  obtain ⟨c, c0, c1, pc⟩ := hp.2.2.1
  have he := hE.2.2 c c0 c1
  obtain ⟨N, n1, n2, n3, n4⟩ := gX12_seek_5 hA f hf hp 99 99 jw_fu M (by omega) (by omega) (by unfold jw_fu; omega) (jp_vf_r M) ⟨c, c0, c1, pc, he.2⟩
  have hu : -4611686018427387904 < jp_up1 (jp_E M) f p (M 131 0) ∧ jp_up1 (jp_E M) f p (M 131 0) < 4611686018427387904 := by unfold jp_up1; omega
  refine ⟨jw_up (jw_up N 127 27 (jp_red (jp_up1 (jp_E M) f p (M 131 0)) (jp_vb (jp_E M) f p (M 131 0).toNat) 0)) 127 28 (jp_red (jp_up1 (jp_E M) f p (M 131 0)) (jp_vb (jp_E M) f p (M 131 0).toNat) 1), ?_, jp_vf_u (jp_vf_u n2 _ _ (by decide)) _ _ (by decide), ?_, ?_⟩
  · unfold fX12_seekValue
    rw [jp_bs, jp_bs, n1]
    unfold fX12_seekValue_101
    rw [n3, n4, gX12_partOf _ _ _ _ hu (by omega), jp_bs, jp_bs, gX12_partOf _ _ _ _ hu (by omega), jp_bs, jp_bs, jp_bs]
  · rw [jw_up_eq, jw_u1_n _ (by decide), jw_up_eq, jw_u1_s]
  · rw [jw_up_eq, jw_u1_s]
