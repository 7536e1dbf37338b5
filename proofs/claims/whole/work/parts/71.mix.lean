/-! mixed rounds: the class -/
theorem jp_sb_f : ∀ (x : Fin 128) (c : Fin 7), jw_iand (jw_ishr ((x : Nat) : Int) ((c : Nat) : Int)) 1 = jp_bit ((x : Nat) : Int) ((c : Nat) : Int) := by decide +kernel
theorem jp_sb {x c : Int} (hx : 0 ≤ x ∧ x < 128) (hc : 0 ≤ c ∧ c < 7) : jw_iand (jw_ishr x c) 1 = jp_bit x c := by
  have h := jp_sb_f ⟨x.toNat, by omega⟩ ⟨c.toNat, by omega⟩
  simp only [Int.toNat_of_nonneg hx.1, Int.toNat_of_nonneg hc.1] at h
  exact h
theorem jp_ob_f : ∀ (x : Fin 128) (c : Fin 7), (0 ≤ jw_ior ((x : Nat) : Int) (jw_ishl 1 ((c : Nat) : Int)) ∧ jw_ior ((x : Nat) : Int) (jw_ishl 1 ((c : Nat) : Int)) < 128) ∧ ∀ d : Fin 7, jp_bit (jw_ior ((x : Nat) : Int) (jw_ishl 1 ((c : Nat) : Int))) ((d : Nat) : Int) = if (d : Nat) = (c : Nat) then 1 else jp_bit ((x : Nat) : Int) ((d : Nat) : Int) := by decide +kernel
theorem jp_ob {x c : Int} (hx : 0 ≤ x ∧ x < 128) (hc : 0 ≤ c ∧ c < 7) : (0 ≤ jw_ior x (jw_ishl 1 c) ∧ jw_ior x (jw_ishl 1 c) < 128) ∧ ∀ d : Int, 0 ≤ d → d < 7 → jp_bit (jw_ior x (jw_ishl 1 c)) d = if d = c then 1 else jp_bit x d := by
  have h := jp_ob_f ⟨x.toNat, by omega⟩ ⟨c.toNat, by omega⟩
  simp only [Int.toNat_of_nonneg hx.1, Int.toNat_of_nonneg hc.1] at h
  refine ⟨h.1, fun d d0 d1 => ?_⟩
  have h2 := h.2 ⟨d.toNat, by omega⟩
  simp only [Int.toNat_of_nonneg d0] at h2
  rw [h2]
  exact jp_ifc ⟨fun e => by omega, fun e => by omega⟩
/-- a mask shows a set -/
def jp_sh2 (x : Int) (p : Int → Bool) : Prop := (0 ≤ x ∧ x < 128) ∧ ∀ c : Int, 0 ≤ c → c < 7 → jp_bit x c = jp_01 (p c)
theorem jp_sh2_j {x : Int} {p : Int → Bool} (h : jp_sh2 x p) {c : Int} (hc : 0 ≤ c ∧ c < 7) : jp_sh2 (jw_ior x (jw_ishl 1 c)) (jp_j1 p c) := by
  obtain ⟨a, b⟩ := jp_ob h.1 hc
  refine ⟨a, fun d d0 d1 => ?_⟩
  rw [b d d0 d1]
  by_cases e : d = c
  · rw [if_pos e, e, jp_j1_s]; rfl
  · rw [if_neg e, jp_j1_n p e]; exact h.2 d d0 d1
theorem jp_sh2_0 {x c : Int} {p : Int → Bool} (h : jp_sh2 x p) (hc : 0 ≤ c ∧ c < 7) : jw_iand (jw_ishr x c) 1 = 0 ↔ p c = false := by
  rw [jp_sb h.1 hc, h.2 c hc.1 hc.2]
  cases p c with
  | true => exact ⟨fun z => (by cases z), fun z => (by cases z)⟩
  | false => exact ⟨fun _ => rfl, fun _ => rfl⟩
def jp_E (M : jw_M) : Int → Int := fun c => M 131 (7 + c)
theorem jp_E_k {M : jw_M} (hA : jp_A M) {f : Int} (hf : 1 ≤ f ∧ f ≤ 99) : jp_Ek (jp_E M) f (M 131 0) := ⟨(jp_A_r hA).1.1, hf, fun c a b => hA.1.2.2.1 c a (by have := (jp_A_r hA).1.1; omega)⟩
theorem gX5_bestWithout {M : jw_M} (hA : jp_A M) {x : Int} {p : Int → Bool} (hx : jp_sh2 x p) : ∃ b : Int, fX5_bestWithout x M = some b ∧ ((b = -1000000 ∧ ∀ d : Int, 0 ≤ d → d < M 131 0 → p d = true) ∨ (0 ≤ b ∧ b < M 131 0 ∧ p b = false ∧ ∀ d : Int, 0 ≤ d → d < M 131 0 → p d = false → jp_E M d ≤ jp_E M b)) := by
  obtain ⟨⟨c0, -⟩, -⟩ := jp_A_c hA
  obtain ⟨⟨r0, r2, r3, r4, r5⟩, -⟩ := jp_A_r hA
  have hE : ∀ c : Int, 0 ≤ c → c < M 131 0 → M (10 + 1) c = jp_E M c := hA.2.2.1
  unfold fX5_bestWithout
  rw [jp_bs, jp_bs]
  refine jp_up (fun k i b => fX5_bestWithout_5 M k x b i) (M 131 0) (fun i b => 0 ≤ i ∧ ((b = -1000000 ∧ ∀ d : Int, 0 ≤ d → d < i → p d = true) ∨ (0 ≤ b ∧ b < i ∧ p b = false ∧ ∀ d : Int, 0 ≤ d → d < i → p d = false → jp_E M d ≤ jp_E M b))) (fun y => ∃ b : Int, y = some b ∧ ((b = -1000000 ∧ ∀ d : Int, 0 ≤ d → d < M 131 0 → p d = true) ∨ (0 ≤ b ∧ b < M 131 0 ∧ p b = false ∧ ∀ d : Int, 0 ≤ d → d < M 131 0 → p d = false → jp_E M d ≤ jp_E M b))) ?_ ?_ jw_fu 0 _ (by unfold jw_fu; omega) (by omega) ⟨by omega, Or.inl ⟨rfl, fun d a b => by omega⟩⟩
  · intro k i b hp hi ih
    obtain ⟨h0, hb⟩ := hp
    show ∃ b' : Int, fX5_bestWithout_5 M (k + 1) x b i = some b' ∧ _
    rw [fX5_bestWithout_5, c0, if_pos hi]
    unfold fX5_bestWithout_49 fX5_bestWithout_51
    cases pi : p i with
    | true =>
      rw [if_neg (fun z => by rw [(jp_sh2_0 hx (by omega)).mp z] at pi; cases pi), jp_bs, jw_ws (by omega)]
      refine ih b ⟨by omega, ?_⟩
      rcases hb with ⟨e, hb⟩ | ⟨b0, b1, b2, b3⟩
      · refine Or.inl ⟨e, fun d d0 d1 => ?_⟩
        by_cases z : d = i
        · rw [z]; exact pi
        · exact hb d d0 (by omega)
      · refine Or.inr ⟨b0, by omega, b2, fun d d0 d1 pd => ?_⟩
        by_cases z : d = i
        · rw [z, pi] at pd; cases pd
        · exact b3 d d0 (by omega) pd
    | false =>
      rw [if_pos ((jp_sh2_0 hx (by omega)).mpr pi)]
      rcases hb with ⟨e, hb⟩ | ⟨b0, b1, b2, b3⟩
      · rw [if_pos (by omega), jp_bs, jp_bs, jw_ws (by omega)]
        refine ih i ⟨by omega, Or.inr ⟨h0, by omega, pi, fun d d0 d1 pd => ?_⟩⟩
        by_cases z : d = i
        · rw [z]; exact Int.le_refl _
        · have := hb d d0 (by omega)
          rw [pd] at this; cases this
      · rw [if_neg (by omega), if_pos (by omega), if_pos (by omega), hE b b0 (by omega), hE i h0 hi]
        by_cases e : jp_E M b < jp_E M i
        · rw [if_pos e, jp_bs, jp_bs, jw_ws (by omega)]
          refine ih i ⟨by omega, Or.inr ⟨h0, by omega, pi, fun d d0 d1 pd => ?_⟩⟩
          by_cases z : d = i
          · rw [z]; exact Int.le_refl _
          · have := b3 d d0 (by omega) pd
            omega
        · rw [if_neg e, jp_bs, jw_ws (by omega)]
          refine ih b ⟨by omega, Or.inr ⟨b0, by omega, b2, fun d d0 d1 pd => ?_⟩⟩
          by_cases z : d = i
          · rw [z]; omega
          · exact b3 d d0 (by omega) pd
  · intro k b hp
    refine ⟨b, ?_, hp.2⟩
    show fX5_bestWithout_5 M (k + 1) x b (M 131 0) = _
    rw [fX5_bestWithout_5, c0, if_neg (by omega)]
theorem jp_cnt_j {p : Int → Bool} {c : Int} (h0 : 0 ≤ c) (hc : p c = false) : ∀ n : Nat, c < (n : Int) → jp_sum (fun d => jp_01 (jp_j1 p c d)) n = jp_sum (fun d => jp_01 (p d)) n + 1 := by
  intro n
  induction n with
  | zero => intro h; omega
  | succ n ih =>
    intro h
    rw [jp_sum, jp_sum]
    by_cases e : c = (n : Int)
    · subst e
      rw [jp_j1_s, hc, jp_sum_c n (f := fun d => jp_01 (jp_j1 p (n : Int) d)) (g := fun d => jp_01 (p d)) (fun d a b => by show jp_01 _ = jp_01 _; rw [jp_j1_n p (by omega)])]
      simp only [jp_01t, jp_01f]
      omega
    · rw [ih (by omega), jp_j1_n p (fun z => e z.symm)]
      omega
theorem jp_cnt_a {p : Int → Bool} : ∀ n : Nat, jp_sum (fun d => jp_01 (p d)) n ≤ (n : Int) ∧ (jp_sum (fun d => jp_01 (p d)) n = (n : Int) → ∀ d : Int, 0 ≤ d → d < (n : Int) → p d = true) := by
  intro n
  induction n with
  | zero => exact ⟨by simp [jp_sum], fun _ d a b => by omega⟩
  | succ n ih =>
    rw [jp_sum]
    have h1 := jp_01r (p (n : Int))
    refine ⟨by omega, fun h d a b => ?_⟩
    by_cases e : d = (n : Int)
    · cases pd : p d with
      | true => rfl
      | false => rw [← e, pd, jp_01f] at h; omega
    · exact ih.2 (by omega) d a (by omega)
theorem gX5_mixRounds {M : jw_M} (hA : jp_A M) (f : Int) (hf : 1 ≤ f ∧ f ≤ 99) (hn : 1 ≤ M 131 0) : ∃ (N : jw_M) (p : Int → Bool), fX5_mixRounds f M = some N ∧ (∀ k : Nat, k ≠ 123 → N k = M k) ∧ N 123 4 = jp_up1 (jp_E M) f p (M 131 0) ∧ N 123 5 = jp_vb (jp_E M) f p (M 131 0).toNat ∧ jp_fin (jp_E M) f (M 131 0) p := by
  obtain ⟨⟨c0, -⟩, -⟩ := jp_A_c hA
  obtain ⟨⟨r0, r2, r3, r4, r5⟩, -⟩ := jp_A_r hA
  have hE := jp_E_k hA hf
  have hE11 : ∀ c : Int, 0 ≤ c → c < M 131 0 → M (10 + 1) c = jp_E M c := hA.2.2.1
  have e0 : fX5_mixRounds f M = fX5_mixRounds_21 jw_fu f 1 0 0 0 (jw_up (jw_up M 123 5 0) 123 4 0) := by
    unfold fX5_mixRounds
    rw [jp_bs, jp_bs, jp_bs, jp_bs, jp_bs, jp_bs]
  rw [e0]
  refine jp_up (fun k i (a : (Int × Int × Int) × jw_M) => fX5_mixRounds_21 k f a.1.1 a.1.2.1 a.1.2.2 i a.2) (M 131 0) (fun i a => 0 ≤ i ∧ (∀ k : Nat, k ≠ 123 → a.2 k = M k) ∧ ∃ p : Int → Bool, jp_sh2 a.1.2.2 p ∧ a.1.1 = jp_vp (jp_E M) f p (M 131 0).toNat ∧ a.1.2.1 = jp_ve (jp_E M) f p (M 131 0).toNat ∧ a.2 123 5 = jp_vb (jp_E M) f p (M 131 0).toNat ∧ jp_go (jp_E M) f (M 131 0) p ∧ jp_sum (fun d => jp_01 (p d)) (M 131 0).toNat = i ∧ ((i = 0 ∧ jp_vb (jp_E M) f p (M 131 0).toNat = 0 ∧ jp_up1 (jp_E M) f p (M 131 0) = -1) ∨ (1 ≤ i ∧ a.2 123 4 = jp_up1 (jp_E M) f p (M 131 0) ∧ 0 < jp_vb (jp_E M) f p (M 131 0).toNat ∧ ∃ c : Int, 0 ≤ c ∧ c < M 131 0 ∧ p c = true))) (fun y => ∃ (N : jw_M) (p : Int → Bool), y = some N ∧ (∀ k : Nat, k ≠ 123 → N k = M k) ∧ N 123 4 = jp_up1 (jp_E M) f p (M 131 0) ∧ N 123 5 = jp_vb (jp_E M) f p (M 131 0).toNat ∧ jp_fin (jp_E M) f (M 131 0) p) ?_ ?_ jw_fu 0 ((1, 0, 0), jw_up (jw_up M 123 5 0) 123 4 0) (by unfold jw_fu; omega) (by omega) ⟨by omega, fun k hk => ?_, fun _ => false, ?_⟩
  · intro k i a hp hi ih
    obtain ⟨⟨x2, x4, x6⟩, N⟩ := a
    obtain ⟨h0, fN, p, q1, q2, q3, q4, q5, q6, q7⟩ := hp
    simp only at fN q1 q2 q3 q4 q7
    have n10 : N 10 0 = M 131 0 := by rw [fN _ (by decide)]; exact c0
    have n131 : N 131 = M 131 := fN _ (by decide)
    have hAN : jp_A N := jp_A_fr hA (fun k a b => fN k (by omega)) n131 (fN _ (by decide)) (fN _ (by decide))
    have eEN : jp_E N = jp_E M := by unfold jp_E; rw [n131]
    obtain ⟨b, b1, b2⟩ := gX5_bestWithout hAN q1
    rw [n131, eEN] at b2
    have hv := jp_v_7 hE p
    have ca := jp_cnt_a (p := p) (M 131 0).toNat
    show ∃ (N' : jw_M) (p : Int → Bool), fX5_mixRounds_21 (k + 1) f x2 x4 x6 i N = some N' ∧ _
    rw [fX5_mixRounds_21, n10, if_pos hi, b1, jp_bs, jp_bs]
    rcases b2 with ⟨eb, hall⟩ | ⟨b0, bn, pb, hm⟩
    · exfalso
      have : ∀ n : Nat, (n : Int) ≤ M 131 0 → jp_sum (fun d => jp_01 (p d)) n = (n : Int) := by
        intro n
        induction n with
        | zero => intro _; rfl
        | succ n ihn =>
          intro hn
          rw [jp_sum, ihn (by omega), hall n (by omega) (by omega), jp_01t]
          omega
      have := this (M 131 0).toNat (by omega)
      omega
    · have he := hE.2.2 b b0 bn
      have e11 : N (10 + 1) b = jp_E M b := by rw [fN (10 + 1) (by decide)]; exact hE11 b b0 bn
      rw [if_neg (by omega), if_pos (by omega), jp_bs, e11]
      have hv2 := jp_v_7 hE (jp_j1 p b)
      obtain ⟨j1, j2, j3⟩ := jp_v_j (E := jp_E M) (f := f) b0 pb (M 131 0).toNat (by omega)
      have hvm : 0 ≤ jp_E M b * jp_vb (jp_E M) f p (M 131 0).toNat ∧ jp_E M b * jp_vb (jp_E M) f p (M 131 0).toNat ≤ 99 * 421783106931648 := jp_mb he hv.2.1
      have join : jp_up1 (jp_E M) f p (M 131 0) < jp_E M b * jp_vb (jp_E M) f p (M 131 0).toNat → ∃ (N' : jw_M) (p : Int → Bool), fX5_mixRounds_85 (fX5_mixRounds_21 k) f x2 x4 x6 i b (jp_E M b) N = some N' ∧ (∀ k : Nat, k ≠ 123 → N' k = M k) ∧ N' 123 4 = jp_up1 (jp_E M) f p (M 131 0) ∧ N' 123 5 = jp_vb (jp_E M) f p (M 131 0).toNat ∧ jp_fin (jp_E M) f (M 131 0) p := by
        intro hg
        obtain ⟨jg, jb⟩ := jp_go_j hE q5 b0 bn pb hm hg
        have hs : 1 ≤ jp_E M b + f ∧ jp_E M b + f ≤ 198 := by omega
        have m1 : 0 ≤ jp_ve (jp_E M) f p (M 131 0).toNat * (jp_E M b + f) ∧ jp_ve (jp_E M) f p (M 131 0).toNat * (jp_E M b + f) ≤ 41756527586233152 * 198 := jp_mb hv.2.2 (by omega)
        have m2 : 0 ≤ jp_E M b * jp_vp (jp_E M) f p (M 131 0).toNat ∧ jp_E M b * jp_vp (jp_E M) f p (M 131 0).toNat ≤ 99 * 11930436453209472 := jp_mb he (by omega)
        have m3 : 0 ≤ jp_vb (jp_E M) f p (M 131 0).toNat * (jp_E M b + f) ∧ jp_vb (jp_E M) f p (M 131 0).toNat * (jp_E M b + f) ≤ 421783106931648 * 198 := jp_mb hv.2.1 (by omega)
        have m4 : 0 ≤ jp_vp (jp_E M) f p (M 131 0).toNat * (jp_E M b + f) ∧ jp_vp (jp_E M) f p (M 131 0).toNat * (jp_E M b + f) ≤ 11930436453209472 * 198 := jp_mb (by omega) (by omega)
        unfold fX5_mixRounds_85
        rw [jp_bs, jp_bs, jp_bs, jp_bs, jp_bs, jp_bs, jp_bs, q2, q3, q4, jw_ws (x := jp_E M b + f) (by omega), jw_ws (x := i + 1) (by omega), jw_vs (x := jp_ve (jp_E M) f p (M 131 0).toNat * (jp_E M b + f)) (by omega), jw_vs (x := jp_E M b * jp_vp (jp_E M) f p (M 131 0).toNat) (by omega), jw_vs (x := jp_vb (jp_E M) f p (M 131 0).toNat * (jp_E M b + f)) (by omega), jw_vs (x := jp_vp (jp_E M) f p (M 131 0).toNat * (jp_E M b + f)) (by omega), ← j1, ← j2, jw_vs (x := jp_vb (jp_E M) f (jp_j1 p b) (M 131 0).toNat) (by omega), ← j3, jw_vs (x := jp_ve (jp_E M) f (jp_j1 p b) (M 131 0).toNat) (by omega), jw_vs (x := jp_ve (jp_E M) f (jp_j1 p b) (M 131 0).toNat - jp_vp (jp_E M) f (jp_j1 p b) (M 131 0).toNat) (by omega)]
        refine ih ((jp_vp (jp_E M) f (jp_j1 p b) (M 131 0).toNat, jp_ve (jp_E M) f (jp_j1 p b) (M 131 0).toNat, jw_ior x6 (jw_ishl 1 b)), _) ⟨by omega, fun k hk => ?_, jp_j1 p b, jp_sh2_j q1 (by omega), rfl, rfl, ?_, jg, ?_, Or.inr ⟨by omega, ?_, jb, b, b0, bn, jp_j1_s p b⟩⟩
        · show jw_up (jw_up N 123 5 _) 123 4 _ k = M k
          rw [jw_up_ne _ hk, jw_up_ne _ hk]; exact fN k hk
        · show jw_up (jw_up N 123 5 (jp_vb (jp_E M) f (jp_j1 p b) (M 131 0).toNat)) 123 4 (jp_ve (jp_E M) f (jp_j1 p b) (M 131 0).toNat - jp_vp (jp_E M) f (jp_j1 p b) (M 131 0).toNat) 123 5 = _
          rw [jw_up_eq, jw_u1_n _ (by decide), jw_up_eq, jw_u1_s]
        · rw [jp_cnt_j b0 pb _ (by omega), q6]
        · show jw_up (jw_up N 123 5 (jp_vb (jp_E M) f (jp_j1 p b) (M 131 0).toNat)) 123 4 (jp_ve (jp_E M) f (jp_j1 p b) (M 131 0).toNat - jp_vp (jp_E M) f (jp_j1 p b) (M 131 0).toNat) 123 4 = _
          rw [jw_up_eq, jw_u1_s]
          rfl
      by_cases hi0 : 0 < i
      · rw [if_pos hi0]
        rcases q7 with ⟨z, -⟩ | ⟨-, z4, zb, zc⟩
        · omega
        · rw [q4, z4, jw_vs (by omega)]
          by_cases hg : jp_up1 (jp_E M) f p (M 131 0) < jp_E M b * jp_vb (jp_E M) f p (M 131 0).toNat
          · rw [if_pos ((jw_cmp_gt _ _).mpr hg)]
            exact join hg
          · rw [if_neg (fun z => hg ((jw_cmp_gt _ _).mp z))]
            refine ⟨N, p, rfl, fN, z4, q4, q5, zb, zc, fun d d0 d1 pd => ?_⟩
            have w1 := hm d d0 d1 pd
            have w2 : jp_E M d * jp_vb (jp_E M) f p (M 131 0).toNat ≤ jp_E M b * jp_vb (jp_E M) f p (M 131 0).toNat := Int.mul_le_mul_of_nonneg_right w1 hv.2.1.1
            omega
      · rw [if_neg hi0]
        rcases q7 with ⟨-, zb, zu⟩ | ⟨z, -⟩
        · exact join (by rw [zu, zb]; omega)
        · omega
  · intro k a hp
    obtain ⟨⟨x2, x4, x6⟩, N⟩ := a
    obtain ⟨h0, fN, p, q1, q2, q3, q4, q5, q6, q7⟩ := hp
    simp only at fN q1 q2 q3 q4 q7
    have n10 : N 10 0 = M 131 0 := by rw [fN _ (by decide)]; exact c0
    have ca := (jp_cnt_a (p := p) (M 131 0).toNat).2 (by omega)
    rcases q7 with ⟨z, -⟩ | ⟨-, z4, zb, zc⟩
    · omega
    · refine ⟨N, p, ?_, fN, z4, q4, q5, zb, zc, fun d d0 d1 pd => ?_⟩
      · show fX5_mixRounds_21 (k + 1) f x2 x4 x6 (M 131 0) N = _
        rw [fX5_mixRounds_21, n10, if_neg (by omega)]
      · have := ca d d0 (by omega)
        rw [pd] at this; cases this
  · show jw_up (jw_up M 123 5 0) 123 4 0 k = M k
    rw [jw_up_ne _ hk, jw_up_ne _ hk]
  · obtain ⟨v1, v2, v3⟩ := jp_v_0 (jp_E M) f (M 131 0).toNat
    refine ⟨⟨(by decide : (0 : Int) ≤ 0 ∧ (0 : Int) < 128), fun c a b => ?_⟩, v1.symm, v3.symm, ?_, jp_go_0 _ _ _, ?_, Or.inl ⟨rfl, v2, ?_⟩⟩
    · show jp_bit 0 c = 0
      unfold jp_bit
      simp
    · show jw_up (jw_up M 123 5 0) 123 4 0 123 5 = _
      rw [jw_up_eq, jw_u1_n _ (by decide), jw_up_eq, jw_u1_s, v2]
    · have : ∀ n : Nat, jp_sum (fun d => jp_01 false) n = 0 := by
        intro n
        induction n with
        | zero => rfl
        | succ n ihn => rw [jp_sum, ihn]; rfl
      exact this _
    · unfold jp_up1
      rw [v1, v3]
      decide
