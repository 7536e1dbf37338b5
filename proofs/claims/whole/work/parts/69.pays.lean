/-! a boy's pay -/
def jp_pc (x : Int) : Int := x % 2 + x / 2 % 2 + x / 4 % 2 + x / 8 % 2 + x / 16 % 2 + x / 32 % 2 + x / 64 % 2
def jp_m0 : jw_M := fun _ _ => 0
theorem jp_pc_r {x : Int} (h : 0 ≤ x) : 0 ≤ jp_pc x ∧ jp_pc x ≤ 7 := by unfold jp_pc; omega
theorem jp_bc_f : ∀ x : Fin 128, fJ6_bitCount_0f7a4 ((x : Nat) : Int) jp_m0 = some (jp_pc ((x : Nat) : Int)) := by decide +kernel
theorem gJ6_bitCount (x : Int) (M : jw_M) (h : 0 ≤ x ∧ x < 128) : fJ6_bitCount_0f7a4 x M = some (jp_pc x) := by
  have e : fJ6_bitCount_0f7a4 x M = fJ6_bitCount_0f7a4 x jp_m0 := rfl
  have h2 := jp_bc_f ⟨x.toNat, by omega⟩
  simp only [Int.toNat_of_nonneg h.1] at h2
  rw [e, h2]
theorem bJ6_bitCount (x : Int) (M : jw_M) (h : 0 ≤ x ∧ x < 128) {be : Type} (kk : _ → Option be) : Option.bind (fJ6_bitCount_0f7a4 x M) kk = kk ((jp_pc x)) := by rw [show fJ6_bitCount_0f7a4 x M = some (jp_pc x) from gJ6_bitCount x M h]; rfl
theorem jp_bits_i (M M' : jw_M) : ∀ (k : Nat) (a b : Int), fX12_bits_4 M k a b = fX12_bits_4 M' k a b := by
  intro k
  induction k with
  | zero => intro a b; rfl
  | succ k ih =>
    intro a b
    rw [fX12_bits_4, fX12_bits_4]
    simp only [ih]
theorem jp_bits_f : ∀ x : Fin 32, fX12_bits ((x : Nat) : Int) jp_m0 = some (jp_pc ((x : Nat) : Int)) := by decide +kernel
theorem gX12_bits (x : Int) (M : jw_M) (h : 0 ≤ x ∧ x < 32) : fX12_bits x M = some (jp_pc x) := by
  have e : fX12_bits x M = fX12_bits x jp_m0 := by
    unfold fX12_bits
    rw [jp_bs, jp_bs, jp_bs, jp_bs]
    exact jp_bits_i _ _ _ _ _
  have h2 := jp_bits_f ⟨x.toNat, by omega⟩
  simp only [Int.toNat_of_nonneg h.1] at h2
  rw [e, h2]
theorem bX12_bits (x : Int) (M : jw_M) (h : 0 ≤ x ∧ x < 32) {be : Type} (kk : _ → Option be) : Option.bind (fX12_bits x M) kk = kk ((jp_pc x)) := by rw [show fX12_bits x M = some (jp_pc x) from gX12_bits x M h]; rfl
theorem jp_fac_i (M M' : jw_M) : ∀ (k : Nat) (a b c : Int), fX12_factorial_4 M k a b c = fX12_factorial_4 M' k a b c := by
  intro k
  induction k with
  | zero => intro a b c; rfl
  | succ k ih =>
    intro a b c
    rw [fX12_factorial_4, fX12_factorial_4]
    simp only [ih]
def jp_fc (x : Int) : Int := jw_x4.getD x.toNat 0
theorem jp_fac_f : ∀ x : Fin 6, fX12_factorial ((x : Nat) : Int) jp_m0 = some (jp_fc ((x : Nat) : Int)) ∧ 1 ≤ jp_fc ((x : Nat) : Int) ∧ jp_fc ((x : Nat) : Int) ≤ 120 := by decide +kernel
theorem jp_fc_r {x : Int} (h : 0 ≤ x ∧ x < 6) : 1 ≤ jp_fc x ∧ jp_fc x ≤ 120 := by
  have h2 := jp_fac_f ⟨x.toNat, by omega⟩
  simp only [Int.toNat_of_nonneg h.1] at h2
  exact h2.2
theorem gX12_factorial (x : Int) (M : jw_M) (h : 0 ≤ x ∧ x < 6) : fX12_factorial x M = some (jp_fc x) := by
  have e : fX12_factorial x M = fX12_factorial x jp_m0 := by
    unfold fX12_factorial
    rw [jp_bs, jp_bs, jp_bs, jp_bs]
    exact jp_fac_i _ _ _ _ _ _
  have h2 := jp_fac_f ⟨x.toNat, by omega⟩
  simp only [Int.toNat_of_nonneg h.1] at h2
  rw [e, h2.1]
theorem bX12_factorial (x : Int) (M : jw_M) (h : 0 ≤ x ∧ x < 6) {be : Type} (kk : _ → Option be) : Option.bind (fX12_factorial x M) kk = kk ((jp_fc x)) := by rw [show fX12_factorial x M = some (jp_fc x) from gX12_factorial x M h]; rfl
/-- what a set gains -/
def jp_gs (V : Int → Int) (pay x : Int) : Nat → Int
  | 0 => -pay
  | n + 1 => jp_gs V pay x n + (if jw_iand (jw_ishr x (n : Int)) 1 = 1 then V (n : Int) else 0)
theorem jp_gs_s (V : Int → Int) (pay x : Int) {i : Int} (h : 0 ≤ i) : jp_gs V pay x (i + 1).toNat = jp_gs V pay x i.toNat + (if jw_iand (jw_ishr x i) 1 = 1 then V i else 0) := by
  have e : (i + 1).toNat = i.toNat + 1 := by omega
  rw [e, jp_gs, Int.toNat_of_nonneg h]
theorem jp_gs_r {V : Int → Int} {m : Int} (hV : ∀ s : Int, 0 ≤ s → s < m → -2376 ≤ V s ∧ V s ≤ 2376) (pay x : Int) (hp : 1 ≤ pay ∧ pay ≤ 9999) : ∀ n : Nat, (n : Int) ≤ m → -9999 - 2376 * (n : Int) ≤ jp_gs V pay x n ∧ jp_gs V pay x n ≤ 2376 * (n : Int) := by
  intro n
  induction n with
  | zero => intro _; simp only [jp_gs]; omega
  | succ n ih =>
    intro hn
    have h1 := ih (by omega)
    have h2 := hV n (by omega) (by omega)
    rw [jp_gs]
    split <;> omega
def jp_gn (V : Int → Int) (pay x n : Int) : Int := if jp_gs V pay x n.toNat < 0 then 0 else jp_gs V pay x n.toNat
theorem jp_gn_r {V : Int → Int} {n : Int} (h5 : 0 ≤ n ∧ n ≤ 5) (hV : ∀ s : Int, 0 ≤ s → s < n → -2376 ≤ V s ∧ V s ≤ 2376) (pay x : Int) (hp : 1 ≤ pay ∧ pay ≤ 9999) : 0 ≤ jp_gn V pay x n ∧ jp_gn V pay x n ≤ 11880 := by
  have := jp_gs_r hV pay x hp n.toNat (by omega)
  unfold jp_gn
  split <;> omega
def jp_V (M : jw_M) (w : Int) : Int → Int := fun s => M 133 (22 + (5 * w + s))
theorem jp_V_r {M : jw_M} (hD : jp_D M) {w : Int} (hw : 0 ≤ w ∧ w < 4) (n : Int) (hn : n ≤ 5) : ∀ s : Int, 0 ≤ s → s < n → -2376 ≤ jp_V M w s ∧ jp_V M w s ≤ 2376 := by
  intro s a b
  have h1 := hD.1.1
  have h3 := hD.2.2.1 (5 * w + s) (by omega) (by omega)
  unfold jp_V
  omega
theorem gX5_gain {M : jw_M} (hA : jp_A M) (hD : jp_D M) (w pay x : Int) (hw : 0 ≤ w ∧ w < 4) (hp : 1 ≤ pay ∧ pay ≤ 9999) : fX5_gain w pay x M = some (jp_gn (jp_V M w) pay x (M 131 3)) := by
  obtain ⟨⟨r0, r2, r3, r4, r5⟩, -⟩ := jp_A_r hA
  obtain ⟨-, -, g4, g7⟩ := jp_A_c hA
  have hV := jp_V_r hD hw (M 131 3) r3.2
  unfold fX5_gain
  rw [jp_bs, jp_bs, jw_ws (by omega)]
  refine jp_up (fun k i a => fX5_gain_7 M k w x a i) (M 131 3) (fun i a => 0 ≤ i ∧ a = jp_gs (jp_V M w) pay x i.toNat) (fun y => y = some (jp_gn (jp_V M w) pay x (M 131 3))) ?_ ?_ jw_fu 0 (-pay) (by unfold jw_fu; omega) (by omega) ⟨by omega, rfl⟩
  · intro k i a hp2 hi ih
    obtain ⟨h0, rfl⟩ := hp2
    have es := jp_gs_s (jp_V M w) pay x h0
    have er := jp_gs_r hV pay x hp i.toNat (by omega)
    have ev := hV i h0 hi
    have eb : fX1_savedBy 30 w i M = some (jp_V M w i) := gX1_savedBy hD w i (by omega)
    show fX5_gain_7 _ _ _ _ _ _ = _
    rw [fX5_gain_7, g4, if_pos hi]
    unfold fX5_gain_44
    by_cases e : jw_iand (jw_ishr x i) 1 = 1
    · rw [if_pos e] at es
      rw [if_pos e, eb, jp_bs, jp_bs, jp_bs, jw_ws (x := i + 1) (by omega), jw_ws (by omega)]
      exact ih _ ⟨by omega, es.symm⟩
    · rw [if_neg e, Int.add_zero] at es
      rw [if_neg e, jp_bs, jw_ws (by omega)]
      exact ih _ ⟨by omega, es.symm⟩
  · intro k a hp2
    obtain ⟨h0, rfl⟩ := hp2
    show fX5_gain_7 _ _ _ _ _ _ = _
    rw [fX5_gain_7, g4, if_neg (by omega)]
    rfl
theorem bX5_gain {M : jw_M} (hA : jp_A M) (hD : jp_D M) (w pay x : Int) (hw : 0 ≤ w ∧ w < 4) (hp : 1 ≤ pay ∧ pay ≤ 9999) {be : Type} (kk : _ → Option be) : Option.bind (fX5_gain w pay x M) kk = kk ((jp_gn (jp_V M w) pay x (M 131 3))) := by rw [show fX5_gain w pay x M = some (jp_gn (jp_V M w) pay x (M 131 3)) from gX5_gain hA hD w pay x hw hp]; rfl
theorem gX12_gainOf {M : jw_M} (hA : jp_A M) (hD : jp_D M) (w pay x : Int) (hw : 0 ≤ w ∧ w < 4) (hp : 1 ≤ pay ∧ pay ≤ 9999) : fX12_gainOf w pay x M = some (jp_gn (jp_V M w) pay x (M 131 3)) := by
  obtain ⟨⟨r0, r2, r3, r4, r5⟩, -⟩ := jp_A_r hA
  have hV := jp_V_r hD hw (M 131 3) r3.2
  unfold fX12_gainOf
  rw [jp_bs, jp_bs, jw_ws (by omega)]
  refine jp_up (fun k i a => fX12_gainOf_8 M k w x a i) (M 131 3) (fun i a => 0 ≤ i ∧ a = jp_gs (jp_V M w) pay x i.toNat) (fun y => y = some (jp_gn (jp_V M w) pay x (M 131 3))) ?_ ?_ jw_fu 0 (-pay) (by unfold jw_fu; omega) (by omega) ⟨by omega, rfl⟩
  · intro k i a hp2 hi ih
    obtain ⟨h0, rfl⟩ := hp2
    have es := jp_gs_s (jp_V M w) pay x h0
    have er := jp_gs_r hV pay x hp i.toNat (by omega)
    have ev := hV i h0 hi
    have eb : fX12_savedBy w i M = some (jp_V M w i) := gX12_savedBy w i M (by omega)
    show fX12_gainOf_8 _ _ _ _ _ _ = _
    rw [fX12_gainOf_8, if_pos (by decide), if_pos hi]
    unfold fX12_gainOf_43
    by_cases e : jw_iand (jw_ishr x i) 1 = 1
    · rw [if_pos e] at es
      rw [if_pos e, eb, jp_bs, jp_bs, jp_bs, jw_ws (x := i + 1) (by omega), jw_vs (by omega)]
      exact ih _ ⟨by omega, es.symm⟩
    · rw [if_neg e] at es
      rw [if_neg e, jp_bs, jp_bs, jw_ws (x := i + 1) (by omega), jw_vs (by omega)]
      exact ih _ ⟨by omega, es.symm⟩
  · intro k a hp2
    obtain ⟨h0, rfl⟩ := hp2
    show fX12_gainOf_8 _ _ _ _ _ _ = _
    rw [fX12_gainOf_8, if_pos (by decide), if_neg (by omega)]
    unfold jp_gn
    by_cases e : jp_gs (jp_V M w) pay x (M 131 3).toNat < 0
    · rw [if_pos ((jw_cmp_lt _ _).mpr e), if_pos e]
    · rw [if_neg (fun z => e ((jw_cmp_lt _ _).mp z)), if_neg e]
theorem bX12_gainOf {M : jw_M} (hA : jp_A M) (hD : jp_D M) (w pay x : Int) (hw : 0 ≤ w ∧ w < 4) (hp : 1 ≤ pay ∧ pay ≤ 9999) {be : Type} (kk : _ → Option be) : Option.bind (fX12_gainOf w pay x M) kk = kk ((jp_gn (jp_V M w) pay x (M 131 3))) := by rw [show fX12_gainOf w pay x M = some (jp_gn (jp_V M w) pay x (M 131 3)) from gX12_gainOf hA hD w pay x hw hp]; rfl
/-- one set's part -/
def jp_pe (V : Int → Int) (pay n s x : Int) : Int := if jw_iand (jw_ishr x s) 1 = 0 then jp_fc (jp_pc x) * jp_fc (n - 1 - jp_pc x) * (jp_gn V pay (jw_ior x (jw_ishl 1 s)) n - jp_gn V pay x n) else 0
theorem jp_pe_f : ∀ (n : Fin 6) (s : Fin 5) (x : Fin 32), (s : Nat) < (n : Nat) → ((x : Nat) : Int) < jw_ishl 1 ((n : Nat) : Int) → jw_iand (jw_ishr ((x : Nat) : Int) ((s : Nat) : Int)) 1 = 0 → jp_pc ((x : Nat) : Int) ≤ ((n : Nat) : Int) - 1 := by decide +kernel
theorem jp_sh_f : ∀ (n : Fin 7), jw_ishl 1 ((n : Nat) : Int) = 2 ^ (n : Nat) := by decide +kernel
theorem jp_sh {n : Int} (h : 0 ≤ n ∧ n < 7) : jw_ishl 1 n = 2 ^ n.toNat := by
  have h2 := jp_sh_f ⟨n.toNat, by omega⟩
  simp only [Int.toNat_of_nonneg h.1] at h2
  exact h2
theorem jp_sh5 {n : Int} (h : 0 ≤ n ∧ n ≤ 5) : 1 ≤ jw_ishl 1 n ∧ jw_ishl 1 n ≤ 32 := by
  have h1 : n = 0 ∨ n = 1 ∨ n = 2 ∨ n = 3 ∨ n = 4 ∨ n = 5 := by omega
  rcases h1 with rfl | rfl | rfl | rfl | rfl | rfl <;> decide
theorem jp_pe_p {n s x : Int} (hn : 0 ≤ n ∧ n ≤ 5) (hs : 0 ≤ s ∧ s < n) (hx : 0 ≤ x ∧ x < jw_ishl 1 n) (e : jw_iand (jw_ishr x s) 1 = 0) : 0 ≤ jp_pc x ∧ jp_pc x ≤ n - 1 := by
  have h5 := jp_sh5 hn
  have h2 := jp_pe_f ⟨n.toNat, by omega⟩ ⟨s.toNat, by omega⟩ ⟨x.toNat, by omega⟩
  simp only [Int.toNat_of_nonneg hn.1, Int.toNat_of_nonneg hs.1, Int.toNat_of_nonneg hx.1] at h2
  exact ⟨(jp_pc_r hx.1).1, h2 (by omega) hx.2 e⟩
theorem jp_abs_mul {a b A B : Int} (ha : -A ≤ a ∧ a ≤ A) (hb : -B ≤ b ∧ b ≤ B) (hA : 0 ≤ A) (hB : 0 ≤ B) : -(A * B) ≤ a * b ∧ a * b ≤ A * B := by
  have h1 : a * b ≤ A * B := by
    by_cases h : 0 ≤ b
    · exact Int.le_trans (Int.mul_le_mul_of_nonneg_right ha.2 h) (Int.mul_le_mul_of_nonneg_left hb.2 hA)
    · have q1 : a * b ≤ (-A) * b := Int.mul_le_mul_of_nonpos_right ha.1 (by omega)
      have q2 : A * (-b) ≤ A * B := Int.mul_le_mul_of_nonneg_left (by omega) hA
      have q3 : (-A) * b = A * (-b) := by rw [Int.neg_mul, Int.mul_neg]
      omega
  have h2 : -(A * B) ≤ a * b := by
    by_cases h : 0 ≤ b
    · have q1 : (-A) * b ≤ a * b := Int.mul_le_mul_of_nonneg_right ha.1 h
      have q2 : A * b ≤ A * B := Int.mul_le_mul_of_nonneg_left hb.2 hA
      have q3 : (-A) * b = -(A * b) := Int.neg_mul _ _
      omega
    · have q1 : A * b ≤ a * b := Int.mul_le_mul_of_nonpos_right ha.2 (by omega)
      have q2 : A * (-b) ≤ A * B := Int.mul_le_mul_of_nonneg_left (by omega) hA
      have q3 : A * (-b) = -(A * b) := Int.mul_neg _ _
      omega
  exact ⟨h2, h1⟩
theorem jp_pe_r {V : Int → Int} {n s x pay : Int} (hn : 0 ≤ n ∧ n ≤ 5) (hs : 0 ≤ s ∧ s < n) (hx : 0 ≤ x ∧ x < jw_ishl 1 n) (hV : ∀ s : Int, 0 ≤ s → s < n → -2376 ≤ V s ∧ V s ≤ 2376) (hp : 1 ≤ pay ∧ pay ≤ 9999) (e : jw_iand (jw_ishr x s) 1 = 0) : (1 ≤ jp_fc (jp_pc x) * jp_fc (n - 1 - jp_pc x) ∧ jp_fc (jp_pc x) * jp_fc (n - 1 - jp_pc x) ≤ 14400) ∧ (-171072000 ≤ jp_fc (jp_pc x) * jp_fc (n - 1 - jp_pc x) * (jp_gn V pay (jw_ior x (jw_ishl 1 s)) n - jp_gn V pay x n) ∧ jp_fc (jp_pc x) * jp_fc (n - 1 - jp_pc x) * (jp_gn V pay (jw_ior x (jw_ishl 1 s)) n - jp_gn V pay x n) ≤ 171072000) := by
  have h1 := jp_pe_p hn hs hx e
  have h2 := jp_fc_r (x := jp_pc x) (by omega)
  have h3 := jp_fc_r (x := n - 1 - jp_pc x) (by omega)
  have h4 := jp_gn_r hn hV pay (jw_ior x (jw_ishl 1 s)) hp
  have h5 := jp_gn_r hn hV pay x hp
  have h6 : 1 ≤ jp_fc (jp_pc x) * jp_fc (n - 1 - jp_pc x) ∧ jp_fc (jp_pc x) * jp_fc (n - 1 - jp_pc x) ≤ 14400 := by
    have := jp_mb (x := jp_fc (jp_pc x)) (y := jp_fc (n - 1 - jp_pc x)) (a := 120) (b := 120) (by omega) (by omega)
    have q : 1 * 1 ≤ jp_fc (jp_pc x) * jp_fc (n - 1 - jp_pc x) := Int.mul_le_mul h2.1 h3.1 (by omega) (by omega)
    omega
  refine ⟨h6, ?_⟩
  have h7 := jp_abs_mul (a := jp_fc (jp_pc x) * jp_fc (n - 1 - jp_pc x)) (b := jp_gn V pay (jw_ior x (jw_ishl 1 s)) n - jp_gn V pay x n) (A := 14400) (B := 11880) (by omega) (by omega) (by omega) (by omega)
  omega
theorem jp_pe_b {V : Int → Int} {n s pay : Int} (hn : 0 ≤ n ∧ n ≤ 5) (hs : 0 ≤ s ∧ s < n) (hV : ∀ s : Int, 0 ≤ s → s < n → -2376 ≤ V s ∧ V s ≤ 2376) (hp : 1 ≤ pay ∧ pay ≤ 9999) (i : Int) (h0 : 0 ≤ i) (h1 : i ≤ jw_ishl 1 n) : -5474304000 ≤ jp_sum (jp_pe V pay n s) i.toNat ∧ jp_sum (jp_pe V pay n s) i.toNat ≤ 5474304000 := by
  have h5 := jp_sh5 hn
  have h := jp_sum_b (jp_pe V pay n s) (-171072000) 171072000 i.toNat (fun j a b => by
    unfold jp_pe
    split
    · rename_i e
      exact (jp_pe_r hn hs (x := j) (by omega) hV hp e).2
    · omega)
  omega
theorem jp_pays_r {V : Int → Int} {n s pay : Int} (hn : 0 ≤ n ∧ n ≤ 5) (hs : 0 ≤ s ∧ s < n) (hV : ∀ s : Int, 0 ≤ s → s < n → -2376 ≤ V s ∧ V s ≤ 2376) (hp : 1 ≤ pay ∧ pay ≤ 9999) : (-285120 ≤ V s * jp_fc n ∧ V s * jp_fc n ≤ 285120) ∧ (-6000000000 ≤ V s * jp_fc n - jp_sum (jp_pe V pay n s) (jw_ishl 1 n).toNat ∧ V s * jp_fc n - jp_sum (jp_pe V pay n s) (jw_ishl 1 n).toNat ≤ 6000000000) := by
  have h5 := jp_sh5 hn
  have h1 := jp_pe_b hn hs hV hp (jw_ishl 1 n) (by omega) (by omega)
  have h2 := hV s hs.1 hs.2
  have h3 := jp_fc_r (x := n) (by omega)
  have h4 := jp_abs_mul (a := V s) (b := jp_fc n) (A := 2376) (B := 120) (by omega) (by omega) (by omega) (by omega)
  omega
theorem gX5_share {M : jw_M} (hA : jp_A M) (hD : jp_D M) (w pay s : Int) (hw : 0 ≤ w ∧ w < 4) (hp : 1 ≤ pay ∧ pay ≤ 9999) (hs : 0 ≤ s ∧ s < M 131 3) : fX5_share w pay s M = some (jw_up (jw_up M 123 5 (jp_fc (M 131 3))) 123 4 (jp_V M w s * jp_fc (M 131 3) - jp_sum (jp_pe (jp_V M w) pay (M 131 3) s) (jw_ishl 1 (M 131 3)).toNat)) := by
  obtain ⟨⟨r0, r2, r3, r4, r5⟩, -⟩ := jp_A_r hA
  obtain ⟨-, -, g4, g7⟩ := jp_A_c hA
  have hV := jp_V_r hD hw (M 131 3) r3.2
  have h5 := jp_sh5 r3
  unfold fX5_share
  rw [jp_bs, jp_bs, jp_bs, g4]
  refine jp_up (fun k i a => fX5_share_15 k w pay s (M 131 3) a i M) (jw_ishl 1 (M 131 3)) (fun i a => 0 ≤ i ∧ a = jp_sum (jp_pe (jp_V M w) pay (M 131 3) s) i.toNat) (fun y => y = some (jw_up (jw_up M 123 5 (jp_fc (M 131 3))) 123 4 (jp_V M w s * jp_fc (M 131 3) - jp_sum (jp_pe (jp_V M w) pay (M 131 3) s) (jw_ishl 1 (M 131 3)).toNat))) ?_ ?_ jw_fu 0 0 (by unfold jw_fu; omega) (by omega) ⟨by omega, rfl⟩
  · intro k i a hp2 hi ih
    obtain ⟨h0, rfl⟩ := hp2
    have es := jp_sum_s (jp_pe (jp_V M w) pay (M 131 3) s) h0
    have er := jp_pe_b r3 hs hV hp i h0 (by omega)
    show fX5_share_15 _ _ _ _ _ _ _ _ = _
    rw [fX5_share_15, if_pos hi]
    unfold fX5_share_95
    by_cases e : jw_iand (jw_ishr i s) 1 = 0
    · have hpc := jp_pe_p r3 hs ⟨h0, hi⟩ e
      have hr := jp_pe_r r3 hs ⟨h0, hi⟩ hV hp e
      have g1 := jp_gn_r r3 hV pay (jw_ior i (jw_ishl 1 s)) hp
      have g2 := jp_gn_r r3 hV pay i hp
      unfold jp_pe at es
      rw [if_pos e] at es
      rw [if_pos e, gJ6_bitCount i M (by omega), jp_bs, jp_bs, if_pos (by omega), jw_ws (x := M 131 3 - 1) (by omega), jw_ws (x := M 131 3 - 1 - jp_pc i) (by omega), if_pos (by omega), jp_bs, gX5_gain hA hD _ _ _ hw hp, jp_bs, gX5_gain hA hD _ _ _ hw hp, jp_bs, jp_bs, jp_bs, jp_bs]
      have e1 : jw_w (jw_x4.getD (jp_pc i).toNat 0 * jw_x4.getD (M 131 3 - 1 - jp_pc i).toNat 0) = jp_fc (jp_pc i) * jp_fc (M 131 3 - 1 - jp_pc i) := jw_ws (x := jp_fc (jp_pc i) * jp_fc (M 131 3 - 1 - jp_pc i)) (by omega)
      rw [e1, jw_ws (x := i + 1) (by omega), jw_ws (x := jp_gn (jp_V M w) pay (jw_ior i (jw_ishl 1 s)) (M 131 3) - jp_gn (jp_V M w) pay i (M 131 3)) (by omega), jw_vs (x := jp_fc (jp_pc i) * jp_fc (M 131 3 - 1 - jp_pc i) * (jp_gn (jp_V M w) pay (jw_ior i (jw_ishl 1 s)) (M 131 3) - jp_gn (jp_V M w) pay i (M 131 3))) (by omega), jw_vs (by omega)]
      exact ih _ ⟨by omega, es.symm⟩
    · unfold jp_pe at es
      rw [if_neg e, Int.add_zero] at es
      rw [if_neg e, jp_bs, jw_ws (by omega)]
      exact ih _ ⟨by omega, es.symm⟩
  · intro k a hp2
    obtain ⟨h0, rfl⟩ := hp2
    have hr := jp_pays_r r3 hs hV hp
    have hD2 : jp_D (jw_up M 123 5 (jp_fc (M 131 3))) := jp_D_fr hD (fun k a b => jw_up_ne _ (by omega) _ _) (jw_up_ne _ (by decide) _ _) (jw_up_ne _ (by decide) _ _)
    have eb : fX1_savedBy 30 w s (jw_up M 123 5 (jp_fc (M 131 3))) = some (jp_V M w s) := gX1_savedBy hD2 w s (by omega)
    show fX5_share_15 _ _ _ _ _ _ _ _ = _
    rw [fX5_share_15, if_neg (by omega), if_pos (by omega), jp_bs]
    show Option.bind (fX1_savedBy 30 w s (jw_up M 123 5 (jp_fc (M 131 3)))) _ = _
    rw [eb, jp_bs, jp_bs]
    have e5 : jw_up M 123 5 (jp_fc (M 131 3)) 123 5 = jp_fc (M 131 3) := by rw [jw_up_eq, jw_u1_s]
    show some (jw_up (jw_up M 123 5 (jp_fc (M 131 3))) 123 4 (jw_v (jw_v (jp_V M w s * jw_up M 123 5 (jp_fc (M 131 3)) 123 5) - _))) = _
    rw [e5, jw_vs (x := jp_V M w s * jp_fc (M 131 3)) (by omega), jw_vs (by omega)]
theorem bX5_share {M : jw_M} (hA : jp_A M) (hD : jp_D M) (w pay s : Int) (hw : 0 ≤ w ∧ w < 4) (hp : 1 ≤ pay ∧ pay ≤ 9999) (hs : 0 ≤ s ∧ s < M 131 3) {be : Type} (kk : _ → Option be) : Option.bind (fX5_share w pay s M) kk = kk ((jw_up (jw_up M 123 5 (jp_fc (M 131 3))) 123 4 (jp_V M w s * jp_fc (M 131 3) - jp_sum (jp_pe (jp_V M w) pay (M 131 3) s) (jw_ishl 1 (M 131 3)).toNat))) := by rw [show fX5_share w pay s M = some (jw_up (jw_up M 123 5 (jp_fc (M 131 3))) 123 4 (jp_V M w s * jp_fc (M 131 3) - jp_sum (jp_pe (jp_V M w) pay (M 131 3) s) (jw_ishl 1 (M 131 3)).toNat)) from gX5_share hA hD w pay s hw hp hs]; rfl
theorem gX12_pays_62 {M : jw_M} (hA : jp_A M) (hD : jp_D M) (w pay s wh : Int) (hw : 0 ≤ w ∧ w < 4) (hp : 1 ≤ pay ∧ pay ≤ 9999) (hs : 0 ≤ s ∧ s < M 131 3) : fX12_pays_62 jw_fu w pay s wh (M 131 3) 0 0 M = some (jp_red (jp_V M w s * jp_fc (M 131 3) - jp_sum (jp_pe (jp_V M w) pay (M 131 3) s) (jw_ishl 1 (M 131 3)).toNat) (jp_fc (M 131 3)) wh, M) := by
  obtain ⟨⟨r0, r2, r3, r4, r5⟩, -⟩ := jp_A_r hA
  have hV := jp_V_r hD hw (M 131 3) r3.2
  have h5 := jp_sh5 r3
  refine jp_up (fun k i a => fX12_pays_62 k w pay s wh (M 131 3) a i M) (jw_ishl 1 (M 131 3)) (fun i a => 0 ≤ i ∧ a = jp_sum (jp_pe (jp_V M w) pay (M 131 3) s) i.toNat) (fun y => y = some (jp_red (jp_V M w s * jp_fc (M 131 3) - jp_sum (jp_pe (jp_V M w) pay (M 131 3) s) (jw_ishl 1 (M 131 3)).toNat) (jp_fc (M 131 3)) wh, M)) ?_ ?_ jw_fu 0 0 (by unfold jw_fu; omega) (by omega) ⟨by omega, rfl⟩
  · intro k i a hp2 hi ih
    obtain ⟨h0, rfl⟩ := hp2
    have es := jp_sum_s (jp_pe (jp_V M w) pay (M 131 3) s) h0
    have er := jp_pe_b r3 hs hV hp i h0 (by omega)
    show fX12_pays_62 _ _ _ _ _ _ _ _ _ = _
    rw [fX12_pays_62, if_pos hi]
    unfold fX12_pays_130
    by_cases e : jw_iand (jw_ishr i s) 1 = 0
    · have hpc := jp_pe_p r3 hs ⟨h0, hi⟩ e
      have hr := jp_pe_r r3 hs ⟨h0, hi⟩ hV hp e
      have g1 := jp_gn_r r3 hV pay (jw_ior i (jw_ishl 1 s)) hp
      have g2 := jp_gn_r r3 hV pay i hp
      unfold jp_pe at es
      rw [if_pos e] at es
      rw [if_pos e, gX12_bits i M (by omega), jp_bs, jp_bs, gX12_factorial _ M (by omega), jp_bs, jw_ws (x := M 131 3 - 1) (by omega), jw_ws (x := M 131 3 - 1 - jp_pc i) (by omega), gX12_factorial _ M (by omega), jp_bs, gX12_gainOf hA hD _ _ _ hw hp, jp_bs, gX12_gainOf hA hD _ _ _ hw hp, jp_bs, jp_bs, jp_bs, jw_ws (x := i + 1) (by omega), jw_vs (x := jp_fc (jp_pc i) * jp_fc (M 131 3 - 1 - jp_pc i)) (by omega), jw_vs (x := jp_gn (jp_V M w) pay (jw_ior i (jw_ishl 1 s)) (M 131 3) - jp_gn (jp_V M w) pay i (M 131 3)) (by omega), jw_vs (x := jp_fc (jp_pc i) * jp_fc (M 131 3 - 1 - jp_pc i) * (jp_gn (jp_V M w) pay (jw_ior i (jw_ishl 1 s)) (M 131 3) - jp_gn (jp_V M w) pay i (M 131 3))) (by omega), jw_vs (by omega)]
      exact ih _ ⟨by omega, es.symm⟩
    · unfold jp_pe at es
      rw [if_neg e, Int.add_zero] at es
      rw [if_neg e, jp_bs, jw_ws (by omega)]
      exact ih _ ⟨by omega, es.symm⟩
  · intro k a hp2
    obtain ⟨h0, rfl⟩ := hp2
    have hr := jp_pays_r r3 hs hV hp
    have hf := jp_fc_r (x := M 131 3) (by omega)
    have eb : fX12_savedBy w s M = some (jp_V M w s) := gX12_savedBy w s M (by omega)
    show fX12_pays_62 _ _ _ _ _ _ _ _ _ = _
    rw [fX12_pays_62, if_neg (by omega), eb, jp_bs, gX12_factorial _ M (by omega), jp_bs, jp_bs, jw_vs (x := jp_V M w s * jp_fc (M 131 3)) (by omega), jw_vs (by omega), gX12_partOf _ _ _ _ (by omega) (by omega), jp_bs]
theorem bX12_pays_62 {M : jw_M} (hA : jp_A M) (hD : jp_D M) (w pay s wh : Int) (hw : 0 ≤ w ∧ w < 4) (hp : 1 ≤ pay ∧ pay ≤ 9999) (hs : 0 ≤ s ∧ s < M 131 3) {be : Type} (kk : Int → jw_M → Option be) : jw_b2 (fX12_pays_62 jw_fu w pay s wh (M 131 3) 0 0 M) kk = kk (jp_red (jp_V M w s * jp_fc (M 131 3) - jp_sum (jp_pe (jp_V M w) pay (M 131 3) s) (jw_ishl 1 (M 131 3)).toNat) (jp_fc (M 131 3)) wh) (M) := by rw [show fX12_pays_62 jw_fu w pay s wh (M 131 3) 0 0 M = some (jp_red (jp_V M w s * jp_fc (M 131 3) - jp_sum (jp_pe (jp_V M w) pay (M 131 3) s) (jw_ishl 1 (M 131 3)).toNat) (jp_fc (M 131 3)) wh, M) from gX12_pays_62 hA hD w pay s wh hw hp hs]; rfl
theorem jp_pays {M : jw_M} (h : jp_inv M) (w pay s wh : Int) : jp_ok (fX11_pays w pay s wh M) (fX12_pays w pay s wh) := by
  have hA := jp_inv_A h
  have hD := jp_inv_D h
  obtain ⟨⟨r0, r2, r3, r4, r5⟩, -⟩ := jp_A_r hA
  obtain ⟨-, -, g4, g7⟩ := jp_A_c hA
  have hA1 := jp_A_th hA 0 0
  by_cases h1 : 0 ≤ w ∧ w < M 131 4
  · by_cases h2 : 0 ≤ s ∧ s < M 131 3
    · by_cases h3 : 1 ≤ pay ∧ pay ≤ 9999
      · by_cases h4 : 0 ≤ wh ∧ wh ≤ 1
        · have hV := jp_V_r hD (w := w) (by omega) (M 131 3) r3.2
          have hr := jp_pays_r r3 h2 hV h3
          have hf := jp_fc_r (x := M 131 3) (by omega)
          have hsh := gX5_share hA hD w pay s (by omega) h3 h2
          generalize hM4 : jw_up (jw_up M 123 5 (jp_fc (M 131 3))) 123 4 (jp_V M w s * jp_fc (M 131 3) - jp_sum (jp_pe (jp_V M w) pay (M 131 3) s) (jw_ishl 1 (M 131 3)).toNat) = M4 at hsh
          have a4 : M4 123 4 = jp_V M w s * jp_fc (M 131 3) - jp_sum (jp_pe (jp_V M w) pay (M 131 3) s) (jw_ishl 1 (M 131 3)).toNat := by rw [← hM4, jw_up_eq, jw_u1_s]
          have a5 : M4 123 5 = jp_fc (M 131 3) := by rw [← hM4, jw_up_eq, jw_u1_n _ (by decide), jw_up_eq, jw_u1_s]
          have fr : ∀ k : Nat, k ≠ 123 → M4 k = M k := fun k hk => by rw [← hM4, jw_up_ne _ hk, jw_up_ne _ hk]
          have hx : fX11_pays w pay s wh M = some (jp_red (jp_V M w s * jp_fc (M 131 3) - jp_sum (jp_pe (jp_V M w) pay (M 131 3) s) (jw_ishl 1 (M 131 3)).toNat) (jp_fc (M 131 3)) wh, M4) := by
            unfold fX11_pays
            simp (disch := omega) only [↓jp_bs, ↓jp_b2s, ↓reduceIte, jw_up_a, Nat.reduceEqDiff, Int.reduceEq, Int.reduceLT, Int.reduceLE, Int.reduceAdd, Int.reduceSub, Int.reduceMul, Int.reduceNeg, jp_n9_1, jp_n9_8, jp_n9_15, jp_n9_21, jp_n9_24, jp_n10_1, jp_n10_2, jp_n10_3, jp_n10_4, jp_n10_5, jp_n10_6, jp_n17_1, jp_n17_2, jp_n17_3, jp_n17_4, jp_n17_5, jp_n17_6, jp_n24_1, jp_n24_2, jp_n24_3, jp_n24_4, jp_n24_5, jp_n30_1, jp_n30_2, jp_n33_1, jp_n33_2, false_and, true_and, and_true, and_false, and_self, ne_eq, not_true_eq_false, not_false_eq_true, jw_ws, jw_vs, jw_cmp_lt, jw_cmp_gt, jw_cmp_eq, jp_t1, jp_t2, jp_t3, jp_t4, jp_t5, jp_t6, ↓bX10_isWatcher, ↓bX10_isSeller, ↓bX11_isHalf, g4, g7, ↓jp_bnd hsh, a4, a5, ↓bX11_half]
          have h' : jp_inv M4 := by
            refine jp_inv_fr h (fun k hk => fr k (fun e => ?_)) (by rw [fr _ (by decide)]) (by rw [fr _ (by decide)]) (by rw [fr _ (by decide)]) (by rw [fr _ (by decide)]) (by rw [fr _ (by decide)]) (by rw [fr _ (by decide)]) (by rw [fr _ (by decide)]) (by rw [fr _ (by decide)]) (by rw [fr _ (by decide)])
            subst e
            revert hk
            decide
          have f131 : jw_up M4 127 0 0 131 = M 131 := by rw [jw_up_ne _ (by decide), fr _ (by decide)]
          have f133 : jw_up M4 127 0 0 133 = M 133 := by rw [jw_up_ne _ (by decide), fr _ (by decide)]
          have hA4 : jp_A (jw_up M4 127 0 0) := jp_A_th (jp_inv_A h') 0 0
          have hD4 : jp_D (jw_up M4 127 0 0) := jp_D_th (jp_inv_D h') 0 0
          have hy := gX12_pays_62 hA4 hD4 w pay s wh (by omega) h3 (by rw [f131]; exact h2)
          have eV : jp_V (jw_up M4 127 0 0) w = jp_V M w := by unfold jp_V; rw [f133]
          rw [f131, eV] at hy
          refine ⟨_, _, _, hx, ?_, jp_th h' 0⟩
          have g131 : M4 131 = M 131 := fr _ (by decide)
          unfold fX12_pays
          simp (disch := omega) only [↓jp_bs, ↓jp_b2s, ↓reduceIte, jw_up_a, Nat.reduceEqDiff, Int.reduceEq, Int.reduceLT, Int.reduceLE, Int.reduceAdd, Int.reduceSub, Int.reduceMul, Int.reduceNeg, jp_n9_1, jp_n9_8, jp_n9_15, jp_n9_21, jp_n9_24, jp_n10_1, jp_n10_2, jp_n10_3, jp_n10_4, jp_n10_5, jp_n10_6, jp_n17_1, jp_n17_2, jp_n17_3, jp_n17_4, jp_n17_5, jp_n17_6, jp_n24_1, jp_n24_2, jp_n24_3, jp_n24_4, jp_n24_5, jp_n30_1, jp_n30_2, jp_n33_1, jp_n33_2, false_and, true_and, and_true, and_false, and_self, ne_eq, not_true_eq_false, not_false_eq_true, jw_ws, jw_vs, jw_cmp_lt, jw_cmp_gt, jw_cmp_eq, jp_t1, jp_t2, jp_t3, jp_t4, jp_t5, jp_t6, ↓bX12_isWatcher hA4, ↓bX12_isSeller hA4, ↓bX12_in, g131]
          exact hy
        · have hx : fX11_pays w pay s wh M = some (-9000000000000000001, M) := by
            unfold fX11_pays
            simp (disch := omega) only [↓jp_bs, ↓jp_b2s, ↓reduceIte, jw_up_a, Nat.reduceEqDiff, Int.reduceEq, Int.reduceLT, Int.reduceLE, Int.reduceAdd, Int.reduceSub, Int.reduceMul, Int.reduceNeg, jp_n9_1, jp_n9_8, jp_n9_15, jp_n9_21, jp_n9_24, jp_n10_1, jp_n10_2, jp_n10_3, jp_n10_4, jp_n10_5, jp_n10_6, jp_n17_1, jp_n17_2, jp_n17_3, jp_n17_4, jp_n17_5, jp_n17_6, jp_n24_1, jp_n24_2, jp_n24_3, jp_n24_4, jp_n24_5, jp_n30_1, jp_n30_2, jp_n33_1, jp_n33_2, false_and, true_and, and_true, and_false, and_self, ne_eq, not_true_eq_false, not_false_eq_true, jw_ws, jw_vs, jw_cmp_lt, jw_cmp_gt, jw_cmp_eq, jp_t1, jp_t2, jp_t3, jp_t4, jp_t5, jp_t6, ↓bX10_isWatcher, ↓bX10_isSeller, ↓bX11_isHalf, g4, g7]
          refine ⟨_, _, _, hx, ?_, jp_th h 0⟩
          have f131 : jw_up M 127 0 0 131 = M 131 := jw_up_ne _ (by decide) _ _
          unfold fX12_pays
          simp (disch := omega) only [↓jp_bs, ↓jp_b2s, ↓reduceIte, jw_up_a, Nat.reduceEqDiff, Int.reduceEq, Int.reduceLT, Int.reduceLE, Int.reduceAdd, Int.reduceSub, Int.reduceMul, Int.reduceNeg, jp_n9_1, jp_n9_8, jp_n9_15, jp_n9_21, jp_n9_24, jp_n10_1, jp_n10_2, jp_n10_3, jp_n10_4, jp_n10_5, jp_n10_6, jp_n17_1, jp_n17_2, jp_n17_3, jp_n17_4, jp_n17_5, jp_n17_6, jp_n24_1, jp_n24_2, jp_n24_3, jp_n24_4, jp_n24_5, jp_n30_1, jp_n30_2, jp_n33_1, jp_n33_2, false_and, true_and, and_true, and_false, and_self, ne_eq, not_true_eq_false, not_false_eq_true, jw_ws, jw_vs, jw_cmp_lt, jw_cmp_gt, jw_cmp_eq, jp_t1, jp_t2, jp_t3, jp_t4, jp_t5, jp_t6, ↓bX12_isWatcher hA1, ↓bX12_isSeller hA1, ↓bX12_in, f131]
      · have hx : fX11_pays w pay s wh M = some (-9000000000000000001, M) := by
          unfold fX11_pays
          by_cases h5 : pay < 1
          · simp (disch := omega) only [↓jp_bs, ↓jp_b2s, ↓reduceIte, jw_up_a, Nat.reduceEqDiff, Int.reduceEq, Int.reduceLT, Int.reduceLE, Int.reduceAdd, Int.reduceSub, Int.reduceMul, Int.reduceNeg, jp_n9_1, jp_n9_8, jp_n9_15, jp_n9_21, jp_n9_24, jp_n10_1, jp_n10_2, jp_n10_3, jp_n10_4, jp_n10_5, jp_n10_6, jp_n17_1, jp_n17_2, jp_n17_3, jp_n17_4, jp_n17_5, jp_n17_6, jp_n24_1, jp_n24_2, jp_n24_3, jp_n24_4, jp_n24_5, jp_n30_1, jp_n30_2, jp_n33_1, jp_n33_2, false_and, true_and, and_true, and_false, and_self, ne_eq, not_true_eq_false, not_false_eq_true, jw_ws, jw_vs, jw_cmp_lt, jw_cmp_gt, jw_cmp_eq, jp_t1, jp_t2, jp_t3, jp_t4, jp_t5, jp_t6, ↓bX10_isWatcher, ↓bX10_isSeller, g4, g7]
          · simp (disch := omega) only [↓jp_bs, ↓jp_b2s, ↓reduceIte, jw_up_a, Nat.reduceEqDiff, Int.reduceEq, Int.reduceLT, Int.reduceLE, Int.reduceAdd, Int.reduceSub, Int.reduceMul, Int.reduceNeg, jp_n9_1, jp_n9_8, jp_n9_15, jp_n9_21, jp_n9_24, jp_n10_1, jp_n10_2, jp_n10_3, jp_n10_4, jp_n10_5, jp_n10_6, jp_n17_1, jp_n17_2, jp_n17_3, jp_n17_4, jp_n17_5, jp_n17_6, jp_n24_1, jp_n24_2, jp_n24_3, jp_n24_4, jp_n24_5, jp_n30_1, jp_n30_2, jp_n33_1, jp_n33_2, false_and, true_and, and_true, and_false, and_self, ne_eq, not_true_eq_false, not_false_eq_true, jw_ws, jw_vs, jw_cmp_lt, jw_cmp_gt, jw_cmp_eq, jp_t1, jp_t2, jp_t3, jp_t4, jp_t5, jp_t6, ↓bX10_isWatcher, ↓bX10_isSeller, g4, g7]
        refine ⟨_, _, _, hx, ?_, jp_th h 0⟩
        have f131 : jw_up M 127 0 0 131 = M 131 := jw_up_ne _ (by decide) _ _
        unfold fX12_pays
        simp (disch := omega) only [↓jp_bs, ↓jp_b2s, ↓reduceIte, jw_up_a, Nat.reduceEqDiff, Int.reduceEq, Int.reduceLT, Int.reduceLE, Int.reduceAdd, Int.reduceSub, Int.reduceMul, Int.reduceNeg, jp_n9_1, jp_n9_8, jp_n9_15, jp_n9_21, jp_n9_24, jp_n10_1, jp_n10_2, jp_n10_3, jp_n10_4, jp_n10_5, jp_n10_6, jp_n17_1, jp_n17_2, jp_n17_3, jp_n17_4, jp_n17_5, jp_n17_6, jp_n24_1, jp_n24_2, jp_n24_3, jp_n24_4, jp_n24_5, jp_n30_1, jp_n30_2, jp_n33_1, jp_n33_2, false_and, true_and, and_true, and_false, and_self, ne_eq, not_true_eq_false, not_false_eq_true, jw_ws, jw_vs, jw_cmp_lt, jw_cmp_gt, jw_cmp_eq, jp_t1, jp_t2, jp_t3, jp_t4, jp_t5, jp_t6, ↓bX12_isWatcher hA1, ↓bX12_in, f131]
    · have hx : fX11_pays w pay s wh M = some (-9000000000000000001, M) := by
        unfold fX11_pays
        simp (disch := omega) only [↓jp_bs, ↓jp_b2s, ↓reduceIte, jw_up_a, Nat.reduceEqDiff, Int.reduceEq, Int.reduceLT, Int.reduceLE, Int.reduceAdd, Int.reduceSub, Int.reduceMul, Int.reduceNeg, jp_n9_1, jp_n9_8, jp_n9_15, jp_n9_21, jp_n9_24, jp_n10_1, jp_n10_2, jp_n10_3, jp_n10_4, jp_n10_5, jp_n10_6, jp_n17_1, jp_n17_2, jp_n17_3, jp_n17_4, jp_n17_5, jp_n17_6, jp_n24_1, jp_n24_2, jp_n24_3, jp_n24_4, jp_n24_5, jp_n30_1, jp_n30_2, jp_n33_1, jp_n33_2, false_and, true_and, and_true, and_false, and_self, ne_eq, not_true_eq_false, not_false_eq_true, jw_ws, jw_vs, jw_cmp_lt, jw_cmp_gt, jw_cmp_eq, jp_t1, jp_t2, jp_t3, jp_t4, jp_t5, jp_t6, ↓bX10_isWatcher, ↓bX10_isSeller, g4, g7]
      refine ⟨_, _, _, hx, ?_, jp_th h 0⟩
      have f131 : jw_up M 127 0 0 131 = M 131 := jw_up_ne _ (by decide) _ _
      unfold fX12_pays
      by_cases h3 : 1 ≤ pay ∧ pay ≤ 9999
      · simp (disch := omega) only [↓jp_bs, ↓jp_b2s, ↓reduceIte, jw_up_a, Nat.reduceEqDiff, Int.reduceEq, Int.reduceLT, Int.reduceLE, Int.reduceAdd, Int.reduceSub, Int.reduceMul, Int.reduceNeg, jp_n9_1, jp_n9_8, jp_n9_15, jp_n9_21, jp_n9_24, jp_n10_1, jp_n10_2, jp_n10_3, jp_n10_4, jp_n10_5, jp_n10_6, jp_n17_1, jp_n17_2, jp_n17_3, jp_n17_4, jp_n17_5, jp_n17_6, jp_n24_1, jp_n24_2, jp_n24_3, jp_n24_4, jp_n24_5, jp_n30_1, jp_n30_2, jp_n33_1, jp_n33_2, false_and, true_and, and_true, and_false, and_self, ne_eq, not_true_eq_false, not_false_eq_true, jw_ws, jw_vs, jw_cmp_lt, jw_cmp_gt, jw_cmp_eq, jp_t1, jp_t2, jp_t3, jp_t4, jp_t5, jp_t6, ↓bX12_isWatcher hA1, ↓bX12_isSeller hA1, ↓bX12_in, f131]
      · simp (disch := omega) only [↓jp_bs, ↓jp_b2s, ↓reduceIte, jw_up_a, Nat.reduceEqDiff, Int.reduceEq, Int.reduceLT, Int.reduceLE, Int.reduceAdd, Int.reduceSub, Int.reduceMul, Int.reduceNeg, jp_n9_1, jp_n9_8, jp_n9_15, jp_n9_21, jp_n9_24, jp_n10_1, jp_n10_2, jp_n10_3, jp_n10_4, jp_n10_5, jp_n10_6, jp_n17_1, jp_n17_2, jp_n17_3, jp_n17_4, jp_n17_5, jp_n17_6, jp_n24_1, jp_n24_2, jp_n24_3, jp_n24_4, jp_n24_5, jp_n30_1, jp_n30_2, jp_n33_1, jp_n33_2, false_and, true_and, and_true, and_false, and_self, ne_eq, not_true_eq_false, not_false_eq_true, jw_ws, jw_vs, jw_cmp_lt, jw_cmp_gt, jw_cmp_eq, jp_t1, jp_t2, jp_t3, jp_t4, jp_t5, jp_t6, ↓bX12_isWatcher hA1, ↓bX12_in, f131]
  · have hx : fX11_pays w pay s wh M = some (-9000000000000000001, M) := by
      unfold fX11_pays
      simp (disch := omega) only [↓jp_bs, ↓jp_b2s, ↓reduceIte, jw_up_a, Nat.reduceEqDiff, Int.reduceEq, Int.reduceLT, Int.reduceLE, Int.reduceAdd, Int.reduceSub, Int.reduceMul, Int.reduceNeg, jp_n9_1, jp_n9_8, jp_n9_15, jp_n9_21, jp_n9_24, jp_n10_1, jp_n10_2, jp_n10_3, jp_n10_4, jp_n10_5, jp_n10_6, jp_n17_1, jp_n17_2, jp_n17_3, jp_n17_4, jp_n17_5, jp_n17_6, jp_n24_1, jp_n24_2, jp_n24_3, jp_n24_4, jp_n24_5, jp_n30_1, jp_n30_2, jp_n33_1, jp_n33_2, false_and, true_and, and_true, and_false, and_self, ne_eq, not_true_eq_false, not_false_eq_true, jw_ws, jw_vs, jw_cmp_lt, jw_cmp_gt, jw_cmp_eq, jp_t1, jp_t2, jp_t3, jp_t4, jp_t5, jp_t6, ↓bX10_isWatcher, g4, g7]
    refine ⟨_, _, _, hx, ?_, jp_th h 0⟩
    have f131 : jw_up M 127 0 0 131 = M 131 := jw_up_ne _ (by decide) _ _
    unfold fX12_pays
    simp (disch := omega) only [↓jp_bs, ↓jp_b2s, ↓reduceIte, jw_up_a, Nat.reduceEqDiff, Int.reduceEq, Int.reduceLT, Int.reduceLE, Int.reduceAdd, Int.reduceSub, Int.reduceMul, Int.reduceNeg, jp_n9_1, jp_n9_8, jp_n9_15, jp_n9_21, jp_n9_24, jp_n10_1, jp_n10_2, jp_n10_3, jp_n10_4, jp_n10_5, jp_n10_6, jp_n17_1, jp_n17_2, jp_n17_3, jp_n17_4, jp_n17_5, jp_n17_6, jp_n24_1, jp_n24_2, jp_n24_3, jp_n24_4, jp_n24_5, jp_n30_1, jp_n30_2, jp_n33_1, jp_n33_2, false_and, true_and, and_true, and_false, and_self, ne_eq, not_true_eq_false, not_false_eq_true, jw_ws, jw_vs, jw_cmp_lt, jw_cmp_gt, jw_cmp_eq, jp_t1, jp_t2, jp_t3, jp_t4, jp_t5, jp_t6, ↓bX12_isWatcher hA1, f131]
