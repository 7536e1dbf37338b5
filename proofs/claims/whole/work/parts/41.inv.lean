/-! what holds between the class and the model, call by call -/
/-- ways over and over: the corners below k may lie between -/
def jp_fw (w : Int → Int → Int) : Nat → Int → Int → Int
  | 0, a, b => w a b
  | k + 1, a, b => if jp_fw w k a (k : Int) + jp_fw w k (k : Int) b < jp_fw w k a b then jp_fw w k a (k : Int) + jp_fw w k (k : Int) b else jp_fw w k a b
def jp_w0 (T : Int → Int) (a b : Int) : Int := if a = b then 0 else if T (14 + 7 * a + b) = 0 then 1000000 else T (14 + 7 * a + b)
def jp_h0 (T : Int → Int) (a b : Int) : Int := if a = b then 0 else if T (14 + 7 * a + b) = 0 then 1000000 else (T (14 + 7 * a + b) + T 89 - 1).tdiv (T 89)
def jp_wk (T : Int → Int) (a b : Int) : Int := jp_fw (jp_w0 T) 7 a b
def jp_hk (T : Int → Int) (a b : Int) : Int := jp_fw (jp_h0 T) 7 a b
def jp_bit (x c : Int) : Int := x / 2 ^ c.toNat % 2
def jp_ct (N : Int → Int) (c : Int) : Nat → Int
  | 0 => 0
  | d + 1 => jp_ct N c d + jp_bit (N (10 + (d : Int))) c
/-- what was told -/
def jp_T (T : Int → Int) : Prop :=
  ((0 ≤ T 0 ∧ T 0 ≤ 7) ∧ (0 ≤ T 2 ∧ T 2 ≤ 4) ∧ (0 ≤ T 3 ∧ T 3 ≤ 5) ∧ (0 ≤ T 4 ∧ T 4 ≤ 4) ∧ (0 ≤ T 5 ∧ T 5 ≤ 6)) ∧
  ((0 ≤ T 87 ∧ T 87 ≤ 20) ∧ (0 ≤ T 88 ∧ T 88 ≤ 30) ∧ (0 ≤ T 89 ∧ T 89 ≤ 9) ∧ (1 ≤ T 0 → 1 ≤ T 89)) ∧
  (∀ c : Int, 0 ≤ c → c < 7 → 0 ≤ T (7 + c) ∧ T (7 + c) ≤ 99) ∧
  (∀ a b : Int, 0 ≤ a → a < 7 → 0 ≤ b → b < 7 → 0 ≤ T (14 + 7 * a + b) ∧ T (14 + 7 * a + b) ≤ 20 ∧ T (14 + 7 * a + b) = T (14 + 7 * b + a) ∧ (a = b ∨ T 0 ≤ a ∨ T 0 ≤ b → T (14 + 7 * a + b) = 0)) ∧
  (∀ g : Int, 0 ≤ g → g < T 2 → 1 ≤ T (63 + 3 * g) ∧ T (63 + 3 * g) ≤ 9 ∧ 1 ≤ T (64 + 3 * g) ∧ T (64 + 3 * g) ≤ 99 ∧ 0 ≤ T (65 + 3 * g) ∧ T (65 + 3 * g) ≤ 99) ∧
  (∀ k : Int, 0 ≤ k → k < T 5 → 0 ≤ T (75 + 2 * k) ∧ T (75 + 2 * k) < T 0 ∧ 0 ≤ T (76 + 2 * k) ∧ T (76 + 2 * k) ≤ 99) ∧
  (∀ s : Int, 0 ≤ s → s < T 3 → 0 ≤ T (90 + s) ∧ T (90 + s) < T 2)
/-- what goes on -/
def jp_N (T N : Int → Int) : Prop :=
  (∀ s : Int, 0 ≤ s → s < T 3 → 0 ≤ N s ∧ N s < T 0) ∧
  (∀ w : Int, 0 ≤ w → w < T 4 → 0 ≤ N (5 + w) ∧ N (5 + w) < T 0) ∧
  ((0 ≤ N 9 ∧ N 9 ≤ 12) ∧ (0 ≤ N 42 ∧ N 42 ≤ 3) ∧ (0 ≤ N 58 ∧ N 58 < 128)) ∧
  (∀ d : Int, 0 ≤ d → d < 12 → 0 ≤ N (10 + d) ∧ N (10 + d) < 128) ∧
  (∀ k : Int, 0 ≤ k → k < 20 → -198 * N 9 ≤ N (22 + k) ∧ N (22 + k) ≤ 198 * N 9) ∧
  (∀ k : Int, 0 ≤ k → k < 20 → -198 ≤ N (59 + k) ∧ N (59 + k) ≤ 198 ∧ (T 4 ≤ k / 5 ∨ T 3 ≤ k % 5 → N (59 + k) = 0)) ∧
  (∀ s : Int, 0 ≤ s → s < T 3 → 0 ≤ N (53 + s) ∧ N (53 + s) ≤ 2) ∧
  (∀ a b : Int, 0 ≤ a → a < 5 → 0 ≤ b → b < 5 → 0 ≤ N (79 + 5 * a + b) ∧ N (79 + 5 * a + b) ≤ 9999 ∧ (T 3 ≤ a ∨ T 3 ≤ b → N (79 + 5 * a + b) = 0))
/-- a sheet of the class shows the same -/
def jp_S (s : Nat) (M : jw_M) (T N : Int → Int) : Prop :=
  (M (s + 1) 0 = T 0 ∧ M (s + 1) 5 = T 5 ∧ M (s + 1) 8 = T 87 ∧ M (s + 1) 9 = T 88 ∧ M (s + 1) 10 = T 89) ∧
  (∀ c : Int, 0 ≤ c → c < T 0 → M (s + 2) c = T (7 + c)) ∧
  (∀ a b : Int, 0 ≤ a → a < 7 → 0 ≤ b → b < 7 → M (s + 3) (7 * a + b) = T (14 + 7 * a + b)) ∧
  (∀ a b : Int, 0 ≤ a → a < T 0 → 0 ≤ b → b < T 0 → M (s + 4) (7 * a + b) = jp_wk T a b ∧ M (s + 5) (7 * a + b) = jp_hk T a b) ∧
  (∀ k : Int, 0 ≤ k → k < T 5 → M (s + 6) k = T (75 + 2 * k) ∧ M (s + 7) k = T (76 + 2 * k)) ∧
  (M (s + 8) 0 = T 2 ∧ M (s + 8) 4 = T 3 ∧ M (s + 8) 7 = T 4) ∧
  (∀ g : Int, 0 ≤ g → g < T 2 → M (s + 9) g = T (63 + 3 * g) ∧ M (s + 10) g = T (64 + 3 * g) ∧ M (s + 11) g = T (65 + 3 * g)) ∧
  (∀ i : Int, 0 ≤ i → i < T 3 → M (s + 12) i = T (90 + i)) ∧
  (∀ i : Int, 0 ≤ i → i < T 3 → M (s + 13) i = N i) ∧
  (∀ w : Int, 0 ≤ w → w < T 4 → M (s + 14) w = N (5 + w)) ∧
  ((N 42 = 0 ∧ M (s + 15) 0 = 0 ∧ M (s + 15) 1 = 0) ∨ (N 42 = 1 ∧ M (s + 15) 0 = 1 ∧ M (s + 15) 1 = 0) ∨ (N 42 = 2 ∧ M (s + 15) 0 = 2 ∧ M (s + 15) 1 = 0) ∨ (N 42 = 3 ∧ M (s + 15) 0 = 1 ∧ M (s + 15) 1 = 1)) ∧
  (N 42 ≠ 0 → ∀ c : Int, 0 ≤ c → c < 7 → (M (s + 16) c < 1000000 ↔ jp_bit (N 58) c = 1)) ∧
  (N 42 ≠ 0 → ∀ i : Int, 0 ≤ i → i < T 3 → N (43 + i) = (if M (s + 17) i < 1000000 then M (s + 17) i else -1000000) ∧ N (48 + i) = (if M (s + 18) i < 1000000 then M (s + 18) i else -1000000) ∧ M (s + 19) i = N (53 + i)) ∧
  (∀ k : Int, 0 ≤ k → k < 20 → M (s + 20) k = N (59 + k)) ∧
  M (s + 21) 0 = N 9 ∧
  (∀ c : Int, 0 ≤ c → c < 7 → M (s + 22) c = jp_ct N c (N 9).toNat) ∧
  (∀ k : Int, 0 ≤ k → k < 20 → M (s + 23) k = N (22 + k)) ∧
  (∀ a b : Int, 0 ≤ a → a < 5 → 0 ≤ b → b < 5 → M (s + 25) (5 * a + b) = N (79 + 5 * a + b))
def jp_rowsI (M : jw_M) : Prop := (∀ i : Int, 0 ≤ i → i < 8 → M 2 i = M 128 i ∧ -1 ≤ M 128 i ∧ M 128 i ≤ 2 ∧ M 3 i = M 129 i ∧ 0 ≤ M 129 i ∧ M 129 i ≤ 40) ∧ (∀ i : Int, 0 ≤ i → i < 320 → M 4 i = M 130 i)
def jp_tapeI (M : jw_M) : Prop := M 5 1 = M 127 10 ∧ 0 ≤ M 127 10 ∧ M 127 10 ≤ 600 ∧ (∀ i : Int, 0 ≤ i → i < M 127 10 → M 134 i = M 6 i % 256 ∧ -128 ≤ M 6 i ∧ M 6 i ≤ 127)
def jp_outI (M : jw_M) : Prop := M 0 9 = M 127 11 ∧ M 0 10 = M 127 1
def jp_askI (M : jw_M) : Prop := M 125 2 = M 127 34 ∧ 0 ≤ M 127 34 ∧ M 127 34 ≤ 16 ∧ (∀ i : Int, 0 ≤ i → i < M 127 34 → M 126 i = M 147 i)
def jp_curI (M : jw_M) : Prop := (M 9 0 = M 127 7 ∧ (M 127 7 = 0 ∨ M 127 7 = 1 ∧ 1 ≤ M 131 0 ∧ 1 ≤ M 131 2)) ∧ jp_T (M 131) ∧ jp_N (M 131) (M 133) ∧ jp_S 9 M (M 131) (M 133) ∧ (∀ a b : Int, 0 ≤ a → a < M 131 0 → 0 ≤ b → b < M 131 0 → M 135 (7 * a + b) = jp_wk (M 131) a b ∧ M 136 (7 * a + b) = jp_hk (M 131) a b)
def jp_kt (M : jw_M) (k : Nat) : Int → Int := fun i => M 145 (104 * (k : Int) + i)
def jp_kn (M : jw_M) (k : Nat) : Int → Int := fun i => M 146 (104 * (k : Int) + i)
def jp_imgI (M : jw_M) (k : Nat) : Prop := M 118 k = M 144 k ∧ (M 144 k = 0 ∨ (M 144 k = 1 ∧ M 127 7 = 1 ∧ M (64 + 27 * k) 0 = 1 ∧ 1 ≤ jp_kt M k 0 ∧ 1 ≤ jp_kt M k 2 ∧ jp_T (jp_kt M k) ∧ jp_N (jp_kt M k) (jp_kn M k) ∧ jp_S (64 + 27 * k) M (jp_kt M k) (jp_kn M k)))
def jp_inv (M : jw_M) : Prop := jp_rowsI M ∧ jp_tapeI M ∧ jp_outI M ∧ jp_askI M ∧ jp_curI M ∧ jp_imgI M 0 ∧ jp_imgI M 1
theorem jp_S_fr {s : Nat} {M M' : jw_M} {T N : Int → Int} (h : jp_S s M T N) (hf : ∀ k : Nat, s < k → k < s + 26 → M' k = M k) : jp_S s M' T N := by
  unfold jp_S at h ⊢
  rw [hf (s + 1) (by omega) (by omega), hf (s + 2) (by omega) (by omega), hf (s + 3) (by omega) (by omega), hf (s + 4) (by omega) (by omega), hf (s + 5) (by omega) (by omega), hf (s + 6) (by omega) (by omega), hf (s + 7) (by omega) (by omega), hf (s + 8) (by omega) (by omega), hf (s + 9) (by omega) (by omega), hf (s + 10) (by omega) (by omega), hf (s + 11) (by omega) (by omega), hf (s + 12) (by omega) (by omega), hf (s + 13) (by omega) (by omega), hf (s + 14) (by omega) (by omega), hf (s + 15) (by omega) (by omega), hf (s + 16) (by omega) (by omega), hf (s + 17) (by omega) (by omega), hf (s + 18) (by omega) (by omega), hf (s + 19) (by omega) (by omega), hf (s + 20) (by omega) (by omega), hf (s + 21) (by omega) (by omega), hf (s + 22) (by omega) (by omega), hf (s + 23) (by omega) (by omega), hf (s + 25) (by omega) (by omega)]
  exact h
theorem jp_rows_fr {M M' : jw_M} (h : jp_rowsI M) (h2 : M' 2 = M 2) (h3 : M' 3 = M 3) (h4 : M' 4 = M 4) (h5 : M' 128 = M 128) (h6 : M' 129 = M 129) (h7 : M' 130 = M 130) : jp_rowsI M' := by
  unfold jp_rowsI at h ⊢
  rw [h2, h3, h4, h5, h6, h7]
  exact h
theorem jp_tape_fr {M M' : jw_M} (h : jp_tapeI M) (h2 : M' 5 1 = M 5 1) (h3 : M' 6 = M 6) (h4 : M' 127 10 = M 127 10) (h5 : M' 134 = M 134) : jp_tapeI M' := by
  unfold jp_tapeI at h ⊢
  rw [h2, h3, h4, h5]
  exact h
theorem jp_ask_fr {M M' : jw_M} (h : jp_askI M) (h2 : M' 125 2 = M 125 2) (h3 : M' 126 = M 126) (h4 : M' 127 34 = M 127 34) (h5 : M' 147 = M 147) : jp_askI M' := by
  unfold jp_askI at h ⊢
  rw [h2, h3, h4, h5]
  exact h
theorem jp_cur_fr {M M' : jw_M} (h : jp_curI M) (h1 : ∀ k : Nat, 9 ≤ k → k < 35 → M' k = M k) (h2 : M' 127 7 = M 127 7) (h3 : M' 131 = M 131) (h4 : M' 133 = M 133) (h5 : M' 135 = M 135) (h6 : M' 136 = M 136) : jp_curI M' := by
  obtain ⟨a, b, c, d, e⟩ := h
  unfold jp_curI
  rw [h2, h3, h4, h5, h6, h1 9 (by omega) (by omega)]
  exact ⟨a, b, c, jp_S_fr d (fun k p q => h1 k (by omega) (by omega)), e⟩
theorem jp_img_fr {M M' : jw_M} {k : Nat} (h : jp_imgI M k) (h1 : ∀ j : Nat, 64 + 27 * k ≤ j → j < 64 + 27 * k + 26 → M' j = M j) (h2 : M' 118 = M 118) (h3 : M' 144 = M 144) (h4 : M' 145 = M 145) (h5 : M' 146 = M 146) (h7 : M 127 7 = 1 → M' 127 7 = 1) : jp_imgI M' k := by
  unfold jp_imgI jp_kt jp_kn at h ⊢
  rw [h2, h3, h4, h5, h1 (64 + 27 * k) (by omega) (by omega)]
  refine ⟨h.1, ?_⟩
  rcases h.2 with h | ⟨a, a2, b, c, c2, d, e, f⟩
  · exact Or.inl h
  · exact Or.inr ⟨a, h7 a2, b, c, c2, d, e, jp_S_fr f (fun j p q => h1 j (by omega) (by omega))⟩
/-- the objects that matter whole -/
def jp_use (k : Nat) : Bool := (decide (2 ≤ k) && decide (k ≤ 4)) || decide (k = 6) || (decide (9 ≤ k) && decide (k ≤ 34)) || (decide (64 ≤ k) && decide (k < 90)) || (decide (91 ≤ k) && decide (k < 117)) || decide (k = 118) || decide (k = 126) || (decide (128 ≤ k) && decide (k ≤ 131)) || (decide (133 ≤ k) && decide (k ≤ 136)) || (decide (144 ≤ k) && decide (k ≤ 147))
theorem jp_use_i {k : Nat} (h : 9 ≤ k ∧ k ≤ 34 ∨ 64 ≤ k ∧ k < 90 ∨ 91 ≤ k ∧ k < 117) : jp_use k = true := by
  unfold jp_use
  rcases h with h | h | h <;> simp [h.1, h.2]
theorem jp_inv_fr {M M' : jw_M} (h : jp_inv M) (h1 : ∀ k : Nat, jp_use k = true → M' k = M k) (h2 : M' 0 9 = M 0 9) (h3 : M' 0 10 = M 0 10) (h4 : M' 5 1 = M 5 1) (h5 : M' 125 2 = M 125 2) (h6 : M' 127 1 = M 127 1) (h7 : M' 127 7 = M 127 7) (h8 : M' 127 10 = M 127 10) (h9 : M' 127 11 = M 127 11) (h10 : M' 127 34 = M 127 34) : jp_inv M' := by
  obtain ⟨a, b, c, d, e, f, g⟩ := h
  refine ⟨jp_rows_fr a (h1 _ rfl) (h1 _ rfl) (h1 _ rfl) (h1 _ rfl) (h1 _ rfl) (h1 _ rfl), jp_tape_fr b h4 (h1 _ rfl) h8 (h1 _ rfl), ?_, jp_ask_fr d h5 (h1 _ rfl) h10 (h1 _ rfl), jp_cur_fr e (fun k p q => h1 k (jp_use_i (by omega))) h7 (h1 _ rfl) (h1 _ rfl) (h1 _ rfl) (h1 _ rfl), jp_img_fr f (fun k p q => h1 k (jp_use_i (by omega))) (h1 _ rfl) (h1 _ rfl) (h1 _ rfl) (h1 _ rfl) (fun z => by rw [h7]; exact z), jp_img_fr g (fun k p q => h1 k (jp_use_i (by omega))) (h1 _ rfl) (h1 _ rfl) (h1 _ rfl) (h1 _ rfl) (fun z => by rw [h7]; exact z)⟩
  unfold jp_outI
  rw [h2, h3, h6, h9]
  exact c
/-- a call is kept -/
def jp_ok (r : Option (Int × jw_M)) (f : jw_M → Option (Int × jw_M)) : Prop := ∃ (v : Int) (M1 M2 : jw_M), r = some (v, M1) ∧ f M1 = some (v, M2) ∧ jp_inv M2
def jp_ok1 (r : Option Int) (M : jw_M) (f : jw_M → Option (Int × jw_M)) : Prop := ∃ (v : Int) (M2 : jw_M), r = some v ∧ f M = some (v, M2) ∧ jp_inv M2
theorem jp_th {M : jw_M} (h : jp_inv M) (v : Int) : jp_inv (jw_up M 127 0 v) := by
  rw [jw_up_pt]
  refine jp_inv_fr h (fun k hk => jw_pt_ne _ (fun e => ?_) _) rfl rfl rfl rfl rfl rfl rfl rfl rfl
  subst e
  revert hk
  decide
