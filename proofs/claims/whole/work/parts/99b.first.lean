/-! the first memory -/
set_option maxRecDepth 1000000 in
theorem jw_M4_1 : ∀ i : Fin 8, jw_M4 2 (i.val : Int) = jw_M4 128 (i.val : Int) ∧ -1 ≤ jw_M4 128 (i.val : Int) ∧ jw_M4 128 (i.val : Int) ≤ 2 ∧ jw_M4 3 (i.val : Int) = jw_M4 129 (i.val : Int) ∧ 0 ≤ jw_M4 129 (i.val : Int) ∧ jw_M4 129 (i.val : Int) ≤ 40 := by decide +kernel
set_option maxRecDepth 1000000 in
theorem jw_M4_2 : ∀ i : Fin 320, jw_M4 4 (i.val : Int) = jw_M4 130 (i.val : Int) := by decide +kernel
set_option maxRecDepth 1000000 in
theorem jw_M4_3 : (jw_M4 5 1 = 0 ∧ jw_M4 127 10 = 0 ∧ jw_M4 0 9 = jw_M4 127 11 ∧ jw_M4 0 10 = jw_M4 127 1) ∧ (jw_M4 125 2 = 0 ∧ jw_M4 127 34 = 0) ∧ (jw_M4 9 0 = 0 ∧ jw_M4 127 7 = 0) ∧ (jw_M4 118 0 = 0 ∧ jw_M4 118 1 = 0 ∧ jw_M4 144 0 = 0 ∧ jw_M4 144 1 = 0) := by decide +kernel
set_option maxRecDepth 1000000 in
theorem jw_M4_4 : ∀ i : Fin 104, jw_M4 131 (i.val : Int) = 0 ∧ jw_M4 133 (i.val : Int) = 0 := by decide +kernel
set_option maxRecDepth 1000000 in
theorem jw_M4_5 : (jw_M4 10 0 = 0 ∧ jw_M4 10 5 = 0 ∧ jw_M4 10 8 = 0 ∧ jw_M4 10 9 = 0 ∧ jw_M4 10 10 = 0) ∧ (jw_M4 17 0 = 0 ∧ jw_M4 17 4 = 0 ∧ jw_M4 17 7 = 0) ∧ (jw_M4 24 0 = 0 ∧ jw_M4 24 1 = 0) ∧ jw_M4 30 0 = 0 := by decide +kernel
set_option maxRecDepth 1000000 in
theorem jw_M4_6 : ∀ i : Fin 49, jw_M4 12 (i.val : Int) = 0 := by decide +kernel
set_option maxRecDepth 1000000 in
theorem jw_M4_7 : ∀ i : Fin 20, jw_M4 29 (i.val : Int) = 0 ∧ jw_M4 32 (i.val : Int) = 0 := by decide +kernel
set_option maxRecDepth 1000000 in
theorem jw_M4_8 : (∀ i : Fin 7, jw_M4 31 (i.val : Int) = 0) ∧ ∀ i : Fin 25, jw_M4 34 (i.val : Int) = 0 := by decide +kernel
theorem jp_fin_n {n : Nat} {P : Int → Prop} (h : ∀ i : Fin n, P (i.val : Int)) : ∀ i : Int, 0 ≤ i → i < (n : Int) → P i := by
  intro i a b
  have e : ((i.toNat : Nat) : Int) = i := by omega
  have := h ⟨i.toNat, by omega⟩
  rw [← e]
  exact this
theorem jp_first_z {M : jw_M} (z1 : ∀ i : Int, 0 ≤ i → i < 104 → M 131 i = 0 ∧ M 133 i = 0) (z5 : (M 10 0 = 0 ∧ M 10 5 = 0 ∧ M 10 8 = 0 ∧ M 10 9 = 0 ∧ M 10 10 = 0) ∧ (M 17 0 = 0 ∧ M 17 4 = 0 ∧ M 17 7 = 0) ∧ (M 24 0 = 0 ∧ M 24 1 = 0) ∧ M 30 0 = 0) (z6 : ∀ i : Int, 0 ≤ i → i < 49 → M 12 i = 0) (z7 : ∀ i : Int, 0 ≤ i → i < 20 → M 29 i = 0 ∧ M 32 i = 0) (z8 : ∀ i : Int, 0 ≤ i → i < 7 → M 31 i = 0) (z9 : ∀ i : Int, 0 ≤ i → i < 25 → M 34 i = 0) : jp_T (M 131) ∧ jp_N (M 131) (M 133) ∧ jp_S 9 M (M 131) (M 133) := by
  have t : ∀ i : Int, 0 ≤ i → i < 104 → M 131 i = 0 := fun i a b => (z1 i a b).1
  have n : ∀ i : Int, 0 ≤ i → i < 104 → M 133 i = 0 := fun i a b => (z1 i a b).2
  refine ⟨?_, ?_, ?_⟩
  · unfold jp_T
    rw [t 0 (by omega) (by omega), t 2 (by omega) (by omega), t 3 (by omega) (by omega), t 4 (by omega) (by omega), t 5 (by omega) (by omega), t 87 (by omega) (by omega), t 88 (by omega) (by omega), t 89 (by omega) (by omega)]
    refine ⟨by omega, by omega, fun c a b => ?_, fun x y a b c d => ?_, fun g a b => by omega, fun g a b => by omega, fun g a b => by omega⟩
    · rw [t _ (by omega) (by omega)]; omega
    · rw [t _ (by omega) (by omega), t _ (by omega) (by omega)]; omega
  · unfold jp_N
    rw [t 0 (by omega) (by omega), t 3 (by omega) (by omega), t 4 (by omega) (by omega), n 9 (by omega) (by omega), n 42 (by omega) (by omega), n 58 (by omega) (by omega)]
    refine ⟨fun g a b => by omega, fun g a b => by omega, by omega, fun s p q => ?_, fun s p q => ?_, fun s p q => ?_, fun s p q => by omega, fun x y p q r s => ?_⟩
    · rw [n _ (by omega) (by omega)]; omega
    · rw [n _ (by omega) (by omega)]; omega
    · rw [n _ (by omega) (by omega)]; omega
    · rw [n _ (by omega) (by omega)]; omega
  · unfold jp_S
    simp only [Nat.reduceAdd]
    rw [t 0 (by omega) (by omega), t 2 (by omega) (by omega), t 3 (by omega) (by omega), t 4 (by omega) (by omega), t 5 (by omega) (by omega), t 87 (by omega) (by omega), t 88 (by omega) (by omega), t 89 (by omega) (by omega), n 9 (by omega) (by omega), n 42 (by omega) (by omega), n 58 (by omega) (by omega)]
    refine ⟨z5.1, fun c a b => by omega, fun x y a b c d => ?_, fun x y a b c d => by omega, fun g a b => by omega, z5.2.1, fun g a b => by omega, fun g a b => by omega, fun g a b => by omega, fun g a b => by omega, Or.inl ⟨rfl, z5.2.2.1.1, z5.2.2.1.2⟩, fun e => absurd rfl e, fun e => absurd rfl e, fun k p q => ?_, z5.2.2.2, fun c p q => z8 c p q, fun k p q => ?_, fun a b p q r s => ?_⟩
    · rw [t _ (by omega) (by omega)]; exact z6 _ (by omega) (by omega)
    · rw [n _ (by omega) (by omega)]; exact (z7 k p q).1
    · rw [n _ (by omega) (by omega)]; exact (z7 k p q).2
    · rw [n _ (by omega) (by omega)]; exact z9 _ (by omega) (by omega)
theorem jp_first : jp_inv jw_M4 := by
  have h1 := jp_fin_n (n := 8) (P := fun i => jw_M4 2 i = jw_M4 128 i ∧ -1 ≤ jw_M4 128 i ∧ jw_M4 128 i ≤ 2 ∧ jw_M4 3 i = jw_M4 129 i ∧ 0 ≤ jw_M4 129 i ∧ jw_M4 129 i ≤ 40) jw_M4_1
  have h2 := jp_fin_n (n := 320) (P := fun i => jw_M4 4 i = jw_M4 130 i) jw_M4_2
  have h3 := jw_M4_3
  have h4 := jp_fin_n (n := 104) (P := fun i => jw_M4 131 i = 0 ∧ jw_M4 133 i = 0) jw_M4_4
  have h5 := jw_M4_5
  have h6 := jp_fin_n (n := 49) (P := fun i => jw_M4 12 i = 0) jw_M4_6
  have h7 := jp_fin_n (n := 20) (P := fun i => jw_M4 29 i = 0 ∧ jw_M4 32 i = 0) jw_M4_7
  have h8 := jp_fin_n (n := 7) (P := fun i => jw_M4 31 i = 0) jw_M4_8.1
  have h9 := jp_fin_n (n := 25) (P := fun i => jw_M4 34 i = 0) jw_M4_8.2
  generalize jw_M4 = M at *
  obtain ⟨zT, zN, zS⟩ := jp_first_z h4 h5 h6 h7 h8 h9
  obtain ⟨⟨a1, a2, a3, a4⟩, ⟨b1, b2⟩, ⟨c1, c2⟩, ⟨d1, d2, d3, d4⟩⟩ := h3
  have t0 : M 131 0 = 0 := (h4 0 (by omega) (by omega)).1
  refine ⟨⟨h1, h2⟩, ⟨by rw [a1, a2], by rw [a2]; decide, by rw [a2]; decide, fun i p q => by rw [a2] at q; omega⟩, ⟨a3, a4⟩, ⟨by rw [b1, b2], by rw [b2]; decide, by rw [b2]; decide, fun i p q => by rw [b2] at q; omega⟩, ⟨⟨by rw [c1, c2], Or.inl c2⟩, zT, zN, zS, fun a b p q => by rw [t0] at q; omega⟩, ⟨?_, Or.inl ?_⟩, ⟨?_, Or.inl ?_⟩⟩
  · show M 118 0 = M 144 0
    rw [d1, d3]
  · exact d3
  · show M 118 1 = M 144 1
    rw [d2, d4]
  · exact d4
