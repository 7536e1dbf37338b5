/-! reading: the draft shows what was taken -/
theorem jp_cR_0 {N : jw_M} {D : Int → Int} (hD : jp_Dk D) (hr : D 0 < 7) (a b c : Int) (hv : jp_vk D 0 a b c) (h : jp_cR N D) : jp_cR (jw_up (jw_up (jw_up N 8 0 (N 8 0 + 1)) 38 (D 0) a) 37 0 (D 0 + 1)) (jp_tko 0 D a b c) := by
  have hcn := jp_tko_c hD (w := 0) (by decide) hv
  obtain ⟨⟨d0, d1, d2, d3, d4, d5, d6⟩, -⟩ := hD
  have v := hv.1 rfl
  obtain ⟨r0, ⟨r1a, r1b, r1c, r1d, r1e⟩, r2, r3, r4, ⟨r5a, r5b, r5c⟩, r6, r7, r8⟩ := h
  have k0 := hcn 0 (by decide) (by decide)
  have k1 := hcn 1 (by decide) (by decide)
  have k2 := hcn 2 (by decide) (by decide)
  have k3 := hcn 3 (by decide) (by decide)
  have k4 := hcn 4 (by decide) (by decide)
  have k5 := hcn 5 (by decide) (by decide)
  refine ⟨fun x x0 x1 => ?_, ?_, fun x x0 x1 => ?_, fun x y x0 x1 y0 y1 => ?_, fun x x0 x1 => ?_, ?_, fun x x0 x1 => ?_, fun x x0 x1 => ?_, fun x x0 x1 => ?_⟩
  · rw [hcn x x0 x1]
    simp (disch := omega) only [jw_up_ne, jw_up_eq, jw_u1_a]
    by_cases z : x = 0
    · rw [if_pos z, if_pos z, r0 0 (by decide) (by decide)]
    · rw [if_neg z, if_neg z, r0 x x0 x1]
  · unfold jp_tko
    rw [if_pos rfl]
    refine ⟨?_, ?_, ?_, ?_, ?_⟩
    · (try simp (disch := omega) only [jw_up_ne, jw_up_eq, jw_u1_n, jw_u1_s]) <;> first | exact r1a | omega
    · (try simp (disch := omega) only [jw_up_ne, jw_up_eq, jw_u1_n, jw_u1_s]) <;> first | exact r1b | omega
    · (try simp (disch := omega) only [jw_up_ne, jw_up_eq, jw_u1_n, jw_u1_s]) <;> first | exact r1c | omega
    · (try simp (disch := omega) only [jw_up_ne, jw_up_eq, jw_u1_n, jw_u1_s]) <;> first | exact r1d | omega
    · (try simp (disch := omega) only [jw_up_ne, jw_up_eq, jw_u1_n, jw_u1_s]) <;> first | exact r1e | omega
  · rw [k0, if_pos rfl] at x1
    unfold jp_tko
    rw [if_pos rfl]
    by_cases z : x = D 0
    · subst z; (try simp (disch := omega) only [jw_up_ne, jw_up_eq, jw_u1_n, jw_u1_s]) <;> first | rfl | omega
    · (try simp (disch := omega) only [jw_up_ne, jw_up_eq, jw_u1_n, jw_u1_s]) <;> exact r2 x x0 (by omega)
  · unfold jp_tko
    rw [if_pos rfl]
    (try simp (disch := omega) only [jw_up_ne, jw_up_eq, jw_u1_n, jw_u1_s]) <;> exact r3 x y x0 x1 y0 y1
  · rw [k5, if_neg (by decide)] at x1
    unfold jp_tko
    rw [if_pos rfl]
    have u := r4 x x0 (by omega)
    refine ⟨?_, ?_⟩ <;> (try simp (disch := omega) only [jw_up_ne, jw_up_eq, jw_u1_n, jw_u1_s]) <;> first | exact u.1 | exact u.2
  · unfold jp_tko
    rw [if_pos rfl]
    refine ⟨?_, ?_, ?_⟩
    · (try simp (disch := omega) only [jw_up_ne, jw_up_eq, jw_u1_n, jw_u1_s]) <;> first | exact r5a | omega
    · (try simp (disch := omega) only [jw_up_ne, jw_up_eq, jw_u1_n, jw_u1_s]) <;> first | exact r5b | omega
    · (try simp (disch := omega) only [jw_up_ne, jw_up_eq, jw_u1_n, jw_u1_s]) <;> first | exact r5c | omega
  · rw [k2, if_neg (by decide)] at x1
    unfold jp_tko
    rw [if_pos rfl]
    have u := r6 x x0 (by omega)
    refine ⟨?_, ?_, ?_⟩ <;> (try simp (disch := omega) only [jw_up_ne, jw_up_eq, jw_u1_n, jw_u1_s]) <;> first | exact u.1 | exact u.2.1 | exact u.2.2
  · rw [k3, if_neg (by decide)] at x1
    unfold jp_tko
    rw [if_pos rfl]
    have u := r7 x x0 (by omega)
    refine ⟨?_, ?_⟩ <;> (try simp (disch := omega) only [jw_up_ne, jw_up_eq, jw_u1_n, jw_u1_s]) <;> first | exact u.1 | exact u.2
  · rw [k4, if_neg (by decide)] at x1
    unfold jp_tko
    rw [if_pos rfl]
    (try simp (disch := omega) only [jw_up_ne, jw_up_eq, jw_u1_n, jw_u1_s]) <;> exact r8 x x0 (by omega)
theorem jp_cR_1 {N : jw_M} {D : Int → Int} (hD : jp_Dk D) (hr : D 1 < 16) (a b c : Int) (hv : jp_vk D 1 a b c) (h : jp_cR N D) : jp_cR (jw_up (jw_up (jw_up N 8 1 (N 8 1 + 1)) 39 (7 * a + b) (jp_isq D a b c)) 39 (7 * b + a) (jp_isq D a b c)) (jp_tko 1 D a b c) := by
  have hcn := jp_tko_c hD (w := 1) (by decide) hv
  obtain ⟨⟨d0, d1, d2, d3, d4, d5, d6⟩, -⟩ := hD
  have v := hv.2.1 rfl
  obtain ⟨r0, ⟨r1a, r1b, r1c, r1d, r1e⟩, r2, r3, r4, ⟨r5a, r5b, r5c⟩, r6, r7, r8⟩ := h
  have k0 := hcn 0 (by decide) (by decide)
  have k1 := hcn 1 (by decide) (by decide)
  have k2 := hcn 2 (by decide) (by decide)
  have k3 := hcn 3 (by decide) (by decide)
  have k4 := hcn 4 (by decide) (by decide)
  have k5 := hcn 5 (by decide) (by decide)
  refine ⟨fun x x0 x1 => ?_, ?_, fun x x0 x1 => ?_, fun x y x0 x1 y0 y1 => ?_, fun x x0 x1 => ?_, ?_, fun x x0 x1 => ?_, fun x x0 x1 => ?_, fun x x0 x1 => ?_⟩
  · rw [hcn x x0 x1]
    simp (disch := omega) only [jw_up_ne, jw_up_eq, jw_u1_a]
    by_cases z : x = 1
    · rw [if_pos z, if_pos z, r0 1 (by decide) (by decide)]
    · rw [if_neg z, if_neg z, r0 x x0 x1]
  · unfold jp_tko
    rw [if_neg (by decide), if_pos rfl]
    refine ⟨?_, ?_, ?_, ?_, ?_⟩
    · (try simp (disch := omega) only [jw_up_ne, jw_up_eq, jw_u1_n, jw_u1_s]) <;> first | exact r1a | omega
    · (try simp (disch := omega) only [jw_up_ne, jw_up_eq, jw_u1_n, jw_u1_s]) <;> first | exact r1b | omega
    · (try simp (disch := omega) only [jw_up_ne, jw_up_eq, jw_u1_n, jw_u1_s]) <;> first | exact r1c | omega
    · (try simp (disch := omega) only [jw_up_ne, jw_up_eq, jw_u1_n, jw_u1_s]) <;> first | exact r1d | omega
    · (try simp (disch := omega) only [jw_up_ne, jw_up_eq, jw_u1_n, jw_u1_s]) <;> first | exact r1e | omega
  · rw [k0, if_neg (by decide)] at x1
    unfold jp_tko
    rw [if_neg (by decide), if_pos rfl]
    (try simp (disch := omega) only [jw_up_ne, jw_up_eq, jw_u1_n, jw_u1_s]) <;> exact r2 x x0 (by omega)
  · unfold jp_tko
    rw [if_neg (by decide), if_pos rfl]
    simp (disch := omega) only [jw_up_ne, jw_up_eq, jw_u1_a]
    rw [if_neg (show ¬ 14 + 7 * x + y = 1 by omega), r3 x y x0 x1 y0 y1]
    by_cases z1 : 7 * x + y = 7 * b + a
    · rw [if_pos z1, if_pos (by omega)]
    · rw [if_neg z1, if_neg (show ¬ 14 + 7 * x + y = 14 + 7 * b + a by omega)]
      exact jp_ifc ⟨fun w => by omega, fun w => by omega⟩
  · rw [k5, if_neg (by decide)] at x1
    unfold jp_tko
    rw [if_neg (by decide), if_pos rfl]
    have u := r4 x x0 (by omega)
    refine ⟨?_, ?_⟩ <;> (try simp (disch := omega) only [jw_up_ne, jw_up_eq, jw_u1_n, jw_u1_s]) <;> first | exact u.1 | exact u.2
  · unfold jp_tko
    rw [if_neg (by decide), if_pos rfl]
    refine ⟨?_, ?_, ?_⟩
    · (try simp (disch := omega) only [jw_up_ne, jw_up_eq, jw_u1_n, jw_u1_s]) <;> first | exact r5a | omega
    · (try simp (disch := omega) only [jw_up_ne, jw_up_eq, jw_u1_n, jw_u1_s]) <;> first | exact r5b | omega
    · (try simp (disch := omega) only [jw_up_ne, jw_up_eq, jw_u1_n, jw_u1_s]) <;> first | exact r5c | omega
  · rw [k2, if_neg (by decide)] at x1
    unfold jp_tko
    rw [if_neg (by decide), if_pos rfl]
    have u := r6 x x0 (by omega)
    refine ⟨?_, ?_, ?_⟩ <;> (try simp (disch := omega) only [jw_up_ne, jw_up_eq, jw_u1_n, jw_u1_s]) <;> first | exact u.1 | exact u.2.1 | exact u.2.2
  · rw [k3, if_neg (by decide)] at x1
    unfold jp_tko
    rw [if_neg (by decide), if_pos rfl]
    have u := r7 x x0 (by omega)
    refine ⟨?_, ?_⟩ <;> (try simp (disch := omega) only [jw_up_ne, jw_up_eq, jw_u1_n, jw_u1_s]) <;> first | exact u.1 | exact u.2
  · rw [k4, if_neg (by decide)] at x1
    unfold jp_tko
    rw [if_neg (by decide), if_pos rfl]
    (try simp (disch := omega) only [jw_up_ne, jw_up_eq, jw_u1_n, jw_u1_s]) <;> exact r8 x x0 (by omega)
theorem jp_cR_2 {N : jw_M} {D : Int → Int} (hD : jp_Dk D) (hr : D 2 < 4) (a b c : Int) (hv : jp_vk D 2 a b c) (h : jp_cR N D) : jp_cR (jw_up (jw_up (jw_up (jw_up (jw_up N 8 2 (N 8 2 + 1)) 45 (D 2) a) 46 (D 2) b) 47 (D 2) c) 44 0 (D 2 + 1)) (jp_tko 2 D a b c) := by
  have hcn := jp_tko_c hD (w := 2) (by decide) hv
  obtain ⟨⟨d0, d1, d2, d3, d4, d5, d6⟩, -⟩ := hD
  have v := hv.2.2.1 rfl
  obtain ⟨r0, ⟨r1a, r1b, r1c, r1d, r1e⟩, r2, r3, r4, ⟨r5a, r5b, r5c⟩, r6, r7, r8⟩ := h
  have k0 := hcn 0 (by decide) (by decide)
  have k1 := hcn 1 (by decide) (by decide)
  have k2 := hcn 2 (by decide) (by decide)
  have k3 := hcn 3 (by decide) (by decide)
  have k4 := hcn 4 (by decide) (by decide)
  have k5 := hcn 5 (by decide) (by decide)
  refine ⟨fun x x0 x1 => ?_, ?_, fun x x0 x1 => ?_, fun x y x0 x1 y0 y1 => ?_, fun x x0 x1 => ?_, ?_, fun x x0 x1 => ?_, fun x x0 x1 => ?_, fun x x0 x1 => ?_⟩
  · rw [hcn x x0 x1]
    simp (disch := omega) only [jw_up_ne, jw_up_eq, jw_u1_a]
    by_cases z : x = 2
    · rw [if_pos z, if_pos z, r0 2 (by decide) (by decide)]
    · rw [if_neg z, if_neg z, r0 x x0 x1]
  · unfold jp_tko
    rw [if_neg (by decide), if_neg (by decide), if_pos rfl]
    refine ⟨?_, ?_, ?_, ?_, ?_⟩
    · (try simp (disch := omega) only [jw_up_ne, jw_up_eq, jw_u1_n, jw_u1_s]) <;> first | exact r1a | omega
    · (try simp (disch := omega) only [jw_up_ne, jw_up_eq, jw_u1_n, jw_u1_s]) <;> first | exact r1b | omega
    · (try simp (disch := omega) only [jw_up_ne, jw_up_eq, jw_u1_n, jw_u1_s]) <;> first | exact r1c | omega
    · (try simp (disch := omega) only [jw_up_ne, jw_up_eq, jw_u1_n, jw_u1_s]) <;> first | exact r1d | omega
    · (try simp (disch := omega) only [jw_up_ne, jw_up_eq, jw_u1_n, jw_u1_s]) <;> first | exact r1e | omega
  · rw [k0, if_neg (by decide)] at x1
    unfold jp_tko
    rw [if_neg (by decide), if_neg (by decide), if_pos rfl]
    (try simp (disch := omega) only [jw_up_ne, jw_up_eq, jw_u1_n, jw_u1_s]) <;> exact r2 x x0 (by omega)
  · unfold jp_tko
    rw [if_neg (by decide), if_neg (by decide), if_pos rfl]
    (try simp (disch := omega) only [jw_up_ne, jw_up_eq, jw_u1_n, jw_u1_s]) <;> exact r3 x y x0 x1 y0 y1
  · rw [k5, if_neg (by decide)] at x1
    unfold jp_tko
    rw [if_neg (by decide), if_neg (by decide), if_pos rfl]
    have u := r4 x x0 (by omega)
    refine ⟨?_, ?_⟩ <;> (try simp (disch := omega) only [jw_up_ne, jw_up_eq, jw_u1_n, jw_u1_s]) <;> first | exact u.1 | exact u.2
  · unfold jp_tko
    rw [if_neg (by decide), if_neg (by decide), if_pos rfl]
    refine ⟨?_, ?_, ?_⟩
    · (try simp (disch := omega) only [jw_up_ne, jw_up_eq, jw_u1_n, jw_u1_s]) <;> first | exact r5a | omega
    · (try simp (disch := omega) only [jw_up_ne, jw_up_eq, jw_u1_n, jw_u1_s]) <;> first | exact r5b | omega
    · (try simp (disch := omega) only [jw_up_ne, jw_up_eq, jw_u1_n, jw_u1_s]) <;> first | exact r5c | omega
  · rw [k2, if_pos rfl] at x1
    unfold jp_tko
    rw [if_neg (by decide), if_neg (by decide), if_pos rfl]
    by_cases z : x = D 2
    · subst z; refine ⟨?_, ?_, ?_⟩ <;> (try simp (disch := omega) only [jw_up_ne, jw_up_eq, jw_u1_n, jw_u1_s])
    · have u := r6 x x0 (by omega)
      refine ⟨?_, ?_, ?_⟩ <;> (try simp (disch := omega) only [jw_up_ne, jw_up_eq, jw_u1_n, jw_u1_s]) <;> first | exact u.1 | exact u.2.1 | exact u.2.2
  · rw [k3, if_neg (by decide)] at x1
    unfold jp_tko
    rw [if_neg (by decide), if_neg (by decide), if_pos rfl]
    have u := r7 x x0 (by omega)
    refine ⟨?_, ?_⟩ <;> (try simp (disch := omega) only [jw_up_ne, jw_up_eq, jw_u1_n, jw_u1_s]) <;> first | exact u.1 | exact u.2
  · rw [k4, if_neg (by decide)] at x1
    unfold jp_tko
    rw [if_neg (by decide), if_neg (by decide), if_pos rfl]
    (try simp (disch := omega) only [jw_up_ne, jw_up_eq, jw_u1_n, jw_u1_s]) <;> exact r8 x x0 (by omega)
theorem jp_cR_3 {N : jw_M} {D : Int → Int} (hD : jp_Dk D) (hr : D 3 < 5) (a b c : Int) (hv : jp_vk D 3 a b c) (h : jp_cR N D) : jp_cR (jw_up (jw_up (jw_up (jw_up N 8 3 (N 8 3 + 1)) 48 (D 3) a) 49 (D 3) b) 44 4 (D 3 + 1)) (jp_tko 3 D a b c) := by
  have hcn := jp_tko_c hD (w := 3) (by decide) hv
  obtain ⟨⟨d0, d1, d2, d3, d4, d5, d6⟩, -⟩ := hD
  have v := hv.2.2.2.1 rfl
  obtain ⟨r0, ⟨r1a, r1b, r1c, r1d, r1e⟩, r2, r3, r4, ⟨r5a, r5b, r5c⟩, r6, r7, r8⟩ := h
  have k0 := hcn 0 (by decide) (by decide)
  have k1 := hcn 1 (by decide) (by decide)
  have k2 := hcn 2 (by decide) (by decide)
  have k3 := hcn 3 (by decide) (by decide)
  have k4 := hcn 4 (by decide) (by decide)
  have k5 := hcn 5 (by decide) (by decide)
  refine ⟨fun x x0 x1 => ?_, ?_, fun x x0 x1 => ?_, fun x y x0 x1 y0 y1 => ?_, fun x x0 x1 => ?_, ?_, fun x x0 x1 => ?_, fun x x0 x1 => ?_, fun x x0 x1 => ?_⟩
  · rw [hcn x x0 x1]
    simp (disch := omega) only [jw_up_ne, jw_up_eq, jw_u1_a]
    by_cases z : x = 3
    · rw [if_pos z, if_pos z, r0 3 (by decide) (by decide)]
    · rw [if_neg z, if_neg z, r0 x x0 x1]
  · unfold jp_tko
    rw [if_neg (by decide), if_neg (by decide), if_neg (by decide), if_pos rfl]
    refine ⟨?_, ?_, ?_, ?_, ?_⟩
    · (try simp (disch := omega) only [jw_up_ne, jw_up_eq, jw_u1_n, jw_u1_s]) <;> first | exact r1a | omega
    · (try simp (disch := omega) only [jw_up_ne, jw_up_eq, jw_u1_n, jw_u1_s]) <;> first | exact r1b | omega
    · (try simp (disch := omega) only [jw_up_ne, jw_up_eq, jw_u1_n, jw_u1_s]) <;> first | exact r1c | omega
    · (try simp (disch := omega) only [jw_up_ne, jw_up_eq, jw_u1_n, jw_u1_s]) <;> first | exact r1d | omega
    · (try simp (disch := omega) only [jw_up_ne, jw_up_eq, jw_u1_n, jw_u1_s]) <;> first | exact r1e | omega
  · rw [k0, if_neg (by decide)] at x1
    unfold jp_tko
    rw [if_neg (by decide), if_neg (by decide), if_neg (by decide), if_pos rfl]
    (try simp (disch := omega) only [jw_up_ne, jw_up_eq, jw_u1_n, jw_u1_s]) <;> exact r2 x x0 (by omega)
  · unfold jp_tko
    rw [if_neg (by decide), if_neg (by decide), if_neg (by decide), if_pos rfl]
    (try simp (disch := omega) only [jw_up_ne, jw_up_eq, jw_u1_n, jw_u1_s]) <;> exact r3 x y x0 x1 y0 y1
  · rw [k5, if_neg (by decide)] at x1
    unfold jp_tko
    rw [if_neg (by decide), if_neg (by decide), if_neg (by decide), if_pos rfl]
    have u := r4 x x0 (by omega)
    refine ⟨?_, ?_⟩ <;> (try simp (disch := omega) only [jw_up_ne, jw_up_eq, jw_u1_n, jw_u1_s]) <;> first | exact u.1 | exact u.2
  · unfold jp_tko
    rw [if_neg (by decide), if_neg (by decide), if_neg (by decide), if_pos rfl]
    refine ⟨?_, ?_, ?_⟩
    · (try simp (disch := omega) only [jw_up_ne, jw_up_eq, jw_u1_n, jw_u1_s]) <;> first | exact r5a | omega
    · (try simp (disch := omega) only [jw_up_ne, jw_up_eq, jw_u1_n, jw_u1_s]) <;> first | exact r5b | omega
    · (try simp (disch := omega) only [jw_up_ne, jw_up_eq, jw_u1_n, jw_u1_s]) <;> first | exact r5c | omega
  · rw [k2, if_neg (by decide)] at x1
    unfold jp_tko
    rw [if_neg (by decide), if_neg (by decide), if_neg (by decide), if_pos rfl]
    have u := r6 x x0 (by omega)
    refine ⟨?_, ?_, ?_⟩ <;> (try simp (disch := omega) only [jw_up_ne, jw_up_eq, jw_u1_n, jw_u1_s]) <;> first | exact u.1 | exact u.2.1 | exact u.2.2
  · rw [k3, if_pos rfl] at x1
    unfold jp_tko
    rw [if_neg (by decide), if_neg (by decide), if_neg (by decide), if_pos rfl]
    by_cases z : x = D 3
    · subst z; refine ⟨?_, ?_⟩ <;> (try simp (disch := omega) only [jw_up_ne, jw_up_eq, jw_u1_n, jw_u1_s])
    · have u := r7 x x0 (by omega)
      refine ⟨?_, ?_⟩ <;> (try simp (disch := omega) only [jw_up_ne, jw_up_eq, jw_u1_n, jw_u1_s]) <;> first | exact u.1 | exact u.2
  · rw [k4, if_neg (by decide)] at x1
    unfold jp_tko
    rw [if_neg (by decide), if_neg (by decide), if_neg (by decide), if_pos rfl]
    (try simp (disch := omega) only [jw_up_ne, jw_up_eq, jw_u1_n, jw_u1_s]) <;> exact r8 x x0 (by omega)
theorem jp_cR_4 {N : jw_M} {D : Int → Int} (hD : jp_Dk D) (hr : D 4 < 4) (a b c : Int) (hv : jp_vk D 4 a b c) (h : jp_cR N D) : jp_cR (jw_up (jw_up (jw_up N 8 4 (N 8 4 + 1)) 50 (D 4) a) 44 7 (D 4 + 1)) (jp_tko 4 D a b c) := by
  have hcn := jp_tko_c hD (w := 4) (by decide) hv
  obtain ⟨⟨d0, d1, d2, d3, d4, d5, d6⟩, -⟩ := hD
  have v := hv.2.2.2.2.1 rfl
  obtain ⟨r0, ⟨r1a, r1b, r1c, r1d, r1e⟩, r2, r3, r4, ⟨r5a, r5b, r5c⟩, r6, r7, r8⟩ := h
  have k0 := hcn 0 (by decide) (by decide)
  have k1 := hcn 1 (by decide) (by decide)
  have k2 := hcn 2 (by decide) (by decide)
  have k3 := hcn 3 (by decide) (by decide)
  have k4 := hcn 4 (by decide) (by decide)
  have k5 := hcn 5 (by decide) (by decide)
  refine ⟨fun x x0 x1 => ?_, ?_, fun x x0 x1 => ?_, fun x y x0 x1 y0 y1 => ?_, fun x x0 x1 => ?_, ?_, fun x x0 x1 => ?_, fun x x0 x1 => ?_, fun x x0 x1 => ?_⟩
  · rw [hcn x x0 x1]
    simp (disch := omega) only [jw_up_ne, jw_up_eq, jw_u1_a]
    by_cases z : x = 4
    · rw [if_pos z, if_pos z, r0 4 (by decide) (by decide)]
    · rw [if_neg z, if_neg z, r0 x x0 x1]
  · unfold jp_tko
    rw [if_neg (by decide), if_neg (by decide), if_neg (by decide), if_neg (by decide), if_pos rfl]
    refine ⟨?_, ?_, ?_, ?_, ?_⟩
    · (try simp (disch := omega) only [jw_up_ne, jw_up_eq, jw_u1_n, jw_u1_s]) <;> first | exact r1a | omega
    · (try simp (disch := omega) only [jw_up_ne, jw_up_eq, jw_u1_n, jw_u1_s]) <;> first | exact r1b | omega
    · (try simp (disch := omega) only [jw_up_ne, jw_up_eq, jw_u1_n, jw_u1_s]) <;> first | exact r1c | omega
    · (try simp (disch := omega) only [jw_up_ne, jw_up_eq, jw_u1_n, jw_u1_s]) <;> first | exact r1d | omega
    · (try simp (disch := omega) only [jw_up_ne, jw_up_eq, jw_u1_n, jw_u1_s]) <;> first | exact r1e | omega
  · rw [k0, if_neg (by decide)] at x1
    unfold jp_tko
    rw [if_neg (by decide), if_neg (by decide), if_neg (by decide), if_neg (by decide), if_pos rfl]
    (try simp (disch := omega) only [jw_up_ne, jw_up_eq, jw_u1_n, jw_u1_s]) <;> exact r2 x x0 (by omega)
  · unfold jp_tko
    rw [if_neg (by decide), if_neg (by decide), if_neg (by decide), if_neg (by decide), if_pos rfl]
    (try simp (disch := omega) only [jw_up_ne, jw_up_eq, jw_u1_n, jw_u1_s]) <;> exact r3 x y x0 x1 y0 y1
  · rw [k5, if_neg (by decide)] at x1
    unfold jp_tko
    rw [if_neg (by decide), if_neg (by decide), if_neg (by decide), if_neg (by decide), if_pos rfl]
    have u := r4 x x0 (by omega)
    refine ⟨?_, ?_⟩ <;> (try simp (disch := omega) only [jw_up_ne, jw_up_eq, jw_u1_n, jw_u1_s]) <;> first | exact u.1 | exact u.2
  · unfold jp_tko
    rw [if_neg (by decide), if_neg (by decide), if_neg (by decide), if_neg (by decide), if_pos rfl]
    refine ⟨?_, ?_, ?_⟩
    · (try simp (disch := omega) only [jw_up_ne, jw_up_eq, jw_u1_n, jw_u1_s]) <;> first | exact r5a | omega
    · (try simp (disch := omega) only [jw_up_ne, jw_up_eq, jw_u1_n, jw_u1_s]) <;> first | exact r5b | omega
    · (try simp (disch := omega) only [jw_up_ne, jw_up_eq, jw_u1_n, jw_u1_s]) <;> first | exact r5c | omega
  · rw [k2, if_neg (by decide)] at x1
    unfold jp_tko
    rw [if_neg (by decide), if_neg (by decide), if_neg (by decide), if_neg (by decide), if_pos rfl]
    have u := r6 x x0 (by omega)
    refine ⟨?_, ?_, ?_⟩ <;> (try simp (disch := omega) only [jw_up_ne, jw_up_eq, jw_u1_n, jw_u1_s]) <;> first | exact u.1 | exact u.2.1 | exact u.2.2
  · rw [k3, if_neg (by decide)] at x1
    unfold jp_tko
    rw [if_neg (by decide), if_neg (by decide), if_neg (by decide), if_neg (by decide), if_pos rfl]
    have u := r7 x x0 (by omega)
    refine ⟨?_, ?_⟩ <;> (try simp (disch := omega) only [jw_up_ne, jw_up_eq, jw_u1_n, jw_u1_s]) <;> first | exact u.1 | exact u.2
  · rw [k4, if_pos rfl] at x1
    unfold jp_tko
    rw [if_neg (by decide), if_neg (by decide), if_neg (by decide), if_neg (by decide), if_pos rfl]
    by_cases z : x = D 4
    · subst z; (try simp (disch := omega) only [jw_up_ne, jw_up_eq, jw_u1_n, jw_u1_s])
    · (try simp (disch := omega) only [jw_up_ne, jw_up_eq, jw_u1_n, jw_u1_s]) <;> exact r8 x x0 (by omega)
theorem jp_cR_5 {N : jw_M} {D : Int → Int} (hD : jp_Dk D) (hr : D 5 < 6) (a b c : Int) (hv : jp_vk D 5 a b c) (h : jp_cR N D) : jp_cR (jw_up (jw_up (jw_up (jw_up N 8 5 (N 8 5 + 1)) 42 (D 5) a) 43 (D 5) b) 37 5 (D 5 + 1)) (jp_tko 5 D a b c) := by
  have hcn := jp_tko_c hD (w := 5) (by decide) hv
  obtain ⟨⟨d0, d1, d2, d3, d4, d5, d6⟩, -⟩ := hD
  have v := hv.2.2.2.2.2.1 rfl
  obtain ⟨r0, ⟨r1a, r1b, r1c, r1d, r1e⟩, r2, r3, r4, ⟨r5a, r5b, r5c⟩, r6, r7, r8⟩ := h
  have k0 := hcn 0 (by decide) (by decide)
  have k1 := hcn 1 (by decide) (by decide)
  have k2 := hcn 2 (by decide) (by decide)
  have k3 := hcn 3 (by decide) (by decide)
  have k4 := hcn 4 (by decide) (by decide)
  have k5 := hcn 5 (by decide) (by decide)
  refine ⟨fun x x0 x1 => ?_, ?_, fun x x0 x1 => ?_, fun x y x0 x1 y0 y1 => ?_, fun x x0 x1 => ?_, ?_, fun x x0 x1 => ?_, fun x x0 x1 => ?_, fun x x0 x1 => ?_⟩
  · rw [hcn x x0 x1]
    simp (disch := omega) only [jw_up_ne, jw_up_eq, jw_u1_a]
    by_cases z : x = 5
    · rw [if_pos z, if_pos z, r0 5 (by decide) (by decide)]
    · rw [if_neg z, if_neg z, r0 x x0 x1]
  · unfold jp_tko
    rw [if_neg (by decide), if_neg (by decide), if_neg (by decide), if_neg (by decide), if_neg (by decide), if_pos rfl]
    refine ⟨?_, ?_, ?_, ?_, ?_⟩
    · (try simp (disch := omega) only [jw_up_ne, jw_up_eq, jw_u1_n, jw_u1_s]) <;> first | exact r1a | omega
    · (try simp (disch := omega) only [jw_up_ne, jw_up_eq, jw_u1_n, jw_u1_s]) <;> first | exact r1b | omega
    · (try simp (disch := omega) only [jw_up_ne, jw_up_eq, jw_u1_n, jw_u1_s]) <;> first | exact r1c | omega
    · (try simp (disch := omega) only [jw_up_ne, jw_up_eq, jw_u1_n, jw_u1_s]) <;> first | exact r1d | omega
    · (try simp (disch := omega) only [jw_up_ne, jw_up_eq, jw_u1_n, jw_u1_s]) <;> first | exact r1e | omega
  · rw [k0, if_neg (by decide)] at x1
    unfold jp_tko
    rw [if_neg (by decide), if_neg (by decide), if_neg (by decide), if_neg (by decide), if_neg (by decide), if_pos rfl]
    (try simp (disch := omega) only [jw_up_ne, jw_up_eq, jw_u1_n, jw_u1_s]) <;> exact r2 x x0 (by omega)
  · unfold jp_tko
    rw [if_neg (by decide), if_neg (by decide), if_neg (by decide), if_neg (by decide), if_neg (by decide), if_pos rfl]
    (try simp (disch := omega) only [jw_up_ne, jw_up_eq, jw_u1_n, jw_u1_s]) <;> exact r3 x y x0 x1 y0 y1
  · rw [k5, if_pos rfl] at x1
    unfold jp_tko
    rw [if_neg (by decide), if_neg (by decide), if_neg (by decide), if_neg (by decide), if_neg (by decide), if_pos rfl]
    by_cases z : x = D 5
    · subst z; refine ⟨?_, ?_⟩ <;> (try simp (disch := omega) only [jw_up_ne, jw_up_eq, jw_u1_n, jw_u1_s])
    · have u := r4 x x0 (by omega)
      refine ⟨?_, ?_⟩ <;> (try simp (disch := omega) only [jw_up_ne, jw_up_eq, jw_u1_n, jw_u1_s]) <;> first | exact u.1 | exact u.2
  · unfold jp_tko
    rw [if_neg (by decide), if_neg (by decide), if_neg (by decide), if_neg (by decide), if_neg (by decide), if_pos rfl]
    refine ⟨?_, ?_, ?_⟩
    · (try simp (disch := omega) only [jw_up_ne, jw_up_eq, jw_u1_n, jw_u1_s]) <;> first | exact r5a | omega
    · (try simp (disch := omega) only [jw_up_ne, jw_up_eq, jw_u1_n, jw_u1_s]) <;> first | exact r5b | omega
    · (try simp (disch := omega) only [jw_up_ne, jw_up_eq, jw_u1_n, jw_u1_s]) <;> first | exact r5c | omega
  · rw [k2, if_neg (by decide)] at x1
    unfold jp_tko
    rw [if_neg (by decide), if_neg (by decide), if_neg (by decide), if_neg (by decide), if_neg (by decide), if_pos rfl]
    have u := r6 x x0 (by omega)
    refine ⟨?_, ?_, ?_⟩ <;> (try simp (disch := omega) only [jw_up_ne, jw_up_eq, jw_u1_n, jw_u1_s]) <;> first | exact u.1 | exact u.2.1 | exact u.2.2
  · rw [k3, if_neg (by decide)] at x1
    unfold jp_tko
    rw [if_neg (by decide), if_neg (by decide), if_neg (by decide), if_neg (by decide), if_neg (by decide), if_pos rfl]
    have u := r7 x x0 (by omega)
    refine ⟨?_, ?_⟩ <;> (try simp (disch := omega) only [jw_up_ne, jw_up_eq, jw_u1_n, jw_u1_s]) <;> first | exact u.1 | exact u.2
  · rw [k4, if_neg (by decide)] at x1
    unfold jp_tko
    rw [if_neg (by decide), if_neg (by decide), if_neg (by decide), if_neg (by decide), if_neg (by decide), if_pos rfl]
    (try simp (disch := omega) only [jw_up_ne, jw_up_eq, jw_u1_n, jw_u1_s]) <;> exact r8 x x0 (by omega)
theorem jp_cR_6 {N : jw_M} {D : Int → Int} (hD : jp_Dk D) (hr : D 6 < 1) (a b c : Int) (hv : jp_vk D 6 a b c) (h : jp_cR N D) : jp_cR (jw_up (jw_up (jw_up (jw_up N 8 6 (N 8 6 + 1)) 37 8 a) 37 9 b) 37 10 c) (jp_tko 6 D a b c) := by
  have hcn := jp_tko_c hD (w := 6) (by decide) hv
  obtain ⟨⟨d0, d1, d2, d3, d4, d5, d6⟩, -⟩ := hD
  have v := hv.2.2.2.2.2.2 rfl
  obtain ⟨r0, ⟨r1a, r1b, r1c, r1d, r1e⟩, r2, r3, r4, ⟨r5a, r5b, r5c⟩, r6, r7, r8⟩ := h
  have k0 := hcn 0 (by decide) (by decide)
  have k1 := hcn 1 (by decide) (by decide)
  have k2 := hcn 2 (by decide) (by decide)
  have k3 := hcn 3 (by decide) (by decide)
  have k4 := hcn 4 (by decide) (by decide)
  have k5 := hcn 5 (by decide) (by decide)
  refine ⟨fun x x0 x1 => ?_, ?_, fun x x0 x1 => ?_, fun x y x0 x1 y0 y1 => ?_, fun x x0 x1 => ?_, ?_, fun x x0 x1 => ?_, fun x x0 x1 => ?_, fun x x0 x1 => ?_⟩
  · rw [hcn x x0 x1]
    simp (disch := omega) only [jw_up_ne, jw_up_eq, jw_u1_a]
    by_cases z : x = 6
    · rw [if_pos z, if_pos z, r0 6 (by decide) (by decide)]
    · rw [if_neg z, if_neg z, r0 x x0 x1]
  · unfold jp_tko
    rw [if_neg (by decide), if_neg (by decide), if_neg (by decide), if_neg (by decide), if_neg (by decide), if_neg (by decide)]
    refine ⟨?_, ?_, ?_, ?_, ?_⟩
    · (try simp (disch := omega) only [jw_up_ne, jw_up_eq, jw_u1_n, jw_u1_s]) <;> first | exact r1a | omega
    · (try simp (disch := omega) only [jw_up_ne, jw_up_eq, jw_u1_n, jw_u1_s]) <;> first | exact r1b | omega
    · (try simp (disch := omega) only [jw_up_ne, jw_up_eq, jw_u1_n, jw_u1_s]) <;> first | exact r1c | omega
    · (try simp (disch := omega) only [jw_up_ne, jw_up_eq, jw_u1_n, jw_u1_s]) <;> first | exact r1d | omega
    · (try simp (disch := omega) only [jw_up_ne, jw_up_eq, jw_u1_n, jw_u1_s]) <;> first | exact r1e | omega
  · rw [k0, if_neg (by decide)] at x1
    unfold jp_tko
    rw [if_neg (by decide), if_neg (by decide), if_neg (by decide), if_neg (by decide), if_neg (by decide), if_neg (by decide)]
    (try simp (disch := omega) only [jw_up_ne, jw_up_eq, jw_u1_n, jw_u1_s]) <;> exact r2 x x0 (by omega)
  · unfold jp_tko
    rw [if_neg (by decide), if_neg (by decide), if_neg (by decide), if_neg (by decide), if_neg (by decide), if_neg (by decide)]
    (try simp (disch := omega) only [jw_up_ne, jw_up_eq, jw_u1_n, jw_u1_s]) <;> exact r3 x y x0 x1 y0 y1
  · rw [k5, if_neg (by decide)] at x1
    unfold jp_tko
    rw [if_neg (by decide), if_neg (by decide), if_neg (by decide), if_neg (by decide), if_neg (by decide), if_neg (by decide)]
    have u := r4 x x0 (by omega)
    refine ⟨?_, ?_⟩ <;> (try simp (disch := omega) only [jw_up_ne, jw_up_eq, jw_u1_n, jw_u1_s]) <;> first | exact u.1 | exact u.2
  · unfold jp_tko
    rw [if_neg (by decide), if_neg (by decide), if_neg (by decide), if_neg (by decide), if_neg (by decide), if_neg (by decide)]
    refine ⟨?_, ?_, ?_⟩
    · (try simp (disch := omega) only [jw_up_ne, jw_up_eq, jw_u1_n, jw_u1_s]) <;> first | exact r5a | omega
    · (try simp (disch := omega) only [jw_up_ne, jw_up_eq, jw_u1_n, jw_u1_s]) <;> first | exact r5b | omega
    · (try simp (disch := omega) only [jw_up_ne, jw_up_eq, jw_u1_n, jw_u1_s]) <;> first | exact r5c | omega
  · rw [k2, if_neg (by decide)] at x1
    unfold jp_tko
    rw [if_neg (by decide), if_neg (by decide), if_neg (by decide), if_neg (by decide), if_neg (by decide), if_neg (by decide)]
    have u := r6 x x0 (by omega)
    refine ⟨?_, ?_, ?_⟩ <;> (try simp (disch := omega) only [jw_up_ne, jw_up_eq, jw_u1_n, jw_u1_s]) <;> first | exact u.1 | exact u.2.1 | exact u.2.2
  · rw [k3, if_neg (by decide)] at x1
    unfold jp_tko
    rw [if_neg (by decide), if_neg (by decide), if_neg (by decide), if_neg (by decide), if_neg (by decide), if_neg (by decide)]
    have u := r7 x x0 (by omega)
    refine ⟨?_, ?_⟩ <;> (try simp (disch := omega) only [jw_up_ne, jw_up_eq, jw_u1_n, jw_u1_s]) <;> first | exact u.1 | exact u.2
  · rw [k4, if_neg (by decide)] at x1
    unfold jp_tko
    rw [if_neg (by decide), if_neg (by decide), if_neg (by decide), if_neg (by decide), if_neg (by decide), if_neg (by decide)]
    (try simp (disch := omega) only [jw_up_ne, jw_up_eq, jw_u1_n, jw_u1_s]) <;> exact r8 x x0 (by omega)
