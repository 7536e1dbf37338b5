/-! reading: the class takes a statement -/
theorem jp_tko_c {D : Int → Int} (h : jp_Dk D) {w a b c : Int} (hw : 0 ≤ w ∧ w < 7) (hv : jp_vk D w a b c) : ∀ x : Int, 0 ≤ x → x < 7 → jp_tko w D a b c x = if x = w then D w + 1 else D x := by
  obtain ⟨⟨d0, d1, d2, d3, d4, d5, d6⟩, -⟩ := h
  obtain ⟨v0, v1, v2, v3, v4, v5, v6⟩ := hv
  intro x x0 x1
  unfold jp_tko
  have h1 : w = 0 ∨ w = 1 ∨ w = 2 ∨ w = 3 ∨ w = 4 ∨ w = 5 ∨ w = 6 := by omega
  rcases h1 with rfl | rfl | rfl | rfl | rfl | rfl | rfl
  · rw [if_pos rfl, jw_u1_n _ (by omega), jw_u1_a]
  · have v := v1 rfl
    rw [if_neg (by decide), if_pos rfl, jw_u1_n _ (by omega), jw_u1_n _ (by omega), jw_u1_a]
  · rw [if_neg (by decide), if_neg (by decide), if_pos rfl, jw_u1_n _ (by omega), jw_u1_n _ (by omega), jw_u1_n _ (by omega), jw_u1_a]
  · rw [if_neg (by decide), if_neg (by decide), if_neg (by decide), if_pos rfl, jw_u1_n _ (by omega), jw_u1_n _ (by omega), jw_u1_a]
  · rw [if_neg (by decide), if_neg (by decide), if_neg (by decide), if_neg (by decide), if_pos rfl, jw_u1_n _ (by omega), jw_u1_a]
  · rw [if_neg (by decide), if_neg (by decide), if_neg (by decide), if_neg (by decide), if_neg (by decide), if_pos rfl, jw_u1_n _ (by omega), jw_u1_n _ (by omega), jw_u1_a]
  · rw [if_neg (by decide), if_neg (by decide), if_neg (by decide), if_neg (by decide), if_neg (by decide), if_neg (by decide), jw_u1_n _ (by omega), jw_u1_n _ (by omega), jw_u1_n _ (by omega), jw_u1_a]
theorem gX4_take_0 {M : jw_M} {D : Int → Int} (hD : jp_Dk D) (hr : D 0 < 7) (a b c : Int) (hv : jp_vk D 0 a b c) (ha : M 7 0 = a) (hb : M 7 1 = b) (hc : M 7 2 = c) (h : jp_cR (jw_up M 8 0 (M 8 0 - 1)) D) : fX4_take 36 0 M = some (jw_up (jw_up M 38 (D 0) a) 37 0 (D 0 + 1)) := by
  obtain ⟨⟨d0, d1, d2, d3, d4, d5, d6⟩, -⟩ := hD
  have v := hv.1 rfl
  obtain ⟨r0, r1, r2, r3, r4, r5, r6, r7, r8⟩ := h
  simp (disch := omega) only [jw_up_ne] at r1 r2 r3 r4 r5 r6 r7 r8
  have g0 : M (36 + 1) 0 = D 0 := r1.1
  have g1 : ∀ (i v : Int), jw_up M (36 + 1 + 1) i v (36 + 1) 0 = D 0 := fun i v => by rw [jw_up_ne _ (by decide)]; exact r1.1
  unfold fX4_take fX9_addCorner
  rw [if_pos (by decide), if_pos rfl, if_pos (by decide), if_pos (by decide), g0, if_pos (by omega), jp_bs, jp_bs, g1, jw_ws (by omega), jp_bs, ha]
theorem bX4_take_0 {M : jw_M} {D : Int → Int} (hD : jp_Dk D) (hr : D 0 < 7) (a b c : Int) (hv : jp_vk D 0 a b c) (ha : M 7 0 = a) (hb : M 7 1 = b) (hc : M 7 2 = c) (h : jp_cR (jw_up M 8 0 (M 8 0 - 1)) D) {be : Type} (kk : _ → Option be) : Option.bind (fX4_take 36 0 M) kk = kk ((jw_up (jw_up M 38 (D 0) a) 37 0 (D 0 + 1))) := by rw [show fX4_take 36 0 M = some (jw_up (jw_up M 38 (D 0) a) 37 0 (D 0 + 1)) from gX4_take_0 hD hr a b c hv ha hb hc h]; rfl
theorem gX4_take_1 {M : jw_M} {D : Int → Int} (hD : jp_Dk D) (hr : D 1 < 16) (a b c : Int) (hv : jp_vk D 1 a b c) (ha : M 7 0 = a) (hb : M 7 1 = b) (hc : M 7 2 = c) (h : jp_cR (jw_up M 8 1 (M 8 1 - 1)) D) : fX4_take 36 1 M = some (jw_up (jw_up M 39 (7 * a + b) (jp_isq D a b c)) 39 (7 * b + a) (jp_isq D a b c)) := by
  obtain ⟨⟨d0, d1, d2, d3, d4, d5, d6⟩, -⟩ := hD
  have v := hv.2.1 rfl
  obtain ⟨r0, r1, r2, r3, r4, r5, r6, r7, r8⟩ := h
  simp (disch := omega) only [jw_up_ne] at r1 r2 r3 r4 r5 r6 r7 r8
  have hst : fX9_streetTo (36 + 1) a b M = some (D (14 + 7 * a + b)) := by
    unfold fX9_streetTo
    rw [if_pos (by decide), jw_ws (x := a * 7) (by omega), jw_ws (x := a * 7 + b) (by omega), if_pos (by omega), show a * 7 + b = 7 * a + b by omega]
    show some (M 39 (7 * a + b)) = _
    rw [r3 a b (by omega) (by omega) (by omega) (by omega)]
  have h23 : ∀ v : Int, fX9_addStreet_23 (36 + 1) a b v M = some (jw_up (jw_up M 39 (7 * a + b) v) 39 (7 * b + a) v) := by
    intro v
    unfold fX9_addStreet_23
    rw [jp_bs, jw_ws (x := a * 7) (by omega), jw_ws (x := a * 7 + b) (by omega), if_pos (by omega), jp_bs, jw_ws (x := b * 7) (by omega), jw_ws (x := b * 7 + a) (by omega), if_pos (by omega), jp_bs, show a * 7 + b = 7 * a + b by omega, show b * 7 + a = 7 * b + a by omega]
  unfold fX4_take fX9_addStreet
  rw [if_pos (by decide), if_neg (by decide), if_pos rfl, if_pos (by decide), if_pos (by decide), if_pos (by decide), if_pos (by decide), ha, hb, hc, hst, jp_bs, jp_bs]
  have hq : (if D (14 + 7 * a + b) = 0 then fX9_addStreet_23 (36 + 1) a b c M else fX9_addStreet_23 (36 + 1) a b (jw_min (D (14 + 7 * a + b)) c) M) = some (jw_up (jw_up M 39 (7 * a + b) (jp_isq D a b c)) 39 (7 * b + a) (jp_isq D a b c)) := by
    unfold jp_isq
    by_cases e : D (14 + 7 * a + b) = 0
    · rw [if_pos e, h23, if_pos (Or.inl e)]
    · rw [if_neg e, h23, jp_min]
      by_cases e2 : c < D (14 + 7 * a + b)
      · rw [if_pos e2, if_pos (Or.inr e2)]
      · rw [if_neg e2, if_neg (fun w => w.elim e e2)]
  rw [hq, jp_bs]
theorem bX4_take_1 {M : jw_M} {D : Int → Int} (hD : jp_Dk D) (hr : D 1 < 16) (a b c : Int) (hv : jp_vk D 1 a b c) (ha : M 7 0 = a) (hb : M 7 1 = b) (hc : M 7 2 = c) (h : jp_cR (jw_up M 8 1 (M 8 1 - 1)) D) {be : Type} (kk : _ → Option be) : Option.bind (fX4_take 36 1 M) kk = kk ((jw_up (jw_up M 39 (7 * a + b) (jp_isq D a b c)) 39 (7 * b + a) (jp_isq D a b c))) := by rw [show fX4_take 36 1 M = some (jw_up (jw_up M 39 (7 * a + b) (jp_isq D a b c)) 39 (7 * b + a) (jp_isq D a b c)) from gX4_take_1 hD hr a b c hv ha hb hc h]; rfl
theorem gX4_take_2 {M : jw_M} {D : Int → Int} (hD : jp_Dk D) (hr : D 2 < 4) (a b c : Int) (hv : jp_vk D 2 a b c) (ha : M 7 0 = a) (hb : M 7 1 = b) (hc : M 7 2 = c) (h : jp_cR (jw_up M 8 2 (M 8 2 - 1)) D) : fX4_take 36 2 M = some (jw_up (jw_up (jw_up (jw_up M 45 (D 2) a) 46 (D 2) b) 47 (D 2) c) 44 0 (D 2 + 1)) := by
  obtain ⟨⟨d0, d1, d2, d3, d4, d5, d6⟩, -⟩ := hD
  have v := hv.2.2.1 rfl
  obtain ⟨r0, r1, r2, r3, r4, r5, r6, r7, r8⟩ := h
  simp (disch := omega) only [jw_up_ne] at r1 r2 r3 r4 r5 r6 r7 r8
  have g0 : M (36 + 8) 0 = D 2 := r5.1
  have g1 : ∀ (i v : Int), jw_up M (36 + 8 + 1) i v (36 + 8) 0 = D 2 := fun i v => by rw [jw_up_ne _ (by decide)]; exact r5.1
  have g2 : ∀ (i v i2 v2 : Int), jw_up (jw_up M (36 + 8 + 1) i v) (36 + 8 + 2) i2 v2 (36 + 8) 0 = D 2 := fun i v i2 v2 => by rw [jw_up_ne _ (by decide)]; exact g1 i v
  have g3 : ∀ (i v i2 v2 i3 v3 : Int), jw_up (jw_up (jw_up M (36 + 8 + 1) i v) (36 + 8 + 2) i2 v2) (36 + 8 + 3) i3 v3 (36 + 8) 0 = D 2 := fun i v i2 v2 i3 v3 => by rw [jw_up_ne _ (by decide)]; exact g2 i v i2 v2
  unfold fX4_take fX10_addGoods
  rw [if_pos (by decide), if_neg (by decide), if_neg (by decide), if_pos rfl, if_pos (by decide), if_pos (by decide), if_pos (by decide), if_pos (by decide), g0, if_pos (by omega), jp_bs, g1, if_pos (by omega), jp_bs, g2, if_pos (by omega), jp_bs, jp_bs, g3, jw_ws (by omega), jp_bs, ha, hb, hc]
theorem bX4_take_2 {M : jw_M} {D : Int → Int} (hD : jp_Dk D) (hr : D 2 < 4) (a b c : Int) (hv : jp_vk D 2 a b c) (ha : M 7 0 = a) (hb : M 7 1 = b) (hc : M 7 2 = c) (h : jp_cR (jw_up M 8 2 (M 8 2 - 1)) D) {be : Type} (kk : _ → Option be) : Option.bind (fX4_take 36 2 M) kk = kk ((jw_up (jw_up (jw_up (jw_up M 45 (D 2) a) 46 (D 2) b) 47 (D 2) c) 44 0 (D 2 + 1))) := by rw [show fX4_take 36 2 M = some (jw_up (jw_up (jw_up (jw_up M 45 (D 2) a) 46 (D 2) b) 47 (D 2) c) 44 0 (D 2 + 1)) from gX4_take_2 hD hr a b c hv ha hb hc h]; rfl
theorem gX4_take_3 {M : jw_M} {D : Int → Int} (hD : jp_Dk D) (hr : D 3 < 5) (a b c : Int) (hv : jp_vk D 3 a b c) (ha : M 7 0 = a) (hb : M 7 1 = b) (hc : M 7 2 = c) (h : jp_cR (jw_up M 8 3 (M 8 3 - 1)) D) : fX4_take 36 3 M = some (jw_up (jw_up (jw_up M 48 (D 3) a) 49 (D 3) b) 44 4 (D 3 + 1)) := by
  obtain ⟨⟨d0, d1, d2, d3, d4, d5, d6⟩, -⟩ := hD
  have v := hv.2.2.2.1 rfl
  obtain ⟨r0, r1, r2, r3, r4, r5, r6, r7, r8⟩ := h
  simp (disch := omega) only [jw_up_ne] at r1 r2 r3 r4 r5 r6 r7 r8
  have g0 : M (36 + 8) 4 = D 3 := r5.2.1
  have g1 : ∀ (i v : Int), jw_up M (36 + 8 + 4) i v (36 + 8) 4 = D 3 := fun i v => by rw [jw_up_ne _ (by decide)]; exact r5.2.1
  have g2 : ∀ (i v i2 v2 : Int), jw_up (jw_up M (36 + 8 + 4) i v) (36 + 8 + 5) i2 v2 (36 + 8) 4 = D 3 := fun i v i2 v2 => by rw [jw_up_ne _ (by decide)]; exact g1 i v
  unfold fX4_take fX10_addSeller
  rw [if_pos (by decide), if_neg (by decide), if_neg (by decide), if_neg (by decide), if_pos rfl, if_pos (by decide), if_pos (by decide), if_pos (by decide), g0, if_pos (by omega), jp_bs, g1, if_pos (by omega), jp_bs, jp_bs, g2, jw_ws (by omega), jp_bs, ha, hb]
theorem bX4_take_3 {M : jw_M} {D : Int → Int} (hD : jp_Dk D) (hr : D 3 < 5) (a b c : Int) (hv : jp_vk D 3 a b c) (ha : M 7 0 = a) (hb : M 7 1 = b) (hc : M 7 2 = c) (h : jp_cR (jw_up M 8 3 (M 8 3 - 1)) D) {be : Type} (kk : _ → Option be) : Option.bind (fX4_take 36 3 M) kk = kk ((jw_up (jw_up (jw_up M 48 (D 3) a) 49 (D 3) b) 44 4 (D 3 + 1))) := by rw [show fX4_take 36 3 M = some (jw_up (jw_up (jw_up M 48 (D 3) a) 49 (D 3) b) 44 4 (D 3 + 1)) from gX4_take_3 hD hr a b c hv ha hb hc h]; rfl
theorem gX4_take_4 {M : jw_M} {D : Int → Int} (hD : jp_Dk D) (hr : D 4 < 4) (a b c : Int) (hv : jp_vk D 4 a b c) (ha : M 7 0 = a) (hb : M 7 1 = b) (hc : M 7 2 = c) (h : jp_cR (jw_up M 8 4 (M 8 4 - 1)) D) : fX4_take 36 4 M = some (jw_up (jw_up M 50 (D 4) a) 44 7 (D 4 + 1)) := by
  obtain ⟨⟨d0, d1, d2, d3, d4, d5, d6⟩, -⟩ := hD
  have v := hv.2.2.2.2.1 rfl
  obtain ⟨r0, r1, r2, r3, r4, r5, r6, r7, r8⟩ := h
  simp (disch := omega) only [jw_up_ne] at r1 r2 r3 r4 r5 r6 r7 r8
  have g0 : M (36 + 8) 7 = D 4 := r5.2.2
  have g1 : ∀ (i v : Int), jw_up M (36 + 8 + 6) i v (36 + 8) 7 = D 4 := fun i v => by rw [jw_up_ne _ (by decide)]; exact r5.2.2
  unfold fX4_take fX10_addWatcher
  rw [if_pos (by decide), if_neg (by decide), if_neg (by decide), if_neg (by decide), if_neg (by decide), if_pos rfl, if_pos (by decide), if_pos (by decide), g0, if_pos (by omega), jp_bs, jp_bs, g1, jw_ws (by omega), jp_bs, ha]
theorem bX4_take_4 {M : jw_M} {D : Int → Int} (hD : jp_Dk D) (hr : D 4 < 4) (a b c : Int) (hv : jp_vk D 4 a b c) (ha : M 7 0 = a) (hb : M 7 1 = b) (hc : M 7 2 = c) (h : jp_cR (jw_up M 8 4 (M 8 4 - 1)) D) {be : Type} (kk : _ → Option be) : Option.bind (fX4_take 36 4 M) kk = kk ((jw_up (jw_up M 50 (D 4) a) 44 7 (D 4 + 1))) := by rw [show fX4_take 36 4 M = some (jw_up (jw_up M 50 (D 4) a) 44 7 (D 4 + 1)) from gX4_take_4 hD hr a b c hv ha hb hc h]; rfl
theorem gX4_take_5 {M : jw_M} {D : Int → Int} (hD : jp_Dk D) (hr : D 5 < 6) (a b c : Int) (hv : jp_vk D 5 a b c) (ha : M 7 0 = a) (hb : M 7 1 = b) (hc : M 7 2 = c) (h : jp_cR (jw_up M 8 5 (M 8 5 - 1)) D) : fX4_take 36 5 M = some (jw_up (jw_up (jw_up M 42 (D 5) a) 43 (D 5) b) 37 5 (D 5 + 1)) := by
  obtain ⟨⟨d0, d1, d2, d3, d4, d5, d6⟩, -⟩ := hD
  have v := hv.2.2.2.2.2.1 rfl
  obtain ⟨r0, r1, r2, r3, r4, r5, r6, r7, r8⟩ := h
  simp (disch := omega) only [jw_up_ne] at r1 r2 r3 r4 r5 r6 r7 r8
  have g0 : M (36 + 1) 5 = D 5 := r1.2.1
  have g1 : ∀ (i v : Int), jw_up M (36 + 1 + 5) i v (36 + 1) 5 = D 5 := fun i v => by rw [jw_up_ne _ (by decide)]; exact r1.2.1
  have g2 : ∀ (i v i2 v2 : Int), jw_up (jw_up M (36 + 1 + 5) i v) (36 + 1 + 6) i2 v2 (36 + 1) 5 = D 5 := fun i v i2 v2 => by rw [jw_up_ne _ (by decide)]; exact g1 i v
  unfold fX4_take fX9_addCellar
  rw [if_pos (by decide), if_neg (by decide), if_neg (by decide), if_neg (by decide), if_neg (by decide), if_neg (by decide), if_pos rfl, if_pos (by decide), if_pos (by decide), if_pos (by decide), g0, if_pos (by omega), jp_bs, g1, if_pos (by omega), jp_bs, jp_bs, g2, jw_ws (by omega), jp_bs, ha, hb]
theorem bX4_take_5 {M : jw_M} {D : Int → Int} (hD : jp_Dk D) (hr : D 5 < 6) (a b c : Int) (hv : jp_vk D 5 a b c) (ha : M 7 0 = a) (hb : M 7 1 = b) (hc : M 7 2 = c) (h : jp_cR (jw_up M 8 5 (M 8 5 - 1)) D) {be : Type} (kk : _ → Option be) : Option.bind (fX4_take 36 5 M) kk = kk ((jw_up (jw_up (jw_up M 42 (D 5) a) 43 (D 5) b) 37 5 (D 5 + 1))) := by rw [show fX4_take 36 5 M = some (jw_up (jw_up (jw_up M 42 (D 5) a) 43 (D 5) b) 37 5 (D 5 + 1)) from gX4_take_5 hD hr a b c hv ha hb hc h]; rfl
theorem gX4_take_6 {M : jw_M} {D : Int → Int} (hD : jp_Dk D) (hr : D 6 < 1) (a b c : Int) (hv : jp_vk D 6 a b c) (ha : M 7 0 = a) (hb : M 7 1 = b) (hc : M 7 2 = c) (h : jp_cR (jw_up M 8 6 (M 8 6 - 1)) D) : fX4_take 36 6 M = some (jw_up (jw_up (jw_up M 37 8 a) 37 9 b) 37 10 c) := by
  obtain ⟨⟨d0, d1, d2, d3, d4, d5, d6⟩, -⟩ := hD
  have v := hv.2.2.2.2.2.2 rfl
  obtain ⟨r0, r1, r2, r3, r4, r5, r6, r7, r8⟩ := h
  simp (disch := omega) only [jw_up_ne] at r1 r2 r3 r4 r5 r6 r7 r8
  unfold fX4_take
  rw [if_pos (by decide), if_neg (by decide), if_neg (by decide), if_neg (by decide), if_neg (by decide), if_neg (by decide), if_neg (by decide), if_pos (by decide), if_pos (by decide), if_pos (by decide), gX9_setLaw (36 + 1) (by decide), jp_bs, ha, hb, hc]
theorem bX4_take_6 {M : jw_M} {D : Int → Int} (hD : jp_Dk D) (hr : D 6 < 1) (a b c : Int) (hv : jp_vk D 6 a b c) (ha : M 7 0 = a) (hb : M 7 1 = b) (hc : M 7 2 = c) (h : jp_cR (jw_up M 8 6 (M 8 6 - 1)) D) {be : Type} (kk : _ → Option be) : Option.bind (fX4_take 36 6 M) kk = kk ((jw_up (jw_up (jw_up M 37 8 a) 37 9 b) 37 10 c)) := by rw [show fX4_take 36 6 M = some (jw_up (jw_up (jw_up M 37 8 a) 37 9 b) 37 10 c) from gX4_take_6 hD hr a b c hv ha hb hc h]; rfl
