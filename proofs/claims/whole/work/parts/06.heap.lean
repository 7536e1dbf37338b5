/-! the heap: places of the world's list, updates -/
theorem jw_wl_at (G : jw_G) (w : Bool) (M : jw_M) {o : Nat} (ho : o < jw_n w M) : (jw_wl G w M)[o]? = some (jw_gz G + o, jw_ce (jw_gz G) (jw_ga G) w (M o) o) := by
  unfold jw_wl
  rw [List.getElem?_map, List.getElem?_range ho]
  rfl
theorem jw_ce_obj {z : Nat} {ca : Nat → ClassId} {w : Bool} {g : Int → Int} {o c n : Nat} (ht : jw_tag o = c) (hn : jw_len o = n) (hc : c < 20) : jw_ce z ca w g o = .inr (c, (List.range n).map (fun j => jw_fv z w o j (g j))) := by
  unfold jw_ce
  rw [ht, hn, if_pos hc]
theorem jw_ce_arr {z : Nat} {ca : Nat → ClassId} {w : Bool} {g : Int → Int} {o c n : Nat} (ht : jw_tag o = c) (hn : jw_len o = n) (hc : 20 ≤ c) (h3 : c ≠ 23) : jw_ce z ca w g o = .inl (ca c, n, .inl (fun j => Int32.ofInt (g j))) := by
  unfold jw_ce
  rw [ht, hn, if_neg (by omega), if_neg h3]
theorem jw_n_up {w : Bool} {M : jw_M} {o : Nat} {i x : Int} (h : o < 148) : jw_n w (jw_up M o i x) = jw_n w M := by
  unfold jw_n jw_up
  cases w
  · simp only [Bool.false_eq_true, if_false]
    rw [if_neg (by omega)]
  · rfl
theorem jw_lay_lt {o c : Nat} (ht : jw_tag o = c) (h9 : c ≠ 99) : o < 148 := by
  rcases Nat.lt_or_ge o 148 with h | h
  · exact h
  · exfalso
    apply h9
    rw [← ht]
    unfold jw_tag
    rw [List.getD_eq_getElem?_getD, List.getElem?_eq_none (by exact h)]
    rfl
theorem jw_ho {M : jw_M} {o c : Nat} (ht : jw_tag o = c) (h9 : c ≠ 99) : o < jw_n true M := jw_lay_lt ht h9
/-- one cell of the world is written -/
theorem jw_wl_up (G : jw_G) (w : Bool) (M : jw_M) {o : Nat} {i x : Int} {E : va_E} (ho : o < jw_n w M) (h8 : o < 148) (hE : jw_ce (jw_gz G) (jw_ga G) w (jw_up M o i x o) o = E) : (jw_wl G w M).set o (jw_gz G + o, E) = jw_wl G w (jw_up M o i x) := by
  apply List.ext_getElem?
  intro k
  rw [List.getElem?_set]
  have hl : (jw_wl G w M).length = jw_n w M := by unfold jw_wl; simp
  by_cases hk : o = k
  · subst hk
    rw [if_pos rfl, if_pos (by rw [hl]; exact ho), jw_wl_at G w (jw_up M o i x) (by rw [jw_n_up h8]; exact ho), hE]
  · rw [if_neg hk]
    rcases Nat.lt_or_ge k (jw_n w M) with h | h
    · rw [jw_wl_at G w M h, jw_wl_at G w (jw_up M o i x) (by rw [jw_n_up h8]; exact h)]
      have e : jw_up M o i x k = M k := by
        funext j
        unfold jw_up
        rw [if_neg (fun z => hk z.1.symm)]
      rw [e]
    · rw [List.getElem?_eq_none (by rw [hl]; exact h), List.getElem?_eq_none (by unfold jw_wl; simp [jw_n_up h8]; exact h)]
theorem jw_Rg_up {M : jw_M} {o : Nat} {i x : Int} (h : jw_Rg M) (hx : jw_rg (jw_st o i.toNat) x) : jw_Rg (jw_up M o i x) := by
  intro k j
  unfold jw_up
  by_cases hk : k = o ∧ j = i
  · rw [if_pos hk, hk.1, hk.2]; exact hx
  · rw [if_neg hk]; exact h k j
theorem jw_up_s (M : jw_M) (o : Nat) (i x : Int) : jw_up M o i x o i = x := by unfold jw_up; rw [if_pos ⟨rfl, rfl⟩]
theorem jw_up_n (M : jw_M) {o : Nat} {i j x : Int} (h : j ≠ i) : jw_up M o i x o j = M o j := by unfold jw_up; rw [if_neg (fun z => h z.2)]
theorem jw_fs_at {z : Nat} {w : Bool} {g : Int → Int} {o n j : Nat} (hj : j < n) : ((List.range n).map (fun j => jw_fv z w o j (g j)))[j]? = some (jw_fv z w o j (g j)) := by
  rw [List.getElem?_map, List.getElem?_range hj]; rfl
theorem jw_fs_up {z : Nat} {w : Bool} {M : jw_M} {o n j : Nat} {x : Int} {v : Value} (hj : j < n) (hv : jw_fv z w o j x = v) : ((List.range n).map (fun j => jw_fv z w o j (M o j))).set j v = (List.range n).map (fun k => jw_fv z w o k (jw_up M o (j : Int) x o k)) := by
  apply List.ext_getElem?
  intro k
  rw [List.getElem?_set]
  by_cases hk : j = k
  · subst hk
    rw [if_pos rfl, if_pos (by simpa using hj), List.getElem?_map, List.getElem?_range hj]
    simp only [Option.map_some, jw_up_s, hv]
  · rw [if_neg hk]
    rcases Nat.lt_or_ge k n with h | h
    · rw [List.getElem?_map, List.getElem?_map, List.getElem?_range h]
      simp only [Option.map_some]
      rw [jw_up_n M (by omega)]
    · rw [List.getElem?_eq_none (by simpa using h), List.getElem?_eq_none (by simpa using h)]
theorem jw_S1 {A : Nat → Prop} {H0 H : Heap} {locs : List Loc} (h : va_S A H0 H locs) : va_S A H H locs := ⟨Nat.le_refl _, fun _ _ _ => rfl, h.2.2⟩
theorem jw_S2 {A : Nat → Prop} {H0 H H1 : Heap} {locs locs1 : List Loc} (h : va_S A H0 H locs) (h1 : va_S A H H1 locs1) : va_S A H0 H1 locs1 :=
  ⟨Nat.le_trans h.1 h1.1, fun q hq hA => by rw [h1.2.1 q (Nat.lt_of_lt_of_le hq h.1) hA]; exact h.2.1 q hq hA, h1.2.2⟩
theorem jw_Wd_up {G : jw_G} {w : Bool} {M : jw_M} {s : State} {H H1 : Heap} {locs locs1 : List Loc} {cells o : Nat} {i x : Int} (P : jw_Wd G w M s H locs cells) (h8 : o < 148) (q1 : va_P (jw_gD G) vwCl (jw_wl G w (jw_up M o i x)) H1) (q2 : va_D (jw_A G) (jw_wl G w (jw_up M o i x))) (q3 : va_S (jw_A G) H H1 locs1) : jw_Wd G w (jw_up M o i x) s H1 locs1 cells := by
  refine ⟨q1, q2, jw_S2 P.2.2.1 q3, fun hw => ?_⟩
  rw [jw_n_up h8]
  exact ⟨Nat.le_trans (P.2.2.2 hw).1 q3.1, (P.2.2.2 hw).2⟩
section
variable {G : jw_G} {Y : jw_Y} {h kc ks : Nat} {w : Bool} {pc : Nat} {lv : List (Nat × Value)} {st : List Value} {M : jw_M} {α : Type} {lf : α → Int × jw_M} {res : Option α}
/-- a write -/
theorem jw_wrt {pc' : Nat} {st' : List Value} {o : Nat} {i x : Int} (h8 : o < 148) (hx : jw_rg (jw_st o i.toNat) x)
    (hk : ∀ (p : Program) (e : Env) (s : State) (m : MethodId) (args : Array Value) (below : List Frame) (meth : Method) (c : Code) (R : Room) (Q : State → Prop) (cells slots : Nat) (H : Heap) (locs : List Loc) (ls : Array Slot), jw_C G Y h kc ks p s m args meth c R cells slots → jw_Wd G w M s H locs cells → lv_has ls (jw_yn Y) lv → (∀ (H1 : Heap) (locs1 : List Loc), jw_Wd G w (jw_up M o i x) s H1 locs1 cells → W p (jw_gl G) e R s m args below meth c H1 locs1 cells slots Q (F0 m pc' ls st')) → W p (jw_gl G) e R s m args below meth c H locs cells slots Q (F0 m pc ls st))
    (k : jw_Rn G Y h kc ks w lf pc' lv st' (jw_up M o i x) res) : jw_Rn G Y h kc ks w lf pc lv st M res := by
  intro hg y hr
  obtain ⟨h1, h2⟩ := k (jw_Rg_up hg hx) y hr
  exact ⟨⟨h1.1, h1.2.1, fun hw => by rw [h1.2.2 hw, jw_n_up h8]⟩, fun p e s m args below meth c R Q cells slots H locs ls C P hh F => hk p e s m args below meth c R Q cells slots H locs ls C P hh (fun H1 locs1 P1 => h2 p e s m args below meth c R Q cells slots H1 locs1 ls C P1 hh F)⟩
theorem jw_getV {own : String} {Cn : String} {T : u_T} {N c o j index : Nat} (hown : jw_yo Y = own) (hd : decode (jw_yc Y) pc = .ok (.getfield index, 3)) (hc : vwCl[c]? = some (Cn, T, N)) (hin : ∀ w ∈ u_ws Cn T N, w ∈ jw_tbl) (hlink : Cond.fieldLink own index (T j).1 (T j).2.1 (T j).2.2.1 ∈ jw_tbl ∨ ∃ hs, Cond.fieldLinkNest own index (T j).1 (T j).2.1 (T j).2.2.1 hs ∈ jw_tbl) (ht : jw_tag o = c) (hn : jw_len o = N) (hc2 : c < 20) (hj : j < N) (ho : o < jw_n w M)
    (k : jw_Rn G Y h kc ks w lf (pc + 3) lv (jw_fv (jw_gz G) w o j (M o j) :: st) M res) : jw_Rn G Y h kc ks w lf pc lv (jR G o :: st) M res := by
  subst hown
  refine jw_step (fun p e s m args below meth c' R Q cells slots H locs ls C P _ k => ?_) k
  have hat := jw_wl_at G w M ho
  rw [jw_ce_obj ht hn hc2] at hat
  rcases hlink with hl | ⟨hs, hl⟩
  · exact va_get C.1 C.2.1 C.2.2.2.2.2.1 hin C.2.2.2.1 C.2.2.2.2.2.2.1 P.1 o hat hc j hj (C.2.2.2.2.2.1 _ hl) (fun _ z => z) (jw_fs_at hj) hd k
  · exact va_getN C.1 C.2.1 C.2.2.2.2.2.1 hin C.2.2.2.1 C.2.2.2.2.2.2.1 P.1 o hat hc j hj (C.2.2.2.2.2.1 _ hl) (fun _ z => z) (jw_fs_at hj) hd k
theorem jw_putV {own : String} {Cn : String} {T : u_T} {N c o j index : Nat} {x : Int} {v : Value} (ty0 : Nat → FieldType) (hown : jw_yo Y = own) (hd : decode (jw_yc Y) pc = .ok (.putfield index, 3)) (hc : vwCl[c]? = some (Cn, T, N)) (hin : ∀ w ∈ u_ws Cn T N, w ∈ jw_tbl) (hty : ∀ k, k < N → parseFieldDescriptor (T k).2.2.1 = some (ty0 k)) (hnm : ∀ a, a < N → ∀ b, b < N → a ≠ b → (T a).2.1 ≠ (T b).2.1) (hlink : Cond.fieldLink own index (T j).1 (T j).2.1 (T j).2.2.1 ∈ jw_tbl ∨ ∃ hs, Cond.fieldLinkNest own index (T j).1 (T j).2.1 (T j).2.2.1 hs ∈ jw_tbl) (hfin : (T j).2.2.2 = false) (ht : jw_tag o = c) (hn : jw_len o = N) (hc2 : c < 20) (hj : j < N) (ho : o < jw_n w M)
    (hx : jw_rg (jw_st o j) x) (hv : jw_fv (jw_gz G) w o j x = v) (hna : narrow (ty0 j) v = v) (hfi : fits (ty0 j) v = true)
    (k : jw_Rn G Y h kc ks w lf (pc + 3) lv st (jw_up M o (j : Int) x) res) : jw_Rn G Y h kc ks w lf pc lv (v :: jR G o :: st) M res := by
  subst hown
  have h8 : o < 148 := jw_lay_lt ht (by omega)
  refine jw_wrt (o := o) (i := (j : Int)) (x := x) h8 hx (fun p e s m args below meth c' R Q cells slots H locs ls C P _ k => ?_) k
  have hat := jw_wl_at G w M ho
  rw [jw_ce_obj ht hn hc2] at hat
  have hE : (jw_wl G w M).set o (jw_gz G + o, .inr (c, ((List.range N).map (fun j => jw_fv (jw_gz G) w o j (M o j))).set j v)) = jw_wl G w (jw_up M o (j : Int) x) := by
    refine jw_wl_up G w M ho h8 ?_
    rw [jw_ce_obj ht hn hc2, jw_fs_up hj hv]
  have key : ∀ (H1 : Heap) (locs1 : List Loc), va_P (jw_gD G) vwCl ((jw_wl G w M).set o (jw_gz G + o, .inr (c, ((List.range N).map (fun j => jw_fv (jw_gz G) w o j (M o j))).set j v))) H1 → va_D (jw_A G) ((jw_wl G w M).set o (jw_gz G + o, .inr (c, ((List.range N).map (fun j => jw_fv (jw_gz G) w o j (M o j))).set j v))) → va_S (jw_A G) H H1 locs1 → W p (jw_gl G) e R s m args below meth c' H1 locs1 cells slots Q (F0 m (pc + 3) ls st) := by
    intro H1 locs1 q1 q2 q3
    rw [hE] at q1 q2
    exact k H1 locs1 (jw_Wd_up P h8 q1 q2 q3)
  rcases hlink with hl | ⟨hs, hl⟩
  · exact va_put C.1 C.2.1 C.2.2.2.2.2.1 hin ty0 hty hnm C.2.2.2.1 C.2.2.2.2.2.2.1 P.1 P.2.1 (jw_S1 P.2.2.1) o hat hc j hj (C.2.2.2.2.2.1 _ hl) (fun _ z => z) hfin (hty j hj) hna hfi (by simpa using hj) hd key
  · exact va_putN C.1 C.2.1 C.2.2.2.2.2.1 hin ty0 hty hnm C.2.2.2.1 C.2.2.2.2.2.2.1 P.1 P.2.1 (jw_S1 P.2.2.1) o hat hc j hj (C.2.2.2.2.2.1 _ hl) (fun _ z => z) hfin (hty j hj) hna hfi (by simpa using hj) hd key
/-- a final field, in its constructor -/
theorem jw_putF {own : String} {Cn : String} {T : u_T} {N c o j index : Nat} {x : Int} {v : Value} (ty0 : Nat → FieldType) (hown : jw_yo Y = own) (hd : decode (jw_yc Y) pc = .ok (.putfield index, 3)) (hc : vwCl[c]? = some (Cn, T, N)) (hin : ∀ w ∈ u_ws Cn T N, w ∈ jw_tbl) (hty : ∀ k, k < N → parseFieldDescriptor (T k).2.2.1 = some (ty0 k)) (hnm : ∀ a, a < N → ∀ b, b < N → a ≠ b → (T a).2.1 ≠ (T b).2.1) (hlink : Cond.fieldLink own index (T j).1 (T j).2.1 (T j).2.2.1 ∈ jw_tbl) (hfin : (T j).2.2.2 = true) (hin2 : jw_ym Y = "<init>") (hdecl : (T j).1 = own) (ht : jw_tag o = c) (hn : jw_len o = N) (hc2 : c < 20) (hj : j < N) (ho : o < jw_n w M)
    (hx : jw_rg (jw_st o j) x) (hv : jw_fv (jw_gz G) w o j x = v) (hna : narrow (ty0 j) v = v) (hfi : fits (ty0 j) v = true)
    (k : jw_Rn G Y h kc ks w lf (pc + 3) lv st (jw_up M o (j : Int) x) res) : jw_Rn G Y h kc ks w lf pc lv (v :: jR G o :: st) M res := by
  subst hown
  have h8 : o < 148 := jw_lay_lt ht (by omega)
  refine jw_wrt (o := o) (i := (j : Int)) (x := x) h8 hx (fun p e s m args below meth c' R Q cells slots H locs ls C P _ k => ?_) k
  have hat := jw_wl_at G w M ho
  rw [jw_ce_obj ht hn hc2] at hat
  have hE : (jw_wl G w M).set o (jw_gz G + o, .inr (c, ((List.range N).map (fun j => jw_fv (jw_gz G) w o j (M o j))).set j v)) = jw_wl G w (jw_up M o (j : Int) x) := by
    refine jw_wl_up G w M ho h8 ?_
    rw [jw_ce_obj ht hn hc2, jw_fs_up hj hv]
  refine va_putF C.1 C.2.1 C.2.2.2.2.2.1 hin ty0 hty hnm C.2.2.2.1 C.2.2.2.2.2.2.1 P.1 P.2.1 (jw_S1 P.2.2.1) o hat hc j hj (C.2.2.2.2.2.1 _ hlink) (fun _ z => z) hfin (C.2.2.2.2.1.trans hin2) hdecl (hty j hj) hna hfi (by simpa using hj) hd (fun H1 locs1 q1 q2 q3 => ?_)
  rw [hE] at q1 q2
  exact k H1 locs1 (jw_Wd_up P h8 q1 q2 q3)
theorem jw_getI {own : String} {Cn : String} {T : u_T} {N c o j index : Nat} {i : Int} (hown : jw_yo Y = own) (hd : decode (jw_yc Y) pc = .ok (.getfield index, 3)) (hc : vwCl[c]? = some (Cn, T, N)) (hin : ∀ w ∈ u_ws Cn T N, w ∈ jw_tbl) (hlink : Cond.fieldLink own index (T j).1 (T j).2.1 (T j).2.2.1 ∈ jw_tbl ∨ ∃ hs, Cond.fieldLinkNest own index (T j).1 (T j).2.1 (T j).2.2.1 hs ∈ jw_tbl) (ht : jw_tag o = c) (hn : jw_len o = N) (hc2 : c < 20) (hj : j < N) (ho : o < jw_n w M) (hs : (jw_fts.getD c []).getD j 9 = 0 ∨ (jw_fts.getD c []).getD j 9 = 3) (hi : (j : Int) = i)
    (k : jw_r (M o i) → jw_Rn G Y h kc ks w lf (pc + 3) lv (jI (M o i) :: st) M res) : jw_Rn G Y h kc ks w lf pc lv (jR G o :: st) M res := by
  subst hi
  have e : jw_st o j = (jw_fts.getD c []).getD j 9 := by unfold jw_st; rw [ht, if_pos hc2]
  refine jw_rgd (fun hg => jw_getV hown hd hc hin hlink ht hn hc2 hj ho ?_)
  have hr : jw_r (M o (j : Int)) := by
    have := hg o (j : Int)
    rw [show ((j : Int)).toNat = j from rfl, e] at this
    rcases hs with hs | hs
    · rw [hs] at this; exact this
    · rw [hs] at this
      unfold jw_rg at this
      simp only [Nat.reduceEqDiff, if_false, if_true] at this
      unfold jw_r; omega
  have e2 : jw_fv (jw_gz G) w o j (M o j) = jI (M o j) := by
    unfold jw_fv
    rcases hs with hs | hs <;> rw [e, hs] <;> rfl
  rw [e2]
  exact k hr
theorem jw_getL {own : String} {Cn : String} {T : u_T} {N c o j index : Nat} {i : Int} (hown : jw_yo Y = own) (hd : decode (jw_yc Y) pc = .ok (.getfield index, 3)) (hc : vwCl[c]? = some (Cn, T, N)) (hin : ∀ w ∈ u_ws Cn T N, w ∈ jw_tbl) (hlink : Cond.fieldLink own index (T j).1 (T j).2.1 (T j).2.2.1 ∈ jw_tbl ∨ ∃ hs, Cond.fieldLinkNest own index (T j).1 (T j).2.1 (T j).2.2.1 hs ∈ jw_tbl) (ht : jw_tag o = c) (hn : jw_len o = N) (hc2 : c < 20) (hj : j < N) (ho : o < jw_n w M) (hs : (jw_fts.getD c []).getD j 9 = 1) (hi : (j : Int) = i)
    (k : jw_q (M o i) → jw_Rn G Y h kc ks w lf (pc + 3) lv (jL (M o i) :: st) M res) : jw_Rn G Y h kc ks w lf pc lv (jR G o :: st) M res := by
  subst hi
  have e : jw_st o j = (jw_fts.getD c []).getD j 9 := by unfold jw_st; rw [ht, if_pos hc2]
  refine jw_rgd (fun hg => jw_getV hown hd hc hin hlink ht hn hc2 hj ho ?_)
  have hr : jw_q (M o (j : Int)) := by
    have := hg o (j : Int)
    rw [show ((j : Int)).toNat = j from rfl, e, hs] at this
    exact this
  have e2 : jw_fv (jw_gz G) w o j (M o j) = jL (M o j) := by
    unfold jw_fv
    rw [e, hs]; rfl
  rw [e2]
  exact k hr
/-- a reference, in the full world -/
theorem jw_getR {own : String} {Cn : String} {T : u_T} {N c o j index o2 : Nat} (hown : jw_yo Y = own) (hd : decode (jw_yc Y) pc = .ok (.getfield index, 3)) (hc : vwCl[c]? = some (Cn, T, N)) (hin : ∀ w ∈ u_ws Cn T N, w ∈ jw_tbl) (hlink : Cond.fieldLink own index (T j).1 (T j).2.1 (T j).2.2.1 ∈ jw_tbl ∨ ∃ hs, Cond.fieldLinkNest own index (T j).1 (T j).2.1 (T j).2.2.1 hs ∈ jw_tbl) (ht : jw_tag o = c) (hn : jw_len o = N) (hc2 : c < 20) (hj : j < N) (hs : (jw_fts.getD c []).getD j 9 = 2) (h2 : jw_rf o j = o2)
    (k : jw_Rn G Y h kc ks true lf (pc + 3) lv (jR G o2 :: st) M res) : jw_Rn G Y h kc ks true lf pc lv (jR G o :: st) M res := by
  have e : jw_st o j = (jw_fts.getD c []).getD j 9 := by unfold jw_st; rw [ht, if_pos hc2]
  refine jw_getV hown hd hc hin hlink ht hn hc2 hj (jw_ho ht (by omega)) ?_
  have e2 : jw_fv (jw_gz G) true o j (M o j) = jR G o2 := by
    unfold jw_fv
    rw [e, hs, h2]; rfl
  rw [e2]
  exact k
theorem jw_putI {own : String} {Cn : String} {T : u_T} {N c o j index : Nat} {i x : Int} (ty0 : Nat → FieldType) (hown : jw_yo Y = own) (hd : decode (jw_yc Y) pc = .ok (.putfield index, 3)) (hc : vwCl[c]? = some (Cn, T, N)) (hin : ∀ w ∈ u_ws Cn T N, w ∈ jw_tbl) (hty : ∀ k, k < N → parseFieldDescriptor (T k).2.2.1 = some (ty0 k)) (hnm : ∀ a, a < N → ∀ b, b < N → a ≠ b → (T a).2.1 ≠ (T b).2.1) (hlink : Cond.fieldLink own index (T j).1 (T j).2.1 (T j).2.2.1 ∈ jw_tbl ∨ ∃ hs, Cond.fieldLinkNest own index (T j).1 (T j).2.1 (T j).2.2.1 hs ∈ jw_tbl) (hfin : (T j).2.2.2 = false) (ht : jw_tag o = c) (hn : jw_len o = N) (hc2 : c < 20) (hj : j < N) (ho : o < jw_n w M)
    (hs : (jw_fts.getD c []).getD j 9 = 0) (hty2 : ty0 j = .int) (hx : jw_r x) (hi : (j : Int) = i)
    (k : jw_Rn G Y h kc ks w lf (pc + 3) lv st (jw_up M o i x) res) : jw_Rn G Y h kc ks w lf pc lv (jI x :: jR G o :: st) M res := by
  subst hi
  have e : jw_st o j = (jw_fts.getD c []).getD j 9 := by unfold jw_st; rw [ht, if_pos hc2]
  exact jw_putV ty0 hown hd hc hin hty hnm hlink hfin ht hn hc2 hj ho (by rw [e, hs]; exact hx) (by unfold jw_fv; rw [e, hs]; rfl) (by rw [hty2]; rfl) (by rw [hty2]; rfl) k
theorem jw_putZ {own : String} {Cn : String} {T : u_T} {N c o j index : Nat} {i x : Int} (ty0 : Nat → FieldType) (hown : jw_yo Y = own) (hd : decode (jw_yc Y) pc = .ok (.putfield index, 3)) (hc : vwCl[c]? = some (Cn, T, N)) (hin : ∀ w ∈ u_ws Cn T N, w ∈ jw_tbl) (hty : ∀ k, k < N → parseFieldDescriptor (T k).2.2.1 = some (ty0 k)) (hnm : ∀ a, a < N → ∀ b, b < N → a ≠ b → (T a).2.1 ≠ (T b).2.1) (hlink : Cond.fieldLink own index (T j).1 (T j).2.1 (T j).2.2.1 ∈ jw_tbl ∨ ∃ hs, Cond.fieldLinkNest own index (T j).1 (T j).2.1 (T j).2.2.1 hs ∈ jw_tbl) (hfin : (T j).2.2.2 = false) (ht : jw_tag o = c) (hn : jw_len o = N) (hc2 : c < 20) (hj : j < N) (ho : o < jw_n w M)
    (hs : (jw_fts.getD c []).getD j 9 = 3) (hty2 : ty0 j = .boolean) (hx : x = 0 ∨ x = 1) (hi : (j : Int) = i)
    (k : jw_Rn G Y h kc ks w lf (pc + 3) lv st (jw_up M o i x) res) : jw_Rn G Y h kc ks w lf pc lv (jI x :: jR G o :: st) M res := by
  subst hi
  have e : jw_st o j = (jw_fts.getD c []).getD j 9 := by unfold jw_st; rw [ht, if_pos hc2]
  exact jw_putV ty0 hown hd hc hin hty hnm hlink hfin ht hn hc2 hj ho (by rw [e, hs]; exact hx) (by unfold jw_fv; rw [e, hs]; rfl) (by rw [hty2]; rcases hx with rfl | rfl <;> rfl) (by rw [hty2]; rcases hx with rfl | rfl <;> rfl) k
theorem jw_putL {own : String} {Cn : String} {T : u_T} {N c o j index : Nat} {i x : Int} (ty0 : Nat → FieldType) (hown : jw_yo Y = own) (hd : decode (jw_yc Y) pc = .ok (.putfield index, 3)) (hc : vwCl[c]? = some (Cn, T, N)) (hin : ∀ w ∈ u_ws Cn T N, w ∈ jw_tbl) (hty : ∀ k, k < N → parseFieldDescriptor (T k).2.2.1 = some (ty0 k)) (hnm : ∀ a, a < N → ∀ b, b < N → a ≠ b → (T a).2.1 ≠ (T b).2.1) (hlink : Cond.fieldLink own index (T j).1 (T j).2.1 (T j).2.2.1 ∈ jw_tbl ∨ ∃ hs, Cond.fieldLinkNest own index (T j).1 (T j).2.1 (T j).2.2.1 hs ∈ jw_tbl) (hfin : (T j).2.2.2 = false) (ht : jw_tag o = c) (hn : jw_len o = N) (hc2 : c < 20) (hj : j < N) (ho : o < jw_n w M)
    (hs : (jw_fts.getD c []).getD j 9 = 1) (hty2 : ty0 j = .long) (hx : jw_q x) (hi : (j : Int) = i)
    (k : jw_Rn G Y h kc ks w lf (pc + 3) lv st (jw_up M o i x) res) : jw_Rn G Y h kc ks w lf pc lv (jL x :: jR G o :: st) M res := by
  subst hi
  have e : jw_st o j = (jw_fts.getD c []).getD j 9 := by unfold jw_st; rw [ht, if_pos hc2]
  exact jw_putV ty0 hown hd hc hin hty hnm hlink hfin ht hn hc2 hj ho (by rw [e, hs]; exact hx) (by unfold jw_fv; rw [e, hs]; rfl) (by rw [hty2]; rfl) (by rw [hty2]; rfl) k
end
