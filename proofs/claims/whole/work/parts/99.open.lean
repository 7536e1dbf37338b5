theorem dL_law_0 : decode cL_law 0 = .ok (.new 7, 3) := by decide +kernel
theorem dL_law_3 : decode cL_law 3 = .ok (.dup, 1) := by decide +kernel
theorem dL_law_4 : decode cL_law 4 = .ok (.invokespecial 9, 3) := by decide +kernel
theorem dL_law_7 : decode cL_law 7 = .ok (.astore_n 1, 1) := by decide +kernel
theorem dL_law_8 : decode cL_law 8 = .ok (.new 10, 3) := by decide +kernel
theorem dL_law_11 : decode cL_law 11 = .ok (.dup, 1) := by decide +kernel
theorem dL_law_12 : decode cL_law 12 = .ok (.invokespecial 12, 3) := by decide +kernel
theorem dL_law_15 : decode cL_law 15 = .ok (.astore_n 2, 1) := by decide +kernel
theorem dL_law_16 : decode cL_law 16 = .ok (.iconst 0, 1) := by decide +kernel
theorem dL_law_17 : decode cL_law 17 = .ok (.istore_n 3, 1) := by decide +kernel
section
variable {p : Program} {e : Env} {R : Room} {s : State} {m : MethodId} {args : Array Value} {below : List Frame} {meth : Method} {cd : Code} {H : Heap} {locs : List Loc} {cells slots : Nat} {Q : State → Prop} {ls : Array Slot}
variable {G : jw_G} {Y : jw_Y} {h kc ks pc : Nat} {st : List Value} {M : jw_M}
theorem jw_C_1 {N : Nat} (C : jw_C G Y h (kc + 1) (ks + N) p s m args meth cd R cells slots) : jw_C G Y h kc ks p s m args meth cd R (cells + 1) (slots + N) := by
  obtain ⟨c1, c2, c3, c4, c5, c6, c7, c8, c9, c10, c11, c12⟩ := C
  exact ⟨c1, c2, c3, c4, c5, c6, c7, c8, c9, c10, by omega, by omega⟩
theorem jw_newW {own Cn : String} {T : u_T} {N c index : Nat} (ty : Nat → FieldType) (C : jw_C G Y h (kc + 1) (ks + N) p s m args meth cd R cells slots) (P : jw_Wd G false M s H locs cells) (hown : jw_yo Y = own) (hd : decode (jw_yc Y) pc = .ok (.new index, 3)) (hc : vwCl[c]? = some (Cn, T, N)) (hin : ∀ w ∈ u_ws Cn T N, w ∈ jw_tbl) (hty : ∀ k, k < N → parseFieldDescriptor (T k).2.2.1 = some (ty k)) (hcl : Cond.classLink own index Cn ∈ jw_tbl) (hins : Cond.instantiable Cn N ∈ jw_tbl) (hini : Cond.initialized Cn ∈ jw_tbl) (hc2 : c < 20) (hdf : ∀ j, j < N → defaultValue (ty j) = if (jw_fts.getD c []).getD j 9 = 1 then jL 0 else if (jw_fts.getD c []).getD j 9 = 2 then .null else jI 0)
    (h0 : 0 ≤ M 9999 0) (ht : jw_tag (M 9999 0).toNat = c) (hN : jw_len (M 9999 0).toNat = N)
    (k : ∀ H1 : Heap, jw_Wd G false (jw_nw M) s H1 locs (cells + 1) → W p (jw_gl G) e R s m args below meth cd H1 locs (cells + 1) (slots + N) Q (F0 m (pc + 3) ls (jR G (M 9999 0).toNat :: st))) : W p (jw_gl G) e R s m args below meth cd H locs cells slots Q (F0 m pc ls st) := by
  subst hown
  have hn : (M 9999 0).toNat < 148 := jw_lay_lt ht (by omega)
  refine jw_size (fun hsz => ?_)
  have hP4 := P.2.2.2 rfl
  have hs : H.size = jw_gz G + jw_n false M := by omega
  have hKn := C.2.2.2.2.2.2.1.1 c _ hc
  refine W.newcK C.1 C.2.1 C.2.2.2.1 (C.2.2.2.2.2.1 _ hcl) (C.2.2.2.2.2.1 _ hins) (C.2.2.2.2.2.1 _ hini) rfl hd ?_ ?_ hKn.2.1 rfl fun H1 kC hkC e1 z1 o1 => ?_
  · have := C.2.2.2.2.2.2.2.2.2.2.1; omega
  · have := C.2.2.2.2.2.2.2.2.2.2.2; omega
  have hE : jw_ce (jw_gz G) (jw_ga G) false (fun _ => 0) (jw_n false M) = .inr (c, (List.range N).map (fun j => jw_fv (jw_gz G) false (jw_n false M) j 0)) := jw_ce_obj ht hN hc2
  have hat : va_at (jw_gD G) vwCl (H.size, jw_ce (jw_gz G) (jw_ga G) false (fun _ => 0) (jw_n false M)) H1 := by
    rw [hE]
    refine ⟨_, hc, (u_born ty C.2.2.2.2.2.1 hin hKn hkC e1 hty).to (fun j hj => ?_)⟩
    rw [hdf j hj]
    show _ = ((List.range N).map (fun j => jw_fv (jw_gz G) false (jw_n false M) j ((fun _ => 0 : Int → Int) j))).getD j .null
    rw [List.getD_eq_getElem?_getD (l := (List.range N).map _), jw_fs_at (g := fun _ => 0) hj]
    show _ = jw_fv (jw_gz G) false (jw_n false M) j 0
    unfold jw_fv jw_st
    rw [show jw_tag (jw_n false M) = c from ht, if_pos hc2]
    rfl
  have hkeep : ∀ (k : Nat) (x : Nat × va_E), (jw_wl G false M)[k]? = some x → H1[x.1]? = H[x.1]? := fun k x hx => o1 x.1 ((P.1 k x hx).lt)
  have hP1 : va_P (jw_gD G) vwCl (jw_wl G false (jw_nw M)) H1 := by
    rw [jw_nw_wl h0 hn]
    refine (P.1.kept hkeep).app (fun k x hx => ?_)
    have hz : k < 1 := (List.getElem?_eq_some_iff.mp hx).1
    rw [show k = 0 by omega] at hx
    cases hx
    rw [← hs]
    exact hat
  have hD1 : va_D (jw_A G) (jw_wl G false (jw_nw M)) := by
    rw [jw_nw_wl h0 hn]
    exact P.2.1.push P.1 hs.symm (by show jw_gz G ≤ _; omega)
  have kk := k H1 ⟨hP1, hD1, ⟨Nat.le_trans P.2.2.1.1 (by omega), fun q q1 q2 => (o1 q (Nat.lt_of_lt_of_le q1 P.2.2.1.1)).trans (P.2.2.1.2.1 q q1 q2), P.2.2.1.2.2⟩, fun _ => by rw [jw_nw_n h0 hn]; omega⟩
  rw [hs]
  exact kk
theorem jw_callIW {Y2 : jw_Y} {y : MethodName} {h2 k2 s2 index o : Nat} {lv : List (Nat × Value)} {M1 : jw_M} (C : jw_C G Y h (k2 + kc) (s2 + ks) p s m args meth cd R cells slots) (P : jw_Wd G false M s H locs cells) (hh : lv_has ls (jw_yn Y) lv) (hd : decode (jw_yc Y) pc = .ok (.invokespecial index, 3)) (hc : jw_cl G Y Y2 none y 0 h h2) (hl : Cond.methodLink (jw_yo Y) index y ∈ jw_tbl) (hi : Cond.instanceMethod y ∈ jw_tbl) (hin : y.name = "<init>") (hst : (st.map fun v => v.category).sum ≤ 8) (hg : jw_Rg M) (hC : jw_Ct G Y2 none h2 k2 s2 false (fun M1 => (0, M1)) y [jR G o] M (some M1)) (hr0 : jw_yr Y2 = 0)
    (k : jw_Rg M1 → ∀ (H1 : Heap) (locs1 : List Loc), jw_Wd G false M1 s H1 locs1 (cells + k2) → W p (jw_gl G) e R s m args below meth cd H1 locs1 (cells + k2) (slots + s2) Q (F0 m (pc + 3) ls st)) : W p (jw_gl G) e R s m args below meth cd H locs cells slots Q (F0 m pc ls (jR G o :: st)) := by
  obtain ⟨⟨g1, g2, g3⟩, hM⟩ := hC hg M1 rfl
  refine jw_size (fun hsz => ?_)
  refine jw_after (mc := k2) (ms := s2) (va_runI (b := jw_gz G + o) (As := []) (rest := st) ⟨C.1, C.2.1, C.2.2.1, C.2.2.2.1, C.2.2.2.2.2.1⟩ hM ⟨jw_cb hc C.2.2.2.2.2.1 C.2.2.2.2.2.2.2.2.2.1 hl, hin, C.2.2.2.2.2.1 _ hi⟩ ⟨jw_blind, fun U hU hW => ⟨rfl, by rw [hU]; exact P.1, P.2.1, va_K.moved hW.alike C.2.2.2.2.2.2.1, jw_St_at C.2.2.2.2.2.2.2.1 P.2.2.1 hU hW, ?_, ?_⟩⟩ rfl rfl hh.1 rfl (lv_room hst) hd ⟨?_, ?_⟩) P.2.2.1 (fun H1 locs1 q1 q2 q3 q4 q5 => ?_)
  · rw [hU]; exact Nat.le_trans C.2.2.2.2.2.2.2.2.1 P.2.2.1.1
  · intro hw
    rw [hU]
    have := P.2.2.2 hw
    omega
  · have := C.2.2.2.2.2.2.2.2.2.2.1; omega
  · have := C.2.2.2.2.2.2.2.2.2.2.2; omega
  · have kk := k g2 H1 locs1 ⟨q1, q2, q3, fun hw => ?_⟩
    · rw [hr0]
      exact kk
    · have h5 := q4 hw
      have h6 := P.2.2.2 hw
      have h7 := g3 hw
      simp only at h5 h7
      omega
end
theorem jw_arrV {c : ClassId} {n : Nat} {f g : Nat → Value} (h : ∀ j, j < n → f j = g j) : arrV c n f = arrV c n g := by
  unfold arrV
  congr 1
  apply Array.ext
  · simp
  · intro i h1 h2
    simp at h1 h2 ⊢
    exact h i h1
/-- the grown world is the full one -/
theorem jw_full {G : jw_G} {M : jw_M} {H : Heap} (hn : jw_n false M = 148) (hr : ∀ k, k < 148 → ∀ j, j < jw_len k → jw_st k j = 2 → M k (j : Int) = 1) (hP : va_P (jw_gD G) vwCl (jw_wl G false M) H) : va_P (jw_gD G) vwCl (jw_wl G true M) H := by
  intro k q hq
  have hl : (jw_wl G true M).length = 148 := by unfold jw_wl jw_n; simp
  have hk : k < 148 := by rw [← hl]; exact (List.getElem?_eq_some_iff.mp hq).1
  rw [jw_wl_at G true M (show k < jw_n true M from hk)] at hq
  cases hq
  have h0 := hP k _ (jw_wl_at G false M (by rw [hn]; exact hk))
  unfold jw_ce at h0 ⊢
  by_cases h1 : jw_tag k < 20
  · rw [if_pos h1] at h0 ⊢
    have e : (List.range (jw_len k)).map (fun j => jw_fv (jw_gz G) true k j (M k j)) = (List.range (jw_len k)).map (fun j => jw_fv (jw_gz G) false k j (M k j)) := by
      apply List.map_congr_left
      intro j hj
      have hj' := List.mem_range.mp hj
      unfold jw_fv
      by_cases h2 : jw_st k j = 1
      · rw [if_pos h2, if_pos h2]
      · rw [if_neg h2, if_neg h2]
        by_cases h3 : jw_st k j = 2
        · rw [if_pos h3, if_pos h3, hr k hk j hj' h3]
          rfl
        · rw [if_neg h3, if_neg h3]
    rw [e]
    exact h0
  · rw [if_neg h1] at h0 ⊢
    by_cases h2 : jw_tag k = 23
    · rw [if_pos h2] at h0 ⊢
      have h3 : H[jw_gz G + k]? = some (arrV (jw_ga G 23) (jw_len k) (fun j => va_rf (if (false || M k (j : Nat) == 1) = true then some (jw_gz G + jw_rf k j) else none))) := h0
      show H[jw_gz G + k]? = some (arrV (jw_ga G 23) (jw_len k) (fun j => va_rf (if (true || M k (j : Nat) == 1) = true then some (jw_gz G + jw_rf k j) else none)))
      rw [h3]
      congr 1
      apply jw_arrV
      intro j hj
      have h4 : jw_st k j = 2 := by unfold jw_st; rw [h2]; rfl
      rw [hr k hk j hj h4]
      rfl
    · rw [if_neg h2] at h0 ⊢
      exact h0
theorem jw_fullD {G : jw_G} {M : jw_M} (hn : jw_n false M = 148) (hD : va_D (jw_A G) (jw_wl G false M)) : va_D (jw_A G) (jw_wl G true M) := by
  have key : ∀ (k : Nat) (q : Nat × va_E), (jw_wl G true M)[k]? = some q → q.1 = jw_gz G + k ∧ k < 148 := by
    intro k q hq
    have hl : (jw_wl G true M).length = 148 := by unfold jw_wl jw_n; simp
    have hk : k < 148 := by rw [← hl]; exact (List.getElem?_eq_some_iff.mp hq).1
    rw [jw_wl_at G true M (show k < jw_n true M from hk)] at hq
    cases hq
    exact ⟨rfl, hk⟩
  refine ⟨fun i j x y hx hy he => ?_, fun k q hq => ?_⟩
  · have h1 := key i x hx
    have h2 := key j y hy
    omega
  · have h1 := key k q hq
    show jw_gz G ≤ q.1
    omega
def jw_M0 : jw_M := fun _ _ => 0
def jw_M1 : jw_M := jw_nw jw_M0
def jw_M2 : jw_M := (fX11_init 0 jw_M1).getD jw_M0
def jw_M3 : jw_M := jw_nw jw_M2
def jw_M4 : jw_M := (fX12_init 127 jw_M3).getD jw_M0
set_option maxRecDepth 1000000 in
theorem jw_M2_ok : (fX11_init 0 jw_M1).isSome = true := by decide +kernel
set_option maxRecDepth 1000000 in
theorem jw_M2_n : jw_M2 9999 0 = 127 := by decide +kernel
set_option maxRecDepth 1000000 in
theorem jw_M4_ok : (fX12_init 127 jw_M3).isSome = true := by decide +kernel
set_option maxRecDepth 1000000 in
theorem jw_M4_n : jw_n false jw_M4 = 148 := by decide +kernel
set_option maxRecDepth 1000000 in
theorem jw_M4_r : ∀ k, k < 148 → ∀ j, j < jw_len k → jw_st k j = 2 → jw_M4 k (j : Int) = 1 := by decide +kernel
theorem jw_some {M : Option jw_M} (h : M.isSome = true) : M = some (M.getD jw_M0) := by
  cases M with
  | none => cases h
  | some M => rfl
theorem jw_Rg0 : jw_Rg jw_M0 := by
  intro k j
  show jw_rg _ 0
  unfold jw_rg jw_r jw_q
  split
  · omega
  · split
    · omega
    · split
      · exact Or.inl rfl
      · split
        · omega
        · trivial
set_option maxRecDepth 100000 in
set_option maxHeartbeats 4000000 in
theorem whole_start_open (hpure : ∀ G : jw_G, jw_gL G ≤ 384 → ∃ M' : jw_M, fL_law_18 G jw_fu 0 jw_M4 = some (1, M')) {p : Program} {e : Env} {s : State} {m : MethodId} {below : List Frame} {meth : Method} {c : Code} (l : Launch) {b L : Nat} {xs : Nat → Int32} (hL : L ≤ 384) (C0 : lw_At p s m meth c b L xs) : W p l e room_1 s m #[Value.ref b] below meth c s.heap [] 0 0 (lw_Z below #[Value.ref b] s) (entryFrame m ([Value.ref b] : List Value).toArray 4) := by
  obtain ⟨hx, hb, hr, hml, hown, hts, hX, hbl, hlocks, hgv⟩ := id C0
  obtain ⟨G, hgl0, hz, hgl, hgs, hK, hSt⟩ := jw_start l hL C0
  subst hgl0
  have hl := lv_entry ([.ref b]) (n := 4) (Nat.le_of_ble_eq_true rfl)
  rw [lg_entry_eq]
  generalize (lg_sl ([.ref b]) ++ List.replicate (4 - (lg_sl ([.ref b])).length) Slot.unset).toArray = ls at hl ⊢
  have hl : lv_has ls 4 [(0, jQ G)] := by
    have e : jQ G = .ref b := by unfold jQ; rw [hgs]
    rw [e]
    exact hl
  have C : jw_C G (YL_law meth.name) 32 148 4681 p s m #[Value.ref b] meth c room_1 0 0 := ⟨hx, hb, hml, hown, rfl, fun w hw => hts w (List.mem_filter.mp hw).1, hK, hSt, Nat.le_of_eq hz, ⟨by decide, by decide⟩, by decide, by decide⟩
  have Ca : jw_C G (YL_law meth.name) 32 147 4670 p s m #[Value.ref b] meth c room_1 (0 + 1) (0 + 11) := jw_C_1 (N := 11) (kc := 147) (ks := 4670) C
  have Cb : jw_C G (YL_law meth.name) 32 21 2052 p s m #[Value.ref b] meth c room_1 (0 + 1 + 126) (0 + 11 + 2618) := jw_C_k (k2 := 126) (s2 := 2618) (kc := 21) (ks := 2052) Ca
  have Cc : jw_C G (YL_law meth.name) 32 20 2017 p s m #[Value.ref b] meth c room_1 (0 + 1 + 126 + 1) (0 + 11 + 2618 + 35) := jw_C_1 (N := 35) (kc := 20) (ks := 2017) Cb
  have P0 : jw_Wd G false jw_M0 s s.heap [] 0 := ⟨fun k q h => (by cases h), ⟨fun i j x y h => (by cases h), fun k q h => (by cases h)⟩, va_S.rf, fun _ => ⟨Nat.le_of_eq hz, Nat.le_of_eq hz.symm⟩⟩
  have g1 : jw_Rg jw_M1 := jw_nw_Rg jw_Rg0 (by decide)
  refine jw_newW (Y := YL_law meth.name) (h := 32) (kc := 147) (ks := 4670) tyX11 C P0 rfl dL_law_0 jv_11 ji_11 tyX11_ok jt_22 jt_23 jt_1 (by decide) (by decide) (by decide) (by decide +kernel) (by decide +kernel) (fun H1 P1 => ?_)
  refine lv_dup hx hb dL_law_3 rfl ?_
  refine jw_callIW (Y := YL_law meth.name) (h := 32) (h2 := 4) (Y2 := YX11_init) (kc := 21) (ks := 2052) (k2 := 126) (s2 := 2618) (o := 0) (M := jw_M1) (M1 := jw_M2) (lv := [(0, jQ G)]) Ca P1 hl dL_law_4 ⟨by decide, qX11_init⟩ jt_24 jt_25 rfl (Nat.le_of_ble_eq_true rfl) g1 (by have h := kX11_init G 0 jw_M1; rw [jw_some jw_M2_ok] at h; exact h) rfl (fun g2 H2 locs2 P2 => ?_)
  refine lv_astore_n (lv' := [(1, jR G 0), (0, jQ G)]) hx hb dL_law_7 rfl hl (by decide) rfl (fun ls hl => ?_)
  refine jw_newW (Y := YL_law meth.name) (h := 32) (M := jw_M2) (kc := 20) (ks := 2017) tyX12 Cb P2 rfl dL_law_8 jv_12 ji_12 tyX12_ok jt_1225 jt_1226 jt_14 (by decide) (by decide) (by rw [jw_M2_n]; decide) (by rw [jw_M2_n]; decide +kernel) (by rw [jw_M2_n]; decide +kernel) (fun H3 P3 => ?_)
  have g3 : jw_Rg jw_M3 := jw_nw_Rg g2 (by rw [jw_M2_n]; decide)
  rw [jw_M2_n]
  refine lv_dup hx hb dL_law_11 rfl ?_
  refine jw_callIW (Y := YL_law meth.name) (h := 32) (h2 := 2) (Y2 := YX12_init) (kc := 0) (ks := 0) (k2 := 20) (s2 := 2017) (o := 127) (M := jw_M3) (M1 := jw_M4) (lv := [(1, jR G 0), (0, jQ G)]) Cc P3 hl dL_law_12 ⟨by decide, qX12_init⟩ jt_1227 jt_1228 rfl (Nat.le_of_ble_eq_true rfl) g3 (by have h := kX12_init G 127 jw_M3; rw [jw_some jw_M4_ok] at h; exact h) rfl (fun g4 H4 locs4 P4 => ?_)
  refine lv_astore_n (lv' := [(2, jR G 127), (1, jR G 0), (0, jQ G)]) hx hb dL_law_15 rfl hl (by decide) rfl (fun ls hl => ?_)
  refine lv_iconst (v := Int32.ofInt 0) hx hb dL_law_16 rfl ?_
  refine lv_istore_n (lv' := [(3, jI 0), (2, jR G 127), (1, jR G 0), (0, jQ G)]) hx hb dL_law_17 rfl hl (by decide) rfl (fun ls hl => ?_)
  obtain ⟨M', hM'⟩ := hpure G (by rw [hgl]; exact hL)
  have C4 : jw_C G (YL_law meth.name) 32 0 0 p s m #[Value.ref b] meth c room_1 (0 + 1 + 126 + 1 + 20) (0 + 11 + 2618 + 35 + 2017) := jw_C_k (k2 := 20) (s2 := 2017) (kc := 0) (ks := 0) Cc
  refine (pL_law_18 G meth.name (by rw [hgl]; exact hL) jw_fu 0 jw_0 jw_M4 g4 (1, M') hM').2 p e s m _ below meth c room_1 _ _ _ _ _ ls C4 ⟨jw_full jw_M4_n jw_M4_r P4.1, jw_fullD jw_M4_n P4.2.1, P4.2.2.1, fun h => by cases h⟩ (lv_sub hl [3, 2, 1, 0] rfl) (fun H5 locs5 ls5 pc5 P5 hd5 => ?_)
  refine va_forget (fun q hq => ?_) (W.widen (k := 600000) (n := 7302250) (Nat.le_of_ble_eq_true rfl) (Nat.le_of_ble_eq_true rfl) (lw_ret hx hb hr hlocks hd5))
  have h5 := P5.2.2.1.2.2 q hq
  have h6 : jw_gz G ≤ q.base := h5
  omega
