/-! making objects: the world that grows -/
def jw_nw (M : jw_M) : jw_M := fun k j => if k = (M 9999 0).toNat then 0 else if k = 9999 ∧ j = 0 then M 9999 0 + 1 else M k j
theorem jw_nw_n {M : jw_M} (h0 : 0 ≤ M 9999 0) (hn : (M 9999 0).toNat < 148) : jw_n false (jw_nw M) = jw_n false M + 1 := by
  unfold jw_n jw_nw
  simp only [Bool.false_eq_true, if_false]
  rw [if_neg (by omega), if_pos (by simp)]
  omega
theorem jw_nw_wl {G : jw_G} {M : jw_M} (h0 : 0 ≤ M 9999 0) (hn : (M 9999 0).toNat < 148) : jw_wl G false (jw_nw M) = jw_wl G false M ++ [(jw_gz G + jw_n false M, jw_ce (jw_gz G) (jw_ga G) false (fun _ => 0) (jw_n false M))] := by
  have e : jw_n false M = (M 9999 0).toNat := rfl
  unfold jw_wl
  rw [jw_nw_n h0 hn, List.range_succ, List.map_append]
  congr 1
  · apply List.map_congr_left
    intro k hk
    have hk' := List.mem_range.mp hk
    rw [e] at hk'
    have e2 : jw_nw M k = M k := by
      funext j
      unfold jw_nw
      rw [if_neg (by omega), if_neg (by omega)]
    rw [e2]
  · have e2 : jw_nw M (jw_n false M) = fun _ => 0 := by
      funext j
      unfold jw_nw
      rw [if_pos e]
    simp only [List.map_cons, List.map_nil, e2]
theorem jw_nw_Rg {M : jw_M} (h : jw_Rg M) (hn : (M 9999 0).toNat < 148) : jw_Rg (jw_nw M) := by
  intro k j
  unfold jw_nw
  by_cases h1 : k = (M 9999 0).toNat
  · rw [if_pos h1]
    unfold jw_rg jw_r jw_q
    split
    · omega
    · split
      · omega
      · split
        · exact Or.inl rfl
        · split
          · omega
          · trivial
  · rw [if_neg h1]
    by_cases h2 : k = 9999 ∧ j = 0
    · rw [if_pos h2, h2.1, h2.2]
      exact trivial
    · rw [if_neg h2]; exact h k j
section
variable {α : Type} {lf : α → Int × jw_M} {G : jw_G} {Y : jw_Y} {h kc ks : Nat} {pc : Nat} {lv : List (Nat × Value)} {st : List Value} {M : jw_M} {res : Option α}
/-- what is common to the three makings -/
theorem jw_mk {N pc' : Nat} {st' : List Value} (h0 : 0 ≤ M 9999 0) (hn : (M 9999 0).toNat < 148)
    (hk : ∀ (p : Program) (e : Env) (s : State) (m : MethodId) (args : Array Value) (below : List Frame) (meth : Method) (c : Code) (R : Room) (Q : State → Prop) (cells slots : Nat) (H : Heap) (locs : List Loc) (ls : Array Slot), jw_C G Y h (kc + 1) (ks + N) p s m args meth c R cells slots → jw_Wd G false M s H locs cells → H.size = jw_gz G + jw_n false M →
      (∀ H1 : Heap, H1.size = H.size + 1 → (∀ q, q < H.size → H1[q]? = H[q]?) → va_at (jw_gD G) vwCl (H.size, jw_ce (jw_gz G) (jw_ga G) false (fun _ => 0) (jw_n false M)) H1 → W p (jw_gl G) e R s m args below meth c H1 locs (cells + 1) (slots + N) Q (F0 m pc' ls st')) → W p (jw_gl G) e R s m args below meth c H locs cells slots Q (F0 m pc ls st))
    (k : jw_Rn G Y h kc ks false lf pc' lv st' (jw_nw M) res) : jw_Rn G Y h (kc + 1) (ks + N) false lf pc lv st M res := by
  intro hg y hr
  obtain ⟨h1, h2⟩ := k (jw_nw_Rg hg hn) y hr
  refine ⟨⟨h1.1, h1.2.1, fun hw => by rw [h1.2.2 hw, jw_nw_n h0 hn]; omega⟩, fun p e s m args below meth c R Q cells slots H locs ls C P hh F => ?_⟩
  refine jw_size (fun hsz => ?_)
  have hP4 := P.2.2.2 rfl
  have hs : H.size = jw_gz G + jw_n false M := by omega
  refine hk p e s m args below meth c R Q cells slots H locs ls C P hs (fun H1 z1 o1 hat => ?_)
  have hkeep : ∀ (k : Nat) (x : Nat × va_E), (jw_wl G false M)[k]? = some x → H1[x.1]? = H[x.1]? := fun k x hx => o1 x.1 ((P.1 k x hx).lt)
  have hP1 : va_P (jw_gD G) vwCl (jw_wl G false (jw_nw M)) H1 := by
    rw [jw_nw_wl h0 hn]
    refine (P.1.kept hkeep).app (fun k x hx => ?_)
    have hz : k < 1 := (List.getElem?_eq_some_iff.mp hx).1
    rw [show k = 0 by omega] at hx
    cases hx
    rw [← hs]
    exact hat
  have hD1 : va_D (jw_A G) (jw_wl G false (jw_nw M)) := by
    rw [jw_nw_wl h0 hn]
    exact P.2.1.push P.1 hs.symm (by show jw_gz G ≤ _; omega)
  refine h2 p e s m args below meth c R Q (cells + 1) (slots + N) H1 locs ls ?_ ⟨hP1, hD1, ⟨Nat.le_trans P.2.2.1.1 (by omega), fun q q1 q2 => (o1 q (Nat.lt_of_lt_of_le q1 P.2.2.1.1)).trans (P.2.2.1.2.1 q q1 q2), P.2.2.1.2.2⟩, fun _ => ?_⟩ hh ?_
  · obtain ⟨c1, c2, c3, c4, c5, c6, c7, c8, c9, c10, c11, c12⟩ := C
    exact ⟨c1, c2, c3, c4, c5, c6, c7, c8, c9, c10, by omega, by omega⟩
  · rw [jw_nw_n h0 hn]; omega
  · intro H' locs' ls' pc2 P' hd
    have := F H' locs' ls' pc2 (by rw [show cells + (kc + 1) = cells + 1 + kc by omega]; exact P') hd
    rw [show cells + (kc + 1) = cells + 1 + kc by omega, show slots + (ks + N) = slots + N + ks by omega] at this
    exact this
theorem jw_new {own Cn : String} {T : u_T} {N c index : Nat} (ty : Nat → FieldType) (hown : jw_yo Y = own) (hd : decode (jw_yc Y) pc = .ok (.new index, 3)) (hc : vwCl[c]? = some (Cn, T, N)) (hin : ∀ w ∈ u_ws Cn T N, w ∈ jw_tbl) (hty : ∀ k, k < N → parseFieldDescriptor (T k).2.2.1 = some (ty k)) (hcl : Cond.classLink own index Cn ∈ jw_tbl) (hins : Cond.instantiable Cn N ∈ jw_tbl) (hini : Cond.initialized Cn ∈ jw_tbl) (hc2 : c < 20) (hdf : ∀ j, j < N → defaultValue (ty j) = if (jw_fts.getD c []).getD j 9 = 1 then jL 0 else if (jw_fts.getD c []).getD j 9 = 2 then .null else jI 0)
    (k : jw_Rn G Y h kc ks false lf (pc + 3) lv (jR G (M 9999 0).toNat :: st) (jw_nw M) res) : jw_Rn G Y h (kc + 1) (ks + N) false lf pc lv st M (if 0 ≤ M 9999 0 ∧ jw_tag (M 9999 0).toNat = c ∧ jw_len (M 9999 0).toNat = N then res else none) := by
  subst hown
  refine jw_ck (fun hp => ?_)
  have hn : (M 9999 0).toNat < 148 := jw_lay_lt hp.2.1 (by omega)
  refine jw_mk hp.1 hn (fun p e s m args below meth c' R Q cells slots H locs ls C P hs kk => ?_) k
  have hKn := C.2.2.2.2.2.2.1.1 c _ hc
  refine W.newcK C.1 C.2.1 C.2.2.2.1 (C.2.2.2.2.2.1 _ hcl) (C.2.2.2.2.2.1 _ hins) (C.2.2.2.2.2.1 _ hini) rfl hd ?_ ?_ hKn.2.1 rfl fun H1 kC hkC e1 z1 o1 => ?_
  · have := C.2.2.2.2.2.2.2.2.2.2.1; omega
  · have := C.2.2.2.2.2.2.2.2.2.2.2; omega
  · have hE : jw_ce (jw_gz G) (jw_ga G) false (fun _ => 0) (jw_n false M) = .inr (c, (List.range N).map (fun j => jw_fv (jw_gz G) false (jw_n false M) j 0)) := jw_ce_obj hp.2.1 hp.2.2 hc2
    have := kk H1 z1 o1 ?_
    · rw [hs]
      exact this
    · rw [hE]
      refine ⟨_, hc, (u_born ty C.2.2.2.2.2.1 hin hKn hkC e1 hty).to (fun j hj => ?_)⟩
      rw [hdf j hj]
      show _ = ((List.range N).map (fun j => jw_fv (jw_gz G) false (jw_n false M) j ((fun _ => 0 : Int → Int) j))).getD j .null
      rw [List.getD_eq_getElem?_getD (l := (List.range N).map _), jw_fs_at (g := fun _ => 0) hj]
      show _ = jw_fv (jw_gz G) false (jw_n false M) j 0
      unfold jw_fv jw_st
      rw [show jw_tag (jw_n false M) = c from hp.2.1, if_pos hc2]
      rfl
theorem jw_newa {atype : ArrayType} {N c : Nat} {n : Int} {ty : FieldType} (t0 : Nat) (hd : decode (jw_yc Y) pc = .ok (.newarray atype, 2)) (hty : newarray.typeOf atype = ty) (harr : Cond.arrayClass ty ∈ jw_tbl) (ht0 : (jw_tys G)[t0]? = some (jw_ga G c, ty)) (hob : (∀ C, ty ≠ .object C)) (hdv : defaultValue ty = jI 0) (hcb : N * componentBytes ty ≤ 536870912) (hc : 20 ≤ c) (hc3 : c ≠ 23) (hc4 : c ≠ 99) (hnn : n = (N : Int)) (hr : jw_r n)
    (k : jw_Rn G Y h kc ks false lf (pc + 2) lv (jR G (M 9999 0).toNat :: st) (jw_nw M) res) : jw_Rn G Y h (kc + 1) (ks + N) false lf pc lv (jI n :: st) M (if 0 ≤ M 9999 0 ∧ jw_tag (M 9999 0).toNat = c ∧ jw_len (M 9999 0).toNat = N then res else none) := by
  subst hty
  refine jw_ck (fun hp => ?_)
  have hn : (M 9999 0).toNat < 148 := jw_lay_lt hp.2.1 hc4
  refine jw_mk hp.1 hn (fun p e s m args below meth c' R Q cells slots H locs ls C P hs kk => ?_) k
  refine va_newaK C.1 C.2.1 (C.2.2.2.2.2.1 _ harr) rfl hd rfl (fun z => absurd ((jw_lt hr jw_0).mp z) (by omega)) (show (Int32.ofInt n).toNatClampNeg = N by rw [jw_tn hr, hnn]; rfl) hcb ?_ ?_ rfl fun H1 cA e1 z1 o1 hAr hNm => ?_
  · have := C.2.2.2.2.2.2.2.2.2.2.1; omega
  · have := C.2.2.2.2.2.2.2.2.2.2.2; omega
  · have hcA : cA = jw_ga G c := by
      have h5 := (C.2.2.2.2.2.2.1.2 t0 _ ht0).2
      have h6 : s.vm.findClass ("[" ++ (newarray.typeOf atype).toString) = some (jw_ga G c) := by
        revert h5 hob
        generalize newarray.typeOf atype = ty
        intro hob h5
        cases ty <;> first | exact h5 | exact absurd rfl (hob _)
      rw [hNm] at h6
      exact Option.some.inj h6
    have := kk H1 z1 o1 ?_
    · rw [hs]
      exact this
    · rw [jw_ce_arr (show jw_tag (jw_n false M) = c from hp.2.1) (show jw_len (jw_n false M) = N from hp.2.2) hc hc3]
      show H1[H.size]? = some (vp_cell _ _)
      rw [vp_cell_i, e1, hcA, hdv]
      rfl
theorem jw_newq {own : String} {N index : Nat} {n : Int} (hown : jw_yo Y = own) (hd : decode (jw_yc Y) pc = .ok (.anewarray index, 3)) (hcl : Cond.classLink own index "StringsSheet$Sheet" ∈ jw_tbl) (hcb : N * 4 ≤ 536870912) (hnn : n = (N : Int)) (hr : jw_r n)
    (k : jw_Rn G Y h kc ks false lf (pc + 3) lv (jR G (M 9999 0).toNat :: st) (jw_nw M) res) : jw_Rn G Y h (kc + 1) (ks + N) false lf pc lv (jI n :: st) M (if 0 ≤ M 9999 0 ∧ jw_tag (M 9999 0).toNat = 23 ∧ jw_len (M 9999 0).toNat = N then res else none) := by
  subst hown
  refine jw_ck (fun hp => ?_)
  have hn : (M 9999 0).toNat < 148 := jw_lay_lt hp.2.1 (by omega)
  have hN : (Int32.ofInt n).toNatClampNeg = N := by rw [jw_tn hr, hnn]; rfl
  refine jw_mk hp.1 hn (fun p e s m args below meth c' R Q cells slots H locs ls C P hs kk => ?_) k
  subst hN
  refine W.anew C.1 C.2.1 C.2.2.2.1 (C.2.2.2.2.2.1 _ hcl) (va_AO.use C.2.2.2.2.2.2.2.1.2.2.2.2.2.1) rfl hd rfl (fun z => absurd ((jw_lt hr jw_0).mp z) (by omega)) hcb ?_ ?_ fun cA kA comp f1 f2 f3 f4 => ?_
  · have := C.2.2.2.2.2.2.2.2.2.2.1; omega
  · have := C.2.2.2.2.2.2.2.2.2.2.2; omega
  · generalize hH1 : H.push ({ cls := cA, slots := Array.replicate (Int32.ofInt n).toNatClampNeg .null, vm := .none } : Cell) = H1
    have z1 : H1.size = H.size + 1 := by rw [← hH1, Array.size_push]
    have e1 : H1[H.size]? = some (arrV cA (Int32.ofInt n).toNatClampNeg (fun _ => .null)) := by rw [← hH1, Array.getElem?_push_size, ← arrV_new]
    have o1 : ∀ q : Nat, q < H.size → H1[q]? = H[q]? := fun q hq => by rw [← hH1, Array.getElem?_push, if_neg (Nat.ne_of_lt hq)]
    have hcA : cA = jw_ga G 23 := by
      obtain ⟨_, kA2, comp2, g1, g2, g3, g4⟩ := C.2.2.2.2.2.2.1.2 3 _ rfl
      rw [f1] at g4
      exact Option.some.inj g4
    have := kk H1 z1 o1 ?_
    · rw [hs]
      exact this
    · have hE : jw_ce (jw_gz G) (jw_ga G) false (fun _ => 0) (jw_n false M) = .inl (jw_ga G 23, (Int32.ofInt n).toNatClampNeg, .inr (.inr (.inr (.inr (fun _ => none))))) := by
        unfold jw_ce
        rw [show jw_tag (jw_n false M) = 23 from hp.2.1, show jw_len (jw_n false M) = _ from hp.2.2]
        rfl
      rw [hE]
      show H1[H.size]? = some (vp_cell _ _)
      rw [vp_cell_q, e1, hcA]
      rfl
theorem jw_aast {o v : Nat} {Cn : String} {T : u_T} {N n c : Nat} {i b : Int} (hd : decode (jw_yc Y) pc = .ok (.aastore, 1)) (hc : vwCl[c]? = some (Cn, T, N)) (hCn : Cn = "StringsSheet$Sheet") (hc2 : c < 20) (hr : jw_r i) (hb : (n : Int) = b)
    (k : jw_Rn G Y h kc ks false lf (pc + 1) lv st (jw_up M o i 1) res) : jw_Rn G Y h kc ks false lf pc lv (jR G v :: jI i :: jR G o :: st) M (if (0 ≤ i ∧ i < b) ∧ jw_tag o = 23 ∧ jw_len o = n ∧ jw_tag v = c ∧ jw_len v = N ∧ o < jw_n false M ∧ v < jw_n false M ∧ jw_rf o i.toNat = v then res else none) := by
  subst hb hCn
  refine jw_ck (fun hp => ?_)
  obtain ⟨hi, ht, hn, htv, hnv, ho, hov, hrf⟩ := hp
  have h8 : o < 148 := jw_lay_lt ht (by omega)
  refine jw_wrt (o := o) (i := i) (x := 1) h8 (by unfold jw_st; rw [ht]; exact trivial) (fun p e s m args below meth c' R Q cells slots H locs ls C P _ k => ?_) k
  have hat := jw_wl_at G false M ho
  have hE : ∀ g : Int → Int, jw_ce (jw_gz G) (jw_ga G) false g o = .inl (jw_ga G 23, n, .inr (.inr (.inr (.inr (fun j => if (false || g (j : Nat) == 1) = true then some (jw_gz G + jw_rf o j) else none))))) := by
    intro g
    unfold jw_ce
    rw [ht, hn]
    rfl
  rw [hE] at hat
  have hatv := jw_wl_at G false M hov
  rw [jw_ce_obj htv hnv hc2] at hatv
  refine va_astq C.1 C.2.1 C.2.2.2.2.2.2.1 P.1 P.2.1 (jw_S1 P.2.2.1) o 3 v c hat rfl hatv hc ((jw_in hr).mpr hi) hd (fun H1 locs1 q1 q2 q3 => ?_)
  have e2 : (jw_wl G false M).set o (jw_gz G + o, .inl (jw_ga G 23, n, .inr (.inr (.inr (.inr (va_up (fun j => if (false || M o (j : Nat) == 1) = true then some (jw_gz G + jw_rf o j) else none) (Int32.ofInt i).toNatClampNeg (some (jw_gz G + v)))))))) = jw_wl G false (jw_up M o i 1) := by
    refine jw_wl_up G false M ho h8 ?_
    rw [hE]
    congr 7
    funext j
    rw [jw_tn hr]
    show _ = (if j = i.toNat then some (jw_gz G + v) else _)
    by_cases hj : j = i.toNat
    · rw [if_pos hj]
      subst hj
      rw [Int.toNat_of_nonneg hi.1, jw_up_s, hrf]
      rfl
    · rw [if_neg hj, jw_up_n M (by omega)]
  rw [e2] at q1 q2
  exact k H1 locs1 (jw_Wd_up P h8 q1 q2 q3)
theorem jw_oinit {w : Bool} {own : String} {index o : Nat} (hown : jw_yo Y = own) (hd : decode (jw_yc Y) pc = .ok (.invokespecial index, 3)) (hl : Cond.methodLink own index Lib.objectInit ∈ jw_tbl) (hi : Cond.instanceMethod Lib.objectInit ∈ jw_tbl) (hc : Cond.code Lib.objectInit ⟨#[0xb1]⟩ 1 none ∈ jw_tbl) (hh : 1 ≤ h) (hst : (st.map fun v => v.category).sum ≤ 8)
    (k : jw_Rn G Y h kc ks w lf (pc + 3) lv st M res) : jw_Rn G Y h kc ks w lf pc lv (jR G o :: st) M res := by
  subst hown
  refine jw_step (fun p e s m args below meth c' R Q cells slots H locs ls C P hl' k => ?_) k
  exact W.objInit C.1 C.2.1 C.2.2.2.1 (C.2.2.2.2.2.1 _ hl) (C.2.2.2.2.2.1 _ hi) (C.2.2.2.2.2.1 _ hc) rfl (hl'.1.trans C.2.2.1.symm) rfl hd (Nat.le_trans hh C.2.2.2.2.2.2.2.2.2.1.1) (by have := C.2.2.2.2.2.2.2.2.2.1.2; show 2 * 0 + _ + 12 ≤ _; omega) k
/-- a reference of the world that grows: put into its place, read from it -/
theorem jw_fvR {G : jw_G} {o j c o2 : Nat} (ht : jw_tag o = c) (hc2 : c < 20) (hs : (jw_fts.getD c []).getD j 9 = 2) (h2 : jw_rf o j = o2) : jw_fv (jw_gz G) false o j 1 = jR G o2 := by
  have e : jw_st o j = (jw_fts.getD c []).getD j 9 := by unfold jw_st; rw [ht, if_pos hc2]
  unfold jw_fv
  rw [e, hs, h2]; rfl
theorem jw_fvN {z : Nat} {o j c : Nat} {x : Int} (ht : jw_tag o = c) (hc2 : c < 20) (hs : (jw_fts.getD c []).getD j 9 = 2) : jw_rg (jw_st o j) x := by
  have e : jw_st o j = (jw_fts.getD c []).getD j 9 := by unfold jw_st; rw [ht, if_pos hc2]
  rw [e, hs]; exact trivial
end
