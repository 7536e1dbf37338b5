def jw_room (h kc ks : Nat) : Room := { frames := h, cells := kc, slots := ks, locals := 64 * h }
def jw_B (G : jw_G) (w : Bool) (M : jw_M) (U : State) : Prop :=
  va_P (jw_gD G) vwCl (jw_wl G w M) U.heap ∧ va_D (jw_A G) (jw_wl G w M) ∧ va_K (jw_gD G) vwCl (jw_tys G) U ∧ jw_St G U U.heap ∧ jw_gz G ≤ U.heap.size ∧ (w = false → U.heap.size = jw_gz G + jw_n false M)
def jw_ro (G : jw_G) (rk : Nat) (v : Int) : Option Value := (jw_rv G rk v).head?
def jw_Qc (G : jw_G) (rk : Nat) (w : Bool) (v : Int) (M' : jw_M) : Array Value → State → Outcome → State → Prop := fun _ s o t => o = .returned (jw_ro G rk v) ∧ jw_B G w M' t ∧ va_F (jw_A G) s t
/-- a method's contract: called with these values over this memory it comes to 'res' -/
def jw_Ct {α : Type} (G : jw_G) (Y : jw_Y) (ret : Option FieldType) (h kc ks : Nat) (w : Bool) (lf : α → Int × jw_M) (y : MethodName) (av : List Value) (M : jw_M) (res : Option α) : Prop :=
  jw_Rg M → ∀ x : α, res = some x → (jw_rr (jw_yr Y) (lf x).1 ∧ jw_Rg (lf x).2 ∧ (w = false → jw_n false (lf x).2 = jw_n false M + kc)) ∧ Met (jw_gl G) y (Cond.code y (jw_yc Y) (jw_yn Y) ret :: jw_tbl) (jw_room h kc ks) (va_Pc av (jw_B G w M)) (jw_Qc G (jw_yr Y) w (lf x).1 (lf x).2) kc ks (jw_A G)
def jw_rt (rk : Nat) (ret : Option FieldType) : Prop := if rk = 0 then ret = none else if rk = 1 then ret = some .int else if rk = 2 then ret = some .long else if rk = 3 then ret = some (.object "java/lang/String") else if rk = 4 then ret = some .boolean else False
section
variable {p : Program} {l : Launch} {e : Env} {R : Room} {s : State} {m : MethodId} {args : Array Value} {below : List Frame} {meth : Method} {c : Code} {H : Heap} {locs : List Loc} {cells slots : Nat} {Q : State → Prop}
theorem jw_size {g : JFrame} (k : H.size ≤ s.heap.size + cells → W p l e R s m args below meth c H locs cells slots Q g) : W p l e R s m args below meth c H locs cells slots Q g := fun T hT X => k (by rw [← hT]; exact X.heapSize) T hT X
end
theorem jw_St_at {G : jw_G} {s t : State} {H : Heap} {locs : List Loc} (h : jw_St G s s.heap) (hS : va_S (jw_A G) s.heap H locs) (ht : t.heap = H) (hW : s.WarmedH t.vm) : jw_St G t t.heap := by
  rw [ht]
  exact (h.kept hS.2.1).warm hW
theorem jw_met {α : Type} {G : jw_G} {Y : jw_Y} {ret : Option FieldType} {h kc ks : Nat} {w : Bool} {lf : α → Int × jw_M} {y : MethodName} {av : List Value} {M : jw_M} {res : Option α}
    (hy : plainName y.cls = true) (hc1 : y.cls = jw_yo Y) (hc2 : y.name = jw_ym Y) (hrt : jw_rt (jw_yr Y) ret) (hsl : (lg_sl av).length ≤ jw_yn Y) (k : jw_Rn G Y h kc ks w lf 0 (lv_args 0 av) [] M res) : jw_Ct G Y ret h kc ks w lf y av M res := by
  intro hg x hr
  obtain ⟨h1, h2⟩ := k hg x hr
  refine ⟨h1, Met.ofW (cc := jw_yc Y) (maxL := jw_yn Y) (ret := ret) hy rfl ?_⟩
  intro p e s m args below meth c s₁ B hml hv
  obtain ⟨rfl, hB⟩ := hv
  have hts := atoms_spec (ws := Cond.code y (jw_yc Y) (jw_yn Y) ret :: jw_tbl) B.pre
  have hl := lv_entry av (n := jw_yn Y) hsl
  rw [lg_entry_eq]
  generalize (lg_sl av ++ List.replicate (jw_yn Y - (lg_sl av).length) Slot.unset).toArray = ls at hl ⊢
  have hlocks : meth.locks = false := B.notSynchronized
  refine h2 p e s m av.toArray below meth c _ _ 0 0 s.heap [] ls ⟨B.exec, B.bytes, hml, ?_, ?_, fun w hw => hts w (List.mem_cons_of_mem _ hw), hB.2.2.1, hB.2.2.2.1, hB.2.2.2.2.1, ⟨Nat.le_refl _, Nat.le_refl _⟩, ?_, ?_⟩ ⟨hB.1, hB.2.1, va_S.rf, fun hw => ?_⟩ hl ?_
  · rw [← hc1]; exact findClass_of_methodNamed B.named
  · rw [← hc2]; exact (name_of_methodNamed B.named B.method).1
  · show 0 + kc ≤ kc; omega
  · show 0 + ks ≤ ks; omega
  · subst hw
    have := hB.2.2.2.2.2 rfl
    omega
  · intro H locs ls' pc P hd
    rw [Nat.zero_add, Nat.zero_add]
    refine jw_size (fun hsz => ?_)
    have hq : ∀ t : State, t.heap = H → s.WarmedH t.vm → jw_Qc G (jw_yr Y) w (lf x).1 (lf x).2 av.toArray s (.returned (jw_ro G (jw_yr Y) (lf x).1)) t := by
      intro t ht hW
      refine ⟨rfl, ⟨by rw [ht]; exact P.1, P.2.1, va_K.moved hW.alike hB.2.2.1, jw_St_at hB.2.2.2.1 P.2.2.1 ht hW, ?_, ?_⟩, P.2.2.1.F ht⟩
      · rw [ht]; exact Nat.le_trans hB.2.2.2.2.1 P.2.2.1.1
      · intro hw
        subst hw
        have h3 := P.2.2.2 rfl
        rw [ht]
        omega
    have hf : ∀ q ∈ locs, jw_A G q.base := P.2.2.1.2.2
    have hr := B.returns
    unfold jw_ro at hq
    unfold jw_rt at hrt
    generalize jw_yr Y = rk at *
    by_cases h0 : rk = 0
    · subst h0
      rw [if_pos rfl] at hrt
      exact W.vret B.exec B.bytes (hr.trans hrt) hq hf hd
    · by_cases h1' : rk = 1
      · subst h1'
        simp only [Nat.one_ne_zero, if_false, if_true] at hrt
        exact W.iret B.exec B.bytes (hr.trans hrt) hq hf hd
      · by_cases h2' : rk = 2
        · subst h2'
          simp only [Nat.reduceEqDiff, if_false, if_true] at hrt
          exact W.lret B.exec B.bytes (hr.trans hrt) hq hf hd
        · by_cases h3 : rk = 3
          · subst h3
            simp only [Nat.reduceEqDiff, if_false, if_true] at hrt
            exact W.aret B.exec B.bytes (hr.trans hrt) (Or.inl ⟨_, rfl⟩) (Or.inr ⟨_, rfl⟩) hq hf hd
          · rw [if_neg h0, if_neg h1', if_neg h2', if_neg h3] at hrt
            by_cases h4 : rk = 4
            · subst h4
              rw [if_pos rfl] at hrt
              have hv : (lf x).1 = 0 ∨ (lf x).1 = 1 := h1.1
              exact W.zret B.exec B.bytes (hr.trans hrt) (by rcases hv with hv | hv <;> rw [hv] <;> rfl) hq hf hd
            · rw [if_neg h4] at hrt
              exact hrt.elim
theorem jw_ro_l (G : jw_G) (rk : Nat) (v : Int) : (jw_ro G rk v).toList = jw_rv G rk v := by
  unfold jw_ro jw_rv
  split
  · rfl
  · split
    · rfl
    · split <;> rfl
theorem jw_blind {G : jw_G} {w : Bool} {M : jw_M} {av : List Value} : FrameBlind (va_Pc av (jw_B G w M)) := by
  intro a U g mk q
  obtain ⟨q0, q1, q2, q3, q4, q5, q6⟩ := q
  exact ⟨q0, q1, q2, va_K.moved (u := U) (U := U.calling g mk a) (Vm.Alike.refl U.vm) q3, jw_St.same (u := U) (U := U.calling g mk a) rfl q4, q5, q6⟩
section
variable {p : Program} {e : Env} {R : Room} {s : State} {m : MethodId} {args : Array Value} {below : List Frame} {meth : Method} {c : Code} {H : Heap} {locs : List Loc} {cells slots : Nat} {Q : State → Prop}
theorem jw_after {G : jw_G} {rk : Nat} {w : Bool} {v : Int} {M1 : jw_M} {a : Array Value} {mc ms pc : Nat} {ls : Array Slot} {st0 rest : List Value} (hr : va_Run p (jw_gl G) e R s m args below meth c H locs cells slots mc ms (F0 m pc ls st0) rest (jw_Qc G rk w v M1 a) (jw_A G)) (hS : va_S (jw_A G) s.heap H locs)
    (kk : ∀ (H1 : Heap) (locs1 : List Loc), va_P (jw_gD G) vwCl (jw_wl G w M1) H1 → va_D (jw_A G) (jw_wl G w M1) → va_S (jw_A G) s.heap H1 locs1 → (w = false → H1.size = jw_gz G + jw_n false M1) → H.size ≤ H1.size → W p (jw_gl G) e R s m args below meth c H1 locs1 (cells + mc) (slots + ms) Q (F0 m (pc + 3) ls (jw_rv G rk v ++ rest))) : W p (jw_gl G) e R s m args below meth c H locs cells slots Q (F0 m pc ls st0) := by
  intro T hT X
  obtain ⟨v', st₀, t, T', L, h0, X', hL, e1, e2, ⟨hv, hB, hz, hk⟩, st⟩ := hr T hT X
  have hv' : v' = jw_ro G rk v := by injection hv
  rw [h0] at hz hk
  obtain ⟨t2, a1, b1⟩ := kk T'.heap (locs ++ L) (by rw [e1]; exact hB.1) hB.2.1 ⟨Nat.le_trans hS.1 (by rw [e1]; exact hz), fun q h1 h2 => by rw [e1, hk q (Nat.lt_of_lt_of_le h1 hS.1) h2]; exact hS.2.1 q h1 h2, fun q hq => by
      rcases List.mem_append.mp hq with h | h
      · exact hS.2.2 q h
      · exact hL q h⟩ (fun hw => by rw [e1]; exact hB.2.2.2.2.2 hw) (by rw [e1]; exact hz) T' rfl X'
  refine ⟨t2, st t2 ?_, b1⟩
  rw [hv', jw_ro_l]
  exact a1
end
/-- what a call asks of the tables and of the room -/
def jw_cl (G : jw_G) (Y Y2 : jw_Y) (ret : Option FieldType) (y : MethodName) (n h h2 : Nat) : Prop :=
  h2 + 1 ≤ h ∧ jw_yn Y2 ≤ 40 ∧ Cond.code y (jw_yc Y2) (jw_yn Y2) ret ∈ jw_tbl ∧ Cond.initialized y.cls ∈ jw_tbl ∧ (y.cls ≠ "java/lang/invoke/MethodHandle" ∧ y.cls ≠ "java/lang/invoke/VarHandle") ∧ (parseMethodDescriptor y.desc).map (fun d => d.parameters.length) = some n
theorem jw_cb {G : jw_G} {Y Y2 : jw_Y} {ret : Option FieldType} {y : MethodName} {n h h2 k2 s2 index : Nat} {R : Room} {s : State} {args : Array Value} (hc : jw_cl G Y Y2 ret y n h h2) (hts : ∀ w ∈ jw_tbl, w.before args s = true) (hR : h ≤ R.frames ∧ 64 * h ≤ R.locals) (hl : Cond.methodLink (jw_yo Y) index y ∈ jw_tbl) : CallB R s args (jw_yo Y) index y (jw_yc Y2) (jw_yn Y2) ret (Cond.code y (jw_yc Y2) (jw_yn Y2) ret :: jw_tbl) (jw_room h2 k2 s2) k2 s2 n := by
  obtain ⟨c1, c2, c3, c4, c5, c6⟩ := hc
  refine ⟨rfl, rfl, ?_, ?_, ?_, List.mem_cons_self, hts _ c3, hts _ c4, c5, ?_, hts _ hl⟩
  · show h2 + 1 ≤ R.frames; omega
  · show 8 + (jw_yn Y2 + 11) + 64 * h2 ≤ R.locals; omega
  · intro w hw a' U hW
    rcases List.mem_cons.mp hw with rfl | hw
    · exact jw_warm (jw_tbl_ok _ c3) hW (hts _ c3)
    · exact jw_warm (jw_tbl_ok _ hw) hW (hts _ hw)
  · intro sig hs
    rw [hs] at c6
    exact (Option.some.inj c6).symm
theorem jw_cn {G : jw_G} {Y Y2 : jw_Y} {ret : Option FieldType} {y : MethodName} {n h h2 k2 s2 index : Nat} {host : String} {R : Room} {s : State} {args : Array Value} (hc : jw_cl G Y Y2 ret y n h h2) (hts : ∀ w ∈ jw_tbl, w.before args s = true) (hR : h ≤ R.frames ∧ 64 * h ≤ R.locals) (hl : Cond.methodLinkNest (jw_yo Y) index y host ∈ jw_tbl) : va_CN R s args (jw_yo Y) index y host (jw_yc Y2) (jw_yn Y2) ret (Cond.code y (jw_yc Y2) (jw_yn Y2) ret :: jw_tbl) (jw_room h2 k2 s2) k2 s2 n := by
  obtain ⟨c1, c2, c3, c4, c5, c6⟩ := hc
  refine ⟨⟨rfl, rfl, ?_, ?_, ?_, List.mem_cons_self⟩, hts _ c3, hts _ c4, c5, ?_, hts _ hl⟩
  · show h2 + 1 ≤ R.frames; omega
  · show 8 + (jw_yn Y2 + 11) + 64 * h2 ≤ R.locals; omega
  · intro w hw a' U hW
    rcases List.mem_cons.mp hw with rfl | hw
    · exact jw_warm (jw_tbl_ok _ c3) hW (hts _ c3)
    · exact jw_warm (jw_tbl_ok _ hw) hW (hts _ hw)
  · intro sig hs
    rw [hs] at c6
    exact (Option.some.inj c6).symm
theorem jw_C_k {G : jw_G} {Y : jw_Y} {h k2 s2 kc ks : Nat} {p : Program} {s : State} {m : MethodId} {args : Array Value} {meth : Method} {c : Code} {R : Room} {cells slots : Nat} (C : jw_C G Y h (k2 + kc) (s2 + ks) p s m args meth c R cells slots) : jw_C G Y h kc ks p s m args meth c R (cells + k2) (slots + s2) := by
  obtain ⟨c1, c2, c3, c4, c5, c6, c7, c8, c9, c10, c11, c12⟩ := C
  exact ⟨c1, c2, c3, c4, c5, c6, c7, c8, c9, c10, by omega, by omega⟩
theorem jw_F_k {G : jw_G} {Y : jw_Y} {k2 s2 kc ks : Nat} {w : Bool} {v : Int} {M' : jw_M} {p : Program} {e : Env} {s : State} {m : MethodId} {args : Array Value} {below : List Frame} {meth : Method} {c : Code} {R : Room} {Q : State → Prop} {cells slots : Nat} (F : jw_F G Y (k2 + kc) (s2 + ks) w v M' p e s m args below meth c R Q cells slots) : jw_F G Y kc ks w v M' p e s m args below meth c R Q (cells + k2) (slots + s2) := by
  intro H locs ls pc P hd
  have := F H locs ls pc (by rw [← Nat.add_assoc]; exact P) hd
  rw [← Nat.add_assoc, ← Nat.add_assoc] at this
  exact this
section
variable {α β : Type} {G : jw_G} {Y Y2 : jw_Y} {ret : Option FieldType} {h h2 kc ks n index : Nat} {w : Bool} {pc : Nat} {lv : List (Nat × Value)} {st stk As : List Value} {M : jw_M} {lf : α → Int × jw_M} {lg : β → Int × jw_M} {y : MethodName} {fr : Option β} {kk : β → Option α}
theorem jw_callV {Cn : String} {T : u_T} {N c o : Nat} (hd : decode (jw_yc Y) pc = .ok (.invokevirtual index, 3)) (hc : jw_cl G Y Y2 ret y n h h2) (hl : Cond.methodLink (jw_yo Y) index y ∈ jw_tbl) (hi : Cond.instanceMethod y ∈ jw_tbl) (hs : Cond.selects y.cls y y ∈ jw_tbl) (hn : As.length = n) (hk : stk = As.reverse ++ jR G o :: st) (hst : (st.map fun v => v.category).sum ≤ 8)
    (hcl : vwCl[c]? = some (Cn, T, N)) (hCn : Cn = y.cls) (ht : jw_tag o = c) (hN : jw_len o = N) (hc2 : c < 20) (ho : o < jw_n w M) (hC : jw_Ct G Y2 ret h2 0 0 w lg y (jR G o :: As) M fr)
    (k : ∀ x : β, jw_rr (jw_yr Y2) (lg x).1 → jw_Rn G Y h kc ks w lf (pc + 3) lv (jw_rv G (jw_yr Y2) (lg x).1 ++ st) (lg x).2 (kk x)) : jw_Rn G Y h kc ks w lf pc lv stk M (fr.bind kk) := by
  skip
  intro hg z hz
  cases hf : fr with
  | none => rw [hf] at hz; cases hz
  | some x =>
    rw [hf] at hz
    obtain ⟨⟨g1, g2, g3⟩, hM⟩ := hC hg x hf
    obtain ⟨h1, hW⟩ := k x g1 g2 z hz
    refine ⟨⟨h1.1, h1.2.1, fun hw => by rw [h1.2.2 hw, g3 hw]; omega⟩, fun p e s m args below meth cd R Q cells slots H locs ls C P hh F => ?_⟩
    refine jw_size (fun hsz => ?_)
    have hat := jw_wl_at G w M ho
    rw [jw_ce_obj ht hN hc2] at hat
    subst hk hCn
    refine jw_after (mc := 0) (ms := 0) (va_runV (b := jw_gz G + o) (As := As) (rest := st) ⟨C.1, C.2.1, C.2.2.1, C.2.2.2.1, C.2.2.2.2.2.1⟩ hM ⟨jw_cb hc C.2.2.2.2.2.1 C.2.2.2.2.2.2.2.2.2.1 hl, C.2.2.2.2.2.1 _ hi, C.2.2.2.2.2.1 _ hs⟩ ⟨jw_blind, va_recv C.2.2.2.2.2.2.1 P.1 hcl hat, fun U hU hW => ⟨rfl, by rw [hU]; exact P.1, P.2.1, va_K.moved hW.alike C.2.2.2.2.2.2.1, jw_St_at C.2.2.2.2.2.2.2.1 P.2.2.1 hU hW, ?_, ?_⟩⟩ rfl hn hh.1 rfl (lv_room hst) hd ⟨?_, ?_⟩) P.2.2.1 (fun H1 locs1 q1 q2 q3 q4 q5 => ?_)
    · rw [hU]; exact Nat.le_trans C.2.2.2.2.2.2.2.2.1 P.2.2.1.1
    · intro hw
      rw [hU]
      have := P.2.2.2 hw
      omega
    · have := C.2.2.2.2.2.2.2.2.2.2.1; omega
    · have := C.2.2.2.2.2.2.2.2.2.2.2; omega
    · refine hW p e s m args below meth cd R Q cells slots H1 locs1 ls C ⟨q1, q2, q3, fun hw => ?_⟩ hh F
      have h5 := q4 hw
      have h6 := P.2.2.2 hw
      have h7 := g3 hw
      omega
theorem jw_callS (hd : decode (jw_yc Y) pc = .ok (.invokestatic index, 3)) (hc : jw_cl G Y Y2 ret y n h h2) (hl : Cond.methodLink (jw_yo Y) index y ∈ jw_tbl) (hi : Cond.static y ∈ jw_tbl) (hn : As.length = n) (hk : stk = As.reverse ++ st) (hst : (st.map fun v => v.category).sum ≤ 8)
    (hC : jw_Ct G Y2 ret h2 0 0 w lg y (As) M fr)
    (k : ∀ x : β, jw_rr (jw_yr Y2) (lg x).1 → jw_Rn G Y h kc ks w lf (pc + 3) lv (jw_rv G (jw_yr Y2) (lg x).1 ++ st) (lg x).2 (kk x)) : jw_Rn G Y h kc ks w lf pc lv stk M (fr.bind kk) := by
  skip
  intro hg z hz
  cases hf : fr with
  | none => rw [hf] at hz; cases hz
  | some x =>
    rw [hf] at hz
    obtain ⟨⟨g1, g2, g3⟩, hM⟩ := hC hg x hf
    obtain ⟨h1, hW⟩ := k x g1 g2 z hz
    refine ⟨⟨h1.1, h1.2.1, fun hw => by rw [h1.2.2 hw, g3 hw]; omega⟩, fun p e s m args below meth cd R Q cells slots H locs ls C P hh F => ?_⟩
    refine jw_size (fun hsz => ?_)
    subst hk
    refine jw_after (mc := 0) (ms := 0) (va_runS (As := As) (rest := st) ⟨C.1, C.2.1, C.2.2.1, C.2.2.2.1, C.2.2.2.2.2.1⟩ hM ⟨jw_cb hc C.2.2.2.2.2.1 C.2.2.2.2.2.2.2.2.2.1 hl, C.2.2.2.2.2.1 _ hi⟩ ⟨jw_blind, fun U hU hW => ⟨rfl, by rw [hU]; exact P.1, P.2.1, va_K.moved hW.alike C.2.2.2.2.2.2.1, jw_St_at C.2.2.2.2.2.2.2.1 P.2.2.1 hU hW, ?_, ?_⟩⟩ rfl hn hh.1 rfl (lv_room hst) hd ⟨?_, ?_⟩) P.2.2.1 (fun H1 locs1 q1 q2 q3 q4 q5 => ?_)
    · rw [hU]; exact Nat.le_trans C.2.2.2.2.2.2.2.2.1 P.2.2.1.1
    · intro hw
      rw [hU]
      have := P.2.2.2 hw
      omega
    · have := C.2.2.2.2.2.2.2.2.2.2.1; omega
    · have := C.2.2.2.2.2.2.2.2.2.2.2; omega
    · refine hW p e s m args below meth cd R Q cells slots H1 locs1 ls C ⟨q1, q2, q3, fun hw => ?_⟩ hh F
      have h5 := q4 hw
      have h6 := P.2.2.2 hw
      have h7 := g3 hw
      omega
theorem jw_callI {k2 s2 kc' ks' o : Nat} (hd : decode (jw_yc Y) pc = .ok (.invokespecial index, 3)) (hc : jw_cl G Y Y2 ret y n h h2) (hl : Cond.methodLink (jw_yo Y) index y ∈ jw_tbl) (hi : Cond.instanceMethod y ∈ jw_tbl) (hrn : ret = none) (hin : y.name = "<init>") (hn : As.length = n) (hk : stk = As.reverse ++ jR G o :: st) (hst : (st.map fun v => v.category).sum ≤ 8)
    (hkc : kc = k2 + kc') (hks : ks = s2 + ks') (hC : jw_Ct G Y2 ret h2 k2 s2 w lg y (jR G o :: As) M fr)
    (k : ∀ x : β, jw_rr (jw_yr Y2) (lg x).1 → jw_Rn G Y h kc' ks' w lf (pc + 3) lv (jw_rv G (jw_yr Y2) (lg x).1 ++ st) (lg x).2 (kk x)) : jw_Rn G Y h kc ks w lf pc lv stk M (fr.bind kk) := by
  subst hkc hks
  intro hg z hz
  cases hf : fr with
  | none => rw [hf] at hz; cases hz
  | some x =>
    rw [hf] at hz
    obtain ⟨⟨g1, g2, g3⟩, hM⟩ := hC hg x hf
    obtain ⟨h1, hW⟩ := k x g1 g2 z hz
    refine ⟨⟨h1.1, h1.2.1, fun hw => by rw [h1.2.2 hw, g3 hw]; omega⟩, fun p e s m args below meth cd R Q cells slots H locs ls C P hh F => ?_⟩
    refine jw_size (fun hsz => ?_)
    subst hk hrn
    refine jw_after (mc := k2) (ms := s2) (va_runI (b := jw_gz G + o) (As := As) (rest := st) ⟨C.1, C.2.1, C.2.2.1, C.2.2.2.1, C.2.2.2.2.2.1⟩ hM ⟨jw_cb hc C.2.2.2.2.2.1 C.2.2.2.2.2.2.2.2.2.1 hl, hin, C.2.2.2.2.2.1 _ hi⟩ ⟨jw_blind, fun U hU hW => ⟨rfl, by rw [hU]; exact P.1, P.2.1, va_K.moved hW.alike C.2.2.2.2.2.2.1, jw_St_at C.2.2.2.2.2.2.2.1 P.2.2.1 hU hW, ?_, ?_⟩⟩ rfl hn hh.1 rfl (lv_room hst) hd ⟨?_, ?_⟩) P.2.2.1 (fun H1 locs1 q1 q2 q3 q4 q5 => ?_)
    · rw [hU]; exact Nat.le_trans C.2.2.2.2.2.2.2.2.1 P.2.2.1.1
    · intro hw
      rw [hU]
      have := P.2.2.2 hw
      omega
    · have := C.2.2.2.2.2.2.2.2.2.2.1; omega
    · have := C.2.2.2.2.2.2.2.2.2.2.2; omega
    · refine hW p e s m args below meth cd R Q (cells + k2) (slots + s2) H1 locs1 ls (jw_C_k C) ⟨q1, q2, q3, fun hw => ?_⟩ hh (jw_F_k F)
      have h5 := q4 hw
      have h6 := P.2.2.2 hw
      have h7 := g3 hw
      omega
theorem jw_callIN {k2 s2 kc' ks' o : Nat} {host : String} (hd : decode (jw_yc Y) pc = .ok (.invokespecial index, 3)) (hc : jw_cl G Y Y2 ret y n h h2) (hl : Cond.methodLinkNest (jw_yo Y) index y host ∈ jw_tbl) (hi : Cond.instanceMethod y ∈ jw_tbl) (hrn : ret = none) (hin : y.name = "<init>") (hn : As.length = n) (hk : stk = As.reverse ++ jR G o :: st) (hst : (st.map fun v => v.category).sum ≤ 8)
    (hkc : kc = k2 + kc') (hks : ks = s2 + ks') (hC : jw_Ct G Y2 ret h2 k2 s2 w lg y (jR G o :: As) M fr)
    (k : ∀ x : β, jw_rr (jw_yr Y2) (lg x).1 → jw_Rn G Y h kc' ks' w lf (pc + 3) lv (jw_rv G (jw_yr Y2) (lg x).1 ++ st) (lg x).2 (kk x)) : jw_Rn G Y h kc ks w lf pc lv stk M (fr.bind kk) := by
  subst hkc hks
  intro hg z hz
  cases hf : fr with
  | none => rw [hf] at hz; cases hz
  | some x =>
    rw [hf] at hz
    obtain ⟨⟨g1, g2, g3⟩, hM⟩ := hC hg x hf
    obtain ⟨h1, hW⟩ := k x g1 g2 z hz
    refine ⟨⟨h1.1, h1.2.1, fun hw => by rw [h1.2.2 hw, g3 hw]; omega⟩, fun p e s m args below meth cd R Q cells slots H locs ls C P hh F => ?_⟩
    refine jw_size (fun hsz => ?_)
    subst hk hrn
    refine jw_after (mc := k2) (ms := s2) (va_runIN (b := jw_gz G + o) (As := As) (rest := st) ⟨C.1, C.2.1, C.2.2.1, C.2.2.2.1, C.2.2.2.2.2.1⟩ hM ⟨jw_cn hc C.2.2.2.2.2.1 C.2.2.2.2.2.2.2.2.2.1 hl, hin, C.2.2.2.2.2.1 _ hi⟩ ⟨jw_blind, fun U hU hW => ⟨rfl, by rw [hU]; exact P.1, P.2.1, va_K.moved hW.alike C.2.2.2.2.2.2.1, jw_St_at C.2.2.2.2.2.2.2.1 P.2.2.1 hU hW, ?_, ?_⟩⟩ rfl hn hh.1 rfl (lv_room hst) hd ⟨?_, ?_⟩) P.2.2.1 (fun H1 locs1 q1 q2 q3 q4 q5 => ?_)
    · rw [hU]; exact Nat.le_trans C.2.2.2.2.2.2.2.2.1 P.2.2.1.1
    · intro hw
      rw [hU]
      have := P.2.2.2 hw
      omega
    · have := C.2.2.2.2.2.2.2.2.2.2.1; omega
    · have := C.2.2.2.2.2.2.2.2.2.2.2; omega
    · refine hW p e s m args below meth cd R Q (cells + k2) (slots + s2) H1 locs1 ls (jw_C_k C) ⟨q1, q2, q3, fun hw => ?_⟩ hh (jw_F_k F)
      have h5 := q4 hw
      have h6 := P.2.2.2 hw
      have h7 := g3 hw
      omega
end
