def jw_room (h kc ks : Nat) : Room := { frames := h, cells := kc, slots := ks, locals := 64 * h }
def jw_B (G : jw_G) (w : Bool) (M : jw_M) (U : State) : Prop :=
  va_P (jw_gD G) vwCl (jw_wl G w M) U.heap ∧ va_D (jw_A G) (jw_wl G w M) ∧ va_K (jw_gD G) vwCl (jw_tys G) U ∧ jw_St G U U.heap ∧ jw_gz G ≤ U.heap.size ∧ (w = false → U.heap.size = jw_gz G + jw_n false M)
def jw_ro (G : jw_G) (rk : Nat) (v : Int) : Option Value := (jw_rv G rk v).head?
def jw_Qc (G : jw_G) (rk : Nat) (w : Bool) (v : Int) (M' : jw_M) : Array Value → State → Outcome → State → Prop := fun _ s o t => o = .returned (jw_ro G rk v) ∧ jw_B G w M' t ∧ va_F (jw_A G) s t
/-- a method's contract: called with these values over this memory it comes to 'res' -/
def jw_Ct {α : Type} (G : jw_G) (Y : jw_Y) (ret : Option FieldType) (h kc ks : Nat) (w : Bool) (lf : α → Int × jw_M) (y : MethodName) (av : List Value) (M : jw_M) (res : Option α) : Prop :=
  jw_Rg M → ∀ x : α, res = some x → (jw_rr (jw_yr Y) (lf x).1 ∧ jw_Rg (lf x).2) ∧ Met (jw_gl G) y (Cond.code y (jw_yc Y) (jw_yn Y) ret :: jw_tbl) (jw_room h kc ks) (va_Pc av (jw_B G w M)) (jw_Qc G (jw_yr Y) w (lf x).1 (lf x).2) kc ks (jw_A G)
def jw_rt (rk : Nat) (ret : Option FieldType) : Prop := if rk = 0 then ret = none else if rk = 1 then ret = some .int else if rk = 2 then ret = some .long else if rk = 3 then ret = some (.object "java/lang/String") else if rk = 4 then ret = some .boolean else False
section
variable {p : Program} {l : Launch} {e : Env} {R : Room} {s : State} {m : MethodId} {args : Array Value} {below : List Frame} {meth : Method} {c : Code} {H : Heap} {locs : List Loc} {cells slots : Nat} {Q : State → Prop}
theorem jw_size {g : JFrame} (k : H.size ≤ s.heap.size + cells → W p l e R s m args below meth c H locs cells slots Q g) : W p l e R s m args below meth c H locs cells slots Q g := fun T hT X => k (by rw [← hT]; exact X.heapSize) T hT X
end
theorem jw_St_at {G : jw_G} {s t : State} {H : Heap} {locs : List Loc} (h : jw_St G s s.heap) (hS : va_S (jw_A G) s.heap H locs) (ht : t.heap = H) (hW : s.WarmedH t.vm) : jw_St G t t.heap := by
  rw [ht]
  exact (h.kept hS.2.1).warm hW
theorem jw_met {α : Type} {G : jw_G} {Y : jw_Y} {ret : Option FieldType} {h kc ks : Nat} {w : Bool} {lf : α → Int × jw_M} {y : MethodName} {av : List Value} {M : jw_M} {res : Option α}
    (hy : plainName y.cls = true) (hc1 : y.cls = jw_yo Y) (hc2 : y.name = jw_ym Y) (hrt : jw_rt (jw_yr Y) ret) (hsl : (lg_sl av).length ≤ jw_yn Y) (k : jw_Rn G Y h kc ks w lf 0 (lv_args 0 av) [] M res) : jw_Ct G Y ret h kc ks w lf y av M res := by
  intro hg x hr
  obtain ⟨h1, h2⟩ := k hg x hr
  refine ⟨h1, Met.ofW (cc := jw_yc Y) (maxL := jw_yn Y) (ret := ret) hy rfl ?_⟩
  intro p e s m args below meth c s₁ B hml hv
  obtain ⟨rfl, hB⟩ := hv
  have hts := atoms_spec (ws := Cond.code y (jw_yc Y) (jw_yn Y) ret :: jw_tbl) B.pre
  have hl := lv_entry av (n := jw_yn Y) hsl
  rw [lg_entry_eq]
  generalize (lg_sl av ++ List.replicate (jw_yn Y - (lg_sl av).length) Slot.unset).toArray = ls at hl ⊢
  have hlocks : meth.locks = false := B.notSynchronized
  refine h2 p e s m av.toArray below meth c _ _ 0 0 s.heap [] ls ⟨B.exec, B.bytes, hml, ?_, ?_, fun w hw => hts w (List.mem_cons_of_mem _ hw), hB.2.2.1, hB.2.2.2.1, hB.2.2.2.2.1, ⟨Nat.le_refl _, Nat.le_refl _⟩, ?_, ?_⟩ ⟨hB.1, hB.2.1, va_S.rf, fun hw => ?_⟩ hl ?_
  · rw [← hc1]; exact findClass_of_methodNamed B.named
  · rw [← hc2]; exact (name_of_methodNamed B.named B.method).1
  · show 0 + kc ≤ kc; omega
  · show 0 + ks ≤ ks; omega
  · subst hw
    have := hB.2.2.2.2.2 rfl
    omega
  · intro H locs ls' pc P hd
    rw [Nat.zero_add, Nat.zero_add]
    refine jw_size (fun hsz => ?_)
    have hq : ∀ t : State, t.heap = H → s.WarmedH t.vm → jw_Qc G (jw_yr Y) w (lf x).1 (lf x).2 av.toArray s (.returned (jw_ro G (jw_yr Y) (lf x).1)) t := by
      intro t ht hW
      refine ⟨rfl, ⟨by rw [ht]; exact P.1, P.2.1, va_K.moved hW.alike hB.2.2.1, jw_St_at hB.2.2.2.1 P.2.2.1 ht hW, ?_, ?_⟩, P.2.2.1.F ht⟩
      · rw [ht]; exact Nat.le_trans hB.2.2.2.2.1 P.2.2.1.1
      · intro hw
        subst hw
        have h3 := P.2.2.2 rfl
        rw [ht]
        omega
    have hf : ∀ q ∈ locs, jw_A G q.base := P.2.2.1.2.2
    have hr := B.returns
    unfold jw_ro at hq
    unfold jw_rt at hrt
    generalize jw_yr Y = rk at *
    by_cases h0 : rk = 0
    · subst h0
      rw [if_pos rfl] at hrt
      exact W.vret B.exec B.bytes (hr.trans hrt) hq hf hd
    · by_cases h1' : rk = 1
      · subst h1'
        simp only [Nat.one_ne_zero, if_false, if_true] at hrt
        exact W.iret B.exec B.bytes (hr.trans hrt) hq hf hd
      · by_cases h2' : rk = 2
        · subst h2'
          simp only [Nat.reduceEqDiff, if_false, if_true] at hrt
          exact W.lret B.exec B.bytes (hr.trans hrt) hq hf hd
        · by_cases h3 : rk = 3
          · subst h3
            simp only [Nat.reduceEqDiff, if_false, if_true] at hrt
            exact W.aret B.exec B.bytes (hr.trans hrt) (Or.inl ⟨_, rfl⟩) (Or.inr ⟨_, rfl⟩) hq hf hd
          · rw [if_neg h0, if_neg h1', if_neg h2', if_neg h3] at hrt
            by_cases h4 : rk = 4
            · subst h4
              rw [if_pos rfl] at hrt
              have hv : (lf x).1 = 0 ∨ (lf x).1 = 1 := h1.1
              exact W.zret B.exec B.bytes (hr.trans hrt) (by rcases hv with hv | hv <;> rw [hv] <;> rfl) hq hf hd
            · rw [if_neg h4] at hrt
              exact hrt.elim
