section
variable {G : jw_G} {Y : jw_Y} {h kc ks : Nat} {w : Bool} {pc : Nat} {lv : List (Nat × Value)} {st : List Value} {M : jw_M} {α : Type} {lf : α → Int × jw_M}
/-- a new name for the memory -/
theorem jw_letM {kk : jw_M → Option α} (k : ∀ M1 : jw_M, jw_Rn G Y h kc ks w lf pc lv st M1 (kk M1)) : jw_Rn G Y h kc ks w lf pc lv st M (Option.bind (some M) kk) := k M
theorem jw_istore_nL {i : Fin 4} {x : Int} {lv' : Value → List (Nat × Value)} {kk : Int → Option α} (hd : decode (jw_yc Y) pc = .ok (.istore_n i, 1)) (hx : jw_r x) (hn : (i : Nat) < jw_yn Y) (hl : ∀ y, ((i : Nat), jI y) :: lv.filter (fun q => !(q.1 == (i : Nat)) && !(q.1 + 1 == (i : Nat) && q.2.category == 2)) = lv' (jI y)) (k : ∀ y, jw_r y → jw_Rn G Y h kc ks w lf (pc + 1) (lv' (jI y)) st M (kk y)) : jw_Rn G Y h kc ks w lf pc lv (jI x :: st) M (Option.bind (some x) kk) := jw_istore_n hd hn (hl x) (k x hx)
theorem jw_istoreL {i : Nat} {x : Int} {lv' : Value → List (Nat × Value)} {kk : Int → Option α} (hd : decode (jw_yc Y) pc = .ok (.istore i, 2)) (hx : jw_r x) (hn : i < jw_yn Y) (hl : ∀ y, (i, jI y) :: lv.filter (fun q => !(q.1 == i) && !(q.1 + 1 == i && q.2.category == 2)) = lv' (jI y)) (k : ∀ y, jw_r y → jw_Rn G Y h kc ks w lf (pc + 2) (lv' (jI y)) st M (kk y)) : jw_Rn G Y h kc ks w lf pc lv (jI x :: st) M (Option.bind (some x) kk) := jw_istore hd hn (hl x) (k x hx)
theorem jw_lstore_nL {i : Fin 4} {x : Int} {lv' : Value → List (Nat × Value)} {kk : Int → Option α} (hd : decode (jw_yc Y) pc = .ok (.lstore_n i, 1)) (hx : jw_q x) (hn : (i : Nat) + 1 < jw_yn Y) (hl : ∀ y, ((i : Nat), jL y) :: lv.filter (fun q => !(q.1 == (i : Nat)) && (!(q.1 == (i : Nat) + 1) && !(q.1 + 1 == (i : Nat) && q.2.category == 2))) = lv' (jL y)) (k : ∀ y, jw_q y → jw_Rn G Y h kc ks w lf (pc + 1) (lv' (jL y)) st M (kk y)) : jw_Rn G Y h kc ks w lf pc lv (jL x :: st) M (Option.bind (some x) kk) := jw_lstore_n hd hn (hl x) (k x hx)
theorem jw_lstoreL {i : Nat} {x : Int} {lv' : Value → List (Nat × Value)} {kk : Int → Option α} (hd : decode (jw_yc Y) pc = .ok (.lstore i, 2)) (hx : jw_q x) (hn : i + 1 < jw_yn Y) (hl : ∀ y, (i, jL y) :: lv.filter (fun q => !(q.1 == i) && (!(q.1 == i + 1) && !(q.1 + 1 == i && q.2.category == 2))) = lv' (jL y)) (k : ∀ y, jw_q y → jw_Rn G Y h kc ks w lf (pc + 2) (lv' (jL y)) st M (kk y)) : jw_Rn G Y h kc ks w lf pc lv (jL x :: st) M (Option.bind (some x) kk) := jw_lstore hd hn (hl x) (k x hx)
theorem jw_iincL {i : Nat} {n x : Int} (j : Nat) {lv' : Value → List (Nat × Value)} {kk : Int → Option α} (hd : decode (jw_yc Y) pc = .ok (.iinc i n, 3)) (hj : lv[j]? = some (i, jI x)) (hn : i < jw_yn Y) (hl : ∀ y, (i, jI y) :: lv.filter (fun q => !(q.1 == i) && !(q.1 + 1 == i && q.2.category == 2)) = lv' (jI y)) (k : ∀ y, jw_r y → jw_Rn G Y h kc ks w lf (pc + 3) (lv' (jI y)) st M (kk y)) : jw_Rn G Y h kc ks w lf pc lv st M (Option.bind (some (jw_w (x + n))) kk) := jw_iinc j hd hj hn (hl _) (k _ (jw_wr _))
end
def jw_b2 {α : Type} (x : Option (Int × jw_M)) (k : Int → jw_M → Option α) : Option α := x.bind (fun q => k q.1 q.2)
theorem jw_b2_some {α : Type} (v : Int) (M : jw_M) (k : Int → jw_M → Option α) : jw_b2 (some (v, M)) k = k v M := rfl
def jw_fu : Nat := 100000
/-- how deep a method may call itself -/
abbrev jw_rn : Nat := 24
/-- what a callee is known to be -/
def jw_cy (Y2 : jw_Y) (ret : Option FieldType) (y : MethodName) (n : Nat) : Prop :=
  jw_yn Y2 ≤ 40 ∧ Cond.code y (jw_yc Y2) (jw_yn Y2) ret ∈ jw_tbl ∧ Cond.initialized y.cls ∈ jw_tbl ∧ (y.cls ≠ "java/lang/invoke/MethodHandle" ∧ y.cls ≠ "java/lang/invoke/VarHandle") ∧ (parseMethodDescriptor y.desc).map (fun d => d.parameters.length) = some n
section
variable {α : Type} {G : jw_G} {Y Y2 : jw_Y} {ret : Option FieldType} {h h2 kc ks n index : Nat} {w : Bool} {pc : Nat} {lv : List (Nat × Value)} {st stk As : List Value} {M : jw_M} {lf : α → Int × jw_M} {y : MethodName}
theorem jw_callVi {Cn : String} {T : u_T} {N c o : Nat} {fr : Option (Int)} {kk : Int → Option α} (hd : decode (jw_yc Y) pc = .ok (.invokevirtual index, 3)) (hk1 : jw_yr Y2 = 1) (hh : h2 + 1 ≤ h) (hcy : jw_cy Y2 ret y n) (hl : Cond.methodLink (jw_yo Y) index y ∈ jw_tbl) (hi : Cond.instanceMethod y ∈ jw_tbl) (hs : Cond.selects y.cls y y ∈ jw_tbl) (hn : As.length = n) (hk : stk = As.reverse ++ jR G o :: st) (hst : (st.map fun v => v.category).sum ≤ 8) (hcl : vwCl[c]? = some (Cn, T, N)) (hCn : Cn = y.cls) (ht : jw_tag o = c) (hN : jw_len o = N) (hc2 : c < 20) (ho : o < jw_n w M) (hC : jw_Ct G Y2 ret h2 0 0 w (fun v => (v, M)) y (jR G o :: As) M fr)
    (k : ∀ v : Int, jw_r v → jw_Rn G Y h kc ks w lf (pc + 3) lv (jI v :: st) M (kk v)) : jw_Rn G Y h kc ks w lf pc lv stk M (fr.bind kk) :=
  jw_callV (kk := kk) hd ⟨hh, hcy⟩ hl hi hs hn hk hst hcl hCn ht hN hc2 ho hC (fun x hx => by rw [hk1] at hx ⊢; exact k x hx)
theorem jw_callVz {Cn : String} {T : u_T} {N c o : Nat} {fr : Option (Int)} {kk : Int → Option α} (hd : decode (jw_yc Y) pc = .ok (.invokevirtual index, 3)) (hk1 : jw_yr Y2 = 4) (hh : h2 + 1 ≤ h) (hcy : jw_cy Y2 ret y n) (hl : Cond.methodLink (jw_yo Y) index y ∈ jw_tbl) (hi : Cond.instanceMethod y ∈ jw_tbl) (hs : Cond.selects y.cls y y ∈ jw_tbl) (hn : As.length = n) (hk : stk = As.reverse ++ jR G o :: st) (hst : (st.map fun v => v.category).sum ≤ 8) (hcl : vwCl[c]? = some (Cn, T, N)) (hCn : Cn = y.cls) (ht : jw_tag o = c) (hN : jw_len o = N) (hc2 : c < 20) (ho : o < jw_n w M) (hC : jw_Ct G Y2 ret h2 0 0 w (fun v => (v, M)) y (jR G o :: As) M fr)
    (k : ∀ v : Int, (v = 0 ∨ v = 1) → jw_Rn G Y h kc ks w lf (pc + 3) lv (jI v :: st) M (kk v)) : jw_Rn G Y h kc ks w lf pc lv stk M (fr.bind kk) :=
  jw_callV (kk := kk) hd ⟨hh, hcy⟩ hl hi hs hn hk hst hcl hCn ht hN hc2 ho hC (fun x hx => by rw [hk1] at hx ⊢; exact k x hx)
theorem jw_callVl {Cn : String} {T : u_T} {N c o : Nat} {fr : Option (Int)} {kk : Int → Option α} (hd : decode (jw_yc Y) pc = .ok (.invokevirtual index, 3)) (hk1 : jw_yr Y2 = 2) (hh : h2 + 1 ≤ h) (hcy : jw_cy Y2 ret y n) (hl : Cond.methodLink (jw_yo Y) index y ∈ jw_tbl) (hi : Cond.instanceMethod y ∈ jw_tbl) (hs : Cond.selects y.cls y y ∈ jw_tbl) (hn : As.length = n) (hk : stk = As.reverse ++ jR G o :: st) (hst : (st.map fun v => v.category).sum ≤ 8) (hcl : vwCl[c]? = some (Cn, T, N)) (hCn : Cn = y.cls) (ht : jw_tag o = c) (hN : jw_len o = N) (hc2 : c < 20) (ho : o < jw_n w M) (hC : jw_Ct G Y2 ret h2 0 0 w (fun v => (v, M)) y (jR G o :: As) M fr)
    (k : ∀ v : Int, jw_q v → jw_Rn G Y h kc ks w lf (pc + 3) lv (jL v :: st) M (kk v)) : jw_Rn G Y h kc ks w lf pc lv stk M (fr.bind kk) :=
  jw_callV (kk := kk) hd ⟨hh, hcy⟩ hl hi hs hn hk hst hcl hCn ht hN hc2 ho hC (fun x hx => by rw [hk1] at hx ⊢; exact k x hx)
theorem jw_callVs {Cn : String} {T : u_T} {N c o : Nat} {fr : Option (Int)} {kk : Int → Option α} (hd : decode (jw_yc Y) pc = .ok (.invokevirtual index, 3)) (hk1 : jw_yr Y2 = 3) (hh : h2 + 1 ≤ h) (hcy : jw_cy Y2 ret y n) (hl : Cond.methodLink (jw_yo Y) index y ∈ jw_tbl) (hi : Cond.instanceMethod y ∈ jw_tbl) (hs : Cond.selects y.cls y y ∈ jw_tbl) (hn : As.length = n) (hk : stk = As.reverse ++ jR G o :: st) (hst : (st.map fun v => v.category).sum ≤ 8) (hcl : vwCl[c]? = some (Cn, T, N)) (hCn : Cn = y.cls) (ht : jw_tag o = c) (hN : jw_len o = N) (hc2 : c < 20) (ho : o < jw_n w M) (hC : jw_Ct G Y2 ret h2 0 0 w (fun v => (v, M)) y (jR G o :: As) M fr)
    (k : ∀ v : Int, (0 ≤ v ∧ v < 7) → jw_Rn G Y h kc ks w lf (pc + 3) lv (jS G v :: st) M (kk v)) : jw_Rn G Y h kc ks w lf pc lv stk M (fr.bind kk) :=
  jw_callV (kk := kk) hd ⟨hh, hcy⟩ hl hi hs hn hk hst hcl hCn ht hN hc2 ho hC (fun x hx => by rw [hk1] at hx ⊢; exact k x hx)
theorem jw_callVM {Cn : String} {T : u_T} {N c o : Nat} {fr : Option (jw_M)} {kk : jw_M → Option α} (hd : decode (jw_yc Y) pc = .ok (.invokevirtual index, 3)) (hk1 : jw_yr Y2 = 0) (hh : h2 + 1 ≤ h) (hcy : jw_cy Y2 ret y n) (hl : Cond.methodLink (jw_yo Y) index y ∈ jw_tbl) (hi : Cond.instanceMethod y ∈ jw_tbl) (hs : Cond.selects y.cls y y ∈ jw_tbl) (hn : As.length = n) (hk : stk = As.reverse ++ jR G o :: st) (hst : (st.map fun v => v.category).sum ≤ 8) (hcl : vwCl[c]? = some (Cn, T, N)) (hCn : Cn = y.cls) (ht : jw_tag o = c) (hN : jw_len o = N) (hc2 : c < 20) (ho : o < jw_n w M) (hC : jw_Ct G Y2 ret h2 0 0 w (fun M1 => (0, M1)) y (jR G o :: As) M fr)
    (k : ∀ M1 : jw_M, jw_Rn G Y h kc ks w lf (pc + 3) lv st M1 (kk M1)) : jw_Rn G Y h kc ks w lf pc lv stk M (fr.bind kk) :=
  jw_callV (kk := kk) hd ⟨hh, hcy⟩ hl hi hs hn hk hst hcl hCn ht hN hc2 ho hC (fun x _ => by rw [hk1]; exact k x)
theorem jw_callVMi {Cn : String} {T : u_T} {N c o : Nat} {fr : Option (Int × jw_M)} {kk : Int → jw_M → Option α} (hd : decode (jw_yc Y) pc = .ok (.invokevirtual index, 3)) (hk1 : jw_yr Y2 = 1) (hh : h2 + 1 ≤ h) (hcy : jw_cy Y2 ret y n) (hl : Cond.methodLink (jw_yo Y) index y ∈ jw_tbl) (hi : Cond.instanceMethod y ∈ jw_tbl) (hs : Cond.selects y.cls y y ∈ jw_tbl) (hn : As.length = n) (hk : stk = As.reverse ++ jR G o :: st) (hst : (st.map fun v => v.category).sum ≤ 8) (hcl : vwCl[c]? = some (Cn, T, N)) (hCn : Cn = y.cls) (ht : jw_tag o = c) (hN : jw_len o = N) (hc2 : c < 20) (ho : o < jw_n w M) (hC : jw_Ct G Y2 ret h2 0 0 w (fun q => q) y (jR G o :: As) M fr)
    (k : ∀ (v : Int) (M1 : jw_M), jw_r v → jw_Rn G Y h kc ks w lf (pc + 3) lv (jI v :: st) M1 (kk v M1)) : jw_Rn G Y h kc ks w lf pc lv stk M (jw_b2 fr kk) :=
  jw_callV (kk := (fun q => kk q.1 q.2)) hd ⟨hh, hcy⟩ hl hi hs hn hk hst hcl hCn ht hN hc2 ho hC (fun x hx => by rw [hk1] at hx ⊢; exact k x.1 x.2 hx)
theorem jw_callVMz {Cn : String} {T : u_T} {N c o : Nat} {fr : Option (Int × jw_M)} {kk : Int → jw_M → Option α} (hd : decode (jw_yc Y) pc = .ok (.invokevirtual index, 3)) (hk1 : jw_yr Y2 = 4) (hh : h2 + 1 ≤ h) (hcy : jw_cy Y2 ret y n) (hl : Cond.methodLink (jw_yo Y) index y ∈ jw_tbl) (hi : Cond.instanceMethod y ∈ jw_tbl) (hs : Cond.selects y.cls y y ∈ jw_tbl) (hn : As.length = n) (hk : stk = As.reverse ++ jR G o :: st) (hst : (st.map fun v => v.category).sum ≤ 8) (hcl : vwCl[c]? = some (Cn, T, N)) (hCn : Cn = y.cls) (ht : jw_tag o = c) (hN : jw_len o = N) (hc2 : c < 20) (ho : o < jw_n w M) (hC : jw_Ct G Y2 ret h2 0 0 w (fun q => q) y (jR G o :: As) M fr)
    (k : ∀ (v : Int) (M1 : jw_M), (v = 0 ∨ v = 1) → jw_Rn G Y h kc ks w lf (pc + 3) lv (jI v :: st) M1 (kk v M1)) : jw_Rn G Y h kc ks w lf pc lv stk M (jw_b2 fr kk) :=
  jw_callV (kk := (fun q => kk q.1 q.2)) hd ⟨hh, hcy⟩ hl hi hs hn hk hst hcl hCn ht hN hc2 ho hC (fun x hx => by rw [hk1] at hx ⊢; exact k x.1 x.2 hx)
theorem jw_callVMl {Cn : String} {T : u_T} {N c o : Nat} {fr : Option (Int × jw_M)} {kk : Int → jw_M → Option α} (hd : decode (jw_yc Y) pc = .ok (.invokevirtual index, 3)) (hk1 : jw_yr Y2 = 2) (hh : h2 + 1 ≤ h) (hcy : jw_cy Y2 ret y n) (hl : Cond.methodLink (jw_yo Y) index y ∈ jw_tbl) (hi : Cond.instanceMethod y ∈ jw_tbl) (hs : Cond.selects y.cls y y ∈ jw_tbl) (hn : As.length = n) (hk : stk = As.reverse ++ jR G o :: st) (hst : (st.map fun v => v.category).sum ≤ 8) (hcl : vwCl[c]? = some (Cn, T, N)) (hCn : Cn = y.cls) (ht : jw_tag o = c) (hN : jw_len o = N) (hc2 : c < 20) (ho : o < jw_n w M) (hC : jw_Ct G Y2 ret h2 0 0 w (fun q => q) y (jR G o :: As) M fr)
    (k : ∀ (v : Int) (M1 : jw_M), jw_q v → jw_Rn G Y h kc ks w lf (pc + 3) lv (jL v :: st) M1 (kk v M1)) : jw_Rn G Y h kc ks w lf pc lv stk M (jw_b2 fr kk) :=
  jw_callV (kk := (fun q => kk q.1 q.2)) hd ⟨hh, hcy⟩ hl hi hs hn hk hst hcl hCn ht hN hc2 ho hC (fun x hx => by rw [hk1] at hx ⊢; exact k x.1 x.2 hx)
theorem jw_callSi {fr : Option (Int)} {kk : Int → Option α} (hd : decode (jw_yc Y) pc = .ok (.invokestatic index, 3)) (hk1 : jw_yr Y2 = 1) (hh : h2 + 1 ≤ h) (hcy : jw_cy Y2 ret y n) (hl : Cond.methodLink (jw_yo Y) index y ∈ jw_tbl) (hi : Cond.static y ∈ jw_tbl) (hn : As.length = n) (hk : stk = As.reverse ++ st) (hst : (st.map fun v => v.category).sum ≤ 8) (hC : jw_Ct G Y2 ret h2 0 0 w (fun v => (v, M)) y (As) M fr)
    (k : ∀ v : Int, jw_r v → jw_Rn G Y h kc ks w lf (pc + 3) lv (jI v :: st) M (kk v)) : jw_Rn G Y h kc ks w lf pc lv stk M (fr.bind kk) :=
  jw_callS (kk := kk) hd ⟨hh, hcy⟩ hl hi hn hk hst hC (fun x hx => by rw [hk1] at hx ⊢; exact k x hx)
theorem jw_callSz {fr : Option (Int)} {kk : Int → Option α} (hd : decode (jw_yc Y) pc = .ok (.invokestatic index, 3)) (hk1 : jw_yr Y2 = 4) (hh : h2 + 1 ≤ h) (hcy : jw_cy Y2 ret y n) (hl : Cond.methodLink (jw_yo Y) index y ∈ jw_tbl) (hi : Cond.static y ∈ jw_tbl) (hn : As.length = n) (hk : stk = As.reverse ++ st) (hst : (st.map fun v => v.category).sum ≤ 8) (hC : jw_Ct G Y2 ret h2 0 0 w (fun v => (v, M)) y (As) M fr)
    (k : ∀ v : Int, (v = 0 ∨ v = 1) → jw_Rn G Y h kc ks w lf (pc + 3) lv (jI v :: st) M (kk v)) : jw_Rn G Y h kc ks w lf pc lv stk M (fr.bind kk) :=
  jw_callS (kk := kk) hd ⟨hh, hcy⟩ hl hi hn hk hst hC (fun x hx => by rw [hk1] at hx ⊢; exact k x hx)
theorem jw_callSl {fr : Option (Int)} {kk : Int → Option α} (hd : decode (jw_yc Y) pc = .ok (.invokestatic index, 3)) (hk1 : jw_yr Y2 = 2) (hh : h2 + 1 ≤ h) (hcy : jw_cy Y2 ret y n) (hl : Cond.methodLink (jw_yo Y) index y ∈ jw_tbl) (hi : Cond.static y ∈ jw_tbl) (hn : As.length = n) (hk : stk = As.reverse ++ st) (hst : (st.map fun v => v.category).sum ≤ 8) (hC : jw_Ct G Y2 ret h2 0 0 w (fun v => (v, M)) y (As) M fr)
    (k : ∀ v : Int, jw_q v → jw_Rn G Y h kc ks w lf (pc + 3) lv (jL v :: st) M (kk v)) : jw_Rn G Y h kc ks w lf pc lv stk M (fr.bind kk) :=
  jw_callS (kk := kk) hd ⟨hh, hcy⟩ hl hi hn hk hst hC (fun x hx => by rw [hk1] at hx ⊢; exact k x hx)
theorem jw_callSs {fr : Option (Int)} {kk : Int → Option α} (hd : decode (jw_yc Y) pc = .ok (.invokestatic index, 3)) (hk1 : jw_yr Y2 = 3) (hh : h2 + 1 ≤ h) (hcy : jw_cy Y2 ret y n) (hl : Cond.methodLink (jw_yo Y) index y ∈ jw_tbl) (hi : Cond.static y ∈ jw_tbl) (hn : As.length = n) (hk : stk = As.reverse ++ st) (hst : (st.map fun v => v.category).sum ≤ 8) (hC : jw_Ct G Y2 ret h2 0 0 w (fun v => (v, M)) y (As) M fr)
    (k : ∀ v : Int, (0 ≤ v ∧ v < 7) → jw_Rn G Y h kc ks w lf (pc + 3) lv (jS G v :: st) M (kk v)) : jw_Rn G Y h kc ks w lf pc lv stk M (fr.bind kk) :=
  jw_callS (kk := kk) hd ⟨hh, hcy⟩ hl hi hn hk hst hC (fun x hx => by rw [hk1] at hx ⊢; exact k x hx)
theorem jw_callSM {fr : Option (jw_M)} {kk : jw_M → Option α} (hd : decode (jw_yc Y) pc = .ok (.invokestatic index, 3)) (hk1 : jw_yr Y2 = 0) (hh : h2 + 1 ≤ h) (hcy : jw_cy Y2 ret y n) (hl : Cond.methodLink (jw_yo Y) index y ∈ jw_tbl) (hi : Cond.static y ∈ jw_tbl) (hn : As.length = n) (hk : stk = As.reverse ++ st) (hst : (st.map fun v => v.category).sum ≤ 8) (hC : jw_Ct G Y2 ret h2 0 0 w (fun M1 => (0, M1)) y (As) M fr)
    (k : ∀ M1 : jw_M, jw_Rn G Y h kc ks w lf (pc + 3) lv st M1 (kk M1)) : jw_Rn G Y h kc ks w lf pc lv stk M (fr.bind kk) :=
  jw_callS (kk := kk) hd ⟨hh, hcy⟩ hl hi hn hk hst hC (fun x _ => by rw [hk1]; exact k x)
theorem jw_callSMi {fr : Option (Int × jw_M)} {kk : Int → jw_M → Option α} (hd : decode (jw_yc Y) pc = .ok (.invokestatic index, 3)) (hk1 : jw_yr Y2 = 1) (hh : h2 + 1 ≤ h) (hcy : jw_cy Y2 ret y n) (hl : Cond.methodLink (jw_yo Y) index y ∈ jw_tbl) (hi : Cond.static y ∈ jw_tbl) (hn : As.length = n) (hk : stk = As.reverse ++ st) (hst : (st.map fun v => v.category).sum ≤ 8) (hC : jw_Ct G Y2 ret h2 0 0 w (fun q => q) y (As) M fr)
    (k : ∀ (v : Int) (M1 : jw_M), jw_r v → jw_Rn G Y h kc ks w lf (pc + 3) lv (jI v :: st) M1 (kk v M1)) : jw_Rn G Y h kc ks w lf pc lv stk M (jw_b2 fr kk) :=
  jw_callS (kk := (fun q => kk q.1 q.2)) hd ⟨hh, hcy⟩ hl hi hn hk hst hC (fun x hx => by rw [hk1] at hx ⊢; exact k x.1 x.2 hx)
theorem jw_callSMz {fr : Option (Int × jw_M)} {kk : Int → jw_M → Option α} (hd : decode (jw_yc Y) pc = .ok (.invokestatic index, 3)) (hk1 : jw_yr Y2 = 4) (hh : h2 + 1 ≤ h) (hcy : jw_cy Y2 ret y n) (hl : Cond.methodLink (jw_yo Y) index y ∈ jw_tbl) (hi : Cond.static y ∈ jw_tbl) (hn : As.length = n) (hk : stk = As.reverse ++ st) (hst : (st.map fun v => v.category).sum ≤ 8) (hC : jw_Ct G Y2 ret h2 0 0 w (fun q => q) y (As) M fr)
    (k : ∀ (v : Int) (M1 : jw_M), (v = 0 ∨ v = 1) → jw_Rn G Y h kc ks w lf (pc + 3) lv (jI v :: st) M1 (kk v M1)) : jw_Rn G Y h kc ks w lf pc lv stk M (jw_b2 fr kk) :=
  jw_callS (kk := (fun q => kk q.1 q.2)) hd ⟨hh, hcy⟩ hl hi hn hk hst hC (fun x hx => by rw [hk1] at hx ⊢; exact k x.1 x.2 hx)
theorem jw_callSMl {fr : Option (Int × jw_M)} {kk : Int → jw_M → Option α} (hd : decode (jw_yc Y) pc = .ok (.invokestatic index, 3)) (hk1 : jw_yr Y2 = 2) (hh : h2 + 1 ≤ h) (hcy : jw_cy Y2 ret y n) (hl : Cond.methodLink (jw_yo Y) index y ∈ jw_tbl) (hi : Cond.static y ∈ jw_tbl) (hn : As.length = n) (hk : stk = As.reverse ++ st) (hst : (st.map fun v => v.category).sum ≤ 8) (hC : jw_Ct G Y2 ret h2 0 0 w (fun q => q) y (As) M fr)
    (k : ∀ (v : Int) (M1 : jw_M), jw_q v → jw_Rn G Y h kc ks w lf (pc + 3) lv (jL v :: st) M1 (kk v M1)) : jw_Rn G Y h kc ks w lf pc lv stk M (jw_b2 fr kk) :=
  jw_callS (kk := (fun q => kk q.1 q.2)) hd ⟨hh, hcy⟩ hl hi hn hk hst hC (fun x hx => by rw [hk1] at hx ⊢; exact k x.1 x.2 hx)
end
def jw_min (a b : Int) : Int := if b < a then b else a
def jw_max (a b : Int) : Int := if a < b then b else a
def jw_abs (a : Int) : Int := if 0 ≤ a then a else jw_v (-a)
theorem jw_minr {a b : Int} (ha : jw_r a) (hb : jw_r b) : jw_r (jw_min a b) := by unfold jw_min; split <;> assumption
theorem jw_maxr {a b : Int} (ha : jw_r a) (hb : jw_r b) : jw_r (jw_max a b) := by unfold jw_max; split <;> assumption
theorem jw_maxq {a b : Int} (ha : jw_q a) (hb : jw_q b) : jw_q (jw_max a b) := by unfold jw_max; split <;> assumption
theorem jw_absq {a : Int} (ha : jw_q a) : jw_q (jw_abs a) := by
  unfold jw_abs
  split
  · assumption
  · exact jw_vr _
section
variable {G : jw_G} {Y : jw_Y} {h kc ks : Nat} {w : Bool} {pc : Nat} {lv : List (Nat × Value)} {st : List Value} {M : jw_M} {α : Type} {lf : α → Int × jw_M} {res : Option α} {index : Nat}
theorem jw_mmin {a b : Int} (hd : decode (jw_yc Y) pc = .ok (.invokestatic index, 3)) (hl : Cond.methodLink (jw_yo Y) index Lib.Math.min.name ∈ jw_tbl) (hs : Cond.static Lib.Math.min.name ∈ jw_tbl) (hi : Cond.initialized "java/lang/Math" ∈ jw_tbl) (hc : Cond.code Lib.Math.min.name Lib.Math.min.code 2 (some .int) ∈ jw_tbl) (hh : 1 ≤ h) (hst : (st.map fun v => v.category).sum ≤ 8) (ha : jw_r a) (hb : jw_r b)
    (k : jw_Rn G Y h kc ks w lf (pc + 3) lv (jI (jw_min a b) :: st) M res) : jw_Rn G Y h kc ks w lf pc lv (jI b :: jI a :: st) M res := by
  refine jw_step (fun p e s m args below meth c R Q cells slots H locs ls C P hl' k => ?_) k
  have hR := C.2.2.2.2.2.2.2.2.2.1
  have hc11 := C.2.2.2.2.2.2.2.2.2.2.1
  have hc12 := C.2.2.2.2.2.2.2.2.2.2.2
  refine va_mmin C.1 C.2.1 (C.2.2.1.trans hl'.1.symm) C.2.2.2.1 (C.2.2.2.2.2.1 _ hl) (C.2.2.2.2.2.1 _ hs) (C.2.2.2.2.2.1 _ hi) (C.2.2.2.2.2.1 _ hc) (by omega) (by omega) (by omega) (by omega) hd ?_
  have e : (if Int32.ofInt b < Int32.ofInt a then Int32.ofInt b else Int32.ofInt a) = Int32.ofInt (jw_min a b) := by
    unfold jw_min
    by_cases h1 : b < a
    · rw [if_pos h1, if_pos ((jw_lt hb ha).mpr h1)]
    · rw [if_neg h1, if_neg (fun z => h1 ((jw_lt hb ha).mp z))]
  rw [e]
  exact k
theorem jw_mmax {a b : Int} (hd : decode (jw_yc Y) pc = .ok (.invokestatic index, 3)) (hl : Cond.methodLink (jw_yo Y) index Lib.Math.max.name ∈ jw_tbl) (hs : Cond.static Lib.Math.max.name ∈ jw_tbl) (hi : Cond.initialized "java/lang/Math" ∈ jw_tbl) (hc : Cond.code Lib.Math.max.name Lib.Math.max.code 2 (some .int) ∈ jw_tbl) (hh : 1 ≤ h) (hst : (st.map fun v => v.category).sum ≤ 8) (ha : jw_r a) (hb : jw_r b)
    (k : jw_Rn G Y h kc ks w lf (pc + 3) lv (jI (jw_max a b) :: st) M res) : jw_Rn G Y h kc ks w lf pc lv (jI b :: jI a :: st) M res := by
  refine jw_step (fun p e s m args below meth c R Q cells slots H locs ls C P hl' k => ?_) k
  have hR := C.2.2.2.2.2.2.2.2.2.1
  have hc11 := C.2.2.2.2.2.2.2.2.2.2.1
  have hc12 := C.2.2.2.2.2.2.2.2.2.2.2
  refine va_mmax C.1 C.2.1 (C.2.2.1.trans hl'.1.symm) C.2.2.2.1 (C.2.2.2.2.2.1 _ hl) (C.2.2.2.2.2.1 _ hs) (C.2.2.2.2.2.1 _ hi) (C.2.2.2.2.2.1 _ hc) (by omega) (by omega) (by omega) (by omega) hd ?_
  have e : (if Int32.ofInt a < Int32.ofInt b then Int32.ofInt b else Int32.ofInt a) = Int32.ofInt (jw_max a b) := by
    unfold jw_max
    by_cases h1 : a < b
    · rw [if_pos h1, if_pos ((jw_lt ha hb).mpr h1)]
    · rw [if_neg h1, if_neg (fun z => h1 ((jw_lt ha hb).mp z))]
  rw [e]
  exact k
theorem jw_mmaxL {a b : Int} (hd : decode (jw_yc Y) pc = .ok (.invokestatic index, 3)) (hl : Cond.methodLink (jw_yo Y) index Lib.MathLoose.max_long.x ∈ jw_tbl) (hs : Cond.static Lib.MathLoose.max_long.x ∈ jw_tbl) (hi : Cond.initialized "java/lang/Math" ∈ jw_tbl) (hc : Cond.code Lib.MathLoose.max_long.x Lib.MathLoose.max_long.code 4 (some .long) ∈ jw_tbl) (hh : 1 ≤ h) (hst : (st.map fun v => v.category).sum ≤ 8) (ha : jw_q a) (hb : jw_q b)
    (k : jw_Rn G Y h kc ks w lf (pc + 3) lv (jL (jw_max a b) :: st) M res) : jw_Rn G Y h kc ks w lf pc lv (jL b :: jL a :: st) M res := by
  refine jw_step (fun p e s m args below meth c R Q cells slots H locs ls C P hl' k => ?_) k
  have hR := C.2.2.2.2.2.2.2.2.2.1
  have hc11 := C.2.2.2.2.2.2.2.2.2.2.1
  have hc12 := C.2.2.2.2.2.2.2.2.2.2.2
  refine va_mmax_long C.1 C.2.1 (C.2.2.1.trans hl'.1.symm) C.2.2.2.1 (C.2.2.2.2.2.1 _ hl) (C.2.2.2.2.2.1 _ hs) (C.2.2.2.2.2.1 _ hi) (C.2.2.2.2.2.1 _ hc) (by omega) (by omega) (by omega) (by omega) hd ?_
  have e : (if Int64.ofInt b < Int64.ofInt a then Int64.ofInt a else Int64.ofInt b) = Int64.ofInt (jw_max a b) := by
    unfold jw_max
    by_cases h1 : b < a
    · rw [if_pos ((jw_ltL hb ha).mpr h1), if_neg (by omega)]
    · rw [if_neg (fun z => h1 ((jw_ltL hb ha).mp z))]
      by_cases h2 : a < b
      · rw [if_pos h2]
      · rw [if_neg h2, show a = b by omega]
  rw [e]
  exact k
theorem jw_mabsL {a : Int} (hd : decode (jw_yc Y) pc = .ok (.invokestatic index, 3)) (hl : Cond.methodLink (jw_yo Y) index Lib.MathLoose.abs_long.x ∈ jw_tbl) (hs : Cond.static Lib.MathLoose.abs_long.x ∈ jw_tbl) (hi : Cond.initialized "java/lang/Math" ∈ jw_tbl) (hc : Cond.code Lib.MathLoose.abs_long.x Lib.MathLoose.abs_long.code 2 (some .long) ∈ jw_tbl) (hh : 1 ≤ h) (hst : (st.map fun v => v.category).sum ≤ 8) (ha : jw_q a)
    (k : jw_Rn G Y h kc ks w lf (pc + 3) lv (jL (jw_abs a) :: st) M res) : jw_Rn G Y h kc ks w lf pc lv (jL a :: st) M res := by
  refine jw_step (fun p e s m args below meth c R Q cells slots H locs ls C P hl' k => ?_) k
  have hR := C.2.2.2.2.2.2.2.2.2.1
  have hc11 := C.2.2.2.2.2.2.2.2.2.2.1
  have hc12 := C.2.2.2.2.2.2.2.2.2.2.2
  refine va_mabs_long C.1 C.2.1 (C.2.2.1.trans hl'.1.symm) C.2.2.2.1 (C.2.2.2.2.2.1 _ hl) (C.2.2.2.2.2.1 _ hs) (C.2.2.2.2.2.1 _ hi) (C.2.2.2.2.2.1 _ hc) (by omega) (by omega) (by omega) (by omega) hd ?_
  have e : (if 0 < Int64.ofInt a then Int64.ofInt a else -Int64.ofInt a) = Int64.ofInt (jw_abs a) := by
    have h0 : (0 : Int64) < Int64.ofInt a ↔ 0 < a := jw_ltL (jw_rq jw_0) ha
    unfold jw_abs
    by_cases h1 : 0 < a
    · rw [if_pos (h0.mpr h1), if_pos (by omega)]
    · rw [if_neg (fun z => h1 (h0.mp z)), jw_negL]
      by_cases h2 : 0 ≤ a
      · rw [if_pos h2, show a = 0 by omega]; rfl
      · rw [if_neg h2]
  rw [e]
  exact k
end
